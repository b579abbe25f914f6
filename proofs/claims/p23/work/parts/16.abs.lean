/-! The state's plain numbers as terms of the years; what they come to rests on what lies in the ranges alone. -/
def shL (pic : Nat → Nat) (sv : Nat → Shr) (k : Nat) : Nat → Nat → Shr
  | 0, _ => (0, 0, 0, 0)
  | n + 1, i => if pic n = k ∧ cnt pic k n = i then sv n else shL pic sv k n i
theorem shL_at {pic : Nat → Nat} {sv : Nat → Shr} {k : Nat} : ∀ n j : Nat, j < n → pic j = k → shL pic sv k n (cnt pic k j) = sv j
  | 0, _, h, _ => absurd h (Nat.not_lt_zero _)
  | n + 1, j, hj, hp => by
    show (if pic n = k ∧ cnt pic k n = cnt pic k j then sv n else shL pic sv k n (cnt pic k j)) = sv j
    by_cases e : j = n
    · subst e
      rw [if_pos ⟨hp, rfl⟩]
    · have h9 : cnt pic k j < cnt pic k n := by
        have h := cnt_mono pic k (i := j + 1) n (by omega)
        rw [cnt_T hp] at h
        omega
      rw [if_neg (fun q => absurd q.2 (by omega))]
      exact shL_at n j (by omega) hp
def lcon (tm : Nat → TM) (rc : Nat → Nat → Nat → Int32) (fe co : Nat → Nat → Int32) (pic : Nat → Nat) (sv : Nat → Shr) (n : Nat) : Nat → PCon := fun k => ((tm k).1, (tm k).2.1, (tm k).2.2, rc k, fe k, co k, shL pic sv k n, cnt pic k n)
def AgrL (c d : PCon) : Prop := c.1 = d.1 ∧ c.2.1 = d.2.1 ∧ c.2.2.1 = d.2.2.1 ∧ (∀ y w, y < 10 → w < 4 → c.2.2.2.1 y w = d.2.2.2.1 y w) ∧ (∀ w, w < 4 → c.2.2.2.2.1 w = d.2.2.2.2.1 w) ∧ (∀ y, y < 10 → c.2.2.2.2.2.1 y = d.2.2.2.2.2.1 y) ∧ c.2.2.2.2.2.2.2 = d.2.2.2.2.2.2.2 ∧ ∀ i, i < c.2.2.2.2.2.2.2 → c.2.2.2.2.2.2.1 i = d.2.2.2.2.2.2.1 i
theorem costN_cong {a g : Int64} {sh sh' : Nat → Shr} : ∀ n : Nat, (∀ i, i < n → sh i = sh' i) → costN a g sh n = costN a g sh' n
  | 0, _ => rfl
  | n + 1, h => by
    show costS a g (sh n) (costN a g sh n) = costS a g (sh' n) (costN a g sh' n)
    rw [h n (Nat.lt_succ_self n), costN_cong n (fun i hi => h i (Nat.lt_succ_of_lt hi))]
theorem leftN_cong {pf : Int64} {sh sh' : Nat → Shr} : ∀ n : Nat, (∀ i, i < n → sh i = sh' i) → leftN pf sh n = leftN pf sh' n
  | 0, _ => rfl
  | n + 1, h => by
    show leftS (sh n) (leftN pf sh n) = leftS (sh' n) (leftN pf sh' n)
    rw [h n (Nat.lt_succ_self n), leftN_cong n (fun i hi => h i (Nat.lt_succ_of_lt hi))]
theorem netN_cong {sh sh' : Nat → Shr} : ∀ n : Nat, (∀ i, i < n → sh i = sh' i) → netN sh n = netN sh' n
  | 0, _ => rfl
  | n + 1, h => by
    show netS (sh n) (netN sh n) = netS (sh' n) (netN sh' n)
    rw [h n (Nat.lt_succ_self n), netN_cong n (fun i hi => h i (Nat.lt_succ_of_lt hi))]
theorem yRec_congL {c d : PCon} (h : AgrL c d) {y : Nat} (hy : y < 10) (B : BK) : yRec c y B = yRec d y B ∧ yGain c y B = yGain d y B := by
  obtain ⟨h1, h2, h3, h4, h5, h6, h7, h8⟩ := h
  have hg : grossY (c.2.2.2.1 y) = grossY (d.2.2.2.1 y) := by
    unfold grossY
    rw [h4 y 0 hy (by decide), h4 y 1 hy (by decide), h4 y 2 hy (by decide), h4 y 3 hy (by decide)]
  have hf : feesY (c.2.2.2.1 y) c.2.2.2.2.1 = feesY (d.2.2.2.1 y) d.2.2.2.2.1 := by
    unfold feesY
    rw [h4 y 0 hy (by decide), h4 y 1 hy (by decide), h4 y 2 hy (by decide), h4 y 3 hy (by decide), h5 0 (by decide), h5 1 (by decide), h5 2 (by decide), h5 3 (by decide)]
  have hs : ∀ a g : Int64, costN a g c.2.2.2.2.2.2.1 c.2.2.2.2.2.2.2 = costN a g d.2.2.2.2.2.2.1 d.2.2.2.2.2.2.2 := fun a g => (costN_cong _ h8).trans (congrArg (costN a g d.2.2.2.2.2.2.1) h7)
  unfold yRec yGain recB recG recX recS adY
  rw [hg, hf, h1, h2, h6 y hy, hs]
  exact ⟨rfl, rfl⟩
theorem mvS_congL {g : Int64} {f t k : Nat} {S S' : Nat → BK} (hf : S f = S' f) (ht : S t = S' t) (hk : S k = S' k) : mvS g f t S k = mvS g f t S' k := by
  unfold mvS
  rw [hf, ht, hk]
theorem yRun_congL {cr : Int32} {c d : Nat → PCon} (h : ∀ k, k < 2 → AgrL (c k) (d k)) : ∀ y, y ≤ 10 → ∀ k, k < 2 → yRun cr c y k = yRun cr d y k
  | 0, _, k, _ => rfl
  | y + 1, hy, k, hk => by
    have ih := yRun_congL (cr := cr) h y (Nat.le_of_succ_le hy)
    have hy2 : y < 10 := hy
    have er : ∀ k, k < 2 → yRec (c k) y (yRun cr c y k) = yRec (d k) y (yRun cr d y k) := fun k hk => by rw [(yRec_congL (h k hk) hy2 _).1, ih k hk]
    have eg : ∀ k, k < 2 → yGain (c k) y (yRun cr c y k) = yGain (d k) y (yRun cr d y k) := fun k hk => by rw [(yRec_congL (h k hk) hy2 _).2, ih k hk]
    show yStep cr c y (yRun cr c y) k = yStep cr d y (yRun cr d y) k
    unfold yStep
    rw [(h k hk).2.2.1, eg 0 (by decide), eg 1 (by decide), er k hk]
    by_cases hc : cr = 0
    · rw [if_pos hc, if_pos hc]
    · rw [if_neg hc, if_neg hc]
      have m1 : ∀ k, k < 2 → mvS (yGain (d 0) y (yRun cr d y 0)) 0 1 (fun k => yRec (c k) y (yRun cr c y k)) k = mvS (yGain (d 0) y (yRun cr d y 0)) 0 1 (fun k => yRec (d k) y (yRun cr d y k)) k := fun k hk => mvS_congL (er 0 (by decide)) (er 1 (by decide)) (er k hk)
      rw [mvS_congL (m1 1 (by decide)) (m1 0 (by decide)) (m1 k hk)]
/-- a sharer's sum, by plain numbers -/
def sumL (tm : Nat → TM) (rc : Nat → Nat → Nat → Int32) (fe co : Nat → Nat → Int32) (cr : Int32) (pic : Nat → Nat) (sv : Nat → Shr) (n now j : Nat) : Int64 :=
  sumF (yRun cr (lcon tm rc fe co pic sv n) (now + 1) (pic j)).2.1 (yRun cr (lcon tm rc fe co pic sv n) (now + 1) (pic j)).1 (yRun cr (lcon tm rc fe co pic sv n) (now + 1) (pic j)).2.2.2.2.2 (sv j) (shL pic sv (pic j) n) (cnt pic (pic j) n) (cnt pic (pic j) j)
abbrev JK (L : List Nat) (K : Nat → Nat) (J J' : Nat → Nat → Int64) : Prop := ∀ a, a ∈ L → 1600 ≤ K a → J' a = J a
/-- what a reading call answers and leaves -/
abbrev RD (L : List Nat) (K : Nat → Nat) (I : Nat → Nat → Int32) (J : Nat → Nat → Int64) (v : Int32) : Option Value → (Nat → Nat → Int32) → (Nat → Nat → Int64) → Prop := fun r I' J' => r = some (.int v) ∧ I' = I ∧ JK L K J J'
section AB
variable {l : Launch} {D : va_G} {z : Nat}
variable {L : List Nat} {K N : Nat → Nat} {I : Nat → Nat → Int32} {J : Nat → Nat → Int64} {R : Nat → Nat → Option Nat}
variable {e0 x now n : Nat} {pic : Nat → Nat} {tm : Nat → TM} {rc : Nat → Nat → Nat → Int32} {fe co : Nat → Nat → Int32} {cr : Int32} {sv : Nat → Shr} {pd : Nat → Int32}
theorem crel_agr (C : CRel e0 L K N I J R x now n pic tm rc fe co cr sv pd) {k : Nat} (hk : k < 2) : AgrL (pcon I R (dr R x k) (cnt pic k n)) (lcon tm rc fe co pic sv n k) := by
  obtain ⟨c1, c2, c3, c4, c5, c6⟩ := C
  obtain ⟨a1, a2, a3, a4⟩ := c3 k hk
  refine ⟨congrArg (fun t => t.1) a1, congrArg (fun t => t.2.1) a1, congrArg (fun t => t.2.2) a1, a2, a3, a4, rfl, fun i hi => ?_⟩
  obtain ⟨j, hj, hp, hcj⟩ := cnt_ex pic k n hi
  obtain ⟨g1, g2, g3, g4, g5, g6, g7⟩ := c4 j hj
  subst hp
  subst hcj
  show shV I (shA R (dr R (dr R x (pic j)) 3) (cnt pic (pic j) j)) = shL pic sv (pic j) n (cnt pic (pic j) j)
  rw [g5, g6, shL_at n j hj rfl]
theorem crel_z (C : CRel e0 L K N I J R x now n pic tm rc fe co cr sv pd) {y k : Nat} (hy : y ≤ 10) (hk : k < 2) : yRun (I x 3) (fun k => pcon I R (dr R x k) (cnt pic k n)) y k = yRun cr (lcon tm rc fe co pic sv n) y k := by
  rw [C.2.1]
  exact yRun_congL (fun k hk => crel_agr C hk) y hy k hk
theorem crel_now (C : CRel e0 L K N I J R x now n pic tm rc fe co cr sv pd) : now < 10 := C.1.2.2.2.2.2.1
theorem crel_n8 (C : CRel e0 L K N I J R x now n pic tm rc fe co cr sv pd) : n ≤ 8 := C.1.2.2.2.1.2.2.2.1
theorem crel_sh (C : CRel e0 L K N I J R x now n pic tm rc fe co cr sv pd) {j : Nat} (hj : j < n) (hkd : (sv j).1 = 0 ∨ (sv j).1 = 1 ∨ (sv j).1 = 2 ∨ (sv j).1 = 3) : ShOk L K N I R x (fun k => cnt pic k n) (shA R (dr R x 2) j) (pic j) (cnt pic (pic j) j) := by
  obtain ⟨c1, c2, c3, c4, c5, c6⟩ := C
  obtain ⟨g1, g2, g3, g4, g5, g6, g7⟩ := c4 j hj
  refine ⟨by rw [g2.2.1]; exact g2, by rw [g2.2.1]; omega, by rw [g2.2.1]; omega, g1, g3, g4, cnt_mono pic (pic j) n (Nat.le_of_lt hj), fun h0 h1 h2 => ?_⟩
  have e : (sv j).1 = I (shA R (dr R x 2) j) 2 := by rw [← g6]; rfl
  rw [e] at hkd
  rcases hkd with h | h | h | h
  · exact absurd h h0
  · exact absurd h h1
  · exact absurd h h2
  · rw [h]
    decide
theorem crel_sum (C : CRel e0 L K N I J R x now n pic tm rc fe co cr sv pd) {j : Nat} (hj : j < n) :
    sumF (yRun (I x 3) (fun k => pcon I R (dr R x k) (cnt pic k n)) (now + 1) (pic j)).2.1 (yRun (I x 3) (fun k => pcon I R (dr R x k) (cnt pic k n)) (now + 1) (pic j)).1 (yRun (I x 3) (fun k => pcon I R (dr R x k) (cnt pic k n)) (now + 1) (pic j)).2.2.2.2.2 (shV I (shA R (dr R x 2) j)) (fun i => shV I (shA R (dr R (dr R x (pic j)) 3) i)) (cnt pic (pic j) n) (cnt pic (pic j) j) = sumL tm rc fe co cr pic sv n now j := by
  have hn := crel_now C
  have hA := C.2.2.2.1 j hj
  obtain ⟨g1, g2, g3, g4, g5, g6, g7⟩ := hA
  have hs := (crel_agr C g1).2.2.2.2.2.2.2
  have hs1 : ∀ i, i < cnt pic (pic j) n → (fun i => shV I (shA R (dr R (dr R x (pic j)) 3) i)) i = shL pic sv (pic j) n i := hs
  rw [crel_z C (show now + 1 ≤ 10 by omega) g1, g6]
  unfold sumL sumF
  rw [leftN_cong (cnt pic (pic j) n) hs1, leftN_cong (cnt pic (pic j) j) (fun i hi => hs1 i (Nat.lt_of_lt_of_le hi (cnt_mono pic (pic j) n (Nat.le_of_lt hj))))]
theorem a_year (C : CRel e0 L K N I J R x now n pic tm rc fe co cr sv pd) : MG l yX2_year wsX2_year rm_X2_year D z e0 L K N I J R [.ref x] (RD L K I J (nI now)) :=
  (c_year l D z e0 L K N I J R x now n (fun k => cnt pic k n) C.1).mono (fun v I' J' h => ⟨h.1, h.2.1, by rw [h.2.2]; exact fun _ _ _ => rfl⟩)
theorem a_gross (C : CRel e0 L K N I J R x now n pic tm rc fe co cr sv pd) {k : Nat} (hk : k < 2) {v : Int32} (hv : Int64.toInt32 (yRun cr (lcon tm rc fe co pic sv n) (now + 1) k).1 = v) : MG l yX2_gross wsX2_gross rm_X2_gross D z e0 L K N I J R [.ref x, .int (nI k)] (RD L K I J v) :=
  (c_gross l D z e0 L K N I J R x now n (fun k => cnt pic k n) C.1 k hk).mono (fun v' I' J' h => ⟨h.1.trans (by rw [crel_z C (crel_now C) hk, hv]), h.2.1, bm_keep C h.2.2⟩)
theorem a_adjusted (C : CRel e0 L K N I J R x now n pic tm rc fe co cr sv pd) {k : Nat} (hk : k < 2) {v : Int32} (hv : Int64.toInt32 (yRun cr (lcon tm rc fe co pic sv n) (now + 1) k).2.1 = v) : MG l yX2_adjusted wsX2_adjusted rm_X2_adjusted D z e0 L K N I J R [.ref x, .int (nI k)] (RD L K I J v) :=
  (c_adjusted l D z e0 L K N I J R x now n (fun k => cnt pic k n) C.1 k hk).mono (fun v' I' J' h => ⟨h.1.trans (by rw [crel_z C (crel_now C) hk, hv]), h.2.1, bm_keep C h.2.2⟩)
theorem a_fees (C : CRel e0 L K N I J R x now n pic tm rc fe co cr sv pd) {k : Nat} (hk : k < 2) {v : Int32} (hv : Int64.toInt32 (yRun cr (lcon tm rc fe co pic sv n) (now + 1) k).2.2.1 = v) : MG l yX2_fees wsX2_fees rm_X2_fees D z e0 L K N I J R [.ref x, .int (nI k)] (RD L K I J v) :=
  (c_fees l D z e0 L K N I J R x now n (fun k => cnt pic k n) C.1 k hk).mono (fun v' I' J' h => ⟨h.1.trans (by rw [crel_z C (crel_now C) hk, hv]), h.2.1, bm_keep C h.2.2⟩)
theorem a_balance (C : CRel e0 L K N I J R x now n pic tm rc fe co cr sv pd) {k y : Nat} (hk : k < 2) (hy : y ≤ now) {v : Int32} (hv : Int64.toInt32 (yRun cr (lcon tm rc fe co pic sv n) (y + 1) k).2.2.2.2.1 = v) : MG l yX2_balance wsX2_balance rm_X2_balance D z e0 L K N I J R [.ref x, .int (nI k), .int (nI y)] (RD L K I J v) :=
  (c_balance l D z e0 L K N I J R x now n (fun k => cnt pic k n) C.1 k hk y hy).mono (fun v' I' J' h => ⟨h.1.trans (by rw [crel_z C (show y + 1 ≤ 10 by have := crel_now C; omega) hk, hv]), h.2.1, bm_keep C h.2.2⟩)
theorem a_profit (C : CRel e0 L K N I J R x now n pic tm rc fe co cr sv pd) {k y : Nat} (hk : k < 2) (hy : y ≤ now) {v : Int32} (hv : Int64.toInt32 (yRun cr (lcon tm rc fe co pic sv n) (y + 1) k).2.2.2.2.2 = v) : MG l yX2_profit wsX2_profit rm_X2_profit D z e0 L K N I J R [.ref x, .int (nI k), .int (nI y)] (RD L K I J v) :=
  (c_profit l D z e0 L K N I J R x now n (fun k => cnt pic k n) C.1 k hk y hy).mono (fun v' I' J' h => ⟨h.1.trans (by rw [crel_z C (show y + 1 ≤ 10 by have := crel_now C; omega) hk, hv]), h.2.1, bm_keep C h.2.2⟩)
theorem a_pool (C : CRel e0 L K N I J R x now n pic tm rc fe co cr sv pd) {k : Nat} (hk : k < 2) {v : Int32} (hv : Int64.toInt32 (leftN (yRun cr (lcon tm rc fe co pic sv n) (now + 1) k).2.2.2.2.2 (shL pic sv k n) (cnt pic k n)) = v) : MG l yX2_pool wsX2_pool rm_X2_pool D z e0 L K N I J R [.ref x, .int (nI k)] (RD L K I J v) :=
  (c_poolP l D z e0 L K N I J R x now n (fun k => cnt pic k n) C.1 k hk).mono (fun v' I' J' h => ⟨h.1.trans (by
    have hs1 : ∀ i, i < cnt pic k n → (fun i => shV I (shA R (dr R (dr R x k) 3) i)) i = shL pic sv k n i := (crel_agr C hk).2.2.2.2.2.2.2
    rw [crel_z C (crel_now C) hk, leftN_cong (cnt pic k n) hs1, hv]), h.2.1, bm_keep C h.2.2⟩)
theorem a_sum (C : CRel e0 L K N I J R x now n pic tm rc fe co cr sv pd) {j : Nat} (hj : j < n) (hkd : (sv j).1 = 0 ∨ (sv j).1 = 1 ∨ (sv j).1 = 2 ∨ (sv j).1 = 3) {v : Int32} (hv : Int64.toInt32 (sumL tm rc fe co cr pic sv n now j) = v) : MG l yX2_sum wsX2_sum rm_X2_sum D z e0 L K N I J R [.ref x, .int (nI j)] (RD L K I J v) :=
  (c_sum l D z e0 L K N I J R x now n (fun k => cnt pic k n) C.1 j _ (pic j) (cnt pic (pic j) j) hj rfl (crel_sh C hj hkd)).mono (fun v' I' J' h => ⟨h.1.trans (by rw [crel_sum C hj, hv]), h.2.1, bm_keep C h.2.2⟩)
theorem a_owed (C : CRel e0 L K N I J R x now n pic tm rc fe co cr sv pd) {j : Nat} (hj : j < n) (hkd : (sv j).1 = 0 ∨ (sv j).1 = 1 ∨ (sv j).1 = 2 ∨ (sv j).1 = 3) {v : Int32} (hv : Int64.toInt32 (sumL tm rc fe co cr pic sv n now j) - pd j = v) : MG l yX2_owed wsX2_owed rm_X2_owed D z e0 L K N I J R [.ref x, .int (nI j)] (RD L K I J v) :=
  (c_owed l D z e0 L K N I J R x now n (fun k => cnt pic k n) C.1 j _ (pic j) (cnt pic (pic j) j) hj rfl (crel_sh C hj hkd)).mono (fun v' I' J' h => ⟨h.1.trans (by rw [crel_sum C hj, (C.2.2.2.1 j hj).2.2.2.2.2.2, Int64.toInt32_sub, Int32.toInt32_toInt64, hv]), h.2.1, bm_keep C h.2.2⟩)
theorem a_paid (C : CRel e0 L K N I J R x now n pic tm rc fe co cr sv pd) {j : Nat} (hj : j < n) (hkd : (sv j).1 = 0 ∨ (sv j).1 = 1 ∨ (sv j).1 = 2 ∨ (sv j).1 = 3) : MG l yX2_paid wsX2_paid rm_X2_paid D z e0 L K N I J R [.ref x, .int (nI j)] (RD L K I J (pd j)) :=
  (c_paid l D z e0 L K N I J R x now n (fun k => cnt pic k n) C.1 j _ (pic j) (cnt pic (pic j) j) hj rfl (crel_sh C hj hkd)).mono (fun v' I' J' h => ⟨h.1.trans (by rw [(C.2.2.2.1 j hj).2.2.2.2.2.2, Int32.toInt32_toInt64]), h.2.1, by rw [h.2.2]; exact fun _ _ _ => rfl⟩)
theorem a_pay (C : CRel e0 L K N I J R x now n pic tm rc fe co cr sv pd) {j : Nat} (hj : j < n) (hkd : (sv j).1 = 0 ∨ (sv j).1 = 1 ∨ (sv j).1 = 2 ∨ (sv j).1 = 3) {v w : Int32} (hdue : 0 < sumL tm rc fe co cr pic sv n now j - (pd j).toInt64) (hv : Int64.toInt32 (sumL tm rc fe co cr pic sv n now j) - pd j = v) (hw : sumL tm rc fe co cr pic sv n now j = w.toInt64) :
    MG l yX2_pay wsX2_pay rm_X2_pay D z e0 L K N I J R [.ref x, .int (nI j)] (fun r I' J' => r = some (.int v) ∧ I' = I ∧ CRel e0 L K N I J' R x now n pic tm rc fe co cr sv (fun a => if a = j then w else pd a)) := by
  have e6 := (C.2.2.2.1 j hj).2.2.2.2.2.2
  have es := crel_sum C hj
  refine (c_pay l D z e0 L K N I J R x now n (fun k => cnt pic k n) C.1 j _ (pic j) (cnt pic (pic j) j) hj rfl (crel_sh C hj hkd) (by rw [es, e6]; exact hdue)).mono (fun v' I' J' h => ?_)
  obtain ⟨h1, h2, J9, h3, h4⟩ := h
  rw [es, e6] at h1 h4
  refine ⟨h1.trans (by rw [Int64.toInt32_sub, Int32.toInt32_toInt64, hv]), h2, ?_⟩
  have hk9 := bm_keep C h3
  have hs := (C.2.2.2.1 j hj).2.1
  refine C.paid hj ?_ (fun i hi hij => ?_)
  · rw [h4, u2_s, hw, Int64.add_comm, Int64.sub_add_cancel]
  · have hi2 := (C.2.2.2.1 i hi).2.1
    rw [h4, u2_a (hi2.ne hs (by omega)), hk9 _ hi2.1 (by rw [hi2.2.1]; omega)]
end AB
