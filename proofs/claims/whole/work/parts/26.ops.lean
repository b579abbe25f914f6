/-! The law's steps that write. -/
section WC
variable {L : List Nat} {K N : Nat → Nat} {I : Nat → Nat → Int32} {J : Nat → Nat → Int64} {R : Nat → Nat → Option Nat} {e0 x m ou st now n : Nat} {pic : Nat → Nat} {tm : Nat → TM} {rc : Nat → Nat → Nat → Int32} {fe co : Nat → Nat → Int32} {cr : Int32} {sv : Nat → Shr} {pd : Nat → Int32}
theorem a32 {a b : Int32} (h1 : -2147483648 ≤ a.toInt + b.toInt) (h2 : a.toInt + b.toInt < 2147483648) : (a + b).toInt = a.toInt + b.toInt := by
  rw [Int32.toInt_add]
  exact Int.bmod_eq_of_le (by omega) (by omega)
theorem s32 {a b : Int32} (h1 : -2147483648 ≤ a.toInt - b.toInt) (h2 : a.toInt - b.toInt < 2147483648) : (a - b).toInt = a.toInt - b.toInt := by
  rw [Int32.toInt_sub]
  exact Int.bmod_eq_of_le (by omega) (by omega)
theorem rng32 {lo hi t : Int32} (h : lo ≤ t ∧ t ≤ hi) : lo.toInt ≤ t.toInt ∧ t.toInt ≤ hi.toInt := ⟨Int32.le_iff_toInt_le.mp h.1, Int32.le_iff_toInt_le.mp h.2⟩
theorem rat_of {t : Int32} (h : 0 ≤ t ∧ t ≤ 10000) : Rat t := rng32 h
theorem rat_of2 {t : Int32} (h : 0 ≤ t ∧ t ≤ 2000) : Rat t := by
  have h2 := rng32 h
  have e : (2000 : Int32).toInt = 2000 := rfl
  have e0 : (0 : Int32).toInt = 0 := rfl
  unfold Rat
  omega
theorem rowI_upd {f g : Nat → Int32} {w : Nat} {t : Int32} (hw : w < 4) (hg : ∀ c, g c = if c = w then t else f c) : rowI g = rowI f - (f w).toInt + t.toInt := by
  unfold rowI
  rcases (show w = 0 ∨ w = 1 ∨ w = 2 ∨ w = 3 by omega) with rfl | rfl | rfl | rfl <;> simp only [hg] <;> simp <;> omega
theorem sumI_upd {f g : Nat → Nat → Int32} {y w : Nat} {t : Int32} (hw : w < 4) (hg : ∀ b c, g b c = if b = y ∧ c = w then t else f b c) : ∀ n, sumI g n = sumI f n + if y < n then t.toInt - (f y w).toInt else 0
  | 0 => by rw [if_neg (Nat.not_lt_zero y)]; rfl
  | n + 1 => by
    have ih := sumI_upd hw hg n
    show sumI g n + rowI (g n) = sumI f n + rowI (f n) + _
    by_cases e : n = y
    · subst e
      have hg2 : ∀ c, g n c = if c = w then t else f n c := fun c => by
        rw [hg]
        by_cases h : c = w
        · rw [if_pos ⟨rfl, h⟩, if_pos h]
        · rw [if_neg (fun q => h q.2), if_neg h]
      rw [ih, if_neg (Nat.lt_irrefl n), if_pos (Nat.lt_succ_self n), rowI_upd (f := f n) hw hg2]
      omega
    · have er : rowI (g n) = rowI (f n) := by
        unfold rowI
        rw [hg, hg, hg, hg, if_neg (fun q => e q.1), if_neg (fun q => e q.1), if_neg (fun q => e q.1), if_neg (fun q => e q.1)]
      rw [ih, er]
      by_cases h : y < n
      · rw [if_pos h, if_pos (by omega)]
        omega
      · rw [if_neg h, if_neg (by omega)]
        omega
theorem el_le {f : Nat → Nat → Int32} (h : ∀ y w, y < 10 → w < 4 → 0 ≤ (f y w).toInt) {y w : Nat} (hy : y < 10) (hw : w < 4) : (f y w).toInt ≤ sumI f 10 := by
  have h0 := sumI_nn h y (by omega)
  have h1 := sumI_mono h (y + 1) 10 (by omega) (Nat.le_refl _)
  have e : sumI f (y + 1) = sumI f y + rowI (f y) := rfl
  have a0 := h y 0 hy (by decide)
  have a1 := h y 1 hy (by decide)
  have a2 := h y 2 hy (by decide)
  have a3 := h y 3 hy (by decide)
  have er : rowI (f y) = (f y 0).toInt + (f y 1).toInt + (f y 2).toInt + (f y 3).toInt := rfl
  rcases (show w = 0 ∨ w = 1 ∨ w = 2 ∨ w = 3 by omega) with rfl | rfl | rfl | rfl <;> omega
theorem Val.rates (h : Val now n pic tm rc fe co cr sv pd st) {k : Nat} {t ov i : Int32} (h1 : Rat t) (h2 : Rat ov) (h3 : Rat i) : Val now n pic (fun a => if a = k then (t, ov, i) else tm a) rc fe co cr sv pd (st + 1) := by
  obtain ⟨v1, v2, v3, v4, v5, v6, v7, v8, v9⟩ := h.up
  refine ⟨v1, v2, v3, fun a ha => ?_, v5, v6, v7, v8, v9⟩
  by_cases e : a = k
  · show Rat (if a = k then (t, ov, i) else tm a).1 ∧ Rat (if a = k then (t, ov, i) else tm a).2.1 ∧ Rat (if a = k then (t, ov, i) else tm a).2.2
    rw [if_pos e]
    exact ⟨h1, h2, h3⟩
  · show Rat (if a = k then (t, ov, i) else tm a).1 ∧ Rat (if a = k then (t, ov, i) else tm a).2.1 ∧ Rat (if a = k then (t, ov, i) else tm a).2.2
    rw [if_neg e]
    exact v4 a ha
theorem Val.fee (h : Val now n pic tm rc fe co cr sv pd st) {k w : Nat} {t : Int32} (h1 : Rat t) : Val now n pic tm rc (fun a b => if a = k ∧ b = w then t else fe a b) co cr sv pd (st + 1) := by
  obtain ⟨v1, v2, v3, v4, v5, v6, v7, v8, v9⟩ := h.up
  refine ⟨v1, v2, v3, v4, fun a b ha hb => ?_, v6, v7, v8, v9⟩
  show Rat (if a = k ∧ b = w then t else fe a b)
  split
  · exact h1
  · exact v5 a b ha hb
theorem Val.row (h : Val now n pic tm rc fe co cr sv pd st) {k y w : Nat} {t : Int32} (hk : k < 2) (hy : y < 10) (hw : w < 4) (h0 : 0 ≤ t.toInt) (h1 : t.toInt ≤ (rc k y w).toInt + 1000000) : Val now n pic tm (fun a b c => if a = k ∧ b = y ∧ c = w then t else rc a b c) fe co cr sv pd (st + 1) := by
  have h6 := h.2.2.2.2.2.1
  obtain ⟨v1, v2, v3, v4, v5, v6, v7, v8, v9⟩ := h.up
  refine ⟨v1, v2, v3, v4, v5, fun a ha => ⟨fun b c hb hc => ?_, ?_⟩, v7, v8, v9⟩
  · show 0 ≤ (if a = k ∧ b = y ∧ c = w then t else rc a b c).toInt
    split
    · exact h0
    · exact (v6 a ha).1 b c hb hc
  · by_cases e : a = k
    · subst e
      have e2 := sumI_upd (f := rc a) (g := fun b c => if a = a ∧ b = y ∧ c = w then t else rc a b c) (y := y) (w := w) (t := t) hw (fun b c => by
        by_cases q : b = y ∧ c = w
        · rw [if_pos ⟨rfl, q⟩, if_pos q]
        · rw [if_neg (fun z => q z.2), if_neg q]) 10
      have h7 := (h6 a ha).2
      show sumI (fun b c => if a = a ∧ b = y ∧ c = w then t else rc a b c) 10 ≤ _
      rw [e2, if_pos hy]
      omega
    · have e2 : (fun b c => if a = k ∧ b = y ∧ c = w then t else rc a b c) = rc a := funext fun b => funext fun c => if_neg (fun q => e q.1)
      show sumI (fun b c => if a = k ∧ b = y ∧ c = w then t else rc a b c) 10 ≤ _
      rw [e2]
      exact (v6 a ha).2
theorem Val.cost (h : Val now n pic tm rc fe co cr sv pd st) {k y : Nat} {t : Int32} (h0 : 0 ≤ t.toInt) (h1 : t.toInt ≤ 200000 * ((st + 1 : Nat) : Int)) : Val now n pic tm rc fe (fun a b => if a = k ∧ b = y then t else co a b) cr sv pd (st + 1) := by
  obtain ⟨v1, v2, v3, v4, v5, v6, v7, v8, v9⟩ := h.up
  refine ⟨v1, v2, v3, v4, v5, v6, fun a b ha hb => ?_, v8, v9⟩
  show 0 ≤ (if a = k ∧ b = y then t else co a b).toInt ∧ (if a = k ∧ b = y then t else co a b).toInt ≤ _
  split
  · exact ⟨h0, h1⟩
  · exact v7 a b ha hb
theorem Val.paid (h : Val now n pic tm rc fe co cr sv pd st) {j : Nat} {v : Int32} (h0 : 0 ≤ v.toInt) : Val now n pic tm rc fe co cr sv (fun a => if a = j then v else pd a) (st + 1) := by
  obtain ⟨v1, v2, v3, v4, v5, v6, v7, v8, v9⟩ := h.up
  refine ⟨v1, v2, v3, v4, v5, v6, v7, v8, fun i hi => ?_⟩
  show 0 ≤ (if i = j then v else pd i).toInt
  split
  · exact h0
  · exact v9 i hi
theorem Val.crossed (h : Val now n pic tm rc fe co cr sv pd st) {t : Int32} (ht : t = 0 ∨ t = 1) : Val now n pic tm rc fe co t sv pd (st + 1) := by
  obtain ⟨v1, v2, v3, v4, v5, v6, v7, v8, v9⟩ := h.up
  exact ⟨v1, v2, ht, v4, v5, v6, v7, v8, v9⟩
theorem Val.close (h : Val now n pic tm rc fe co cr sv pd st) (h9 : now < 9) : Val (now + 1) n pic tm rc fe co cr sv pd (st + 1) := by
  obtain ⟨v1, v2, v3, v4, v5, v6, v7, v8, v9⟩ := h.up
  exact ⟨by omega, v2, v3, v4, v5, v6, v7, v8, v9⟩
/-- the reference's side stays where one cell of the class is written -/
theorem MRel.at1 {I' : Nat → Nat → Int32} {a t n0 : Nat} (h : MRel L K N I R m now n pic tm rc fe co cr sv pd) (ha : At L K N a t n0) (hw : ∀ b, b ≠ a → I' b = I b) (ht : t ≠ 52 ∧ (t < 965 ∨ 1300 ≤ t)) : MRel L K N I' R m now n pic tm rc fe co cr sv pd :=
  h.ext (J := fun _ _ => 0) (J' := fun _ _ => 0) (P := fun b => b = a) (fun b hb => ⟨hb, rfl, rfl, fun hn => ⟨hw b hn, rfl, rfl⟩⟩) (fun b hb hk e => by rw [e, ha.2.1] at hk; omega)
/-- the class's side stays where the reference is written -/
theorem CRel.at1 {I' : Nat → Nat → Int32} {J' : Nat → Nat → Int64} {a t n0 : Nat} (h : CRel e0 L K N I J R x now n pic tm rc fe co cr sv pd) (ha : At L K N a t n0) (hm : At L K N m 52 0) (hw : ∀ b, b ≠ a → b ≠ m → I' b = I b) (ht : t = 52 ∨ 965 ≤ t ∧ t < 1300) (hJ : ∀ b, b ∈ L → 1600 ≤ K b → J' b = J b) : CRel e0 L K N I' J' R x now n pic tm rc fe co cr sv pd :=
  (h.ext (I' := I') (J' := J) (P := fun b => b = a ∨ b = m) (fun b hb => ⟨hb, rfl, rfl, fun hn => ⟨hw b (fun e => hn (Or.inl e)) (fun e => hn (Or.inr e)), rfl, rfl⟩⟩) (fun b hb hk h52 h70 e => e.elim (fun e => by rw [e, ha.2.1] at hk; rw [e, ha.2.1] at h52; omega) (fun e => by rw [e, hm.2.1] at h52; omega))).j hJ
theorem mc_of {sh : Nat → Nat → Shr} (M : MRel L K N I R m now n pic tm rc fe co cr sv pd) (V : Val now n pic tm rc fe co cr sv pd st) (hsh : ∀ j, j < n → sh (pic j) (cnt pic (pic j) j) = sv j) : MC L K N I R m now n pic sh := by
  obtain ⟨m1, m2, m3, m4, m5, m6, m7⟩ := M
  obtain ⟨v1, v2, v3, v4, v5, v6, v7, v8, v9⟩ := V
  refine ⟨m1, m2, v1, m3, v2, by rw [m4]; exact v3, fun j hj => ⟨(v8 j hj).1, (m6 j hj).1⟩, fun j hj => ?_⟩
  rw [(m6 j hj).2.1]
  exact ⟨hsh j hj, shareOf_0 (v8 j hj).2.1, (v8 j hj).2.2⟩
theorem sh_of (C : CRel e0 L K N I J R x now n pic tm rc fe co cr sv pd) : ∀ j, j < n → shC I R x (pic j) (cnt pic (pic j) j) = sv j := fun j hj => by
  obtain ⟨g1, g2, g3, g4, g5, g6, g7⟩ := C.2.2.2.1 j hj
  show shV I (shA R (dr R (dr R x (pic j)) 3) (cnt pic (pic j) j)) = sv j
  rw [g5]
  exact g6
theorem ou_j {V : Int64} (hO : At L K N ou 70 1) : ∀ b, b ∈ L → 1600 ≤ K b → u2 J ou 0 V b = J b := fun b hb hk => funext fun j => u2_a (fun e => by rw [e, hO.2.1] at hk; omega)
end WC
section WD
variable {l : Launch} {D : va_G} {z : Nat}
variable {L : List Nat} {K N : Nat → Nat} {I : Nat → Nat → Int32} {J : Nat → Nat → Int64} {R : Nat → Nat → Option Nat}
variable {e0 x m ou st : Nat}
theorem op_setFee (hfl : l.stackTraces = false) (hst : st ≤ 511) (hR : REL e0 x m ou st L K N I J R) (p0 p1 p2 : Int32) : MG l yL_setFee wsL_setFee rm_L_setFee D z e0 L K N I J R [.ref x, .int p0, .int p1, .int p2, .ref ou] (OPost l D z e0 x m ou st L K N R yX3_setFee wsX3_setFee rm_X3_setFee [.ref m, .int p0, .int p1, .int p2]) := by
  have hR0 := hR
  obtain ⟨now, n, pic, tm, rc, fe, co, cr, sv, pd, C, M, V, hO⟩ := hR
  have hx := C.1
  have hX := hx.1
  have hmc := rel_mc C M V
  rcases two_cases p0 with ⟨k, hk, rfl⟩ | ⟨q1, q2⟩
  · rcases four_cases p1 with ⟨w, hw, rfl⟩ | ⟨q3, q4⟩
    · by_cases hp : 0 ≤ p2 ∧ p2 ≤ 10000
      · have ef := (C.2.2.1 k hk).2.2.1 w hw
        have em := (M.2.2.2.2.1 k hk).2.2.1 w hw
        refine (w_setFee l D z e0 L K N I J R x ou (nI k) (nI w) p2 hX hO _ (c_setFee l D z e0 L K N I J R x now n (fun k => cnt pic k n) hx k hk w hw p2 hp) (fun v I' J' h => ⟨_, h.1⟩)).mono (fun v I1 J1 h => ?_)
        have hn10 := V.1
        obtain ⟨h1', V', J2, ⟨h2', h3', h4'⟩, h5'⟩ := h
        cases h2'
        have h4' := h4'.symm
        subst h4'
        subst h5'
        have hwI : ∀ b, b ≠ _ → I1 b = I b := fun b hb => by rw [h3']; exact funext fun j => u2_a hb
        have M1 := M.at1 (I' := I1) ((C.cells.2.2.1 k hk).2.2.2.2) hwI (by omega)
        have C1 : CRel e0 L K N I1 J R x now n pic tm rc (fun a b => if a = k ∧ b = w then p2 else fe a b) co cr sv pd := by rw [h3']; exact C.fee hk p2
        have hmc1 := mc_of M1 V (sh_of C)
        refine ⟨0, _, h1', fun _ => u2_s, (m_setFee l D z e0 L K N I1 (u2 J ou 0 _) R m M1.1 k hk w hw p2 hp).mono (fun v I2 J3 h => ?_)⟩
        obtain ⟨g1, g2, g3⟩ := h
        have g3 := g3.symm
        subst g3
        have em1 := (M1.2.2.2.2.1 k hk).2.2.1 w hw
        subst g2
        refine ⟨_, g1, (u2_a (M1.1.nx 2 997 8 (by decide)).symm).trans u2_s, fun _ => ⟨em1.trans ef.symm, u2_s⟩, _, _, _, _, _, _, _, _, _, _, C1.at1 (m := m) ((M1.1.cel 2 997 8 (by decide)).2) M1.1.1 (fun b h1 h2 => funext fun j => by rw [u2_a h1, u2_a h2]) (by omega) (ou_j hO), (M1.thr 0).fee hw p2, V.fee (rat_of hp), hO⟩
      · exact op_fail (c := 2) hR0 (by decide) (w_setFee_2 l D z e0 L K N I J R x ou (nI k) (nI w) p2 hX hO _ (x_setFee2 l D z e0 L K N I J R hfl x now n (fun k => cnt pic k n) hx k hk w hw p2 hp)) (m_setFee2 l D z e0 L K N I J R m M.1 k hk w hw p2 hp)
    · exact op_fail (c := 1) hR0 (by decide) (w_setFee_1 l D z e0 L K N I J R x ou (nI k) p1 p2 hX hO _ (x_setFee1w l D z e0 L K N I J R hfl x now n (fun k => cnt pic k n) hx k hk p1 q3 p2)) (m_setFee1w l D z e0 L K N I J R m M.1 k hk p1 q4 p2)
  · exact op_fail (c := 1) hR0 (by decide) (w_setFee_1 l D z e0 L K N I J R x ou p0 p1 p2 hX hO _ (x_setFee1 l D z e0 L K N I J R hfl x p0 q1 p1 p2)) (m_setFee1 l D z e0 L K N I J R m M.1 p0 q2 p1 p2)
theorem op_receive (hfl : l.stackTraces = false) (hst : st ≤ 511) (hR : REL e0 x m ou st L K N I J R) (p0 p1 p2 : Int32) : MG l yL_receive wsL_receive rm_L_receive D z e0 L K N I J R [.ref x, .int p0, .int p1, .int p2, .ref ou] (OPost l D z e0 x m ou st L K N R yX3_receive wsX3_receive rm_X3_receive [.ref m, .int p0, .int p1, .int p2]) := by
  have hR0 := hR
  obtain ⟨now, n, pic, tm, rc, fe, co, cr, sv, pd, C, M, V, hO⟩ := hR
  have hx := C.1
  have hX := hx.1
  have hmc := rel_mc C M V
  rcases two_cases p0 with ⟨k, hk, rfl⟩ | ⟨q1, q2⟩
  · rcases four_cases p1 with ⟨w, hw, rfl⟩ | ⟨q3, q4⟩
    · by_cases hp : 1 ≤ p2 ∧ p2 ≤ 200000
      · have ef := (C.2.2.1 k hk).2.1 now w V.1 hw
        have hpi := rng32 hp
        have e1 : (1 : Int32).toInt = 1 := rfl
        have e2 : (200000 : Int32).toInt = 200000 := rfl
        have hr0 := (V.2.2.2.2.2.1 k hk).1 now w V.1 hw
        have hr1 := el_le (V.2.2.2.2.2.1 k hk).1 V.1 hw
        have hr2 := (V.2.2.2.2.2.1 k hk).2
        have hs := a32 (a := rc k now w) (b := p2) (by omega) (by omega)
        refine (w_receive l D z e0 L K N I J R x ou (nI k) (nI w) p2 hX hO _ (c_receive l D z e0 L K N I J R x now n (fun k => cnt pic k n) hx k hk w hw p2 hp) (fun v I' J' h => ⟨_, h.1⟩)).mono (fun v I1 J1 h => ?_)
        have hn10 := V.1
        obtain ⟨h1', V', J2, ⟨h2', h3', h4'⟩, h5'⟩ := h
        cases h2'
        have h4' := h4'.symm
        subst h4'
        subst h5'
        rw [ef] at h3'
        have hwI : ∀ b, b ≠ _ → I1 b = I b := fun b hb => by rw [h3']; exact funext fun j => u2_a hb
        have M1 := M.at1 (I' := I1) ((C.cells.2.2.1 k hk).2.2.1 now V.1) hwI (by omega)
        have C1 : CRel e0 L K N I1 J R x now n pic tm (fun a b c => if a = k ∧ b = now ∧ c = w then rc k now w + p2 else rc a b c) fe co cr sv pd := by rw [h3']; exact C.row hk V.1 (rc k now w + p2)
        have hmc1 := mc_of M1 V (sh_of C)
        refine ⟨0, _, h1', fun _ => u2_s, (m_receive l D z e0 L K N I1 (u2 J ou 0 _) R m now n pic _ hmc1 k hk w hw p2 hp).mono (fun v I2 J3 h => ?_)⟩
        obtain ⟨g1, g2, g3⟩ := h
        have g3 := g3.symm
        subst g3
        have em1 := (M1.2.2.2.2.1 k hk).2.1 now w V.1 hw
        rw [em1] at g1 g2
        subst g2
        refine ⟨_, g1, (u2_a (M1.1.nx 0 965 80 (by decide)).symm).trans u2_s, fun _ => ⟨by rw [ef], u2_s⟩, _, _, _, _, _, _, _, _, _, _, C1.at1 (m := m) ((M1.1.cel 0 965 80 (by decide)).2) M1.1.1 (fun b h1 h2 => funext fun j => by rw [u2_a h1, u2_a h2]) (by omega) (ou_j hO), (M1.thr 0).row hk V.1 hw _, V.row hk V.1 hw (by omega) (by omega), hO⟩
      · exact op_fail (c := 2) hR0 (by decide) (w_receive_2 l D z e0 L K N I J R x ou (nI k) (nI w) p2 hX hO _ (x_receive2 l D z e0 L K N I J R hfl x now n (fun k => cnt pic k n) hx k hk w hw p2 hp)) (m_receive2 l D z e0 L K N I J R m M.1 k hk w hw p2 hp)
    · exact op_fail (c := 1) hR0 (by decide) (w_receive_1 l D z e0 L K N I J R x ou (nI k) p1 p2 hX hO _ (x_receive1w l D z e0 L K N I J R hfl x now n (fun k => cnt pic k n) hx k hk p1 q3 p2)) (m_receive1w l D z e0 L K N I J R m M.1 k hk p1 q4 p2)
  · exact op_fail (c := 1) hR0 (by decide) (w_receive_1 l D z e0 L K N I J R x ou p0 p1 p2 hX hO _ (x_receive1 l D z e0 L K N I J R hfl x p0 q1 p1 p2)) (m_receive1 l D z e0 L K N I J R m M.1 p0 q2 p1 p2)
theorem op_spend (hfl : l.stackTraces = false) (hst : st ≤ 511) (hR : REL e0 x m ou st L K N I J R) (p0 p1 : Int32) : MG l yL_spend wsL_spend rm_L_spend D z e0 L K N I J R [.ref x, .int p0, .int p1, .ref ou] (OPost l D z e0 x m ou st L K N R yX3_spend wsX3_spend rm_X3_spend [.ref m, .int p0, .int p1]) := by
  have hR0 := hR
  obtain ⟨now, n, pic, tm, rc, fe, co, cr, sv, pd, C, M, V, hO⟩ := hR
  have hx := C.1
  have hX := hx.1
  have hmc := rel_mc C M V
  rcases two_cases p0 with ⟨k, hk, rfl⟩ | ⟨q1, q2⟩
  · by_cases hp : 1 ≤ p1 ∧ p1 ≤ 200000
    · have ef := (C.2.2.1 k hk).2.2.2 now V.1
      have hpi := rng32 hp
      have e1 : (1 : Int32).toInt = 1 := rfl
      have e2 : (200000 : Int32).toInt = 200000 := rfl
      have hr0 := V.2.2.2.2.2.2.1 k now hk V.1
      have hs := a32 (a := co k now) (b := p1) (by omega) (by omega)
      refine (w_spend l D z e0 L K N I J R x ou (nI k) p1 hX hO _ (c_spend l D z e0 L K N I J R x now n (fun k => cnt pic k n) hx k hk p1 hp) (fun v I' J' h => ⟨_, h.1⟩)).mono (fun v I1 J1 h => ?_)
      have hn10 := V.1
      obtain ⟨h1', V', J2, ⟨h2', h3', h4'⟩, h5'⟩ := h
      cases h2'
      have h4' := h4'.symm
      subst h4'
      subst h5'
      rw [ef] at h3'
      have hwI : ∀ b, b ≠ _ → I1 b = I b := fun b hb => by rw [h3']; exact funext fun j => u2_a hb
      have M1 := M.at1 (I' := I1) ((C.cells.2.2.1 k hk).2.2.2.1) hwI (by omega)
      have C1 : CRel e0 L K N I1 J R x now n pic tm rc fe (fun a b => if a = k ∧ b = now then co k now + p1 else co a b) cr sv pd := by rw [h3']; exact C.cost hk (co k now + p1)
      have hmc1 := mc_of M1 V (sh_of C)
      refine ⟨0, _, h1', fun _ => u2_s, (m_spend l D z e0 L K N I1 (u2 J ou 0 _) R m now n pic _ hmc1 k hk p1 hp).mono (fun v I2 J3 h => ?_)⟩
      obtain ⟨g1, g2, g3⟩ := h
      have g3 := g3.symm
      subst g3
      have em1 := (M1.2.2.2.2.1 k hk).2.2.2 now V.1
      rw [em1] at g1 g2
      subst g2
      refine ⟨_, g1, (u2_a (M1.1.nx 1 981 20 (by decide)).symm).trans u2_s, fun _ => ⟨by rw [ef], u2_s⟩, _, _, _, _, _, _, _, _, _, _, C1.at1 (m := m) ((M1.1.cel 1 981 20 (by decide)).2) M1.1.1 (fun b h1 h2 => funext fun j => by rw [u2_a h1, u2_a h2]) (by omega) (ou_j hO), (M1.thr 0).cost V.1 _, V.cost (by omega) (by omega), hO⟩
    · exact op_fail (c := 2) hR0 (by decide) (w_spend_2 l D z e0 L K N I J R x ou (nI k) p1 hX hO _ (x_spend2 l D z e0 L K N I J R hfl x now n (fun k => cnt pic k n) hx k hk p1 hp)) (m_spend2 l D z e0 L K N I J R m M.1 k hk p1 hp)
  · exact op_fail (c := 1) hR0 (by decide) (w_spend_1 l D z e0 L K N I J R x ou p0 p1 hX hO _ (x_spend1 l D z e0 L K N I J R hfl x p0 q1 p1)) (m_spend1 l D z e0 L K N I J R m M.1 p0 q2 p1)
theorem op_audit (hfl : l.stackTraces = false) (hst : st ≤ 511) (hR : REL e0 x m ou st L K N I J R) (p0 p1 p2 p3 : Int32) : MG l yL_audit wsL_audit rm_L_audit D z e0 L K N I J R [.ref x, .int p0, .int p1, .int p2, .int p3, .ref ou] (OPost l D z e0 x m ou st L K N R yX3_audit wsX3_audit rm_X3_audit [.ref m, .int p0, .int p1, .int p2, .int p3]) := by
  have hR0 := hR
  obtain ⟨now, n, pic, tm, rc, fe, co, cr, sv, pd, C, M, V, hO⟩ := hR
  have hx := C.1
  have hX := hx.1
  have hmc := rel_mc C M V
  rcases two_cases p0 with ⟨k, hk, rfl⟩ | ⟨q1, q2⟩
  · rcases four_cases p2 with ⟨w, hw, rfl⟩ | ⟨q3, q4⟩
    · by_cases hp : 0 ≤ p3 ∧ p3 ≤ 1000000
      · rcases audit_cases V.1 p1 with ⟨y, hy, hy3, rfl⟩ | ⟨q5, q6⟩
        · have hy10 : y < 10 := Nat.lt_trans hy V.1
          have ef := (C.2.2.1 k hk).2.1 y w hy10 hw
          have hpi := rng32 hp
          have e1 : (0 : Int32).toInt = 0 := rfl
          have e2 : (1000000 : Int32).toInt = 1000000 := rfl
          have hr0 := (V.2.2.2.2.2.1 k hk).1 y w hy10 hw
          refine (w_audit l D z e0 L K N I J R x ou (nI k) (nI y) (nI w) p3 hX hO _ (c_audit l D z e0 L K N I J R x now n (fun k => cnt pic k n) hx k hk y hy hy3 w hw p3 hp) (fun v I' J' h => ⟨_, h.1⟩)).mono (fun v I1 J1 h => ?_)
          have hn10 := V.1
          obtain ⟨h1', V', J2, ⟨h2', h3', h4'⟩, h5'⟩ := h
          cases h2'
          have h4' := h4'.symm
          subst h4'
          subst h5'
          have hwI : ∀ b, b ≠ _ → I1 b = I b := fun b hb => by rw [h3']; exact funext fun j => u2_a hb
          have M1 := M.at1 (I' := I1) ((C.cells.2.2.1 k hk).2.2.1 y hy10) hwI (by omega)
          have C1 : CRel e0 L K N I1 J R x now n pic tm (fun a b c => if a = k ∧ b = y ∧ c = w then p3 else rc a b c) fe co cr sv pd := by rw [h3']; exact C.row hk hy10 p3
          have hmc1 := mc_of M1 V (sh_of C)
          refine ⟨0, _, h1', fun _ => u2_s, (m_audit l D z e0 L K N I1 (u2 J ou 0 _) R m now n pic _ hmc1 k hk y hy hy3 w hw p3 hp).mono (fun v I2 J3 h => ?_)⟩
          obtain ⟨g1, g2, g3⟩ := h
          have g3 := g3.symm
          subst g3
          have em1 := (M1.2.2.2.2.1 k hk).2.1 y w hy10 hw
          subst g2
          refine ⟨_, g1, (u2_a (M1.1.nx 0 965 80 (by decide)).symm).trans u2_s, fun _ => ⟨em1.trans ef.symm, u2_s⟩, _, _, _, _, _, _, _, _, _, _, C1.at1 (m := m) ((M1.1.cel 0 965 80 (by decide)).2) M1.1.1 (fun b h1 h2 => funext fun j => by rw [u2_a h1, u2_a h2]) (by omega) (ou_j hO), (M1.thr 0).row hk hy10 hw p3, V.row hk hy10 hw (by omega) (by omega), hO⟩
        · exact op_fail (c := 3) hR0 (by decide) (w_audit_3 l D z e0 L K N I J R x ou (nI k) p1 (nI w) p3 hX hO _ (x_audit3 l D z e0 L K N I J R hfl x now n (fun k => cnt pic k n) hx k hk w hw p1 p3 hp q5)) (m_audit3 l D z e0 L K N I J R m now n pic (shC I R x) hmc k hk w hw p1 p3 hp q6)
      · exact op_fail (c := 2) hR0 (by decide) (w_audit_2 l D z e0 L K N I J R x ou (nI k) p1 (nI w) p3 hX hO _ (x_audit2 l D z e0 L K N I J R hfl x now n (fun k => cnt pic k n) hx k hk w hw p1 p3 hp)) (m_audit2 l D z e0 L K N I J R m M.1 k hk w hw p1 p3 hp)
    · exact op_fail (c := 1) hR0 (by decide) (w_audit_1 l D z e0 L K N I J R x ou (nI k) p1 p2 p3 hX hO _ (x_audit1w l D z e0 L K N I J R hfl x now n (fun k => cnt pic k n) hx k hk p2 q3 p1 p3)) (m_audit1w l D z e0 L K N I J R m M.1 k hk p2 q4 p1 p3)
  · exact op_fail (c := 1) hR0 (by decide) (w_audit_1 l D z e0 L K N I J R x ou p0 p1 p2 p3 hX hO _ (x_audit1 l D z e0 L K N I J R hfl x p0 q1 p1 p2 p3)) (m_audit1 l D z e0 L K N I J R m M.1 p0 q2 p1 p2 p3)
theorem op_closeYear (hfl : l.stackTraces = false) (hst : st ≤ 511) (hR : REL e0 x m ou st L K N I J R) : MG l yL_closeYear wsL_closeYear rm_L_closeYear D z e0 L K N I J R [.ref x, .ref ou] (OPost l D z e0 x m ou st L K N R yX3_closeYear wsX3_closeYear rm_X3_closeYear [.ref m]) := by
  have hR0 := hR
  obtain ⟨now, n, pic, tm, rc, fe, co, cr, sv, pd, C, M, V, hO⟩ := hR
  have hx := C.1
  have hX := hx.1
  have hmc := rel_mc C M V
  by_cases h9 : now < 9
  · have hskip := trivial
    refine (w_closeYear l D z e0 L K N I J R x ou hX hO _ (c_closeYear l D z e0 L K N I J R x now n (fun k => cnt pic k n) hx h9) (fun v I' J' h => ⟨_, h.1⟩)).mono (fun v I1 J1 h => ?_)
    have hn10 := V.1
    obtain ⟨h1', V', J2, ⟨h2', h3', h4'⟩, h5'⟩ := h
    cases h2'
    have h4' := h4'.symm
    subst h4'
    subst h5'
    have hwI : ∀ b, b ≠ _ → I1 b = I b := fun b hb => by rw [h3']; exact funext fun j => u2_a hb
    have M1 := M.at1 (I' := I1) (C.cells.1) hwI (by omega)
    have C1 : CRel e0 L K N I1 J R x (now + 1) n pic tm rc fe co cr sv pd := by rw [h3']; exact C.close h9
    have hmc1 := mc_of M1 V (sh_of C)
    refine ⟨0, _, h1', fun _ => u2_s, (m_closeYear l D z e0 L K N I1 (u2 J ou 0 _) R m now n pic _ hmc1 h9).mono (fun v I2 J3 h => ?_)⟩
    obtain ⟨g1, g2, g3⟩ := h
    have g3 := g3.symm
    subst g3
    subst g2
    refine ⟨_, g1, (u2_k (by decide)).trans u2_s, fun _ => ⟨rfl, u2_s⟩, _, _, _, _, _, _, _, _, _, _, C1.at1 (m := m) (M1.1.1) M1.1.1 (fun b h1 h2 => funext fun j => by rw [u2_a h1, u2_a h2]) (by omega) (ou_j hO), (M1.thr 0).close, V.close h9, hO⟩
  · exact op_fail (c := 1) hR0 (by decide) (w_closeYear_1 l D z e0 L K N I J R x ou  hX hO _ (x_closeYear l D z e0 L K N I J R hfl x now n (fun k => cnt pic k n) hx h9)) (m_closeYear1 l D z e0 L K N I J R m now n pic (shC I R x) hmc h9)
end WD
