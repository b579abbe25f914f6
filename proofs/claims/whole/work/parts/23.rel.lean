/-! Both states beside each other. -/
def Val (now n : Nat) (pic : Nat → Nat) (tm : Nat → TM) (rc : Nat → Nat → Nat → Int32) (fe co : Nat → Nat → Int32) (cr : Int32) (sv : Nat → Shr) (pd : Nat → Int32) (st : Nat) : Prop :=
  now < 10 ∧ n ≤ 8 ∧ (cr = 0 ∨ cr = 1) ∧ (∀ k, k < 2 → Rat (tm k).1 ∧ Rat (tm k).2.1 ∧ Rat (tm k).2.2) ∧ (∀ k w, k < 2 → w < 4 → Rat (fe k w)) ∧
  (∀ k, k < 2 → (∀ y w, y < 10 → w < 4 → 0 ≤ (rc k y w).toInt) ∧ sumI (rc k) 10 ≤ 1000000 * (st : Int)) ∧ (∀ k y, k < 2 → y < 10 → 0 ≤ (co k y).toInt ∧ (co k y).toInt ≤ 200000 * (st : Int)) ∧
  (∀ j, j < n → pic j < 2 ∧ SOk (sv j) ∧ ((sv j).1 = 0 ∨ (sv j).1 = 1 ∨ (sv j).1 = 2 ∨ (sv j).1 = 3)) ∧ ∀ j, j < n → 0 ≤ (pd j).toInt
def REL (e0 x m ou st : Nat) (L : List Nat) (K N : Nat → Nat) (I : Nat → Nat → Int32) (J : Nat → Nat → Int64) (R : Nat → Nat → Option Nat) : Prop :=
  ∃ now n pic tm rc fe co cr sv pd, CRel e0 L K N I J R x now n pic tm rc fe co cr sv pd ∧ MRel L K N I R m now n pic tm rc fe co cr sv pd ∧ Val now n pic tm rc fe co cr sv pd st ∧ At L K N ou 70 1
/-- the sharers of the class's lists -/
def shC (I : Nat → Nat → Int32) (R : Nat → Nat → Option Nat) (x : Nat) : Nat → Nat → Shr := fun k i => shV I (shA R (dr R (dr R x k) 3) i)
theorem shareOf_0 {q : Shr} (h : SOk q) : shareOf 0 q = 0 := by
  have r := (shareOf_int (a := 0) (by decide) (by decide) h).2
  have e : (shareOf 0 q).toInt = 0 := Int.le_antisymm r.2 r.1
  exact Int64.toInt_inj.mp e
theorem cnt_ex (pic : Nat → Nat) (k : Nat) {i : Nat} : ∀ n, i < cnt pic k n → ∃ j, j < n ∧ pic j = k ∧ cnt pic k j = i
  | 0, h => absurd h (Nat.not_lt_zero i)
  | n + 1, h => by
    by_cases e : pic n = k
    · rw [cnt_T e] at h
      by_cases e2 : i = cnt pic k n
      · exact ⟨n, Nat.lt_succ_self n, e, e2.symm⟩
      · obtain ⟨j, h1, h2, h3⟩ := cnt_ex pic k n (show i < cnt pic k n by omega)
        exact ⟨j, Nat.lt_succ_of_lt h1, h2, h3⟩
    · rw [cnt_F e] at h
      obtain ⟨j, h1, h2, h3⟩ := cnt_ex pic k n h
      exact ⟨j, Nat.lt_succ_of_lt h1, h2, h3⟩
section RS
variable {l : Launch} {D : va_G} {z : Nat}
variable {L : List Nat} {K N : Nat → Nat} {I : Nat → Nat → Int32} {J : Nat → Nat → Int64} {R : Nat → Nat → Option Nat}
variable {e0 x m ou st now n : Nat} {pic : Nat → Nat} {tm : Nat → TM} {rc : Nat → Nat → Nat → Int32} {fe co : Nat → Nat → Int32} {cr : Int32} {sv : Nat → Shr} {pd : Nat → Int32}
theorem MG.mono {y : MethodName} {ws : List Cond} {rm : Room} {av : List Value} {post post' : Option Value → (Nat → Nat → Int32) → (Nat → Nat → Int64) → Prop} (h : MG l y ws rm D z e0 L K N I J R av post) (hp : ∀ v I' J', post v I' J' → post' v I' J') : MG l y ws rm D z e0 L K N I J R av post' := by
  intro p e ha hc hk s m args below hf happ hP hK
  obtain ⟨n, o, h1, h2, h3, h4⟩ := h p e ha hc hk s m args below hf happ hP hK
  refine ⟨n, o, h1, h2, h3, ?_, h4.2⟩
  obtain ⟨⟨v, I1, J1, e1, e2, e3⟩, e4⟩ := h4.1
  exact ⟨⟨v, I1, J1, e1, hp v I1 J1 e2, e3⟩, e4⟩
theorem MF.mono {y : MethodName} {ws : List Cond} {rm : Room} {av : List Value} {post post' : Option Value → List Nat → (Nat → Nat) → (Nat → Nat) → (Nat → Nat → Int32) → (Nat → Nat → Int64) → (Nat → Nat → Option Nat) → Prop} (h : MF l y ws rm D z e0 L K N I J R av post) (hp : ∀ v L' K' N' I' J' R', post v L' K' N' I' J' R' → post' v L' K' N' I' J' R') : MF l y ws rm D z e0 L K N I J R av post' := by
  intro p e ha hc hk s m args below hf happ hP hK
  obtain ⟨n, o, h1, h2, h3, h4⟩ := h p e ha hc hk s m args below hf happ hP hK
  refine ⟨n, o, h1, h2, h3, ?_, h4.2⟩
  obtain ⟨⟨v, L1, K1, N1, I1, J1, R1, e1, e2, e3⟩, e4⟩ := h4.1
  exact ⟨⟨v, L1, K1, N1, I1, J1, R1, e1, hp v L1 K1 N1 I1 J1 R1 e2, e3⟩, e4⟩
theorem Val.up (h : Val now n pic tm rc fe co cr sv pd st) : Val now n pic tm rc fe co cr sv pd (st + 1) := by
  obtain ⟨h1, h2, h3, h4, h5, h6, h7, h8, h9⟩ := h
  refine ⟨h1, h2, h3, h4, h5, fun k hk => ⟨(h6 k hk).1, ?_⟩, fun k y hk hy => ⟨(h7 k y hk hy).1, ?_⟩, h8, h9⟩
  · have := (h6 k hk).2
    omega
  · have := (h7 k y hk hy).2
    omega
theorem CRel.j {J' : Nat → Nat → Int64} (h : CRel e0 L K N I J R x now n pic tm rc fe co cr sv pd) (hJ : ∀ a, a ∈ L → 1600 ≤ K a → J' a = J a) : CRel e0 L K N I J' R x now n pic tm rc fe co cr sv pd := by
  obtain ⟨h1, h2, h3, h4, h5, h6⟩ := h
  refine ⟨h1, h2, h3, fun j hj => ?_, h5, h6⟩
  obtain ⟨g1, g2, g3, g4, g5, g6, g7⟩ := h4 j hj
  exact ⟨g1, g2, g3, g4, g5, g6, by rw [hJ _ g2.1 (by rw [g2.2.1]; omega)]; exact g7⟩
theorem MRel.thr (h : MRel L K N I R m now n pic tm rc fe co cr sv pd) (v : Int32) : MRel L K N (u2 I m 18 v) R m now n pic tm rc fe co cr sv pd := by
  obtain ⟨h1, h2, h3, h4, h5, h6, h7⟩ := h
  have r0 := thr_row (I := I) h1 v (q := (0, 965, 80)) (by decide)
  have r1 := thr_row (I := I) h1 v (q := (1, 981, 20)) (by decide)
  have r2 := thr_row (I := I) h1 v (q := (2, 997, 8)) (by decide)
  have r3 := thr_row (I := I) h1 v (q := (3, 1013, 2)) (by decide)
  have r4 := thr_row (I := I) h1 v (q := (4, 1029, 2)) (by decide)
  have r5 := thr_row (I := I) h1 v (q := (5, 1045, 2)) (by decide)
  have r8 := thr_row (I := I) h1 v (q := (8, 1061, 8)) (by decide)
  have r13 := thr_row (I := I) h1 v (q := (13, 1141, 8)) (by decide)
  refine ⟨h1, (u2_k (by decide)).trans h2, (u2_k (by decide)).trans h3, (u2_k (by decide)).trans h4, fun k hk => ?_, fun j hj => ?_, fun j hj => ?_⟩
  · show (u2 I m 18 v (dr R m (3, 1013, 2).1) k, u2 I m 18 v (dr R m (4, 1029, 2).1) k, u2 I m 18 v (dr R m (5, 1045, 2).1) k) = tm k ∧ (∀ y w, y < 10 → w < 4 → u2 I m 18 v (dr R m (0, 965, 80).1) (40 * k + 4 * y + w) = rc k y w) ∧ (∀ w, w < 4 → u2 I m 18 v (dr R m (2, 997, 8).1) (4 * k + w) = fe k w) ∧ (∀ y, y < 10 → u2 I m 18 v (dr R m (1, 981, 20).1) (10 * k + y) = co k y)
    rw [r0, r1, r2, r3, r4, r5]
    exact h5 k hk
  · rw [mshr_thr h1]
    show u2 I m 18 v (dr R m (8, 1061, 8).1) j = nI (pic j) ∧ mshr I R m j = sv j ∧ u2 I m 18 v (dr R m (13, 1141, 8).1) j = pd j
    rw [r8, r13]
    exact h6 j hj
  · show u2 I m 18 v (dr R m (13, 1141, 8).1) j = 0
    rw [r13]
    exact h7 j hj
theorem rel_mc (C : CRel e0 L K N I J R x now n pic tm rc fe co cr sv pd) (M : MRel L K N I R m now n pic tm rc fe co cr sv pd) (V : Val now n pic tm rc fe co cr sv pd st) : MC L K N I R m now n pic (shC I R x) := by
  obtain ⟨c1, c2, c3, c4, c5, c6⟩ := C
  obtain ⟨m1, m2, m3, m4, m5, m6, m7⟩ := M
  obtain ⟨v1, v2, v3, v4, v5, v6, v7, v8, v9⟩ := V
  refine ⟨m1, m2, v1, m3, v2, by rw [m4]; exact v3, fun j hj => ⟨(v8 j hj).1, (m6 j hj).1⟩, fun j hj => ?_⟩
  obtain ⟨g1, g2, g3, g4, g5, g6, g7⟩ := c4 j hj
  rw [(m6 j hj).2.1]
  refine ⟨?_, shareOf_0 (v8 j hj).2.1, (v8 j hj).2.2⟩
  show shV I (shA R (dr R (dr R x (pic j)) 3) (cnt pic (pic j) j)) = sv j
  rw [g5]
  exact g6
theorem rel_agr (C : CRel e0 L K N I J R x now n pic tm rc fe co cr sv pd) (M : MRel L K N I R m now n pic tm rc fe co cr sv pd) {k : Nat} (hk : k < 2) : Agr (pcon I R (dr R x k) (cnt pic k n)) (mcon I R m pic (shC I R x) n k) := by
  obtain ⟨c1, c2, c3, c4, c5, c6⟩ := C
  obtain ⟨m1, m2, m3, m4, m5, m6, m7⟩ := M
  obtain ⟨a1, a2, a3, a4⟩ := c3 k hk
  obtain ⟨b1, b2, b3, b4⟩ := m5 k hk
  have e := a1.trans b1.symm
  exact ⟨congrArg (fun t => t.1) e, congrArg (fun t => t.2.1) e, congrArg (fun t => t.2.2) e, fun y w hy hw => (a2 y w hy hw).trans (b2 y w hy hw).symm, fun w hw => (a3 w hw).trans (b3 w hw).symm, fun y hy => (a4 y hy).trans (b4 y hy).symm, rfl, rfl⟩
theorem rel_z (C : CRel e0 L K N I J R x now n pic tm rc fe co cr sv pd) (M : MRel L K N I R m now n pic tm rc fe co cr sv pd) {y k : Nat} (hy : y ≤ 10) (hk : k < 2) : yRun (I x 3) (fun k => pcon I R (dr R x k) (cnt pic k n)) y k = yRun (I m 6) (mcon I R m pic (shC I R x) n) y k := by
  rw [C.2.1, M.2.2.2.1]
  exact yRun_cong (fun k hk => rel_agr C M hk) y hy k hk
theorem rel_cok (C : CRel e0 L K N I J R x now n pic tm rc fe co cr sv pd) (M : MRel L K N I R m now n pic tm rc fe co cr sv pd) (V : Val now n pic tm rc fe co cr sv pd st) (hst : st ≤ 512) {k : Nat} (hk : k < 2) : COk (mcon I R m pic (shC I R x) n k) := by
  obtain ⟨c1, c2, c3, c4, c5, c6⟩ := C
  obtain ⟨m1, m2, m3, m4, m5, m6, m7⟩ := M
  obtain ⟨v1, v2, v3, v4, v5, v6, v7, v8, v9⟩ := V
  obtain ⟨b1, b2, b3, b4⟩ := m5 k hk
  obtain ⟨t1, t2, t3⟩ := v4 k hk
  have f1 : I (dr R m 3) k = (tm k).1 := congrArg (fun t => t.1) b1
  have f2 : I (dr R m 4) k = (tm k).2.1 := congrArg (fun t => t.2.1) b1
  have f3 : I (dr R m 5) k = (tm k).2.2 := congrArg (fun t => t.2.2) b1
  have hrow : ∀ y, y < 10 → rowI (mrc I R m k y) = rowI (rc k y) := fun y hy => by
    show (I (dr R m 0) (40 * k + 4 * y + 0)).toInt + (I (dr R m 0) (40 * k + 4 * y + 1)).toInt + (I (dr R m 0) (40 * k + 4 * y + 2)).toInt + (I (dr R m 0) (40 * k + 4 * y + 3)).toInt = rowI (rc k y)
    rw [b2 y 0 hy (by decide), b2 y 1 hy (by decide), b2 y 2 hy (by decide), b2 y 3 hy (by decide)]
    rfl
  have hsum : ∀ y, y ≤ 10 → sumI (mrc I R m k) y = sumI (rc k) y := fun y => by
    induction y with
    | zero => exact fun _ => rfl
    | succ y ih =>
      intro hy
      show sumI (mrc I R m k) y + rowI (mrc I R m k y) = sumI (rc k) y + rowI (rc k y)
      rw [ih (by omega), hrow y (by omega)]
  refine ⟨by show Rat (I (dr R m 3) k); rw [f1]; exact t1, by show Rat (I (dr R m 4) k); rw [f2]; exact t2, by show Rat (I (dr R m 5) k); rw [f3]; exact t3, ⟨fun y w hy hw => ?_, ?_⟩, fun w hw => ?_, fun y hy => ?_, Nat.le_trans (cnt_le pic k n) v2, fun i hi => ?_⟩
  · show 0 ≤ (I (dr R m 0) (40 * k + 4 * y + w)).toInt
    rw [b2 y w hy hw]
    exact (v6 k hk).1 y w hy hw
  · show sumI (mrc I R m k) 10 ≤ 512000000
    rw [hsum 10 (Nat.le_refl _)]
    have := (v6 k hk).2
    omega
  · show Rat (I (dr R m 2) (4 * k + w))
    rw [b3 w hw]
    exact v5 k w hk hw
  · show 0 ≤ (I (dr R m 1) (10 * k + y)).toInt
    rw [b4 y hy]
    exact (v7 k y hk hy).1
  · obtain ⟨j, hj, hp, hcj⟩ := cnt_ex pic k n hi
    obtain ⟨g1, g2, g3, g4, g5, g6, g7⟩ := c4 j hj
    subst hp
    subst hcj
    show SOk (shV I (shA R (dr R (dr R x (pic j)) 3) (cnt pic (pic j) j)))
    rw [g5, g6]
    exact (v8 j hj).2.1
theorem rel_sh (C : CRel e0 L K N I J R x now n pic tm rc fe co cr sv pd) (V : Val now n pic tm rc fe co cr sv pd st) {j : Nat} (hj : j < n) : ShOk L K N I R x (fun k => cnt pic k n) (shA R (dr R x 2) j) (pic j) (cnt pic (pic j) j) := by
  obtain ⟨c1, c2, c3, c4, c5, c6⟩ := C
  obtain ⟨v1, v2, v3, v4, v5, v6, v7, v8, v9⟩ := V
  obtain ⟨g1, g2, g3, g4, g5, g6, g7⟩ := c4 j hj
  refine ⟨by rw [g2.2.1]; exact g2, by rw [g2.2.1]; omega, by rw [g2.2.1]; omega, g1, g3, g4, cnt_mono pic (pic j) n (Nat.le_of_lt hj), fun h0 h1 h2 => ?_⟩
  have hk := (v8 j hj).2.2
  have e : (sv j).1 = I (shA R (dr R x 2) j) 2 := by rw [← g6]; rfl
  rw [e] at hk
  rcases hk with h | h | h | h
  · exact absurd h h0
  · exact absurd h h1
  · exact absurd h h2
  · rw [h]
    decide
/-- a sharer's sum is the same to both, and in its range -/
theorem rel_sum (C : CRel e0 L K N I J R x now n pic tm rc fe co cr sv pd) (M : MRel L K N I R m now n pic tm rc fe co cr sv pd) (V : Val now n pic tm rc fe co cr sv pd st) {j : Nat} (hj : j < n) :
    sumF (yRun (I x 3) (fun k => pcon I R (dr R x k) (cnt pic k n)) (now + 1) (pic j)).2.1 (yRun (I x 3) (fun k => pcon I R (dr R x k) (cnt pic k n)) (now + 1) (pic j)).1 (yRun (I x 3) (fun k => pcon I R (dr R x k) (cnt pic k n)) (now + 1) (pic j)).2.2.2.2.2 (shV I (shA R (dr R x 2) j)) (fun i => shV I (shA R (dr R (dr R x (pic j)) 3) i)) (cnt pic (pic j) n) (cnt pic (pic j) j) = smf I R m pic (shC I R x) n now j := by
  have hn := V.1
  obtain ⟨g1, g2, g3, g4, g5, g6, g7⟩ := C.2.2.2.1 j hj
  have hm := (M.2.2.2.2.2.1 j hj).2.1
  rw [rel_z C M (show now + 1 ≤ 10 by omega) g1, g6, ← hm]
  rfl
theorem rel_rng (C : CRel e0 L K N I J R x now n pic tm rc fe co cr sv pd) (M : MRel L K N I R m now n pic tm rc fe co cr sv pd) (V : Val now n pic tm rc fe co cr sv pd st) (hst : st ≤ 512) {j : Nat} (hj : j < n) : 0 ≤ (smf I R m pic (shC I R x) n now j).toInt ∧ (smf I R m pic (shC I R x) n now j).toInt ≤ 512000000 := by
  have g1 := (C.2.2.2.1 j hj).1
  have hm := (M.2.2.2.2.2.1 j hj).2.1
  have hs := (V.2.2.2.2.2.2.2.1 j hj).2.1
  rw [← hm] at hs
  exact sumF_rng (cr := I m 6) (c := mcon I R m pic (shC I R x) n) (fun k hk => rel_cok C M V hst hk) V.1 g1 hs (cnt_mono pic (pic j) n (Nat.le_of_lt hj))
/-- the end of a step that changes nothing but the reference's mark -/
theorem rel_keep {J' : Nat → Nat → Int64} (C : CRel e0 L K N I J R x now n pic tm rc fe co cr sv pd) (M : MRel L K N I R m now n pic tm rc fe co cr sv pd) (V : Val now n pic tm rc fe co cr sv pd st) (hO : At L K N ou 70 1) (v : Int32) (hJ : ∀ a, a ∈ L → 1600 ≤ K a → J' a = J a) : REL e0 x m ou (st + 1) L K N (u2 I m 18 v) J' R :=
  ⟨now, n, pic, tm, rc, fe, co, cr, sv, pd, (C.ext (Ext.setI (x := v) (b := m) (k := 18)) (fun a ha _ h2 _ e => h2 (by rw [e]; exact M.1.1.2.1))).j hJ, M.thr v, V.up, hO⟩
/-- what a step of the law asks of a method of the class and one of the reference, with the same answer -/
def OPost (l : Launch) (D : va_G) (z e0 x m ou st : Nat) (L : List Nat) (K N : Nat → Nat) (R : Nat → Nat → Option Nat) (yM : MethodName) (wsM : List Cond) (rmM : Room) (avM : List Value) : Option Value → (Nat → Nat → Int32) → (Nat → Nat → Int64) → Prop := fun v I1 J1 =>
  ∃ kc V : Int32, v = some (.int kc) ∧ (kc = 0 → J1 ou 0 = V.toInt64) ∧ MG l yM wsM rmM D z e0 L K N I1 J1 R avM (fun v I2 J2 => ∃ b : Int32, v = some (.int b) ∧ I2 m 18 = kc ∧ (kc = 0 → b = V ∧ J2 ou 0 = V.toInt64) ∧ REL e0 x m ou (st + 1) L K N I2 J2 R)
theorem op_fail {yL yM : MethodName} {wsL wsM : List Cond} {rmL rmM : Room} {avL avM : List Value} {c : Int32} (hR : REL e0 x m ou st L K N I J R) (hc : c ≠ 0) (hw : MG l yL wsL rmL D z e0 L K N I J R avL (fun v I' J' => v = some (.int c) ∧ I' = I ∧ J' = J))
    (hm : MG l yM wsM rmM D z e0 L K N I J R avM (fun v I' J' => v = some (.int 0) ∧ I' = u2 I m 18 c ∧ J' = J)) : MG l yL wsL rmL D z e0 L K N I J R avL (OPost l D z e0 x m ou st L K N R yM wsM rmM avM) := by
  refine hw.mono (fun v I1 J1 h => ?_)
  obtain ⟨h1, h2, h3⟩ := h
  subst h2
  subst h3
  refine ⟨c, 0, h1, fun h => absurd h hc, hm.mono (fun v I2 J2 h => ?_)⟩
  obtain ⟨g1, g2, g3⟩ := h
  subst g2
  subst g3
  obtain ⟨now, n, pic, tm, rc, fe, co, cr, sv, pd, C, M, V, hO⟩ := hR
  exact ⟨0, g1, u2_s, fun h => absurd h hc, rel_keep C M V hO c (fun _ _ _ => rfl)⟩
theorem op_read {yL yM : MethodName} {wsL wsM : List Cond} {rmL rmM : Room} {avL avM : List Value} {V : Int32} {B : (Nat → Nat → Int64) → Prop} (hR : REL e0 x m ou st L K N I J R) (hB : ∀ J', B J' → ∀ a, a ∈ L → 1600 ≤ K a → J' a = J a)
    (hw : MG l yL wsL rmL D z e0 L K N I J R avL (fun v I' J' => v = some (.int 0) ∧ ∃ V' J1, (some (Value.int V') = some (Value.int V) ∧ I' = I ∧ B J1) ∧ J' = u2 J1 ou 0 (Int32.toInt64 V')))
    (hm : ∀ J1, MG l yM wsM rmM D z e0 L K N I J1 R avM (fun v I' J' => v = some (.int V) ∧ I' = u2 I m 18 0 ∧ JF R m J1 J')) : MG l yL wsL rmL D z e0 L K N I J R avL (OPost l D z e0 x m ou st L K N R yM wsM rmM avM) := by
  obtain ⟨now, n, pic, tm, rc, fe, co, cr, sv, pd, C, M, W, hO⟩ := hR
  refine hw.mono (fun v I1 J1 h => ?_)
  obtain ⟨h1, V', J2, ⟨h2, h3, h4⟩, h5⟩ := h
  cases h2
  subst h3
  subst h5
  refine ⟨0, V, h1, fun _ => u2_s, (hm _).mono (fun v I2 J3 h => ?_)⟩
  obtain ⟨g1, g2, g3⟩ := h
  subst g2
  have hm15 := (M.1.cel 15 1158 20 (by decide)).2
  have hm16 := (M.1.cel 16 1174 20 (by decide)).2
  have hm17 := (M.1.cel 17 1190 2 (by decide)).2
  have hf : ∀ a, a ∈ L → (K a = 70 ∨ 1600 ≤ K a) → J3 a = (u2 J2 ou 0 (Int32.toInt64 V)) a := fun a ha hk => g3 a (fun e => by rw [e, hm15.2.1] at hk; omega) (fun e => by rw [e, hm16.2.1] at hk; omega) (fun e => by rw [e, hm17.2.1] at hk; omega)
  refine ⟨V, g1, u2_s, fun _ => ⟨rfl, ?_⟩, rel_keep C M W hO 0 (fun a ha hk => ?_)⟩
  · rw [hf ou hO.1 (Or.inl hO.2.1)]
    exact u2_s
  · rw [hf a ha (Or.inr hk), ← hB J2 h4 a ha hk]
    exact funext fun j => u2_a (fun e => by rw [e, hO.2.1] at hk; omega)
theorem bm_keep {Z : Nat → Nat → BK} {S : Nat → BK} {mm : Nat → Nat} {J' : Nat → Nat → Int64} (C : CRel e0 L K N I J R x now n pic tm rc fe co cr sv pd) (h : BM R x J J' Z S mm) : ∀ a, a ∈ L → 1600 ≤ K a → J' a = J a := fun a ha hk => h.2 a (fun k hk2 => by
  obtain ⟨a0, -, -, -, -, -, -, -, -, -, a7, -, a8⟩ := (C.1.2.1 k hk2).2.1
  exact ⟨fun e => by rw [e, a0.2.1] at hk; omega, fun e => by rw [e, a7.2.1] at hk; omega, fun e => by rw [e, a8.2.1] at hk; omega⟩)
end RS
