/-! What the law's turns keep, and what it asks of the answers. -/
def VL (now n : Nat) (pic : Nat → Nat) (tm : Nat → TM) (rc : Nat → Nat → Nat → Int32) (fe co : Nat → Nat → Int32) (cr : Int32) (sv : Nat → Shr) (pd : Nat → Int32) (st su : Nat) : Prop :=
  now < 10 ∧ n ≤ 8 ∧ (cr = 0 ∨ cr = 1) ∧ (∀ k, k < 2 → Rat (tm k).1 ∧ Rat (tm k).2.1 ∧ 0 ≤ (tm k).2.2.toInt ∧ (tm k).2.2.toInt ≤ 2000) ∧ (∀ k w, k < 2 → w < 4 → Rat (fe k w)) ∧
  (∀ k, k < 2 → (∀ y w, y < 10 → w < 4 → 0 ≤ (rc k y w).toInt) ∧ sumI (rc k) 10 ≤ 200000 * (st : Int)) ∧ (∀ k y, k < 2 → y < 10 → 0 ≤ (co k y).toInt ∧ (co k y).toInt ≤ 150000 * (su : Int)) ∧
  (∀ j, j < n → pic j < 2 ∧ SOk (sv j) ∧ ((sv j).1 = 0 ∨ (sv j).1 = 1 ∨ (sv j).1 = 2 ∨ (sv j).1 = 3) ∧ (sv j).2.2.1.toInt ≤ 1000 ∧ (sv j).2.2.2.toInt ≤ 1000) ∧ ∀ j, j < n → 0 ≤ (pd j).toInt
def NF (pic : Nat → Nat) (sv : Nat → Shr) (SM : Nat → Int32) (k : Nat) : Nat → Int32
  | 0 => 0
  | j + 1 => if pic j = k ∧ (sv j).1 = 1 then NF pic sv SM k j + SM j else NF pic sv SM k j
def LF (pic : Nat → Nat) (sv : Nat → Shr) (SM : Nat → Int32) (P : Int32) (k : Nat) : Nat → Int32
  | 0 => P
  | j + 1 => if pic j = k ∧ (sv j).1 = 2 then LF pic sv SM P k j - SM j else LF pic sv SM P k j
section VV
variable {now n st su : Nat} {pic : Nat → Nat} {tm : Nat → TM} {rc : Nat → Nat → Nat → Int32} {fe co : Nat → Nat → Int32} {cr : Int32} {sv : Nat → Shr} {pd : Nat → Int32}
theorem VL.sok (V : VL now n pic tm rc fe co cr sv pd st su) {k i : Nat} (hi : i < cnt pic k n) : SOk (shL pic sv k n i) ∧ (shL pic sv k n i).2.2.1.toInt ≤ 1000 ∧ (shL pic sv k n i).2.2.2.toInt ≤ 1000 := by
  obtain ⟨v1, v2, v3, v4, v5, v6, v7, v8, v9⟩ := V
  obtain ⟨j, hj, hp, hcj⟩ := cnt_ex pic k n hi
  subst hp
  subst hcj
  rw [shL_at n j hj rfl]
  exact ⟨(v8 j hj).2.1, (v8 j hj).2.2.2⟩
theorem VL.cok (V : VL now n pic tm rc fe co cr sv pd st su) (hst : st ≤ 18 ∧ su ≤ 18) {k : Nat} (hk : k < 2) : COk (lcon tm rc fe co pic sv n k) := by
  have hsh := fun i (hi : i < cnt pic k n) => (V.sok hi).1
  obtain ⟨v1, v2, v3, v4, v5, v6, v7, v8, v9⟩ := V
  obtain ⟨t1, t2, t3, t4⟩ := v4 k hk
  exact ⟨t1, t2, ⟨t3, Int.le_trans t4 (by decide)⟩, ⟨(v6 k hk).1, by have := (v6 k hk).2; show sumI (rc k) 10 ≤ _; omega⟩, fun w hw => v5 k w hk hw, fun y hy => (v7 k y hk hy).1, Nat.le_trans (cnt_le pic k n) v2, hsh⟩
theorem VL.bal (V : VL now n pic tm rc fe co cr sv pd st su) (hst : st ≤ 18 ∧ su ≤ 18) {y k : Nat} (hy : y ≤ 10) (hk : k < 2) : 0 ≤ (yRun cr (lcon tm rc fe co pic sv n) y k).2.2.2.2.1.toInt ∧ (yRun cr (lcon tm rc fe co pic sv n) y k).2.2.2.2.1.toInt ≤ 2000000000 := by
  have hc : ∀ k, k < 2 → COk (lcon tm rc fe co pic sv n k) := fun k hk => V.cok hst hk
  obtain ⟨v1, v2, v3, v4, v5, v6, v7, v8, v9⟩ := V
  have hf := yRun_fine (cr := cr) hc (fun k hk => by have := (v6 k hk).2; show sumI (rc k) 10 ≤ _; omega) (fun k y hk hy => by have := (v7 k y hk hy).2; show (co k y).toInt ≤ _; omega) (fun k hk => (v4 k hk).2.2.2) y hy k hk
  exact ⟨(yRun_ok hc y hy k hk).1, Int.le_trans hf (FBy_le y hy).2⟩
theorem VL.prof (V : VL now n pic tm rc fe co cr sv pd st su) (hst : st ≤ 18 ∧ su ≤ 18) {y k : Nat} (hy : y ≤ 10) (hk : k < 2) : 0 ≤ (yRun cr (lcon tm rc fe co pic sv n) y k).2.2.2.2.2.toInt ∧ (yRun cr (lcon tm rc fe co pic sv n) y k).2.2.2.2.2.toInt ≤ 3600000 := by
  have hc : ∀ k, k < 2 → COk (lcon tm rc fe co pic sv n k) := fun k hk => V.cok hst hk
  obtain ⟨b1, b2, b3, b4⟩ := yRun_ok (cr := cr) hc y hy k hk
  have h4 := (hc k hk).2.2.2.1
  have h1 := (hc k hk).1
  obtain ⟨a0, a1, -⟩ := sumA_rng h4 h1 y hy
  have m := sumI_mono h4.1 y 10 hy (Nat.le_refl _)
  have s := (V.2.2.2.2.2.1 k hk).2
  have s' : sumI (lcon tm rc fe co pic sv n k).2.2.2.1 10 ≤ 200000 * (st : Int) := s
  exact ⟨b3, by omega⟩
/-- the answers of gross, adjusted and fees -/
theorem VL.gaf (V : VL now n pic tm rc fe co cr sv pd st su) (hst : st ≤ 18 ∧ su ≤ 18) {y k : Nat} (hy : y ≤ 10) (hk : k < 2) : (yRun cr (lcon tm rc fe co pic sv n) y k).1.toInt = sumI (rc k) y ∧ 0 ≤ sumI (rc k) y ∧ sumI (rc k) y ≤ 3600000 ∧ (yRun cr (lcon tm rc fe co pic sv n) y k).2.1 = sumA (tm k).1 (rc k) y ∧ 0 ≤ (sumA (tm k).1 (rc k) y).toInt ∧ (sumA (tm k).1 (rc k) y).toInt ≤ sumI (rc k) y ∧ 0 ≤ (yRun cr (lcon tm rc fe co pic sv n) y k).2.2.1.toInt ∧ (yRun cr (lcon tm rc fe co pic sv n) y k).2.2.1.toInt ≤ sumI (rc k) y := by
  have hc := V.cok hst hk
  have h4 : RcOk (rc k) := hc.2.2.2.1
  have h1 : Rat (tm k).1 := hc.1
  have h5 : ∀ w, w < 4 → Rat (fe k w) := hc.2.2.2.2.1
  obtain ⟨s1, s2, s3, -⟩ := yRun_sums cr (lcon tm rc fe co pic sv n) k y
  obtain ⟨a0, a1, -⟩ := sumA_rng h4 h1 y hy
  have ee := sumE_rng h4 h5 y hy
  have m := sumI_mono h4.1 y 10 hy (Nat.le_refl _)
  have m0 := sumI_nn h4.1 y hy
  have s := (V.2.2.2.2.2.1 k hk).2
  rw [s1, s2, s3]
  exact ⟨sumG_int h4 y hy, m0, by omega, rfl, a0, a1, ee⟩
theorem VL.sum (V : VL now n pic tm rc fe co cr sv pd st su) (hst : st ≤ 18 ∧ su ≤ 18) {j : Nat} (hj : j < n) : 0 ≤ (sumL tm rc fe co cr pic sv n now j).toInt ∧ (sumL tm rc fe co cr pic sv n now j).toInt ≤ 512000000 :=
  sumF_rng (cr := cr) (c := lcon tm rc fe co pic sv n) (fun k hk => V.cok hst hk) V.1 (V.2.2.2.2.2.2.2.1 j hj).1 (V.2.2.2.2.2.2.2.1 j hj).2.1 (cnt_mono pic (pic j) n (Nat.le_of_lt hj))
theorem i32_nlt {a : Int32} (h : 0 ≤ a.toInt) : ¬ a < 0 := fun q => by
  have q2 := Int32.lt_iff_toInt_lt.mp q
  have e : ((0 : Int32)).toInt = 0 := rfl
  omega
theorem VL.sm0 (V : VL now n pic tm rc fe co cr sv pd st su) (hst : st ≤ 18 ∧ su ≤ 18) {j : Nat} (hj : j < n) : (Int64.toInt32 (sumL tm rc fe co cr pic sv n now j)).toInt = (sumL tm rc fe co cr pic sv n now j).toInt ∧ ¬ Int64.toInt32 (sumL tm rc fe co cr pic sv n now j) < 0 := by
  obtain ⟨h0, h1⟩ := V.sum hst hj
  have e := t32 h0 (by omega)
  exact ⟨e, i32_nlt (by omega)⟩
/-- what is left for the j-th, as the law counts it -/
theorem VL.left (V : VL now n pic tm rc fe co cr sv pd st su) (hst : st ≤ 18 ∧ su ≤ 18) {k : Nat} (hk : k < 2) {SM : Nat → Int32} (hSM : ∀ j, j < n → Int64.toInt32 (sumL tm rc fe co cr pic sv n now j) = SM j) {P : Int32} (hP : Int64.toInt32 (yRun cr (lcon tm rc fe co pic sv n) (now + 1) k).2.2.2.2.2 = P) : ∀ j, j ≤ n → LF pic sv SM P k j = Int64.toInt32 (leftN (yRun cr (lcon tm rc fe co pic sv n) (now + 1) k).2.2.2.2.2 (shL pic sv k n) (cnt pic k j))
  | 0, _ => hP.symm
  | j + 1, hj => by
    have ih := V.left hst hk hSM hP j (by omega)
    show (if pic j = k ∧ (sv j).1 = 2 then LF pic sv SM P k j - SM j else LF pic sv SM P k j) = _
    by_cases e : pic j = k
    · have es := shL_at (pic := pic) (sv := sv) (k := k) n j (by omega) e
      rw [cnt_T e]
      show _ = Int64.toInt32 (leftS (shL pic sv k n (cnt pic k j)) (leftN (yRun cr (lcon tm rc fe co pic sv n) (now + 1) k).2.2.2.2.2 (shL pic sv k n) (cnt pic k j)))
      rw [es]
      unfold leftS
      by_cases e2 : (sv j).1 = 2
      · rw [if_pos ⟨e, e2⟩, if_pos e2, ih, Int64.toInt32_sub, ← hSM j (by omega)]
        subst e
        have f0 : ¬ (sv j).1 = 0 := fun h => absurd (h.symm.trans e2) (by decide)
        have f1 : ¬ (sv j).1 = 1 := fun h => absurd (h.symm.trans e2) (by decide)
        unfold sumL sumF
        rw [if_neg f0, if_neg f1, if_pos e2]
      · rw [if_neg (fun h => e2 h.2), if_neg e2, ih]
    · rw [if_neg (fun h => e h.1), ih, cnt_F e]
theorem VL.leftR (V : VL now n pic tm rc fe co cr sv pd st su) (hst : st ≤ 18 ∧ su ≤ 18) {k : Nat} (hk : k < 2) {u : Nat} (hu : u ≤ cnt pic k n) : 0 ≤ (leftN (yRun cr (lcon tm rc fe co pic sv n) (now + 1) k).2.2.2.2.2 (shL pic sv k n) u).toInt ∧ (leftN (yRun cr (lcon tm rc fe co pic sv n) (now + 1) k).2.2.2.2.2 (shL pic sv k n) u).toInt ≤ 3600000 := by
  have hp := V.prof hst (y := now + 1) (by have := V.1; omega) hk
  have h := leftN_rng (sh := shL pic sv k n) hp.1 u (fun i hi => (V.sok (Nat.lt_of_lt_of_le hi hu)).1)
  exact ⟨h.1, Int.le_trans h.2 hp.2⟩
theorem VL.def2 (V : VL now n pic tm rc fe co cr sv pd st su) (hst : st ≤ 18 ∧ su ≤ 18) {k : Nat} (hk : k < 2) {SM : Nat → Int32} (hSM : ∀ j, j < n → Int64.toInt32 (sumL tm rc fe co cr pic sv n now j) = SM j) {P : Int32} (hP : Int64.toInt32 (yRun cr (lcon tm rc fe co pic sv n) (now + 1) k).2.2.2.2.2 = P) {j : Nat} (hj : j < n) (e : pic j = k) (e2 : (sv j).1 = 2) : SM j = if LF pic sv SM P k j < (sv j).2.1 then LF pic sv SM P k j else (sv j).2.1 := by
  have hl := V.left hst hk hSM hP j (by omega)
  have hr := V.leftR hst hk (u := cnt pic k j) (cnt_mono pic k n (by omega))
  rw [hl, ← hSM j hj]
  subst e
  have f0 : ¬ (sv j).1 = 0 := fun h => absurd (h.symm.trans e2) (by decide)
  have f1 : ¬ (sv j).1 = 1 := fun h => absurd (h.symm.trans e2) (by decide)
  have es : sumL tm rc fe co cr pic sv n now j = mn (sv j).2.1.toInt64 (leftN (yRun cr (lcon tm rc fe co pic sv n) (now + 1) (pic j)).2.2.2.2.2 (shL pic sv (pic j) n) (cnt pic (pic j) j)) := by
    unfold sumL sumF
    rw [if_neg f0, if_neg f1, if_pos e2]
  rw [es]
  generalize leftN (yRun cr (lcon tm rc fe co pic sv n) (now + 1) (pic j)).2.2.2.2.2 (shL pic sv (pic j) n) (cnt pic (pic j) j) = a at hr ⊢
  have et := t32 hr.1 (by omega)
  unfold mn
  by_cases h : a < (sv j).2.1.toInt64
  · have h2 := Int64.lt_iff_toInt_lt.mp h
    rw [w64] at h2
    rw [if_pos h, if_pos (Int32.lt_iff_toInt_lt.mpr (by rw [et]; exact h2))]
  · have h2 := (not_congr Int64.lt_iff_toInt_lt).mp h
    rw [w64] at h2
    rw [if_neg h, if_neg (fun q => h2 (by have q2 := Int32.lt_iff_toInt_lt.mp q; rw [et] at q2; exact q2)), Int32.toInt32_toInt64]
theorem share_10 {a : Int64} {q : Shr} (ha : 0 ≤ a.toInt) (hb : a.toInt ≤ 100000000000) (hq : SOk q) (h1 : q.2.2.1.toInt ≤ 1000) (h2 : q.2.2.2.toInt ≤ 1000) : (shareOf a q).toInt ≤ a.toInt / 10 := by
  have e := (shareOf_int ha hb hq).1
  have m := mn_rng (a := a) (b := q.2.1.toInt64) ha (by rw [w64]; exact hq.1)
  have p1 := Int.mul_le_mul_of_nonneg_left h1 m.1
  have p2 := Int.mul_le_mul_of_nonneg_left h2 (show 0 ≤ a.toInt - (mn a q.2.1.toInt64).toInt by omega)
  rw [e]
  omega
/-- the shares of the pool are at most the pool -/
theorem VL.net (V : VL now n pic tm rc fe co cr sv pd st su) (hst : st ≤ 18 ∧ su ≤ 18) {k : Nat} (hk : k < 2) {SM : Nat → Int32} (hSM : ∀ j, j < n → Int64.toInt32 (sumL tm rc fe co cr pic sv n now j) = SM j) {Q : Int} (hQ0 : 0 ≤ Q) (hQ1 : Q ≤ 360000) (hQ : (leftN (yRun cr (lcon tm rc fe co pic sv n) (now + 1) k).2.2.2.2.2 (shL pic sv k n) (cnt pic k n)).toInt / 10 ≤ Q) : ∀ j, j ≤ n → 0 ≤ (NF pic sv SM k j).toInt ∧ (NF pic sv SM k j).toInt ≤ (j : Int) * Q
  | 0, _ => ⟨Int.le_refl _, by rw [show ((0 : Nat) : Int) * Q = 0 from Int.zero_mul Q]; exact Int.le_refl _⟩
  | j + 1, hj => by
    have ih := V.net hst hk hSM hQ0 hQ1 hQ j (by omega)
    have hn8 := V.2.1
    have ej : ((j + 1 : Nat) : Int) * Q = (j : Int) * Q + Q := by rw [Int.natCast_add, Int.add_mul]; show _ + 1 * Q = _; rw [Int.one_mul]
    have hjQ : (j : Int) * Q ≤ 8 * Q := Int.mul_le_mul_of_nonneg_right (by omega) hQ0
    show 0 ≤ (if pic j = k ∧ (sv j).1 = 1 then NF pic sv SM k j + SM j else NF pic sv SM k j).toInt ∧ (if pic j = k ∧ (sv j).1 = 1 then NF pic sv SM k j + SM j else NF pic sv SM k j).toInt ≤ _
    rw [ej]
    by_cases e : pic j = k ∧ (sv j).1 = 1
    · rw [if_pos e]
      obtain ⟨e1, e2⟩ := e
      have f0 : ¬ (sv j).1 = 0 := fun h => absurd (h.symm.trans e2) (by decide)
      have hs := V.sm0 hst (j := j) (by omega)
      have hr := V.sum hst (j := j) (by omega)
      rw [hSM j (by omega)] at hs
      have v8 := V.2.2.2.2.2.2.2.1 j (by omega)
      have es : sumL tm rc fe co cr pic sv n now j = shareOf (leftN (yRun cr (lcon tm rc fe co pic sv n) (now + 1) k).2.2.2.2.2 (shL pic sv k n) (cnt pic k n)) (sv j) := by
        subst e1
        unfold sumL sumF
        rw [if_neg f0, if_pos e2]
      have hl := V.leftR hst hk (u := cnt pic k n) (Nat.le_refl _)
      have h10 := share_10 (q := sv j) hl.1 (by omega) v8.2.1 v8.2.2.2.1 v8.2.2.2.2
      rw [← es] at h10
      rw [a32 (by omega) (by omega)]
      omega
    · rw [if_neg e]
      omega
/-- pools: what the law asks -/
theorem VL.pools (V : VL now n pic tm rc fe co cr sv pd st su) (hst : st ≤ 18 ∧ su ≤ 18) {k : Nat} (hk : k < 2) {SM : Nat → Int32} (hSM : ∀ j, j < n → Int64.toInt32 (sumL tm rc fe co cr pic sv n now j) = SM j) {P : Int32} (hP : Int64.toInt32 (yRun cr (lcon tm rc fe co pic sv n) (now + 1) k).2.2.2.2.2 = P) :
    Int64.toInt32 (leftN (yRun cr (lcon tm rc fe co pic sv n) (now + 1) k).2.2.2.2.2 (shL pic sv k n) (cnt pic k n)) = LF pic sv SM P k n ∧ ¬ LF pic sv SM P k n < 0 ∧ ¬ NF pic sv SM k n > LF pic sv SM P k n := by
  have hl := V.left hst hk hSM hP n (Nat.le_refl _)
  have hr := V.leftR hst hk (u := cnt pic k n) (Nat.le_refl _)
  have et := t32 hr.1 (by omega)
  have hn := V.net hst hk hSM (Q := (leftN (yRun cr (lcon tm rc fe co pic sv n) (now + 1) k).2.2.2.2.2 (shL pic sv k n) (cnt pic k n)).toInt / 10) (by omega) (by omega) (Int.le_refl _) n (Nat.le_refl _)
  have hn8 := V.2.1
  have h8 := Int.mul_le_mul_of_nonneg_right (show (n : Int) ≤ 8 by omega) (show 0 ≤ (leftN (yRun cr (lcon tm rc fe co pic sv n) (now + 1) k).2.2.2.2.2 (shL pic sv k n) (cnt pic k n)).toInt / 10 by omega)
  refine ⟨hl.symm, by rw [hl]; exact i32_nlt (by omega), fun q => ?_⟩
  have q2 := Int32.lt_iff_toInt_lt.mp q
  rw [hl, et] at q2
  omega
/-- years: what the law asks; LY is the profit of the year before -/
def LY (PF : Nat → Int32) : Nat → Int32
  | 0 => 0
  | y + 1 => PF y
theorem VL.years (V : VL now n pic tm rc fe co cr sv pd st su) (hst : st ≤ 18 ∧ su ≤ 18) {k : Nat} (hk : k < 2) {PF BF : Nat → Int32} (hPF : ∀ y, y ≤ now → Int64.toInt32 (yRun cr (lcon tm rc fe co pic sv n) (y + 1) k).2.2.2.2.2 = PF y) (hBF : ∀ y, y ≤ now → Int64.toInt32 (yRun cr (lcon tm rc fe co pic sv n) (y + 1) k).2.2.2.2.1 = BF y) {y : Nat} (hy : y ≤ now) : ¬ BF y < 0 ∧ ¬ PF y < LY PF y ∧ (cr = 0 → PF y > LY PF y → BF y = 0) := by
  have hn := V.1
  have hc : ∀ k, k < 2 → COk (lcon tm rc fe co pic sv n k) := fun k hk => V.cok hst hk
  have b := V.bal hst (y := y + 1) (by omega) hk
  have p1 := V.prof hst (y := y + 1) (by omega) hk
  have p0 := V.prof hst (y := y) (by omega) hk
  have eb := t32 b.1 (by omega)
  have e1 := t32 p1.1 (by omega)
  have e0 := t32 p0.1 (by omega)
  obtain ⟨m1, m2⟩ := yRun_mono (cr := cr) hc (y := y) (k := k) (by omega) hk
  have hl : LY PF y = Int64.toInt32 (yRun cr (lcon tm rc fe co pic sv n) y k).2.2.2.2.2 := by
    cases y with
    | zero => rfl
    | succ y => exact (hPF y (by omega)).symm
  rw [hl, ← hPF y hy, ← hBF y hy]
  refine ⟨i32_nlt (by omega), fun q => ?_, fun h0 q => ?_⟩
  · have q2 := Int32.lt_iff_toInt_lt.mp q
    omega
  · have q2 := Int32.lt_iff_toInt_lt.mp q
    rw [m2 h0 (fun h => by rw [h] at q2; omega)]
    rfl
theorem VL.gafL (V : VL now n pic tm rc fe co cr sv pd st su) (hst : st ≤ 18 ∧ su ≤ 18) {k : Nat} (hk : k < 2) {G A F : Int32} (hG : Int64.toInt32 (yRun cr (lcon tm rc fe co pic sv n) (now + 1) k).1 = G) (hA : Int64.toInt32 (yRun cr (lcon tm rc fe co pic sv n) (now + 1) k).2.1 = A) (hF : Int64.toInt32 (yRun cr (lcon tm rc fe co pic sv n) (now + 1) k).2.2.1 = F) : ¬ A > G ∧ ¬ F > G ∧ ¬ F < 0 := by
  have hn := V.1
  obtain ⟨g1, g2, g3, g4, g5, g6, g7, g8⟩ := V.gaf hst (y := now + 1) (by omega) hk
  rw [← g4] at g5 g6
  have eg := t32 (S := (yRun cr (lcon tm rc fe co pic sv n) (now + 1) k).1) (by omega) (by omega)
  have ea := t32 g5 (by omega)
  have ef := t32 g7 (by omega)
  rw [hG] at eg
  rw [hA] at ea
  rw [hF] at ef
  refine ⟨fun q => ?_, fun q => ?_, i32_nlt (by omega)⟩
  · have q2 := Int32.lt_iff_toInt_lt.mp q
    omega
  · have q2 := Int32.lt_iff_toInt_lt.mp q
    omega
end VV
