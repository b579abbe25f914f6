/-! Finer ranges: what 18 turns of the law can make of the books. -/
theorem t32 {S : Int64} (h0 : 0 ≤ S.toInt) (h1 : S.toInt < 2147483648) : (Int64.toInt32 S).toInt = S.toInt := by
  rw [Int64.toInt_toInt32]
  exact Int.bmod_eq_of_le (by omega) (by omega)
def FBy : Nat → Int
  | 0 => 0
  | y + 1 => (FBy y + 46000000) * 6 / 5 + 1
theorem FBy_le : ∀ y, y ≤ 10 → 0 ≤ FBy y ∧ FBy y ≤ 2000000000 := by decide
theorem costN_fine {a g : Int64} {sh : Nat → Shr} (ha : 0 ≤ a.toInt) (hb : a.toInt ≤ 3600000) : ∀ n, n ≤ 8 → (∀ i, i < n → SOk (sh i)) → (costN a g sh n).toInt ≤ 4600000 * (n : Int)
  | 0, _, _ => Int.le_refl _
  | n + 1, hn, h => by
    have ih := costN_fine (g := g) (sh := sh) ha hb n (by omega) (fun i hi => h i (Nat.lt_succ_of_lt hi))
    have i0 := costN_rng (g := g) (sh := sh) ha (by omega) n (by omega) (fun i hi => h i (Nat.lt_succ_of_lt hi))
    have hs := h n (Nat.lt_succ_self n)
    have h1 := shareOf_int ha (by omega) hs
    have h2 := bonusAt_rng (g := g) hs
    show (costS a g (sh n) (costN a g sh n)).toInt ≤ _
    unfold costS
    split
    · rw [a64 rfl rfl (by omega) (by omega)]
      omega
    · split
      · rw [a64 rfl rfl (by omega) (by omega)]
        omega
      · omega
theorem yX_fine {cr : Int32} {c : Nat → PCon} {k y : Nat} (hc : COk (c k)) (hy : y < 10) (hB : BOk (c k) y (yRun cr c y k)) {M : Int} (hM : (yRun cr c y k).2.2.2.2.1.toInt ≤ M) (hM2 : M ≤ 2000000000) (hs6 : sumI (c k).2.2.2.1 10 ≤ 3600000) (hco : ((c k).2.2.2.2.2.1 y).toInt ≤ 2700000) : (yX (c k) y (yRun cr c y k)).toInt ≤ M + 46000000 := by
  obtain ⟨c1, c2, c3, c4, c5, c6, c7, c8⟩ := hc
  obtain ⟨b1, b2, b3, b4⟩ := hB
  obtain ⟨s1, s2, s3, s4⟩ := yRun_sums cr c k y
  obtain ⟨a0, a1, a2⟩ := sumA_rng c4 c1 y (by omega)
  obtain ⟨a3, a4, -⟩ := sumA_rng c4 c1 (y + 1) (by omega)
  have a5 := a2 hy
  have m0 := sumI_nn c4.1 y (by omega)
  have m1 := sumI_mono c4.1 y 10 (by omega) (Nat.le_refl _)
  have m2 := sumI_mono c4.1 (y + 1) 10 (by omega) (Nat.le_refl _)
  have g0 := sumG_int c4 y (by omega)
  have g1 := sumG_int c4 (y + 1) (by omega)
  have m3 := sumI_mono c4.1 y (y + 1) (by omega) (by omega)
  have gr : (grossY ((c k).2.2.2.1 y)).toInt = rowI ((c k).2.2.2.1 y) := grossY_int (fun w hw => c4.1 y w hy hw)
  have em : sumI (c k).2.2.2.1 (y + 1) = sumI (c k).2.2.2.1 y + rowI ((c k).2.2.2.1 y) := rfl
  have ad := adY_rng (f := (c k).2.2.2.1 y) (fun w hw => c4.1 y w hy hw) c1
  have fe := feesY_rng (f := (c k).2.2.2.1 y) (fun w hw => c4.1 y w hy hw) c5
  have co := r32 ((c k).2.2.2.2.2.1 y)
  have co0 := c6 y hy
  have pc := (prt_int (a := ((c k).2.2.2.2.2.1 y).toInt64) (r := (c k).2.1) (by rw [w64]; exact co0) (by rw [w64]; omega) c2).2
  rw [w64] at pc
  have S1 : recS (c k).1 ((c k).2.2.2.1 y) (c k).2.2.2.2.2.2.1 (c k).2.2.2.2.2.2.2 (yRun cr c y k) = costN (sumA (c k).1 (c k).2.2.2.1 (y + 1)) (sumG (c k).2.2.2.1 (y + 1)) (c k).2.2.2.2.2.2.1 (c k).2.2.2.2.2.2.2 := by
    unfold recS
    rw [s1, s2]
    rfl
  have r0 := costN_rng (g := sumG (c k).2.2.2.1 (y + 1)) (sh := (c k).2.2.2.2.2.2.1) a3 (by omega) _ c7 c8
  have r1 := costN_fine (g := sumG (c k).2.2.2.1 (y + 1)) (sh := (c k).2.2.2.2.2.2.1) a3 (by omega) _ c7 c8
  have nb : ((c k).2.2.2.2.2.2.2 : Int) ≤ 8 := by omega
  have hS0 : 0 ≤ (yRun cr c y k).2.2.2.1.toInt ∧ (yRun cr c y k).2.2.2.1.toInt ≤ (recS (c k).1 ((c k).2.2.2.1 y) (c k).2.2.2.2.2.2.1 (c k).2.2.2.2.2.2.2 (yRun cr c y k)).toInt := by
    rw [S1, s4]
    split
    · exact ⟨by decide, r0.1⟩
    · exact ⟨(costN_rng a0 (by omega) _ c7 c8).1, costN_mono a0 (by omega) (by omega) (by omega) _ c7 c8⟩
  rw [← S1] at r1 r0
  unfold yX recX
  have e1 := a64 (w64 ((c k).2.2.2.2.2.1 y)) (rfl : (prt ((c k).2.2.2.2.2.1 y).toInt64 (c k).2.1).toInt = _) (by omega) (by omega)
  have e2 := a64 e1 (rfl : (recS (c k).1 ((c k).2.2.2.1 y) (c k).2.2.2.2.2.2.1 (c k).2.2.2.2.2.2.2 (yRun cr c y k)).toInt = _) (by omega) (by omega)
  have e3 := s64 e2 (rfl : (yRun cr c y k).2.2.2.1.toInt = _) (by omega) (by omega)
  have e4 := a64 (rfl : (yRun cr c y k).2.2.2.2.1.toInt = _) e3 (by omega) (by omega)
  have e5 := s64 (rfl : (adY (c k).1 ((c k).2.2.2.1 y)).toInt = _) (rfl : (feesY ((c k).2.2.2.1 y) (c k).2.2.2.2.1).toInt = _) (by omega) (by omega)
  rw [s64 e4 e5 (by omega) (by omega)]
  omega
theorem finB_fine {it : Int32} {B : BK} {M : Int} (hi : Rat it) (hi2 : it.toInt ≤ 2000) (h1 : 0 ≤ B.2.2.2.2.1.toInt) (h2 : B.2.2.2.2.1.toInt ≤ M) (hM : M ≤ 100000000000000) : (finB it B).2.2.2.2.1.toInt ≤ M * 6 / 5 + 1 := by
  have p := prt_int h1 (by omega) hi
  have q := Int.mul_le_mul_of_nonneg_left hi2 h1
  show (B.2.2.2.2.1 + prt B.2.2.2.2.1 it).toInt ≤ M * 6 / 5 + 1
  rw [a64 rfl rfl (by omega) (by omega)]
  omega
theorem mvS_low {g : Int64} {f t : Nat} {S : Nat → BK} (hg : 0 ≤ g.toInt) (hf : g.toInt ≤ (S f).2.2.2.2.2.toInt) (ht : 0 ≤ (S t).2.2.2.2.1.toInt) : (S f).2.2.2.2.2.toInt - g.toInt ≤ (mvS g f t S f).2.2.2.2.2.toInt := by
  have m := mn_rng hg ht
  have b := Int64.toInt_lt (S f).2.2.2.2.2
  have e : mvS g f t S f = takeP (S f) (mn g (S t).2.2.2.2.1) := if_pos rfl
  rw [e]
  show _ ≤ ((S f).2.2.2.2.2 - mn g (S t).2.2.2.2.1).toInt
  rw [s64 rfl rfl (by omega) (by omega)]
  omega
theorem yRun_fine {cr : Int32} {c : Nat → PCon} (hc : ∀ k, k < 2 → COk (c k)) (hs : ∀ k, k < 2 → sumI (c k).2.2.2.1 10 ≤ 3600000) (hco : ∀ k y, k < 2 → y < 10 → ((c k).2.2.2.2.2.1 y).toInt ≤ 2700000) (hit : ∀ k, k < 2 → (c k).2.2.1.toInt ≤ 2000) : ∀ y, y ≤ 10 → ∀ k, k < 2 → (yRun cr c y k).2.2.2.2.1.toInt ≤ FBy y
  | 0, _, k, hk => Int.le_refl _
  | y + 1, hy, k, hk => by
    have ih := yRun_fine (cr := cr) hc hs hco hit y (by omega)
    have ok := yRun_ok (cr := cr) hc y (by omega)
    have mb := FBy_le y (by omega)
    have r0 := yRec_ok (hc 0 (by decide)) (by omega) (ok 0 (by decide))
    have r1 := yRec_ok (hc 1 (by decide)) (by omega) (ok 1 (by decide))
    have f : ∀ k, k < 2 → (yRec (c k) y (yRun cr c y k)).2.2.2.2.1.toInt ≤ FBy y + 46000000 := fun k hk => by
      by_cases h : yX (c k) y (yRun cr c y k) < 0
      · rw [(yN h).2.1]
        show (0 : Int) ≤ _
        omega
      · rw [(yP h).2.1]
        exact yX_fine (hc k hk) (by omega) (ok k hk) (ih k hk) mb.2 (hs k hk) (hco k y hk (by omega))
    obtain ⟨p1, p2, p3, p4, p5⟩ := r0
    obtain ⟨q1, q2, q3, q4, q5⟩ := r1
    show (yStep cr c y (yRun cr c y) k).2.2.2.2.1.toInt ≤ (FBy y + 46000000) * 6 / 5 + 1
    unfold yStep
    have key : ∀ (S : Nat → BK), (∀ k, k < 2 → 0 ≤ (S k).2.2.2.2.1.toInt ∧ (S k).2.2.2.2.1.toInt ≤ FBy y + 46000000) → (finB (c k).2.2.1 (S k)).2.2.2.2.1.toInt ≤ (FBy y + 46000000) * 6 / 5 + 1 := fun S hS => finB_fine (hc k hk).2.2.1 (hit k hk) (hS k hk).1 (hS k hk).2 (by omega)
    by_cases h : cr = 0
    · rw [if_pos h]
      refine key (fun k => yRec (c k) y (yRun cr c y k)) (fun k hk => ⟨?_, f k hk⟩)
      rcases (show k = 0 ∨ k = 1 by omega) with rfl | rfl
      · exact p1
      · exact q1
    · rw [if_neg h]
      have m1 := mvS_ok (S := fun k => yRec (c k) y (yRun cr c y k)) (f := 0) (t := 1) (M := FBy y + 46000000) (by decide) p3 p4 ⟨q1, f 1 (by decide)⟩ (by omega)
      obtain ⟨⟨n1, n2, n3⟩, n4, n5, n6⟩ := m1
      have e1 : (mvS (yGain (c 0) y (yRun cr c y 0)) 0 1 (fun k => yRec (c k) y (yRun cr c y k)) 0).2.2.2.2.1 = (yRec (c 0) y (yRun cr c y 0)).2.2.2.2.1 := n3
      have e2 : (mvS (yGain (c 0) y (yRun cr c y 0)) 0 1 (fun k => yRec (c k) y (yRun cr c y k)) 1).2.2.2.2.2 = (yRec (c 1) y (yRun cr c y 1)).2.2.2.2.2 := n6
      have m2 := mvS_ok (S := mvS (yGain (c 0) y (yRun cr c y 0)) 0 1 (fun k => yRec (c k) y (yRun cr c y k))) (f := 1) (t := 0) (M := FBy y + 46000000) (by decide) q3 (by rw [e2]; exact q4) (by rw [e1]; exact ⟨p1, f 0 (by decide)⟩) (by omega)
      obtain ⟨⟨t1, t2, t3⟩, t4, t5, t6⟩ := m2
      refine key (mvS (yGain (c 1) y (yRun cr c y 1)) 1 0 (mvS (yGain (c 0) y (yRun cr c y 0)) 0 1 (fun k => yRec (c k) y (yRun cr c y k)))) (fun k hk => ?_)
      rcases (show k = 0 ∨ k = 1 by omega) with rfl | rfl
      · exact ⟨t4, t5⟩
      · rw [t3]
        exact ⟨n4, n5⟩
/-- what a year got stands in the profit -/
theorem yRec_prof {cr : Int32} {c : Nat → PCon} {k y : Nat} (hc : COk (c k)) (hy : y < 10) (hB : BOk (c k) y (yRun cr c y k)) : (yRec (c k) y (yRun cr c y k)).2.2.2.2.2.toInt = (yRun cr c y k).2.2.2.2.2.toInt + (yGain (c k) y (yRun cr c y k)).toInt := by
  obtain ⟨x1, x2⟩ := yX_rng hc hy hB
  obtain ⟨c1, c2, c3, c4, c5, c6, c7, c8⟩ := hc
  obtain ⟨b1, b2, b3, b4⟩ := hB
  obtain ⟨a0, a1, a2⟩ := sumA_rng c4 c1 y (by omega)
  have a5 := a2 hy
  obtain ⟨a3, a4, -⟩ := sumA_rng c4 c1 (y + 1) (by omega)
  have m2 := sumI_mono c4.1 (y + 1) 10 (by omega) (Nat.le_refl _)
  have hs := c4.2
  have mb := MB_le y (by omega)
  by_cases h : yX (c k) y (yRun cr c y k) < 0
  · obtain ⟨e1, e2, e3⟩ := yN h
    have hx : (yX (c k) y (yRun cr c y k)).toInt < 0 := Int64.lt_iff_toInt_lt.mp h
    have en := n64 (rfl : (yX (c k) y (yRun cr c y k)).toInt = _) (by omega) (by omega)
    rw [e1, e3, a64 rfl en (by omega) (by omega), en]
  · obtain ⟨e1, e2, e3⟩ := yP h
    rw [e1, e3, show ((0 : Int64)).toInt = 0 from rfl]
    omega
theorem finB_0 {it : Int32} {B : BK} (hi : Rat it) (h : B.2.2.2.2.1 = 0) : (finB it B).2.2.2.2.1 = 0 := by
  have p := prt_int (a := 0) (r := it) (by decide) (by decide) hi
  have e0 : ((0 : Int64)).toInt = 0 := rfl
  show B.2.2.2.2.1 + prt B.2.2.2.2.1 it = 0
  rw [h]
  apply Int64.toInt_inj.mp
  rw [a64 e0 rfl (by omega) (by omega)]
  omega
/-- profits never fall; where nothing is crossed, a year that adds to them leaves no balance -/
theorem yRun_mono {cr : Int32} {c : Nat → PCon} (hc : ∀ k, k < 2 → COk (c k)) {y k : Nat} (hy : y < 10) (hk : k < 2) : (yRun cr c y k).2.2.2.2.2.toInt ≤ (yRun cr c (y + 1) k).2.2.2.2.2.toInt ∧ (cr = 0 → (yRun cr c (y + 1) k).2.2.2.2.2 ≠ (yRun cr c y k).2.2.2.2.2 → (yRun cr c (y + 1) k).2.2.2.2.1 = 0) := by
  have ok := yRun_ok (cr := cr) hc y (by omega)
  have pr : ∀ k, k < 2 → _ := fun k hk => yRec_prof (hc k hk) hy (ok k hk)
  have mb := MB_le y (by omega)
  obtain ⟨p1, p2, p3, p4, p5⟩ := yRec_ok (hc 0 (by decide)) hy (ok 0 (by decide))
  obtain ⟨q1, q2, q3, q4, q5⟩ := yRec_ok (hc 1 (by decide)) hy (ok 1 (by decide))
  have pr0 := pr 0 (by decide)
  have pr1 := pr 1 (by decide)
  show (yRun cr c y k).2.2.2.2.2.toInt ≤ (yStep cr c y (yRun cr c y) k).2.2.2.2.2.toInt ∧ (cr = 0 → (yStep cr c y (yRun cr c y) k).2.2.2.2.2 ≠ (yRun cr c y k).2.2.2.2.2 → (yStep cr c y (yRun cr c y) k).2.2.2.2.1 = 0)
  unfold yStep
  by_cases h : cr = 0
  · rw [if_pos h]
    refine ⟨?_, fun _ hne => ?_⟩
    · show _ ≤ (yRec (c k) y (yRun cr c y k)).2.2.2.2.2.toInt
      rcases (show k = 0 ∨ k = 1 by omega) with rfl | rfl
      · rw [pr0]; omega
      · rw [pr1]; omega
    · have hne2 : (yRec (c k) y (yRun cr c y k)).2.2.2.2.2 ≠ (yRun cr c y k).2.2.2.2.2 := hne
      by_cases hx : yX (c k) y (yRun cr c y k) < 0
      · exact finB_0 (hc k hk).2.2.1 (yN hx).2.1
      · exact absurd (yP hx).2.2 hne2
  · rw [if_neg h]
    refine ⟨?_, fun h0 => absurd h0 h⟩
    show _ ≤ (mvS (yGain (c 1) y (yRun cr c y 1)) 1 0 (mvS (yGain (c 0) y (yRun cr c y 0)) 0 1 (fun k => yRec (c k) y (yRun cr c y k))) k).2.2.2.2.2.toInt
    have m1 := mvS_ok (S := fun k => yRec (c k) y (yRun cr c y k)) (f := 0) (t := 1) (M := MB y + 20000000000) (by decide) p3 p4 ⟨q1, q2⟩ (by omega)
    obtain ⟨⟨n1, n2, n3⟩, n4, n5, n6⟩ := m1
    have l1 := mvS_low (S := fun k => yRec (c k) y (yRun cr c y k)) (f := 0) (t := 1) p3 p4 q1
    have e1 : (mvS (yGain (c 0) y (yRun cr c y 0)) 0 1 (fun k => yRec (c k) y (yRun cr c y k)) 0).2.2.2.2.1 = (yRec (c 0) y (yRun cr c y 0)).2.2.2.2.1 := n3
    have e2 : (mvS (yGain (c 0) y (yRun cr c y 0)) 0 1 (fun k => yRec (c k) y (yRun cr c y k)) 1).2.2.2.2.2 = (yRec (c 1) y (yRun cr c y 1)).2.2.2.2.2 := n6
    have m2 := mvS_ok (S := mvS (yGain (c 0) y (yRun cr c y 0)) 0 1 (fun k => yRec (c k) y (yRun cr c y k))) (f := 1) (t := 0) (M := MB y + 20000000000) (by decide) q3 (by rw [e2]; exact q4) (by rw [e1]; exact ⟨p1, p2⟩) (by omega)
    obtain ⟨⟨t1, t2, t3⟩, t4, t5, t6⟩ := m2
    have l2 := mvS_low (S := mvS (yGain (c 0) y (yRun cr c y 0)) 0 1 (fun k => yRec (c k) y (yRun cr c y k))) (f := 1) (t := 0) q3 (by rw [e2]; exact q4) (by rw [e1]; exact p1)
    rw [e2] at l2
    rcases (show k = 0 ∨ k = 1 by omega) with rfl | rfl
    · rw [t6]
      have l1' : (yRec (c 0) y (yRun cr c y 0)).2.2.2.2.2.toInt - (yGain (c 0) y (yRun cr c y 0)).toInt ≤ _ := l1
      omega
    · omega
theorem sumE_rng {rc : Nat → Nat → Int32} {fe : Nat → Int32} (h : RcOk rc) (hf : ∀ w, w < 4 → Rat (fe w)) : ∀ y, y ≤ 10 → 0 ≤ (sumE rc fe y).toInt ∧ (sumE rc fe y).toInt ≤ sumI rc y
  | 0, _ => ⟨Int.le_refl _, Int.le_refl _⟩
  | y + 1, hy => by
    have ih := sumE_rng h hf y (by omega)
    have q := feesY_rng (f := rc y) (g := fe) (fun w hw => h.1 y w (by omega) hw) hf
    have g : (grossY (rc y)).toInt = rowI (rc y) := grossY_int (fun w hw => h.1 y w (by omega) hw)
    have m2 := sumI_mono h.1 (y + 1) 10 hy (Nat.le_refl _)
    have e : sumI rc (y + 1) = sumI rc y + rowI (rc y) := rfl
    have hs := h.2
    show 0 ≤ (sumE rc fe y + feesY (rc y) fe).toInt ∧ (sumE rc fe y + feesY (rc y) fe).toInt ≤ sumI rc (y + 1)
    rw [a64 rfl rfl (by omega) (by omega)]
    omega
theorem adY_mono {top : Int32} {f g : Nat → Int32} (h : ∀ w, w < 4 → 0 ≤ (f w).toInt ∧ (f w).toInt ≤ (g w).toInt) (ht : Rat top) : (adY top f).toInt ≤ (adY top g).toInt := by
  have b0 := r32 (g 0)
  have b1 := r32 (g 1)
  have b2 := r32 (g 2)
  have b3 := r32 (g 3)
  have h0 := h 0 (by decide)
  have h1 := h 1 (by decide)
  have h2 := h 2 (by decide)
  have h3 := h 3 (by decide)
  have ef := grossY_int (f := f) (fun w hw => (h w hw).1)
  have eg := grossY_int (f := g) (fun w hw => Int.le_trans (h w hw).1 (h w hw).2)
  have qf := prt_int (a := grossY f) (r := top) (by rw [ef]; omega) (by rw [ef]; omega) ht
  have qg := prt_int (a := grossY g) (r := top) (by rw [eg]; omega) (by rw [eg]; omega) ht
  have d : 0 ≤ (grossY g).toInt - (grossY f).toInt := by omega
  have p := Int.mul_le_mul_of_nonneg_left ht.2 d
  rw [Int.sub_mul] at p
  unfold adY
  rw [s64 rfl rfl (by omega) (by omega), s64 rfl rfl (by omega) (by omega)]
  omega
theorem sumA_mono {top : Int32} {f g : Nat → Nat → Int32} (hf : RcOk f) (hg : RcOk g) (h : ∀ y w, y < 10 → w < 4 → (f y w).toInt ≤ (g y w).toInt) (ht : Rat top) : ∀ y, y ≤ 10 → (sumA top f y).toInt ≤ (sumA top g y).toInt
  | 0, _ => Int.le_refl _
  | y + 1, hy => by
    have ih := sumA_mono hf hg h ht y (by omega)
    have e1 := (sumA_rng hf ht y (by omega)).2.2 (by omega)
    have e2 := (sumA_rng hg ht y (by omega)).2.2 (by omega)
    have m := adY_mono (top := top) (f := f y) (g := g y) (fun w hw => ⟨hf.1 y w (by omega) hw, h y w (by omega) hw⟩) ht
    rw [e1, e2]
    omega
theorem sumI_mono2 {f g : Nat → Nat → Int32} (h : ∀ y w, y < 10 → w < 4 → (f y w).toInt ≤ (g y w).toInt) : ∀ y, y ≤ 10 → sumI f y ≤ sumI g y
  | 0, _ => Int.le_refl _
  | y + 1, hy => by
    have ih := sumI_mono2 h y (by omega)
    have h0 := h y 0 (by omega) (by decide)
    have h1 := h y 1 (by omega) (by decide)
    have h2 := h y 2 (by omega) (by decide)
    have h3 := h y 3 (by omega) (by decide)
    have e1 : sumI f (y + 1) = sumI f y + ((f y 0).toInt + (f y 1).toInt + (f y 2).toInt + (f y 3).toInt) := rfl
    have e2 : sumI g (y + 1) = sumI g y + ((g y 0).toInt + (g y 1).toInt + (g y 2).toInt + (g y 3).toInt) := rfl
    omega
