/-! Counting by pictures; what the years sum up to. -/
def cnt (pic : Nat → Nat) (p : Nat) : Nat → Nat
  | 0 => 0
  | j + 1 => if pic j = p then cnt pic p j + 1 else cnt pic p j
theorem cnt_le (pic : Nat → Nat) (p : Nat) : ∀ j, cnt pic p j ≤ j
  | 0 => Nat.le_refl 0
  | j + 1 => by
    have h := cnt_le pic p j
    show (if pic j = p then cnt pic p j + 1 else cnt pic p j) ≤ j + 1
    split <;> omega
theorem cnt_mono (pic : Nat → Nat) (p : Nat) {i : Nat} : ∀ j, i ≤ j → cnt pic p i ≤ cnt pic p j
  | 0, h => by rw [show i = 0 by omega]; exact Nat.le_refl _
  | j + 1, h => by
    by_cases e : i = j + 1
    · subst e
      exact Nat.le_refl _
    · have h1 := cnt_mono pic p j (show i ≤ j by omega)
      refine Nat.le_trans h1 ?_
      show cnt pic p j ≤ (if pic j = p then cnt pic p j + 1 else cnt pic p j)
      split <;> omega
theorem cnt_T {pic : Nat → Nat} {p j : Nat} (h : pic j = p) : cnt pic p (j + 1) = cnt pic p j + 1 := if_pos h
theorem cnt_F {pic : Nat → Nat} {p j : Nat} (h : ¬ pic j = p) : cnt pic p (j + 1) = cnt pic p j := if_neg h
def sumG (rc : Nat → Nat → Int32) : Nat → Int64
  | 0 => 0
  | y + 1 => sumG rc y + grossY (rc y)
def sumA (top : Int32) (rc : Nat → Nat → Int32) : Nat → Int64
  | 0 => 0
  | y + 1 => sumA top rc y + adY top (rc y)
def sumE (rc : Nat → Nat → Int32) (fe : Nat → Int32) : Nat → Int64
  | 0 => 0
  | y + 1 => sumE rc fe y + feesY (rc y) fe
theorem mvS_keep (g : Int64) (f t : Nat) (S : Nat → BK) (k : Nat) : (mvS g f t S k).1 = (S k).1 ∧ (mvS g f t S k).2.1 = (S k).2.1 ∧ (mvS g f t S k).2.2.1 = (S k).2.2.1 ∧ (mvS g f t S k).2.2.2.1 = (S k).2.2.2.1 := by
  unfold mvS
  by_cases h1 : k = f
  · subst h1
    rw [if_pos rfl]
    exact ⟨rfl, rfl, rfl, rfl⟩
  · rw [if_neg h1]
    by_cases h2 : k = t
    · subst h2
      rw [if_pos rfl]
      exact ⟨rfl, rfl, rfl, rfl⟩
    · rw [if_neg h2]
      exact ⟨rfl, rfl, rfl, rfl⟩
theorem yStep_keep (cr : Int32) (c : Nat → PCon) (y : Nat) (S : Nat → BK) (k : Nat) : (yStep cr c y S k).1 = (yRec (c k) y (S k)).1 ∧ (yStep cr c y S k).2.1 = (yRec (c k) y (S k)).2.1 ∧ (yStep cr c y S k).2.2.1 = (yRec (c k) y (S k)).2.2.1 ∧ (yStep cr c y S k).2.2.2.1 = (yRec (c k) y (S k)).2.2.2.1 := by
  unfold yStep finB
  by_cases h : cr = 0
  · rw [if_pos h]
    exact ⟨rfl, rfl, rfl, rfl⟩
  · rw [if_neg h]
    have h1 := mvS_keep (yGain (c 1) y (S 1)) 1 0 (mvS (yGain (c 0) y (S 0)) 0 1 (fun k => yRec (c k) y (S k))) k
    have h2 := mvS_keep (yGain (c 0) y (S 0)) 0 1 (fun k => yRec (c k) y (S k)) k
    exact ⟨h1.1.trans h2.1, h1.2.1.trans h2.2.1, h1.2.2.1.trans h2.2.2.1, h1.2.2.2.trans h2.2.2.2⟩
theorem recB_keep (top ovh : Int32) (rc fe : Nat → Int32) (co : Int32) (sh : Nat → Shr) (n : Nat) (B : BK) : (recB top ovh rc fe co sh n B).1 = B.1 + grossY rc ∧ (recB top ovh rc fe co sh n B).2.1 = B.2.1 + adY top rc ∧ (recB top ovh rc fe co sh n B).2.2.1 = B.2.2.1 + feesY rc fe ∧ (recB top ovh rc fe co sh n B).2.2.2.1 = recS top rc sh n B := by
  unfold recB
  split <;> exact ⟨rfl, rfl, rfl, rfl⟩
theorem yRun_sums (cr : Int32) (c : Nat → PCon) (k : Nat) : ∀ y, (yRun cr c y k).1 = sumG (c k).2.2.2.1 y ∧ (yRun cr c y k).2.1 = sumA (c k).1 (c k).2.2.2.1 y ∧ (yRun cr c y k).2.2.1 = sumE (c k).2.2.2.1 (c k).2.2.2.2.1 y ∧ (yRun cr c y k).2.2.2.1 = if y = 0 then 0 else costN (sumA (c k).1 (c k).2.2.2.1 y) (sumG (c k).2.2.2.1 y) (c k).2.2.2.2.2.2.1 (c k).2.2.2.2.2.2.2
  | 0 => ⟨rfl, rfl, rfl, rfl⟩
  | y + 1 => by
    obtain ⟨i1, i2, i3, -⟩ := yRun_sums cr c k y
    obtain ⟨h1, h2, h3, h4⟩ := yStep_keep cr c y (yRun cr c y) k
    obtain ⟨g1, g2, g3, g4⟩ := recB_keep (c k).1 (c k).2.1 ((c k).2.2.2.1 y) (c k).2.2.2.2.1 ((c k).2.2.2.2.2.1 y) (c k).2.2.2.2.2.2.1 (c k).2.2.2.2.2.2.2 (yRun cr c y k)
    refine ⟨h1.trans (g1.trans ?_), h2.trans (g2.trans ?_), h3.trans (g3.trans ?_), h4.trans (g4.trans ?_)⟩
    · rw [i1]
      rfl
    · rw [i2]
      rfl
    · rw [i3]
      rfl
    · unfold recS
      rw [if_neg (Nat.succ_ne_zero y), i1, i2]
      rfl
def yX (c : PCon) (y : Nat) (B : BK) : Int64 := recX c.1 c.2.1 (c.2.2.2.1 y) c.2.2.2.2.1 (c.2.2.2.2.2.1 y) c.2.2.2.2.2.2.1 c.2.2.2.2.2.2.2 B
theorem yN {c : PCon} {y : Nat} {B : BK} (h : yX c y B < 0) : yGain c y B = -yX c y B ∧ (yRec c y B).2.2.2.2.1 = 0 ∧ (yRec c y B).2.2.2.2.2 = B.2.2.2.2.2 + -yX c y B := by
  unfold yGain recG yRec recB
  have h2 : recX c.1 c.2.1 (c.2.2.2.1 y) c.2.2.2.2.1 (c.2.2.2.2.2.1 y) c.2.2.2.2.2.2.1 c.2.2.2.2.2.2.2 B < 0 := h
  rw [if_pos h2, if_pos h2]
  exact ⟨rfl, rfl, rfl⟩
theorem yP {c : PCon} {y : Nat} {B : BK} (h : ¬ yX c y B < 0) : yGain c y B = 0 ∧ (yRec c y B).2.2.2.2.1 = yX c y B ∧ (yRec c y B).2.2.2.2.2 = B.2.2.2.2.2 := by
  unfold yGain recG yRec recB
  have h2 : ¬ recX c.1 c.2.1 (c.2.2.2.1 y) c.2.2.2.2.1 (c.2.2.2.2.2.1 y) c.2.2.2.2.2.2.1 c.2.2.2.2.2.2.2 B < 0 := h
  rw [if_neg h2, if_neg h2]
  exact ⟨rfl, rfl, rfl⟩
theorem cnt_ex (pic : Nat → Nat) (k : Nat) {i : Nat} : ∀ n, i < cnt pic k n → ∃ j, j < n ∧ pic j = k ∧ cnt pic k j = i
  | 0, h => absurd h (Nat.not_lt_zero i)
  | n + 1, h => by
    by_cases e : pic n = k
    · rw [cnt_T e] at h
      by_cases e2 : i = cnt pic k n
      · exact ⟨n, Nat.lt_succ_self n, e, e2.symm⟩
      · obtain ⟨j, h1, h2, h3⟩ := cnt_ex pic k n (show i < cnt pic k n by omega)
        exact ⟨j, Nat.lt_succ_of_lt h1, h2, h3⟩
    · rw [cnt_F e] at h
      obtain ⟨j, h1, h2, h3⟩ := cnt_ex pic k n h
      exact ⟨j, Nat.lt_succ_of_lt h1, h2, h3⟩
/-! The ranges of what the books hold. -/
theorem a64 {a b : Int64} {x y : Int} (ha : a.toInt = x) (hb : b.toInt = y) (h1 : -9223372036854775808 ≤ x + y) (h2 : x + y < 9223372036854775808) : (a + b).toInt = x + y := by
  rw [Int64.toInt_add, ha, hb]
  exact Int.bmod_eq_of_le (by omega) (by omega)
theorem s64 {a b : Int64} {x y : Int} (ha : a.toInt = x) (hb : b.toInt = y) (h1 : -9223372036854775808 ≤ x - y) (h2 : x - y < 9223372036854775808) : (a - b).toInt = x - y := by
  rw [Int64.toInt_sub, ha, hb]
  exact Int.bmod_eq_of_le (by omega) (by omega)
theorem m64 {a b : Int64} {x y : Int} (ha : a.toInt = x) (hb : b.toInt = y) (h1 : -9223372036854775808 ≤ x * y) (h2 : x * y < 9223372036854775808) : (a * b).toInt = x * y := by
  rw [Int64.toInt_mul, ha, hb]
  exact Int.bmod_eq_of_le (by omega) (by omega)
theorem n64 {a : Int64} {x : Int} (ha : a.toInt = x) (h1 : -9223372036854775808 < x) (h2 : x < 9223372036854775808) : (-a).toInt = -x := by
  rw [Int64.toInt_neg, ha]
  exact Int.bmod_eq_of_le (by omega) (by omega)
theorem d64 {a : Int64} {x : Int} (ha : a.toInt = x) (h1 : 0 ≤ x) (h2 : x < 9223372036854775808) : (a / 10000).toInt = x / 10000 := by
  rw [Int64.toInt_div, ha, show (10000 : Int64).toInt = 10000 from rfl, Int.tdiv_eq_ediv_of_nonneg h1]
  exact Int.bmod_eq_of_le (by omega) (by omega)
theorem w64 (r : Int32) : r.toInt64.toInt = r.toInt := Int32.toInt_toInt64 r
theorem r32 (r : Int32) : -2147483648 ≤ r.toInt ∧ r.toInt < 2147483648 := ⟨Int32.le_toInt r, Int32.toInt_lt r⟩
def Rat (r : Int32) : Prop := 0 ≤ r.toInt ∧ r.toInt ≤ 10000
theorem mul_le_1e4 {a r : Int} (ha : 0 ≤ a) (h0 : 0 ≤ r) (h1 : r ≤ 10000) : 0 ≤ a * r ∧ a * r ≤ a * 10000 := ⟨Int.mul_nonneg ha h0, Int.mul_le_mul_of_nonneg_left h1 ha⟩
theorem prt_int {a : Int64} {r : Int32} (ha : 0 ≤ a.toInt) (hb : a.toInt ≤ 100000000000000) (hr : Rat r) : (prt a r).toInt = a.toInt * r.toInt / 10000 ∧ 0 ≤ (prt a r).toInt ∧ (prt a r).toInt ≤ a.toInt := by
  obtain ⟨h1, h2⟩ := mul_le_1e4 ha hr.1 hr.2
  have e : (prt a r).toInt = a.toInt * r.toInt / 10000 := by
    unfold prt
    exact d64 (m64 rfl (w64 r) (by omega) (by omega)) h1 (by omega)
  refine ⟨e, ?_, ?_⟩ <;> rw [e] <;> omega
theorem mn_int (a b : Int64) : (mn a b).toInt = if a.toInt ≤ b.toInt then a.toInt else b.toInt := by
  unfold mn
  by_cases h : b < a
  · rw [if_pos h, if_neg]
    have := Int64.lt_iff_toInt_lt.mp h
    omega
  · rw [if_neg h, if_pos]
    have := (not_congr Int64.lt_iff_toInt_lt).mp h
    omega
theorem mn_rng {a b : Int64} (ha : 0 ≤ a.toInt) (hb : 0 ≤ b.toInt) : 0 ≤ (mn a b).toInt ∧ (mn a b).toInt ≤ a.toInt ∧ (mn a b).toInt ≤ b.toInt := by
  rw [mn_int]
  split <;> omega
theorem grossY_int {f : Nat → Int32} (h : ∀ w, w < 4 → 0 ≤ (f w).toInt) : (grossY f).toInt = (f 0).toInt + (f 1).toInt + (f 2).toInt + (f 3).toInt := by
  have b0 := r32 (f 0)
  have b1 := r32 (f 1)
  have b2 := r32 (f 2)
  have b3 := r32 (f 3)
  have e1 : ((0 : Int64) + (f 0).toInt64).toInt = (f 0).toInt := by
    rw [a64 (x := 0) (y := (f 0).toInt) rfl (w64 _) (by omega) (by omega)]
    omega
  have e2 := a64 e1 (w64 (f 1)) (by omega) (by omega)
  have e3 := a64 e2 (w64 (f 2)) (by omega) (by omega)
  exact a64 e3 (w64 (f 3)) (by omega) (by omega)
theorem feesY_rng {f g : Nat → Int32} (h : ∀ w, w < 4 → 0 ≤ (f w).toInt) (hg : ∀ w, w < 4 → Rat (g w)) : 0 ≤ (feesY f g).toInt ∧ (feesY f g).toInt ≤ (grossY f).toInt := by
  have b0 := r32 (f 0)
  have b1 := r32 (f 1)
  have b2 := r32 (f 2)
  have b3 := r32 (f 3)
  have p : ∀ w, w < 4 → 0 ≤ (prt (f w).toInt64 (g w)).toInt ∧ (prt (f w).toInt64 (g w)).toInt ≤ (f w).toInt := fun w hw => by
    have b := r32 (f w)
    have q := prt_int (a := (f w).toInt64) (r := g w) (by rw [w64]; exact h w hw) (by rw [w64]; omega) (hg w hw)
    rw [w64] at q
    exact q.2
  have p0 := p 0 (by decide)
  have p1 := p 1 (by decide)
  have p2 := p 2 (by decide)
  have p3 := p 3 (by decide)
  have e1 : ((0 : Int64) + prt (f 0).toInt64 (g 0)).toInt = (prt (f 0).toInt64 (g 0)).toInt := by
    rw [a64 (x := 0) (y := (prt (f 0).toInt64 (g 0)).toInt) rfl rfl (by omega) (by omega)]
    omega
  have e2 := a64 e1 (rfl : (prt (f 1).toInt64 (g 1)).toInt = _) (by omega) (by omega)
  have e3 := a64 e2 (rfl : (prt (f 2).toInt64 (g 2)).toInt = _) (by omega) (by omega)
  have e4 := a64 e3 (rfl : (prt (f 3).toInt64 (g 3)).toInt = _) (by omega) (by omega)
  have e : (feesY f g).toInt = _ := e4
  rw [e, grossY_int h]
  omega
theorem adY_rng {top : Int32} {f : Nat → Int32} (h : ∀ w, w < 4 → 0 ≤ (f w).toInt) (ht : Rat top) : 0 ≤ (adY top f).toInt ∧ (adY top f).toInt ≤ (grossY f).toInt := by
  have b0 := r32 (f 0)
  have b1 := r32 (f 1)
  have b2 := r32 (f 2)
  have b3 := r32 (f 3)
  have h0 := h 0 (by decide)
  have h1 := h 1 (by decide)
  have h2 := h 2 (by decide)
  have h3 := h 3 (by decide)
  have e := grossY_int h
  have q := prt_int (a := grossY f) (r := top) (by rw [e]; omega) (by rw [e]; omega) ht
  unfold adY
  rw [s64 rfl rfl (by omega) (by omega)]
  omega
/-- receipts as whole numbers: a row, the rows below y -/
def rowI (f : Nat → Int32) : Int := (f 0).toInt + (f 1).toInt + (f 2).toInt + (f 3).toInt
def sumI (rc : Nat → Nat → Int32) : Nat → Int
  | 0 => 0
  | y + 1 => sumI rc y + rowI (rc y)
def RcOk (rc : Nat → Nat → Int32) : Prop := (∀ y w, y < 10 → w < 4 → 0 ≤ (rc y w).toInt) ∧ sumI rc 10 ≤ 512000000
theorem rowI_nn {rc : Nat → Nat → Int32} (h : ∀ y w, y < 10 → w < 4 → 0 ≤ (rc y w).toInt) {y : Nat} (hy : y < 10) : 0 ≤ rowI (rc y) := by
  have h0 := h y 0 hy (by decide)
  have h1 := h y 1 hy (by decide)
  have h2 := h y 2 hy (by decide)
  have h3 := h y 3 hy (by decide)
  unfold rowI
  omega
theorem sumI_mono {rc : Nat → Nat → Int32} (h : ∀ y w, y < 10 → w < 4 → 0 ≤ (rc y w).toInt) (a : Nat) : ∀ b, a ≤ b → b ≤ 10 → sumI rc a ≤ sumI rc b
  | 0, h1, _ => by rw [show a = 0 by omega]; exact Int.le_refl _
  | b + 1, h1, h2 => by
    by_cases e : a = b + 1
    · rw [e]
      exact Int.le_refl _
    · have ih := sumI_mono h a b (by omega) (by omega)
      have r := rowI_nn h (y := b) (by omega)
      show sumI rc a ≤ sumI rc b + rowI (rc b)
      omega
theorem sumI_nn {rc : Nat → Nat → Int32} (h : ∀ y w, y < 10 → w < 4 → 0 ≤ (rc y w).toInt) (b : Nat) (hb : b ≤ 10) : 0 ≤ sumI rc b := sumI_mono h 0 b (Nat.zero_le b) hb
theorem sumG_int {rc : Nat → Nat → Int32} (h : RcOk rc) : ∀ y, y ≤ 10 → (sumG rc y).toInt = sumI rc y
  | 0, _ => rfl
  | y + 1, hy => by
    have ih := sumG_int h y (by omega)
    have n0 := sumI_nn h.1 y (by omega)
    have n1 := sumI_mono h.1 (y + 1) 10 hy (Nat.le_refl _)
    have r := rowI_nn h.1 (y := y) (by omega)
    have e : sumI rc (y + 1) = sumI rc y + rowI (rc y) := rfl
    have hs := h.2
    exact a64 ih (grossY_int (fun w hw => h.1 y w (by omega) hw)) (by show _ ≤ sumI rc y + rowI (rc y); omega) (by show sumI rc y + rowI (rc y) < _; omega)
theorem sumA_rng {top : Int32} {rc : Nat → Nat → Int32} (h : RcOk rc) (ht : Rat top) : ∀ y, y ≤ 10 → 0 ≤ (sumA top rc y).toInt ∧ (sumA top rc y).toInt ≤ sumI rc y ∧ (y < 10 → (sumA top rc (y + 1)).toInt = (sumA top rc y).toInt + (adY top (rc y)).toInt)
  | 0, _ => ⟨Int.le_refl _, Int.le_refl _, fun hy => by
    have q := adY_rng (f := rc 0) (fun w hw => h.1 0 w hy hw) ht
    have g := grossY_int (fun w hw => h.1 0 w hy hw)
    have n1 := sumI_mono h.1 1 10 (by decide) (Nat.le_refl _)
    have e : sumI rc 1 = 0 + rowI (rc 0) := rfl
    have g2 : (grossY (rc 0)).toInt = rowI (rc 0) := g
    have hs := h.2
    exact a64 (rfl : (sumA top rc 0).toInt = _) rfl (by show _ ≤ (0 : Int) + _; omega) (by show (0 : Int) + _ < _; omega)⟩
  | y + 1, hy => by
    obtain ⟨i1, i2, i3⟩ := sumA_rng h ht y (by omega)
    have e3 := i3 (by omega)
    have q := adY_rng (f := rc y) (fun w hw => h.1 y w (by omega) hw) ht
    have g2 : (grossY (rc y)).toInt = rowI (rc y) := grossY_int (fun w hw => h.1 y w (by omega) hw)
    have e : sumI rc (y + 1) = sumI rc y + rowI (rc y) := rfl
    refine ⟨by omega, by omega, fun hy2 => ?_⟩
    have q2 := adY_rng (f := rc (y + 1)) (fun w hw => h.1 (y + 1) w hy2 hw) ht
    have g3 : (grossY (rc (y + 1))).toInt = rowI (rc (y + 1)) := grossY_int (fun w hw => h.1 (y + 1) w hy2 hw)
    have n1 := sumI_mono h.1 (y + 2) 10 hy2 (Nat.le_refl _)
    have e2 : sumI rc (y + 2) = sumI rc (y + 1) + rowI (rc (y + 1)) := rfl
    have hs := h.2
    exact a64 rfl rfl (by omega) (by omega)
def SOk (q : Shr) : Prop := 0 ≤ q.2.1.toInt ∧ q.2.1.toInt ≤ 10000000 ∧ Rat q.2.2.1 ∧ Rat q.2.2.2
theorem shareOf_int {a : Int64} {q : Shr} (ha : 0 ≤ a.toInt) (hb : a.toInt ≤ 100000000000) (hq : SOk q) : (shareOf a q).toInt = ((mn a q.2.1.toInt64).toInt * q.2.2.1.toInt + (a.toInt - (mn a q.2.1.toInt64).toInt) * q.2.2.2.toInt) / 10000 ∧ 0 ≤ (shareOf a q).toInt ∧ (shareOf a q).toInt ≤ a.toInt := by
  obtain ⟨h1, h2, h3, h4⟩ := hq
  have m := mn_rng (a := a) (b := q.2.1.toInt64) ha (by rw [w64]; exact h1)
  obtain ⟨p1, p2⟩ := mul_le_1e4 m.1 h3.1 h3.2
  obtain ⟨p3, p4⟩ := mul_le_1e4 (show 0 ≤ a.toInt - (mn a q.2.1.toInt64).toInt by omega) h4.1 h4.2
  have e : (shareOf a q).toInt = ((mn a q.2.1.toInt64).toInt * q.2.2.1.toInt + (a.toInt - (mn a q.2.1.toInt64).toInt) * q.2.2.2.toInt) / 10000 := by
    unfold shareOf
    exact d64 (a64 (m64 rfl (w64 _) (by omega) (by omega)) (m64 (s64 rfl rfl (by omega) (by omega)) (w64 _) (by omega) (by omega)) (by omega) (by omega)) (by omega) (by omega)
  refine ⟨e, ?_, ?_⟩ <;> rw [e] <;> omega
theorem shareOf_mono {a b : Int64} {q : Shr} (ha : 0 ≤ a.toInt) (hab : a.toInt ≤ b.toInt) (hb : b.toInt ≤ 100000000000) (hq : SOk q) : (shareOf a q).toInt ≤ (shareOf b q).toInt := by
  have e1 := (shareOf_int ha (Int.le_trans hab hb) hq).1
  have e2 := (shareOf_int (Int.le_trans ha hab) hb hq).1
  obtain ⟨h1, h2, h3, h4⟩ := hq
  have l := w64 q.2.1
  have m1 := mn_int a q.2.1.toInt64
  have m2 := mn_int b q.2.1.toInt64
  have k1 : (mn a q.2.1.toInt64).toInt ≤ (mn b q.2.1.toInt64).toInt := by
    rw [m1, m2]
    split <;> split <;> omega
  have k2 : a.toInt - (mn a q.2.1.toInt64).toInt ≤ b.toInt - (mn b q.2.1.toInt64).toInt := by
    rw [m1, m2]
    split <;> split <;> omega
  have p1 := Int.mul_le_mul_of_nonneg_right k1 h3.1
  have p2 := Int.mul_le_mul_of_nonneg_right k2 h4.1
  rw [e1, e2]
  exact Int.ediv_le_ediv (by decide) (by omega)
theorem bonusAt_rng {g : Int64} {q : Shr} (hq : SOk q) : 0 ≤ (bonusAt g q).toInt ∧ (bonusAt g q).toInt ≤ 1000000 := by
  obtain ⟨h1, h2, h3, h4⟩ := hq
  unfold bonusAt
  split
  · rw [m64 (w64 _) (show (100 : Int64).toInt = 100 from rfl) (by have := h3.1; have := h3.2; omega) (by have := h3.1; have := h3.2; omega)]
    have := h3.1
    have := h3.2
    omega
  · exact ⟨by decide, by decide⟩
theorem bonusAt_mono {g g' : Int64} {q : Shr} (h : g.toInt ≤ g'.toInt) (hq : SOk q) : (bonusAt g q).toInt ≤ (bonusAt g' q).toInt := by
  by_cases h1 : q.2.1.toInt64 ≤ g
  · have h2 : q.2.1.toInt64 ≤ g' := Int64.le_iff_toInt_le.mpr (Int.le_trans (Int64.le_iff_toInt_le.mp h1) h)
    unfold bonusAt
    rw [if_pos h1, if_pos h2]
    exact Int.le_refl _
  · have e : bonusAt g q = 0 := if_neg h1
    rw [e]
    exact (bonusAt_rng hq).1
theorem costN_rng {a g : Int64} {sh : Nat → Shr} (ha : 0 ≤ a.toInt) (hb : a.toInt ≤ 600000000) : ∀ n, n ≤ 8 → (∀ i, i < n → SOk (sh i)) → 0 ≤ (costN a g sh n).toInt ∧ (costN a g sh n).toInt ≤ 601000000 * (n : Int)
  | 0, _, _ => ⟨Int.le_refl _, Int.le_refl _⟩
  | n + 1, hn, h => by
    have ih := costN_rng (g := g) (sh := sh) ha hb n (by omega) (fun i hi => h i (Nat.lt_succ_of_lt hi))
    have hs := h n (Nat.lt_succ_self n)
    have h1 := shareOf_int ha (by omega) hs
    have h2 := bonusAt_rng (g := g) hs
    show 0 ≤ (costS a g (sh n) (costN a g sh n)).toInt ∧ (costS a g (sh n) (costN a g sh n)).toInt ≤ _
    unfold costS
    split
    · rw [a64 rfl rfl (by omega) (by omega)]
      omega
    · split
      · rw [a64 rfl rfl (by omega) (by omega)]
        omega
      · omega
theorem costN_mono {a g a' g' : Int64} {sh : Nat → Shr} (ha : 0 ≤ a.toInt) (hab : a.toInt ≤ a'.toInt) (hb : a'.toInt ≤ 600000000) (hg : g.toInt ≤ g'.toInt) : ∀ n, n ≤ 8 → (∀ i, i < n → SOk (sh i)) → (costN a g sh n).toInt ≤ (costN a' g' sh n).toInt
  | 0, _, _ => Int.le_refl _
  | n + 1, hn, h => by
    have hp : ∀ i, i < n → SOk (sh i) := fun i hi => h i (Nat.lt_succ_of_lt hi)
    have ih := costN_mono ha hab hb hg n (by omega) hp
    have r1 := costN_rng (g := g) (sh := sh) ha (by omega) n (by omega) hp
    have r2 := costN_rng (g := g') (sh := sh) (Int.le_trans ha hab) hb n (by omega) hp
    have hs := h n (Nat.lt_succ_self n)
    have h1 := shareOf_int ha (by omega) hs
    have h1' := shareOf_int (Int.le_trans ha hab) (by omega) hs
    have h2 := bonusAt_rng (g := g) hs
    have h2' := bonusAt_rng (g := g') hs
    have k1 := shareOf_mono ha hab (by omega) hs
    have k2 := bonusAt_mono hg hs
    show (costS a g (sh n) (costN a g sh n)).toInt ≤ (costS a' g' (sh n) (costN a' g' sh n)).toInt
    unfold costS
    split
    · rw [a64 rfl rfl (by omega) (by omega), a64 rfl rfl (by omega) (by omega)]
      omega
    · split
      · rw [a64 rfl rfl (by omega) (by omega), a64 rfl rfl (by omega) (by omega)]
        omega
      · exact ih
theorem leftN_rng {pf : Int64} {sh : Nat → Shr} (h0 : 0 ≤ pf.toInt) : ∀ n, (∀ i, i < n → SOk (sh i)) → 0 ≤ (leftN pf sh n).toInt ∧ (leftN pf sh n).toInt ≤ pf.toInt
  | 0, _ => ⟨h0, Int.le_refl _⟩
  | n + 1, h => by
    have ih := leftN_rng h0 n (fun i hi => h i (Nat.lt_succ_of_lt hi))
    have hs := h n (Nat.lt_succ_self n)
    have m := mn_rng (a := (sh n).2.1.toInt64) (b := leftN pf sh n) (by rw [w64]; exact hs.1) ih.1
    have b := Int64.toInt_lt pf
    show 0 ≤ (leftS (sh n) (leftN pf sh n)).toInt ∧ (leftS (sh n) (leftN pf sh n)).toInt ≤ pf.toInt
    unfold leftS
    split
    · rw [s64 rfl rfl (by omega) (by omega)]
      omega
    · exact ih
/-- a picture's terms in their ranges -/
def COk (c : PCon) : Prop := Rat c.1 ∧ Rat c.2.1 ∧ Rat c.2.2.1 ∧ RcOk c.2.2.2.1 ∧ (∀ w, w < 4 → Rat (c.2.2.2.2.1 w)) ∧ (∀ y, y < 10 → 0 ≤ (c.2.2.2.2.2.1 y).toInt) ∧ c.2.2.2.2.2.2.2 ≤ 8 ∧ ∀ i, i < c.2.2.2.2.2.2.2 → SOk (c.2.2.2.2.2.2.1 i)
def MB : Nat → Int
  | 0 => 0
  | y + 1 => 2 * (MB y + 20000000000)
theorem MB_le : ∀ y, y ≤ 10 → 0 ≤ MB y ∧ MB y ≤ 40920000000000 := by decide
/-- the books of a picture after y years, in their ranges -/
def BOk (c : PCon) (y : Nat) (B : BK) : Prop := 0 ≤ B.2.2.2.2.1.toInt ∧ B.2.2.2.2.1.toInt ≤ MB y ∧ 0 ≤ B.2.2.2.2.2.toInt ∧ B.2.2.2.2.2.toInt ≤ (sumA c.1 c.2.2.2.1 y).toInt
theorem yX_rng {cr : Int32} {c : Nat → PCon} {k y : Nat} (hc : COk (c k)) (hy : y < 10) (hB : BOk (c k) y (yRun cr c y k)) :
    -(adY (c k).1 ((c k).2.2.2.1 y)).toInt ≤ (yX (c k) y (yRun cr c y k)).toInt ∧ (yX (c k) y (yRun cr c y k)).toInt ≤ MB y + 20000000000 := by
  obtain ⟨c1, c2, c3, c4, c5, c6, c7, c8⟩ := hc
  obtain ⟨b1, b2, b3, b4⟩ := hB
  obtain ⟨s1, s2, s3, s4⟩ := yRun_sums cr c k y
  have mb := MB_le y (by omega)
  have hs := c4.2
  have g0 := sumG_int c4 y (by omega)
  have g1 := sumG_int c4 (y + 1) (by omega)
  obtain ⟨a0, a1, a2⟩ := sumA_rng c4 c1 y (by omega)
  obtain ⟨a3, a4, -⟩ := sumA_rng c4 c1 (y + 1) (by omega)
  have a5 := a2 hy
  have m0 := sumI_nn c4.1 y (by omega)
  have m1 := sumI_mono c4.1 y 10 (by omega) (Nat.le_refl _)
  have m2 := sumI_mono c4.1 (y + 1) 10 (by omega) (Nat.le_refl _)
  have m3 := sumI_mono c4.1 y (y + 1) (by omega) (by omega)
  have gr : (grossY ((c k).2.2.2.1 y)).toInt = rowI ((c k).2.2.2.1 y) := grossY_int (fun w hw => c4.1 y w hy hw)
  have em : sumI (c k).2.2.2.1 (y + 1) = sumI (c k).2.2.2.1 y + rowI ((c k).2.2.2.1 y) := rfl
  have ad := adY_rng (f := (c k).2.2.2.1 y) (fun w hw => c4.1 y w hy hw) c1
  have fe := feesY_rng (f := (c k).2.2.2.1 y) (fun w hw => c4.1 y w hy hw) c5
  have co := r32 ((c k).2.2.2.2.2.1 y)
  have co0 := c6 y hy
  have pc := (prt_int (a := ((c k).2.2.2.2.2.1 y).toInt64) (r := (c k).2.1) (by rw [w64]; exact co0) (by rw [w64]; omega) c2).2
  rw [w64] at pc
  have S1 : recS (c k).1 ((c k).2.2.2.1 y) (c k).2.2.2.2.2.2.1 (c k).2.2.2.2.2.2.2 (yRun cr c y k) = costN (sumA (c k).1 (c k).2.2.2.1 (y + 1)) (sumG (c k).2.2.2.1 (y + 1)) (c k).2.2.2.2.2.2.1 (c k).2.2.2.2.2.2.2 := by
    unfold recS
    rw [s1, s2]
    rfl
  have r1 := costN_rng (g := sumG (c k).2.2.2.1 (y + 1)) (sh := (c k).2.2.2.2.2.2.1) a3 (by omega) _ c7 c8
  have nb : ((c k).2.2.2.2.2.2.2 : Int) ≤ 8 := by omega
  have hS0 : 0 ≤ (yRun cr c y k).2.2.2.1.toInt ∧ (yRun cr c y k).2.2.2.1.toInt ≤ (recS (c k).1 ((c k).2.2.2.1 y) (c k).2.2.2.2.2.2.1 (c k).2.2.2.2.2.2.2 (yRun cr c y k)).toInt := by
    rw [S1, s4]
    split
    · exact ⟨by decide, r1.1⟩
    · exact ⟨(costN_rng a0 (by omega) _ c7 c8).1, costN_mono a0 (by omega) (by omega) (by omega) _ c7 c8⟩
  rw [← S1] at r1
  unfold yX recX
  have e1 := a64 (w64 ((c k).2.2.2.2.2.1 y)) (rfl : (prt ((c k).2.2.2.2.2.1 y).toInt64 (c k).2.1).toInt = _) (by omega) (by omega)
  have e2 := a64 e1 (rfl : (recS (c k).1 ((c k).2.2.2.1 y) (c k).2.2.2.2.2.2.1 (c k).2.2.2.2.2.2.2 (yRun cr c y k)).toInt = _) (by omega) (by omega)
  have e3 := s64 e2 (rfl : (yRun cr c y k).2.2.2.1.toInt = _) (by omega) (by omega)
  have e4 := a64 (rfl : (yRun cr c y k).2.2.2.2.1.toInt = _) e3 (by omega) (by omega)
  have e5 := s64 (rfl : (adY (c k).1 ((c k).2.2.2.1 y)).toInt = _) (rfl : (feesY ((c k).2.2.2.1 y) (c k).2.2.2.2.1).toInt = _) (by omega) (by omega)
  rw [s64 e4 e5 (by omega) (by omega)]
  omega
/-- after a year's reckoning, before moves and interest -/
def YOk (a : Int) (M : Int) (g : Int64) (B : BK) : Prop := 0 ≤ B.2.2.2.2.1.toInt ∧ B.2.2.2.2.1.toInt ≤ M ∧ 0 ≤ g.toInt ∧ g.toInt ≤ B.2.2.2.2.2.toInt ∧ B.2.2.2.2.2.toInt ≤ a
theorem yRec_ok {cr : Int32} {c : Nat → PCon} {k y : Nat} (hc : COk (c k)) (hy : y < 10) (hB : BOk (c k) y (yRun cr c y k)) : YOk (sumA (c k).1 (c k).2.2.2.1 (y + 1)).toInt (MB y + 20000000000) (yGain (c k) y (yRun cr c y k)) (yRec (c k) y (yRun cr c y k)) := by
  obtain ⟨x1, x2⟩ := yX_rng hc hy hB
  obtain ⟨c1, c2, c3, c4, c5, c6, c7, c8⟩ := hc
  obtain ⟨b1, b2, b3, b4⟩ := hB
  obtain ⟨a0, a1, a2⟩ := sumA_rng c4 c1 y (by omega)
  have a5 := a2 hy
  have m1 := sumI_mono c4.1 y 10 (by omega) (Nat.le_refl _)
  have hs := c4.2
  have mb := MB_le y (by omega)
  have ad := adY_rng (f := (c k).2.2.2.1 y) (fun w hw => c4.1 y w hy hw) c1
  have gr : (grossY ((c k).2.2.2.1 y)).toInt = rowI ((c k).2.2.2.1 y) := grossY_int (fun w hw => c4.1 y w hy hw)
  have em : sumI (c k).2.2.2.1 (y + 1) = sumI (c k).2.2.2.1 y + rowI ((c k).2.2.2.1 y) := rfl
  have m2 := sumI_mono c4.1 (y + 1) 10 (by omega) (Nat.le_refl _)
  have m0 := sumI_nn c4.1 y (by omega)
  unfold YOk
  by_cases h : yX (c k) y (yRun cr c y k) < 0
  · obtain ⟨e1, e2, e3⟩ := yN h
    have hx : (yX (c k) y (yRun cr c y k)).toInt < 0 := Int64.lt_iff_toInt_lt.mp h
    have en := n64 (rfl : (yX (c k) y (yRun cr c y k)).toInt = _) (by omega) (by omega)
    rw [e1, e2, e3, a64 rfl en (by omega) (by omega), en, show ((0 : Int64)).toInt = 0 from rfl]
    omega
  · obtain ⟨e1, e2, e3⟩ := yP h
    have hx : ¬ (yX (c k) y (yRun cr c y k)).toInt < 0 := (not_congr Int64.lt_iff_toInt_lt).mp h
    rw [e1, e2, e3, show ((0 : Int64)).toInt = 0 from rfl]
    omega
/-- a move keeps the ranges: what the first gives up was its gain, what the second is freed of was its balance -/
theorem mvS_ok {g : Int64} {f t : Nat} {S : Nat → BK} {M : Int} (hne : f ≠ t) (hg : 0 ≤ g.toInt) (hf : g.toInt ≤ (S f).2.2.2.2.2.toInt) (ht : 0 ≤ (S t).2.2.2.2.1.toInt ∧ (S t).2.2.2.2.1.toInt ≤ M) (hM : M ≤ 100000000000000) :
    (0 ≤ (mvS g f t S f).2.2.2.2.2.toInt ∧ (mvS g f t S f).2.2.2.2.2.toInt ≤ (S f).2.2.2.2.2.toInt ∧ (mvS g f t S f).2.2.2.2.1 = (S f).2.2.2.2.1) ∧ (0 ≤ (mvS g f t S t).2.2.2.2.1.toInt ∧ (mvS g f t S t).2.2.2.2.1.toInt ≤ M ∧ (mvS g f t S t).2.2.2.2.2 = (S t).2.2.2.2.2) := by
  have m := mn_rng hg ht.1
  have b := Int64.toInt_lt (S f).2.2.2.2.2
  constructor
  · have e : mvS g f t S f = takeP (S f) (mn g (S t).2.2.2.2.1) := if_pos rfl
    rw [e]
    show 0 ≤ ((S f).2.2.2.2.2 - mn g (S t).2.2.2.2.1).toInt ∧ ((S f).2.2.2.2.2 - mn g (S t).2.2.2.2.1).toInt ≤ _ ∧ (S f).2.2.2.2.1 = _
    rw [s64 rfl rfl (by omega) (by omega)]
    exact ⟨by omega, by omega, rfl⟩
  · have e : mvS g f t S t = takeL (S t) (mn g (S t).2.2.2.2.1) := (if_neg (Ne.symm hne)).trans (if_pos rfl)
    rw [e]
    show 0 ≤ ((S t).2.2.2.2.1 - mn g (S t).2.2.2.2.1).toInt ∧ ((S t).2.2.2.2.1 - mn g (S t).2.2.2.2.1).toInt ≤ _ ∧ (S t).2.2.2.2.2 = _
    rw [s64 rfl rfl (by omega) (by omega)]
    exact ⟨by omega, by omega, rfl⟩
theorem finB_ok {it : Int32} {B : BK} {M : Int} (hi : Rat it) (h1 : 0 ≤ B.2.2.2.2.1.toInt) (h2 : B.2.2.2.2.1.toInt ≤ M) (hM : M ≤ 100000000000000) : 0 ≤ (finB it B).2.2.2.2.1.toInt ∧ (finB it B).2.2.2.2.1.toInt ≤ 2 * M ∧ (finB it B).2.2.2.2.2 = B.2.2.2.2.2 := by
  have p := prt_int h1 (by omega) hi
  show 0 ≤ (B.2.2.2.2.1 + prt B.2.2.2.2.1 it).toInt ∧ (B.2.2.2.2.1 + prt B.2.2.2.2.1 it).toInt ≤ 2 * M ∧ _
  rw [a64 rfl rfl (by omega) (by omega)]
  exact ⟨by omega, by omega, rfl⟩
theorem yRun_ok {cr : Int32} {c : Nat → PCon} (hc : ∀ k, k < 2 → COk (c k)) : ∀ y, y ≤ 10 → ∀ k, k < 2 → BOk (c k) y (yRun cr c y k)
  | 0, _, k, hk => ⟨Int.le_refl _, Int.le_refl _, Int.le_refl _, Int.le_refl _⟩
  | y + 1, hy, k, hk => by
    have ih := yRun_ok (cr := cr) hc y (by omega)
    have mb := MB_le y (by omega)
    have r0 := yRec_ok (hc 0 (by decide)) (by omega) (ih 0 (by decide))
    have r1 := yRec_ok (hc 1 (by decide)) (by omega) (ih 1 (by decide))
    obtain ⟨p1, p2, p3, p4, p5⟩ := r0
    obtain ⟨q1, q2, q3, q4, q5⟩ := r1
    show BOk (c k) (y + 1) (yStep cr c y (yRun cr c y) k)
    unfold yStep
    have key : ∀ (S : Nat → BK), (∀ k, k < 2 → 0 ≤ (S k).2.2.2.2.1.toInt ∧ (S k).2.2.2.2.1.toInt ≤ MB y + 20000000000 ∧ 0 ≤ (S k).2.2.2.2.2.toInt ∧ (S k).2.2.2.2.2.toInt ≤ (sumA (c k).1 (c k).2.2.2.1 (y + 1)).toInt) → BOk (c k) (y + 1) (finB (c k).2.2.1 (S k)) := fun S hS => by
      obtain ⟨s1, s2, s3, s4⟩ := hS k hk
      obtain ⟨f1, f2, f3⟩ := finB_ok (hc k hk).2.2.1 s1 s2 (by omega)
      exact ⟨f1, f2, by rw [f3]; exact s3, by rw [f3]; exact s4⟩
    by_cases h : cr = 0
    · rw [if_pos h]
      refine key (fun k => yRec (c k) y (yRun cr c y k)) (fun k hk => ?_)
      rcases (show k = 0 ∨ k = 1 by omega) with rfl | rfl
      · exact ⟨p1, p2, by omega, p5⟩
      · exact ⟨q1, q2, by omega, q5⟩
    · rw [if_neg h]
      have m1 := mvS_ok (S := fun k => yRec (c k) y (yRun cr c y k)) (f := 0) (t := 1) (M := MB y + 20000000000) (by decide) p3 p4 ⟨q1, q2⟩ (by omega)
      obtain ⟨⟨n1, n2, n3⟩, n4, n5, n6⟩ := m1
      have e1 : (mvS (yGain (c 0) y (yRun cr c y 0)) 0 1 (fun k => yRec (c k) y (yRun cr c y k)) 0).2.2.2.2.1 = (yRec (c 0) y (yRun cr c y 0)).2.2.2.2.1 := n3
      have e2 : (mvS (yGain (c 0) y (yRun cr c y 0)) 0 1 (fun k => yRec (c k) y (yRun cr c y k)) 1).2.2.2.2.2 = (yRec (c 1) y (yRun cr c y 1)).2.2.2.2.2 := n6
      have m2 := mvS_ok (S := mvS (yGain (c 0) y (yRun cr c y 0)) 0 1 (fun k => yRec (c k) y (yRun cr c y k))) (f := 1) (t := 0) (M := MB y + 20000000000) (by decide) q3 (by rw [e2]; exact q4) (by rw [e1]; exact ⟨p1, p2⟩) (by omega)
      obtain ⟨⟨t1, t2, t3⟩, t4, t5, t6⟩ := m2
      refine key (mvS (yGain (c 1) y (yRun cr c y 1)) 1 0 (mvS (yGain (c 0) y (yRun cr c y 0)) 0 1 (fun k => yRec (c k) y (yRun cr c y k)))) (fun k hk => ?_)
      rcases (show k = 0 ∨ k = 1 by omega) with rfl | rfl
      · rw [t6]
        exact ⟨t4, t5, n1, Int.le_trans n2 p5⟩
      · rw [t3]
        rw [e2] at t2
        exact ⟨n4, n5, t1, Int.le_trans t2 q5⟩
/-- a sharer's sum, in its range -/
theorem sumF_rng {cr : Int32} {c : Nat → PCon} (hc : ∀ k, k < 2 → COk (c k)) {now k : Nat} (hn : now < 10) (hk : k < 2) {q : Shr} (hq : SOk q) {u : Nat} (hu : u ≤ (c k).2.2.2.2.2.2.2) :
    0 ≤ (sumF (yRun cr c (now + 1) k).2.1 (yRun cr c (now + 1) k).1 (yRun cr c (now + 1) k).2.2.2.2.2 q (c k).2.2.2.2.2.2.1 (c k).2.2.2.2.2.2.2 u).toInt ∧ (sumF (yRun cr c (now + 1) k).2.1 (yRun cr c (now + 1) k).1 (yRun cr c (now + 1) k).2.2.2.2.2 q (c k).2.2.2.2.2.2.1 (c k).2.2.2.2.2.2.2 u).toInt ≤ 512000000 := by
  obtain ⟨b1, b2, b3, b4⟩ := yRun_ok (cr := cr) hc (now + 1) (by omega) k hk
  obtain ⟨s1, s2, -, -⟩ := yRun_sums cr c k (now + 1)
  obtain ⟨c1, c2, c3, c4, c5, c6, c7, c8⟩ := hc k hk
  obtain ⟨a0, a1, -⟩ := sumA_rng c4 c1 (now + 1) (by omega)
  have m2 := sumI_mono c4.1 (now + 1) 10 (by omega) (Nat.le_refl _)
  have hs := c4.2
  have l1 := leftN_rng b3 _ c8
  have l2 := leftN_rng b3 u (fun i hi => c8 i (by omega))
  unfold sumF
  split
  · rw [s2]
    have := (shareOf_int a0 (by omega) hq).2
    omega
  · split
    · have := (shareOf_int (q := q) l1.1 (by omega) hq).2
      omega
    · split
      · have := mn_rng (a := q.2.1.toInt64) (b := leftN (yRun cr c (now + 1) k).2.2.2.2.2 (c k).2.2.2.2.2.2.1 u) (by rw [w64]; exact hq.1) l2.1
        omega
      · have := bonusAt_rng (g := (yRun cr c (now + 1) k).1) hq
        omega
section WCp
theorem a32 {a b : Int32} (h1 : -2147483648 ≤ a.toInt + b.toInt) (h2 : a.toInt + b.toInt < 2147483648) : (a + b).toInt = a.toInt + b.toInt := by
  rw [Int32.toInt_add]
  exact Int.bmod_eq_of_le (by omega) (by omega)
theorem s32 {a b : Int32} (h1 : -2147483648 ≤ a.toInt - b.toInt) (h2 : a.toInt - b.toInt < 2147483648) : (a - b).toInt = a.toInt - b.toInt := by
  rw [Int32.toInt_sub]
  exact Int.bmod_eq_of_le (by omega) (by omega)
theorem rng32 {lo hi t : Int32} (h : lo ≤ t ∧ t ≤ hi) : lo.toInt ≤ t.toInt ∧ t.toInt ≤ hi.toInt := ⟨Int32.le_iff_toInt_le.mp h.1, Int32.le_iff_toInt_le.mp h.2⟩
theorem rat_of {t : Int32} (h : 0 ≤ t ∧ t ≤ 10000) : Rat t := rng32 h
theorem rat_of2 {t : Int32} (h : 0 ≤ t ∧ t ≤ 2000) : Rat t := by
  have h2 := rng32 h
  have e : (2000 : Int32).toInt = 2000 := rfl
  have e0 : (0 : Int32).toInt = 0 := rfl
  unfold Rat
  omega
theorem rowI_upd {f g : Nat → Int32} {w : Nat} {t : Int32} (hw : w < 4) (hg : ∀ c, g c = if c = w then t else f c) : rowI g = rowI f - (f w).toInt + t.toInt := by
  unfold rowI
  rcases (show w = 0 ∨ w = 1 ∨ w = 2 ∨ w = 3 by omega) with rfl | rfl | rfl | rfl <;> simp only [hg] <;> simp <;> omega
theorem sumI_upd {f g : Nat → Nat → Int32} {y w : Nat} {t : Int32} (hw : w < 4) (hg : ∀ b c, g b c = if b = y ∧ c = w then t else f b c) : ∀ n, sumI g n = sumI f n + if y < n then t.toInt - (f y w).toInt else 0
  | 0 => by rw [if_neg (Nat.not_lt_zero y)]; rfl
  | n + 1 => by
    have ih := sumI_upd hw hg n
    show sumI g n + rowI (g n) = sumI f n + rowI (f n) + _
    by_cases e : n = y
    · subst e
      have hg2 : ∀ c, g n c = if c = w then t else f n c := fun c => by
        rw [hg]
        by_cases h : c = w
        · rw [if_pos ⟨rfl, h⟩, if_pos h]
        · rw [if_neg (fun q => h q.2), if_neg h]
      rw [ih, if_neg (Nat.lt_irrefl n), if_pos (Nat.lt_succ_self n), rowI_upd (f := f n) hw hg2]
      omega
    · have er : rowI (g n) = rowI (f n) := by
        unfold rowI
        rw [hg, hg, hg, hg, if_neg (fun q => e q.1), if_neg (fun q => e q.1), if_neg (fun q => e q.1), if_neg (fun q => e q.1)]
      rw [ih, er]
      by_cases h : y < n
      · rw [if_pos h, if_pos (by omega)]
        omega
      · rw [if_neg h, if_neg (by omega)]
        omega
theorem el_le {f : Nat → Nat → Int32} (h : ∀ y w, y < 10 → w < 4 → 0 ≤ (f y w).toInt) {y w : Nat} (hy : y < 10) (hw : w < 4) : (f y w).toInt ≤ sumI f 10 := by
  have h0 := sumI_nn h y (by omega)
  have h1 := sumI_mono h (y + 1) 10 (by omega) (Nat.le_refl _)
  have e : sumI f (y + 1) = sumI f y + rowI (f y) := rfl
  have a0 := h y 0 hy (by decide)
  have a1 := h y 1 hy (by decide)
  have a2 := h y 2 hy (by decide)
  have a3 := h y 3 hy (by decide)
  have er : rowI (f y) = (f y 0).toInt + (f y 1).toInt + (f y 2).toInt + (f y 3).toInt := rfl
  rcases (show w = 0 ∨ w = 1 ∨ w = 2 ∨ w = 3 by omega) with rfl | rfl | rfl | rfl <;> omega
end WCp
