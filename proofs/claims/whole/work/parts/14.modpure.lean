/-! The reference: its cells, and what it reckons. -/
abbrev mtab : List (Nat × Nat × Nat) := [(0, 965, 80), (1, 981, 20), (2, 997, 8), (3, 1013, 2), (4, 1029, 2), (5, 1045, 2), (8, 1061, 8), (9, 1077, 8), (10, 1093, 8), (11, 1109, 8), (12, 1125, 8), (13, 1141, 8), (15, 1158, 20), (16, 1174, 20), (17, 1190, 2)]
def Mdl (L : List Nat) (K N : Nat → Nat) (R : Nat → Nat → Option Nat) (m : Nat) : Prop := At L K N m 52 0 ∧ ∀ q ∈ mtab, R m q.1 = some (dr R m q.1) ∧ At L K N (dr R m q.1) q.2.1 q.2.2
def cnt (pic : Nat → Nat) (p : Nat) : Nat → Nat
  | 0 => 0
  | j + 1 => if pic j = p then cnt pic p j + 1 else cnt pic p j
theorem cnt_le (pic : Nat → Nat) (p : Nat) : ∀ j, cnt pic p j ≤ j
  | 0 => Nat.le_refl 0
  | j + 1 => by
    have h := cnt_le pic p j
    show (if pic j = p then cnt pic p j + 1 else cnt pic p j) ≤ j + 1
    split <;> omega
theorem cnt_mono (pic : Nat → Nat) (p : Nat) {i : Nat} : ∀ j, i ≤ j → cnt pic p i ≤ cnt pic p j
  | 0, h => by rw [show i = 0 by omega]; exact Nat.le_refl _
  | j + 1, h => by
    by_cases e : i = j + 1
    · subst e
      exact Nat.le_refl _
    · have h1 := cnt_mono pic p j (show i ≤ j by omega)
      refine Nat.le_trans h1 ?_
      show cnt pic p j ≤ (if pic j = p then cnt pic p j + 1 else cnt pic p j)
      split <;> omega
theorem cnt_T {pic : Nat → Nat} {p j : Nat} (h : pic j = p) : cnt pic p (j + 1) = cnt pic p j + 1 := if_pos h
theorem cnt_F {pic : Nat → Nat} {p j : Nat} (h : ¬ pic j = p) : cnt pic p (j + 1) = cnt pic p j := if_neg h
def mrc (I : Nat → Nat → Int32) (R : Nat → Nat → Option Nat) (m p : Nat) : Nat → Nat → Int32 := fun y w => I (dr R m 0) (40 * p + 4 * y + w)
def mfe (I : Nat → Nat → Int32) (R : Nat → Nat → Option Nat) (m p : Nat) : Nat → Int32 := fun w => I (dr R m 2) (4 * p + w)
def mco (I : Nat → Nat → Int32) (R : Nat → Nat → Option Nat) (m p : Nat) : Nat → Int32 := fun y => I (dr R m 1) (10 * p + y)
def mshr (I : Nat → Nat → Int32) (R : Nat → Nat → Option Nat) (m j : Nat) : Shr := (I (dr R m 9) j, I (dr R m 10) j, I (dr R m 11) j, I (dr R m 12) j)
def mcon (I : Nat → Nat → Int32) (R : Nat → Nat → Option Nat) (m : Nat) (pic : Nat → Nat) (sh : Nat → Nat → Shr) (n : Nat) : Nat → PCon := fun p => (I (dr R m 3) p, I (dr R m 4) p, I (dr R m 5) p, mrc I R m p, mfe I R m p, mco I R m p, sh p, cnt pic p n)
/-- the reference in the year now with n sharers; pic: whose picture each is; sh: each picture's sharers in their turns -/
def MC (L : List Nat) (K N : Nat → Nat) (I : Nat → Nat → Int32) (R : Nat → Nat → Option Nat) (m now n : Nat) (pic : Nat → Nat) (sh : Nat → Nat → Shr) : Prop :=
  Mdl L K N R m ∧ I m 7 = nI now ∧ now < 10 ∧ I m 14 = nI n ∧ n ≤ 8 ∧ (I m 6 = 0 ∨ I m 6 = 1) ∧ (∀ j, j < n → pic j < 2 ∧ I (dr R m 8) j = nI (pic j)) ∧ ∀ j, j < n → sh (pic j) (cnt pic (pic j) j) = mshr I R m j ∧ shareOf 0 (mshr I R m j) = 0 ∧ ((mshr I R m j).1 = 0 ∨ (mshr I R m j).1 = 1 ∨ (mshr I R m j).1 = 2 ∨ (mshr I R m j).1 = 3)
theorem Mdl.ne {L : List Nat} {K N : Nat → Nat} {R : Nat → Nat → Option Nat} {m : Nat} (h : Mdl L K N R m) {q : Nat × Nat × Nat} (hq : q ∈ mtab) (h5 : q.2.1 ≠ 52 := by decide) : dr R m q.1 ≠ m := (h.2 q hq).2.ne h.1 h5
theorem Mdl.cel {L : List Nat} {K N : Nat → Nat} {R : Nat → Nat → Option Nat} {m : Nat} (h : Mdl L K N R m) (j t n : Nat) (hq : (j, t, n) ∈ mtab) : R m j = some (dr R m j) ∧ At L K N (dr R m j) t n := h.2 (j, t, n) hq
theorem Mdl.nx {L : List Nat} {K N : Nat → Nat} {R : Nat → Nat → Option Nat} {m : Nat} (h : Mdl L K N R m) (j t n : Nat) (hq : (j, t, n) ∈ mtab) (h5 : t ≠ 52 := by decide) : dr R m j ≠ m := h.ne hq h5
theorem u2_u2 {α : Type} {f : Nat → Nat → α} {a k : Nat} {x y : α} : u2 (u2 f a k x) a k y = u2 f a k y := by
  funext b j
  unfold u2
  by_cases h : b = a ∧ j = k
  · rw [if_pos h, if_pos h]
  · rw [if_neg h, if_neg h, if_neg h]
section MT
variable {L : List Nat} {K N : Nat → Nat} {I : Nat → Nat → Int32} {R : Nat → Nat → Option Nat} {m : Nat}
theorem thr_row (h : Mdl L K N R m) (v : Int32) {q : Nat × Nat × Nat} (hq : q ∈ mtab) (h5 : q.2.1 ≠ 52 := by decide) : u2 I m 18 v (dr R m q.1) = I (dr R m q.1) := funext fun j => u2_a (h.ne hq h5)
theorem mrc_thr (h : Mdl L K N R m) (v : Int32) (p : Nat) : mrc (u2 I m 18 v) R m p = mrc I R m p := by unfold mrc; rw [thr_row h v (q := (0, 965, 80)) (by decide)]
theorem mfe_thr (h : Mdl L K N R m) (v : Int32) (p : Nat) : mfe (u2 I m 18 v) R m p = mfe I R m p := by unfold mfe; rw [thr_row h v (q := (2, 997, 8)) (by decide)]
theorem mco_thr (h : Mdl L K N R m) (v : Int32) (p : Nat) : mco (u2 I m 18 v) R m p = mco I R m p := by unfold mco; rw [thr_row h v (q := (1, 981, 20)) (by decide)]
theorem mshr_thr (h : Mdl L K N R m) (v : Int32) (j : Nat) : mshr (u2 I m 18 v) R m j = mshr I R m j := by
  unfold mshr
  rw [thr_row h v (q := (9, 1077, 8)) (by decide), thr_row h v (q := (10, 1093, 8)) (by decide), thr_row h v (q := (11, 1109, 8)) (by decide), thr_row h v (q := (12, 1125, 8)) (by decide)]
theorem mcon_thr (h : Mdl L K N R m) (v : Int32) (pic : Nat → Nat) (sh : Nat → Nat → Shr) (n : Nat) : mcon (u2 I m 18 v) R m pic sh n = mcon I R m pic sh n := by
  funext p
  unfold mcon
  rw [mrc_thr h, mfe_thr h, mco_thr h, thr_row h v (q := (3, 1013, 2)) (by decide), thr_row h v (q := (4, 1029, 2)) (by decide), thr_row h v (q := (5, 1045, 2)) (by decide)]
theorem MC.thr {now n : Nat} {pic : Nat → Nat} {sh : Nat → Nat → Shr} (h : MC L K N I R m now n pic sh) (v : Int32) : MC L K N (u2 I m 18 v) R m now n pic sh := by
  obtain ⟨h1, h2, h3, h4, h5, h6, h7, h8⟩ := h
  refine ⟨h1, (u2_k (by decide)).trans h2, h3, (u2_k (by decide)).trans h4, h5, ?_, fun j hj => ⟨(h7 j hj).1, ?_⟩, fun j hj => ?_⟩
  · rw [u2_k (by decide)]
    exact h6
  · rw [thr_row h1 v (q := (8, 1061, 8)) (by decide)]
    exact (h7 j hj).2
  · rw [mshr_thr h1]
    exact h8 j hj
end MT
def sumG (rc : Nat → Nat → Int32) : Nat → Int64
  | 0 => 0
  | y + 1 => sumG rc y + grossY (rc y)
def sumA (top : Int32) (rc : Nat → Nat → Int32) : Nat → Int64
  | 0 => 0
  | y + 1 => sumA top rc y + adY top (rc y)
def sumE (rc : Nat → Nat → Int32) (fe : Nat → Int32) : Nat → Int64
  | 0 => 0
  | y + 1 => sumE rc fe y + feesY (rc y) fe
/-- a sharer's sum by itself: of gross receipts, or for passing a limit -/
def upV (q : Shr) (g a : Int64) (c : Nat) : Int64 := if q.1 = 0 then shareOf a q else if 0 < c then bonusAt g q else 0
theorem mn_lt {a l : Int64} (h : a < l) : mn a l = a := if_neg (Int64.not_lt.mpr (Int64.le_of_lt h))
theorem mn_ge {a l : Int64} (h : ¬ a < l) : mn a l = l := by
  unfold mn
  by_cases g : l < a
  · rw [if_pos g]
  · rw [if_neg g]
    exact Int64.le_antisymm (Int64.not_lt.mp g) (Int64.not_lt.mp h)
theorem mn_comm (a b : Int64) : mn a b = mn b a := by
  by_cases h : a < b
  · rw [mn_lt h]
    exact (if_pos h).symm
  · rw [mn_ge h]
    exact (if_neg h).symm
theorem mx_gt {a b : Int32} (h : b < a) : mx a b = a := if_neg (Int32.not_lt.mpr (Int32.le_of_lt h))
theorem mx_le {a b : Int32} (h : ¬ b < a) : mx a b = b := by
  unfold mx
  by_cases g : a < b
  · rw [if_pos g]
  · rw [if_neg g]
    exact Int32.le_antisymm (Int32.not_lt.mp h) (Int32.not_lt.mp g)
theorem shareOf_lt {a : Int64} {q : Shr} (h : a < q.2.1.toInt64) : shareOf a q = (a * q.2.2.1.toInt64 + (a - a) * q.2.2.2.toInt64) / 10000 := by unfold shareOf; rw [mn_lt h]
theorem shareOf_ge {a : Int64} {q : Shr} (h : ¬ a < q.2.1.toInt64) : shareOf a q = (q.2.1.toInt64 * q.2.2.1.toInt64 + (a - q.2.1.toInt64) * q.2.2.2.toInt64) / 10000 := by unfold shareOf; rw [mn_ge h]
theorem nI_mul (a b : Nat) : nI a * nI b = nI (a * b) := (Int32.ofNat_mul a b).symm
theorem ix4 (p w : Nat) : (4 : Int32) * nI p + nI w = nI (4 * p + w) := by rw [show (4 : Int32) = nI 4 from rfl, nI_mul, nI_add]
theorem ix10 (p w : Nat) : (10 : Int32) * nI p + nI w = nI (10 * p + w) := by rw [show (10 : Int32) = nI 10 from rfl, nI_mul, nI_add]
theorem ix40 (p y w : Nat) : (40 : Int32) * nI p + 4 * nI y + nI w = nI (40 * p + 4 * y + w) := by rw [show (40 : Int32) = nI 40 from rfl, nI_mul, show (4 : Int32) = nI 4 from rfl, nI_mul, nI_add, nI_add]
/-! The class's run of the years: what of it is a plain sum. -/
theorem mvS_keep (g : Int64) (f t : Nat) (S : Nat → BK) (k : Nat) : (mvS g f t S k).1 = (S k).1 ∧ (mvS g f t S k).2.1 = (S k).2.1 ∧ (mvS g f t S k).2.2.1 = (S k).2.2.1 ∧ (mvS g f t S k).2.2.2.1 = (S k).2.2.2.1 := by
  unfold mvS
  by_cases h1 : k = f
  · subst h1
    rw [if_pos rfl]
    exact ⟨rfl, rfl, rfl, rfl⟩
  · rw [if_neg h1]
    by_cases h2 : k = t
    · subst h2
      rw [if_pos rfl]
      exact ⟨rfl, rfl, rfl, rfl⟩
    · rw [if_neg h2]
      exact ⟨rfl, rfl, rfl, rfl⟩
theorem yStep_keep (cr : Int32) (c : Nat → PCon) (y : Nat) (S : Nat → BK) (k : Nat) : (yStep cr c y S k).1 = (yRec (c k) y (S k)).1 ∧ (yStep cr c y S k).2.1 = (yRec (c k) y (S k)).2.1 ∧ (yStep cr c y S k).2.2.1 = (yRec (c k) y (S k)).2.2.1 ∧ (yStep cr c y S k).2.2.2.1 = (yRec (c k) y (S k)).2.2.2.1 := by
  unfold yStep finB
  by_cases h : cr = 0
  · rw [if_pos h]
    exact ⟨rfl, rfl, rfl, rfl⟩
  · rw [if_neg h]
    have h1 := mvS_keep (yGain (c 1) y (S 1)) 1 0 (mvS (yGain (c 0) y (S 0)) 0 1 (fun k => yRec (c k) y (S k))) k
    have h2 := mvS_keep (yGain (c 0) y (S 0)) 0 1 (fun k => yRec (c k) y (S k)) k
    exact ⟨h1.1.trans h2.1, h1.2.1.trans h2.2.1, h1.2.2.1.trans h2.2.2.1, h1.2.2.2.trans h2.2.2.2⟩
theorem recB_keep (top ovh : Int32) (rc fe : Nat → Int32) (co : Int32) (sh : Nat → Shr) (n : Nat) (B : BK) : (recB top ovh rc fe co sh n B).1 = B.1 + grossY rc ∧ (recB top ovh rc fe co sh n B).2.1 = B.2.1 + adY top rc ∧ (recB top ovh rc fe co sh n B).2.2.1 = B.2.2.1 + feesY rc fe ∧ (recB top ovh rc fe co sh n B).2.2.2.1 = recS top rc sh n B := by
  unfold recB
  split <;> exact ⟨rfl, rfl, rfl, rfl⟩
theorem yRun_sums (cr : Int32) (c : Nat → PCon) (k : Nat) : ∀ y, (yRun cr c y k).1 = sumG (c k).2.2.2.1 y ∧ (yRun cr c y k).2.1 = sumA (c k).1 (c k).2.2.2.1 y ∧ (yRun cr c y k).2.2.1 = sumE (c k).2.2.2.1 (c k).2.2.2.2.1 y ∧ (yRun cr c y k).2.2.2.1 = if y = 0 then 0 else costN (sumA (c k).1 (c k).2.2.2.1 y) (sumG (c k).2.2.2.1 y) (c k).2.2.2.2.2.2.1 (c k).2.2.2.2.2.2.2
  | 0 => ⟨rfl, rfl, rfl, rfl⟩
  | y + 1 => by
    obtain ⟨i1, i2, i3, -⟩ := yRun_sums cr c k y
    obtain ⟨h1, h2, h3, h4⟩ := yStep_keep cr c y (yRun cr c y) k
    obtain ⟨g1, g2, g3, g4⟩ := recB_keep (c k).1 (c k).2.1 ((c k).2.2.2.1 y) (c k).2.2.2.2.1 ((c k).2.2.2.2.2.1 y) (c k).2.2.2.2.2.2.1 (c k).2.2.2.2.2.2.2 (yRun cr c y k)
    refine ⟨h1.trans (g1.trans ?_), h2.trans (g2.trans ?_), h3.trans (g3.trans ?_), h4.trans (g4.trans ?_)⟩
    · rw [i1]
      rfl
    · rw [i2]
      rfl
    · rw [i3]
      rfl
    · unfold recS
      rw [if_neg (Nat.succ_ne_zero y), i1, i2]
      rfl
/-- what the reference adds to a balance for the first k sharers -/
def mD (V1 : Int64) (p : Nat) (pic : Nat → Nat) (ms : Nat → Shr) (g1 a1 g0 a0 : Int64) (y : Nat) : Nat → Int64
  | 0 => V1
  | k + 1 => mD V1 p pic ms g1 a1 g0 a0 y k + (if pic k = p ∧ ((ms k).1 = 0 ∨ (ms k).1 = 3) then upV (ms k) g1 a1 (y + 1) - upV (ms k) g0 a0 y else 0)
theorem add_sub_assoc64 (a b c d e : Int64) : a + (b - c) + (d - e) = a + (b + d - (c + e)) := by
  simp only [Int64.sub_eq_add_neg, Int64.neg_add]
  ac_rfl
theorem mD_eq (V1 : Int64) (p : Nat) (pic : Nat → Nat) (ms : Nat → Shr) (sh : Nat → Shr) (g1 a1 g0 a0 : Int64) (y : Nat) : ∀ k, (∀ j, j < k → pic j = p → sh (cnt pic p j) = ms j) → (y = 0 → ∀ j, j < k → shareOf a0 (ms j) = 0) → mD V1 p pic ms g1 a1 g0 a0 y k = V1 + (costN a1 g1 sh (cnt pic p k) - if y = 0 then 0 else costN a0 g0 sh (cnt pic p k))
  | 0, _, _ => by
    show V1 = V1 + (0 - if y = 0 then 0 else 0)
    rw [ite_self, Int64.sub_self, Int64.add_zero]
  | k + 1, h, hz => by
    have ih := mD_eq V1 p pic ms sh g1 a1 g0 a0 y k (fun j hj => h j (Nat.lt_succ_of_lt hj)) (fun e j hj => hz e j (Nat.lt_succ_of_lt hj))
    show mD V1 p pic ms g1 a1 g0 a0 y k + (if pic k = p ∧ ((ms k).1 = 0 ∨ (ms k).1 = 3) then upV (ms k) g1 a1 (y + 1) - upV (ms k) g0 a0 y else 0) = _
    rw [ih]
    by_cases hp : pic k = p
    · rw [cnt_T hp]
      have hs := h k (Nat.lt_succ_self k) hp
      show _ = V1 + (costS a1 g1 (sh (cnt pic p k)) (costN a1 g1 sh (cnt pic p k)) - if y = 0 then 0 else costS a0 g0 (sh (cnt pic p k)) (costN a0 g0 sh (cnt pic p k)))
      rw [hs]
      by_cases h0 : (ms k).1 = 0
      · have hc1 : ∀ A G acc, costS A G (ms k) acc = acc + shareOf A (ms k) := fun A G acc => if_pos h0
        have hu : ∀ g a c, upV (ms k) g a c = shareOf a (ms k) := fun g a c => if_pos h0
        rw [if_pos (show pic k = p ∧ ((ms k).1 = 0 ∨ (ms k).1 = 3) from ⟨hp, Or.inl h0⟩), hu, hu, hc1, hc1]
        by_cases hy : y = 0
        · rw [if_pos hy, if_pos hy, hz hy k (Nat.lt_succ_self k), add_sub_assoc64, Int64.add_zero]
        · rw [if_neg hy, if_neg hy]
          exact add_sub_assoc64 _ _ _ _ _
      · by_cases h3 : (ms k).1 = 3
        · have hc1 : ∀ A G acc, costS A G (ms k) acc = acc + bonusAt G (ms k) := fun A G acc => (if_neg h0).trans (if_pos h3)
          rw [if_pos (show pic k = p ∧ ((ms k).1 = 0 ∨ (ms k).1 = 3) from ⟨hp, Or.inr h3⟩), hc1, hc1]
          rw [show upV (ms k) g1 a1 (y + 1) = bonusAt g1 (ms k) from (if_neg h0).trans (if_pos (Nat.succ_pos y))]
          by_cases hy : y = 0
          · rw [if_pos hy, if_pos hy, show upV (ms k) g0 a0 y = 0 from (if_neg h0).trans (if_neg (by omega)), add_sub_assoc64, Int64.add_zero]
          · rw [if_neg hy, if_neg hy, show upV (ms k) g0 a0 y = bonusAt g0 (ms k) from (if_neg h0).trans (if_pos (by omega))]
            exact add_sub_assoc64 _ _ _ _ _
        · have hc1 : ∀ A G acc, costS A G (ms k) acc = acc := fun A G acc => (if_neg h0).trans (if_neg h3)
          rw [if_neg (show ¬ (pic k = p ∧ ((ms k).1 = 0 ∨ (ms k).1 = 3)) from fun q => q.2.elim h0 h3), hc1, hc1, Int64.add_zero]
    · rw [if_neg (show ¬ (pic k = p ∧ ((ms k).1 = 0 ∨ (ms k).1 = 3)) from fun q => hp q.1), cnt_F hp, Int64.add_zero]
/-- the balance before interest, as the reference reckons it -/
theorem mX_eq (cr : Int32) (c : Nat → PCon) (p : Nat) (pic : Nat → Nat) (ms : Nat → Shr) (n y : Nat) (hn : (c p).2.2.2.2.2.2.2 = cnt pic p n) (h : ∀ j, j < n → pic j = p → (c p).2.2.2.2.2.2.1 (cnt pic p j) = ms j) (hz : ∀ j, j < n → shareOf 0 (ms j) = 0) :
    mD ((yRun cr c y p).2.2.2.2.1 + (((c p).2.2.2.2.2.1 y).toInt64 + prt ((c p).2.2.2.2.2.1 y).toInt64 (c p).2.1)) p pic ms (sumG (c p).2.2.2.1 (y + 1)) (sumA (c p).1 (c p).2.2.2.1 (y + 1)) (sumG (c p).2.2.2.1 y) (sumA (c p).1 (c p).2.2.2.1 y) y n - (adY (c p).1 ((c p).2.2.2.1 y) - feesY ((c p).2.2.2.1 y) (c p).2.2.2.2.1) = recX (c p).1 (c p).2.1 ((c p).2.2.2.1 y) (c p).2.2.2.2.1 ((c p).2.2.2.2.2.1 y) (c p).2.2.2.2.2.2.1 (c p).2.2.2.2.2.2.2 (yRun cr c y p) := by
  obtain ⟨h1, h2, h3, h4⟩ := yRun_sums cr c p y
  rw [mD_eq _ p pic ms (c p).2.2.2.2.2.2.1 _ _ _ _ y n h (fun e j hj => by subst e; exact hz j hj)]
  unfold recX recS
  rw [h1, h2, h4, hn]
  have e1 : sumG (c p).2.2.2.1 (y + 1) = sumG (c p).2.2.2.1 y + grossY ((c p).2.2.2.1 y) := rfl
  have e2 : sumA (c p).1 (c p).2.2.2.1 (y + 1) = sumA (c p).1 (c p).2.2.2.1 y + adY (c p).1 ((c p).2.2.2.1 y) := rfl
  rw [e1, e2]
  generalize costN (sumA (c p).1 (c p).2.2.2.1 y + adY (c p).1 ((c p).2.2.2.1 y)) (sumG (c p).2.2.2.1 y + grossY ((c p).2.2.2.1 y)) (c p).2.2.2.2.2.2.1 (cnt pic p n) = S1
  generalize (if y = 0 then (0 : Int64) else costN (sumA (c p).1 (c p).2.2.2.1 y) (sumG (c p).2.2.2.1 y) (c p).2.2.2.2.2.2.1 (cnt pic p n)) = S0
  simp only [Int64.sub_eq_add_neg]
  ac_rfl
/-! The reference's laying of the books. -/
def yX (c : PCon) (y : Nat) (B : BK) : Int64 := recX c.1 c.2.1 (c.2.2.2.1 y) c.2.2.2.2.1 (c.2.2.2.2.2.1 y) c.2.2.2.2.2.2.1 c.2.2.2.2.2.2.2 B
theorem yN {c : PCon} {y : Nat} {B : BK} (h : yX c y B < 0) : yGain c y B = -yX c y B ∧ (yRec c y B).2.2.2.2.1 = 0 ∧ (yRec c y B).2.2.2.2.2 = B.2.2.2.2.2 + -yX c y B := by
  unfold yGain recG yRec recB
  have h2 : recX c.1 c.2.1 (c.2.2.2.1 y) c.2.2.2.2.1 (c.2.2.2.2.2.1 y) c.2.2.2.2.2.2.1 c.2.2.2.2.2.2.2 B < 0 := h
  rw [if_pos h2, if_pos h2]
  exact ⟨rfl, rfl, rfl⟩
theorem yP {c : PCon} {y : Nat} {B : BK} (h : ¬ yX c y B < 0) : yGain c y B = 0 ∧ (yRec c y B).2.2.2.2.1 = yX c y B ∧ (yRec c y B).2.2.2.2.2 = B.2.2.2.2.2 := by
  unfold yGain recG yRec recB
  have h2 : ¬ recX c.1 c.2.1 (c.2.2.2.1 y) c.2.2.2.2.1 (c.2.2.2.2.2.1 y) c.2.2.2.2.2.2.1 c.2.2.2.2.2.2.2 B < 0 := h
  rw [if_neg h2, if_neg h2]
  exact ⟨rfl, rfl, rfl⟩
def JF (R : Nat → Nat → Option Nat) (m : Nat) (J J1 : Nat → Nat → Int64) : Prop := ∀ a, a ≠ dr R m 15 → a ≠ dr R m 16 → a ≠ dr R m 17 → J1 a = J a
def LM (R : Nat → Nat → Option Nat) (m : Nat) (J J1 : Nat → Nat → Int64) (Z : Nat → Nat → BK) (mm : Nat) : Prop :=
  (∀ p i, p < 2 → i < mm → J1 (dr R m 15) (10 * p + i) = (Z (i + 1) p).2.2.2.2.1 ∧ J1 (dr R m 16) (10 * p + i) = (Z (i + 1) p).2.2.2.2.2) ∧ JF R m J J1
/-- what one picture's year makes -/
def PBd (R : Nat → Nat → Option Nat) (m : Nat) (c : Nat → PCon) (Z : Nat → Nat → BK) (y p : Nat) (J : Nat → Nat → Int64) : Nat → Nat → Int64 :=
  u2 (u2 (u2 J (dr R m 17) p (yGain (c p) y (Z y p))) (dr R m 15) (10 * p + y) (yRec (c p) y (Z y p)).2.2.2.2.1) (dr R m 16) (10 * p + y) (yRec (c p) y (Z y p)).2.2.2.2.2
def MVd (R : Nat → Nat → Option Nat) (m y f t : Nat) (J : Nat → Nat → Int64) : Nat → Nat → Int64 :=
  u2 (u2 (u2 J (dr R m 16) (10 * f + y) (J (dr R m 16) (10 * f + y) - mn (J (dr R m 17) f) (J (dr R m 15) (10 * t + y)))) (dr R m 17) f (J (dr R m 17) f - mn (J (dr R m 17) f) (J (dr R m 15) (10 * t + y)))) (dr R m 15) (10 * t + y) (J (dr R m 15) (10 * t + y) - mn (J (dr R m 17) f) (J (dr R m 15) (10 * t + y)))
def DS (R : Nat → Nat → Option Nat) (m : Nat) : Prop := dr R m 15 ≠ dr R m 16 ∧ dr R m 15 ≠ dr R m 17 ∧ dr R m 16 ≠ dr R m 17
theorem Mdl.ds {L : List Nat} {K N : Nat → Nat} {R : Nat → Nat → Option Nat} {m : Nat} (h : Mdl L K N R m) : DS R m := ⟨(h.cel 15 1158 20 (by decide)).2.ne (h.cel 16 1174 20 (by decide)).2 (by decide), (h.cel 15 1158 20 (by decide)).2.ne (h.cel 17 1190 2 (by decide)).2 (by decide), (h.cel 16 1174 20 (by decide)).2.ne (h.cel 17 1190 2 (by decide)).2 (by decide)⟩
/-- the year's own six cells -/
def V6 (R : Nat → Nat → Option Nat) (m : Nat) (J1 : Nat → Nat → Int64) (y : Nat) (g b r : Nat → Int64) : Prop := ∀ p, p < 2 → J1 (dr R m 17) p = g p ∧ J1 (dr R m 15) (10 * p + y) = b p ∧ J1 (dr R m 16) (10 * p + y) = r p
section LY
variable {R : Nat → Nat → Option Nat} {m : Nat} {J J1 : Nat → Nat → Int64} {Z : Nat → Nat → BK} {mm y p k : Nat} {x : Int64} {g b r : Nat → Int64}
theorem LM.setG (h : LM R m J J1 Z mm) (hd : DS R m) : LM R m J (u2 J1 (dr R m 17) k x) Z mm := ⟨fun p i hp hi => by rw [u2_a hd.2.1, u2_a hd.2.2]; exact h.1 p i hp hi, fun a h1 h2 h3 => (funext fun j => u2_a h3).trans (h.2 a h1 h2 h3)⟩
theorem LM.setB (h : LM R m J J1 Z mm) (hd : DS R m) (hp : p < 2) (hy : y < 10) (hm : mm ≤ y) : LM R m J (u2 J1 (dr R m 15) (10 * p + y) x) Z mm := ⟨fun q i hq hi => by rw [u2_k (by omega), u2_a (Ne.symm hd.1)]; exact h.1 q i hq hi, fun a h1 h2 h3 => (funext fun j => u2_a h1).trans (h.2 a h1 h2 h3)⟩
theorem LM.setP (h : LM R m J J1 Z mm) (hd : DS R m) (hp : p < 2) (hy : y < 10) (hm : mm ≤ y) : LM R m J (u2 J1 (dr R m 16) (10 * p + y) x) Z mm := ⟨fun q i hq hi => by rw [u2_a hd.1, u2_k (by omega)]; exact h.1 q i hq hi, fun a h1 h2 h3 => (funext fun j => u2_a h2).trans (h.2 a h1 h2 h3)⟩
theorem LM.pb {c : Nat → PCon} (h : LM R m J J1 Z y) (hd : DS R m) (hp : p < 2) (hy : y < 10) : LM R m J (PBd R m c Z y p J1) Z y := ((h.setG hd).setB hd hp hy (Nat.le_refl y)).setP hd hp hy (Nat.le_refl y)
theorem LM.mv {f t : Nat} (h : LM R m J J1 Z y) (hd : DS R m) (hf : f < 2) (ht : t < 2) (hy : y < 10) : LM R m J (MVd R m y f t J1) Z y := ((h.setP hd hf hy (Nat.le_refl y)).setG hd).setB hd ht hy (Nat.le_refl y)
theorem V6.setG (h : V6 R m J1 y g b r) (hd : DS R m) (k : Nat) (x : Int64) : V6 R m (u2 J1 (dr R m 17) k x) y (fun q => if q = k then x else g q) b r := fun q hq => by
  obtain ⟨h1, h2, h3⟩ := h q hq
  rw [u2_a hd.2.1, u2_a hd.2.2]
  refine ⟨?_, h2, h3⟩
  by_cases e : q = k
  · subst e
    rw [u2_s]
    exact (if_pos rfl).symm
  · rw [u2_k e, h1]
    exact (if_neg e).symm
theorem V6.setB (h : V6 R m J1 y g b r) (hd : DS R m) (k : Nat) (x : Int64) : V6 R m (u2 J1 (dr R m 15) (10 * k + y) x) y g (fun q => if q = k then x else b q) r := fun q hq => by
  obtain ⟨h1, h2, h3⟩ := h q hq
  rw [u2_a (Ne.symm hd.2.1), u2_a (Ne.symm hd.1)]
  refine ⟨h1, ?_, h3⟩
  by_cases e : q = k
  · subst e
    rw [u2_s]
    exact (if_pos rfl).symm
  · rw [u2_k (by omega), h2]
    exact (if_neg e).symm
theorem V6.setP (h : V6 R m J1 y g b r) (hd : DS R m) (k : Nat) (x : Int64) : V6 R m (u2 J1 (dr R m 16) (10 * k + y) x) y g b (fun q => if q = k then x else r q) := fun q hq => by
  obtain ⟨h1, h2, h3⟩ := h q hq
  rw [u2_a (Ne.symm hd.2.2), u2_a hd.1]
  refine ⟨h1, h2, ?_⟩
  by_cases e : q = k
  · subst e
    rw [u2_s]
    exact (if_pos rfl).symm
  · rw [u2_k (by omega), h3]
    exact (if_neg e).symm
theorem V6.cong {g' b' r' : Nat → Int64} (h : V6 R m J1 y g b r) (e : ∀ p, p < 2 → g p = g' p ∧ b p = b' p ∧ r p = r' p) : V6 R m J1 y g' b' r' := fun p hp => ⟨(h p hp).1.trans (e p hp).1, (h p hp).2.1.trans (e p hp).2.1, (h p hp).2.2.trans (e p hp).2.2⟩
theorem V6.triv : V6 R m J1 y (fun p => J1 (dr R m 17) p) (fun p => J1 (dr R m 15) (10 * p + y)) (fun p => J1 (dr R m 16) (10 * p + y)) := fun p _ => ⟨rfl, rfl, rfl⟩
theorem V6.pb2 {c : Nat → PCon} (hd : DS R m) : V6 R m (PBd R m c Z y 1 (PBd R m c Z y 0 J1)) y (fun p => yGain (c p) y (Z y p)) (fun p => (yRec (c p) y (Z y p)).2.2.2.2.1) (fun p => (yRec (c p) y (Z y p)).2.2.2.2.2) := by
  have h := ((((((V6.triv (R := R) (m := m) (J1 := J1) (y := y)).setG hd 0 (yGain (c 0) y (Z y 0))).setB hd 0 (yRec (c 0) y (Z y 0)).2.2.2.2.1).setP hd 0 (yRec (c 0) y (Z y 0)).2.2.2.2.2).setG hd 1 (yGain (c 1) y (Z y 1))).setB hd 1 (yRec (c 1) y (Z y 1)).2.2.2.2.1).setP hd 1 (yRec (c 1) y (Z y 1)).2.2.2.2.2
  refine h.cong (fun p hp => ?_)
  rcases (show p = 0 ∨ p = 1 by omega) with rfl | rfl <;> exact ⟨rfl, rfl, rfl⟩
/-- a move, in the books' terms -/
theorem V6.mv {f t : Nat} {S : Nat → BK} (h : V6 R m J1 y g b r) (hd : DS R m) (hf : f < 2) (ht : t < 2) (hne : f ≠ t) (hS : ∀ p, p < 2 → b p = (S p).2.2.2.2.1 ∧ r p = (S p).2.2.2.2.2) :
    V6 R m (MVd R m y f t J1) y (fun q => if q = f then g f - mn (g f) (b t) else g q) (fun p => (mvS (g f) f t S p).2.2.2.2.1) (fun p => (mvS (g f) f t S p).2.2.2.2.2) := by
  have e1 := (h f hf).1
  have e2 := (h t ht).2.1
  have e3 := (h f hf).2.2
  have h2 := ((h.setP hd f (r f - mn (g f) (b t))).setG hd f (g f - mn (g f) (b t))).setB hd t (b t - mn (g f) (b t))
  have e : MVd R m y f t J1 = u2 (u2 (u2 J1 (dr R m 16) (10 * f + y) (r f - mn (g f) (b t))) (dr R m 17) f (g f - mn (g f) (b t))) (dr R m 15) (10 * t + y) (b t - mn (g f) (b t)) := by
    unfold MVd
    rw [e1, e2, e3]
  rw [e]
  refine h2.cong (fun p hp => ⟨rfl, ?_, ?_⟩)
  · show (if p = t then b t - mn (g f) (b t) else b p) = (mvS (g f) f t S p).2.2.2.2.1
    unfold mvS
    by_cases e5 : p = f
    · subst e5
      rw [if_neg hne, if_pos rfl]
      exact (hS p hp).1
    · rw [if_neg e5]
      by_cases e6 : p = t
      · subst e6
        rw [if_pos rfl, if_pos rfl, (hS p hp).1]
        rfl
      · rw [if_neg e6, if_neg e6]
        exact (hS p hp).1
  · show (if p = f then r f - mn (g f) (b t) else r p) = (mvS (g f) f t S p).2.2.2.2.2
    unfold mvS
    by_cases e5 : p = f
    · subst e5
      rw [if_pos rfl, if_pos rfl, (hS p hp).2, (hS t ht).1]
      rfl
    · rw [if_neg e5, if_neg e5]
      by_cases e6 : p = t
      · subst e6
        rw [if_pos rfl]
        exact (hS p hp).2
      · rw [if_neg e6]
        exact (hS p hp).2
theorem LM.next {S : Nat → BK} {it : Nat → Int32} (h : LM R m J J1 Z y) (hd : DS R m) (hy : y < 10) (hv : ∀ p, p < 2 → J1 (dr R m 15) (10 * p + y) = (S p).2.2.2.2.1 ∧ J1 (dr R m 16) (10 * p + y) = (S p).2.2.2.2.2) (hZS : ∀ p, p < 2 → Z (y + 1) p = finB (it p) (S p)) :
    LM R m J (u2 (u2 J1 (dr R m 15) (10 * 0 + y) (Z (y + 1) 0).2.2.2.2.1) (dr R m 15) (10 * 1 + y) (Z (y + 1) 1).2.2.2.2.1) Z (y + 1) := by
  have h2 := (h.setB hd (x := (Z (y + 1) 0).2.2.2.2.1) (show 0 < 2 by decide) hy (Nat.le_refl y)).setB hd (x := (Z (y + 1) 1).2.2.2.2.1) (show 1 < 2 by decide) hy (Nat.le_refl y)
  refine ⟨fun p i hp hi => ?_, h2.2⟩
  by_cases e : i = y
  · subst e
    have e3 : (Z (i + 1) p).2.2.2.2.2 = (S p).2.2.2.2.2 := by rw [hZS p hp]; rfl
    rw [u2_a (Ne.symm hd.1), u2_a (Ne.symm hd.1), e3]
    refine ⟨?_, (hv p hp).2⟩
    rcases (show p = 0 ∨ p = 1 by omega) with rfl | rfl
    · rw [u2_k (by omega), u2_s]
    · rw [u2_s]
  · exact h2.1 p i hp (by omega)
end LY
