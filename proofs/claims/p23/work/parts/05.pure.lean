/-! What the class and its reference reckon, as functions of whole and long numbers. -/
abbrev Shr : Type := Int32 × Int32 × Int32 × Int32
def prt (a : Int64) (r : Int32) : Int64 := a * r.toInt64 / 10000
def mn (x y : Int64) : Int64 := if y < x then y else x
def grossY (f : Nat → Int32) : Int64 := 0 + (f 0).toInt64 + (f 1).toInt64 + (f 2).toInt64 + (f 3).toInt64
def feesY (f g : Nat → Int32) : Int64 := 0 + prt (f 0).toInt64 (g 0) + prt (f 1).toInt64 (g 1) + prt (f 2).toInt64 (g 2) + prt (f 3).toInt64 (g 3)
def shareOf (a : Int64) (q : Shr) : Int64 := (mn a q.2.1.toInt64 * q.2.2.1.toInt64 + (a - mn a q.2.1.toInt64) * q.2.2.2.toInt64) / 10000
def bonusAt (g : Int64) (q : Shr) : Int64 := if q.2.1.toInt64 ≤ g then q.2.2.1.toInt64 * 100 else 0
theorem bonusAt_0 {g : Int64} {q : Shr} (h : g < q.2.1.toInt64) : bonusAt g q = 0 := if_neg (Int64.not_le.mpr h)
theorem bonusAt_1 {g : Int64} {q : Shr} (h : ¬ g < q.2.1.toInt64) : bonusAt g q = q.2.2.1.toInt64 * 100 := if_pos (Int64.not_lt.mp h)
def costS (adj gro : Int64) (q : Shr) (acc : Int64) : Int64 := if q.1 = 0 then acc + shareOf adj q else if q.1 = 3 then acc + bonusAt gro q else acc
def costN (adj gro : Int64) (sh : Nat → Shr) : Nat → Int64
  | 0 => 0
  | n + 1 => costS adj gro (sh n) (costN adj gro sh n)
def leftS (q : Shr) (left : Int64) : Int64 := if q.1 = 2 then left - mn q.2.1.toInt64 left else left
def leftN (pf : Int64) (sh : Nat → Shr) : Nat → Int64
  | 0 => pf
  | n + 1 => leftS (sh n) (leftN pf sh n)
def mx (x y : Int32) : Int32 := if x < y then y else x
def netS (q : Shr) (acc : Int32) : Int32 := if q.1 = 1 then acc + mx q.2.2.1 q.2.2.2 else acc
def netN (sh : Nat → Shr) : Nat → Int32
  | 0 => 0
  | n + 1 => netS (sh n) (netN sh n)
def sumF (adj gro pf : Int64) (q : Shr) (sh : Nat → Shr) (n turn : Nat) : Int64 :=
  if q.1 = 0 then shareOf adj q else if q.1 = 1 then shareOf (leftN pf sh n) q else if q.1 = 2 then mn q.2.1.toInt64 (leftN pf sh turn) else bonusAt gro q
/-! The cells of the class: a tag is a place's own number and, modulo 16, its kind. -/
def dr (R : Nat → Nat → Option Nat) (a k : Nat) : Nat := (R a k).getD 0
def rwA (R : Nat → Nat → Option Nat) (p y : Nat) : Nat := dr R (dr R p 0) y
def shA (R : Nat → Nat → Option Nat) (sl i : Nat) : Nat := dr R (dr R sl 1) i
def shV (I : Nat → Nat → Int32) (a : Nat) : Shr := (I a 2, I a 3, I a 4, I a 5)
def Pic (L : List Nat) (K N : Nat → Nat) (R : Nat → Nat → Option Nat) (b p : Nat) : Prop :=
  At L K N p (320 * b + 1) 0 ∧ R p 0 = some (dr R p 0) ∧ At L K N (dr R p 0) (320 * b + 24) 10 ∧ (∀ y, y < 10 → R (dr R p 0) y = some (rwA R p y) ∧ At L K N (rwA R p y) (320 * b + 37 + 16 * y) 4) ∧
  R p 1 = some (dr R p 1) ∧ At L K N (dr R p 1) (320 * b + 197) 10 ∧ R p 2 = some (dr R p 2) ∧ At L K N (dr R p 2) (320 * b + 213) 4 ∧ R p 3 = some (dr R p 3) ∧
  R p 7 = some (dr R p 7) ∧ At L K N (dr R p 7) (320 * b + 246) 10 ∧ R p 8 = some (dr R p 8) ∧ At L K N (dr R p 8) (320 * b + 262) 10
def Lst (L : List Nat) (K N : Nat → Nat) (I : Nat → Nat → Int32) (R : Nat → Nat → Option Nat) (sl t te n : Nat) : Prop :=
  At L K N sl t 0 ∧ t % 16 = 0 ∧ I sl 2 = nI n ∧ n ≤ 8 ∧ te % 16 = 7 ∧ (0 < n → R sl 1 = some (dr R sl 1) ∧ At L K N (dr R sl 1) te 10 ∧ ∀ i, i < n → R (dr R sl 1) i = some (shA R sl i) ∧ At L K N (shA R sl i) (K (shA R sl i)) 0 ∧ K (shA R sl i) % 16 = 2 ∧ 1600 ≤ K (shA R sl i))
/-! The books of a picture: gross, adjusted, fees, shares, balance, profit. -/
abbrev BK : Type := Int64 × Int64 × Int64 × Int64 × Int64 × Int64
def getB (J : Nat → Nat → Int64) (p : Nat) : BK := (J p 9, J p 10, J p 11, J p 12, J p 13, J p 14)
def setB (J : Nat → Nat → Int64) (p : Nat) (B : BK) : Nat → Nat → Int64 := fun a k => if a = p then (if k = 9 then B.1 else if k = 10 then B.2.1 else if k = 11 then B.2.2.1 else if k = 12 then B.2.2.2.1 else if k = 13 then B.2.2.2.2.1 else if k = 14 then B.2.2.2.2.2 else J a k) else J a k
theorem setB_self (J : Nat → Nat → Int64) (p : Nat) : J = setB J p (getB J p) := by
  funext a k
  unfold setB getB
  by_cases h : a = p
  · subst h
    rw [if_pos rfl]
    repeat' split
    all_goals first | (subst_vars; rfl) | rfl
  · rw [if_neg h]
theorem setB_9 (J : Nat → Nat → Int64) (p : Nat) (B : BK) : setB J p B p 9 = B.1 := by unfold setB; rw [if_pos rfl]; rfl
theorem setB_10 (J : Nat → Nat → Int64) (p : Nat) (B : BK) : setB J p B p 10 = B.2.1 := by unfold setB; rw [if_pos rfl]; rfl
theorem setB_11 (J : Nat → Nat → Int64) (p : Nat) (B : BK) : setB J p B p 11 = B.2.2.1 := by unfold setB; rw [if_pos rfl]; rfl
theorem setB_12 (J : Nat → Nat → Int64) (p : Nat) (B : BK) : setB J p B p 12 = B.2.2.2.1 := by unfold setB; rw [if_pos rfl]; rfl
theorem setB_13 (J : Nat → Nat → Int64) (p : Nat) (B : BK) : setB J p B p 13 = B.2.2.2.2.1 := by unfold setB; rw [if_pos rfl]; rfl
theorem setB_14 (J : Nat → Nat → Int64) (p : Nat) (B : BK) : setB J p B p 14 = B.2.2.2.2.2 := by unfold setB; rw [if_pos rfl]; rfl
theorem setB_o (J : Nat → Nat → Int64) (p : Nat) (B : BK) {a : Nat} (h : a ≠ p) (k : Nat) : setB J p B a k = J a k := if_neg h
theorem getB_set (J : Nat → Nat → Int64) (p : Nat) (B : BK) : getB (setB J p B) p = B := by
  unfold getB
  rw [setB_9, setB_10, setB_11, setB_12, setB_13, setB_14]
theorem setB_set (J : Nat → Nat → Int64) (p : Nat) (B C : BK) : setB (setB J p B) p C = setB J p C := by
  funext a k
  unfold setB
  by_cases h : a = p
  · rw [if_pos h, if_pos h]
    repeat' split
    all_goals first | rfl | (subst_vars; contradiction) | contradiction
  · rw [if_neg h, if_neg h, if_neg h]
theorem setB_u (J : Nat → Nat → Int64) (p : Nat) (B C : BK) (k : Nat) (x : Int64) (hk : 9 ≤ k ∧ k ≤ 14) (h : ∀ j, 9 ≤ j → j ≤ 14 → setB J p C p j = if j = k then x else setB J p B p j) : u2 (setB J p B) p k x = setB J p C := by
  funext a j
  by_cases ha : a = p
  · subst ha
    by_cases hj : j = k
    · subst hj
      rw [u2_s, h j hk.1 hk.2, if_pos rfl]
    · rw [u2_k hj]
      by_cases hr : 9 ≤ j ∧ j ≤ 14
      · rw [h j hr.1 hr.2, if_neg hj]
      · unfold setB
        rw [if_pos rfl, if_pos rfl]
        repeat' split
        all_goals first | rfl | omega
  · rw [u2_a ha, setB_o J p B ha, setB_o J p C ha]
theorem b6 {P : Nat → Prop} (h9 : P 9) (h10 : P 10) (h11 : P 11) (h12 : P 12) (h13 : P 13) (h14 : P 14) : ∀ j, 9 ≤ j → j ≤ 14 → P j := by
  intro j h1 h2
  rcases (show j = 9 ∨ j = 10 ∨ j = 11 ∨ j = 12 ∨ j = 13 ∨ j = 14 by omega) with rfl | rfl | rfl | rfl | rfl | rfl <;> assumption
theorem setB_u9 (J : Nat → Nat → Int64) (p : Nat) (g a f s b r x : Int64) : u2 (setB J p (g, a, f, s, b, r)) p 9 x = setB J p (x, a, f, s, b, r) := setB_u J p _ _ 9 x (by decide) (b6 (by rw [setB_9]; rfl) (by rw [setB_10, setB_10]; rfl) (by rw [setB_11, setB_11]; rfl) (by rw [setB_12, setB_12]; rfl) (by rw [setB_13, setB_13]; rfl) (by rw [setB_14, setB_14]; rfl))
theorem setB_u10 (J : Nat → Nat → Int64) (p : Nat) (g a f s b r x : Int64) : u2 (setB J p (g, a, f, s, b, r)) p 10 x = setB J p (g, x, f, s, b, r) := setB_u J p _ _ 10 x (by decide) (b6 (by rw [setB_9, setB_9]; rfl) (by rw [setB_10]; rfl) (by rw [setB_11, setB_11]; rfl) (by rw [setB_12, setB_12]; rfl) (by rw [setB_13, setB_13]; rfl) (by rw [setB_14, setB_14]; rfl))
theorem setB_u11 (J : Nat → Nat → Int64) (p : Nat) (g a f s b r x : Int64) : u2 (setB J p (g, a, f, s, b, r)) p 11 x = setB J p (g, a, x, s, b, r) := setB_u J p _ _ 11 x (by decide) (b6 (by rw [setB_9, setB_9]; rfl) (by rw [setB_10, setB_10]; rfl) (by rw [setB_11]; rfl) (by rw [setB_12, setB_12]; rfl) (by rw [setB_13, setB_13]; rfl) (by rw [setB_14, setB_14]; rfl))
theorem setB_u12 (J : Nat → Nat → Int64) (p : Nat) (g a f s b r x : Int64) : u2 (setB J p (g, a, f, s, b, r)) p 12 x = setB J p (g, a, f, x, b, r) := setB_u J p _ _ 12 x (by decide) (b6 (by rw [setB_9, setB_9]; rfl) (by rw [setB_10, setB_10]; rfl) (by rw [setB_11, setB_11]; rfl) (by rw [setB_12]; rfl) (by rw [setB_13, setB_13]; rfl) (by rw [setB_14, setB_14]; rfl))
theorem setB_u13 (J : Nat → Nat → Int64) (p : Nat) (g a f s b r x : Int64) : u2 (setB J p (g, a, f, s, b, r)) p 13 x = setB J p (g, a, f, s, x, r) := setB_u J p _ _ 13 x (by decide) (b6 (by rw [setB_9, setB_9]; rfl) (by rw [setB_10, setB_10]; rfl) (by rw [setB_11, setB_11]; rfl) (by rw [setB_12, setB_12]; rfl) (by rw [setB_13]; rfl) (by rw [setB_14, setB_14]; rfl))
theorem setB_u14 (J : Nat → Nat → Int64) (p : Nat) (g a f s b r x : Int64) : u2 (setB J p (g, a, f, s, b, r)) p 14 x = setB J p (g, a, f, s, b, x) := setB_u J p _ _ 14 x (by decide) (b6 (by rw [setB_9, setB_9]; rfl) (by rw [setB_10, setB_10]; rfl) (by rw [setB_11, setB_11]; rfl) (by rw [setB_12, setB_12]; rfl) (by rw [setB_13, setB_13]; rfl) (by rw [setB_14]; rfl))
/-- what a picture's year rests on: top, overhead, interest; receipts by windows, fee rates; costs; the sharers -/
def adY (top : Int32) (rc : Nat → Int32) : Int64 := grossY rc - prt (grossY rc) top
def recS (top : Int32) (rc : Nat → Int32) (sh : Nat → Shr) (n : Nat) (B : BK) : Int64 := costN (B.2.1 + adY top rc) (B.1 + grossY rc) sh n
def recX (top ovh : Int32) (rc fe : Nat → Int32) (co : Int32) (sh : Nat → Shr) (n : Nat) (B : BK) : Int64 := B.2.2.2.2.1 + (co.toInt64 + prt co.toInt64 ovh + recS top rc sh n B - B.2.2.2.1) - (adY top rc - feesY rc fe)
def recB (top ovh : Int32) (rc fe : Nat → Int32) (co : Int32) (sh : Nat → Shr) (n : Nat) (B : BK) : BK :=
  if recX top ovh rc fe co sh n B < 0 then (B.1 + grossY rc, B.2.1 + adY top rc, B.2.2.1 + feesY rc fe, recS top rc sh n B, 0, B.2.2.2.2.2 + -recX top ovh rc fe co sh n B)
  else (B.1 + grossY rc, B.2.1 + adY top rc, B.2.2.1 + feesY rc fe, recS top rc sh n B, recX top ovh rc fe co sh n B, B.2.2.2.2.2)
def recG (top ovh : Int32) (rc fe : Nat → Int32) (co : Int32) (sh : Nat → Shr) (n : Nat) (B : BK) : Int64 := if recX top ovh rc fe co sh n B < 0 then -recX top ovh rc fe co sh n B else 0
