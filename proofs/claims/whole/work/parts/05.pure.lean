/-! What the class and its reference reckon, as functions of whole and long numbers. -/
abbrev Shr : Type := Int32 × Int32 × Int32 × Int32
def prt (a : Int64) (r : Int32) : Int64 := a * r.toInt64 / 10000
def mn (x y : Int64) : Int64 := if y < x then y else x
def grossY (f : Nat → Int32) : Int64 := 0 + (f 0).toInt64 + (f 1).toInt64 + (f 2).toInt64 + (f 3).toInt64
def feesY (f g : Nat → Int32) : Int64 := 0 + prt (f 0).toInt64 (g 0) + prt (f 1).toInt64 (g 1) + prt (f 2).toInt64 (g 2) + prt (f 3).toInt64 (g 3)
def shareOf (a : Int64) (q : Shr) : Int64 := (mn a q.2.1.toInt64 * q.2.2.1.toInt64 + (a - mn a q.2.1.toInt64) * q.2.2.2.toInt64) / 10000
def bonusAt (g : Int64) (q : Shr) : Int64 := if q.2.1.toInt64 ≤ g then q.2.2.1.toInt64 * 100 else 0
def costS (adj gro : Int64) (q : Shr) (acc : Int64) : Int64 := if q.1 = 0 then acc + shareOf adj q else if q.1 = 3 then acc + bonusAt gro q else acc
def costN (adj gro : Int64) (sh : Nat → Shr) : Nat → Int64
  | 0 => 0
  | n + 1 => costS adj gro (sh n) (costN adj gro sh n)
def leftS (q : Shr) (left : Int64) : Int64 := if q.1 = 2 then left - mn q.2.1.toInt64 left else left
def leftN (pf : Int64) (sh : Nat → Shr) : Nat → Int64
  | 0 => pf
  | n + 1 => leftS (sh n) (leftN pf sh n)
def mx (x y : Int32) : Int32 := if x < y then y else x
def netS (q : Shr) (acc : Int32) : Int32 := if q.1 = 1 then acc + mx q.2.2.1 q.2.2.2 else acc
def netN (sh : Nat → Shr) : Nat → Int32
  | 0 => 0
  | n + 1 => netS (sh n) (netN sh n)
def sumF (adj gro pf : Int64) (q : Shr) (sh : Nat → Shr) (n turn : Nat) : Int64 :=
  if q.1 = 0 then shareOf adj q else if q.1 = 1 then shareOf (leftN pf sh n) q else if q.1 = 2 then mn q.2.1.toInt64 (leftN pf sh turn) else bonusAt gro q
/-! The cells of the class: a tag is a place's own number and, modulo 16, its kind. -/
def dr (R : Nat → Nat → Option Nat) (a k : Nat) : Nat := (R a k).getD 0
def rwA (R : Nat → Nat → Option Nat) (p y : Nat) : Nat := dr R (dr R p 0) y
def shA (R : Nat → Nat → Option Nat) (sl i : Nat) : Nat := dr R (dr R sl 1) i
def shV (I : Nat → Nat → Int32) (a : Nat) : Shr := (I a 2, I a 3, I a 4, I a 5)
def Pic (L : List Nat) (K N : Nat → Nat) (R : Nat → Nat → Option Nat) (b p : Nat) : Prop :=
  At L K N p (320 * b + 1) 0 ∧ R p 0 = some (dr R p 0) ∧ At L K N (dr R p 0) (320 * b + 24) 10 ∧ (∀ y, y < 10 → R (dr R p 0) y = some (rwA R p y) ∧ At L K N (rwA R p y) (320 * b + 37 + 16 * y) 4) ∧
  R p 1 = some (dr R p 1) ∧ At L K N (dr R p 1) (320 * b + 197) 10 ∧ R p 2 = some (dr R p 2) ∧ At L K N (dr R p 2) (320 * b + 213) 4 ∧ R p 3 = some (dr R p 3) ∧
  R p 7 = some (dr R p 7) ∧ At L K N (dr R p 7) (320 * b + 246) 10 ∧ R p 8 = some (dr R p 8) ∧ At L K N (dr R p 8) (320 * b + 262) 10
def Lst (L : List Nat) (K N : Nat → Nat) (I : Nat → Nat → Int32) (R : Nat → Nat → Option Nat) (sl t te n : Nat) : Prop :=
  At L K N sl t 0 ∧ t % 16 = 0 ∧ I sl 2 = nI n ∧ n ≤ 8 ∧ te % 16 = 7 ∧ (0 < n → R sl 1 = some (dr R sl 1) ∧ At L K N (dr R sl 1) te 10 ∧ ∀ i, i < n → R (dr R sl 1) i = some (shA R sl i) ∧ At L K N (shA R sl i) (K (shA R sl i)) 0 ∧ K (shA R sl i) % 16 = 2 ∧ 1600 ≤ K (shA R sl i))
