/-! The years, as the class draws them: a picture's terms, its books, what a year makes of both. -/
abbrev PCon : Type := Int32 × Int32 × Int32 × (Nat → Nat → Int32) × (Nat → Int32) × (Nat → Int32) × (Nat → Shr) × Nat
def pcon (I : Nat → Nat → Int32) (R : Nat → Nat → Option Nat) (p n : Nat) : PCon := (I p 4, I p 5, I p 6, fun y => I (rwA R p y), I (dr R p 2), I (dr R p 1), fun i => shV I (shA R (dr R p 3) i), n)
def yRec (c : PCon) (y : Nat) (B : BK) : BK := recB c.1 c.2.1 (c.2.2.2.1 y) c.2.2.2.2.1 (c.2.2.2.2.2.1 y) c.2.2.2.2.2.2.1 c.2.2.2.2.2.2.2 B
def yGain (c : PCon) (y : Nat) (B : BK) : Int64 := recG c.1 c.2.1 (c.2.2.2.1 y) c.2.2.2.2.1 (c.2.2.2.2.2.1 y) c.2.2.2.2.2.2.1 c.2.2.2.2.2.2.2 B
def finB (it : Int32) (B : BK) : BK := (B.1, B.2.1, B.2.2.1, B.2.2.2.1, B.2.2.2.2.1 + prt B.2.2.2.2.1 it, B.2.2.2.2.2)
def takeP (B : BK) (x : Int64) : BK := (B.1, B.2.1, B.2.2.1, B.2.2.2.1, B.2.2.2.2.1, B.2.2.2.2.2 - x)
def takeL (B : BK) (x : Int64) : BK := (B.1, B.2.1, B.2.2.1, B.2.2.2.1, B.2.2.2.2.1 - x, B.2.2.2.2.2)
def mvS (g : Int64) (f t : Nat) (S : Nat → BK) : Nat → BK := fun k => if k = f then takeP (S f) (mn g (S t).2.2.2.2.1) else if k = t then takeL (S t) (mn g (S t).2.2.2.2.1) else S k
def yStep (cr : Int32) (c : Nat → PCon) (y : Nat) (S : Nat → BK) : Nat → BK := fun k =>
  finB (c k).2.2.1 (if cr = 0 then yRec (c k) y (S k) else mvS (yGain (c 1) y (S 1)) 1 0 (mvS (yGain (c 0) y (S 0)) 0 1 (fun k => yRec (c k) y (S k))) k)
def yRun (cr : Int32) (c : Nat → PCon) : Nat → Nat → BK
  | 0 => fun _ => (0, 0, 0, 0, 0, 0)
  | y + 1 => yStep cr c y (yRun cr c y)
/-- J' holds the books S, and of the picture k the years below m k; else it is J -/
def BM (R : Nat → Nat → Option Nat) (x : Nat) (J J' : Nat → Nat → Int64) (Z : Nat → Nat → BK) (S : Nat → BK) (mm : Nat → Nat) : Prop :=
  (∀ k, k < 2 → getB J' (dr R x k) = S k ∧ ∀ j, j < mm k → J' (dr R (dr R x k) 7) j = (Z (j + 1) k).2.2.2.2.1 ∧ J' (dr R (dr R x k) 8) j = (Z (j + 1) k).2.2.2.2.2) ∧
  ∀ a, (∀ k, k < 2 → a ≠ dr R x k ∧ a ≠ dr R (dr R x k) 7 ∧ a ≠ dr R (dr R x k) 8) → J' a = J a
/-- the addresses that the books lie at are apart -/
def Apart (R : Nat → Nat → Option Nat) (x : Nat) : Prop :=
  (∀ k j, k < 2 → j < 2 → dr R x k ≠ dr R (dr R x j) 7 ∧ dr R x k ≠ dr R (dr R x j) 8 ∧ dr R (dr R x k) 7 ≠ dr R (dr R x j) 8) ∧
  ∀ k j, k < 2 → j < 2 → k ≠ j → dr R x k ≠ dr R x j ∧ dr R (dr R x k) 7 ≠ dr R (dr R x j) 7 ∧ dr R (dr R x k) 8 ≠ dr R (dr R x j) 8
theorem Apart.of {L : List Nat} {K N : Nat → Nat} {R : Nat → Nat → Option Nat} {x : Nat} (h : ∀ k, k < 2 → Pic L K N R (k + 1) (dr R x k)) : Apart R x := by
  refine ⟨fun k j hk hj => ?_, fun k j hk hj hkj => ?_⟩
  · obtain ⟨a0, -, -, -, -, -, -, -, -, -, a7, -, a8⟩ := h k hk
    obtain ⟨b0, -, -, -, -, -, -, -, -, -, b7, -, b8⟩ := h j hj
    exact ⟨a0.ne b7 (by omega), a0.ne b8 (by omega), a7.ne b8 (by omega)⟩
  · obtain ⟨a0, -, -, -, -, -, -, -, -, -, a7, -, a8⟩ := h k hk
    obtain ⟨b0, -, -, -, -, -, -, -, -, -, b7, -, b8⟩ := h j hj
    exact ⟨a0.ne b0 (by omega), a7.ne b7 (by omega), a8.ne b8 (by omega)⟩
theorem getB_cong {J J' : Nat → Nat → Int64} {p : Nat} (h : J' p = J p) : getB J' p = getB J p := by unfold getB; rw [h]
section BK1
variable {R : Nat → Nat → Option Nat} {x : Nat} {J J' : Nat → Nat → Int64} {Z : Nat → Nat → BK} {S : Nat → BK} {mm : Nat → Nat}
theorem BM.set (h : BM R x J J' Z S mm) (ha : Apart R x) {k : Nat} (hk : k < 2) (B : BK) : BM R x J (setB J' (dr R x k) B) Z (fun j => if j = k then B else S j) mm := by
  refine ⟨fun j hj => ?_, fun a q => ?_⟩
  · obtain ⟨h1, h2⟩ := h.1 j hj
    refine ⟨?_, fun i hi => ?_⟩
    · by_cases e : j = k
      · subst e
        rw [getB_set]
        exact (if_pos rfl).symm
      · show getB (setB J' (dr R x k) B) (dr R x j) = if j = k then B else S j
        rw [if_neg e, ← h1]
        exact getB_cong (funext fun i => setB_o J' _ B (ha.2 j k hj hk e).1 i)
    · rw [setB_o J' _ B (Ne.symm (ha.1 k j hk hj).1), setB_o J' _ B (Ne.symm (ha.1 k j hk hj).2.1)]
      exact h2 i hi
  · rw [← h.2 a q]
    exact funext fun i => setB_o J' _ B (q k hk).1 i
theorem setB_of_u (J : Nat → Nat → Int64) (p : Nat) (x : Int64) : u2 J p 13 x = setB J p (J p 9, J p 10, J p 11, J p 12, x, J p 14) ∧ u2 J p 14 x = setB J p (J p 9, J p 10, J p 11, J p 12, J p 13, x) := by
  constructor
  · conv => lhs; rw [setB_self J p]
    exact setB_u13 J p _ _ _ _ _ _ x
  · conv => lhs; rw [setB_self J p]
    exact setB_u14 J p _ _ _ _ _ _ x
theorem getB_eq {J : Nat → Nat → Int64} {p : Nat} {B : BK} (h : getB J p = B) : J p 9 = B.1 ∧ J p 10 = B.2.1 ∧ J p 11 = B.2.2.1 ∧ J p 12 = B.2.2.2.1 ∧ J p 13 = B.2.2.2.2.1 ∧ J p 14 = B.2.2.2.2.2 := by
  subst h
  exact ⟨rfl, rfl, rfl, rfl, rfl, rfl⟩
theorem BM.move (h : BM R x J J' Z S mm) (ha : Apart R x) {f t : Nat} (hf : f < 2) (ht : t < 2) (hne : f ≠ t) (g : Int64) :
    BM R x J (u2 (u2 J' (dr R x f) 14 (J' (dr R x f) 14 - mn g (J' (dr R x t) 13))) (dr R x t) 13 (J' (dr R x t) 13 - mn g (J' (dr R x t) 13))) Z (mvS g f t S) mm := by
  obtain ⟨f9, f10, f11, f12, f13, f14⟩ := getB_eq (h.1 f hf).1
  obtain ⟨t9, t10, t11, t12, t13, t14⟩ := getB_eq (h.1 t ht).1
  have hp := (ha.2 t f ht hf (Ne.symm hne)).1
  rw [(setB_of_u J' (dr R x f) _).2]
  generalize hJ2 : setB J' (dr R x f) (J' (dr R x f) 9, J' (dr R x f) 10, J' (dr R x f) 11, J' (dr R x f) 12, J' (dr R x f) 13, J' (dr R x f) 14 - mn g (J' (dr R x t) 13)) = J2
  have ht2 : J2 (dr R x t) = J' (dr R x t) := by rw [← hJ2]; exact funext fun i => setB_o J' _ _ hp i
  rw [(setB_of_u J2 (dr R x t) _).1, ht2, ← hJ2]
  have h2 := (h.set ha hf (J' (dr R x f) 9, J' (dr R x f) 10, J' (dr R x f) 11, J' (dr R x f) 12, J' (dr R x f) 13, J' (dr R x f) 14 - mn g (J' (dr R x t) 13))).set ha ht (J' (dr R x t) 9, J' (dr R x t) 10, J' (dr R x t) 11, J' (dr R x t) 12, J' (dr R x t) 13 - mn g (J' (dr R x t) 13), J' (dr R x t) 14)
  have e : (fun j => if j = t then (J' (dr R x t) 9, J' (dr R x t) 10, J' (dr R x t) 11, J' (dr R x t) 12, J' (dr R x t) 13 - mn g (J' (dr R x t) 13), J' (dr R x t) 14) else (fun j => if j = f then (J' (dr R x f) 9, J' (dr R x f) 10, J' (dr R x f) 11, J' (dr R x f) 12, J' (dr R x f) 13, J' (dr R x f) 14 - mn g (J' (dr R x t) 13)) else S j) j) = mvS g f t S := by
    funext j
    unfold mvS takeP takeL
    rw [f9, f10, f11, f12, f13, f14, t9, t10, t11, t12, t13, t14]
    by_cases e1 : j = t
    · subst e1
      rw [if_pos rfl, if_neg (Ne.symm hne), if_pos rfl]
    · rw [if_neg e1, if_neg e1]
  rw [e] at h2
  exact h2
theorem BM.fin (h : BM R x J J' Z S mm) (ha : Apart R x) {k y : Nat} (hk : k < 2) (hy : mm k = y) (it : Int32) (hZ : Z (y + 1) k = finB it (S k)) :
    BM R x J (u2 (u2 (u2 J' (dr R x k) 13 (J' (dr R x k) 13 + prt (J' (dr R x k) 13) it)) (dr R (dr R x k) 7) y (J' (dr R x k) 13 + prt (J' (dr R x k) 13) it)) (dr R (dr R x k) 8) y (J' (dr R x k) 14)) Z (fun j => if j = k then finB it (S k) else S j) (fun j => if j = k then y + 1 else mm j) := by
  obtain ⟨f9, f10, f11, f12, f13, f14⟩ := getB_eq (h.1 k hk).1
  have hz1 : (Z (y + 1) k).2.2.2.2.1 = J' (dr R x k) 13 + prt (J' (dr R x k) 13) it := by rw [hZ, f13]; rfl
  have hz2 : (Z (y + 1) k).2.2.2.2.2 = J' (dr R x k) 14 := by rw [hZ, f14]; rfl
  have h2 := h.set ha hk (J' (dr R x k) 9, J' (dr R x k) 10, J' (dr R x k) 11, J' (dr R x k) 12, J' (dr R x k) 13 + prt (J' (dr R x k) 13) it, J' (dr R x k) 14)
  rw [← (setB_of_u J' (dr R x k) _).1] at h2
  generalize u2 J' (dr R x k) 13 (J' (dr R x k) 13 + prt (J' (dr R x k) 13) it) = J2 at h2 ⊢
  have e : (fun j => if j = k then (J' (dr R x k) 9, J' (dr R x k) 10, J' (dr R x k) 11, J' (dr R x k) 12, J' (dr R x k) 13 + prt (J' (dr R x k) 13) it, J' (dr R x k) 14) else S j) = (fun j => if j = k then finB it (S k) else S j) := by
    funext j
    unfold finB
    rw [f9, f10, f11, f12, f13, f14]
  rw [e] at h2
  refine ⟨fun j hj => ?_, fun a q => ?_⟩
  · obtain ⟨g1, g2⟩ := h2.1 j hj
    have n1 := (ha.1 j k hj hk).1
    have n2 := (ha.1 j k hj hk).2.1
    refine ⟨?_, fun i hi => ?_⟩
    · rw [← g1]
      exact getB_cong (funext fun i => by rw [u2_a n2, u2_a n1])
    · have n3 := (ha.1 j k hj hk).2.2
      have n4 := (ha.1 k j hk hj).2.2
      have hi2 : i < if j = k then y + 1 else mm j := hi
      by_cases e : j = k
      · subst e
        rw [if_pos rfl] at hi2
        by_cases ei : i = y
        · subst ei
          exact ⟨by rw [u2_a n3, u2_s, hz1], by rw [u2_s, hz2]⟩
        · obtain ⟨g3, g4⟩ := g2 i (by omega)
          exact ⟨by rw [u2_a n3, u2_k ei]; exact g3, by rw [u2_k ei, u2_a (Ne.symm n4)]; exact g4⟩
      · rw [if_neg e] at hi2
        obtain ⟨g3, g4⟩ := g2 i hi2
        have n5 := ha.2 j k hj hk e
        exact ⟨by rw [u2_a n3, u2_a n5.2.1]; exact g3, by rw [u2_a n5.2.2, u2_a (Ne.symm n4)]; exact g4⟩
  · rw [← h2.2 a q]
    exact funext fun i => by rw [u2_a (q k hk).2.2, u2_a (q k hk).2.1]
end BK1
theorem BM.start {J : Nat → Nat → Int64} {R : Nat → Nat → Option Nat} {x : Nat} (ha : Apart R x) (Z : Nat → Nat → BK) : BM R x J (setB (setB J (dr R x 0) (0, 0, 0, 0, 0, 0)) (dr R x 1) (0, 0, 0, 0, 0, 0)) Z (fun _ => (0, 0, 0, 0, 0, 0)) (fun _ => 0) := by
  have h0 : BM R x J J Z (fun k => getB J (dr R x k)) (fun _ => 0) := ⟨fun k hk => ⟨rfl, fun j hj => absurd hj (Nat.not_lt_zero j)⟩, fun a q => rfl⟩
  have h1 := (h0.set ha (show 0 < 2 by decide) (0, 0, 0, 0, 0, 0)).set ha (show 1 < 2 by decide) (0, 0, 0, 0, 0, 0)
  refine ⟨fun k hk => ⟨?_, (h1.1 k hk).2⟩, h1.2⟩
  rw [(h1.1 k hk).1]
  rcases (show k = 0 ∨ k = 1 by omega) with rfl | rfl <;> rfl
theorem BM.cong {R : Nat → Nat → Option Nat} {x : Nat} {J J' : Nat → Nat → Int64} {Z : Nat → Nat → BK} {S S' : Nat → BK} {mm mm' : Nat → Nat} (h : BM R x J J' Z S mm) (hS : ∀ k, k < 2 → S k = S' k) (hm : ∀ k, k < 2 → mm k = mm' k) : BM R x J J' Z S' mm' := by
  refine ⟨fun k hk => ?_, h.2⟩
  obtain ⟨h1, h2⟩ := h.1 k hk
  exact ⟨h1.trans (hS k hk), fun j hj => h2 j (by rw [hm k hk]; exact hj)⟩
