/-! The law's step: add. -/
theorem cnt_new (pic : Nat → Nat) (n k k' : Nat) : ∀ i, i ≤ n → cnt (fun a => if a = n then k else pic a) k' i = cnt pic k' i
  | 0, _ => rfl
  | i + 1, h => by
    have ih := cnt_new pic n k k' i (by omega)
    show (if (if i = n then k else pic i) = k' then cnt (fun a => if a = n then k else pic a) k' i + 1 else cnt (fun a => if a = n then k else pic a) k' i) = (if pic i = k' then cnt pic k' i + 1 else cnt pic k' i)
    rw [ih, if_neg (show ¬ i = n by omega)]
theorem cnt_newT (pic : Nat → Nat) (n k : Nat) : cnt (fun a => if a = n then k else pic a) k (n + 1) = cnt pic k n + 1 := by
  rw [cnt_T (pic := fun a => if a = n then k else pic a) (p := k) (j := n) (if_pos rfl), cnt_new pic n k k n (Nat.le_refl n)]
theorem cnt_newF (pic : Nat → Nat) (n k : Nat) {k' : Nat} (h : k' ≠ k) : cnt (fun a => if a = n then k else pic a) k' (n + 1) = cnt pic k' n := by
  rw [cnt_F (pic := fun a => if a = n then k else pic a) (p := k') (j := n) (show ¬ (if n = n then k else pic n) = k' by rw [if_pos rfl]; exact Ne.symm h), cnt_new pic n k k' n (Nat.le_refl n)]
section WF
variable {L L' : List Nat} {K N K' N' : Nat → Nat} {I I' : Nat → Nat → Int32} {J J' : Nat → Nat → Int64} {R R' : Nat → Nat → Option Nat}
variable {e0 x m ou st now n : Nat} {pic : Nat → Nat} {tm : Nat → TM} {rc : Nat → Nat → Nat → Int32} {fe co : Nat → Nat → Int32} {cr : Int32} {sv : Nat → Shr} {pd : Nat → Int32}
theorem CRel.add (h : CRel e0 L K N I J R x now n pic tm rc fe co cr sv pd) {k q : Nat} {ka li fi se : Int32} (hk : k < 2) (hn : n < 8) (hq : At L' K' N' q (1602 + 16 * n) 0) (hr : R' q 0 = some (dr R x k)) (hi : ∀ j, 0 < j → j < 6 → I' q j = if j = 1 then nI (cnt pic k n) else if j = 2 then ka else if j = 3 then li else if j = 4 then fi else se) (hj0 : J' q 6 = 0)
    (s1 : Lst L' K' N' I' R' (dr R (dr R x k) 3) (320 * (k + 1) + 224) (320 * (k + 1) + 279) (cnt pic k n + 1)) (s2 : ∀ i, i < cnt pic k n → shA R' (dr R (dr R x k) 3) i = shA R (dr R (dr R x k) 3) i) (s3 : shA R' (dr R (dr R x k) 3) (cnt pic k n) = q)
    (m1 : Lst L' K' N' I' R' (dr R x 2) 16 39 (n + 1)) (m2 : ∀ i, i < n → shA R' (dr R x 2) i = shA R (dr R x 2) i) (m3 : shA R' (dr R x 2) n = q) (E : Ext L K N I J R L' K' N' I' J' R' (fun b => K b = 16 ∨ K b = 39 ∨ K b = 320 * (k + 1) + 224 ∨ K b = 320 * (k + 1) + 279)) :
    CRel e0 L' K' N' I' J' R' x now (n + 1) (fun a => if a = n then k else pic a) tm rc fe co cr (fun a => if a = n then (ka, li, fi, se) else sv a) (fun a => if a = n then 0 else pd a) := by
  obtain ⟨cx, cal, ck, cj⟩ := h.cells
  obtain ⟨h1, h2, h3, h4, h5, h6⟩ := h
  have nx : ¬ (K x = 16 ∨ K x = 39 ∨ K x = 320 * (k + 1) + 224 ∨ K x = 320 * (k + 1) + 279) := by rw [cx.2.1]; omega
  have ex : R' x = R x := E.r cx.1 nx
  have ed : ∀ j, dr R' x j = dr R x j := fun j => E.ref cx.1 nx
  have eix : I' x = I x := E.i cx.1 nx
  have np : ∀ k2, k2 < 2 → ¬ (K (dr R x k2) = 16 ∨ K (dr R x k2) = 39 ∨ K (dr R x k2) = 320 * (k + 1) + 224 ∨ K (dr R x k2) = 320 * (k + 1) + 279) := fun k2 hk2 => by rw [(ck k2 hk2).1.2.1]; omega
  have ep : ∀ k2 j, k2 < 2 → dr R' (dr R x k2) j = dr R (dr R x k2) j := fun k2 j hk2 => E.ref (ck k2 hk2).1.1 (np k2 hk2)
  have key : ∀ k2, k2 < 2 → Lst L' K' N' I' R' (dr R (dr R x k2) 3) (320 * (k2 + 1) + 224) (320 * (k2 + 1) + 279) (cnt (fun a => if a = n then k else pic a) k2 (n + 1)) := fun k2 hk2 => by
    by_cases e : k2 = k
    · subst e
      rw [cnt_newT]
      exact s1
    · rw [cnt_newF pic n k e]
      exact (h1.2.1 k2 hk2).2.2.ext E (fun a ha q => by omega)
  refine ⟨⟨E.cell cx, fun k2 hk2 => ?_, by rw [ex, ed]; exact h1.2.2.1, by rw [ed]; exact m1, by rw [eix]; exact h1.2.2.2.2.1, h1.2.2.2.2.2.1, by rw [eix]; exact h1.2.2.2.2.2.2⟩, by rw [eix]; exact h2, fun k2 hk2 => ?_, fun j hj => ?_, fun h0 => absurd h0 (Nat.succ_ne_zero n), fun k2 hk2 h0 => ?_⟩
  · obtain ⟨g1, g2, g3⟩ := h1.2.1 k2 hk2
    rw [ex, ed]
    refine ⟨g1, g2.ext E (fun a ha q => by omega), ?_⟩
    rw [ep k2 3 hk2]
    exact key k2 hk2
  · obtain ⟨g1, g2, g3, g4⟩ := h3 k2 hk2
    obtain ⟨a1, a2, a3, a4, a5⟩ := ck k2 hk2
    rw [ed, ep k2 2 hk2, ep k2 1 hk2, E.i a1.1 (np k2 hk2), E.i a5.1 (by rw [a5.2.1]; omega), E.i a4.1 (by rw [a4.2.1]; omega)]
    refine ⟨g1, fun y w hy hw => ?_, g3, g4⟩
    obtain ⟨p0, p1, p2, p3, -⟩ := (h1.2.1 k2 hk2).2.1
    have er : rwA R' (dr R x k2) y = rwA R (dr R x k2) y := by
      show dr R' (dr R' (dr R x k2) 0) y = dr R (dr R (dr R x k2) 0) y
      rw [ep k2 0 hk2, E.ref p2.1 (by rw [p2.2.1]; omega)]
    rw [er, E.i (a3 y hy).1 (by rw [(a3 y hy).2.1]; omega)]
    exact g2 y w hy hw
  · by_cases e : j = n
    · subst e
      show (if j = j then k else pic j) < 2 ∧ At L' K' N' (shA R' (dr R' x 2) j) (1602 + 16 * j) 0 ∧ R' (shA R' (dr R' x 2) j) 0 = some (dr R' x (if j = j then k else pic j)) ∧ I' (shA R' (dr R' x 2) j) 1 = nI (cnt (fun a => if a = j then k else pic a) (if j = j then k else pic j) j) ∧ shA R' (dr R' (dr R' x (if j = j then k else pic j)) 3) (cnt (fun a => if a = j then k else pic a) (if j = j then k else pic j) j) = shA R' (dr R' x 2) j ∧ shV I' (shA R' (dr R' x 2) j) = (if j = j then (ka, li, fi, se) else sv j) ∧ J' (shA R' (dr R' x 2) j) 6 = (if j = j then (0 : Int32) else pd j).toInt64
      rw [if_pos rfl, if_pos rfl, if_pos rfl, cnt_new pic j k k j (Nat.le_refl j), ed, ed, m3, ep k 3 hk]
      refine ⟨hk, hq, hr, hi 1 (by decide) (by decide), s3, ?_, hj0⟩
      unfold shV
      rw [hi 2 (by decide) (by decide), hi 3 (by decide) (by decide), hi 4 (by decide) (by decide), hi 5 (by decide) (by decide)]
      rfl
    · have hj2 : j < n := by omega
      obtain ⟨g1, g2, g3, g4, g5, g6, g7⟩ := h4 j hj2
      have nq : ¬ (K (shA R (dr R x 2) j) = 16 ∨ K (shA R (dr R x 2) j) = 39 ∨ K (shA R (dr R x 2) j) = 320 * (k + 1) + 224 ∨ K (shA R (dr R x 2) j) = 320 * (k + 1) + 279) := by rw [g2.2.1]; omega
      show (if j = n then k else pic j) < 2 ∧ At L' K' N' (shA R' (dr R' x 2) j) (1602 + 16 * j) 0 ∧ R' (shA R' (dr R' x 2) j) 0 = some (dr R' x (if j = n then k else pic j)) ∧ I' (shA R' (dr R' x 2) j) 1 = nI (cnt (fun a => if a = n then k else pic a) (if j = n then k else pic j) j) ∧ shA R' (dr R' (dr R' x (if j = n then k else pic j)) 3) (cnt (fun a => if a = n then k else pic a) (if j = n then k else pic j) j) = shA R' (dr R' x 2) j ∧ shV I' (shA R' (dr R' x 2) j) = (if j = n then (ka, li, fi, se) else sv j) ∧ J' (shA R' (dr R' x 2) j) 6 = (if j = n then (0 : Int32) else pd j).toInt64
      rw [if_neg e, if_neg e, if_neg e, cnt_new pic n k (pic j) j (Nat.le_of_lt hj2), ed, ed, m2 j hj2, ep (pic j) 3 g1]
      have hc : cnt pic (pic j) j < cnt pic (pic j) n := by
        have h9 := cnt_mono pic (pic j) (i := j + 1) n hj2
        rw [cnt_T rfl] at h9
        omega
      refine ⟨g1, E.cell g2, by rw [E.r g2.1 nq]; exact g3, by rw [E.i g2.1 nq]; exact g4, ?_, by unfold shV; rw [E.i g2.1 nq]; exact g6, by rw [E.j g2.1 nq]; exact g7⟩
      by_cases ek : pic j = k
      · rw [ek] at hc g5 ⊢
        rw [s2 _ hc]
        exact g5
      · rw [(h1.2.1 (pic j) g1).2.2.sh E (fun a ha q => by omega) hc]
        exact g5
  · have e : k2 ≠ k := fun e => by
      subst e
      rw [cnt_newT] at h0
      exact absurd h0 (Nat.succ_ne_zero _)
    rw [cnt_newF pic n k e] at h0
    rw [ed, ep k2 3 hk2, E.r (ck k2 hk2).2.1.1 (by rw [(ck k2 hk2).2.1.2.1]; omega)]
    exact h6 k2 hk2 h0
theorem MRel.add (h : MRel L K N I R m now n pic tm rc fe co cr sv pd) {k : Nat} {ka li fi se : Int32} : MRel L K N (u2 (u2 (u2 (u2 (u2 (u2 I (dr R m 8) n (nI k)) (dr R m 9) n ka) (dr R m 10) n li) (dr R m 11) n fi) (dr R m 12) n se) m 14 (nI (n + 1))) R m now (n + 1) (fun a => if a = n then k else pic a) tm rc fe co cr (fun a => if a = n then (ka, li, fi, se) else sv a) (fun a => if a = n then 0 else pd a) := by
  obtain ⟨h1, h2, h3, h4, h5, h6, h7⟩ := h
  have c0 := (h1.cel 0 965 80 (by decide)).2
  have c1 := (h1.cel 1 981 20 (by decide)).2
  have c2 := (h1.cel 2 997 8 (by decide)).2
  have c3 := (h1.cel 3 1013 2 (by decide)).2
  have c4 := (h1.cel 4 1029 2 (by decide)).2
  have c5 := (h1.cel 5 1045 2 (by decide)).2
  have c8 := (h1.cel 8 1061 8 (by decide)).2
  have c9 := (h1.cel 9 1077 8 (by decide)).2
  have c10 := (h1.cel 10 1093 8 (by decide)).2
  have c11 := (h1.cel 11 1109 8 (by decide)).2
  have c12 := (h1.cel 12 1125 8 (by decide)).2
  have c13 := (h1.cel 13 1141 8 (by decide)).2
  have r0 : (u2 (u2 (u2 (u2 (u2 (u2 I (dr R m 8) n (nI k)) (dr R m 9) n ka) (dr R m 10) n li) (dr R m 11) n fi) (dr R m 12) n se) m 14 (nI (n + 1))) (dr R m 0) = I (dr R m 0) := funext fun j => by rw [u2_a (c0.ne h1.1 (by decide)), u2_a (c0.ne c12 (by decide)), u2_a (c0.ne c11 (by decide)), u2_a (c0.ne c10 (by decide)), u2_a (c0.ne c9 (by decide)), u2_a (c0.ne c8 (by decide))]
  have r1 : (u2 (u2 (u2 (u2 (u2 (u2 I (dr R m 8) n (nI k)) (dr R m 9) n ka) (dr R m 10) n li) (dr R m 11) n fi) (dr R m 12) n se) m 14 (nI (n + 1))) (dr R m 1) = I (dr R m 1) := funext fun j => by rw [u2_a (c1.ne h1.1 (by decide)), u2_a (c1.ne c12 (by decide)), u2_a (c1.ne c11 (by decide)), u2_a (c1.ne c10 (by decide)), u2_a (c1.ne c9 (by decide)), u2_a (c1.ne c8 (by decide))]
  have r2 : (u2 (u2 (u2 (u2 (u2 (u2 I (dr R m 8) n (nI k)) (dr R m 9) n ka) (dr R m 10) n li) (dr R m 11) n fi) (dr R m 12) n se) m 14 (nI (n + 1))) (dr R m 2) = I (dr R m 2) := funext fun j => by rw [u2_a (c2.ne h1.1 (by decide)), u2_a (c2.ne c12 (by decide)), u2_a (c2.ne c11 (by decide)), u2_a (c2.ne c10 (by decide)), u2_a (c2.ne c9 (by decide)), u2_a (c2.ne c8 (by decide))]
  have r3 : (u2 (u2 (u2 (u2 (u2 (u2 I (dr R m 8) n (nI k)) (dr R m 9) n ka) (dr R m 10) n li) (dr R m 11) n fi) (dr R m 12) n se) m 14 (nI (n + 1))) (dr R m 3) = I (dr R m 3) := funext fun j => by rw [u2_a (c3.ne h1.1 (by decide)), u2_a (c3.ne c12 (by decide)), u2_a (c3.ne c11 (by decide)), u2_a (c3.ne c10 (by decide)), u2_a (c3.ne c9 (by decide)), u2_a (c3.ne c8 (by decide))]
  have r4 : (u2 (u2 (u2 (u2 (u2 (u2 I (dr R m 8) n (nI k)) (dr R m 9) n ka) (dr R m 10) n li) (dr R m 11) n fi) (dr R m 12) n se) m 14 (nI (n + 1))) (dr R m 4) = I (dr R m 4) := funext fun j => by rw [u2_a (c4.ne h1.1 (by decide)), u2_a (c4.ne c12 (by decide)), u2_a (c4.ne c11 (by decide)), u2_a (c4.ne c10 (by decide)), u2_a (c4.ne c9 (by decide)), u2_a (c4.ne c8 (by decide))]
  have r5 : (u2 (u2 (u2 (u2 (u2 (u2 I (dr R m 8) n (nI k)) (dr R m 9) n ka) (dr R m 10) n li) (dr R m 11) n fi) (dr R m 12) n se) m 14 (nI (n + 1))) (dr R m 5) = I (dr R m 5) := funext fun j => by rw [u2_a (c5.ne h1.1 (by decide)), u2_a (c5.ne c12 (by decide)), u2_a (c5.ne c11 (by decide)), u2_a (c5.ne c10 (by decide)), u2_a (c5.ne c9 (by decide)), u2_a (c5.ne c8 (by decide))]
  have r13 : (u2 (u2 (u2 (u2 (u2 (u2 I (dr R m 8) n (nI k)) (dr R m 9) n ka) (dr R m 10) n li) (dr R m 11) n fi) (dr R m 12) n se) m 14 (nI (n + 1))) (dr R m 13) = I (dr R m 13) := funext fun j => by rw [u2_a (c13.ne h1.1 (by decide)), u2_a (c13.ne c12 (by decide)), u2_a (c13.ne c11 (by decide)), u2_a (c13.ne c10 (by decide)), u2_a (c13.ne c9 (by decide)), u2_a (c13.ne c8 (by decide))]
  have s8 : ∀ j, (u2 (u2 (u2 (u2 (u2 (u2 I (dr R m 8) n (nI k)) (dr R m 9) n ka) (dr R m 10) n li) (dr R m 11) n fi) (dr R m 12) n se) m 14 (nI (n + 1))) (dr R m 8) j = if j = n then nI k else I (dr R m 8) j := fun j => by
    rw [u2_a (c8.ne h1.1 (by decide)), u2_a (c8.ne c12 (by decide)), u2_a (c8.ne c11 (by decide)), u2_a (c8.ne c10 (by decide)), u2_a (c8.ne c9 (by decide))]
    by_cases e : j = n
    · rw [e, u2_s, if_pos rfl]
    · rw [u2_k e, if_neg e]
  have s9 : ∀ j, (u2 (u2 (u2 (u2 (u2 (u2 I (dr R m 8) n (nI k)) (dr R m 9) n ka) (dr R m 10) n li) (dr R m 11) n fi) (dr R m 12) n se) m 14 (nI (n + 1))) (dr R m 9) j = if j = n then ka else I (dr R m 9) j := fun j => by
    rw [u2_a (c9.ne h1.1 (by decide)), u2_a (c9.ne c12 (by decide)), u2_a (c9.ne c11 (by decide)), u2_a (c9.ne c10 (by decide))]
    by_cases e : j = n
    · rw [e, u2_s, if_pos rfl]
    · rw [u2_k e, u2_a (c9.ne c8 (by decide)), if_neg e]
  have s10 : ∀ j, (u2 (u2 (u2 (u2 (u2 (u2 I (dr R m 8) n (nI k)) (dr R m 9) n ka) (dr R m 10) n li) (dr R m 11) n fi) (dr R m 12) n se) m 14 (nI (n + 1))) (dr R m 10) j = if j = n then li else I (dr R m 10) j := fun j => by
    rw [u2_a (c10.ne h1.1 (by decide)), u2_a (c10.ne c12 (by decide)), u2_a (c10.ne c11 (by decide))]
    by_cases e : j = n
    · rw [e, u2_s, if_pos rfl]
    · rw [u2_k e, u2_a (c10.ne c9 (by decide)), u2_a (c10.ne c8 (by decide)), if_neg e]
  have s11 : ∀ j, (u2 (u2 (u2 (u2 (u2 (u2 I (dr R m 8) n (nI k)) (dr R m 9) n ka) (dr R m 10) n li) (dr R m 11) n fi) (dr R m 12) n se) m 14 (nI (n + 1))) (dr R m 11) j = if j = n then fi else I (dr R m 11) j := fun j => by
    rw [u2_a (c11.ne h1.1 (by decide)), u2_a (c11.ne c12 (by decide))]
    by_cases e : j = n
    · rw [e, u2_s, if_pos rfl]
    · rw [u2_k e, u2_a (c11.ne c10 (by decide)), u2_a (c11.ne c9 (by decide)), u2_a (c11.ne c8 (by decide)), if_neg e]
  have s12 : ∀ j, (u2 (u2 (u2 (u2 (u2 (u2 I (dr R m 8) n (nI k)) (dr R m 9) n ka) (dr R m 10) n li) (dr R m 11) n fi) (dr R m 12) n se) m 14 (nI (n + 1))) (dr R m 12) j = if j = n then se else I (dr R m 12) j := fun j => by
    rw [u2_a (c12.ne h1.1 (by decide))]
    by_cases e : j = n
    · rw [e, u2_s, if_pos rfl]
    · rw [u2_k e, u2_a (c12.ne c11 (by decide)), u2_a (c12.ne c10 (by decide)), u2_a (c12.ne c9 (by decide)), u2_a (c12.ne c8 (by decide)), if_neg e]
  have rm : ∀ j, j ≠ 14 → (u2 (u2 (u2 (u2 (u2 (u2 I (dr R m 8) n (nI k)) (dr R m 9) n ka) (dr R m 10) n li) (dr R m 11) n fi) (dr R m 12) n se) m 14 (nI (n + 1))) m j = I m j := fun j hj => by rw [u2_k hj, u2_a (c12.ne h1.1 (by decide)).symm, u2_a (c11.ne h1.1 (by decide)).symm, u2_a (c10.ne h1.1 (by decide)).symm, u2_a (c9.ne h1.1 (by decide)).symm, u2_a (c8.ne h1.1 (by decide)).symm]
  refine ⟨h1, (rm 7 (by decide)).trans h2, u2_s, (rm 6 (by decide)).trans h4, fun k2 hk2 => ?_, fun j hj => ?_, fun j hj => ?_⟩
  · rw [r0, r1, r2, r3, r4, r5]
    exact h5 k2 hk2
  · unfold mshr
    rw [s8, s9, s10, s11, s12, r13]
    show (if j = n then nI k else I (dr R m 8) j) = nI (if j = n then k else pic j) ∧ ((if j = n then ka else I (dr R m 9) j), (if j = n then li else I (dr R m 10) j), (if j = n then fi else I (dr R m 11) j), (if j = n then se else I (dr R m 12) j)) = (if j = n then (ka, li, fi, se) else sv j) ∧ I (dr R m 13) j = if j = n then 0 else pd j
    by_cases e : j = n
    · rw [if_pos e, if_pos e, if_pos e, if_pos e, if_pos e, if_pos e, if_pos e, if_pos e]
      exact ⟨rfl, rfl, h7 j (by omega)⟩
    · rw [if_neg e, if_neg e, if_neg e, if_neg e, if_neg e, if_neg e, if_neg e, if_neg e]
      exact h6 j (by omega)
  · rw [r13]
    exact h7 j (by omega)
theorem Val.add (h : Val now n pic tm rc fe co cr sv pd st) {k : Nat} {ka li fi se : Int32} (hk : k < 2) (hn : n < 8) (hs : SOk (ka, li, fi, se)) (hka : ka = 0 ∨ ka = 1 ∨ ka = 2 ∨ ka = 3) : Val now (n + 1) (fun a => if a = n then k else pic a) tm rc fe co cr (fun a => if a = n then (ka, li, fi, se) else sv a) (fun a => if a = n then 0 else pd a) (st + 1) := by
  obtain ⟨v1, v2, v3, v4, v5, v6, v7, v8, v9⟩ := h.up
  refine ⟨v1, hn, v3, v4, v5, v6, v7, fun j hj => ?_, fun j hj => ?_⟩
  · show (if j = n then k else pic j) < 2 ∧ SOk (if j = n then (ka, li, fi, se) else sv j) ∧ ((if j = n then (ka, li, fi, se) else sv j).1 = 0 ∨ (if j = n then (ka, li, fi, se) else sv j).1 = 1 ∨ (if j = n then (ka, li, fi, se) else sv j).1 = 2 ∨ (if j = n then (ka, li, fi, se) else sv j).1 = 3)
    by_cases e : j = n
    · rw [if_pos e, if_pos e]
      exact ⟨hk, hs, hka⟩
    · rw [if_neg e, if_neg e]
      exact v8 j (by omega)
  · show 0 ≤ (if j = n then (0 : Int32) else pd j).toInt
    by_cases e : j = n
    · rw [if_pos e]
      decide
    · rw [if_neg e]
      exact v9 j (by omega)
theorem kinds_of {ka : Int32} (h : 0 ≤ ka ∧ ka ≤ 3) : ka = 0 ∨ ka = 1 ∨ ka = 2 ∨ ka = 3 := by
  obtain ⟨j, hj, rfl⟩ := nI_of (Int32.not_lt.mpr h.1)
  have h3 := (nI_leI (b := 3) hj (by decide)).mp h.2
  rcases (show j = 0 ∨ j = 1 ∨ j = 2 ∨ j = 3 by omega) with rfl | rfl | rfl | rfl
  · exact Or.inl rfl
  · exact Or.inr (Or.inl rfl)
  · exact Or.inr (Or.inr (Or.inl rfl))
  · exact Or.inr (Or.inr (Or.inr rfl))
theorem most_rat {ka t : Int32} (h : 0 ≤ t ∧ t ≤ mostR ka) : Rat t := by
  have h2 := rng32 h
  have e0 : (0 : Int32).toInt = 0 := rfl
  have e : (mostR ka).toInt ≤ 10000 := by
    unfold mostR
    split <;> decide
  unfold Rat
  omega
end WF
section WG
variable {l : Launch} {D : va_G} {z : Nat}
variable {L : List Nat} {K N : Nat → Nat} {I : Nat → Nat → Int32} {J : Nat → Nat → Int64} {R : Nat → Nat → Option Nat}
variable {e0 x m ou st : Nat}
theorem op_addF {c : Int32} {avL avM : List Value} (hc : c ≠ 0) (hR : REL e0 x m ou st L K N I J R) (hw : MF l yL_add wsL_add rm_L_add D z e0 L K N I J R avL (fun v L' K' N' I' J' R' => v = some (.int c) ∧ (I' = I ∧ J' = J) ∧ L' = L ∧ K' = K ∧ N' = N ∧ R' = R)) (hm : MG l yX3_add wsX3_add rm_X3_add D z e0 L K N I J R avM (fun v I' J' => v = some (.int 0) ∧ I' = u2 I m 18 c ∧ J' = J)) : MF l yL_add wsL_add rm_L_add D z e0 L K N I J R avL (fun v L1 K1 N1 I1 J1 R1 => ∃ kc V : Int32, v = some (.int kc) ∧ (kc = 0 → J1 ou 0 = V.toInt64) ∧ At L1 K1 N1 x 3 0 ∧ At L1 K1 N1 m 52 0 ∧ At L1 K1 N1 ou 70 1 ∧ MG l yX3_add wsX3_add rm_X3_add D z e0 L1 K1 N1 I1 J1 R1 avM (fun v I2 J2 => ∃ b : Int32, v = some (.int b) ∧ I2 m 18 = kc ∧ (kc = 0 → b = V ∧ J2 ou 0 = V.toInt64) ∧ REL e0 x m ou (st + 1) L1 K1 N1 I2 J2 R1)) := by
  refine hw.mono (fun v L1 K1 N1 I1 J1 R1 h => ?_)
  obtain ⟨h1, ⟨h2, h3⟩, h4, h5, h6, h7⟩ := h
  have h2 := h2.symm
  subst h2
  have h3 := h3.symm
  subst h3
  have h4 := h4.symm
  subst h4
  have h5 := h5.symm
  subst h5
  have h6 := h6.symm
  subst h6
  have h7 := h7.symm
  subst h7
  obtain ⟨now, n, pic, tm, rc, fe, co, cr, sv, pd, C, M, V, hO⟩ := hR
  refine ⟨c, 0, h1, fun h => absurd h hc, C.1.1, M.1.1, hO, hm.mono (fun v I2 J2 h => ?_)⟩
  obtain ⟨g1, g2, g3⟩ := h
  subst g2
  have g3 := g3.symm
  subst g3
  exact ⟨0, g1, u2_s, fun h => absurd h hc, rel_keep C M V hO c (fun _ _ _ => rfl)⟩
theorem op_add (hfl : l.stackTraces = false) (hst : st ≤ 511) (hR : REL e0 x m ou st L K N I J R) (p0 p1 p2 p3 p4 : Int32) : MF l yL_add wsL_add rm_L_add D z e0 L K N I J R [.ref x, .int p0, .int p1, .int p2, .int p3, .int p4, .ref ou] (fun v L1 K1 N1 I1 J1 R1 => ∃ kc V : Int32, v = some (.int kc) ∧ (kc = 0 → J1 ou 0 = V.toInt64) ∧ At L1 K1 N1 x 3 0 ∧ At L1 K1 N1 m 52 0 ∧ At L1 K1 N1 ou 70 1 ∧ MG l yX3_add wsX3_add rm_X3_add D z e0 L1 K1 N1 I1 J1 R1 [.ref m, .int p0, .int p1, .int p2, .int p3, .int p4] (fun v I2 J2 => ∃ b : Int32, v = some (.int b) ∧ I2 m 18 = kc ∧ (kc = 0 → b = V ∧ J2 ou 0 = V.toInt64) ∧ REL e0 x m ou (st + 1) L1 K1 N1 I2 J2 R1)) := by
  have hR0 := hR
  obtain ⟨now, n, pic, tm, rc, fe, co, cr, sv, pd, C, M, V, hO⟩ := hR
  have hx := C.1
  have hX := hx.1
  have hmc := rel_mc C M V
  rcases two_cases p0 with ⟨k, hk, rfl⟩ | ⟨q1, q2⟩
  · by_cases hp1 : 0 ≤ p1 ∧ p1 ≤ 3
    · by_cases hp2 : 0 ≤ p2 ∧ p2 ≤ 10000000
      · by_cases hp3 : 0 ≤ p3 ∧ p3 ≤ mostR p1
        · by_cases hp4 : 0 ≤ p4 ∧ p4 ≤ mostR p1
          · by_cases hp5 : n < 8 ∧ (p1 = 1 → netN (fun i => shV I (shA R (dr R (dr R x k) 3) i)) (cnt pic k n) + mx p3 p4 ≤ 10000)
            · have hk8 : cnt pic k n < 8 := Nat.lt_of_le_of_lt (cnt_le pic k n) hp5.1
              refine (w_add l D z e0 L K N I J R x ou (nI k) p1 p2 p3 p4 hX hO _ (c_add l D z e0 L K N I J R x now n (fun k => cnt pic k n) hx k hk p1 p2 p3 p4 hp1 hp2 hp3 hp4 hp5.1 hp5.2 hk8 (fun h => C.2.2.2.2.1 h) (fun h => C.2.2.2.2.2 k hk h)) (fun v L' K' N' I' J' R' h => ⟨⟨_, h.1⟩, ?_⟩)).mono (fun v L1 K1 N1 I1 J1 R1 h => ?_)
              · obtain ⟨-, q, -, -, -, -, -, -, -, -, -, -, -, E⟩ := h
                exact E.cell hO
              · obtain ⟨h1', V', J2, ⟨h2', q, hqL, hq, hr, hi, hj0, s1, s2, s3, m1, m2, m3, E⟩, h5'⟩ := h
                cases h2'
                have C1 := C.add hk hp5.1 hq hr hi hj0 s1 s2 s3 m1 m2 m3 E
                have hO1 := E.cell hO
                have C2 : CRel e0 L1 K1 N1 I1 J1 R1 x now (n + 1) (fun a => if a = n then k else pic a) tm rc fe co cr (fun a => if a = n then (p1, p2, p3, p4) else sv a) (fun a => if a = n then 0 else pd a) := by
                  rw [h5']
                  exact C1.j (ou_j hO1)
                have M1 := M.ext E (fun a ha hk2 => by omega)
                have hsh1 : ∀ j, j < n → shC I R x (pic j) (cnt pic (pic j) j) = sv j := sh_of C
                have hmc1 := mc_of M1 V hsh1
                refine ⟨0, nI n, h1', fun _ => by rw [h5']; exact u2_s, C1.1.1, M1.1.1, hO1, (m_add l D z e0 L1 K1 N1 I1 J1 R1 m now n pic _ hmc1 k hk p1 p2 p3 p4 hp1 hp2 hp3 hp4 hp5.1 hp5.2).mono (fun v I2 J3 h => ?_)⟩
                obtain ⟨g1, g2, g3⟩ := h
                have g3 := g3.symm
                subst g3
                subst g2
                have c1 := C2.at1 (I' := u2 (u2 I1 m 18 0) (dr R1 m 8) n (nI k)) (J' := J1) (m := m) ((M1.1.cel 8 1061 8 (by decide)).2) M1.1.1 (fun b h1 h2 => funext fun j => by rw [u2_a h1, u2_a h2]) (by omega) (fun _ _ _ => rfl)
                have c2 := c1.at1 (I' := u2 (u2 (u2 I1 m 18 0) (dr R1 m 8) n (nI k)) (dr R1 m 9) n p1) (J' := J1) (m := m) ((M1.1.cel 9 1077 8 (by decide)).2) M1.1.1 (fun b h1 h2 => funext fun j => by rw [u2_a h1]) (by omega) (fun _ _ _ => rfl)
                have c3 := c2.at1 (I' := u2 (u2 (u2 (u2 I1 m 18 0) (dr R1 m 8) n (nI k)) (dr R1 m 9) n p1) (dr R1 m 10) n p2) (J' := J1) (m := m) ((M1.1.cel 10 1093 8 (by decide)).2) M1.1.1 (fun b h1 h2 => funext fun j => by rw [u2_a h1]) (by omega) (fun _ _ _ => rfl)
                have c4 := c3.at1 (I' := u2 (u2 (u2 (u2 (u2 I1 m 18 0) (dr R1 m 8) n (nI k)) (dr R1 m 9) n p1) (dr R1 m 10) n p2) (dr R1 m 11) n p3) (J' := J1) (m := m) ((M1.1.cel 11 1109 8 (by decide)).2) M1.1.1 (fun b h1 h2 => funext fun j => by rw [u2_a h1]) (by omega) (fun _ _ _ => rfl)
                have c5 := c4.at1 (I' := u2 (u2 (u2 (u2 (u2 (u2 I1 m 18 0) (dr R1 m 8) n (nI k)) (dr R1 m 9) n p1) (dr R1 m 10) n p2) (dr R1 m 11) n p3) (dr R1 m 12) n p4) (J' := J1) (m := m) ((M1.1.cel 12 1125 8 (by decide)).2) M1.1.1 (fun b h1 h2 => funext fun j => by rw [u2_a h1]) (by omega) (fun _ _ _ => rfl)
                have c6 := c5.at1 (I' := u2 (u2 (u2 (u2 (u2 (u2 (u2 I1 m 18 0) (dr R1 m 8) n (nI k)) (dr R1 m 9) n p1) (dr R1 m 10) n p2) (dr R1 m 11) n p3) (dr R1 m 12) n p4) m 14 (nI (n + 1))) (J' := J1) (m := m) M1.1.1 M1.1.1 (fun b h1 h2 => funext fun j => by rw [u2_a h1]) (by omega) (fun _ _ _ => rfl)
                exact ⟨nI n, g1, by rw [u2_k (show (18 : Nat) ≠ 14 by decide), u2_a (M1.1.nx 12 1125 8 (by decide)).symm, u2_a (M1.1.nx 11 1109 8 (by decide)).symm, u2_a (M1.1.nx 10 1093 8 (by decide)).symm, u2_a (M1.1.nx 9 1077 8 (by decide)).symm, u2_a (M1.1.nx 8 1061 8 (by decide)).symm, u2_s], fun _ => ⟨rfl, by rw [h5']; exact u2_s⟩, now, n + 1, _, tm, rc, fe, co, cr, _, _, c6, (M1.thr 0).add, V.add hk hp5.1 ⟨(rng32 hp2).1, (rng32 hp2).2, most_rat hp3, most_rat hp4⟩ (kinds_of hp1), hO1⟩
            · exact op_addF (c := 3) (by decide) hR0 (w_add_3 l D z e0 L K N I J R x ou (nI k) p1 p2 p3 p4 hX hO _ (x_addR4 l D z e0 L K N I J R hfl x now n (fun k => cnt pic k n) hx k hk p1 p2 p3 p4 hp1 hp2 hp3 hp4 hp5)) (m_add3 l D z e0 L K N I J R m now n pic (shC I R x) hmc k hk p1 p2 p3 p4 hp1 hp2 hp3 hp4 hp5)
          · exact op_addF (c := 2) (by decide) hR0 (w_add_2 l D z e0 L K N I J R x ou (nI k) p1 p2 p3 p4 hX hO _ (x_addR3 l D z e0 L K N I J R hfl x now n (fun k => cnt pic k n) hx k hk p1 p2 p3 p4 hp1 hp2 hp3 hp4)) (m_add2 l D z e0 L K N I J R m now n pic (shC I R x) hmc k hk p1 p2 p3 p4 (fun h => hp4 h.2.2.2))
        · exact op_addF (c := 2) (by decide) hR0 (w_add_2 l D z e0 L K N I J R x ou (nI k) p1 p2 p3 p4 hX hO _ (x_addR2 l D z e0 L K N I J R hfl x now n (fun k => cnt pic k n) hx k hk p1 p2 p3 p4 hp1 hp2 hp3)) (m_add2 l D z e0 L K N I J R m now n pic (shC I R x) hmc k hk p1 p2 p3 p4 (fun h => hp3 h.2.2.1))
      · exact op_addF (c := 2) (by decide) hR0 (w_add_2 l D z e0 L K N I J R x ou (nI k) p1 p2 p3 p4 hX hO _ (x_addR1 l D z e0 L K N I J R hfl x now n (fun k => cnt pic k n) hx k hk p1 p2 p3 p4 hp1 hp2)) (m_add2 l D z e0 L K N I J R m now n pic (shC I R x) hmc k hk p1 p2 p3 p4 (fun h => hp2 h.2.1))
    · exact op_addF (c := 2) (by decide) hR0 (w_add_2 l D z e0 L K N I J R x ou (nI k) p1 p2 p3 p4 hX hO _ (x_addR0 l D z e0 L K N I J R hfl x now n (fun k => cnt pic k n) hx k hk p1 p2 p3 p4 hp1)) (m_add2 l D z e0 L K N I J R m now n pic (shC I R x) hmc k hk p1 p2 p3 p4 (fun h => hp1 h.1))
  · exact op_addF (c := 1) (by decide) hR0 (w_add_1 l D z e0 L K N I J R x ou p0 p1 p2 p3 p4 hX hO _ (x_add1 l D z e0 L K N I J R hfl x p0 q1 p1 p2 p3 p4)) (m_add1 l D z e0 L K N I J R m M.1 p0 q2 p1 p2 p3 p4)
end WG
