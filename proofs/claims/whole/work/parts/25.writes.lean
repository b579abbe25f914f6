/-! What a writing step makes of both sides. -/
section WB
variable {L : List Nat} {K N : Nat → Nat} {I : Nat → Nat → Int32} {J : Nat → Nat → Int64} {R : Nat → Nat → Option Nat} {e0 x m ou st now n : Nat} {pic : Nat → Nat} {tm : Nat → TM} {rc : Nat → Nat → Nat → Int32} {fe co : Nat → Nat → Int32} {cr : Int32} {sv : Nat → Shr} {pd : Nat → Int32}
theorem Lst.I' {I' : Nat → Nat → Int32} {sl t te k : Nat} (h : Lst L K N I R sl t te k) (e : I' sl 2 = I sl 2) : Lst L K N I' R sl t te k := ⟨h.1, h.2.1, e.trans h.2.2.1, h.2.2.2⟩
theorem CRel.I' {I' : Nat → Nat → Int32} {J' : Nat → Nat → Int64} {now' : Nat} {tm' : Nat → TM} {rc' : Nat → Nat → Nat → Int32} {fe' co' : Nat → Nat → Int32} {cr' : Int32} {pd' : Nat → Int32} (h : CRel e0 L K N I J R x now n pic tm rc fe co cr sv pd) (hx : I' x 4 = nI now' ∧ now' < 10 ∧ I' x 3 = cr' ∧ (cr' = 0 ∨ cr' = 1)) (hAL : I' (dr R x 2) 2 = I (dr R x 2) 2) (hSL : ∀ k, k < 2 → I' (dr R (dr R x k) 3) 2 = I (dr R (dr R x k) 3) 2)
    (hk : ∀ k, k < 2 → (I' (dr R x k) 4, I' (dr R x k) 5, I' (dr R x k) 6) = tm' k ∧ (∀ y w, y < 10 → w < 4 → I' (rwA R (dr R x k) y) w = rc' k y w) ∧ (∀ w, w < 4 → I' (dr R (dr R x k) 2) w = fe' k w) ∧ (∀ y, y < 10 → I' (dr R (dr R x k) 1) y = co' k y)) (hj : ∀ j, j < n → I' (shA R (dr R x 2) j) = I (shA R (dr R x 2) j) ∧ J' (shA R (dr R x 2) j) 6 = (pd' j).toInt64) : CRel e0 L K N I' J' R x now' n pic tm' rc' fe' co' cr' sv pd' := by
  obtain ⟨h1, h2, h3, h4, h5, h6⟩ := h
  obtain ⟨c1, c2, c3, c4, c5, c6, c7⟩ := h1
  refine ⟨⟨c1, fun k hk2 => ⟨(c2 k hk2).1, (c2 k hk2).2.1, (c2 k hk2).2.2.I' (hSL k hk2)⟩, c3, c4.I' hAL, hx.1, hx.2.1, by rw [hx.2.2.1]; exact hx.2.2.2⟩, hx.2.2.1, hk, fun j hj2 => ?_, h5, h6⟩
  obtain ⟨g1, g2, g3, g4, g5, g6, g7⟩ := h4 j hj2
  exact ⟨g1, g2, g3, by rw [(hj j hj2).1]; exact g4, g5, by unfold shV; rw [(hj j hj2).1]; exact g6, (hj j hj2).2⟩
/-- the cells of the class's side, by their marks -/
theorem CRel.cells (h : CRel e0 L K N I J R x now n pic tm rc fe co cr sv pd) : At L K N x 3 0 ∧ At L K N (dr R x 2) 16 0 ∧ (∀ k, k < 2 → At L K N (dr R x k) (320 * (k + 1) + 1) 0 ∧ At L K N (dr R (dr R x k) 3) (320 * (k + 1) + 224) 0 ∧ (∀ y, y < 10 → At L K N (rwA R (dr R x k) y) (320 * (k + 1) + 37 + 16 * y) 4) ∧ At L K N (dr R (dr R x k) 1) (320 * (k + 1) + 197) 10 ∧ At L K N (dr R (dr R x k) 2) (320 * (k + 1) + 213) 4) ∧ ∀ j, j < n → At L K N (shA R (dr R x 2) j) (1602 + 16 * j) 0 := by
  obtain ⟨h1, h2, h3, h4, h5, h6⟩ := h
  refine ⟨h1.1, h1.2.2.2.1.1, fun k hk => ?_, fun j hj => (h4 j hj).2.1⟩
  obtain ⟨-, hP, hS⟩ := h1.2.1 k hk
  exact ⟨hP.1, hS.1, fun y hy => (hP.2.2.2.1 y hy).2, hP.2.2.2.2.2.1, hP.2.2.2.2.2.2.2.1⟩
theorem CRel.rates (h : CRel e0 L K N I J R x now n pic tm rc fe co cr sv pd) {k : Nat} (hk : k < 2) (t ov i : Int32) : CRel e0 L K N (u2 (u2 (u2 I (dr R x k) 4 t) (dr R x k) 5 ov) (dr R x k) 6 i) J R x now n pic (fun a => if a = k then (t, ov, i) else tm a) rc fe co cr sv pd := by
  obtain ⟨cx, cal, ck, cj⟩ := h.cells
  have h0 := h
  obtain ⟨h1, h2, h3, h4, h5, h6⟩ := h0
  have ha := (ck k hk).1
  have hw : ∀ b, b ≠ _ → (u2 (u2 (u2 I (dr R x k) 4 t) (dr R x k) 5 ov) (dr R x k) 6 i) b = I b := fun b hb => funext fun j => by rw [u2_a hb, u2_a hb, u2_a hb]
  refine h.I' ⟨by rw [hw _ (cx.ne ha (by omega))]; exact h1.2.2.2.2.1, h1.2.2.2.2.2.1, by rw [hw _ (cx.ne ha (by omega))]; exact h2, by rw [← h2]; exact h1.2.2.2.2.2.2⟩ (by rw [hw _ (cal.ne ha (by omega))]) (fun k2 hk2 => by rw [hw _ ((ck k2 hk2).2.1.ne ha (by omega))]) (fun k2 hk2 => ?_) (fun j hj => ⟨hw _ ((cj j hj).ne ha (by omega)), (h4 j hj).2.2.2.2.2.2⟩)
  obtain ⟨g1, g2, g3, g4⟩ := h3 k2 hk2
  obtain ⟨a1, a2, a3, a4, a5⟩ := ck k2 hk2
  refine ⟨?_, fun y2 w2 hy2 hw2 => ?_, fun w2 hw2 => ?_, fun y2 hy2 => ?_⟩
  · by_cases e : k2 = k
    · subst e
      rw [if_pos rfl, u2_s, u2_k (show (5 : Nat) ≠ 6 by decide), u2_s, u2_k (show (4 : Nat) ≠ 6 by decide), u2_k (show (4 : Nat) ≠ 5 by decide), u2_s]
    · rw [if_neg e, hw _ (a1.ne ha (by omega))]
      exact g1
  · rw [hw _ ((a3 y2 hy2).ne ha (by omega))]; exact g2 y2 w2 hy2 hw2
  · rw [hw _ (a5.ne ha (by omega))]; exact g3 w2 hw2
  · rw [hw _ (a4.ne ha (by omega))]; exact g4 y2 hy2
theorem CRel.fee (h : CRel e0 L K N I J R x now n pic tm rc fe co cr sv pd) {k w : Nat} (hk : k < 2) (t : Int32) : CRel e0 L K N (u2 I (dr R (dr R x k) 2) w t) J R x now n pic tm rc (fun a b => if a = k ∧ b = w then t else fe a b) co cr sv pd := by
  obtain ⟨cx, cal, ck, cj⟩ := h.cells
  have h0 := h
  obtain ⟨h1, h2, h3, h4, h5, h6⟩ := h0
  have ha := (ck k hk).2.2.2.2
  have hw : ∀ b, b ≠ _ → (u2 I (dr R (dr R x k) 2) w t) b = I b := fun b hb => funext fun j => u2_a hb
  refine h.I' ⟨by rw [hw _ (cx.ne ha (by omega))]; exact h1.2.2.2.2.1, h1.2.2.2.2.2.1, by rw [hw _ (cx.ne ha (by omega))]; exact h2, by rw [← h2]; exact h1.2.2.2.2.2.2⟩ (by rw [hw _ (cal.ne ha (by omega))]) (fun k2 hk2 => by rw [hw _ ((ck k2 hk2).2.1.ne ha (by omega))]) (fun k2 hk2 => ?_) (fun j hj => ⟨hw _ ((cj j hj).ne ha (by omega)), (h4 j hj).2.2.2.2.2.2⟩)
  obtain ⟨g1, g2, g3, g4⟩ := h3 k2 hk2
  obtain ⟨a1, a2, a3, a4, a5⟩ := ck k2 hk2
  refine ⟨?_, fun y2 w2 hy2 hw2 => ?_, fun w2 hw2 => ?_, fun y2 hy2 => ?_⟩
  · rw [hw _ (a1.ne ha (by omega))]; exact g1
  · rw [hw _ ((a3 y2 hy2).ne ha (by omega))]; exact g2 y2 w2 hy2 hw2
  · by_cases e : k2 = k
    · subst e
      by_cases e2 : w2 = w
      · subst e2
        rw [if_pos ⟨rfl, rfl⟩, u2_s]
      · rw [if_neg (fun q => e2 q.2), u2_k e2]
        exact g3 w2 hw2
    · rw [if_neg (fun q => e q.1), hw _ (a5.ne ha (by omega))]
      exact g3 w2 hw2
  · rw [hw _ (a4.ne ha (by omega))]; exact g4 y2 hy2
theorem CRel.row (h : CRel e0 L K N I J R x now n pic tm rc fe co cr sv pd) {k y w : Nat} (hk : k < 2) (hy : y < 10) (t : Int32) : CRel e0 L K N (u2 I (rwA R (dr R x k) y) w t) J R x now n pic tm (fun a b c => if a = k ∧ b = y ∧ c = w then t else rc a b c) fe co cr sv pd := by
  obtain ⟨cx, cal, ck, cj⟩ := h.cells
  have h0 := h
  obtain ⟨h1, h2, h3, h4, h5, h6⟩ := h0
  have ha := (ck k hk).2.2.1 y hy
  have hw : ∀ b, b ≠ _ → (u2 I (rwA R (dr R x k) y) w t) b = I b := fun b hb => funext fun j => u2_a hb
  refine h.I' ⟨by rw [hw _ (cx.ne ha (by omega))]; exact h1.2.2.2.2.1, h1.2.2.2.2.2.1, by rw [hw _ (cx.ne ha (by omega))]; exact h2, by rw [← h2]; exact h1.2.2.2.2.2.2⟩ (by rw [hw _ (cal.ne ha (by omega))]) (fun k2 hk2 => by rw [hw _ ((ck k2 hk2).2.1.ne ha (by omega))]) (fun k2 hk2 => ?_) (fun j hj => ⟨hw _ ((cj j hj).ne ha (by omega)), (h4 j hj).2.2.2.2.2.2⟩)
  obtain ⟨g1, g2, g3, g4⟩ := h3 k2 hk2
  obtain ⟨a1, a2, a3, a4, a5⟩ := ck k2 hk2
  refine ⟨?_, fun y2 w2 hy2 hw2 => ?_, fun w2 hw2 => ?_, fun y2 hy2 => ?_⟩
  · rw [hw _ (a1.ne ha (by omega))]; exact g1
  · by_cases e : k2 = k ∧ y2 = y
    · obtain ⟨e1, e3⟩ := e
      subst e1
      subst e3
      by_cases e2 : w2 = w
      · subst e2
        rw [if_pos ⟨rfl, rfl, rfl⟩, u2_s]
      · rw [if_neg (fun q => e2 q.2.2), u2_k e2]
        exact g2 y2 w2 hy2 hw2
    · rw [if_neg (fun q => e ⟨q.1, q.2.1⟩), hw _ ((a3 y2 hy2).ne ha (by omega))]
      exact g2 y2 w2 hy2 hw2
  · rw [hw _ (a5.ne ha (by omega))]; exact g3 w2 hw2
  · rw [hw _ (a4.ne ha (by omega))]; exact g4 y2 hy2
theorem CRel.cost (h : CRel e0 L K N I J R x now n pic tm rc fe co cr sv pd) {k y : Nat} (hk : k < 2) (t : Int32) : CRel e0 L K N (u2 I (dr R (dr R x k) 1) y t) J R x now n pic tm rc fe (fun a b => if a = k ∧ b = y then t else co a b) cr sv pd := by
  obtain ⟨cx, cal, ck, cj⟩ := h.cells
  have h0 := h
  obtain ⟨h1, h2, h3, h4, h5, h6⟩ := h0
  have ha := (ck k hk).2.2.2.1
  have hw : ∀ b, b ≠ _ → (u2 I (dr R (dr R x k) 1) y t) b = I b := fun b hb => funext fun j => u2_a hb
  refine h.I' ⟨by rw [hw _ (cx.ne ha (by omega))]; exact h1.2.2.2.2.1, h1.2.2.2.2.2.1, by rw [hw _ (cx.ne ha (by omega))]; exact h2, by rw [← h2]; exact h1.2.2.2.2.2.2⟩ (by rw [hw _ (cal.ne ha (by omega))]) (fun k2 hk2 => by rw [hw _ ((ck k2 hk2).2.1.ne ha (by omega))]) (fun k2 hk2 => ?_) (fun j hj => ⟨hw _ ((cj j hj).ne ha (by omega)), (h4 j hj).2.2.2.2.2.2⟩)
  obtain ⟨g1, g2, g3, g4⟩ := h3 k2 hk2
  obtain ⟨a1, a2, a3, a4, a5⟩ := ck k2 hk2
  refine ⟨?_, fun y2 w2 hy2 hw2 => ?_, fun w2 hw2 => ?_, fun y2 hy2 => ?_⟩
  · rw [hw _ (a1.ne ha (by omega))]; exact g1
  · rw [hw _ ((a3 y2 hy2).ne ha (by omega))]; exact g2 y2 w2 hy2 hw2
  · rw [hw _ (a5.ne ha (by omega))]; exact g3 w2 hw2
  · by_cases e : k2 = k
    · subst e
      by_cases e2 : y2 = y
      · subst e2
        rw [if_pos ⟨rfl, rfl⟩, u2_s]
      · rw [if_neg (fun q => e2 q.2), u2_k e2]
        exact g4 y2 hy2
    · rw [if_neg (fun q => e q.1), hw _ (a4.ne ha (by omega))]
      exact g4 y2 hy2
theorem CRel.crossed (h : CRel e0 L K N I J R x now n pic tm rc fe co cr sv pd) {t : Int32} (ht : t = 0 ∨ t = 1) : CRel e0 L K N (u2 I x 3 t) J R x now n pic tm rc fe co t sv pd := by
  obtain ⟨cx, cal, ck, cj⟩ := h.cells
  have h0 := h
  obtain ⟨h1, h2, h3, h4, h5, h6⟩ := h0
  have ha := cx
  have hw : ∀ b, b ≠ _ → (u2 I x 3 t) b = I b := fun b hb => funext fun j => u2_a hb
  refine h.I' ⟨(u2_k (by decide)).trans h1.2.2.2.2.1, h1.2.2.2.2.2.1, u2_s, ht⟩ (by rw [hw _ (cal.ne ha (by omega))]) (fun k2 hk2 => by rw [hw _ ((ck k2 hk2).2.1.ne ha (by omega))]) (fun k2 hk2 => ?_) (fun j hj => ⟨hw _ ((cj j hj).ne ha (by omega)), (h4 j hj).2.2.2.2.2.2⟩)
  obtain ⟨g1, g2, g3, g4⟩ := h3 k2 hk2
  obtain ⟨a1, a2, a3, a4, a5⟩ := ck k2 hk2
  refine ⟨?_, fun y2 w2 hy2 hw2 => ?_, fun w2 hw2 => ?_, fun y2 hy2 => ?_⟩
  · rw [hw _ (a1.ne ha (by omega))]; exact g1
  · rw [hw _ ((a3 y2 hy2).ne ha (by omega))]; exact g2 y2 w2 hy2 hw2
  · rw [hw _ (a5.ne ha (by omega))]; exact g3 w2 hw2
  · rw [hw _ (a4.ne ha (by omega))]; exact g4 y2 hy2
theorem CRel.close (h : CRel e0 L K N I J R x now n pic tm rc fe co cr sv pd) (h9 : now < 9) : CRel e0 L K N (u2 I x 4 (nI (now + 1))) J R x (now + 1) n pic tm rc fe co cr sv pd := by
  obtain ⟨cx, cal, ck, cj⟩ := h.cells
  have h0 := h
  obtain ⟨h1, h2, h3, h4, h5, h6⟩ := h0
  have ha := cx
  have hw : ∀ b, b ≠ _ → (u2 I x 4 (nI (now + 1))) b = I b := fun b hb => funext fun j => u2_a hb
  refine h.I' ⟨u2_s, by omega, (u2_k (by decide)).trans h2, by rw [← h2]; exact h1.2.2.2.2.2.2⟩ (by rw [hw _ (cal.ne ha (by omega))]) (fun k2 hk2 => by rw [hw _ ((ck k2 hk2).2.1.ne ha (by omega))]) (fun k2 hk2 => ?_) (fun j hj => ⟨hw _ ((cj j hj).ne ha (by omega)), (h4 j hj).2.2.2.2.2.2⟩)
  obtain ⟨g1, g2, g3, g4⟩ := h3 k2 hk2
  obtain ⟨a1, a2, a3, a4, a5⟩ := ck k2 hk2
  refine ⟨?_, fun y2 w2 hy2 hw2 => ?_, fun w2 hw2 => ?_, fun y2 hy2 => ?_⟩
  · rw [hw _ (a1.ne ha (by omega))]; exact g1
  · rw [hw _ ((a3 y2 hy2).ne ha (by omega))]; exact g2 y2 w2 hy2 hw2
  · rw [hw _ (a5.ne ha (by omega))]; exact g3 w2 hw2
  · rw [hw _ (a4.ne ha (by omega))]; exact g4 y2 hy2
theorem CRel.paid {J' : Nat → Nat → Int64} {j : Nat} {v : Int32} (h : CRel e0 L K N I J R x now n pic tm rc fe co cr sv pd) (hj : j < n) (h1 : J' (shA R (dr R x 2) j) 6 = v.toInt64) (h2 : ∀ i, i < n → i ≠ j → J' (shA R (dr R x 2) i) 6 = J (shA R (dr R x 2) i) 6) : CRel e0 L K N I J' R x now n pic tm rc fe co cr sv (fun a => if a = j then v else pd a) := by
  obtain ⟨g1, g2, g3, g4, g5, g6⟩ := h
  refine ⟨g1, g2, g3, fun i hi => ?_, g5, g6⟩
  obtain ⟨k1, k2, k3, k4, k5, k6, k7⟩ := g4 i hi
  refine ⟨k1, k2, k3, k4, k5, k6, ?_⟩
  show J' (shA R (dr R x 2) i) 6 = (if i = j then v else pd i).toInt64
  by_cases e : i = j
  · subst e
    rw [if_pos rfl]
    exact h1
  · rw [if_neg e, h2 i hi e]
    exact k7
theorem MRel.I' {I' : Nat → Nat → Int32} {now' : Nat} {tm' : Nat → TM} {rc' : Nat → Nat → Nat → Int32} {fe' co' : Nat → Nat → Int32} {cr' : Int32} {pd' : Nat → Int32} (h : MRel L K N I R m now n pic tm rc fe co cr sv pd) (hm : I' m 7 = nI now' ∧ I' m 14 = I m 14 ∧ I' m 6 = cr') (hk : ∀ k, k < 2 → (I' (dr R m 3) k, I' (dr R m 4) k, I' (dr R m 5) k) = tm' k ∧ (∀ y w, y < 10 → w < 4 → I' (dr R m 0) (40 * k + 4 * y + w) = rc' k y w) ∧ (∀ w, w < 4 → I' (dr R m 2) (4 * k + w) = fe' k w) ∧ (∀ y, y < 10 → I' (dr R m 1) (10 * k + y) = co' k y))
    (hs : I' (dr R m 8) = I (dr R m 8) ∧ I' (dr R m 9) = I (dr R m 9) ∧ I' (dr R m 10) = I (dr R m 10) ∧ I' (dr R m 11) = I (dr R m 11) ∧ I' (dr R m 12) = I (dr R m 12)) (hp : ∀ j, j < n → I' (dr R m 13) j = pd' j) (hp0 : ∀ j, n ≤ j → I' (dr R m 13) j = 0) : MRel L K N I' R m now' n pic tm' rc' fe' co' cr' sv pd' := by
  obtain ⟨h1, h2, h3, h4, h5, h6, h7⟩ := h
  refine ⟨h1, hm.1, hm.2.1.trans h3, hm.2.2, hk, fun j hj => ?_, hp0⟩
  obtain ⟨g1, g2, g3⟩ := h6 j hj
  refine ⟨by rw [hs.1]; exact g1, ?_, hp j hj⟩
  unfold mshr
  rw [hs.2.1, hs.2.2.1, hs.2.2.2.1, hs.2.2.2.2]
  exact g2
theorem MRel.rates (h : MRel L K N I R m now n pic tm rc fe co cr sv pd) {k : Nat} (t ov i : Int32) : MRel L K N (u2 (u2 (u2 I (dr R m 3) k t) (dr R m 4) k ov) (dr R m 5) k i) R m now n pic (fun a => if a = k then (t, ov, i) else tm a) rc fe co cr sv pd := by
  have h0 := h
  obtain ⟨h1, h2, h3, h4, h5, h6, h7⟩ := h0
  have r0 : (u2 (u2 (u2 I (dr R m 3) k t) (dr R m 4) k ov) (dr R m 5) k i) (dr R m 0) = I (dr R m 0) := funext fun j => by rw [u2_a ((h1.cel 0 965 80 (by decide)).2.ne (h1.cel 5 1045 2 (by decide)).2 (by decide)), u2_a ((h1.cel 0 965 80 (by decide)).2.ne (h1.cel 4 1029 2 (by decide)).2 (by decide)), u2_a ((h1.cel 0 965 80 (by decide)).2.ne (h1.cel 3 1013 2 (by decide)).2 (by decide))]
  have r1 : (u2 (u2 (u2 I (dr R m 3) k t) (dr R m 4) k ov) (dr R m 5) k i) (dr R m 1) = I (dr R m 1) := funext fun j => by rw [u2_a ((h1.cel 1 981 20 (by decide)).2.ne (h1.cel 5 1045 2 (by decide)).2 (by decide)), u2_a ((h1.cel 1 981 20 (by decide)).2.ne (h1.cel 4 1029 2 (by decide)).2 (by decide)), u2_a ((h1.cel 1 981 20 (by decide)).2.ne (h1.cel 3 1013 2 (by decide)).2 (by decide))]
  have r2 : (u2 (u2 (u2 I (dr R m 3) k t) (dr R m 4) k ov) (dr R m 5) k i) (dr R m 2) = I (dr R m 2) := funext fun j => by rw [u2_a ((h1.cel 2 997 8 (by decide)).2.ne (h1.cel 5 1045 2 (by decide)).2 (by decide)), u2_a ((h1.cel 2 997 8 (by decide)).2.ne (h1.cel 4 1029 2 (by decide)).2 (by decide)), u2_a ((h1.cel 2 997 8 (by decide)).2.ne (h1.cel 3 1013 2 (by decide)).2 (by decide))]
  have r8 : (u2 (u2 (u2 I (dr R m 3) k t) (dr R m 4) k ov) (dr R m 5) k i) (dr R m 8) = I (dr R m 8) := funext fun j => by rw [u2_a ((h1.cel 8 1061 8 (by decide)).2.ne (h1.cel 5 1045 2 (by decide)).2 (by decide)), u2_a ((h1.cel 8 1061 8 (by decide)).2.ne (h1.cel 4 1029 2 (by decide)).2 (by decide)), u2_a ((h1.cel 8 1061 8 (by decide)).2.ne (h1.cel 3 1013 2 (by decide)).2 (by decide))]
  have r9 : (u2 (u2 (u2 I (dr R m 3) k t) (dr R m 4) k ov) (dr R m 5) k i) (dr R m 9) = I (dr R m 9) := funext fun j => by rw [u2_a ((h1.cel 9 1077 8 (by decide)).2.ne (h1.cel 5 1045 2 (by decide)).2 (by decide)), u2_a ((h1.cel 9 1077 8 (by decide)).2.ne (h1.cel 4 1029 2 (by decide)).2 (by decide)), u2_a ((h1.cel 9 1077 8 (by decide)).2.ne (h1.cel 3 1013 2 (by decide)).2 (by decide))]
  have r10 : (u2 (u2 (u2 I (dr R m 3) k t) (dr R m 4) k ov) (dr R m 5) k i) (dr R m 10) = I (dr R m 10) := funext fun j => by rw [u2_a ((h1.cel 10 1093 8 (by decide)).2.ne (h1.cel 5 1045 2 (by decide)).2 (by decide)), u2_a ((h1.cel 10 1093 8 (by decide)).2.ne (h1.cel 4 1029 2 (by decide)).2 (by decide)), u2_a ((h1.cel 10 1093 8 (by decide)).2.ne (h1.cel 3 1013 2 (by decide)).2 (by decide))]
  have r11 : (u2 (u2 (u2 I (dr R m 3) k t) (dr R m 4) k ov) (dr R m 5) k i) (dr R m 11) = I (dr R m 11) := funext fun j => by rw [u2_a ((h1.cel 11 1109 8 (by decide)).2.ne (h1.cel 5 1045 2 (by decide)).2 (by decide)), u2_a ((h1.cel 11 1109 8 (by decide)).2.ne (h1.cel 4 1029 2 (by decide)).2 (by decide)), u2_a ((h1.cel 11 1109 8 (by decide)).2.ne (h1.cel 3 1013 2 (by decide)).2 (by decide))]
  have r12 : (u2 (u2 (u2 I (dr R m 3) k t) (dr R m 4) k ov) (dr R m 5) k i) (dr R m 12) = I (dr R m 12) := funext fun j => by rw [u2_a ((h1.cel 12 1125 8 (by decide)).2.ne (h1.cel 5 1045 2 (by decide)).2 (by decide)), u2_a ((h1.cel 12 1125 8 (by decide)).2.ne (h1.cel 4 1029 2 (by decide)).2 (by decide)), u2_a ((h1.cel 12 1125 8 (by decide)).2.ne (h1.cel 3 1013 2 (by decide)).2 (by decide))]
  have r13 : (u2 (u2 (u2 I (dr R m 3) k t) (dr R m 4) k ov) (dr R m 5) k i) (dr R m 13) = I (dr R m 13) := funext fun j => by rw [u2_a ((h1.cel 13 1141 8 (by decide)).2.ne (h1.cel 5 1045 2 (by decide)).2 (by decide)), u2_a ((h1.cel 13 1141 8 (by decide)).2.ne (h1.cel 4 1029 2 (by decide)).2 (by decide)), u2_a ((h1.cel 13 1141 8 (by decide)).2.ne (h1.cel 3 1013 2 (by decide)).2 (by decide))]
  have rm : (u2 (u2 (u2 I (dr R m 3) k t) (dr R m 4) k ov) (dr R m 5) k i) m = I m := funext fun j => by rw [u2_a (Ne.symm (h1.nx 5 1045 2 (by decide))), u2_a (Ne.symm (h1.nx 4 1029 2 (by decide))), u2_a (Ne.symm (h1.nx 3 1013 2 (by decide)))]
  refine h.I' ⟨by rw [rm]; exact h2, by rw [rm], by rw [rm]; exact h4⟩ (fun k2 hk2 => ?_) ⟨r8, r9, r10, r11, r12⟩ (fun j hj => by rw [r13]; exact (h6 j hj).2.2) (fun j hj => by rw [r13]; exact h7 j hj)
  obtain ⟨g1, g2, g3, g4⟩ := h5 k2 hk2
  refine ⟨?_, fun y2 w2 hy2 hw2 => ?_, fun w2 hw2 => ?_, fun y2 hy2 => ?_⟩
  · have n34 := (h1.cel 3 1013 2 (by decide)).2.ne (h1.cel 4 1029 2 (by decide)).2 (by decide)
    have n35 := (h1.cel 3 1013 2 (by decide)).2.ne (h1.cel 5 1045 2 (by decide)).2 (by decide)
    have n45 := (h1.cel 4 1029 2 (by decide)).2.ne (h1.cel 5 1045 2 (by decide)).2 (by decide)
    rw [u2_a n35, u2_a n34, u2_a n45]
    by_cases e : k2 = k
    · subst e
      rw [if_pos rfl, u2_s, u2_s, u2_s]
    · rw [if_neg e, u2_k e, u2_k e, u2_a (Ne.symm n34), u2_k e, u2_a (Ne.symm n45), u2_a (Ne.symm n35)]
      exact g1
  · rw [r0]; exact g2 y2 w2 hy2 hw2
  · rw [r2]; exact g3 w2 hw2
  · rw [r1]; exact g4 y2 hy2
theorem MRel.fee (h : MRel L K N I R m now n pic tm rc fe co cr sv pd) {k w : Nat} (hw : w < 4) (t : Int32) : MRel L K N (u2 I (dr R m 2) (4 * k + w) t) R m now n pic tm rc (fun a b => if a = k ∧ b = w then t else fe a b) co cr sv pd := by
  have h0 := h
  obtain ⟨h1, h2, h3, h4, h5, h6, h7⟩ := h0
  have r0 : (u2 I (dr R m 2) (4 * k + w) t) (dr R m 0) = I (dr R m 0) := funext fun j => by rw [u2_a ((h1.cel 0 965 80 (by decide)).2.ne (h1.cel 2 997 8 (by decide)).2 (by decide))]
  have r1 : (u2 I (dr R m 2) (4 * k + w) t) (dr R m 1) = I (dr R m 1) := funext fun j => by rw [u2_a ((h1.cel 1 981 20 (by decide)).2.ne (h1.cel 2 997 8 (by decide)).2 (by decide))]
  have r3 : (u2 I (dr R m 2) (4 * k + w) t) (dr R m 3) = I (dr R m 3) := funext fun j => by rw [u2_a ((h1.cel 3 1013 2 (by decide)).2.ne (h1.cel 2 997 8 (by decide)).2 (by decide))]
  have r4 : (u2 I (dr R m 2) (4 * k + w) t) (dr R m 4) = I (dr R m 4) := funext fun j => by rw [u2_a ((h1.cel 4 1029 2 (by decide)).2.ne (h1.cel 2 997 8 (by decide)).2 (by decide))]
  have r5 : (u2 I (dr R m 2) (4 * k + w) t) (dr R m 5) = I (dr R m 5) := funext fun j => by rw [u2_a ((h1.cel 5 1045 2 (by decide)).2.ne (h1.cel 2 997 8 (by decide)).2 (by decide))]
  have r8 : (u2 I (dr R m 2) (4 * k + w) t) (dr R m 8) = I (dr R m 8) := funext fun j => by rw [u2_a ((h1.cel 8 1061 8 (by decide)).2.ne (h1.cel 2 997 8 (by decide)).2 (by decide))]
  have r9 : (u2 I (dr R m 2) (4 * k + w) t) (dr R m 9) = I (dr R m 9) := funext fun j => by rw [u2_a ((h1.cel 9 1077 8 (by decide)).2.ne (h1.cel 2 997 8 (by decide)).2 (by decide))]
  have r10 : (u2 I (dr R m 2) (4 * k + w) t) (dr R m 10) = I (dr R m 10) := funext fun j => by rw [u2_a ((h1.cel 10 1093 8 (by decide)).2.ne (h1.cel 2 997 8 (by decide)).2 (by decide))]
  have r11 : (u2 I (dr R m 2) (4 * k + w) t) (dr R m 11) = I (dr R m 11) := funext fun j => by rw [u2_a ((h1.cel 11 1109 8 (by decide)).2.ne (h1.cel 2 997 8 (by decide)).2 (by decide))]
  have r12 : (u2 I (dr R m 2) (4 * k + w) t) (dr R m 12) = I (dr R m 12) := funext fun j => by rw [u2_a ((h1.cel 12 1125 8 (by decide)).2.ne (h1.cel 2 997 8 (by decide)).2 (by decide))]
  have r13 : (u2 I (dr R m 2) (4 * k + w) t) (dr R m 13) = I (dr R m 13) := funext fun j => by rw [u2_a ((h1.cel 13 1141 8 (by decide)).2.ne (h1.cel 2 997 8 (by decide)).2 (by decide))]
  have rm : (u2 I (dr R m 2) (4 * k + w) t) m = I m := funext fun j => by rw [u2_a (Ne.symm (h1.nx 2 997 8 (by decide)))]
  refine h.I' ⟨by rw [rm]; exact h2, by rw [rm], by rw [rm]; exact h4⟩ (fun k2 hk2 => ?_) ⟨r8, r9, r10, r11, r12⟩ (fun j hj => by rw [r13]; exact (h6 j hj).2.2) (fun j hj => by rw [r13]; exact h7 j hj)
  obtain ⟨g1, g2, g3, g4⟩ := h5 k2 hk2
  refine ⟨?_, fun y2 w2 hy2 hw2 => ?_, fun w2 hw2 => ?_, fun y2 hy2 => ?_⟩
  · rw [r3, r4, r5]; exact g1
  · rw [r0]; exact g2 y2 w2 hy2 hw2
  · by_cases e : k2 = k ∧ w2 = w
    · rw [if_pos e, e.1, e.2, u2_s]
    · rw [if_neg e, u2_k (show 4 * k2 + w2 ≠ 4 * k + w from fun q => e (by omega))]
      exact g3 w2 hw2
  · rw [r1]; exact g4 y2 hy2
theorem MRel.row (h : MRel L K N I R m now n pic tm rc fe co cr sv pd) {k y w : Nat} (hk : k < 2) (hy : y < 10) (hw : w < 4) (t : Int32) : MRel L K N (u2 I (dr R m 0) (40 * k + 4 * y + w) t) R m now n pic tm (fun a b c => if a = k ∧ b = y ∧ c = w then t else rc a b c) fe co cr sv pd := by
  have h0 := h
  obtain ⟨h1, h2, h3, h4, h5, h6, h7⟩ := h0
  have r1 : (u2 I (dr R m 0) (40 * k + 4 * y + w) t) (dr R m 1) = I (dr R m 1) := funext fun j => by rw [u2_a ((h1.cel 1 981 20 (by decide)).2.ne (h1.cel 0 965 80 (by decide)).2 (by decide))]
  have r2 : (u2 I (dr R m 0) (40 * k + 4 * y + w) t) (dr R m 2) = I (dr R m 2) := funext fun j => by rw [u2_a ((h1.cel 2 997 8 (by decide)).2.ne (h1.cel 0 965 80 (by decide)).2 (by decide))]
  have r3 : (u2 I (dr R m 0) (40 * k + 4 * y + w) t) (dr R m 3) = I (dr R m 3) := funext fun j => by rw [u2_a ((h1.cel 3 1013 2 (by decide)).2.ne (h1.cel 0 965 80 (by decide)).2 (by decide))]
  have r4 : (u2 I (dr R m 0) (40 * k + 4 * y + w) t) (dr R m 4) = I (dr R m 4) := funext fun j => by rw [u2_a ((h1.cel 4 1029 2 (by decide)).2.ne (h1.cel 0 965 80 (by decide)).2 (by decide))]
  have r5 : (u2 I (dr R m 0) (40 * k + 4 * y + w) t) (dr R m 5) = I (dr R m 5) := funext fun j => by rw [u2_a ((h1.cel 5 1045 2 (by decide)).2.ne (h1.cel 0 965 80 (by decide)).2 (by decide))]
  have r8 : (u2 I (dr R m 0) (40 * k + 4 * y + w) t) (dr R m 8) = I (dr R m 8) := funext fun j => by rw [u2_a ((h1.cel 8 1061 8 (by decide)).2.ne (h1.cel 0 965 80 (by decide)).2 (by decide))]
  have r9 : (u2 I (dr R m 0) (40 * k + 4 * y + w) t) (dr R m 9) = I (dr R m 9) := funext fun j => by rw [u2_a ((h1.cel 9 1077 8 (by decide)).2.ne (h1.cel 0 965 80 (by decide)).2 (by decide))]
  have r10 : (u2 I (dr R m 0) (40 * k + 4 * y + w) t) (dr R m 10) = I (dr R m 10) := funext fun j => by rw [u2_a ((h1.cel 10 1093 8 (by decide)).2.ne (h1.cel 0 965 80 (by decide)).2 (by decide))]
  have r11 : (u2 I (dr R m 0) (40 * k + 4 * y + w) t) (dr R m 11) = I (dr R m 11) := funext fun j => by rw [u2_a ((h1.cel 11 1109 8 (by decide)).2.ne (h1.cel 0 965 80 (by decide)).2 (by decide))]
  have r12 : (u2 I (dr R m 0) (40 * k + 4 * y + w) t) (dr R m 12) = I (dr R m 12) := funext fun j => by rw [u2_a ((h1.cel 12 1125 8 (by decide)).2.ne (h1.cel 0 965 80 (by decide)).2 (by decide))]
  have r13 : (u2 I (dr R m 0) (40 * k + 4 * y + w) t) (dr R m 13) = I (dr R m 13) := funext fun j => by rw [u2_a ((h1.cel 13 1141 8 (by decide)).2.ne (h1.cel 0 965 80 (by decide)).2 (by decide))]
  have rm : (u2 I (dr R m 0) (40 * k + 4 * y + w) t) m = I m := funext fun j => by rw [u2_a (Ne.symm (h1.nx 0 965 80 (by decide)))]
  refine h.I' ⟨by rw [rm]; exact h2, by rw [rm], by rw [rm]; exact h4⟩ (fun k2 hk2 => ?_) ⟨r8, r9, r10, r11, r12⟩ (fun j hj => by rw [r13]; exact (h6 j hj).2.2) (fun j hj => by rw [r13]; exact h7 j hj)
  obtain ⟨g1, g2, g3, g4⟩ := h5 k2 hk2
  refine ⟨?_, fun y2 w2 hy2 hw2 => ?_, fun w2 hw2 => ?_, fun y2 hy2 => ?_⟩
  · rw [r3, r4, r5]; exact g1
  · by_cases e : k2 = k ∧ y2 = y ∧ w2 = w
    · rw [if_pos e, e.1, e.2.1, e.2.2, u2_s]
    · rw [if_neg e, u2_k (show 40 * k2 + 4 * y2 + w2 ≠ 40 * k + 4 * y + w from fun q => e (by omega))]
      exact g2 y2 w2 hy2 hw2
  · rw [r2]; exact g3 w2 hw2
  · rw [r1]; exact g4 y2 hy2
theorem MRel.cost (h : MRel L K N I R m now n pic tm rc fe co cr sv pd) {k y : Nat} (hy : y < 10) (t : Int32) : MRel L K N (u2 I (dr R m 1) (10 * k + y) t) R m now n pic tm rc fe (fun a b => if a = k ∧ b = y then t else co a b) cr sv pd := by
  have h0 := h
  obtain ⟨h1, h2, h3, h4, h5, h6, h7⟩ := h0
  have r0 : (u2 I (dr R m 1) (10 * k + y) t) (dr R m 0) = I (dr R m 0) := funext fun j => by rw [u2_a ((h1.cel 0 965 80 (by decide)).2.ne (h1.cel 1 981 20 (by decide)).2 (by decide))]
  have r2 : (u2 I (dr R m 1) (10 * k + y) t) (dr R m 2) = I (dr R m 2) := funext fun j => by rw [u2_a ((h1.cel 2 997 8 (by decide)).2.ne (h1.cel 1 981 20 (by decide)).2 (by decide))]
  have r3 : (u2 I (dr R m 1) (10 * k + y) t) (dr R m 3) = I (dr R m 3) := funext fun j => by rw [u2_a ((h1.cel 3 1013 2 (by decide)).2.ne (h1.cel 1 981 20 (by decide)).2 (by decide))]
  have r4 : (u2 I (dr R m 1) (10 * k + y) t) (dr R m 4) = I (dr R m 4) := funext fun j => by rw [u2_a ((h1.cel 4 1029 2 (by decide)).2.ne (h1.cel 1 981 20 (by decide)).2 (by decide))]
  have r5 : (u2 I (dr R m 1) (10 * k + y) t) (dr R m 5) = I (dr R m 5) := funext fun j => by rw [u2_a ((h1.cel 5 1045 2 (by decide)).2.ne (h1.cel 1 981 20 (by decide)).2 (by decide))]
  have r8 : (u2 I (dr R m 1) (10 * k + y) t) (dr R m 8) = I (dr R m 8) := funext fun j => by rw [u2_a ((h1.cel 8 1061 8 (by decide)).2.ne (h1.cel 1 981 20 (by decide)).2 (by decide))]
  have r9 : (u2 I (dr R m 1) (10 * k + y) t) (dr R m 9) = I (dr R m 9) := funext fun j => by rw [u2_a ((h1.cel 9 1077 8 (by decide)).2.ne (h1.cel 1 981 20 (by decide)).2 (by decide))]
  have r10 : (u2 I (dr R m 1) (10 * k + y) t) (dr R m 10) = I (dr R m 10) := funext fun j => by rw [u2_a ((h1.cel 10 1093 8 (by decide)).2.ne (h1.cel 1 981 20 (by decide)).2 (by decide))]
  have r11 : (u2 I (dr R m 1) (10 * k + y) t) (dr R m 11) = I (dr R m 11) := funext fun j => by rw [u2_a ((h1.cel 11 1109 8 (by decide)).2.ne (h1.cel 1 981 20 (by decide)).2 (by decide))]
  have r12 : (u2 I (dr R m 1) (10 * k + y) t) (dr R m 12) = I (dr R m 12) := funext fun j => by rw [u2_a ((h1.cel 12 1125 8 (by decide)).2.ne (h1.cel 1 981 20 (by decide)).2 (by decide))]
  have r13 : (u2 I (dr R m 1) (10 * k + y) t) (dr R m 13) = I (dr R m 13) := funext fun j => by rw [u2_a ((h1.cel 13 1141 8 (by decide)).2.ne (h1.cel 1 981 20 (by decide)).2 (by decide))]
  have rm : (u2 I (dr R m 1) (10 * k + y) t) m = I m := funext fun j => by rw [u2_a (Ne.symm (h1.nx 1 981 20 (by decide)))]
  refine h.I' ⟨by rw [rm]; exact h2, by rw [rm], by rw [rm]; exact h4⟩ (fun k2 hk2 => ?_) ⟨r8, r9, r10, r11, r12⟩ (fun j hj => by rw [r13]; exact (h6 j hj).2.2) (fun j hj => by rw [r13]; exact h7 j hj)
  obtain ⟨g1, g2, g3, g4⟩ := h5 k2 hk2
  refine ⟨?_, fun y2 w2 hy2 hw2 => ?_, fun w2 hw2 => ?_, fun y2 hy2 => ?_⟩
  · rw [r3, r4, r5]; exact g1
  · rw [r0]; exact g2 y2 w2 hy2 hw2
  · rw [r2]; exact g3 w2 hw2
  · by_cases e : k2 = k ∧ y2 = y
    · rw [if_pos e, e.1, e.2, u2_s]
    · rw [if_neg e, u2_k (show 10 * k2 + y2 ≠ 10 * k + y from fun q => e (by omega))]
      exact g4 y2 hy2
theorem MRel.crossed (h : MRel L K N I R m now n pic tm rc fe co cr sv pd) (t : Int32) : MRel L K N (u2 I m 6 t) R m now n pic tm rc fe co t sv pd := by
  have h0 := h
  obtain ⟨h1, h2, h3, h4, h5, h6, h7⟩ := h0
  have r0 : (u2 I m 6 t) (dr R m 0) = I (dr R m 0) := funext fun j => by rw [u2_a (h1.nx 0 965 80 (by decide))]
  have r1 : (u2 I m 6 t) (dr R m 1) = I (dr R m 1) := funext fun j => by rw [u2_a (h1.nx 1 981 20 (by decide))]
  have r2 : (u2 I m 6 t) (dr R m 2) = I (dr R m 2) := funext fun j => by rw [u2_a (h1.nx 2 997 8 (by decide))]
  have r3 : (u2 I m 6 t) (dr R m 3) = I (dr R m 3) := funext fun j => by rw [u2_a (h1.nx 3 1013 2 (by decide))]
  have r4 : (u2 I m 6 t) (dr R m 4) = I (dr R m 4) := funext fun j => by rw [u2_a (h1.nx 4 1029 2 (by decide))]
  have r5 : (u2 I m 6 t) (dr R m 5) = I (dr R m 5) := funext fun j => by rw [u2_a (h1.nx 5 1045 2 (by decide))]
  have r8 : (u2 I m 6 t) (dr R m 8) = I (dr R m 8) := funext fun j => by rw [u2_a (h1.nx 8 1061 8 (by decide))]
  have r9 : (u2 I m 6 t) (dr R m 9) = I (dr R m 9) := funext fun j => by rw [u2_a (h1.nx 9 1077 8 (by decide))]
  have r10 : (u2 I m 6 t) (dr R m 10) = I (dr R m 10) := funext fun j => by rw [u2_a (h1.nx 10 1093 8 (by decide))]
  have r11 : (u2 I m 6 t) (dr R m 11) = I (dr R m 11) := funext fun j => by rw [u2_a (h1.nx 11 1109 8 (by decide))]
  have r12 : (u2 I m 6 t) (dr R m 12) = I (dr R m 12) := funext fun j => by rw [u2_a (h1.nx 12 1125 8 (by decide))]
  have r13 : (u2 I m 6 t) (dr R m 13) = I (dr R m 13) := funext fun j => by rw [u2_a (h1.nx 13 1141 8 (by decide))]
  refine h.I' ⟨(u2_k (by decide)).trans h2, u2_k (by decide), u2_s⟩ (fun k2 hk2 => ?_) ⟨r8, r9, r10, r11, r12⟩ (fun j hj => by rw [r13]; exact (h6 j hj).2.2) (fun j hj => by rw [r13]; exact h7 j hj)
  obtain ⟨g1, g2, g3, g4⟩ := h5 k2 hk2
  refine ⟨?_, fun y2 w2 hy2 hw2 => ?_, fun w2 hw2 => ?_, fun y2 hy2 => ?_⟩
  · rw [r3, r4, r5]; exact g1
  · rw [r0]; exact g2 y2 w2 hy2 hw2
  · rw [r2]; exact g3 w2 hw2
  · rw [r1]; exact g4 y2 hy2
theorem MRel.close (h : MRel L K N I R m now n pic tm rc fe co cr sv pd)  : MRel L K N (u2 I m 7 (nI (now + 1))) R m (now + 1) n pic tm rc fe co cr sv pd := by
  have h0 := h
  obtain ⟨h1, h2, h3, h4, h5, h6, h7⟩ := h0
  have r0 : (u2 I m 7 (nI (now + 1))) (dr R m 0) = I (dr R m 0) := funext fun j => by rw [u2_a (h1.nx 0 965 80 (by decide))]
  have r1 : (u2 I m 7 (nI (now + 1))) (dr R m 1) = I (dr R m 1) := funext fun j => by rw [u2_a (h1.nx 1 981 20 (by decide))]
  have r2 : (u2 I m 7 (nI (now + 1))) (dr R m 2) = I (dr R m 2) := funext fun j => by rw [u2_a (h1.nx 2 997 8 (by decide))]
  have r3 : (u2 I m 7 (nI (now + 1))) (dr R m 3) = I (dr R m 3) := funext fun j => by rw [u2_a (h1.nx 3 1013 2 (by decide))]
  have r4 : (u2 I m 7 (nI (now + 1))) (dr R m 4) = I (dr R m 4) := funext fun j => by rw [u2_a (h1.nx 4 1029 2 (by decide))]
  have r5 : (u2 I m 7 (nI (now + 1))) (dr R m 5) = I (dr R m 5) := funext fun j => by rw [u2_a (h1.nx 5 1045 2 (by decide))]
  have r8 : (u2 I m 7 (nI (now + 1))) (dr R m 8) = I (dr R m 8) := funext fun j => by rw [u2_a (h1.nx 8 1061 8 (by decide))]
  have r9 : (u2 I m 7 (nI (now + 1))) (dr R m 9) = I (dr R m 9) := funext fun j => by rw [u2_a (h1.nx 9 1077 8 (by decide))]
  have r10 : (u2 I m 7 (nI (now + 1))) (dr R m 10) = I (dr R m 10) := funext fun j => by rw [u2_a (h1.nx 10 1093 8 (by decide))]
  have r11 : (u2 I m 7 (nI (now + 1))) (dr R m 11) = I (dr R m 11) := funext fun j => by rw [u2_a (h1.nx 11 1109 8 (by decide))]
  have r12 : (u2 I m 7 (nI (now + 1))) (dr R m 12) = I (dr R m 12) := funext fun j => by rw [u2_a (h1.nx 12 1125 8 (by decide))]
  have r13 : (u2 I m 7 (nI (now + 1))) (dr R m 13) = I (dr R m 13) := funext fun j => by rw [u2_a (h1.nx 13 1141 8 (by decide))]
  refine h.I' ⟨u2_s, u2_k (by decide), (u2_k (by decide)).trans h4⟩ (fun k2 hk2 => ?_) ⟨r8, r9, r10, r11, r12⟩ (fun j hj => by rw [r13]; exact (h6 j hj).2.2) (fun j hj => by rw [r13]; exact h7 j hj)
  obtain ⟨g1, g2, g3, g4⟩ := h5 k2 hk2
  refine ⟨?_, fun y2 w2 hy2 hw2 => ?_, fun w2 hw2 => ?_, fun y2 hy2 => ?_⟩
  · rw [r3, r4, r5]; exact g1
  · rw [r0]; exact g2 y2 w2 hy2 hw2
  · rw [r2]; exact g3 w2 hw2
  · rw [r1]; exact g4 y2 hy2
theorem MRel.paid (h : MRel L K N I R m now n pic tm rc fe co cr sv pd) {j : Nat} (hj : j < n) (v : Int32) : MRel L K N (u2 I (dr R m 13) j v) R m now n pic tm rc fe co cr sv (fun a => if a = j then v else pd a) := by
  have h0 := h
  obtain ⟨h1, h2, h3, h4, h5, h6, h7⟩ := h0
  have r0 : (u2 I (dr R m 13) j v) (dr R m 0) = I (dr R m 0) := funext fun j => by rw [u2_a ((h1.cel 0 965 80 (by decide)).2.ne (h1.cel 13 1141 8 (by decide)).2 (by decide))]
  have r1 : (u2 I (dr R m 13) j v) (dr R m 1) = I (dr R m 1) := funext fun j => by rw [u2_a ((h1.cel 1 981 20 (by decide)).2.ne (h1.cel 13 1141 8 (by decide)).2 (by decide))]
  have r2 : (u2 I (dr R m 13) j v) (dr R m 2) = I (dr R m 2) := funext fun j => by rw [u2_a ((h1.cel 2 997 8 (by decide)).2.ne (h1.cel 13 1141 8 (by decide)).2 (by decide))]
  have r3 : (u2 I (dr R m 13) j v) (dr R m 3) = I (dr R m 3) := funext fun j => by rw [u2_a ((h1.cel 3 1013 2 (by decide)).2.ne (h1.cel 13 1141 8 (by decide)).2 (by decide))]
  have r4 : (u2 I (dr R m 13) j v) (dr R m 4) = I (dr R m 4) := funext fun j => by rw [u2_a ((h1.cel 4 1029 2 (by decide)).2.ne (h1.cel 13 1141 8 (by decide)).2 (by decide))]
  have r5 : (u2 I (dr R m 13) j v) (dr R m 5) = I (dr R m 5) := funext fun j => by rw [u2_a ((h1.cel 5 1045 2 (by decide)).2.ne (h1.cel 13 1141 8 (by decide)).2 (by decide))]
  have r8 : (u2 I (dr R m 13) j v) (dr R m 8) = I (dr R m 8) := funext fun j => by rw [u2_a ((h1.cel 8 1061 8 (by decide)).2.ne (h1.cel 13 1141 8 (by decide)).2 (by decide))]
  have r9 : (u2 I (dr R m 13) j v) (dr R m 9) = I (dr R m 9) := funext fun j => by rw [u2_a ((h1.cel 9 1077 8 (by decide)).2.ne (h1.cel 13 1141 8 (by decide)).2 (by decide))]
  have r10 : (u2 I (dr R m 13) j v) (dr R m 10) = I (dr R m 10) := funext fun j => by rw [u2_a ((h1.cel 10 1093 8 (by decide)).2.ne (h1.cel 13 1141 8 (by decide)).2 (by decide))]
  have r11 : (u2 I (dr R m 13) j v) (dr R m 11) = I (dr R m 11) := funext fun j => by rw [u2_a ((h1.cel 11 1109 8 (by decide)).2.ne (h1.cel 13 1141 8 (by decide)).2 (by decide))]
  have r12 : (u2 I (dr R m 13) j v) (dr R m 12) = I (dr R m 12) := funext fun j => by rw [u2_a ((h1.cel 12 1125 8 (by decide)).2.ne (h1.cel 13 1141 8 (by decide)).2 (by decide))]
  have rm : (u2 I (dr R m 13) j v) m = I m := funext fun j => by rw [u2_a (Ne.symm (h1.nx 13 1141 8 (by decide)))]
  refine h.I' ⟨by rw [rm]; exact h2, by rw [rm], by rw [rm]; exact h4⟩ (fun k2 hk2 => ?_) ⟨r8, r9, r10, r11, r12⟩ (fun i hi => (Classical.em (i = j)).elim (fun e => by rw [e, u2_s, if_pos rfl]) (fun e => by rw [u2_k e, if_neg e]; exact (h6 i hi).2.2)) (fun i hi => by rw [u2_k (show i ≠ j by omega)]; exact h7 i hi)
  obtain ⟨g1, g2, g3, g4⟩ := h5 k2 hk2
  refine ⟨?_, fun y2 w2 hy2 hw2 => ?_, fun w2 hw2 => ?_, fun y2 hy2 => ?_⟩
  · rw [r3, r4, r5]; exact g1
  · rw [r0]; exact g2 y2 w2 hy2 hw2
  · rw [r2]; exact g3 w2 hw2
  · rw [r1]; exact g4 y2 hy2
end WB
