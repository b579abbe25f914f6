/-! The class's state, told by plain numbers. -/
section RP
variable {L L' : List Nat} {K N K' N' : Nat → Nat} {I I' : Nat → Nat → Int32} {J J' : Nat → Nat → Int64} {R R' : Nat → Nat → Option Nat}
theorem Cls.ext {P : Nat → Prop} {x now n : Nat} {nn : Nat → Nat} (h : Cls L K N I R x now n nn) (E : Ext L K N I J R L' K' N' I' J' R' P) (hn : ∀ a, a ∈ L → K a < 965 → K a ≠ 52 → K a ≠ 70 → ¬ P a) : Cls L' K' N' I' R' x now n nn ∧ ∀ k, k < 3 → dr R' x k = dr R x k := by
  obtain ⟨h1, h2, h3, h4, h5, h6, h7⟩ := h
  have nx : ¬ P x := hn x h1.1 (by rw [h1.2.1]; decide) (by rw [h1.2.1]; decide) (by rw [h1.2.1]; decide)
  have e : ∀ k, dr R' x k = dr R x k := fun k => E.ref h1.1 nx
  have ex : R' x = R x := E.r h1.1 nx
  have ei : I' x = I x := E.i h1.1 nx
  refine ⟨⟨E.cell h1, fun k hk => ?_, by rw [ex, e]; exact h3, by rw [e]; exact h4.ext E (fun a ha q => hn a ha (by omega) (by omega) (by omega)), by rw [ei]; exact h5, h6, by rw [ei]; exact h7⟩, fun k _ => e k⟩
  obtain ⟨g1, g2, g3⟩ := h2 k hk
  have np : ¬ P (dr R x k) := hn _ g2.1.1 (by rw [g2.1.2.1]; omega) (by rw [g2.1.2.1]; omega) (by rw [g2.1.2.1]; omega)
  rw [ex, e]
  refine ⟨g1, g2.ext E (fun a ha q => hn a ha (by omega) (by omega) (by omega)), ?_⟩
  rw [E.ref g2.1.1 np]
  exact g3.ext E (fun a ha q => hn a ha (by omega) (by omega) (by omega))
end RP
abbrev TM : Type := Int32 × Int32 × Int32
def CRel (e0 : Nat) (L : List Nat) (K N : Nat → Nat) (I : Nat → Nat → Int32) (J : Nat → Nat → Int64) (R : Nat → Nat → Option Nat) (x now n : Nat) (pic : Nat → Nat) (tm : Nat → TM) (rc : Nat → Nat → Nat → Int32) (fe co : Nat → Nat → Int32) (cr : Int32) (sv : Nat → Shr) (pd : Nat → Int32) : Prop :=
  Cls L K N I R x now n (fun k => cnt pic k n) ∧ I x 3 = cr ∧
  (∀ k, k < 2 → (I (dr R x k) 4, I (dr R x k) 5, I (dr R x k) 6) = tm k ∧ (∀ y w, y < 10 → w < 4 → I (rwA R (dr R x k) y) w = rc k y w) ∧ (∀ w, w < 4 → I (dr R (dr R x k) 2) w = fe k w) ∧ (∀ y, y < 10 → I (dr R (dr R x k) 1) y = co k y)) ∧
  (∀ j, j < n → pic j < 2 ∧ At L K N (shA R (dr R x 2) j) (1602 + 16 * j) 0 ∧ R (shA R (dr R x 2) j) 0 = some (dr R x (pic j)) ∧ I (shA R (dr R x 2) j) 1 = nI (cnt pic (pic j) j) ∧ shA R (dr R (dr R x (pic j)) 3) (cnt pic (pic j) j) = shA R (dr R x 2) j ∧ shV I (shA R (dr R x 2) j) = sv j ∧ J (shA R (dr R x 2) j) 6 = (pd j).toInt64) ∧
  (n = 0 → R (dr R x 2) 1 = some e0) ∧ (∀ k, k < 2 → cnt pic k n = 0 → R (dr R (dr R x k) 3) 1 = some e0)
section RX
variable {L L' : List Nat} {K N K' N' : Nat → Nat} {I I' : Nat → Nat → Int32} {J J' : Nat → Nat → Int64} {R R' : Nat → Nat → Option Nat}
variable {e0 x now n : Nat} {pic : Nat → Nat} {tm : Nat → TM} {rc : Nat → Nat → Nat → Int32} {fe co : Nat → Nat → Int32} {cr : Int32} {sv : Nat → Shr} {pd : Nat → Int32}
theorem CRel.ext {P : Nat → Prop} (h : CRel e0 L K N I J R x now n pic tm rc fe co cr sv pd) (E : Ext L K N I J R L' K' N' I' J' R' P) (hn : ∀ a, a ∈ L → (K a < 965 ∨ 1600 ≤ K a) → K a ≠ 52 → K a ≠ 70 → ¬ P a) : CRel e0 L' K' N' I' J' R' x now n pic tm rc fe co cr sv pd := by
  obtain ⟨h1, h2, h3, h4, h5, h6⟩ := h
  obtain ⟨hC, he⟩ := h1.ext E (fun a ha q1 q2 q3 => hn a ha (Or.inl q1) q2 q3)
  have nx : ¬ P x := hn x h1.1.1 (by rw [h1.1.2.1]; decide) (by rw [h1.1.2.1]; decide) (by rw [h1.1.2.1]; decide)
  have hAL := h1.2.2.2.1
  have nAL : ¬ P (dr R x 2) := hn _ hAL.1.1 (by rw [hAL.1.2.1]; decide) (by rw [hAL.1.2.1]; decide) (by rw [hAL.1.2.1]; decide)
  have es : ∀ j, j < n → shA R' (dr R' x 2) j = shA R (dr R x 2) j := fun j hj => by
    rw [he 2 (by decide)]
    exact hAL.sh E (fun a ha q => hn a ha (by omega) (by omega) (by omega)) hj
  refine ⟨hC, by rw [E.i h1.1.1 nx]; exact h2, fun k hk => ?_, fun j hj => ?_, fun h0 => ?_, fun k hk h0 => ?_⟩
  · obtain ⟨g1, g2, g3, g4⟩ := h3 k hk
    obtain ⟨-, hP, -⟩ := h1.2.1 k hk
    obtain ⟨p0, p1, p2, p3, p4, p5, p6, p7, -⟩ := hP
    have q0 : ¬ P (dr R x k) := hn _ p0.1 (by rw [p0.2.1]; omega) (by rw [p0.2.1]; omega) (by rw [p0.2.1]; omega)
    have q1 : ¬ P (dr R (dr R x k) 0) := hn _ p2.1 (by rw [p2.2.1]; omega) (by rw [p2.2.1]; omega) (by rw [p2.2.1]; omega)
    have q2 : ¬ P (dr R (dr R x k) 1) := hn _ p5.1 (by rw [p5.2.1]; omega) (by rw [p5.2.1]; omega) (by rw [p5.2.1]; omega)
    have q3 : ¬ P (dr R (dr R x k) 2) := hn _ p7.1 (by rw [p7.2.1]; omega) (by rw [p7.2.1]; omega) (by rw [p7.2.1]; omega)
    rw [he k (by omega), E.i p0.1 q0, E.ref p0.1 q0, E.ref p0.1 q0, E.i p5.1 q2, E.i p7.1 q3]
    refine ⟨g1, fun y w hy hw => ?_, g3, g4⟩
    have p9 := (p3 y hy).2
    have e9 : rwA R' (dr R x k) y = rwA R (dr R x k) y := by
      show dr R' (dr R' (dr R x k) 0) y = dr R (dr R (dr R x k) 0) y
      rw [E.ref p0.1 q0, E.ref p2.1 q1]
    rw [e9, E.i p9.1 (hn _ p9.1 (by rw [p9.2.1]; omega) (by rw [p9.2.1]; omega) (by rw [p9.2.1]; omega))]
    exact g2 y w hy hw
  · obtain ⟨g1, g2, g3, g4, g5, g6, g7⟩ := h4 j hj
    have nq : ¬ P (shA R (dr R x 2) j) := hn _ g2.1 (by rw [g2.2.1]; omega) (by rw [g2.2.1]; omega) (by rw [g2.2.1]; omega)
    obtain ⟨-, hP, hS⟩ := h1.2.1 (pic j) g1
    have q0 : ¬ P (dr R x (pic j)) := hn _ hP.1.1 (by rw [hP.1.2.1]; omega) (by rw [hP.1.2.1]; omega) (by rw [hP.1.2.1]; omega)
    have hc : cnt pic (pic j) j < cnt pic (pic j) n := by
      have h9 := cnt_mono pic (pic j) (i := j + 1) n hj
      rw [cnt_T rfl] at h9
      omega
    rw [es j hj, he (pic j) (by omega)]
    refine ⟨g1, E.cell g2, by rw [E.r g2.1 nq]; exact g3, by rw [E.i g2.1 nq]; exact g4, ?_, by unfold shV; rw [E.i g2.1 nq]; exact g6, by rw [E.j g2.1 nq]; exact g7⟩
    rw [E.ref hP.1.1 q0, hS.sh E (fun a ha q => hn a ha (by omega) (by omega) (by omega)) hc]
    exact g5
  · rw [he 2 (by decide), E.r hAL.1.1 nAL]
    exact h5 h0
  · obtain ⟨-, hP, hS⟩ := h1.2.1 k hk
    have q0 : ¬ P (dr R x k) := hn _ hP.1.1 (by rw [hP.1.2.1]; omega) (by rw [hP.1.2.1]; omega) (by rw [hP.1.2.1]; omega)
    rw [he k (by omega), E.ref hP.1.1 q0, E.r hS.1.1 (hn _ hS.1.1 (by rw [hS.1.2.1]; omega) (by rw [hS.1.2.1]; omega) (by rw [hS.1.2.1]; omega))]
    exact h6 k hk h0
end RX
section RS
variable {l : Launch} {D : va_G} {z e0 : Nat}
variable {L : List Nat} {K N : Nat → Nat} {I : Nat → Nat → Int32} {J : Nat → Nat → Int64} {R : Nat → Nat → Option Nat}
theorem MG.mono {y : MethodName} {ws : List Cond} {rm : Room} {av : List Value} {post post' : Option Value → (Nat → Nat → Int32) → (Nat → Nat → Int64) → Prop} (h : MG l y ws rm D z e0 L K N I J R av post) (hp : ∀ v I' J', post v I' J' → post' v I' J') : MG l y ws rm D z e0 L K N I J R av post' := by
  intro p e ha hc hk s m args below hf happ hP hK
  obtain ⟨n, o, h1, h2, h3, h4⟩ := h p e ha hc hk s m args below hf happ hP hK
  refine ⟨n, o, h1, h2, h3, ?_, h4.2⟩
  obtain ⟨⟨v, I1, J1, e1, e2, e3⟩, e4⟩ := h4.1
  exact ⟨⟨v, I1, J1, e1, hp v I1 J1 e2, e3⟩, e4⟩
theorem MF.mono {y : MethodName} {ws : List Cond} {rm : Room} {av : List Value} {post post' : Option Value → List Nat → (Nat → Nat) → (Nat → Nat) → (Nat → Nat → Int32) → (Nat → Nat → Int64) → (Nat → Nat → Option Nat) → Prop} (h : MF l y ws rm D z e0 L K N I J R av post) (hp : ∀ v L' K' N' I' J' R', post v L' K' N' I' J' R' → post' v L' K' N' I' J' R') : MF l y ws rm D z e0 L K N I J R av post' := by
  intro p e ha hc hk s m args below hf happ hP hK
  obtain ⟨n, o, h1, h2, h3, h4⟩ := h p e ha hc hk s m args below hf happ hP hK
  refine ⟨n, o, h1, h2, h3, ?_, h4.2⟩
  obtain ⟨⟨v, L1, K1, N1, I1, J1, R1, e1, e2, e3⟩, e4⟩ := h4.1
  exact ⟨⟨v, L1, K1, N1, I1, J1, R1, e1, hp v L1 K1 N1 I1 J1 R1 e2, e3⟩, e4⟩
end RS
section RT
variable {L : List Nat} {K N : Nat → Nat} {I : Nat → Nat → Int32} {J : Nat → Nat → Int64} {R : Nat → Nat → Option Nat}
variable {e0 x now n : Nat} {pic : Nat → Nat} {tm : Nat → TM} {rc : Nat → Nat → Nat → Int32} {fe co : Nat → Nat → Int32} {cr : Int32} {sv : Nat → Shr} {pd : Nat → Int32}
theorem CRel.j {J' : Nat → Nat → Int64} (h : CRel e0 L K N I J R x now n pic tm rc fe co cr sv pd) (hJ : ∀ a, a ∈ L → 1600 ≤ K a → J' a = J a) : CRel e0 L K N I J' R x now n pic tm rc fe co cr sv pd := by
  obtain ⟨h1, h2, h3, h4, h5, h6⟩ := h
  refine ⟨h1, h2, h3, fun j hj => ?_, h5, h6⟩
  obtain ⟨g1, g2, g3, g4, g5, g6, g7⟩ := h4 j hj
  exact ⟨g1, g2, g3, g4, g5, g6, by rw [hJ _ g2.1 (by rw [g2.2.1]; omega)]; exact g7⟩
theorem bm_keep {Z : Nat → Nat → BK} {S : Nat → BK} {mm : Nat → Nat} {J' : Nat → Nat → Int64} (C : CRel e0 L K N I J R x now n pic tm rc fe co cr sv pd) (h : BM R x J J' Z S mm) : ∀ a, a ∈ L → 1600 ≤ K a → J' a = J a := fun a ha hk => h.2 a (fun k hk2 => by
  obtain ⟨a0, -, -, -, -, -, -, -, -, -, a7, -, a8⟩ := (C.1.2.1 k hk2).2.1
  exact ⟨fun e => by rw [e, a0.2.1] at hk; omega, fun e => by rw [e, a7.2.1] at hk; omega, fun e => by rw [e, a8.2.1] at hk; omega⟩)
theorem Lst.I' {I' : Nat → Nat → Int32} {sl t te k : Nat} (h : Lst L K N I R sl t te k) (e : I' sl 2 = I sl 2) : Lst L K N I' R sl t te k := ⟨h.1, h.2.1, e.trans h.2.2.1, h.2.2.2⟩
theorem CRel.I' {I' : Nat → Nat → Int32} {J' : Nat → Nat → Int64} {now' : Nat} {tm' : Nat → TM} {rc' : Nat → Nat → Nat → Int32} {fe' co' : Nat → Nat → Int32} {cr' : Int32} {pd' : Nat → Int32} (h : CRel e0 L K N I J R x now n pic tm rc fe co cr sv pd) (hx : I' x 4 = nI now' ∧ now' < 10 ∧ I' x 3 = cr' ∧ (cr' = 0 ∨ cr' = 1)) (hAL : I' (dr R x 2) 2 = I (dr R x 2) 2) (hSL : ∀ k, k < 2 → I' (dr R (dr R x k) 3) 2 = I (dr R (dr R x k) 3) 2)
    (hk : ∀ k, k < 2 → (I' (dr R x k) 4, I' (dr R x k) 5, I' (dr R x k) 6) = tm' k ∧ (∀ y w, y < 10 → w < 4 → I' (rwA R (dr R x k) y) w = rc' k y w) ∧ (∀ w, w < 4 → I' (dr R (dr R x k) 2) w = fe' k w) ∧ (∀ y, y < 10 → I' (dr R (dr R x k) 1) y = co' k y)) (hj : ∀ j, j < n → I' (shA R (dr R x 2) j) = I (shA R (dr R x 2) j) ∧ J' (shA R (dr R x 2) j) 6 = (pd' j).toInt64) : CRel e0 L K N I' J' R x now' n pic tm' rc' fe' co' cr' sv pd' := by
  obtain ⟨h1, h2, h3, h4, h5, h6⟩ := h
  obtain ⟨c1, c2, c3, c4, c5, c6, c7⟩ := h1
  refine ⟨⟨c1, fun k hk2 => ⟨(c2 k hk2).1, (c2 k hk2).2.1, (c2 k hk2).2.2.I' (hSL k hk2)⟩, c3, c4.I' hAL, hx.1, hx.2.1, by rw [hx.2.2.1]; exact hx.2.2.2⟩, hx.2.2.1, hk, fun j hj2 => ?_, h5, h6⟩
  obtain ⟨g1, g2, g3, g4, g5, g6, g7⟩ := h4 j hj2
  exact ⟨g1, g2, g3, by rw [(hj j hj2).1]; exact g4, g5, by unfold shV; rw [(hj j hj2).1]; exact g6, (hj j hj2).2⟩
theorem CRel.cells (h : CRel e0 L K N I J R x now n pic tm rc fe co cr sv pd) : At L K N x 3 0 ∧ At L K N (dr R x 2) 16 0 ∧ (∀ k, k < 2 → At L K N (dr R x k) (320 * (k + 1) + 1) 0 ∧ At L K N (dr R (dr R x k) 3) (320 * (k + 1) + 224) 0 ∧ (∀ y, y < 10 → At L K N (rwA R (dr R x k) y) (320 * (k + 1) + 37 + 16 * y) 4) ∧ At L K N (dr R (dr R x k) 1) (320 * (k + 1) + 197) 10 ∧ At L K N (dr R (dr R x k) 2) (320 * (k + 1) + 213) 4) ∧ ∀ j, j < n → At L K N (shA R (dr R x 2) j) (1602 + 16 * j) 0 := by
  obtain ⟨h1, h2, h3, h4, h5, h6⟩ := h
  refine ⟨h1.1, h1.2.2.2.1.1, fun k hk => ?_, fun j hj => (h4 j hj).2.1⟩
  obtain ⟨-, hP, hS⟩ := h1.2.1 k hk
  exact ⟨hP.1, hS.1, fun y hy => (hP.2.2.2.1 y hy).2, hP.2.2.2.2.2.1, hP.2.2.2.2.2.2.2.1⟩
theorem CRel.rates (h : CRel e0 L K N I J R x now n pic tm rc fe co cr sv pd) {k : Nat} (hk : k < 2) (t ov i : Int32) : CRel e0 L K N (u2 (u2 (u2 I (dr R x k) 4 t) (dr R x k) 5 ov) (dr R x k) 6 i) J R x now n pic (fun a => if a = k then (t, ov, i) else tm a) rc fe co cr sv pd := by
  obtain ⟨cx, cal, ck, cj⟩ := h.cells
  have h0 := h
  obtain ⟨h1, h2, h3, h4, h5, h6⟩ := h0
  have ha := (ck k hk).1
  have hw : ∀ b, b ≠ _ → (u2 (u2 (u2 I (dr R x k) 4 t) (dr R x k) 5 ov) (dr R x k) 6 i) b = I b := fun b hb => funext fun j => by rw [u2_a hb, u2_a hb, u2_a hb]
  refine h.I' ⟨by rw [hw _ (cx.ne ha (by omega))]; exact h1.2.2.2.2.1, h1.2.2.2.2.2.1, by rw [hw _ (cx.ne ha (by omega))]; exact h2, by rw [← h2]; exact h1.2.2.2.2.2.2⟩ (by rw [hw _ (cal.ne ha (by omega))]) (fun k2 hk2 => by rw [hw _ ((ck k2 hk2).2.1.ne ha (by omega))]) (fun k2 hk2 => ?_) (fun j hj => ⟨hw _ ((cj j hj).ne ha (by omega)), (h4 j hj).2.2.2.2.2.2⟩)
  obtain ⟨g1, g2, g3, g4⟩ := h3 k2 hk2
  obtain ⟨a1, a2, a3, a4, a5⟩ := ck k2 hk2
  refine ⟨?_, fun y2 w2 hy2 hw2 => ?_, fun w2 hw2 => ?_, fun y2 hy2 => ?_⟩
  · by_cases e : k2 = k
    · subst e
      rw [if_pos rfl, u2_s, u2_k (show (5 : Nat) ≠ 6 by decide), u2_s, u2_k (show (4 : Nat) ≠ 6 by decide), u2_k (show (4 : Nat) ≠ 5 by decide), u2_s]
    · rw [if_neg e, hw _ (a1.ne ha (by omega))]
      exact g1
  · rw [hw _ ((a3 y2 hy2).ne ha (by omega))]; exact g2 y2 w2 hy2 hw2
  · rw [hw _ (a5.ne ha (by omega))]; exact g3 w2 hw2
  · rw [hw _ (a4.ne ha (by omega))]; exact g4 y2 hy2
theorem CRel.fee (h : CRel e0 L K N I J R x now n pic tm rc fe co cr sv pd) {k w : Nat} (hk : k < 2) (t : Int32) : CRel e0 L K N (u2 I (dr R (dr R x k) 2) w t) J R x now n pic tm rc (fun a b => if a = k ∧ b = w then t else fe a b) co cr sv pd := by
  obtain ⟨cx, cal, ck, cj⟩ := h.cells
  have h0 := h
  obtain ⟨h1, h2, h3, h4, h5, h6⟩ := h0
  have ha := (ck k hk).2.2.2.2
  have hw : ∀ b, b ≠ _ → (u2 I (dr R (dr R x k) 2) w t) b = I b := fun b hb => funext fun j => u2_a hb
  refine h.I' ⟨by rw [hw _ (cx.ne ha (by omega))]; exact h1.2.2.2.2.1, h1.2.2.2.2.2.1, by rw [hw _ (cx.ne ha (by omega))]; exact h2, by rw [← h2]; exact h1.2.2.2.2.2.2⟩ (by rw [hw _ (cal.ne ha (by omega))]) (fun k2 hk2 => by rw [hw _ ((ck k2 hk2).2.1.ne ha (by omega))]) (fun k2 hk2 => ?_) (fun j hj => ⟨hw _ ((cj j hj).ne ha (by omega)), (h4 j hj).2.2.2.2.2.2⟩)
  obtain ⟨g1, g2, g3, g4⟩ := h3 k2 hk2
  obtain ⟨a1, a2, a3, a4, a5⟩ := ck k2 hk2
  refine ⟨?_, fun y2 w2 hy2 hw2 => ?_, fun w2 hw2 => ?_, fun y2 hy2 => ?_⟩
  · rw [hw _ (a1.ne ha (by omega))]; exact g1
  · rw [hw _ ((a3 y2 hy2).ne ha (by omega))]; exact g2 y2 w2 hy2 hw2
  · by_cases e : k2 = k
    · subst e
      by_cases e2 : w2 = w
      · subst e2
        rw [if_pos ⟨rfl, rfl⟩, u2_s]
      · rw [if_neg (fun q => e2 q.2), u2_k e2]
        exact g3 w2 hw2
    · rw [if_neg (fun q => e q.1), hw _ (a5.ne ha (by omega))]
      exact g3 w2 hw2
  · rw [hw _ (a4.ne ha (by omega))]; exact g4 y2 hy2
theorem CRel.row (h : CRel e0 L K N I J R x now n pic tm rc fe co cr sv pd) {k y w : Nat} (hk : k < 2) (hy : y < 10) (t : Int32) : CRel e0 L K N (u2 I (rwA R (dr R x k) y) w t) J R x now n pic tm (fun a b c => if a = k ∧ b = y ∧ c = w then t else rc a b c) fe co cr sv pd := by
  obtain ⟨cx, cal, ck, cj⟩ := h.cells
  have h0 := h
  obtain ⟨h1, h2, h3, h4, h5, h6⟩ := h0
  have ha := (ck k hk).2.2.1 y hy
  have hw : ∀ b, b ≠ _ → (u2 I (rwA R (dr R x k) y) w t) b = I b := fun b hb => funext fun j => u2_a hb
  refine h.I' ⟨by rw [hw _ (cx.ne ha (by omega))]; exact h1.2.2.2.2.1, h1.2.2.2.2.2.1, by rw [hw _ (cx.ne ha (by omega))]; exact h2, by rw [← h2]; exact h1.2.2.2.2.2.2⟩ (by rw [hw _ (cal.ne ha (by omega))]) (fun k2 hk2 => by rw [hw _ ((ck k2 hk2).2.1.ne ha (by omega))]) (fun k2 hk2 => ?_) (fun j hj => ⟨hw _ ((cj j hj).ne ha (by omega)), (h4 j hj).2.2.2.2.2.2⟩)
  obtain ⟨g1, g2, g3, g4⟩ := h3 k2 hk2
  obtain ⟨a1, a2, a3, a4, a5⟩ := ck k2 hk2
  refine ⟨?_, fun y2 w2 hy2 hw2 => ?_, fun w2 hw2 => ?_, fun y2 hy2 => ?_⟩
  · rw [hw _ (a1.ne ha (by omega))]; exact g1
  · by_cases e : k2 = k ∧ y2 = y
    · obtain ⟨e1, e3⟩ := e
      subst e1
      subst e3
      by_cases e2 : w2 = w
      · subst e2
        rw [if_pos ⟨rfl, rfl, rfl⟩, u2_s]
      · rw [if_neg (fun q => e2 q.2.2), u2_k e2]
        exact g2 y2 w2 hy2 hw2
    · rw [if_neg (fun q => e ⟨q.1, q.2.1⟩), hw _ ((a3 y2 hy2).ne ha (by omega))]
      exact g2 y2 w2 hy2 hw2
  · rw [hw _ (a5.ne ha (by omega))]; exact g3 w2 hw2
  · rw [hw _ (a4.ne ha (by omega))]; exact g4 y2 hy2
theorem CRel.cost (h : CRel e0 L K N I J R x now n pic tm rc fe co cr sv pd) {k y : Nat} (hk : k < 2) (t : Int32) : CRel e0 L K N (u2 I (dr R (dr R x k) 1) y t) J R x now n pic tm rc fe (fun a b => if a = k ∧ b = y then t else co a b) cr sv pd := by
  obtain ⟨cx, cal, ck, cj⟩ := h.cells
  have h0 := h
  obtain ⟨h1, h2, h3, h4, h5, h6⟩ := h0
  have ha := (ck k hk).2.2.2.1
  have hw : ∀ b, b ≠ _ → (u2 I (dr R (dr R x k) 1) y t) b = I b := fun b hb => funext fun j => u2_a hb
  refine h.I' ⟨by rw [hw _ (cx.ne ha (by omega))]; exact h1.2.2.2.2.1, h1.2.2.2.2.2.1, by rw [hw _ (cx.ne ha (by omega))]; exact h2, by rw [← h2]; exact h1.2.2.2.2.2.2⟩ (by rw [hw _ (cal.ne ha (by omega))]) (fun k2 hk2 => by rw [hw _ ((ck k2 hk2).2.1.ne ha (by omega))]) (fun k2 hk2 => ?_) (fun j hj => ⟨hw _ ((cj j hj).ne ha (by omega)), (h4 j hj).2.2.2.2.2.2⟩)
  obtain ⟨g1, g2, g3, g4⟩ := h3 k2 hk2
  obtain ⟨a1, a2, a3, a4, a5⟩ := ck k2 hk2
  refine ⟨?_, fun y2 w2 hy2 hw2 => ?_, fun w2 hw2 => ?_, fun y2 hy2 => ?_⟩
  · rw [hw _ (a1.ne ha (by omega))]; exact g1
  · rw [hw _ ((a3 y2 hy2).ne ha (by omega))]; exact g2 y2 w2 hy2 hw2
  · rw [hw _ (a5.ne ha (by omega))]; exact g3 w2 hw2
  · by_cases e : k2 = k
    · subst e
      by_cases e2 : y2 = y
      · subst e2
        rw [if_pos ⟨rfl, rfl⟩, u2_s]
      · rw [if_neg (fun q => e2 q.2), u2_k e2]
        exact g4 y2 hy2
    · rw [if_neg (fun q => e q.1), hw _ (a4.ne ha (by omega))]
      exact g4 y2 hy2
theorem CRel.crossed (h : CRel e0 L K N I J R x now n pic tm rc fe co cr sv pd) {t : Int32} (ht : t = 0 ∨ t = 1) : CRel e0 L K N (u2 I x 3 t) J R x now n pic tm rc fe co t sv pd := by
  obtain ⟨cx, cal, ck, cj⟩ := h.cells
  have h0 := h
  obtain ⟨h1, h2, h3, h4, h5, h6⟩ := h0
  have ha := cx
  have hw : ∀ b, b ≠ _ → (u2 I x 3 t) b = I b := fun b hb => funext fun j => u2_a hb
  refine h.I' ⟨(u2_k (by decide)).trans h1.2.2.2.2.1, h1.2.2.2.2.2.1, u2_s, ht⟩ (by rw [hw _ (cal.ne ha (by omega))]) (fun k2 hk2 => by rw [hw _ ((ck k2 hk2).2.1.ne ha (by omega))]) (fun k2 hk2 => ?_) (fun j hj => ⟨hw _ ((cj j hj).ne ha (by omega)), (h4 j hj).2.2.2.2.2.2⟩)
  obtain ⟨g1, g2, g3, g4⟩ := h3 k2 hk2
  obtain ⟨a1, a2, a3, a4, a5⟩ := ck k2 hk2
  refine ⟨?_, fun y2 w2 hy2 hw2 => ?_, fun w2 hw2 => ?_, fun y2 hy2 => ?_⟩
  · rw [hw _ (a1.ne ha (by omega))]; exact g1
  · rw [hw _ ((a3 y2 hy2).ne ha (by omega))]; exact g2 y2 w2 hy2 hw2
  · rw [hw _ (a5.ne ha (by omega))]; exact g3 w2 hw2
  · rw [hw _ (a4.ne ha (by omega))]; exact g4 y2 hy2
theorem CRel.close (h : CRel e0 L K N I J R x now n pic tm rc fe co cr sv pd) (h9 : now < 9) : CRel e0 L K N (u2 I x 4 (nI (now + 1))) J R x (now + 1) n pic tm rc fe co cr sv pd := by
  obtain ⟨cx, cal, ck, cj⟩ := h.cells
  have h0 := h
  obtain ⟨h1, h2, h3, h4, h5, h6⟩ := h0
  have ha := cx
  have hw : ∀ b, b ≠ _ → (u2 I x 4 (nI (now + 1))) b = I b := fun b hb => funext fun j => u2_a hb
  refine h.I' ⟨u2_s, by omega, (u2_k (by decide)).trans h2, by rw [← h2]; exact h1.2.2.2.2.2.2⟩ (by rw [hw _ (cal.ne ha (by omega))]) (fun k2 hk2 => by rw [hw _ ((ck k2 hk2).2.1.ne ha (by omega))]) (fun k2 hk2 => ?_) (fun j hj => ⟨hw _ ((cj j hj).ne ha (by omega)), (h4 j hj).2.2.2.2.2.2⟩)
  obtain ⟨g1, g2, g3, g4⟩ := h3 k2 hk2
  obtain ⟨a1, a2, a3, a4, a5⟩ := ck k2 hk2
  refine ⟨?_, fun y2 w2 hy2 hw2 => ?_, fun w2 hw2 => ?_, fun y2 hy2 => ?_⟩
  · rw [hw _ (a1.ne ha (by omega))]; exact g1
  · rw [hw _ ((a3 y2 hy2).ne ha (by omega))]; exact g2 y2 w2 hy2 hw2
  · rw [hw _ (a5.ne ha (by omega))]; exact g3 w2 hw2
  · rw [hw _ (a4.ne ha (by omega))]; exact g4 y2 hy2
theorem CRel.paid {J' : Nat → Nat → Int64} {j : Nat} {v : Int32} (h : CRel e0 L K N I J R x now n pic tm rc fe co cr sv pd) (hj : j < n) (h1 : J' (shA R (dr R x 2) j) 6 = v.toInt64) (h2 : ∀ i, i < n → i ≠ j → J' (shA R (dr R x 2) i) 6 = J (shA R (dr R x 2) i) 6) : CRel e0 L K N I J' R x now n pic tm rc fe co cr sv (fun a => if a = j then v else pd a) := by
  obtain ⟨g1, g2, g3, g4, g5, g6⟩ := h
  refine ⟨g1, g2, g3, fun i hi => ?_, g5, g6⟩
  obtain ⟨k1, k2, k3, k4, k5, k6, k7⟩ := g4 i hi
  refine ⟨k1, k2, k3, k4, k5, k6, ?_⟩
  show J' (shA R (dr R x 2) i) 6 = (if i = j then v else pd i).toInt64
  by_cases e : i = j
  · subst e
    rw [if_pos rfl]
    exact h1
  · rw [if_neg e, h2 i hi e]
    exact k7
end RT
theorem cnt_new (pic : Nat → Nat) (n k k' : Nat) : ∀ i, i ≤ n → cnt (fun a => if a = n then k else pic a) k' i = cnt pic k' i
  | 0, _ => rfl
  | i + 1, h => by
    have ih := cnt_new pic n k k' i (by omega)
    show (if (if i = n then k else pic i) = k' then cnt (fun a => if a = n then k else pic a) k' i + 1 else cnt (fun a => if a = n then k else pic a) k' i) = (if pic i = k' then cnt pic k' i + 1 else cnt pic k' i)
    rw [ih, if_neg (show ¬ i = n by omega)]
theorem cnt_newT (pic : Nat → Nat) (n k : Nat) : cnt (fun a => if a = n then k else pic a) k (n + 1) = cnt pic k n + 1 := by
  rw [cnt_T (pic := fun a => if a = n then k else pic a) (p := k) (j := n) (if_pos rfl), cnt_new pic n k k n (Nat.le_refl n)]
theorem cnt_newF (pic : Nat → Nat) (n k : Nat) {k' : Nat} (h : k' ≠ k) : cnt (fun a => if a = n then k else pic a) k' (n + 1) = cnt pic k' n := by
  rw [cnt_F (pic := fun a => if a = n then k else pic a) (p := k') (j := n) (show ¬ (if n = n then k else pic n) = k' by rw [if_pos rfl]; exact Ne.symm h), cnt_new pic n k k' n (Nat.le_refl n)]
section WF
variable {L L' : List Nat} {K N K' N' : Nat → Nat} {I I' : Nat → Nat → Int32} {J J' : Nat → Nat → Int64} {R R' : Nat → Nat → Option Nat}
variable {e0 x now n : Nat} {pic : Nat → Nat} {tm : Nat → TM} {rc : Nat → Nat → Nat → Int32} {fe co : Nat → Nat → Int32} {cr : Int32} {sv : Nat → Shr} {pd : Nat → Int32}
theorem CRel.add (h : CRel e0 L K N I J R x now n pic tm rc fe co cr sv pd) {k q : Nat} {ka li fi se : Int32} (hk : k < 2) (hn : n < 8) (hq : At L' K' N' q (1602 + 16 * n) 0) (hr : R' q 0 = some (dr R x k)) (hi : ∀ j, 0 < j → j < 6 → I' q j = if j = 1 then nI (cnt pic k n) else if j = 2 then ka else if j = 3 then li else if j = 4 then fi else se) (hj0 : J' q 6 = 0)
    (s1 : Lst L' K' N' I' R' (dr R (dr R x k) 3) (320 * (k + 1) + 224) (320 * (k + 1) + 279) (cnt pic k n + 1)) (s2 : ∀ i, i < cnt pic k n → shA R' (dr R (dr R x k) 3) i = shA R (dr R (dr R x k) 3) i) (s3 : shA R' (dr R (dr R x k) 3) (cnt pic k n) = q)
    (m1 : Lst L' K' N' I' R' (dr R x 2) 16 39 (n + 1)) (m2 : ∀ i, i < n → shA R' (dr R x 2) i = shA R (dr R x 2) i) (m3 : shA R' (dr R x 2) n = q) (E : Ext L K N I J R L' K' N' I' J' R' (fun b => K b = 16 ∨ K b = 39 ∨ K b = 320 * (k + 1) + 224 ∨ K b = 320 * (k + 1) + 279)) :
    CRel e0 L' K' N' I' J' R' x now (n + 1) (fun a => if a = n then k else pic a) tm rc fe co cr (fun a => if a = n then (ka, li, fi, se) else sv a) (fun a => if a = n then 0 else pd a) := by
  obtain ⟨cx, cal, ck, cj⟩ := h.cells
  obtain ⟨h1, h2, h3, h4, h5, h6⟩ := h
  have nx : ¬ (K x = 16 ∨ K x = 39 ∨ K x = 320 * (k + 1) + 224 ∨ K x = 320 * (k + 1) + 279) := by rw [cx.2.1]; omega
  have ex : R' x = R x := E.r cx.1 nx
  have ed : ∀ j, dr R' x j = dr R x j := fun j => E.ref cx.1 nx
  have eix : I' x = I x := E.i cx.1 nx
  have np : ∀ k2, k2 < 2 → ¬ (K (dr R x k2) = 16 ∨ K (dr R x k2) = 39 ∨ K (dr R x k2) = 320 * (k + 1) + 224 ∨ K (dr R x k2) = 320 * (k + 1) + 279) := fun k2 hk2 => by rw [(ck k2 hk2).1.2.1]; omega
  have ep : ∀ k2 j, k2 < 2 → dr R' (dr R x k2) j = dr R (dr R x k2) j := fun k2 j hk2 => E.ref (ck k2 hk2).1.1 (np k2 hk2)
  have key : ∀ k2, k2 < 2 → Lst L' K' N' I' R' (dr R (dr R x k2) 3) (320 * (k2 + 1) + 224) (320 * (k2 + 1) + 279) (cnt (fun a => if a = n then k else pic a) k2 (n + 1)) := fun k2 hk2 => by
    by_cases e : k2 = k
    · subst e
      rw [cnt_newT]
      exact s1
    · rw [cnt_newF pic n k e]
      exact (h1.2.1 k2 hk2).2.2.ext E (fun a ha q => by omega)
  refine ⟨⟨E.cell cx, fun k2 hk2 => ?_, by rw [ex, ed]; exact h1.2.2.1, by rw [ed]; exact m1, by rw [eix]; exact h1.2.2.2.2.1, h1.2.2.2.2.2.1, by rw [eix]; exact h1.2.2.2.2.2.2⟩, by rw [eix]; exact h2, fun k2 hk2 => ?_, fun j hj => ?_, fun h0 => absurd h0 (Nat.succ_ne_zero n), fun k2 hk2 h0 => ?_⟩
  · obtain ⟨g1, g2, g3⟩ := h1.2.1 k2 hk2
    rw [ex, ed]
    refine ⟨g1, g2.ext E (fun a ha q => by omega), ?_⟩
    rw [ep k2 3 hk2]
    exact key k2 hk2
  · obtain ⟨g1, g2, g3, g4⟩ := h3 k2 hk2
    obtain ⟨a1, a2, a3, a4, a5⟩ := ck k2 hk2
    rw [ed, ep k2 2 hk2, ep k2 1 hk2, E.i a1.1 (np k2 hk2), E.i a5.1 (by rw [a5.2.1]; omega), E.i a4.1 (by rw [a4.2.1]; omega)]
    refine ⟨g1, fun y w hy hw => ?_, g3, g4⟩
    obtain ⟨p0, p1, p2, p3, -⟩ := (h1.2.1 k2 hk2).2.1
    have er : rwA R' (dr R x k2) y = rwA R (dr R x k2) y := by
      show dr R' (dr R' (dr R x k2) 0) y = dr R (dr R (dr R x k2) 0) y
      rw [ep k2 0 hk2, E.ref p2.1 (by rw [p2.2.1]; omega)]
    rw [er, E.i (a3 y hy).1 (by rw [(a3 y hy).2.1]; omega)]
    exact g2 y w hy hw
  · by_cases e : j = n
    · subst e
      show (if j = j then k else pic j) < 2 ∧ At L' K' N' (shA R' (dr R' x 2) j) (1602 + 16 * j) 0 ∧ R' (shA R' (dr R' x 2) j) 0 = some (dr R' x (if j = j then k else pic j)) ∧ I' (shA R' (dr R' x 2) j) 1 = nI (cnt (fun a => if a = j then k else pic a) (if j = j then k else pic j) j) ∧ shA R' (dr R' (dr R' x (if j = j then k else pic j)) 3) (cnt (fun a => if a = j then k else pic a) (if j = j then k else pic j) j) = shA R' (dr R' x 2) j ∧ shV I' (shA R' (dr R' x 2) j) = (if j = j then (ka, li, fi, se) else sv j) ∧ J' (shA R' (dr R' x 2) j) 6 = (if j = j then (0 : Int32) else pd j).toInt64
      rw [if_pos rfl, if_pos rfl, if_pos rfl, cnt_new pic j k k j (Nat.le_refl j), ed, ed, m3, ep k 3 hk]
      refine ⟨hk, hq, hr, hi 1 (by decide) (by decide), s3, ?_, hj0⟩
      unfold shV
      rw [hi 2 (by decide) (by decide), hi 3 (by decide) (by decide), hi 4 (by decide) (by decide), hi 5 (by decide) (by decide)]
      rfl
    · have hj2 : j < n := by omega
      obtain ⟨g1, g2, g3, g4, g5, g6, g7⟩ := h4 j hj2
      have nq : ¬ (K (shA R (dr R x 2) j) = 16 ∨ K (shA R (dr R x 2) j) = 39 ∨ K (shA R (dr R x 2) j) = 320 * (k + 1) + 224 ∨ K (shA R (dr R x 2) j) = 320 * (k + 1) + 279) := by rw [g2.2.1]; omega
      show (if j = n then k else pic j) < 2 ∧ At L' K' N' (shA R' (dr R' x 2) j) (1602 + 16 * j) 0 ∧ R' (shA R' (dr R' x 2) j) 0 = some (dr R' x (if j = n then k else pic j)) ∧ I' (shA R' (dr R' x 2) j) 1 = nI (cnt (fun a => if a = n then k else pic a) (if j = n then k else pic j) j) ∧ shA R' (dr R' (dr R' x (if j = n then k else pic j)) 3) (cnt (fun a => if a = n then k else pic a) (if j = n then k else pic j) j) = shA R' (dr R' x 2) j ∧ shV I' (shA R' (dr R' x 2) j) = (if j = n then (ka, li, fi, se) else sv j) ∧ J' (shA R' (dr R' x 2) j) 6 = (if j = n then (0 : Int32) else pd j).toInt64
      rw [if_neg e, if_neg e, if_neg e, cnt_new pic n k (pic j) j (Nat.le_of_lt hj2), ed, ed, m2 j hj2, ep (pic j) 3 g1]
      have hc : cnt pic (pic j) j < cnt pic (pic j) n := by
        have h9 := cnt_mono pic (pic j) (i := j + 1) n hj2
        rw [cnt_T rfl] at h9
        omega
      refine ⟨g1, E.cell g2, by rw [E.r g2.1 nq]; exact g3, by rw [E.i g2.1 nq]; exact g4, ?_, by unfold shV; rw [E.i g2.1 nq]; exact g6, by rw [E.j g2.1 nq]; exact g7⟩
      by_cases ek : pic j = k
      · rw [ek] at hc g5 ⊢
        rw [s2 _ hc]
        exact g5
      · rw [(h1.2.1 (pic j) g1).2.2.sh E (fun a ha q => by omega) hc]
        exact g5
  · have e : k2 ≠ k := fun e => by
      subst e
      rw [cnt_newT] at h0
      exact absurd h0 (Nat.succ_ne_zero _)
    rw [cnt_newF pic n k e] at h0
    rw [ed, ep k2 3 hk2, E.r (ck k2 hk2).2.1.1 (by rw [(ck k2 hk2).2.1.2.1]; omega)]
    exact h6 k2 hk2 h0
theorem kinds_of {ka : Int32} (h : 0 ≤ ka ∧ ka ≤ 3) : ka = 0 ∨ ka = 1 ∨ ka = 2 ∨ ka = 3 := by
  obtain ⟨j, hj, rfl⟩ := nI_of (Int32.not_lt.mpr h.1)
  have h3 := (nI_leI (b := 3) hj (by decide)).mp h.2
  rcases (show j = 0 ∨ j = 1 ∨ j = 2 ∨ j = 3 by omega) with rfl | rfl | rfl | rfl
  · exact Or.inl rfl
  · exact Or.inr (Or.inl rfl)
  · exact Or.inr (Or.inr (Or.inl rfl))
  · exact Or.inr (Or.inr (Or.inr rfl))
theorem most_rat {ka t : Int32} (h : 0 ≤ t ∧ t ≤ mostR ka) : Rat t := by
  have h2 := rng32 h
  have e0 : (0 : Int32).toInt = 0 := rfl
  have e : (mostR ka).toInt ≤ 10000 := by
    unfold mostR
    split <;> decide
  unfold Rat
  omega
end WF
