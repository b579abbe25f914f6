/-! One state of both, told by plain numbers: the year, how many sharers, whose picture each is; terms, receipts, fee rates, costs; crossed; the sharers and what they were paid. -/
section RP
variable {L L' : List Nat} {K N K' N' : Nat → Nat} {I I' : Nat → Nat → Int32} {J J' : Nat → Nat → Int64} {R R' : Nat → Nat → Option Nat}
theorem Cls.ext {P : Nat → Prop} {x now n : Nat} {nn : Nat → Nat} (h : Cls L K N I R x now n nn) (E : Ext L K N I J R L' K' N' I' J' R' P) (hn : ∀ a, a ∈ L → K a < 965 → K a ≠ 52 → K a ≠ 70 → ¬ P a) : Cls L' K' N' I' R' x now n nn ∧ ∀ k, k < 3 → dr R' x k = dr R x k := by
  obtain ⟨h1, h2, h3, h4, h5, h6, h7⟩ := h
  have nx : ¬ P x := hn x h1.1 (by rw [h1.2.1]; decide) (by rw [h1.2.1]; decide) (by rw [h1.2.1]; decide)
  have e : ∀ k, dr R' x k = dr R x k := fun k => E.ref h1.1 nx
  have ex : R' x = R x := E.r h1.1 nx
  have ei : I' x = I x := E.i h1.1 nx
  refine ⟨⟨E.cell h1, fun k hk => ?_, by rw [ex, e]; exact h3, by rw [e]; exact h4.ext E (fun a ha q => hn a ha (by omega) (by omega) (by omega)), by rw [ei]; exact h5, h6, by rw [ei]; exact h7⟩, fun k _ => e k⟩
  obtain ⟨g1, g2, g3⟩ := h2 k hk
  have np : ¬ P (dr R x k) := hn _ g2.1.1 (by rw [g2.1.2.1]; omega) (by rw [g2.1.2.1]; omega) (by rw [g2.1.2.1]; omega)
  rw [ex, e]
  refine ⟨g1, g2.ext E (fun a ha q => hn a ha (by omega) (by omega) (by omega)), ?_⟩
  rw [E.ref g2.1.1 np]
  exact g3.ext E (fun a ha q => hn a ha (by omega) (by omega) (by omega))
theorem Mdl.ext {P : Nat → Prop} {m : Nat} (h : Mdl L K N R m) (E : Ext L K N I J R L' K' N' I' J' R' P) (hn : ¬ P m) : Mdl L' K' N' R' m ∧ ∀ k, dr R' m k = dr R m k := by
  have e : ∀ k, dr R' m k = dr R m k := fun k => E.ref h.1.1 hn
  refine ⟨⟨E.cell h.1, fun q hq => ?_⟩, e⟩
  rw [E.r h.1.1 hn, e]
  exact ⟨(h.2 q hq).1, E.cell (h.2 q hq).2⟩
end RP
theorem mtab_rng : ∀ q : Nat × Nat × Nat, q ∈ mtab → 965 ≤ q.2.1 ∧ q.2.1 < 1300 := by decide
abbrev TM : Type := Int32 × Int32 × Int32
def CRel (e0 : Nat) (L : List Nat) (K N : Nat → Nat) (I : Nat → Nat → Int32) (J : Nat → Nat → Int64) (R : Nat → Nat → Option Nat) (x now n : Nat) (pic : Nat → Nat) (tm : Nat → TM) (rc : Nat → Nat → Nat → Int32) (fe co : Nat → Nat → Int32) (cr : Int32) (sv : Nat → Shr) (pd : Nat → Int32) : Prop :=
  Cls L K N I R x now n (fun k => cnt pic k n) ∧ I x 3 = cr ∧
  (∀ k, k < 2 → (I (dr R x k) 4, I (dr R x k) 5, I (dr R x k) 6) = tm k ∧ (∀ y w, y < 10 → w < 4 → I (rwA R (dr R x k) y) w = rc k y w) ∧ (∀ w, w < 4 → I (dr R (dr R x k) 2) w = fe k w) ∧ (∀ y, y < 10 → I (dr R (dr R x k) 1) y = co k y)) ∧
  (∀ j, j < n → pic j < 2 ∧ At L K N (shA R (dr R x 2) j) (1602 + 16 * j) 0 ∧ R (shA R (dr R x 2) j) 0 = some (dr R x (pic j)) ∧ I (shA R (dr R x 2) j) 1 = nI (cnt pic (pic j) j) ∧ shA R (dr R (dr R x (pic j)) 3) (cnt pic (pic j) j) = shA R (dr R x 2) j ∧ shV I (shA R (dr R x 2) j) = sv j ∧ J (shA R (dr R x 2) j) 6 = (pd j).toInt64) ∧
  (n = 0 → R (dr R x 2) 1 = some e0) ∧ (∀ k, k < 2 → cnt pic k n = 0 → R (dr R (dr R x k) 3) 1 = some e0)
def MRel (L : List Nat) (K N : Nat → Nat) (I : Nat → Nat → Int32) (R : Nat → Nat → Option Nat) (m now n : Nat) (pic : Nat → Nat) (tm : Nat → TM) (rc : Nat → Nat → Nat → Int32) (fe co : Nat → Nat → Int32) (cr : Int32) (sv : Nat → Shr) (pd : Nat → Int32) : Prop :=
  Mdl L K N R m ∧ I m 7 = nI now ∧ I m 14 = nI n ∧ I m 6 = cr ∧
  (∀ k, k < 2 → (I (dr R m 3) k, I (dr R m 4) k, I (dr R m 5) k) = tm k ∧ (∀ y w, y < 10 → w < 4 → I (dr R m 0) (40 * k + 4 * y + w) = rc k y w) ∧ (∀ w, w < 4 → I (dr R m 2) (4 * k + w) = fe k w) ∧ (∀ y, y < 10 → I (dr R m 1) (10 * k + y) = co k y)) ∧
  (∀ j, j < n → I (dr R m 8) j = nI (pic j) ∧ mshr I R m j = sv j ∧ I (dr R m 13) j = pd j) ∧ ∀ j, n ≤ j → I (dr R m 13) j = 0
section RX
variable {L L' : List Nat} {K N K' N' : Nat → Nat} {I I' : Nat → Nat → Int32} {J J' : Nat → Nat → Int64} {R R' : Nat → Nat → Option Nat}
variable {e0 x m now n : Nat} {pic : Nat → Nat} {tm : Nat → TM} {rc : Nat → Nat → Nat → Int32} {fe co : Nat → Nat → Int32} {cr : Int32} {sv : Nat → Shr} {pd : Nat → Int32}
/-- the class's side stays where only the reference, or the one long cell, is written -/
theorem CRel.ext {P : Nat → Prop} (h : CRel e0 L K N I J R x now n pic tm rc fe co cr sv pd) (E : Ext L K N I J R L' K' N' I' J' R' P) (hn : ∀ a, a ∈ L → (K a < 965 ∨ 1600 ≤ K a) → K a ≠ 52 → K a ≠ 70 → ¬ P a) : CRel e0 L' K' N' I' J' R' x now n pic tm rc fe co cr sv pd := by
  obtain ⟨h1, h2, h3, h4, h5, h6⟩ := h
  obtain ⟨hC, he⟩ := h1.ext E (fun a ha q1 q2 q3 => hn a ha (Or.inl q1) q2 q3)
  have nx : ¬ P x := hn x h1.1.1 (by rw [h1.1.2.1]; decide) (by rw [h1.1.2.1]; decide) (by rw [h1.1.2.1]; decide)
  have hAL := h1.2.2.2.1
  have nAL : ¬ P (dr R x 2) := hn _ hAL.1.1 (by rw [hAL.1.2.1]; decide) (by rw [hAL.1.2.1]; decide) (by rw [hAL.1.2.1]; decide)
  have es : ∀ j, j < n → shA R' (dr R' x 2) j = shA R (dr R x 2) j := fun j hj => by
    rw [he 2 (by decide)]
    exact hAL.sh E (fun a ha q => hn a ha (by omega) (by omega) (by omega)) hj
  refine ⟨hC, by rw [E.i h1.1.1 nx]; exact h2, fun k hk => ?_, fun j hj => ?_, fun h0 => ?_, fun k hk h0 => ?_⟩
  · obtain ⟨g1, g2, g3, g4⟩ := h3 k hk
    obtain ⟨-, hP, -⟩ := h1.2.1 k hk
    obtain ⟨p0, p1, p2, p3, p4, p5, p6, p7, -⟩ := hP
    have q0 : ¬ P (dr R x k) := hn _ p0.1 (by rw [p0.2.1]; omega) (by rw [p0.2.1]; omega) (by rw [p0.2.1]; omega)
    have q1 : ¬ P (dr R (dr R x k) 0) := hn _ p2.1 (by rw [p2.2.1]; omega) (by rw [p2.2.1]; omega) (by rw [p2.2.1]; omega)
    have q2 : ¬ P (dr R (dr R x k) 1) := hn _ p5.1 (by rw [p5.2.1]; omega) (by rw [p5.2.1]; omega) (by rw [p5.2.1]; omega)
    have q3 : ¬ P (dr R (dr R x k) 2) := hn _ p7.1 (by rw [p7.2.1]; omega) (by rw [p7.2.1]; omega) (by rw [p7.2.1]; omega)
    rw [he k (by omega), E.i p0.1 q0, E.ref p0.1 q0, E.ref p0.1 q0, E.i p5.1 q2, E.i p7.1 q3]
    refine ⟨g1, fun y w hy hw => ?_, g3, g4⟩
    have p9 := (p3 y hy).2
    have e9 : rwA R' (dr R x k) y = rwA R (dr R x k) y := by
      show dr R' (dr R' (dr R x k) 0) y = dr R (dr R (dr R x k) 0) y
      rw [E.ref p0.1 q0, E.ref p2.1 q1]
    rw [e9, E.i p9.1 (hn _ p9.1 (by rw [p9.2.1]; omega) (by rw [p9.2.1]; omega) (by rw [p9.2.1]; omega))]
    exact g2 y w hy hw
  · obtain ⟨g1, g2, g3, g4, g5, g6, g7⟩ := h4 j hj
    have nq : ¬ P (shA R (dr R x 2) j) := hn _ g2.1 (by rw [g2.2.1]; omega) (by rw [g2.2.1]; omega) (by rw [g2.2.1]; omega)
    obtain ⟨-, hP, hS⟩ := h1.2.1 (pic j) g1
    have q0 : ¬ P (dr R x (pic j)) := hn _ hP.1.1 (by rw [hP.1.2.1]; omega) (by rw [hP.1.2.1]; omega) (by rw [hP.1.2.1]; omega)
    have hc : cnt pic (pic j) j < cnt pic (pic j) n := by
      have h9 := cnt_mono pic (pic j) (i := j + 1) n hj
      rw [cnt_T rfl] at h9
      omega
    rw [es j hj, he (pic j) (by omega)]
    refine ⟨g1, E.cell g2, by rw [E.r g2.1 nq]; exact g3, by rw [E.i g2.1 nq]; exact g4, ?_, by unfold shV; rw [E.i g2.1 nq]; exact g6, by rw [E.j g2.1 nq]; exact g7⟩
    rw [E.ref hP.1.1 q0, hS.sh E (fun a ha q => hn a ha (by omega) (by omega) (by omega)) hc]
    exact g5
  · rw [he 2 (by decide), E.r hAL.1.1 nAL]
    exact h5 h0
  · obtain ⟨-, hP, hS⟩ := h1.2.1 k hk
    have q0 : ¬ P (dr R x k) := hn _ hP.1.1 (by rw [hP.1.2.1]; omega) (by rw [hP.1.2.1]; omega) (by rw [hP.1.2.1]; omega)
    rw [he k (by omega), E.ref hP.1.1 q0, E.r hS.1.1 (hn _ hS.1.1 (by rw [hS.1.2.1]; omega) (by rw [hS.1.2.1]; omega) (by rw [hS.1.2.1]; omega))]
    exact h6 k hk h0
/-- the reference's side stays where the reference isn't written -/
theorem MRel.ext {P : Nat → Prop} (h : MRel L K N I R m now n pic tm rc fe co cr sv pd) (E : Ext L K N I J R L' K' N' I' J' R' P) (hn : ∀ a, a ∈ L → (K a = 52 ∨ 965 ≤ K a ∧ K a < 1300) → ¬ P a) : MRel L' K' N' I' R' m now n pic tm rc fe co cr sv pd := by
  obtain ⟨h1, h2, h3, h4, h5, h6, h7⟩ := h
  have nm : ¬ P m := hn m h1.1.1 (Or.inl h1.1.2.1)
  obtain ⟨hM, he⟩ := h1.ext E nm
  have ei : I' m = I m := E.i h1.1.1 nm
  have er : ∀ q : Nat × Nat × Nat, q ∈ mtab → I' (dr R' m q.1) = I (dr R m q.1) := fun q hq => by
    have c := (h1.2 q hq).2
    rw [he, E.i c.1 (hn _ c.1 (Or.inr (by rw [c.2.1]; exact mtab_rng q hq)))]
  have r0 := er (0, 965, 80) (by decide)
  have r1 := er (1, 981, 20) (by decide)
  have r2 := er (2, 997, 8) (by decide)
  have r3 := er (3, 1013, 2) (by decide)
  have r4 := er (4, 1029, 2) (by decide)
  have r5 := er (5, 1045, 2) (by decide)
  have r8 := er (8, 1061, 8) (by decide)
  have r9 := er (9, 1077, 8) (by decide)
  have r10 := er (10, 1093, 8) (by decide)
  have r11 := er (11, 1109, 8) (by decide)
  have r12 := er (12, 1125, 8) (by decide)
  have r13 := er (13, 1141, 8) (by decide)
  refine ⟨hM, by rw [ei]; exact h2, by rw [ei]; exact h3, by rw [ei]; exact h4, fun k hk => ?_, fun j hj => ?_, fun j hj => ?_⟩
  · show (I' (dr R' m (3, 1013, 2).1) k, I' (dr R' m (4, 1029, 2).1) k, I' (dr R' m (5, 1045, 2).1) k) = tm k ∧ (∀ y w, y < 10 → w < 4 → I' (dr R' m (0, 965, 80).1) (40 * k + 4 * y + w) = rc k y w) ∧ (∀ w, w < 4 → I' (dr R' m (2, 997, 8).1) (4 * k + w) = fe k w) ∧ (∀ y, y < 10 → I' (dr R' m (1, 981, 20).1) (10 * k + y) = co k y)
    rw [r0, r1, r2, r3, r4, r5]
    exact h5 k hk
  · show I' (dr R' m (8, 1061, 8).1) j = nI (pic j) ∧ (I' (dr R' m (9, 1077, 8).1) j, I' (dr R' m (10, 1093, 8).1) j, I' (dr R' m (11, 1109, 8).1) j, I' (dr R' m (12, 1125, 8).1) j) = sv j ∧ I' (dr R' m (13, 1141, 8).1) j = pd j
    rw [r8, r9, r10, r11, r12, r13]
    exact h6 j hj
  · show I' (dr R' m (13, 1141, 8).1) j = 0
    rw [r13]
    exact h7 j hj
end RX
/-! What the years come to rests on what lies in the ranges alone. -/
def Agr (c d : PCon) : Prop := c.1 = d.1 ∧ c.2.1 = d.2.1 ∧ c.2.2.1 = d.2.2.1 ∧ (∀ y w, y < 10 → w < 4 → c.2.2.2.1 y w = d.2.2.2.1 y w) ∧ (∀ w, w < 4 → c.2.2.2.2.1 w = d.2.2.2.2.1 w) ∧ (∀ y, y < 10 → c.2.2.2.2.2.1 y = d.2.2.2.2.2.1 y) ∧ c.2.2.2.2.2.2.1 = d.2.2.2.2.2.2.1 ∧ c.2.2.2.2.2.2.2 = d.2.2.2.2.2.2.2
theorem yRec_cong {c d : PCon} (h : Agr c d) {y : Nat} (hy : y < 10) (B : BK) : yRec c y B = yRec d y B ∧ yGain c y B = yGain d y B := by
  obtain ⟨h1, h2, h3, h4, h5, h6, h7, h8⟩ := h
  have hg : grossY (c.2.2.2.1 y) = grossY (d.2.2.2.1 y) := by
    unfold grossY
    rw [h4 y 0 hy (by decide), h4 y 1 hy (by decide), h4 y 2 hy (by decide), h4 y 3 hy (by decide)]
  have hf : feesY (c.2.2.2.1 y) c.2.2.2.2.1 = feesY (d.2.2.2.1 y) d.2.2.2.2.1 := by
    unfold feesY
    rw [h4 y 0 hy (by decide), h4 y 1 hy (by decide), h4 y 2 hy (by decide), h4 y 3 hy (by decide), h5 0 (by decide), h5 1 (by decide), h5 2 (by decide), h5 3 (by decide)]
  unfold yRec yGain recB recG recX recS adY
  rw [hg, hf, h1, h2, h6 y hy, h7, h8]
  exact ⟨rfl, rfl⟩
theorem mvS_cong {g : Int64} {f t k : Nat} {S S' : Nat → BK} (hf : S f = S' f) (ht : S t = S' t) (hk : S k = S' k) : mvS g f t S k = mvS g f t S' k := by
  unfold mvS
  rw [hf, ht, hk]
theorem yRun_cong {cr : Int32} {c d : Nat → PCon} (h : ∀ k, k < 2 → Agr (c k) (d k)) : ∀ y, y ≤ 10 → ∀ k, k < 2 → yRun cr c y k = yRun cr d y k
  | 0, _, k, _ => rfl
  | y + 1, hy, k, hk => by
    have ih := yRun_cong (cr := cr) h y (Nat.le_of_succ_le hy)
    have hy2 : y < 10 := hy
    have er : ∀ k, k < 2 → yRec (c k) y (yRun cr c y k) = yRec (d k) y (yRun cr d y k) := fun k hk => by rw [(yRec_cong (h k hk) hy2 _).1, ih k hk]
    have eg : ∀ k, k < 2 → yGain (c k) y (yRun cr c y k) = yGain (d k) y (yRun cr d y k) := fun k hk => by rw [(yRec_cong (h k hk) hy2 _).2, ih k hk]
    show yStep cr c y (yRun cr c y) k = yStep cr d y (yRun cr d y) k
    unfold yStep
    rw [(h k hk).2.2.1, eg 0 (by decide), eg 1 (by decide), er k hk]
    by_cases hc : cr = 0
    · rw [if_pos hc, if_pos hc]
    · rw [if_neg hc, if_neg hc]
      have m1 : ∀ k, k < 2 → mvS (yGain (d 0) y (yRun cr d y 0)) 0 1 (fun k => yRec (c k) y (yRun cr c y k)) k = mvS (yGain (d 0) y (yRun cr d y 0)) 0 1 (fun k => yRec (d k) y (yRun cr d y k)) k := fun k hk => mvS_cong (er 0 (by decide)) (er 1 (by decide)) (er k hk)
      rw [mvS_cong (m1 1 (by decide)) (m1 0 (by decide)) (m1 k hk)]
