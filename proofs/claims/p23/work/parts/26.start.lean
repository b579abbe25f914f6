/-! The law's start: what every method finds. -/
theorem law_ev {s : State} {b : Nat} (hts : ∀ w ∈ lw_tbl, w.before #[Value.ref b] s = true) (hgv : (Jvm.Cond.and given_1 narrow_1).before #[Value.ref b] s = true) : ∃ (D : va_G) (e0 : Nat), EV D s.heap.size e0 s := by
  have hf := flat_of_before _ hgv
  have hA : ∀ a : Nat, a < s.heap.size → ¬ (fun q => s.heap.size ≤ q) a := fun a ha h => absurd h (Nat.not_le.mpr ha)
  obtain ⟨c0, i0, k0⟩ := u_known (C := RJx4a65c) (T := TJx4a65c) (N := 3) (n := 3) hts (fun w hw => wsL_law_in w (inlJx4a65c w hw)) (hts (.instantiable RJx4a65c 3) (by decide +kernel))
  obtain ⟨c1, i1, k1⟩ := u_known (C := RX0) (T := TX0) (N := 15) (n := 15) hts (fun w hw => wsL_law_in w (inlX0 w hw)) (hts (.instantiable RX0 15) (by decide +kernel))
  obtain ⟨c2, i2, k2⟩ := u_known (C := RX1) (T := TX1) (N := 7) (n := 7) hts (fun w hw => wsL_law_in w (inlX1 w hw)) (hts (.instantiable RX1 7) (by decide +kernel))
  obtain ⟨c3, i3, k3⟩ := u_known (C := RX2) (T := TX2) (N := 5) (n := 5) hts (fun w hw => wsL_law_in w (inlX2 w hw)) (hts (.instantiable RX2 5) (by decide +kernel))
  obtain ⟨a5, q5, m5, f5, g5, e5⟩ := Cond.arrayClass_spec (type := .int) (hts (.arrayClass .int) (by decide +kernel))
  obtain ⟨a6, q6, m6, f6, g6, e6⟩ := Cond.arrayClass_spec (type := .long) (hts (.arrayClass .long) (by decide +kernel))
  have hov := hts (.arrayOver (.object "java/lang/Object")) (by decide +kernel)
  have hovA := hts (.arrayOver (.array .int)) (by decide +kernel)
  obtain ⟨m7, a7, q7, f7, -, g7, e7, n7⟩ := Cond.arrayOver_spec hov
  obtain ⟨m8, a8, q8, f8, -, g8, e8, n8⟩ := Jvm.Stand.arrayOver_specB hovA
  have hlen : (Term.length (.static "java/util/ArrayList" "DEFAULTCAPACITY_EMPTY_ELEMENTDATA" "[Ljava/lang/Object;")).eval #[Value.ref b] s none [] s = some (.int (Int32.ofNat 0)) := by
    obtain ⟨w, h1, h2⟩ := Cond.eq_one (hf (.eq (.length (.static "java/util/ArrayList" "DEFAULTCAPACITY_EMPTY_ELEMENTDATA" "[Ljava/lang/Object;")) (.int 0)) (by decide +kernel))
    cases h2
    exact h1
  obtain ⟨e0, he0, hT⟩ := va_Tof (tm := .static "java/util/ArrayList" "DEFAULTCAPACITY_EMPTY_ELEMENTDATA" "[Ljava/lang/Object;") (ty := .object "java/lang/Object") (N := 0) (f := fun _ => .null) (by decide) (hf (.arrayOf (.static "java/util/ArrayList" "DEFAULTCAPACITY_EMPTY_ELEMENTDATA" "[Ljava/lang/Object;") (.object "java/lang/Object")) (by decide +kernel)) hlen (fun j hj => absurd hj (Nat.not_lt_zero j)) hA
  refine ⟨(fun k => if k = 0 then c0 else if k = 1 then c1 else if k = 2 then c2 else if k = 3 then c3 else if k = 5 then a5 else if k = 6 then a6 else if k = 7 then a7 else a8, fun k => if k = 0 then i0 else if k = 1 then i1 else if k = 2 then i2 else i3), e0, ⟨fun c q hq => ?_, fun k q hq => ?_⟩, ?_⟩
  · match c, hq with
    | 0, hq => cases hq; exact k0
    | 1, hq => cases hq; exact k1
    | 2, hq => cases hq; exact k2
    | 3, hq => cases hq; exact k3
    | n + 4, hq => cases hq
  · match k, hq with
    | 0, hq => cases hq; exact ⟨fun N9 z9 => ⟨(fun q hq => by cases hq), q5, g5, m5, e5⟩, f5⟩
    | 1, hq => cases hq; exact ⟨fun N9 z9 => ⟨(fun q hq => by cases hq), q6, g6, m6, e6⟩, f6⟩
    | 2, hq => cases hq; exact ⟨fun N9 z9 => ⟨(fun q hq => by cases hq), q7, g7, m7, e7⟩, q7, m7, g7, e7, f7, n7⟩
    | 3, hq => cases hq; exact ⟨fun N9 z9 => ⟨(fun q hq => by cases hq), q8, g8, m8, e8⟩, n8⟩
    | n + 4, hq => cases hq
  · exact ⟨trivial, trivial, trivial, va_Nw.of rfl (hts (.methodLinkNest RX2 9 yX0_init RX2) (by decide +kernel)), va_Nw.of rfl (hts (.methodLinkNest RX0 89 yX2_part RX2) (by decide +kernel)), trivial, trivial, trivial, trivial, trivial, trivial,
      va_Nw.of rfl (hts (.castable RX1 "java/lang/Object") (by decide +kernel)), va_AO.of hov,
      va_Zof (hts (.laysStatic "java/util/ArrayList" "DEFAULTCAPACITY_EMPTY_ELEMENTDATA" "[Ljava/lang/Object;") (by decide +kernel)) (hts (.initialized "java/util/ArrayList") (by decide +kernel)) he0 hA, hT, hovA, trivial⟩
