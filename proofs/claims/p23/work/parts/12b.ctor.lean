theorem dfvJx4a65c : ∀ j, j < 3 → defaultValue (tyJx4a65c j) = vp_V (fsl (fun _ => 0) (fun _ => 0) (fun _ => none) (lay 0) 0) j := by
  intro j hj
  rcases (show j = 0 ∨ j = 1 ∨ j = 2 by omega) with rfl | rfl | rfl <;> rfl
theorem dfvX0 : ∀ j, j < 15 → defaultValue (tyX0 j) = vp_V (fsl (fun _ => 0) (fun _ => 0) (fun _ => none) (lay 1) 0) j := by
  intro j hj
  rcases (show j = 0 ∨ j = 1 ∨ j = 2 ∨ j = 3 ∨ j = 4 ∨ j = 5 ∨ j = 6 ∨ j = 7 ∨ j = 8 ∨ j = 9 ∨ j = 10 ∨ j = 11 ∨ j = 12 ∨ j = 13 ∨ j = 14 by omega) with rfl | rfl | rfl | rfl | rfl | rfl | rfl | rfl | rfl | rfl | rfl | rfl | rfl | rfl | rfl <;> rfl
theorem dfvX1 : ∀ j, j < 7 → defaultValue (tyX1 j) = vp_V (fsl (fun _ => 0) (fun _ => 0) (fun _ => none) (lay 2) 0) j := by
  intro j hj
  rcases (show j = 0 ∨ j = 1 ∨ j = 2 ∨ j = 3 ∨ j = 4 ∨ j = 5 ∨ j = 6 by omega) with rfl | rfl | rfl | rfl | rfl | rfl | rfl <;> rfl
theorem dfvX2 : ∀ j, j < 5 → defaultValue (tyX2 j) = vp_V (fsl (fun _ => 0) (fun _ => 0) (fun _ => none) (lay 3) 0) j := by
  intro j hj
  rcases (show j = 0 ∨ j = 1 ∨ j = 2 ∨ j = 3 ∨ j = 4 by omega) with rfl | rfl | rfl | rfl | rfl <;> rfl
theorem dr_of {R : Nat → Nat → Option Nat} {a k v : Nat} (h : R a k = some v) : dr R a k = v := by unfold dr; rw [h]; rfl
theorem pic_of {L : List Nat} {K N : Nat → Nat} {R : Nat → Nat → Option Nat} {b p q0 q1 q2 q3 q7 q8 : Nat} {r : Nat → Nat} (h0 : At L K N p (320 * b + 1) 0) (h1 : R p 0 = some q0) (h2 : At L K N q0 (320 * b + 24) 10) (h3 : ∀ y, y < 10 → R q0 y = some (r y) ∧ At L K N (r y) (320 * b + 37 + 16 * y) 4) (h4 : R p 1 = some q1) (h5 : At L K N q1 (320 * b + 197) 10) (h6 : R p 2 = some q2) (h7 : At L K N q2 (320 * b + 213) 4) (h8 : R p 3 = some q3) (h9 : R p 7 = some q7) (h10 : At L K N q7 (320 * b + 246) 10) (h11 : R p 8 = some q8) (h12 : At L K N q8 (320 * b + 262) 10) : Pic L K N R b p := by
  refine ⟨h0, by rw [dr_of h1]; exact h1, by rw [dr_of h1]; exact h2, fun y hy => ?_, by rw [dr_of h4]; exact h4, by rw [dr_of h4]; exact h5, by rw [dr_of h6]; exact h6, by rw [dr_of h6]; exact h7, by rw [dr_of h8]; exact h8, by rw [dr_of h9]; exact h9, by rw [dr_of h9]; exact h10, by rw [dr_of h11]; exact h11, by rw [dr_of h11]; exact h12⟩
  have e : rwA R p y = r y := by
    show dr R (dr R p 0) y = r y
    rw [dr_of h1]
    exact dr_of (h3 y hy).1
  rw [e, dr_of h1]
  exact h3 y hy
theorem lst_0 {L : List Nat} {K N : Nat → Nat} {I : Nat → Nat → Int32} {R : Nat → Nat → Option Nat} {sl t te : Nat} (h0 : At L K N sl t 0) (h1 : t % 16 = 0) (h2 : te % 16 = 7) (h3 : I sl 2 = 0) : Lst L K N I R sl t te 0 := ⟨h0, h1, h3, Nat.zero_le _, h2, fun h => absurd h (Nat.lt_irrefl 0)⟩
abbrev rm_Jxa1e45_init_da8c8 : Room := { frames := 1, cells := 0, slots := 0, locals := 12 }
set_option maxHeartbeats 4000000 in
set_option maxRecDepth 100000 in
theorem c_acInit (l : Launch) (D : va_G) (z e0 : Nat) (L : List Nat) (K N : Nat → Nat) (I : Nat → Nat → Int32) (J : Nat → Nat → Int64) (R : Nat → Nat → Option Nat) (a : Nat) : MG l yJxa1e45_init_da8c8 wsJxa1e45_init_da8c8 rm_Jxa1e45_init_da8c8 D z e0 L K N I J R [.ref a] (fun v I' J' => v = none ∧ I' = I ∧ J' = J) := by
  refine mg_of (own := RJxa1e45) (maxL := 1) (ret := none) (by decide +kernel) rfl rfl (Nat.le_of_ble_eq_true rfl) ?_
  intro pg ev s mi args below meth c hc hr
  refine x_aload_n (j := 0) hc dJxa1e45_init_da8c8_0 rfl rfl ?_
  refine x_objInit hc lml_Jxa1e45_init_da8c8_1 lin_Jxa1e45_init_da8c8_obj lcd_Jxa1e45_init_da8c8_obj (Nat.le_of_ble_eq_true rfl) (Nat.le_of_ble_eq_true rfl) dJxa1e45_init_da8c8_1 ?_
  exact x_vret hc hr (by decide) (by decide) dJxa1e45_init_da8c8_4 (⟨rfl, rfl, rfl⟩)
abbrev rm_Jxc12de_init_da8c8 : Room := { frames := 2, cells := 0, slots := 0, locals := 32 }
set_option maxHeartbeats 4000000 in
set_option maxRecDepth 100000 in
theorem c_alInit (l : Launch) (D : va_G) (z e0 : Nat) (L : List Nat) (K N : Nat → Nat) (I : Nat → Nat → Int32) (J : Nat → Nat → Int64) (R : Nat → Nat → Option Nat) (a t0 : Nat) (hA : At L K N a t0 0) (h0 : t0 % 16 = 0) : MG l yJxc12de_init_da8c8 wsJxc12de_init_da8c8 rm_Jxc12de_init_da8c8 D z e0 L K N I J R [.ref a] (fun v I' J' => v = none ∧ I' = u2 I a 0 0 ∧ J' = J) := by
  refine mg_of (own := RJxc12de) (maxL := 1) (ret := none) (by decide +kernel) rfl rfl (Nat.le_of_ble_eq_true rfl) ?_
  intro pg ev s mi args below meth c hc hr
  refine x_aload_n (j := 0) hc dJxc12de_init_da8c8_0 rfl rfl ?_
  refine x_callI (b := a) (As := []) (st := []) hc (c_acInit l D z e0 L K N I J R a) gJxc12de_init_da8c8_Jxa1e45_init_da8c8 rfl hdS_Jxa1e45_init_da8c8 ⟨Nat.le_of_ble_eq_true rfl, Nat.le_of_ble_eq_true rfl⟩ rfl lini_Jxc12de_init_da8c8_Jxa1e45_init_da8c8 lml_Jxc12de_init_da8c8_1 lin_Jxc12de_init_da8c8_Jxa1e45_init_da8c8 rfl rfl ⟨Nat.le_of_ble_eq_true rfl, Nat.le_of_ble_eq_true rfl⟩ (Nat.le_of_ble_eq_true rfl) dJxc12de_init_da8c8_1 (fun v9 I9 J9 hz9 => ?_)
  obtain ⟨rfl, hI9, hJ9⟩ := hz9
  replace hI9 := hI9.symm
  subst hI9
  replace hJ9 := hJ9.symm
  subst hJ9
  refine x_aload_n (j := 0) hc dJxc12de_init_da8c8_4 rfl rfl ?_
  refine x_iconst (v := 0) hc dJxc12de_init_da8c8_5 (by decide) ?_
  refine x_putI (C := RJx4a65c) (T := TJx4a65c) (NN := 3) (ci := 0) (ref := "java/util/AbstractList") hc 0 in_Jxc12de_init_da8c8_0 rfl (by decide) lf_Jxc12de_init_da8c8_7 (fun _ h9 => h9) tyJx4a65c tyJx4a65c_ok nmJx4a65c hA (by omega) (by decide) rfl rfl pd_Jx4a65c_0 dJxc12de_init_da8c8_6 ?_
  exact x_vret hc hr (by decide) (by decide) dJxc12de_init_da8c8_9 (⟨rfl, rfl, rfl⟩)
abbrev rm_Jx4a65c_init_da8c8 : Room := { frames := 3, cells := 0, slots := 0, locals := 52 }
set_option maxHeartbeats 4000000 in
set_option maxRecDepth 100000 in
theorem c_listInit (l : Launch) (D : va_G) (z e0 : Nat) (L : List Nat) (K N : Nat → Nat) (I : Nat → Nat → Int32) (J : Nat → Nat → Int64) (R : Nat → Nat → Option Nat) (a t0 : Nat) (hA : At L K N a t0 0) (h0 : t0 % 16 = 0) : MF l yJx4a65c_init_da8c8 wsJx4a65c_init_da8c8 rm_Jx4a65c_init_da8c8 D z e0 L K N I J R [.ref a] (fun v L' K' N' I' J' R' => v = none ∧ L' = L ∧ K' = K ∧ N' = N ∧ I' = u2 I a 0 0 ∧ J' = J ∧ R' = u2 R a 1 (some e0)) := by
  refine mf_of (own := RJx4a65c) (maxL := 1) (ret := none) (by decide +kernel) rfl rfl (Nat.le_of_ble_eq_true rfl) ?_
  intro pg ev s mi args below meth c hc hr hname
  refine x_aload_n (j := 0) hc dJx4a65c_init_da8c8_0 rfl rfl ?_
  refine x_callI (b := a) (As := []) (st := []) hc (c_alInit l D z e0 L K N I J R a t0 hA h0) gJx4a65c_init_da8c8_Jxc12de_init_da8c8 rfl hdS_Jxc12de_init_da8c8 ⟨Nat.le_of_ble_eq_true rfl, Nat.le_of_ble_eq_true rfl⟩ rfl lini_Jx4a65c_init_da8c8_Jxc12de_init_da8c8 lml_Jx4a65c_init_da8c8_1 lin_Jx4a65c_init_da8c8_Jxc12de_init_da8c8 rfl rfl ⟨Nat.le_of_ble_eq_true rfl, Nat.le_of_ble_eq_true rfl⟩ (Nat.le_of_ble_eq_true rfl) dJx4a65c_init_da8c8_1 (fun v9 I9 J9 hz9 => ?_)
  obtain ⟨rfl, hI9, hJ9⟩ := hz9
  replace hI9 := hI9.symm
  subst hI9
  replace hJ9 := hJ9.symm
  subst hJ9
  refine x_aload_n (j := 0) hc dJx4a65c_init_da8c8_4 rfl rfl ?_
  refine x_getsE hc lsf_Jx4a65c_init_da8c8_39 dJx4a65c_init_da8c8_5 ?_
  refine x_putR (C := RJx4a65c) (T := TJx4a65c) (NN := 3) (ci := 0) (ref := "java/util/ArrayList") hc 1 in_Jx4a65c_init_da8c8_0 rfl (by decide) lf_Jx4a65c_init_da8c8_9 (fun _ h9 => h9) tyJx4a65c tyJx4a65c_ok nmJx4a65c hA (by omega) (by decide) rfl rfl pd_Jx4a65c_1 rfl rfl dJx4a65c_init_da8c8_8 ?_
  exact x_vretF hc hr (by decide) (by decide) dJx4a65c_init_da8c8_11 (⟨rfl, rfl, rfl, rfl, rfl, rfl, rfl⟩)
abbrev rm_X1_init : Room := { frames := 1, cells := 0, slots := 0, locals := 12 }
set_option maxHeartbeats 4000000 in
set_option maxRecDepth 100000 in
theorem c_shInit (l : Launch) (D : va_G) (z e0 : Nat) (L : List Nat) (K N : Nat → Nat) (I : Nat → Nat → Int32) (J : Nat → Nat → Int64) (R : Nat → Nat → Option Nat) (a t0 : Nat) (hA : At L K N a t0 0) (h2 : t0 % 16 = 2) (p : Nat) (i1 i2 i3 i4 i5 : Int32) : MF l yX1_init wsX1_init rm_X1_init D z e0 L K N I J R [.ref a, .ref p, .int i1, .int i2, .int i3, .int i4, .int i5] (fun v L' K' N' I' J' R' => v = none ∧ L' = L ∧ K' = K ∧ N' = N ∧ I' = u2 (u2 (u2 (u2 (u2 I a 1 i1) a 2 i2) a 3 i3) a 4 i4) a 5 i5 ∧ J' = J ∧ R' = u2 R a 0 (some p)) := by
  refine mf_of (own := RX1) (maxL := 7) (ret := none) (by decide +kernel) rfl rfl (Nat.le_of_ble_eq_true rfl) ?_
  intro pg ev s mi args below meth c hc hr hname
  refine x_aload_n (j := 0) hc dX1_init_0 rfl rfl ?_
  refine x_objInit hc lml_X1_init_3 lin_X1_init_obj lcd_X1_init_obj (Nat.le_of_ble_eq_true rfl) (Nat.le_of_ble_eq_true rfl) dX1_init_1 ?_
  refine x_aload_n (j := 0) hc dX1_init_4 rfl rfl ?_
  refine x_aload_n (j := 1) hc dX1_init_5 rfl rfl ?_
  refine x_putRF (C := RX1) (T := TX1) (NN := 7) (ci := 2) (ref := "NetPoints$Sharer") hc 0 in_X1_init_2 rfl (by decide) lf_X1_init_9 (fun _ h9 => h9) tyX1 tyX1_ok nmX1 hA (by omega) (by decide) rfl rfl hname rfl pd_X1_0 rfl rfl dX1_init_6 ?_
  refine x_aload_n (j := 0) hc dX1_init_9 rfl rfl ?_
  refine x_iload_n (j := 2) hc dX1_init_10 rfl rfl ?_
  refine x_putIF (C := RX1) (T := TX1) (NN := 7) (ci := 2) (ref := "NetPoints$Sharer") hc 1 in_X1_init_2 rfl (by decide) lf_X1_init_15 (fun _ h9 => h9) tyX1 tyX1_ok nmX1 hA (by omega) (by decide) rfl rfl hname rfl pd_X1_1 dX1_init_11 ?_
  refine x_aload_n (j := 0) hc dX1_init_14 rfl rfl ?_
  refine x_iload_n (j := 3) hc dX1_init_15 rfl rfl ?_
  refine x_putIF (C := RX1) (T := TX1) (NN := 7) (ci := 2) (ref := "NetPoints$Sharer") hc 2 in_X1_init_2 rfl (by decide) lf_X1_init_19 (fun _ h9 => h9) tyX1 tyX1_ok nmX1 hA (by omega) (by decide) rfl rfl hname rfl pd_X1_2 dX1_init_16 ?_
  refine x_aload_n (j := 0) hc dX1_init_19 rfl rfl ?_
  refine x_iload (j := 4) hc dX1_init_20 rfl ?_
  refine x_putIF (C := RX1) (T := TX1) (NN := 7) (ci := 2) (ref := "NetPoints$Sharer") hc 3 in_X1_init_2 rfl (by decide) lf_X1_init_22 (fun _ h9 => h9) tyX1 tyX1_ok nmX1 hA (by omega) (by decide) rfl rfl hname rfl pd_X1_3 dX1_init_22 ?_
  refine x_aload_n (j := 0) hc dX1_init_25 rfl rfl ?_
  refine x_iload (j := 5) hc dX1_init_26 rfl ?_
  refine x_putIF (C := RX1) (T := TX1) (NN := 7) (ci := 2) (ref := "NetPoints$Sharer") hc 4 in_X1_init_2 rfl (by decide) lf_X1_init_25 (fun _ h9 => h9) tyX1 tyX1_ok nmX1 hA (by omega) (by decide) rfl rfl hname rfl pd_X1_4 dX1_init_28 ?_
  refine x_aload_n (j := 0) hc dX1_init_31 rfl rfl ?_
  refine x_iload (j := 6) hc dX1_init_32 rfl ?_
  refine x_putIF (C := RX1) (T := TX1) (NN := 7) (ci := 2) (ref := "NetPoints$Sharer") hc 5 in_X1_init_2 rfl (by decide) lf_X1_init_28 (fun _ h9 => h9) tyX1 tyX1_ok nmX1 hA (by omega) (by decide) rfl rfl hname rfl pd_X1_5 dX1_init_34 ?_
  exact x_vretF hc hr (by decide) (by decide) dX1_init_37 (⟨rfl, rfl, rfl, rfl, rfl, rfl, rfl⟩)
/-- a picture as it is made: no sharer, no cent -/
def PNew (L : List Nat) (K N : Nat → Nat) (I : Nat → Nat → Int32) (J : Nat → Nat → Int64) (R : Nat → Nat → Option Nat) (e0 b p : Nat) : Prop :=
  Pic L K N R b p ∧ Lst L K N I R (dr R p 3) (320 * b + 224) (320 * b + 279) 0 ∧ R (dr R p 3) 1 = some e0 ∧ (∀ y, y < 10 → I (rwA R p y) = fun _ => 0) ∧ I (dr R p 1) = (fun _ => 0) ∧ I (dr R p 2) = (fun _ => 0) ∧ I p = (fun _ => 0) ∧ J p = (fun _ => 0)
theorem PNew.ext {L L' : List Nat} {K N K' N' : Nat → Nat} {I I' : Nat → Nat → Int32} {J J' : Nat → Nat → Int64} {R R' : Nat → Nat → Option Nat} {P : Nat → Prop} {e0 b p : Nat} (h : PNew L K N I J R e0 b p) (E : Ext L K N I J R L' K' N' I' J' R' P) (hn : ∀ a, a ∈ L → 320 * b < K a → K a < 320 * b + 320 → ¬ P a) : PNew L' K' N' I' J' R' e0 b p := by
  obtain ⟨h1, h2, h3, h4, h5, h6, h7, h8⟩ := h
  have hp := h1
  obtain ⟨g0, g1, g2, g3, g4, g5, g6, g7, g8, g9, g10, g11, g12⟩ := hp
  have n0 : ¬ P p := hn p g0.1 (by rw [g0.2.1]; omega) (by rw [g0.2.1]; omega)
  have n1 : ¬ P (dr R p 0) := hn _ g2.1 (by rw [g2.2.1]; omega) (by rw [g2.2.1]; omega)
  have n2 : ¬ P (dr R p 1) := hn _ g5.1 (by rw [g5.2.1]; omega) (by rw [g5.2.1]; omega)
  have n3 : ¬ P (dr R p 2) := hn _ g7.1 (by rw [g7.2.1]; omega) (by rw [g7.2.1]; omega)
  have n4 : ¬ P (dr R p 3) := hn _ h2.1.1 (by rw [h2.1.2.1]; omega) (by rw [h2.1.2.1]; omega)
  have e : ∀ k, dr R' p k = dr R p k := fun k => E.ref g0.1 n0
  have ew : ∀ y, rwA R' p y = rwA R p y := fun y => by
    show dr R' (dr R' p 0) y = dr R (dr R p 0) y
    rw [e, E.ref g2.1 n1]
  refine ⟨h1.ext E (fun a ha q => hn a ha (by omega) (by omega)), by rw [e]; exact h2.ext E (fun a ha q => hn a ha (by omega) (by omega)), by rw [e, E.r h2.1.1 n4]; exact h3, fun y hy => ?_, by rw [e, E.i g5.1 n2]; exact h5, by rw [e, E.i g7.1 n3]; exact h6, by rw [E.i g0.1 n0]; exact h7, by rw [E.j g0.1 n0]; exact h8⟩
  rw [ew, E.i (g3 y hy).2.1 (hn _ (g3 y hy).2.1 (by rw [(g3 y hy).2.2.1]; omega) (by rw [(g3 y hy).2.2.1]; omega))]
  exact h4 y hy
abbrev rm_X0_init : Room := { frames := 4, cells := 16, slots := 87, locals := 72 }
set_option maxHeartbeats 4000000 in
set_option maxRecDepth 100000 in
theorem c_picInit (l : Launch) (D : va_G) (z e0 : Nat) (L : List Nat) (K N : Nat → Nat) (I : Nat → Nat → Int32) (J : Nat → Nat → Int64) (R : Nat → Nat → Option Nat) (b p : Nat) (hp : At L K N p (320 * b + 1) 0) (hpI : I p = fun _ => 0) (hpJ : J p = fun _ => 0) : MF l yX0_init wsX0_init rm_X0_init D z e0 L K N I J R [.ref p] (fun v L' K' N' I' J' R' => v = none ∧ PNew L' K' N' I' J' R' e0 b p ∧ Ext L K N I J R L' K' N' I' J' R' (fun a => a = p)) := by
  refine mf_of (own := RX0) (maxL := 1) (ret := none) (by decide +kernel) rfl rfl (Nat.le_of_ble_eq_true rfl) ?_
  intro pg ev s mi args below meth c hc hr hname
  have hE : Ext L K N I J R L K N I J R (fun a => a = p) := Ext.refl
  refine x_aload_n (j := 0) hc dX0_init_0 rfl rfl ?_
  refine x_objInit hc lml_X0_init_3 lin_X0_init_obj lcd_X0_init_obj (Nat.le_of_ble_eq_true rfl) (Nat.le_of_ble_eq_true rfl) dX0_init_1 ?_
  refine x_aload_n (j := 0) hc dX0_init_4 rfl rfl ?_
  refine x_bipush (v := 10) hc dX0_init_5 (by decide) ?_
  refine x_iconst (v := 4) hc dX0_init_7 (by decide) ?_
  refine x_mna hc b lcl_X0_init_9 larr_X0_init_int ⟨Nat.le_of_ble_eq_true rfl, Nat.le_of_ble_eq_true rfl⟩ dX0_init_8 (fun q0 rr L1 K1 N1 I1 J1 R1 nq1 na1 nr1 ne1 => ?_)
  replace hpI := ((ne1).i hp.1 (fun h => h)).trans hpI
  replace hpJ := ((ne1).j hp.1 (fun h => h)).trans hpJ
  replace hp := (ne1).cell hp
  replace hE := hE.trans (ne1) (fun _ _ h => h) (fun _ _ h => h.elim)
  have hq0 := na1
  have hrw := fun (y : Nat) (hy : y < 10) => And.intro (nr1 y hy).2.1 (nr1 y hy).2.2
  refine x_putRF (C := RX0) (T := TX0) (NN := 15) (ci := 1) (ref := "NetPoints$Picture") hc 0 in_X0_init_1 rfl (by decide) lf_X0_init_11 (fun _ h9 => h9) tyX0 tyX0_ok nmX0 hp (by omega) (by decide) rfl rfl hname rfl pd_X0_0 rfl rfl dX0_init_12 ?_
  replace hrw := fun (y : Nat) (hy : y < 10) => And.intro ((congrFun ((Ext.setR (L := L1) (K := K1) (N := N1) (I := I1) (J := J1) (R := R1) (x := some q0) (b := p) (k := 0)).r hq0.1 (hq0.ne hp (by omega))) y).trans (hrw y hy).1) (hrw y hy).2
  have r0 : (u2 R1 p 0 (some q0)) p 0 = some q0 := u2_s
  replace hE := hE.trans (Ext.setR (L := L1) (K := K1) (N := N1) (I := I1) (J := J1) (R := R1) (x := some q0) (b := p) (k := 0)) (P3 := fun a => a = p) (fun _ _ h => h) (fun _ _ h => h)
  refine x_aload_n (j := 0) hc dX0_init_15 rfl rfl ?_
  refine x_bipush (v := 10) hc dX0_init_16 (by decide) ?_
  refine x_newaI hc (320 * b + 197) (n0 := 10) larr_X0_init_int (by omega) (by decide) (by decide) ⟨Nat.le_of_ble_eq_true rfl, Nat.le_of_ble_eq_true rfl⟩ dX0_init_18 (fun q1 L2 K2 N2 I2 J2 R2 n2 => ?_)
  replace r0 := (congrFun ((n2.ext).r hp.1 (fun h => h)) 0).trans r0
  replace hpI := ((n2.ext).i hp.1 (fun h => h)).trans hpI
  replace hpJ := ((n2.ext).j hp.1 (fun h => h)).trans hpJ
  replace hrw := fun y hy => And.intro ((congrFun ((n2.ext).r hq0.1 (fun h => h)) y).trans (hrw y hy).1) (And.intro ((n2.ext).cell (hrw y hy).2.1) (((n2.ext).i (hrw y hy).2.1.1 (fun h => h)).trans (hrw y hy).2.2))
  replace hp := (n2.ext).cell hp
  replace hq0 := (n2.ext).cell hq0
  replace hE := hE.trans (n2.ext) (fun _ _ h => h) (fun _ _ h => h.elim)
  have hq1 := n2.2.1
  have iq1 := n2.2.2.1
  refine x_putRF (C := RX0) (T := TX0) (NN := 15) (ci := 1) (ref := "NetPoints$Picture") hc 1 in_X0_init_1 rfl (by decide) lf_X0_init_16 (fun _ h9 => h9) tyX0 tyX0_ok nmX0 hp (by omega) (by decide) rfl rfl hname rfl pd_X0_1 rfl rfl dX0_init_20 ?_
  replace r0 := (u2_k (f := R2) (a := p) (k := 1) (x := some q1) (show 0 ≠ 1 by decide)).trans r0
  replace hrw := fun (y : Nat) (hy : y < 10) => And.intro ((congrFun ((Ext.setR (L := L2) (K := K2) (N := N2) (I := I2) (J := J2) (R := R2) (x := some q1) (b := p) (k := 1)).r hq0.1 (hq0.ne hp (by omega))) y).trans (hrw y hy).1) (hrw y hy).2
  have r1 : (u2 R2 p 1 (some q1)) p 1 = some q1 := u2_s
  replace hE := hE.trans (Ext.setR (L := L2) (K := K2) (N := N2) (I := I2) (J := J2) (R := R2) (x := some q1) (b := p) (k := 1)) (P3 := fun a => a = p) (fun _ _ h => h) (fun _ _ h => h)
  refine x_aload_n (j := 0) hc dX0_init_23 rfl rfl ?_
  refine x_iconst (v := 4) hc dX0_init_24 (by decide) ?_
  refine x_newaI hc (320 * b + 213) (n0 := 4) larr_X0_init_int (by omega) (by decide) (by decide) ⟨Nat.le_of_ble_eq_true rfl, Nat.le_of_ble_eq_true rfl⟩ dX0_init_25 (fun q2 L3 K3 N3 I3 J3 R3 n3 => ?_)
  replace r0 := (congrFun ((n3.ext).r hp.1 (fun h => h)) 0).trans r0
  replace r1 := (congrFun ((n3.ext).r hp.1 (fun h => h)) 1).trans r1
  replace hpI := ((n3.ext).i hp.1 (fun h => h)).trans hpI
  replace iq1 := ((n3.ext).i hq1.1 (fun h => h)).trans iq1
  replace hpJ := ((n3.ext).j hp.1 (fun h => h)).trans hpJ
  replace hrw := fun y hy => And.intro ((congrFun ((n3.ext).r hq0.1 (fun h => h)) y).trans (hrw y hy).1) (And.intro ((n3.ext).cell (hrw y hy).2.1) (((n3.ext).i (hrw y hy).2.1.1 (fun h => h)).trans (hrw y hy).2.2))
  replace hp := (n3.ext).cell hp
  replace hq0 := (n3.ext).cell hq0
  replace hq1 := (n3.ext).cell hq1
  replace hE := hE.trans (n3.ext) (fun _ _ h => h) (fun _ _ h => h.elim)
  have hq2 := n3.2.1
  have iq2 := n3.2.2.1
  refine x_putRF (C := RX0) (T := TX0) (NN := 15) (ci := 1) (ref := "NetPoints$Picture") hc 2 in_X0_init_1 rfl (by decide) lf_X0_init_20 (fun _ h9 => h9) tyX0 tyX0_ok nmX0 hp (by omega) (by decide) rfl rfl hname rfl pd_X0_2 rfl rfl dX0_init_27 ?_
  replace r0 := (u2_k (f := R3) (a := p) (k := 2) (x := some q2) (show 0 ≠ 2 by decide)).trans r0
  replace r1 := (u2_k (f := R3) (a := p) (k := 2) (x := some q2) (show 1 ≠ 2 by decide)).trans r1
  replace hrw := fun (y : Nat) (hy : y < 10) => And.intro ((congrFun ((Ext.setR (L := L3) (K := K3) (N := N3) (I := I3) (J := J3) (R := R3) (x := some q2) (b := p) (k := 2)).r hq0.1 (hq0.ne hp (by omega))) y).trans (hrw y hy).1) (hrw y hy).2
  have r2 : (u2 R3 p 2 (some q2)) p 2 = some q2 := u2_s
  replace hE := hE.trans (Ext.setR (L := L3) (K := K3) (N := N3) (I := I3) (J := J3) (R := R3) (x := some q2) (b := p) (k := 2)) (P3 := fun a => a = p) (fun _ _ h => h) (fun _ _ h => h)
  refine x_aload_n (j := 0) hc dX0_init_30 rfl rfl ?_
  refine x_new (C := RJx4a65c) (T := TJx4a65c) (NN := 3) (ci := 0) hc (320 * b + 224) tyJx4a65c tyJx4a65c_ok in_X0_init_0 rfl lcl_X0_init_23 lins_X0_init_0 lini_X0_init_0 (by omega) (by decide) dfvJx4a65c ⟨Nat.le_of_ble_eq_true rfl, Nat.le_of_ble_eq_true rfl⟩ dX0_init_31 (fun q3 L4 K4 N4 I4 J4 R4 n4 => ?_)
  have hE3 := hE
  replace r0 := (congrFun ((n4.ext).r hp.1 (fun h => h)) 0).trans r0
  replace r1 := (congrFun ((n4.ext).r hp.1 (fun h => h)) 1).trans r1
  replace r2 := (congrFun ((n4.ext).r hp.1 (fun h => h)) 2).trans r2
  replace hpI := ((n4.ext).i hp.1 (fun h => h)).trans hpI
  replace iq1 := ((n4.ext).i hq1.1 (fun h => h)).trans iq1
  replace iq2 := ((n4.ext).i hq2.1 (fun h => h)).trans iq2
  replace hpJ := ((n4.ext).j hp.1 (fun h => h)).trans hpJ
  replace hrw := fun y hy => And.intro ((congrFun ((n4.ext).r hq0.1 (fun h => h)) y).trans (hrw y hy).1) (And.intro ((n4.ext).cell (hrw y hy).2.1) (((n4.ext).i (hrw y hy).2.1.1 (fun h => h)).trans (hrw y hy).2.2))
  replace hp := (n4.ext).cell hp
  replace hq0 := (n4.ext).cell hq0
  replace hq1 := (n4.ext).cell hq1
  replace hq2 := (n4.ext).cell hq2
  replace hE := hE.trans (n4.ext) (fun _ _ h => h) (fun _ _ h => h.elim)
  have hq3 := n4.2.1
  have jq3 := congrFun n4.2.2.1 2
  have nq3 : q3 ∉ L := fun h => n4.1 (hE3 q3 h).1
  refine x_dup hc dX0_init_34 rfl ?_
  refine x_callIF (b := q3) (As := []) (st := [.ref q3, .ref p]) hc (c_listInit l D z e0 L4 K4 N4 I4 J4 R4 q3 (320 * b + 224) hq3 (by omega)) gX0_init_Jx4a65c_init_da8c8 rfl hdS_Jx4a65c_init_da8c8 ⟨Nat.le_of_ble_eq_true rfl, Nat.le_of_ble_eq_true rfl⟩ rfl lini_X0_init_Jx4a65c_init_da8c8 lml_X0_init_25 lin_X0_init_Jx4a65c_init_da8c8 rfl rfl ⟨Nat.le_of_ble_eq_true rfl, Nat.le_of_ble_eq_true rfl⟩ (Nat.le_of_ble_eq_true rfl) dX0_init_35 (fun v9 L9 K9 N9 I9 J9 R9 hz9 => ?_)
  obtain ⟨rfl, hL9, hK9, hN9, hI9, hJ9, hR9⟩ := hz9
  replace hL9 := hL9.symm
  subst hL9
  replace hK9 := hK9.symm
  subst hK9
  replace hN9 := hN9.symm
  subst hN9
  replace hI9 := hI9.symm
  subst hI9
  replace hJ9 := hJ9.symm
  subst hJ9
  replace hR9 := hR9.symm
  subst hR9
  replace hpI := ((Ext.setI (L := L4) (K := K4) (N := N4) (I := I4) (J := J4) (R := R4) (x := 0) (b := q3) (k := 0)).i hp.1 (hp.ne hq3 (by omega))).trans hpI
  replace iq1 := ((Ext.setI (L := L4) (K := K4) (N := N4) (I := I4) (J := J4) (R := R4) (x := 0) (b := q3) (k := 0)).i hq1.1 (hq1.ne hq3 (by omega))).trans iq1
  replace iq2 := ((Ext.setI (L := L4) (K := K4) (N := N4) (I := I4) (J := J4) (R := R4) (x := 0) (b := q3) (k := 0)).i hq2.1 (hq2.ne hq3 (by omega))).trans iq2
  replace hrw := fun (y : Nat) (hy : y < 10) => And.intro (hrw y hy).1 (And.intro (hrw y hy).2.1 (((Ext.setI (L := L4) (K := K4) (N := N4) (I := I4) (J := J4) (R := R4) (x := 0) (b := q3) (k := 0)).i (hrw y hy).2.1.1 ((hrw y hy).2.1.ne hq3 (by omega))).trans (hrw y hy).2.2))
  replace jq3 := (u2_k (f := I4) (a := q3) (k := 0) (x := 0) (show 2 ≠ 0 by decide)).trans jq3
  replace hE := hE.trans (Ext.setI (L := L4) (K := K4) (N := N4) (I := I4) (J := J4) (R := R4) (x := 0) (b := q3) (k := 0)) (P3 := fun a => a = p) (fun _ _ h => h) (fun a ha e => absurd (e ▸ ha) nq3)
  replace r0 := (congrFun ((Ext.setR (L := L4) (K := K4) (N := N4) (I := u2 I4 q3 0 0) (J := J4) (R := R4) (x := some e0) (b := q3) (k := 1)).r hp.1 (hp.ne hq3 (by omega))) 0).trans r0
  replace r1 := (congrFun ((Ext.setR (L := L4) (K := K4) (N := N4) (I := u2 I4 q3 0 0) (J := J4) (R := R4) (x := some e0) (b := q3) (k := 1)).r hp.1 (hp.ne hq3 (by omega))) 1).trans r1
  replace r2 := (congrFun ((Ext.setR (L := L4) (K := K4) (N := N4) (I := u2 I4 q3 0 0) (J := J4) (R := R4) (x := some e0) (b := q3) (k := 1)).r hp.1 (hp.ne hq3 (by omega))) 2).trans r2
  replace hrw := fun (y : Nat) (hy : y < 10) => And.intro ((congrFun ((Ext.setR (L := L4) (K := K4) (N := N4) (I := u2 I4 q3 0 0) (J := J4) (R := R4) (x := some e0) (b := q3) (k := 1)).r hq0.1 (hq0.ne hq3 (by omega))) y).trans (hrw y hy).1) (hrw y hy).2
  have rq3 : (u2 R4 q3 1 (some e0)) q3 1 = some e0 := u2_s
  replace hE := hE.trans (Ext.setR (L := L4) (K := K4) (N := N4) (I := u2 I4 q3 0 0) (J := J4) (R := R4) (x := some e0) (b := q3) (k := 1)) (P3 := fun a => a = p) (fun _ _ h => h) (fun a ha e => absurd (e ▸ ha) nq3)
  refine x_putRF (C := RX0) (T := TX0) (NN := 15) (ci := 1) (ref := "NetPoints$Picture") hc 3 in_X0_init_1 rfl (by decide) lf_X0_init_26 (fun _ h9 => h9) tyX0 tyX0_ok nmX0 hp (by omega) (by decide) rfl rfl hname rfl pd_X0_3 rfl rfl dX0_init_38 ?_
  replace r0 := (u2_k (f := (u2 R4 q3 1 (some e0))) (a := p) (k := 3) (x := some q3) (show 0 ≠ 3 by decide)).trans r0
  replace r1 := (u2_k (f := (u2 R4 q3 1 (some e0))) (a := p) (k := 3) (x := some q3) (show 1 ≠ 3 by decide)).trans r1
  replace r2 := (u2_k (f := (u2 R4 q3 1 (some e0))) (a := p) (k := 3) (x := some q3) (show 2 ≠ 3 by decide)).trans r2
  replace rq3 := (congrFun ((Ext.setR (L := L4) (K := K4) (N := N4) (I := u2 I4 q3 0 0) (J := J4) (R := (u2 R4 q3 1 (some e0))) (x := some q3) (b := p) (k := 3)).r hq3.1 (hq3.ne hp (by omega))) 1).trans rq3
  replace hrw := fun (y : Nat) (hy : y < 10) => And.intro ((congrFun ((Ext.setR (L := L4) (K := K4) (N := N4) (I := u2 I4 q3 0 0) (J := J4) (R := (u2 R4 q3 1 (some e0))) (x := some q3) (b := p) (k := 3)).r hq0.1 (hq0.ne hp (by omega))) y).trans (hrw y hy).1) (hrw y hy).2
  have r3 : (u2 (u2 R4 q3 1 (some e0)) p 3 (some q3)) p 3 = some q3 := u2_s
  replace hE := hE.trans (Ext.setR (L := L4) (K := K4) (N := N4) (I := u2 I4 q3 0 0) (J := J4) (R := (u2 R4 q3 1 (some e0))) (x := some q3) (b := p) (k := 3)) (P3 := fun a => a = p) (fun _ _ h => h) (fun _ _ h => h)
  refine x_aload_n (j := 0) hc dX0_init_41 rfl rfl ?_
  refine x_bipush (v := 10) hc dX0_init_42 (by decide) ?_
  refine x_newaJ hc (320 * b + 246) (n0 := 10) larr_X0_init_long (by omega) (by decide) (by decide) ⟨Nat.le_of_ble_eq_true rfl, Nat.le_of_ble_eq_true rfl⟩ dX0_init_44 (fun q7 L5 K5 N5 I5 J5 R5 n5 => ?_)
  replace r0 := (congrFun ((n5.ext).r hp.1 (fun h => h)) 0).trans r0
  replace r1 := (congrFun ((n5.ext).r hp.1 (fun h => h)) 1).trans r1
  replace r2 := (congrFun ((n5.ext).r hp.1 (fun h => h)) 2).trans r2
  replace rq3 := (congrFun ((n5.ext).r hq3.1 (fun h => h)) 1).trans rq3
  replace r3 := (congrFun ((n5.ext).r hp.1 (fun h => h)) 3).trans r3
  replace hpI := ((n5.ext).i hp.1 (fun h => h)).trans hpI
  replace iq1 := ((n5.ext).i hq1.1 (fun h => h)).trans iq1
  replace iq2 := ((n5.ext).i hq2.1 (fun h => h)).trans iq2
  replace hpJ := ((n5.ext).j hp.1 (fun h => h)).trans hpJ
  replace jq3 := (congrFun ((n5.ext).i hq3.1 (fun h => h)) 2).trans jq3
  replace hrw := fun y hy => And.intro ((congrFun ((n5.ext).r hq0.1 (fun h => h)) y).trans (hrw y hy).1) (And.intro ((n5.ext).cell (hrw y hy).2.1) (((n5.ext).i (hrw y hy).2.1.1 (fun h => h)).trans (hrw y hy).2.2))
  replace hp := (n5.ext).cell hp
  replace hq0 := (n5.ext).cell hq0
  replace hq1 := (n5.ext).cell hq1
  replace hq2 := (n5.ext).cell hq2
  replace hq3 := (n5.ext).cell hq3
  replace hE := hE.trans (n5.ext) (fun _ _ h => h) (fun _ _ h => h.elim)
  have hq7 := n5.2.1
  refine x_putRF (C := RX0) (T := TX0) (NN := 15) (ci := 1) (ref := "NetPoints$Picture") hc 7 in_X0_init_1 rfl (by decide) lf_X0_init_30 (fun _ h9 => h9) tyX0 tyX0_ok nmX0 hp (by omega) (by decide) rfl rfl hname rfl pd_X0_7 rfl rfl dX0_init_46 ?_
  replace r0 := (u2_k (f := R5) (a := p) (k := 7) (x := some q7) (show 0 ≠ 7 by decide)).trans r0
  replace r1 := (u2_k (f := R5) (a := p) (k := 7) (x := some q7) (show 1 ≠ 7 by decide)).trans r1
  replace r2 := (u2_k (f := R5) (a := p) (k := 7) (x := some q7) (show 2 ≠ 7 by decide)).trans r2
  replace rq3 := (congrFun ((Ext.setR (L := L5) (K := K5) (N := N5) (I := I5) (J := J5) (R := R5) (x := some q7) (b := p) (k := 7)).r hq3.1 (hq3.ne hp (by omega))) 1).trans rq3
  replace r3 := (u2_k (f := R5) (a := p) (k := 7) (x := some q7) (show 3 ≠ 7 by decide)).trans r3
  replace hrw := fun (y : Nat) (hy : y < 10) => And.intro ((congrFun ((Ext.setR (L := L5) (K := K5) (N := N5) (I := I5) (J := J5) (R := R5) (x := some q7) (b := p) (k := 7)).r hq0.1 (hq0.ne hp (by omega))) y).trans (hrw y hy).1) (hrw y hy).2
  have r7 : (u2 R5 p 7 (some q7)) p 7 = some q7 := u2_s
  replace hE := hE.trans (Ext.setR (L := L5) (K := K5) (N := N5) (I := I5) (J := J5) (R := R5) (x := some q7) (b := p) (k := 7)) (P3 := fun a => a = p) (fun _ _ h => h) (fun _ _ h => h)
  refine x_aload_n (j := 0) hc dX0_init_49 rfl rfl ?_
  refine x_bipush (v := 10) hc dX0_init_50 (by decide) ?_
  refine x_newaJ hc (320 * b + 262) (n0 := 10) larr_X0_init_long (by omega) (by decide) (by decide) ⟨Nat.le_of_ble_eq_true rfl, Nat.le_of_ble_eq_true rfl⟩ dX0_init_52 (fun q8 L6 K6 N6 I6 J6 R6 n6 => ?_)
  replace r0 := (congrFun ((n6.ext).r hp.1 (fun h => h)) 0).trans r0
  replace r1 := (congrFun ((n6.ext).r hp.1 (fun h => h)) 1).trans r1
  replace r2 := (congrFun ((n6.ext).r hp.1 (fun h => h)) 2).trans r2
  replace rq3 := (congrFun ((n6.ext).r hq3.1 (fun h => h)) 1).trans rq3
  replace r3 := (congrFun ((n6.ext).r hp.1 (fun h => h)) 3).trans r3
  replace r7 := (congrFun ((n6.ext).r hp.1 (fun h => h)) 7).trans r7
  replace hpI := ((n6.ext).i hp.1 (fun h => h)).trans hpI
  replace iq1 := ((n6.ext).i hq1.1 (fun h => h)).trans iq1
  replace iq2 := ((n6.ext).i hq2.1 (fun h => h)).trans iq2
  replace hpJ := ((n6.ext).j hp.1 (fun h => h)).trans hpJ
  replace jq3 := (congrFun ((n6.ext).i hq3.1 (fun h => h)) 2).trans jq3
  replace hrw := fun y hy => And.intro ((congrFun ((n6.ext).r hq0.1 (fun h => h)) y).trans (hrw y hy).1) (And.intro ((n6.ext).cell (hrw y hy).2.1) (((n6.ext).i (hrw y hy).2.1.1 (fun h => h)).trans (hrw y hy).2.2))
  replace hp := (n6.ext).cell hp
  replace hq0 := (n6.ext).cell hq0
  replace hq1 := (n6.ext).cell hq1
  replace hq2 := (n6.ext).cell hq2
  replace hq3 := (n6.ext).cell hq3
  replace hq7 := (n6.ext).cell hq7
  replace hE := hE.trans (n6.ext) (fun _ _ h => h) (fun _ _ h => h.elim)
  have hq8 := n6.2.1
  refine x_putRF (C := RX0) (T := TX0) (NN := 15) (ci := 1) (ref := "NetPoints$Picture") hc 8 in_X0_init_1 rfl (by decide) lf_X0_init_34 (fun _ h9 => h9) tyX0 tyX0_ok nmX0 hp (by omega) (by decide) rfl rfl hname rfl pd_X0_8 rfl rfl dX0_init_54 ?_
  replace r0 := (u2_k (f := R6) (a := p) (k := 8) (x := some q8) (show 0 ≠ 8 by decide)).trans r0
  replace r1 := (u2_k (f := R6) (a := p) (k := 8) (x := some q8) (show 1 ≠ 8 by decide)).trans r1
  replace r2 := (u2_k (f := R6) (a := p) (k := 8) (x := some q8) (show 2 ≠ 8 by decide)).trans r2
  replace rq3 := (congrFun ((Ext.setR (L := L6) (K := K6) (N := N6) (I := I6) (J := J6) (R := R6) (x := some q8) (b := p) (k := 8)).r hq3.1 (hq3.ne hp (by omega))) 1).trans rq3
  replace r3 := (u2_k (f := R6) (a := p) (k := 8) (x := some q8) (show 3 ≠ 8 by decide)).trans r3
  replace r7 := (u2_k (f := R6) (a := p) (k := 8) (x := some q8) (show 7 ≠ 8 by decide)).trans r7
  replace hrw := fun (y : Nat) (hy : y < 10) => And.intro ((congrFun ((Ext.setR (L := L6) (K := K6) (N := N6) (I := I6) (J := J6) (R := R6) (x := some q8) (b := p) (k := 8)).r hq0.1 (hq0.ne hp (by omega))) y).trans (hrw y hy).1) (hrw y hy).2
  have r8 : (u2 R6 p 8 (some q8)) p 8 = some q8 := u2_s
  replace hE := hE.trans (Ext.setR (L := L6) (K := K6) (N := N6) (I := I6) (J := J6) (R := R6) (x := some q8) (b := p) (k := 8)) (P3 := fun a => a = p) (fun _ _ h => h) (fun _ _ h => h)
  exact x_vretF hc hr (by decide) (by decide) dX0_init_57 (⟨rfl, ⟨pic_of hp r0 hq0 (fun y hy => ⟨(hrw y hy).1, (hrw y hy).2.1⟩) r1 hq1 r2 hq2 r3 r7 hq7 r8 hq8, by rw [dr_of r3]; exact lst_0 hq3 (by omega) (by omega) jq3, by rw [dr_of r3]; exact rq3, fun y hy => by rw [show rwA _ p y = rr y from (congrArg (fun q => dr _ q y) (dr_of r0)).trans (dr_of (hrw y hy).1)]; exact (hrw y hy).2.2, by rw [dr_of r1]; exact iq1, by rw [dr_of r2]; exact iq2, hpI, hpJ⟩, hE⟩)
abbrev rm_X2_init : Room := { frames := 5, cells := 37, slots := 213, locals := 92 }
set_option maxHeartbeats 4000000 in
set_option maxRecDepth 100000 in
theorem c_netInit (l : Launch) (D : va_G) (z e0 : Nat) (L : List Nat) (K N : Nat → Nat) (I : Nat → Nat → Int32) (J : Nat → Nat → Int64) (R : Nat → Nat → Option Nat) (x : Nat) (hA : At L K N x 3 0) : MF l yX2_init wsX2_init rm_X2_init D z e0 L K N I J R [.ref x] (fun v L' K' N' I' J' R' => v = none ∧ Cls L' K' N' I' R' x 0 0 (fun _ => 0) ∧ (∀ k, k < 2 → PNew L' K' N' I' J' R' e0 (k + 1) (dr R' x k)) ∧ R' (dr R' x 2) 1 = some e0 ∧ I' x 3 = 0 ∧ Ext L K N I J R L' K' N' I' J' R' (fun a => a = x)) := by
  refine mf_of (own := RX2) (maxL := 1) (ret := none) (by decide +kernel) rfl rfl (Nat.le_of_ble_eq_true rfl) ?_
  intro pg ev s mi args below meth c hc hr hname
  have hE : Ext L K N I J R L K N I J R (fun a => a = x) := Ext.refl
  refine x_aload_n (j := 0) hc dX2_init_0 rfl rfl ?_
  refine x_objInit hc lml_X2_init_1 lin_X2_init_obj lcd_X2_init_obj (Nat.le_of_ble_eq_true rfl) (Nat.le_of_ble_eq_true rfl) dX2_init_1 ?_
  refine x_aload_n (j := 0) hc dX2_init_4 rfl rfl ?_
  refine x_new (C := RX0) (T := TX0) (NN := 15) (ci := 1) hc (321) tyX0 tyX0_ok in_X2_init_1 rfl lcl_X2_init_7 lins_X2_init_1 lini_X2_init_1 (by omega) (by decide) dfvX0 ⟨Nat.le_of_ble_eq_true rfl, Nat.le_of_ble_eq_true rfl⟩ dX2_init_5 (fun p1 L1 K1 N1 I1 J1 R1 n1 => ?_)
  have hEp1 := hE
  replace hA := (n1.ext).cell hA
  replace hE := hE.trans (n1.ext) (fun _ _ h => h) (fun _ _ h => h.elim)
  have hp1 := n1.2.1
  have np1 : p1 ∉ L := fun h => n1.1 (hEp1 p1 h).1
  refine x_dup hc dX2_init_8 rfl ?_
  refine x_callINF (b := p1) (As := []) (st := [.ref p1, .ref x]) hc (c_picInit l D z e0 L1 K1 N1 I1 J1 R1 1 p1 hp1 n1.2.2.1 n1.2.2.2.1) gX2_init_X0_init_n9 rfl hdS_X0_init ⟨Nat.le_of_ble_eq_true rfl, Nat.le_of_ble_eq_true rfl⟩ rfl hc.ev.2.2.2.2.1 lini_X2_init_X0_init lin_X2_init_X0_init rfl rfl ⟨Nat.le_of_ble_eq_true rfl, Nat.le_of_ble_eq_true rfl⟩ (Nat.le_of_ble_eq_true rfl) dX2_init_9 (fun v9 L9 K9 N9 I9 J9 R9 hz9 => ?_)
  obtain ⟨rfl, hN1, hF1⟩ := hz9
  replace hA := hF1.cell hA
  replace hE := hE.trans hF1 (P3 := fun a => a = x) (fun _ _ h => h) (fun a ha e => absurd (e ▸ ha) np1)
  refine x_putRF (C := RX2) (T := TX2) (NN := 5) (ci := 3) (ref := "NetPoints") hc 0 in_X2_init_3 rfl (by decide) lf_X2_init_10 (fun _ h9 => h9) tyX2 tyX2_ok nmX2 hA (by omega) (by decide) rfl rfl hname rfl pd_X2_0 rfl rfl dX2_init_12 ?_
  replace hN1 := hN1.ext (Ext.setR (L := L9) (K := K9) (N := N9) (I := I9) (J := J9) (R := R9) (x := some p1) (b := x) (k := 0)) (fun u hu g1 g2 e => by rw [e, hA.2.1] at g1; omega)
  replace hE := hE.trans (Ext.setR (L := L9) (K := K9) (N := N9) (I := I9) (J := J9) (R := R9) (x := some p1) (b := x) (k := 0)) (P3 := fun a => a = x) (fun _ _ h => h) (fun _ _ h => h)
  have r0 : (u2 R9 x 0 (some p1)) x 0 = some p1 := u2_s
  refine x_aload_n (j := 0) hc dX2_init_15 rfl rfl ?_
  refine x_new (C := RX0) (T := TX0) (NN := 15) (ci := 1) hc (641) tyX0 tyX0_ok in_X2_init_1 rfl lcl_X2_init_7 lins_X2_init_1 lini_X2_init_1 (by omega) (by decide) dfvX0 ⟨Nat.le_of_ble_eq_true rfl, Nat.le_of_ble_eq_true rfl⟩ dX2_init_16 (fun p2 L3 K3 N3 I3 J3 R3 n3 => ?_)
  have hEp2 := hE
  replace r0 := (congrFun ((n3.ext).r hA.1 (fun h => h)) 0).trans r0
  replace hN1 := hN1.ext (n3.ext) (fun _ _ _ _ h => h)
  replace hA := (n3.ext).cell hA
  replace hE := hE.trans (n3.ext) (fun _ _ h => h) (fun _ _ h => h.elim)
  have hp2 := n3.2.1
  have np2 : p2 ∉ L := fun h => n3.1 (hEp2 p2 h).1
  refine x_dup hc dX2_init_19 rfl ?_
  refine x_callINF (b := p2) (As := []) (st := [.ref p2, .ref x]) hc (c_picInit l D z e0 L3 K3 N3 I3 J3 R3 2 p2 hp2 n3.2.2.1 n3.2.2.2.1) gX2_init_X0_init_n9 rfl hdS_X0_init ⟨Nat.le_of_ble_eq_true rfl, Nat.le_of_ble_eq_true rfl⟩ rfl hc.ev.2.2.2.2.1 lini_X2_init_X0_init lin_X2_init_X0_init rfl rfl ⟨Nat.le_of_ble_eq_true rfl, Nat.le_of_ble_eq_true rfl⟩ (Nat.le_of_ble_eq_true rfl) dX2_init_20 (fun v9 L9 K9 N9 I9 J9 R9 hz9 => ?_)
  obtain ⟨rfl, hN2, hF2⟩ := hz9
  replace hN1 := hN1.ext hF2 (fun u hu g1 g2 e => by rw [e, hp2.2.1] at g1 g2; omega)
  replace r0 := (congrFun (hF2.r hA.1 (hA.ne hp2 (by decide))) 0).trans r0
  replace hA := hF2.cell hA
  replace hE := hE.trans hF2 (P3 := fun a => a = x) (fun _ _ h => h) (fun a ha e => absurd (e ▸ ha) np2)
  refine x_putRF (C := RX2) (T := TX2) (NN := 5) (ci := 3) (ref := "NetPoints") hc 1 in_X2_init_3 rfl (by decide) lf_X2_init_16 (fun _ h9 => h9) tyX2 tyX2_ok nmX2 hA (by omega) (by decide) rfl rfl hname rfl pd_X2_1 rfl rfl dX2_init_23 ?_
  replace hN1 := hN1.ext (Ext.setR (L := L9) (K := K9) (N := N9) (I := I9) (J := J9) (R := R9) (x := some p2) (b := x) (k := 1)) (fun u hu g1 g2 e => by rw [e, hA.2.1] at g1; omega)
  replace hN2 := hN2.ext (Ext.setR (L := L9) (K := K9) (N := N9) (I := I9) (J := J9) (R := R9) (x := some p2) (b := x) (k := 1)) (fun u hu g1 g2 e => by rw [e, hA.2.1] at g1; omega)
  replace r0 := (u2_k (f := R9) (a := x) (k := 1) (x := some p2) (show 0 ≠ 1 by decide)).trans r0
  replace hE := hE.trans (Ext.setR (L := L9) (K := K9) (N := N9) (I := I9) (J := J9) (R := R9) (x := some p2) (b := x) (k := 1)) (P3 := fun a => a = x) (fun _ _ h => h) (fun _ _ h => h)
  have r1 : (u2 R9 x 1 (some p2)) x 1 = some p2 := u2_s
  refine x_aload_n (j := 0) hc dX2_init_26 rfl rfl ?_
  refine x_new (C := RJx4a65c) (T := TJx4a65c) (NN := 3) (ci := 0) hc (16) tyJx4a65c tyJx4a65c_ok in_X2_init_0 rfl lcl_X2_init_19 lins_X2_init_0 lini_X2_init_0 (by omega) (by decide) dfvJx4a65c ⟨Nat.le_of_ble_eq_true rfl, Nat.le_of_ble_eq_true rfl⟩ dX2_init_27 (fun sl L5 K5 N5 I5 J5 R5 n5 => ?_)
  have hEsl := hE
  replace r0 := (congrFun ((n5.ext).r hA.1 (fun h => h)) 0).trans r0
  replace r1 := (congrFun ((n5.ext).r hA.1 (fun h => h)) 1).trans r1
  replace hN1 := hN1.ext (n5.ext) (fun _ _ _ _ h => h)
  replace hN2 := hN2.ext (n5.ext) (fun _ _ _ _ h => h)
  replace hA := (n5.ext).cell hA
  replace hE := hE.trans (n5.ext) (fun _ _ h => h) (fun _ _ h => h.elim)
  have hsl := n5.2.1
  have nsl : sl ∉ L := fun h => n5.1 (hEsl sl h).1
  refine x_dup hc dX2_init_30 rfl ?_
  refine x_callIF (b := sl) (As := []) (st := [.ref sl, .ref x]) hc (c_listInit l D z e0 L5 K5 N5 I5 J5 R5 sl 16 hsl (by decide)) gX2_init_Jx4a65c_init_da8c8 rfl hdS_Jx4a65c_init_da8c8 ⟨Nat.le_of_ble_eq_true rfl, Nat.le_of_ble_eq_true rfl⟩ rfl lini_X2_init_Jx4a65c_init_da8c8 lml_X2_init_21 lin_X2_init_Jx4a65c_init_da8c8 rfl rfl ⟨Nat.le_of_ble_eq_true rfl, Nat.le_of_ble_eq_true rfl⟩ (Nat.le_of_ble_eq_true rfl) dX2_init_31 (fun v9 L9 K9 N9 I9 J9 R9 hz9 => ?_)
  obtain ⟨rfl, hL9, hK9, hN9, hI9, hJ9, hR9⟩ := hz9
  replace hL9 := hL9.symm
  subst hL9
  replace hK9 := hK9.symm
  subst hK9
  replace hN9 := hN9.symm
  subst hN9
  replace hI9 := hI9.symm
  subst hI9
  replace hJ9 := hJ9.symm
  subst hJ9
  replace hR9 := hR9.symm
  subst hR9
  have jsl := congrFun n5.2.2.1 2
  replace jsl := (u2_k (f := I5) (a := sl) (k := 0) (x := 0) (show 2 ≠ 0 by decide)).trans jsl
  replace hN1 := hN1.ext (Ext.setI (L := L5) (K := K5) (N := N5) (I := I5) (J := J5) (R := R5) (x := 0) (b := sl) (k := 0)) (fun u hu g1 g2 e => by rw [e, hsl.2.1] at g1 g2; omega)
  replace hN2 := hN2.ext (Ext.setI (L := L5) (K := K5) (N := N5) (I := I5) (J := J5) (R := R5) (x := 0) (b := sl) (k := 0)) (fun u hu g1 g2 e => by rw [e, hsl.2.1] at g1 g2; omega)
  replace r0 := (congrFun ((Ext.setI (L := L5) (K := K5) (N := N5) (I := I5) (J := J5) (R := R5) (x := 0) (b := sl) (k := 0)).r hA.1 (hA.ne hsl (by decide))) 0).trans r0
  replace r1 := (congrFun ((Ext.setI (L := L5) (K := K5) (N := N5) (I := I5) (J := J5) (R := R5) (x := 0) (b := sl) (k := 0)).r hA.1 (hA.ne hsl (by decide))) 1).trans r1
  replace hE := hE.trans (Ext.setI (L := L5) (K := K5) (N := N5) (I := I5) (J := J5) (R := R5) (x := 0) (b := sl) (k := 0)) (P3 := fun a => a = x) (fun _ _ h => h) (fun a ha e => absurd (e ▸ ha) nsl)
  replace hN1 := hN1.ext (Ext.setR (L := L5) (K := K5) (N := N5) (I := u2 I5 sl 0 0) (J := J5) (R := R5) (x := some e0) (b := sl) (k := 1)) (fun u hu g1 g2 e => by rw [e, hsl.2.1] at g1 g2; omega)
  replace hN2 := hN2.ext (Ext.setR (L := L5) (K := K5) (N := N5) (I := u2 I5 sl 0 0) (J := J5) (R := R5) (x := some e0) (b := sl) (k := 1)) (fun u hu g1 g2 e => by rw [e, hsl.2.1] at g1 g2; omega)
  replace r0 := (congrFun ((Ext.setR (L := L5) (K := K5) (N := N5) (I := u2 I5 sl 0 0) (J := J5) (R := R5) (x := some e0) (b := sl) (k := 1)).r hA.1 (hA.ne hsl (by decide))) 0).trans r0
  replace r1 := (congrFun ((Ext.setR (L := L5) (K := K5) (N := N5) (I := u2 I5 sl 0 0) (J := J5) (R := R5) (x := some e0) (b := sl) (k := 1)).r hA.1 (hA.ne hsl (by decide))) 1).trans r1
  replace hE := hE.trans (Ext.setR (L := L5) (K := K5) (N := N5) (I := u2 I5 sl 0 0) (J := J5) (R := R5) (x := some e0) (b := sl) (k := 1)) (P3 := fun a => a = x) (fun _ _ h => h) (fun a ha e => absurd (e ▸ ha) nsl)
  have rsl : (u2 R5 sl 1 (some e0)) sl 1 = some e0 := u2_s
  refine x_putRF (C := RX2) (T := TX2) (NN := 5) (ci := 3) (ref := "NetPoints") hc 2 in_X2_init_3 rfl (by decide) lf_X2_init_22 (fun _ h9 => h9) tyX2 tyX2_ok nmX2 hA (by omega) (by decide) rfl rfl hname rfl pd_X2_2 rfl rfl dX2_init_34 ?_
  replace hN1 := hN1.ext (Ext.setR (L := L5) (K := K5) (N := N5) (I := u2 I5 sl 0 0) (J := J5) (R := (u2 R5 sl 1 (some e0))) (x := some sl) (b := x) (k := 2)) (fun u hu g1 g2 e => by rw [e, hA.2.1] at g1; omega)
  replace hN2 := hN2.ext (Ext.setR (L := L5) (K := K5) (N := N5) (I := u2 I5 sl 0 0) (J := J5) (R := (u2 R5 sl 1 (some e0))) (x := some sl) (b := x) (k := 2)) (fun u hu g1 g2 e => by rw [e, hA.2.1] at g1; omega)
  replace r0 := (u2_k (f := (u2 R5 sl 1 (some e0))) (a := x) (k := 2) (x := some sl) (show 0 ≠ 2 by decide)).trans r0
  replace r1 := (u2_k (f := (u2 R5 sl 1 (some e0))) (a := x) (k := 2) (x := some sl) (show 1 ≠ 2 by decide)).trans r1
  replace rsl := (congrFun ((Ext.setR (L := L5) (K := K5) (N := N5) (I := u2 I5 sl 0 0) (J := J5) (R := (u2 R5 sl 1 (some e0))) (x := some sl) (b := x) (k := 2)).r hsl.1 (hsl.ne hA (by decide))) 1).trans rsl
  replace jsl := (congrFun ((Ext.setR (L := L5) (K := K5) (N := N5) (I := u2 I5 sl 0 0) (J := J5) (R := (u2 R5 sl 1 (some e0))) (x := some sl) (b := x) (k := 2)).i hsl.1 (hsl.ne hA (by decide))) 2).trans jsl
  replace hE := hE.trans (Ext.setR (L := L5) (K := K5) (N := N5) (I := u2 I5 sl 0 0) (J := J5) (R := (u2 R5 sl 1 (some e0))) (x := some sl) (b := x) (k := 2)) (P3 := fun a => a = x) (fun _ _ h => h) (fun _ _ h => h)
  have r2 : (u2 (u2 R5 sl 1 (some e0)) x 2 (some sl)) x 2 = some sl := u2_s
  refine x_aload_n (j := 0) hc dX2_init_37 rfl rfl ?_
  refine x_iconst (v := 0) hc dX2_init_38 (by decide) ?_
  refine x_putZ (C := RX2) (T := TX2) (NN := 5) (ci := 3) (ref := "NetPoints") hc 3 in_X2_init_3 rfl (by decide) lf_X2_init_26 (fun _ h9 => h9) tyX2 tyX2_ok nmX2 hA (by omega) (by decide) rfl rfl pd_X2_3 (by decide) (by decide) dX2_init_39 ?_
  replace hN1 := hN1.ext (Ext.setI (L := L5) (K := K5) (N := N5) (I := (u2 I5 sl 0 0)) (J := J5) (R := u2 (u2 R5 sl 1 (some e0)) x 2 (some sl)) (x := 0) (b := x) (k := 3)) (fun u hu g1 g2 e => by rw [e, hA.2.1] at g1; omega)
  replace hN2 := hN2.ext (Ext.setI (L := L5) (K := K5) (N := N5) (I := (u2 I5 sl 0 0)) (J := J5) (R := u2 (u2 R5 sl 1 (some e0)) x 2 (some sl)) (x := 0) (b := x) (k := 3)) (fun u hu g1 g2 e => by rw [e, hA.2.1] at g1; omega)
  replace rsl := (congrFun ((Ext.setI (L := L5) (K := K5) (N := N5) (I := (u2 I5 sl 0 0)) (J := J5) (R := u2 (u2 R5 sl 1 (some e0)) x 2 (some sl)) (x := 0) (b := x) (k := 3)).r hsl.1 (hsl.ne hA (by decide))) 1).trans rsl
  replace jsl := (congrFun ((Ext.setI (L := L5) (K := K5) (N := N5) (I := (u2 I5 sl 0 0)) (J := J5) (R := u2 (u2 R5 sl 1 (some e0)) x 2 (some sl)) (x := 0) (b := x) (k := 3)).i hsl.1 (hsl.ne hA (by decide))) 2).trans jsl
  replace hE := hE.trans (Ext.setI (L := L5) (K := K5) (N := N5) (I := (u2 I5 sl 0 0)) (J := J5) (R := u2 (u2 R5 sl 1 (some e0)) x 2 (some sl)) (x := 0) (b := x) (k := 3)) (P3 := fun a => a = x) (fun _ _ h => h) (fun _ _ h => h)
  refine x_aload_n (j := 0) hc dX2_init_42 rfl rfl ?_
  refine x_iconst (v := 0) hc dX2_init_43 (by decide) ?_
  refine x_putI (C := RX2) (T := TX2) (NN := 5) (ci := 3) (ref := "NetPoints") hc 4 in_X2_init_3 rfl (by decide) lf_X2_init_30 (fun _ h9 => h9) tyX2 tyX2_ok nmX2 hA (by omega) (by decide) rfl rfl pd_X2_4 dX2_init_44 ?_
  replace hN1 := hN1.ext (Ext.setI (L := L5) (K := K5) (N := N5) (I := (u2 (u2 I5 sl 0 0) x 3 0)) (J := J5) (R := u2 (u2 R5 sl 1 (some e0)) x 2 (some sl)) (x := 0) (b := x) (k := 4)) (fun u hu g1 g2 e => by rw [e, hA.2.1] at g1; omega)
  replace hN2 := hN2.ext (Ext.setI (L := L5) (K := K5) (N := N5) (I := (u2 (u2 I5 sl 0 0) x 3 0)) (J := J5) (R := u2 (u2 R5 sl 1 (some e0)) x 2 (some sl)) (x := 0) (b := x) (k := 4)) (fun u hu g1 g2 e => by rw [e, hA.2.1] at g1; omega)
  replace rsl := (congrFun ((Ext.setI (L := L5) (K := K5) (N := N5) (I := (u2 (u2 I5 sl 0 0) x 3 0)) (J := J5) (R := u2 (u2 R5 sl 1 (some e0)) x 2 (some sl)) (x := 0) (b := x) (k := 4)).r hsl.1 (hsl.ne hA (by decide))) 1).trans rsl
  replace jsl := (congrFun ((Ext.setI (L := L5) (K := K5) (N := N5) (I := (u2 (u2 I5 sl 0 0) x 3 0)) (J := J5) (R := u2 (u2 R5 sl 1 (some e0)) x 2 (some sl)) (x := 0) (b := x) (k := 4)).i hsl.1 (hsl.ne hA (by decide))) 2).trans jsl
  replace hE := hE.trans (Ext.setI (L := L5) (K := K5) (N := N5) (I := (u2 (u2 I5 sl 0 0) x 3 0)) (J := J5) (R := u2 (u2 R5 sl 1 (some e0)) x 2 (some sl)) (x := 0) (b := x) (k := 4)) (P3 := fun a => a = x) (fun _ _ h => h) (fun _ _ h => h)
  refine x_vretF hc hr (by decide) (by decide) dX2_init_47 (⟨rfl, ⟨hA, fun k hk => ?_, by rw [dr_of r2]; exact r2, by rw [dr_of r2]; exact lst_0 hsl (by decide) (by decide) jsl, u2_s, by decide, Or.inl ((u2_k (by decide)).trans u2_s)⟩, fun k hk => ?_, by rw [dr_of r2]; exact rsl, (u2_k (by decide)).trans u2_s, hE⟩)
  · rcases (show k = 0 ∨ k = 1 by omega) with rfl | rfl
    · rw [dr_of r0]; exact ⟨r0, hN1.1, hN1.2.1⟩
    · rw [dr_of r1]; exact ⟨r1, hN2.1, hN2.2.1⟩
  · rcases (show k = 0 ∨ k = 1 by omega) with rfl | rfl
    · rw [dr_of r0]; exact hN1
    · rw [dr_of r1]; exact hN2
