abbrev rm_X2_part : Room := { frames := 0, cells := 0, slots := 0, locals := 0 }
set_option maxHeartbeats 4000000 in
set_option maxRecDepth 100000 in
theorem c_part (l : Launch) (D : va_G) (z e0 : Nat) (L : List Nat) (K N : Nat → Nat) (I : Nat → Nat → Int32) (J : Nat → Nat → Int64) (R : Nat → Nat → Option Nat) (a : Int64) (r : Int32) : MG l yX2_part wsX2_part rm_X2_part D z e0 L K N I J R [.long a, .int r] (fun v I' J' => v = some (.long (prt a r)) ∧ I' = I ∧ J' = J) := by
  refine mg_of (own := RX2) (maxL := 3) (ret := (some .long)) (by decide +kernel) rfl rfl (Nat.le_of_ble_eq_true rfl) ?_
  intro pg ev s mi args below meth c hc hr
  refine x_lload_n (j := 0) hc dX2_part_0 rfl rfl ?_
  refine x_iload_n (j := 1) hc dX2_part_1 rfl rfl ?_
  refine x_i2l hc dX2_part_2 ?_
  refine x_lmul hc dX2_part_3 ?_
  refine x_ldc2 hc dX2_part_4 lc_X2_part_191 ?_
  refine x_ldiv hc dX2_part_7 (by decide) ?_
  exact x_lret hc hr (by decide) (by decide) dX2_part_8 (⟨rfl, rfl, rfl⟩)
abbrev rm_X1_shareOf : Room := { frames := 1, cells := 0, slots := 0, locals := 15 }
set_option maxHeartbeats 4000000 in
set_option maxRecDepth 100000 in
theorem c_shareOf (l : Launch) (D : va_G) (z e0 : Nat) (L : List Nat) (K N : Nat → Nat) (I : Nat → Nat → Int32) (J : Nat → Nat → Int64) (R : Nat → Nat → Option Nat) (a t0 : Nat) (hA : At L K N a t0 0) (h2 : t0 % 16 = 2) (x : Int64) : MG l yX1_shareOf wsX1_shareOf rm_X1_shareOf D z e0 L K N I J R [.ref a, .long x] (fun v I' J' => v = some (.long (shareOf x (shV I a))) ∧ I' = I ∧ J' = J) := by
  refine mg_of (own := RX1) (maxL := 7) (ret := (some .long)) (by decide +kernel) rfl rfl (Nat.le_of_ble_eq_true rfl) ?_
  intro pg ev s mi args below meth c hc hr
  refine x_lload_n (j := 1) hc dX1_shareOf_0 rfl rfl ?_
  refine x_aload_n (j := 0) hc dX1_shareOf_1 rfl rfl ?_
  refine x_getI (C := RX1) (T := TX1) (NN := 7) (ci := 2) (ref := "NetPoints$Sharer") hc 3 in_X1_shareOf_2 rfl (by decide) lf_X1_shareOf_22 (fun _ h9 => h9) hA (by omega) (by decide) rfl dX1_shareOf_2 ?_
  refine x_i2l hc dX1_shareOf_5 ?_
  refine x_mminl hc lml_X1_shareOf_31 lst_X1_shareOf_31 lini_X1_shareOf_Math lcd_X1_shareOf_31 (Nat.le_of_ble_eq_true rfl) (Nat.le_of_ble_eq_true rfl) (Nat.le_of_ble_eq_true rfl) (Nat.le_of_ble_eq_true rfl) dX1_shareOf_6 ?_
  refine x_lstore_n (lv' := [(3, .long (if (Int32.toInt64 (I a 3)) < x then (Int32.toInt64 (I a 3)) else x)), (0, .ref a), (1, .long x)]) hc dX1_shareOf_9 rfl (by decide) rfl ?_
  refine x_lload_n (j := 2) hc dX1_shareOf_10 rfl rfl ?_
  refine x_lload_n (j := 0) hc dX1_shareOf_11 rfl rfl ?_
  refine x_lsub hc dX1_shareOf_12 ?_
  refine x_lstore (lv' := [(5, .long (x - (if (Int32.toInt64 (I a 3)) < x then (Int32.toInt64 (I a 3)) else x))), (3, .long (if (Int32.toInt64 (I a 3)) < x then (Int32.toInt64 (I a 3)) else x)), (0, .ref a), (1, .long x)]) hc dX1_shareOf_13 (by decide) rfl ?_
  refine x_lload_n (j := 1) hc dX1_shareOf_15 rfl rfl ?_
  refine x_aload_n (j := 2) hc dX1_shareOf_16 rfl rfl ?_
  refine x_getI (C := RX1) (T := TX1) (NN := 7) (ci := 2) (ref := "NetPoints$Sharer") hc 4 in_X1_shareOf_2 rfl (by decide) lf_X1_shareOf_25 (fun _ h9 => h9) hA (by omega) (by decide) rfl dX1_shareOf_17 ?_
  refine x_i2l hc dX1_shareOf_20 ?_
  refine x_lmul hc dX1_shareOf_21 ?_
  refine x_lload (j := 0) hc dX1_shareOf_22 rfl ?_
  refine x_aload_n (j := 2) hc dX1_shareOf_24 rfl rfl ?_
  refine x_getI (C := RX1) (T := TX1) (NN := 7) (ci := 2) (ref := "NetPoints$Sharer") hc 5 in_X1_shareOf_2 rfl (by decide) lf_X1_shareOf_28 (fun _ h9 => h9) hA (by omega) (by decide) rfl dX1_shareOf_25 ?_
  refine x_i2l hc dX1_shareOf_28 ?_
  refine x_lmul hc dX1_shareOf_29 ?_
  refine x_ladd hc dX1_shareOf_30 ?_
  refine x_ldc2 hc dX1_shareOf_31 lc_X1_shareOf_37 ?_
  refine x_ldiv hc dX1_shareOf_34 (by decide) ?_
  exact x_lret hc hr (by decide) (by decide) dX1_shareOf_35 (⟨rfl, rfl, rfl⟩)
abbrev rm_X1_bonusAt : Room := { frames := 0, cells := 0, slots := 0, locals := 0 }
set_option maxHeartbeats 4000000 in
set_option maxRecDepth 100000 in
theorem c_bonusAt (l : Launch) (D : va_G) (z e0 : Nat) (L : List Nat) (K N : Nat → Nat) (I : Nat → Nat → Int32) (J : Nat → Nat → Int64) (R : Nat → Nat → Option Nat) (a t0 : Nat) (hA : At L K N a t0 0) (h2 : t0 % 16 = 2) (x : Int64) : MG l yX1_bonusAt wsX1_bonusAt rm_X1_bonusAt D z e0 L K N I J R [.ref a, .long x] (fun v I' J' => v = some (.long (bonusAt x (shV I a))) ∧ I' = I ∧ J' = J) := by
  refine mg_of (own := RX1) (maxL := 3) (ret := (some .long)) (by decide +kernel) rfl rfl (Nat.le_of_ble_eq_true rfl) ?_
  intro pg ev s mi args below meth c hc hr
  refine x_lload_n (j := 1) hc dX1_bonusAt_0 rfl rfl ?_
  refine x_aload_n (j := 0) hc dX1_bonusAt_1 rfl rfl ?_
  refine x_getI (C := RX1) (T := TX1) (NN := 7) (ci := 2) (ref := "NetPoints$Sharer") hc 3 in_X1_bonusAt_2 rfl (by decide) lf_X1_bonusAt_22 (fun _ h9 => h9) hA (by omega) (by decide) rfl dX1_bonusAt_2 ?_
  refine x_i2l hc dX1_bonusAt_5 ?_
  refine x_lcmp hc dX1_bonusAt_6 ?_
  refine x_if_lt (tgt := 22) hc dX1_bonusAt_7 (by decide) (fun q1 => ?_) (fun q1 => ?_)
  · refine x_lconst (v := 0) hc dX1_bonusAt_22 rfl ?_
    exact x_lret hc hr (by decide) (by decide) dX1_bonusAt_23 (⟨congrArg (fun v => some (Value.long v)) (bonusAt_0 (q := shV I a) ((lg_cmp_lt _ _).mp q1)).symm, rfl, rfl⟩)
  · refine x_aload_n (j := 0) hc dX1_bonusAt_10 rfl rfl ?_
    refine x_getI (C := RX1) (T := TX1) (NN := 7) (ci := 2) (ref := "NetPoints$Sharer") hc 4 in_X1_bonusAt_2 rfl (by decide) lf_X1_bonusAt_25 (fun _ h9 => h9) hA (by omega) (by decide) rfl dX1_bonusAt_11 ?_
    refine x_i2l hc dX1_bonusAt_14 ?_
    refine x_ldc2 hc dX1_bonusAt_15 lc_X1_bonusAt_39 ?_
    refine x_lmul hc dX1_bonusAt_18 ?_
    refine x_goto (tgt := 23) hc dX1_bonusAt_19 (by decide) ?_
    exact x_lret hc hr (by decide) (by decide) dX1_bonusAt_23 (⟨congrArg (fun v => some (Value.long v)) (bonusAt_1 (q := shV I a) (fun h => q1 ((lg_cmp_lt _ _).mpr h))).symm, rfl, rfl⟩)
abbrev rm_Jx4a65c_size_8abf5 : Room := { frames := 0, cells := 0, slots := 0, locals := 0 }
set_option maxHeartbeats 4000000 in
set_option maxRecDepth 100000 in
theorem c_size (l : Launch) (D : va_G) (z e0 : Nat) (L : List Nat) (K N : Nat → Nat) (I : Nat → Nat → Int32) (J : Nat → Nat → Int64) (R : Nat → Nat → Option Nat) (sl t0 n : Nat) (hA : At L K N sl t0 0) (h0 : t0 % 16 = 0) (hn : I sl 2 = nI n) : MG l yJx4a65c_size_8abf5 wsJx4a65c_size_8abf5 rm_Jx4a65c_size_8abf5 D z e0 L K N I J R [.ref sl] (fun v I' J' => v = some (.int (nI n)) ∧ I' = I ∧ J' = J) := by
  refine mg_of (own := RJx4a65c) (maxL := 1) (ret := (some .int)) (by decide +kernel) rfl rfl (Nat.le_of_ble_eq_true rfl) ?_
  intro pg ev s mi args below meth c hc hr
  refine x_aload_n (j := 0) hc dJx4a65c_size_8abf5_0 rfl rfl ?_
  refine x_getI (C := RJx4a65c) (T := TJx4a65c) (NN := 3) (ci := 0) (ref := "java/util/ArrayList") hc 2 in_Jx4a65c_size_8abf5_0 rfl (by decide) lf_Jx4a65c_size_8abf5_48 (fun _ h9 => h9) hA (by omega) (by decide) rfl dJx4a65c_size_8abf5_1 ?_
  refine x_vali (hn) ?_
  exact x_iret hc hr (by decide) (by decide) dJx4a65c_size_8abf5_4 (⟨rfl, rfl, rfl⟩)
abbrev rm_J3_checkIndex_8e157 : Room := { frames := 0, cells := 0, slots := 0, locals := 0 }
set_option maxHeartbeats 4000000 in
set_option maxRecDepth 100000 in
theorem c_checkIndexP (l : Launch) (D : va_G) (z e0 : Nat) (L : List Nat) (K N : Nat → Nat) (I : Nat → Nat → Int32) (J : Nat → Nat → Int64) (R : Nat → Nat → Option Nat) (i n : Nat) (hi : i < n) (hn : n ≤ 8) : MG l yJ3_checkIndex_8e157 wsJ3_checkIndex_8e157 rm_J3_checkIndex_8e157 D z e0 L K N I J R [.int (nI i), .int (nI n), .null] (fun v I' J' => v = some (.int (nI i)) ∧ I' = I ∧ J' = J) := by
  refine mg_of (own := RJ3) (maxL := 3) (ret := (some .int)) (by decide +kernel) rfl rfl (Nat.le_of_ble_eq_true rfl) ?_
  intro pg ev s mi args below meth c hc hr
  refine x_iload_n (j := 0) hc dJ3_checkIndex_8e157_0 rfl rfl ?_
  refine x_if_lt (tgt := 9) hc dJ3_checkIndex_8e157_1 (by decide) (fun q9 => absurd q9 (nI_pos (Nat.lt_of_lt_of_le hi (Nat.le_trans hn (by decide))))) (fun _ => ?_)
  refine x_iload_n (j := 0) hc dJ3_checkIndex_8e157_4 rfl rfl ?_
  refine x_iload_n (j := 1) hc dJ3_checkIndex_8e157_5 rfl rfl ?_
  refine x_icmp_lt (tgt := 16) hc dJ3_checkIndex_8e157_6 (by decide) (fun _ => ?_) (fun q9 => absurd (nI_lt hi (Nat.lt_of_le_of_lt hn (by decide))) q9)
  refine x_iload_n (j := 0) hc dJ3_checkIndex_8e157_16 rfl rfl ?_
  exact x_iret hc hr (by decide) (by decide) dJ3_checkIndex_8e157_17 (⟨rfl, rfl, rfl⟩)
abbrev rm_J15_checkIndex_7cf53 : Room := { frames := 1, cells := 0, slots := 0, locals := 22 }
set_option maxHeartbeats 4000000 in
set_option maxRecDepth 100000 in
theorem c_checkIndexO (l : Launch) (D : va_G) (z e0 : Nat) (L : List Nat) (K N : Nat → Nat) (I : Nat → Nat → Int32) (J : Nat → Nat → Int64) (R : Nat → Nat → Option Nat) (i n : Nat) (hi : i < n) (hn : n ≤ 8) : MG l yJ15_checkIndex_7cf53 wsJ15_checkIndex_7cf53 rm_J15_checkIndex_7cf53 D z e0 L K N I J R [.int (nI i), .int (nI n)] (fun v I' J' => v = some (.int (nI i)) ∧ I' = I ∧ J' = J) := by
  refine mg_of (own := RJ15) (maxL := 2) (ret := (some .int)) (by decide +kernel) rfl rfl (Nat.le_of_ble_eq_true rfl) ?_
  intro pg ev s mi args below meth c hc hr
  refine x_iload_n (j := 0) hc dJ15_checkIndex_7cf53_0 rfl rfl ?_
  refine x_iload_n (j := 1) hc dJ15_checkIndex_7cf53_1 rfl rfl ?_
  refine x_null hc dJ15_checkIndex_7cf53_2 ?_
  refine x_callS (As := [.int (nI i), .int (nI n), .null]) (st := []) hc (c_checkIndexP l D z e0 L K N I J R i n hi hn) gJ15_checkIndex_7cf53_J3_checkIndex_8e157 rfl hdS_J3_checkIndex_8e157 ⟨Nat.le_of_ble_eq_true rfl, Nat.le_of_ble_eq_true rfl⟩ rfl rfl ⟨Nat.le_of_ble_eq_true rfl, Nat.le_of_ble_eq_true rfl⟩ (Nat.le_of_ble_eq_true rfl) dJ15_checkIndex_7cf53_3 (fun v9 I9 J9 hz9 => ?_)
  obtain ⟨rfl, hI9, hJ9⟩ := hz9
  replace hI9 := hI9.symm
  subst hI9
  replace hJ9 := hJ9.symm
  subst hJ9
  exact x_iret hc hr (by decide) (by decide) dJ15_checkIndex_7cf53_6 (⟨rfl, rfl, rfl⟩)
abbrev rm_Jx4a65c_elementData_915e3 : Room := { frames := 0, cells := 0, slots := 0, locals := 0 }
set_option maxHeartbeats 4000000 in
set_option maxRecDepth 100000 in
theorem c_elementData (l : Launch) (D : va_G) (z e0 : Nat) (L : List Nat) (K N : Nat → Nat) (I : Nat → Nat → Int32) (J : Nat → Nat → Int64) (R : Nat → Nat → Option Nat) (sl t te n i : Nat) (h : Lst L K N I R sl t te n) (hi : i < n) : MG l yJx4a65c_elementData_915e3 wsJx4a65c_elementData_915e3 rm_Jx4a65c_elementData_915e3 D z e0 L K N I J R [.ref sl, .int (nI i)] (fun v I' J' => v = some (.ref (shA R sl i)) ∧ I' = I ∧ J' = J) := by
  refine mg_of (own := RJx4a65c) (maxL := 2) (ret := (some (.object "java/lang/Object"))) (by decide +kernel) rfl rfl (Nat.le_of_ble_eq_true rfl) ?_
  intro pg ev s mi args below meth c hc hr
  have h0 := h.2.1
  have h7 := h.2.2.2.2.1
  refine x_aload_n (j := 0) hc dJx4a65c_elementData_915e3_0 rfl rfl ?_
  refine x_getR (C := RJx4a65c) (T := TJx4a65c) (NN := 3) (ci := 0) (ref := "java/util/ArrayList") hc 1 in_Jx4a65c_elementData_915e3_0 rfl (by decide) lf_Jx4a65c_elementData_915e3_9 (fun _ h9 => h9) h.1 (by omega) (by decide) rfl ((h.2.2.2.2.2 (Nat.lt_of_le_of_lt (Nat.zero_le _) hi)).1) dJx4a65c_elementData_915e3_1 ?_
  refine x_iload_n (j := 1) hc dJx4a65c_elementData_915e3_4 rfl rfl ?_
  refine x_aaldO hc ((h.2.2.2.2.2 (Nat.lt_of_le_of_lt (Nat.zero_le _) hi)).2.1) (by decide) rfl (Nat.lt_of_lt_of_le hi (Nat.le_trans h.2.2.2.1 (by decide))) (by omega) (((h.2.2.2.2.2 (Nat.lt_of_le_of_lt (Nat.zero_le _) hi)).2.2 i hi).1) dJx4a65c_elementData_915e3_5 ?_
  exact x_aret hc hr (Or.inl ⟨_, rfl⟩) (by decide) (by decide) dJx4a65c_elementData_915e3_6 (⟨rfl, rfl, rfl⟩)
abbrev rm_Jx4a65c_get_915e3 : Room := { frames := 2, cells := 0, slots := 0, locals := 43 }
set_option maxHeartbeats 4000000 in
set_option maxRecDepth 100000 in
theorem c_get (l : Launch) (D : va_G) (z e0 : Nat) (L : List Nat) (K N : Nat → Nat) (I : Nat → Nat → Int32) (J : Nat → Nat → Int64) (R : Nat → Nat → Option Nat) (sl t te n i : Nat) (h : Lst L K N I R sl t te n) (hi : i < n) : MG l yJx4a65c_get_915e3 wsJx4a65c_get_915e3 rm_Jx4a65c_get_915e3 D z e0 L K N I J R [.ref sl, .int (nI i)] (fun v I' J' => v = some (.ref (shA R sl i)) ∧ I' = I ∧ J' = J) := by
  refine mg_of (own := RJx4a65c) (maxL := 2) (ret := (some (.object "java/lang/Object"))) (by decide +kernel) rfl rfl (Nat.le_of_ble_eq_true rfl) ?_
  intro pg ev s mi args below meth c hc hr
  have h0 := h.2.1
  have h7 := h.2.2.2.2.1
  refine x_iload_n (j := 1) hc dJx4a65c_get_915e3_0 rfl rfl ?_
  refine x_aload_n (j := 0) hc dJx4a65c_get_915e3_1 rfl rfl ?_
  refine x_getI (C := RJx4a65c) (T := TJx4a65c) (NN := 3) (ci := 0) (ref := "java/util/ArrayList") hc 2 in_Jx4a65c_get_915e3_0 rfl (by decide) lf_Jx4a65c_get_915e3_48 (fun _ h9 => h9) h.1 (by omega) (by decide) rfl dJx4a65c_get_915e3_2 ?_
  refine x_vali (h.2.2.1) ?_
  refine x_callS (As := [.int (nI i), .int (nI n)]) (st := []) hc (c_checkIndexO l D z e0 L K N I J R i n hi h.2.2.2.1) gJx4a65c_get_915e3_J15_checkIndex_7cf53 rfl hdS_J15_checkIndex_7cf53 ⟨Nat.le_of_ble_eq_true rfl, Nat.le_of_ble_eq_true rfl⟩ rfl rfl ⟨Nat.le_of_ble_eq_true rfl, Nat.le_of_ble_eq_true rfl⟩ (Nat.le_of_ble_eq_true rfl) dJx4a65c_get_915e3_5 (fun v9 I9 J9 hz9 => ?_)
  obtain ⟨rfl, hI9, hJ9⟩ := hz9
  replace hI9 := hI9.symm
  subst hI9
  replace hJ9 := hJ9.symm
  subst hJ9
  refine x_pop hc dJx4a65c_get_915e3_8 rfl ?_
  refine x_aload_n (j := 0) hc dJx4a65c_get_915e3_9 rfl rfl ?_
  refine x_iload_n (j := 1) hc dJx4a65c_get_915e3_10 rfl rfl ?_
  refine x_callV (C := RJx4a65c) (T := TJx4a65c) (NN := 3) (ci := 0) (As := [.int (nI i)]) (st := []) hc h.1 (by omega) (by decide) rfl (c_elementData l D z e0 L K N I J R sl t te n i h hi) gJx4a65c_get_915e3_Jx4a65c_elementData_915e3 rfl hdV_Jx4a65c_elementData_915e3 ⟨Nat.le_of_ble_eq_true rfl, Nat.le_of_ble_eq_true rfl⟩ rfl rfl ⟨Nat.le_of_ble_eq_true rfl, Nat.le_of_ble_eq_true rfl⟩ (Nat.le_of_ble_eq_true rfl) dJx4a65c_get_915e3_11 (fun v9 I9 J9 hz9 => ?_)
  obtain ⟨rfl, hI9, hJ9⟩ := hz9
  replace hI9 := hI9.symm
  subst hI9
  replace hJ9 := hJ9.symm
  subst hJ9
  exact x_aret hc hr (Or.inl ⟨_, rfl⟩) (by decide) (by decide) dJx4a65c_get_915e3_14 (⟨rfl, rfl, rfl⟩)
abbrev rm_X0_grossIn : Room := { frames := 0, cells := 0, slots := 0, locals := 0 }
set_option maxHeartbeats 4000000 in
set_option maxRecDepth 100000 in
theorem c_grossIn (l : Launch) (D : va_G) (z e0 : Nat) (L : List Nat) (K N : Nat → Nat) (I : Nat → Nat → Int32) (J : Nat → Nat → Int64) (R : Nat → Nat → Option Nat) (b p : Nat) (hp : Pic L K N R b p) (y : Nat) (hy : y < 10) : MG l yX0_grossIn wsX0_grossIn rm_X0_grossIn D z e0 L K N I J R [.ref p, .int (nI y)] (fun v I' J' => v = some (.long (grossY (I (rwA R p y)))) ∧ I' = I ∧ J' = J) := by
  refine mg_of (own := RX0) (maxL := 5) (ret := (some .long)) (by decide +kernel) rfl rfl (Nat.le_of_ble_eq_true rfl) ?_
  intro pg ev s mi args below meth c hc hr
  obtain ⟨hp0, hp1, hp2, hp3, hp4, hp5, hp6, hp7, hp8, hp9, hp10, hp11, hp12⟩ := hp
  refine x_lconst (v := 0) hc dX0_grossIn_0 rfl ?_
  refine x_lstore_n (lv' := [(2, .long 0), (0, .ref p), (1, .int (nI y))]) hc dX0_grossIn_1 rfl (by decide) rfl ?_
  refine x_iconst (v := 0) hc dX0_grossIn_2 (by decide) ?_
  refine x_istore (lv' := [(4, .int 0), (2, .long 0), (0, .ref p), (1, .int (nI y))]) hc dX0_grossIn_3 (by decide) rfl ?_
  refine x_iload (j := 0) hc dX0_grossIn_5 rfl ?_
  refine x_iconst (v := 4) hc dX0_grossIn_7 (by decide) ?_
  refine x_icmp_ge (tgt := 30) hc dX0_grossIn_8 (by decide) (fun q9 => absurd q9 (by decide)) (fun _ => ?_)
  refine x_lload_n (j := 1) hc dX0_grossIn_11 rfl rfl ?_
  refine x_aload_n (j := 2) hc dX0_grossIn_12 rfl rfl ?_
  refine x_getR (C := RX0) (T := TX0) (NN := 15) (ci := 1) (ref := "NetPoints$Picture") hc 0 in_X0_grossIn_1 rfl (by decide) lf_X0_grossIn_11 (fun _ h9 => h9) hp0 (by omega) (by decide) rfl hp1 dX0_grossIn_13 ?_
  refine x_iload_n (j := 3) hc dX0_grossIn_16 rfl rfl ?_
  refine x_aaldA hc hp2 (by decide) rfl hy (by omega) ((hp3 y hy).1) dX0_grossIn_17 ?_
  refine x_iload (j := 0) hc dX0_grossIn_18 rfl ?_
  refine x_iald hc ((hp3 y hy).2) (by decide) rfl (by decide) (by omega) dX0_grossIn_20 ?_
  refine x_i2l hc dX0_grossIn_21 ?_
  refine x_ladd hc dX0_grossIn_22 ?_
  refine x_lstore_n (lv' := [(2, .long (0 + (Int32.toInt64 (I (rwA R p y) 0)))), (4, .int 0), (0, .ref p), (1, .int (nI y))]) hc dX0_grossIn_23 rfl (by decide) rfl ?_
  refine x_iinc (j := 1) (v := 1) (lv' := [(4, .int 1), (2, .long (0 + (Int32.toInt64 (I (rwA R p y) 0)))), (0, .ref p), (1, .int (nI y))]) hc dX0_grossIn_24 rfl (by decide) (by decide) rfl ?_
  refine x_goto (tgt := 5) hc dX0_grossIn_27 (by decide) ?_
  refine x_iload (j := 0) hc dX0_grossIn_5 rfl ?_
  refine x_iconst (v := 4) hc dX0_grossIn_7 (by decide) ?_
  refine x_icmp_ge (tgt := 30) hc dX0_grossIn_8 (by decide) (fun q9 => absurd q9 (by decide)) (fun _ => ?_)
  refine x_lload_n (j := 1) hc dX0_grossIn_11 rfl rfl ?_
  refine x_aload_n (j := 2) hc dX0_grossIn_12 rfl rfl ?_
  refine x_getR (C := RX0) (T := TX0) (NN := 15) (ci := 1) (ref := "NetPoints$Picture") hc 0 in_X0_grossIn_1 rfl (by decide) lf_X0_grossIn_11 (fun _ h9 => h9) hp0 (by omega) (by decide) rfl hp1 dX0_grossIn_13 ?_
  refine x_iload_n (j := 3) hc dX0_grossIn_16 rfl rfl ?_
  refine x_aaldA hc hp2 (by decide) rfl hy (by omega) ((hp3 y hy).1) dX0_grossIn_17 ?_
  refine x_iload (j := 0) hc dX0_grossIn_18 rfl ?_
  refine x_iald hc ((hp3 y hy).2) (by decide) rfl (by decide) (by omega) dX0_grossIn_20 ?_
  refine x_i2l hc dX0_grossIn_21 ?_
  refine x_ladd hc dX0_grossIn_22 ?_
  refine x_lstore_n (lv' := [(2, .long ((0 + (Int32.toInt64 (I (rwA R p y) 0))) + (Int32.toInt64 (I (rwA R p y) 1)))), (4, .int 1), (0, .ref p), (1, .int (nI y))]) hc dX0_grossIn_23 rfl (by decide) rfl ?_
  refine x_iinc (j := 1) (v := 2) (lv' := [(4, .int 2), (2, .long ((0 + (Int32.toInt64 (I (rwA R p y) 0))) + (Int32.toInt64 (I (rwA R p y) 1)))), (0, .ref p), (1, .int (nI y))]) hc dX0_grossIn_24 rfl (by decide) (by decide) rfl ?_
  refine x_goto (tgt := 5) hc dX0_grossIn_27 (by decide) ?_
  refine x_iload (j := 0) hc dX0_grossIn_5 rfl ?_
  refine x_iconst (v := 4) hc dX0_grossIn_7 (by decide) ?_
  refine x_icmp_ge (tgt := 30) hc dX0_grossIn_8 (by decide) (fun q9 => absurd q9 (by decide)) (fun _ => ?_)
  refine x_lload_n (j := 1) hc dX0_grossIn_11 rfl rfl ?_
  refine x_aload_n (j := 2) hc dX0_grossIn_12 rfl rfl ?_
  refine x_getR (C := RX0) (T := TX0) (NN := 15) (ci := 1) (ref := "NetPoints$Picture") hc 0 in_X0_grossIn_1 rfl (by decide) lf_X0_grossIn_11 (fun _ h9 => h9) hp0 (by omega) (by decide) rfl hp1 dX0_grossIn_13 ?_
  refine x_iload_n (j := 3) hc dX0_grossIn_16 rfl rfl ?_
  refine x_aaldA hc hp2 (by decide) rfl hy (by omega) ((hp3 y hy).1) dX0_grossIn_17 ?_
  refine x_iload (j := 0) hc dX0_grossIn_18 rfl ?_
  refine x_iald hc ((hp3 y hy).2) (by decide) rfl (by decide) (by omega) dX0_grossIn_20 ?_
  refine x_i2l hc dX0_grossIn_21 ?_
  refine x_ladd hc dX0_grossIn_22 ?_
  refine x_lstore_n (lv' := [(2, .long (((0 + (Int32.toInt64 (I (rwA R p y) 0))) + (Int32.toInt64 (I (rwA R p y) 1))) + (Int32.toInt64 (I (rwA R p y) 2)))), (4, .int 2), (0, .ref p), (1, .int (nI y))]) hc dX0_grossIn_23 rfl (by decide) rfl ?_
  refine x_iinc (j := 1) (v := 3) (lv' := [(4, .int 3), (2, .long (((0 + (Int32.toInt64 (I (rwA R p y) 0))) + (Int32.toInt64 (I (rwA R p y) 1))) + (Int32.toInt64 (I (rwA R p y) 2)))), (0, .ref p), (1, .int (nI y))]) hc dX0_grossIn_24 rfl (by decide) (by decide) rfl ?_
  refine x_goto (tgt := 5) hc dX0_grossIn_27 (by decide) ?_
  refine x_iload (j := 0) hc dX0_grossIn_5 rfl ?_
  refine x_iconst (v := 4) hc dX0_grossIn_7 (by decide) ?_
  refine x_icmp_ge (tgt := 30) hc dX0_grossIn_8 (by decide) (fun q9 => absurd q9 (by decide)) (fun _ => ?_)
  refine x_lload_n (j := 1) hc dX0_grossIn_11 rfl rfl ?_
  refine x_aload_n (j := 2) hc dX0_grossIn_12 rfl rfl ?_
  refine x_getR (C := RX0) (T := TX0) (NN := 15) (ci := 1) (ref := "NetPoints$Picture") hc 0 in_X0_grossIn_1 rfl (by decide) lf_X0_grossIn_11 (fun _ h9 => h9) hp0 (by omega) (by decide) rfl hp1 dX0_grossIn_13 ?_
  refine x_iload_n (j := 3) hc dX0_grossIn_16 rfl rfl ?_
  refine x_aaldA hc hp2 (by decide) rfl hy (by omega) ((hp3 y hy).1) dX0_grossIn_17 ?_
  refine x_iload (j := 0) hc dX0_grossIn_18 rfl ?_
  refine x_iald hc ((hp3 y hy).2) (by decide) rfl (by decide) (by omega) dX0_grossIn_20 ?_
  refine x_i2l hc dX0_grossIn_21 ?_
  refine x_ladd hc dX0_grossIn_22 ?_
  refine x_lstore_n (lv' := [(2, .long ((((0 + (Int32.toInt64 (I (rwA R p y) 0))) + (Int32.toInt64 (I (rwA R p y) 1))) + (Int32.toInt64 (I (rwA R p y) 2))) + (Int32.toInt64 (I (rwA R p y) 3)))), (4, .int 3), (0, .ref p), (1, .int (nI y))]) hc dX0_grossIn_23 rfl (by decide) rfl ?_
  refine x_iinc (j := 1) (v := 4) (lv' := [(4, .int 4), (2, .long ((((0 + (Int32.toInt64 (I (rwA R p y) 0))) + (Int32.toInt64 (I (rwA R p y) 1))) + (Int32.toInt64 (I (rwA R p y) 2))) + (Int32.toInt64 (I (rwA R p y) 3)))), (0, .ref p), (1, .int (nI y))]) hc dX0_grossIn_24 rfl (by decide) (by decide) rfl ?_
  refine x_goto (tgt := 5) hc dX0_grossIn_27 (by decide) ?_
  refine x_iload (j := 0) hc dX0_grossIn_5 rfl ?_
  refine x_iconst (v := 4) hc dX0_grossIn_7 (by decide) ?_
  refine x_icmp_ge (tgt := 30) hc dX0_grossIn_8 (by decide) (fun _ => ?_) (fun q9 => absurd (by decide) q9)
  refine x_lload_n (j := 1) hc dX0_grossIn_30 rfl rfl ?_
  exact x_lret hc hr (by decide) (by decide) dX0_grossIn_31 (⟨rfl, rfl, rfl⟩)
abbrev rm_X0_feesIn : Room := { frames := 1, cells := 0, slots := 0, locals := 22 }
set_option maxHeartbeats 4000000 in
set_option maxRecDepth 100000 in
theorem c_feesIn (l : Launch) (D : va_G) (z e0 : Nat) (L : List Nat) (K N : Nat → Nat) (I : Nat → Nat → Int32) (J : Nat → Nat → Int64) (R : Nat → Nat → Option Nat) (b p : Nat) (hp : Pic L K N R b p) (y : Nat) (hy : y < 10) : MG l yX0_feesIn wsX0_feesIn rm_X0_feesIn D z e0 L K N I J R [.ref p, .int (nI y)] (fun v I' J' => v = some (.long (feesY (I (rwA R p y)) (I (dr R p 2)))) ∧ I' = I ∧ J' = J) := by
  refine mg_of (own := RX0) (maxL := 5) (ret := (some .long)) (by decide +kernel) rfl rfl (Nat.le_of_ble_eq_true rfl) ?_
  intro pg ev s mi args below meth c hc hr
  obtain ⟨hp0, hp1, hp2, hp3, hp4, hp5, hp6, hp7, hp8, hp9, hp10, hp11, hp12⟩ := hp
  refine x_lconst (v := 0) hc dX0_feesIn_0 rfl ?_
  refine x_lstore_n (lv' := [(2, .long 0), (0, .ref p), (1, .int (nI y))]) hc dX0_feesIn_1 rfl (by decide) rfl ?_
  refine x_iconst (v := 0) hc dX0_feesIn_2 (by decide) ?_
  refine x_istore (lv' := [(4, .int 0), (2, .long 0), (0, .ref p), (1, .int (nI y))]) hc dX0_feesIn_3 (by decide) rfl ?_
  refine x_iload (j := 0) hc dX0_feesIn_5 rfl ?_
  refine x_iconst (v := 4) hc dX0_feesIn_7 (by decide) ?_
  refine x_icmp_ge (tgt := 40) hc dX0_feesIn_8 (by decide) (fun q9 => absurd q9 (by decide)) (fun _ => ?_)
  refine x_lload_n (j := 1) hc dX0_feesIn_11 rfl rfl ?_
  refine x_aload_n (j := 2) hc dX0_feesIn_12 rfl rfl ?_
  refine x_getR (C := RX0) (T := TX0) (NN := 15) (ci := 1) (ref := "NetPoints$Picture") hc 0 in_X0_feesIn_1 rfl (by decide) lf_X0_feesIn_11 (fun _ h9 => h9) hp0 (by omega) (by decide) rfl hp1 dX0_feesIn_13 ?_
  refine x_iload_n (j := 3) hc dX0_feesIn_16 rfl rfl ?_
  refine x_aaldA hc hp2 (by decide) rfl hy (by omega) ((hp3 y hy).1) dX0_feesIn_17 ?_
  refine x_iload (j := 0) hc dX0_feesIn_18 rfl ?_
  refine x_iald hc ((hp3 y hy).2) (by decide) rfl (by decide) (by omega) dX0_feesIn_20 ?_
  refine x_i2l hc dX0_feesIn_21 ?_
  refine x_aload_n (j := 2) hc dX0_feesIn_22 rfl rfl ?_
  refine x_getR (C := RX0) (T := TX0) (NN := 15) (ci := 1) (ref := "NetPoints$Picture") hc 2 in_X0_feesIn_1 rfl (by decide) lf_X0_feesIn_20 (fun _ h9 => h9) hp0 (by omega) (by decide) rfl hp6 dX0_feesIn_23 ?_
  refine x_iload (j := 0) hc dX0_feesIn_26 rfl ?_
  refine x_iald hc hp7 (by decide) rfl (by decide) (by omega) dX0_feesIn_28 ?_
  refine x_callSN (As := [.long (Int32.toInt64 (I (rwA R p y) 0)), .int (I (dr R p 2) 0)]) (st := [.long 0]) hc (c_part l D z e0 L K N I J R (Int32.toInt64 (I (rwA R p y) 0)) (I (dr R p 2) 0)) gX0_feesIn_X2_part_n89 rfl hdS_X2_part ⟨Nat.le_of_ble_eq_true rfl, Nat.le_of_ble_eq_true rfl⟩ hc.ev.2.2.2.2.2.1 lini_X0_feesIn_X2_part lst_X0_feesIn_X2_part rfl rfl ⟨Nat.le_of_ble_eq_true rfl, Nat.le_of_ble_eq_true rfl⟩ (Nat.le_of_ble_eq_true rfl) dX0_feesIn_29 (fun v9 I9 J9 hz9 => ?_)
  obtain ⟨rfl, hI9, hJ9⟩ := hz9
  replace hI9 := hI9.symm
  subst hI9
  replace hJ9 := hJ9.symm
  subst hJ9
  refine x_ladd hc dX0_feesIn_32 ?_
  refine x_lstore_n (lv' := [(2, .long (0 + (prt (Int32.toInt64 (I (rwA R p y) 0)) (I (dr R p 2) 0)))), (4, .int 0), (0, .ref p), (1, .int (nI y))]) hc dX0_feesIn_33 rfl (by decide) rfl ?_
  refine x_iinc (j := 1) (v := 1) (lv' := [(4, .int 1), (2, .long (0 + (prt (Int32.toInt64 (I (rwA R p y) 0)) (I (dr R p 2) 0)))), (0, .ref p), (1, .int (nI y))]) hc dX0_feesIn_34 rfl (by decide) (by decide) rfl ?_
  refine x_goto (tgt := 5) hc dX0_feesIn_37 (by decide) ?_
  refine x_iload (j := 0) hc dX0_feesIn_5 rfl ?_
  refine x_iconst (v := 4) hc dX0_feesIn_7 (by decide) ?_
  refine x_icmp_ge (tgt := 40) hc dX0_feesIn_8 (by decide) (fun q9 => absurd q9 (by decide)) (fun _ => ?_)
  refine x_lload_n (j := 1) hc dX0_feesIn_11 rfl rfl ?_
  refine x_aload_n (j := 2) hc dX0_feesIn_12 rfl rfl ?_
  refine x_getR (C := RX0) (T := TX0) (NN := 15) (ci := 1) (ref := "NetPoints$Picture") hc 0 in_X0_feesIn_1 rfl (by decide) lf_X0_feesIn_11 (fun _ h9 => h9) hp0 (by omega) (by decide) rfl hp1 dX0_feesIn_13 ?_
  refine x_iload_n (j := 3) hc dX0_feesIn_16 rfl rfl ?_
  refine x_aaldA hc hp2 (by decide) rfl hy (by omega) ((hp3 y hy).1) dX0_feesIn_17 ?_
  refine x_iload (j := 0) hc dX0_feesIn_18 rfl ?_
  refine x_iald hc ((hp3 y hy).2) (by decide) rfl (by decide) (by omega) dX0_feesIn_20 ?_
  refine x_i2l hc dX0_feesIn_21 ?_
  refine x_aload_n (j := 2) hc dX0_feesIn_22 rfl rfl ?_
  refine x_getR (C := RX0) (T := TX0) (NN := 15) (ci := 1) (ref := "NetPoints$Picture") hc 2 in_X0_feesIn_1 rfl (by decide) lf_X0_feesIn_20 (fun _ h9 => h9) hp0 (by omega) (by decide) rfl hp6 dX0_feesIn_23 ?_
  refine x_iload (j := 0) hc dX0_feesIn_26 rfl ?_
  refine x_iald hc hp7 (by decide) rfl (by decide) (by omega) dX0_feesIn_28 ?_
  refine x_callSN (As := [.long (Int32.toInt64 (I (rwA R p y) 1)), .int (I (dr R p 2) 1)]) (st := [.long (0 + (prt (Int32.toInt64 (I (rwA R p y) 0)) (I (dr R p 2) 0)))]) hc (c_part l D z e0 L K N I J R (Int32.toInt64 (I (rwA R p y) 1)) (I (dr R p 2) 1)) gX0_feesIn_X2_part_n89 rfl hdS_X2_part ⟨Nat.le_of_ble_eq_true rfl, Nat.le_of_ble_eq_true rfl⟩ hc.ev.2.2.2.2.2.1 lini_X0_feesIn_X2_part lst_X0_feesIn_X2_part rfl rfl ⟨Nat.le_of_ble_eq_true rfl, Nat.le_of_ble_eq_true rfl⟩ (Nat.le_of_ble_eq_true rfl) dX0_feesIn_29 (fun v9 I9 J9 hz9 => ?_)
  obtain ⟨rfl, hI9, hJ9⟩ := hz9
  replace hI9 := hI9.symm
  subst hI9
  replace hJ9 := hJ9.symm
  subst hJ9
  refine x_ladd hc dX0_feesIn_32 ?_
  refine x_lstore_n (lv' := [(2, .long ((0 + (prt (Int32.toInt64 (I (rwA R p y) 0)) (I (dr R p 2) 0))) + (prt (Int32.toInt64 (I (rwA R p y) 1)) (I (dr R p 2) 1)))), (4, .int 1), (0, .ref p), (1, .int (nI y))]) hc dX0_feesIn_33 rfl (by decide) rfl ?_
  refine x_iinc (j := 1) (v := 2) (lv' := [(4, .int 2), (2, .long ((0 + (prt (Int32.toInt64 (I (rwA R p y) 0)) (I (dr R p 2) 0))) + (prt (Int32.toInt64 (I (rwA R p y) 1)) (I (dr R p 2) 1)))), (0, .ref p), (1, .int (nI y))]) hc dX0_feesIn_34 rfl (by decide) (by decide) rfl ?_
  refine x_goto (tgt := 5) hc dX0_feesIn_37 (by decide) ?_
  refine x_iload (j := 0) hc dX0_feesIn_5 rfl ?_
  refine x_iconst (v := 4) hc dX0_feesIn_7 (by decide) ?_
  refine x_icmp_ge (tgt := 40) hc dX0_feesIn_8 (by decide) (fun q9 => absurd q9 (by decide)) (fun _ => ?_)
  refine x_lload_n (j := 1) hc dX0_feesIn_11 rfl rfl ?_
  refine x_aload_n (j := 2) hc dX0_feesIn_12 rfl rfl ?_
  refine x_getR (C := RX0) (T := TX0) (NN := 15) (ci := 1) (ref := "NetPoints$Picture") hc 0 in_X0_feesIn_1 rfl (by decide) lf_X0_feesIn_11 (fun _ h9 => h9) hp0 (by omega) (by decide) rfl hp1 dX0_feesIn_13 ?_
  refine x_iload_n (j := 3) hc dX0_feesIn_16 rfl rfl ?_
  refine x_aaldA hc hp2 (by decide) rfl hy (by omega) ((hp3 y hy).1) dX0_feesIn_17 ?_
  refine x_iload (j := 0) hc dX0_feesIn_18 rfl ?_
  refine x_iald hc ((hp3 y hy).2) (by decide) rfl (by decide) (by omega) dX0_feesIn_20 ?_
  refine x_i2l hc dX0_feesIn_21 ?_
  refine x_aload_n (j := 2) hc dX0_feesIn_22 rfl rfl ?_
  refine x_getR (C := RX0) (T := TX0) (NN := 15) (ci := 1) (ref := "NetPoints$Picture") hc 2 in_X0_feesIn_1 rfl (by decide) lf_X0_feesIn_20 (fun _ h9 => h9) hp0 (by omega) (by decide) rfl hp6 dX0_feesIn_23 ?_
  refine x_iload (j := 0) hc dX0_feesIn_26 rfl ?_
  refine x_iald hc hp7 (by decide) rfl (by decide) (by omega) dX0_feesIn_28 ?_
  refine x_callSN (As := [.long (Int32.toInt64 (I (rwA R p y) 2)), .int (I (dr R p 2) 2)]) (st := [.long ((0 + (prt (Int32.toInt64 (I (rwA R p y) 0)) (I (dr R p 2) 0))) + (prt (Int32.toInt64 (I (rwA R p y) 1)) (I (dr R p 2) 1)))]) hc (c_part l D z e0 L K N I J R (Int32.toInt64 (I (rwA R p y) 2)) (I (dr R p 2) 2)) gX0_feesIn_X2_part_n89 rfl hdS_X2_part ⟨Nat.le_of_ble_eq_true rfl, Nat.le_of_ble_eq_true rfl⟩ hc.ev.2.2.2.2.2.1 lini_X0_feesIn_X2_part lst_X0_feesIn_X2_part rfl rfl ⟨Nat.le_of_ble_eq_true rfl, Nat.le_of_ble_eq_true rfl⟩ (Nat.le_of_ble_eq_true rfl) dX0_feesIn_29 (fun v9 I9 J9 hz9 => ?_)
  obtain ⟨rfl, hI9, hJ9⟩ := hz9
  replace hI9 := hI9.symm
  subst hI9
  replace hJ9 := hJ9.symm
  subst hJ9
  refine x_ladd hc dX0_feesIn_32 ?_
  refine x_lstore_n (lv' := [(2, .long (((0 + (prt (Int32.toInt64 (I (rwA R p y) 0)) (I (dr R p 2) 0))) + (prt (Int32.toInt64 (I (rwA R p y) 1)) (I (dr R p 2) 1))) + (prt (Int32.toInt64 (I (rwA R p y) 2)) (I (dr R p 2) 2)))), (4, .int 2), (0, .ref p), (1, .int (nI y))]) hc dX0_feesIn_33 rfl (by decide) rfl ?_
  refine x_iinc (j := 1) (v := 3) (lv' := [(4, .int 3), (2, .long (((0 + (prt (Int32.toInt64 (I (rwA R p y) 0)) (I (dr R p 2) 0))) + (prt (Int32.toInt64 (I (rwA R p y) 1)) (I (dr R p 2) 1))) + (prt (Int32.toInt64 (I (rwA R p y) 2)) (I (dr R p 2) 2)))), (0, .ref p), (1, .int (nI y))]) hc dX0_feesIn_34 rfl (by decide) (by decide) rfl ?_
  refine x_goto (tgt := 5) hc dX0_feesIn_37 (by decide) ?_
  refine x_iload (j := 0) hc dX0_feesIn_5 rfl ?_
  refine x_iconst (v := 4) hc dX0_feesIn_7 (by decide) ?_
  refine x_icmp_ge (tgt := 40) hc dX0_feesIn_8 (by decide) (fun q9 => absurd q9 (by decide)) (fun _ => ?_)
  refine x_lload_n (j := 1) hc dX0_feesIn_11 rfl rfl ?_
  refine x_aload_n (j := 2) hc dX0_feesIn_12 rfl rfl ?_
  refine x_getR (C := RX0) (T := TX0) (NN := 15) (ci := 1) (ref := "NetPoints$Picture") hc 0 in_X0_feesIn_1 rfl (by decide) lf_X0_feesIn_11 (fun _ h9 => h9) hp0 (by omega) (by decide) rfl hp1 dX0_feesIn_13 ?_
  refine x_iload_n (j := 3) hc dX0_feesIn_16 rfl rfl ?_
  refine x_aaldA hc hp2 (by decide) rfl hy (by omega) ((hp3 y hy).1) dX0_feesIn_17 ?_
  refine x_iload (j := 0) hc dX0_feesIn_18 rfl ?_
  refine x_iald hc ((hp3 y hy).2) (by decide) rfl (by decide) (by omega) dX0_feesIn_20 ?_
  refine x_i2l hc dX0_feesIn_21 ?_
  refine x_aload_n (j := 2) hc dX0_feesIn_22 rfl rfl ?_
  refine x_getR (C := RX0) (T := TX0) (NN := 15) (ci := 1) (ref := "NetPoints$Picture") hc 2 in_X0_feesIn_1 rfl (by decide) lf_X0_feesIn_20 (fun _ h9 => h9) hp0 (by omega) (by decide) rfl hp6 dX0_feesIn_23 ?_
  refine x_iload (j := 0) hc dX0_feesIn_26 rfl ?_
  refine x_iald hc hp7 (by decide) rfl (by decide) (by omega) dX0_feesIn_28 ?_
  refine x_callSN (As := [.long (Int32.toInt64 (I (rwA R p y) 3)), .int (I (dr R p 2) 3)]) (st := [.long (((0 + (prt (Int32.toInt64 (I (rwA R p y) 0)) (I (dr R p 2) 0))) + (prt (Int32.toInt64 (I (rwA R p y) 1)) (I (dr R p 2) 1))) + (prt (Int32.toInt64 (I (rwA R p y) 2)) (I (dr R p 2) 2)))]) hc (c_part l D z e0 L K N I J R (Int32.toInt64 (I (rwA R p y) 3)) (I (dr R p 2) 3)) gX0_feesIn_X2_part_n89 rfl hdS_X2_part ⟨Nat.le_of_ble_eq_true rfl, Nat.le_of_ble_eq_true rfl⟩ hc.ev.2.2.2.2.2.1 lini_X0_feesIn_X2_part lst_X0_feesIn_X2_part rfl rfl ⟨Nat.le_of_ble_eq_true rfl, Nat.le_of_ble_eq_true rfl⟩ (Nat.le_of_ble_eq_true rfl) dX0_feesIn_29 (fun v9 I9 J9 hz9 => ?_)
  obtain ⟨rfl, hI9, hJ9⟩ := hz9
  replace hI9 := hI9.symm
  subst hI9
  replace hJ9 := hJ9.symm
  subst hJ9
  refine x_ladd hc dX0_feesIn_32 ?_
  refine x_lstore_n (lv' := [(2, .long ((((0 + (prt (Int32.toInt64 (I (rwA R p y) 0)) (I (dr R p 2) 0))) + (prt (Int32.toInt64 (I (rwA R p y) 1)) (I (dr R p 2) 1))) + (prt (Int32.toInt64 (I (rwA R p y) 2)) (I (dr R p 2) 2))) + (prt (Int32.toInt64 (I (rwA R p y) 3)) (I (dr R p 2) 3)))), (4, .int 3), (0, .ref p), (1, .int (nI y))]) hc dX0_feesIn_33 rfl (by decide) rfl ?_
  refine x_iinc (j := 1) (v := 4) (lv' := [(4, .int 4), (2, .long ((((0 + (prt (Int32.toInt64 (I (rwA R p y) 0)) (I (dr R p 2) 0))) + (prt (Int32.toInt64 (I (rwA R p y) 1)) (I (dr R p 2) 1))) + (prt (Int32.toInt64 (I (rwA R p y) 2)) (I (dr R p 2) 2))) + (prt (Int32.toInt64 (I (rwA R p y) 3)) (I (dr R p 2) 3)))), (0, .ref p), (1, .int (nI y))]) hc dX0_feesIn_34 rfl (by decide) (by decide) rfl ?_
  refine x_goto (tgt := 5) hc dX0_feesIn_37 (by decide) ?_
  refine x_iload (j := 0) hc dX0_feesIn_5 rfl ?_
  refine x_iconst (v := 4) hc dX0_feesIn_7 (by decide) ?_
  refine x_icmp_ge (tgt := 40) hc dX0_feesIn_8 (by decide) (fun _ => ?_) (fun q9 => absurd (by decide) q9)
  refine x_lload_n (j := 1) hc dX0_feesIn_40 rfl rfl ?_
  exact x_lret hc hr (by decide) (by decide) dX0_feesIn_41 (⟨rfl, rfl, rfl⟩)
abbrev rm_X0_netRatesGiven : Room := { frames := 3, cells := 0, slots := 0, locals := 64 }
set_option maxHeartbeats 4000000 in
set_option maxRecDepth 100000 in
theorem c_netRates (l : Launch) (D : va_G) (z e0 : Nat) (L : List Nat) (K N : Nat → Nat) (I : Nat → Nat → Int32) (J : Nat → Nat → Int64) (R : Nat → Nat → Option Nat) (b p n : Nat) (hp : Pic L K N R b p) (hl : Lst L K N I R (dr R p 3) (320 * b + 224) (320 * b + 279) n) : MG l yX0_netRatesGiven wsX0_netRatesGiven rm_X0_netRatesGiven D z e0 L K N I J R [.ref p] (fun v I' J' => v = some (.int (netN (fun i => shV I (shA R (dr R p 3) i)) n)) ∧ I' = I ∧ J' = J) := by
  refine mg_of (own := RX0) (maxL := 4) (ret := (some .int)) (by decide +kernel) rfl rfl (Nat.le_of_ble_eq_true rfl) ?_
  intro pg ev s mi args below meth c hc hr
  obtain ⟨hp0, hp1, hp2, hp3, hp4, hp5, hp6, hp7, hp8, hp9, hp10, hp11, hp12⟩ := hp
  have hl0 := hl.1
  refine x_iconst (v := 0) hc dX0_netRatesGiven_0 (by decide) ?_
  refine x_istore_n (lv' := [(1, .int 0), (0, .ref p)]) hc dX0_netRatesGiven_1 rfl (by decide) rfl ?_
  refine x_iconst (v := 0) hc dX0_netRatesGiven_2 (by decide) ?_
  refine x_istore_n (lv' := [(2, .int 0), (1, .int 0), (0, .ref p)]) hc dX0_netRatesGiven_3 rfl (by decide) rfl ?_
  have hloop : ∀ (k i : Nat) (acc : Int32), i + k = n → acc = netN (fun i => shV I (shA R (dr R p 3) i)) i → XW pg l ev rm_X0_netRatesGiven s mi args below meth c D z 4 L K N I J R 0 0 (MQ below (QG D z L K N R (fun v I' J' => v = some (.int (netN (fun i => shV I (shA R (dr R p 3) i)) n)) ∧ I' = I ∧ J' = J)) args s (rm_X0_netRatesGiven).cells (rm_X0_netRatesGiven).slots (fun q => z ≤ q)) 4 [(2, .int (nI i)), (1, .int acc), (0, .ref p)] [] := by
    intro k
    induction k with
    | zero =>
      intro i acc hi hacc
      refine x_iload_n (j := 0) hc dX0_netRatesGiven_4 rfl rfl ?_
      refine x_aload_n (j := 2) hc dX0_netRatesGiven_5 rfl rfl ?_
      refine x_getR (C := RX0) (T := TX0) (NN := 15) (ci := 1) (ref := "NetPoints$Picture") hc 3 in_X0_netRatesGiven_1 rfl (by decide) lf_X0_netRatesGiven_26 (fun _ h9 => h9) hp0 (by omega) (by decide) rfl hp8 dX0_netRatesGiven_6 ?_
      refine x_callV (C := RJx4a65c) (T := TJx4a65c) (NN := 3) (ci := 0) (As := []) (st := [.int (nI i)]) hc hl0 (by omega) (by decide) rfl (c_size l D z e0 L K N I J R (dr R p 3) (320 * b + 224) n hl.1 (by omega) hl.2.2.1) gX0_netRatesGiven_Jx4a65c_size_8abf5 rfl hdV_Jx4a65c_size_8abf5 ⟨Nat.le_of_ble_eq_true rfl, Nat.le_of_ble_eq_true rfl⟩ rfl rfl ⟨Nat.le_of_ble_eq_true rfl, Nat.le_of_ble_eq_true rfl⟩ (Nat.le_of_ble_eq_true rfl) dX0_netRatesGiven_9 (fun v9 I9 J9 hz9 => ?_)
      obtain ⟨rfl, hI9, hJ9⟩ := hz9
      replace hI9 := hI9.symm
      subst hI9
      replace hJ9 := hJ9.symm
      subst hJ9
      refine x_icmp_ge (tgt := 55) hc dX0_netRatesGiven_12 (by decide) (fun _ => ?_) (fun q9 => absurd (by rw [show i = n by omega]; exact Int32.le_refl _) q9)
      refine x_iload_n (j := 1) hc dX0_netRatesGiven_55 rfl rfl ?_
      exact x_iret hc hr (by decide) (by decide) dX0_netRatesGiven_56 (⟨by rw [hacc, show i = n by omega], rfl, rfl⟩)
    | succ k ih =>
      intro i acc hik hacc
      have hi : i < n := by omega
      refine x_iload_n (j := 0) hc dX0_netRatesGiven_4 rfl rfl ?_
      refine x_aload_n (j := 2) hc dX0_netRatesGiven_5 rfl rfl ?_
      refine x_getR (C := RX0) (T := TX0) (NN := 15) (ci := 1) (ref := "NetPoints$Picture") hc 3 in_X0_netRatesGiven_1 rfl (by decide) lf_X0_netRatesGiven_26 (fun _ h9 => h9) hp0 (by omega) (by decide) rfl hp8 dX0_netRatesGiven_6 ?_
      refine x_callV (C := RJx4a65c) (T := TJx4a65c) (NN := 3) (ci := 0) (As := []) (st := [.int (nI i)]) hc hl0 (by omega) (by decide) rfl (c_size l D z e0 L K N I J R (dr R p 3) (320 * b + 224) n hl.1 (by omega) hl.2.2.1) gX0_netRatesGiven_Jx4a65c_size_8abf5 rfl hdV_Jx4a65c_size_8abf5 ⟨Nat.le_of_ble_eq_true rfl, Nat.le_of_ble_eq_true rfl⟩ rfl rfl ⟨Nat.le_of_ble_eq_true rfl, Nat.le_of_ble_eq_true rfl⟩ (Nat.le_of_ble_eq_true rfl) dX0_netRatesGiven_9 (fun v9 I9 J9 hz9 => ?_)
      obtain ⟨rfl, hI9, hJ9⟩ := hz9
      replace hI9 := hI9.symm
      subst hI9
      replace hJ9 := hJ9.symm
      subst hJ9
      refine x_icmp_ge (tgt := 55) hc dX0_netRatesGiven_12 (by decide) (fun q9 => absurd q9 (nI_ge hi (Nat.lt_of_le_of_lt hl.2.2.2.1 (by decide)))) (fun _ => ?_)
      refine x_aload_n (j := 2) hc dX0_netRatesGiven_15 rfl rfl ?_
      refine x_getR (C := RX0) (T := TX0) (NN := 15) (ci := 1) (ref := "NetPoints$Picture") hc 3 in_X0_netRatesGiven_1 rfl (by decide) lf_X0_netRatesGiven_26 (fun _ h9 => h9) hp0 (by omega) (by decide) rfl hp8 dX0_netRatesGiven_16 ?_
      refine x_iload_n (j := 0) hc dX0_netRatesGiven_19 rfl rfl ?_
      have hk9 := ((hl.2.2.2.2.2 (Nat.lt_of_le_of_lt (Nat.zero_le _) hi)).2.2 i hi).2.2.1
      refine x_callV (C := RJx4a65c) (T := TJx4a65c) (NN := 3) (ci := 0) (As := [.int (nI i)]) (st := []) hc hl0 (by omega) (by decide) rfl (c_get l D z e0 L K N I J R (dr R p 3) (320 * b + 224) (320 * b + 279) n i hl hi) gX0_netRatesGiven_Jx4a65c_get_915e3 rfl hdV_Jx4a65c_get_915e3 ⟨Nat.le_of_ble_eq_true rfl, Nat.le_of_ble_eq_true rfl⟩ rfl rfl ⟨Nat.le_of_ble_eq_true rfl, Nat.le_of_ble_eq_true rfl⟩ (Nat.le_of_ble_eq_true rfl) dX0_netRatesGiven_20 (fun v9 I9 J9 hz9 => ?_)
      obtain ⟨rfl, hI9, hJ9⟩ := hz9
      replace hI9 := hI9.symm
      subst hI9
      replace hJ9 := hJ9.symm
      subst hJ9
      refine x_cast (T := TX1) (NN := 7) (ci := 2) hc (((hl.2.2.2.2.2 (Nat.lt_of_le_of_lt (Nat.zero_le _) hi)).2.2 i hi).2.1) (by omega) (by decide) rfl lcl_X0_netRatesGiven_45 dX0_netRatesGiven_23 ?_
      refine x_astore_n (lv' := [(3, .ref (shA R (dr R p 3) i)), (2, .int (nI i)), (1, .int acc), (0, .ref p)]) hc dX0_netRatesGiven_26 rfl (by decide) rfl ?_
      refine x_aload_n (j := 0) hc dX0_netRatesGiven_27 rfl rfl ?_
      refine x_getI (C := RX1) (T := TX1) (NN := 7) (ci := 2) (ref := "NetPoints$Sharer") hc 2 in_X0_netRatesGiven_2 rfl (by decide) lf_X0_netRatesGiven_47 (fun _ h9 => h9) (((hl.2.2.2.2.2 (Nat.lt_of_le_of_lt (Nat.zero_le _) hi)).2.2 i hi).2.1) (by omega) (by decide) rfl dX0_netRatesGiven_28 ?_
      refine x_iconst (v := 1) hc dX0_netRatesGiven_31 (by decide) ?_
      refine x_icmp_ne (tgt := 49) hc dX0_netRatesGiven_32 (by decide) (fun q1 => ?_) (fun q1 => ?_)
      · refine x_iinc (j := 1) (v := nI (i + 1)) (lv' := [(2, .int (nI (i + 1))), (3, .ref (shA R (dr R p 3) i)), (1, .int acc), (0, .ref p)]) hc dX0_netRatesGiven_49 rfl (nI_1 i) (by decide) rfl ?_
        refine x_goto (tgt := 4) hc dX0_netRatesGiven_52 (by decide) ?_
        refine x_sub [0, 2, 3] rfl ?_
        exact ih (i + 1) _ (by omega) (by rw [netN, netS, if_neg (show ¬ (shV I (shA R (dr R p 3) i)).1 = 1 from q1), ← hacc])
      · refine x_iload_n (j := 2) hc dX0_netRatesGiven_35 rfl rfl ?_
        refine x_aload_n (j := 0) hc dX0_netRatesGiven_36 rfl rfl ?_
        refine x_getI (C := RX1) (T := TX1) (NN := 7) (ci := 2) (ref := "NetPoints$Sharer") hc 4 in_X0_netRatesGiven_2 rfl (by decide) lf_X0_netRatesGiven_51 (fun _ h9 => h9) (((hl.2.2.2.2.2 (Nat.lt_of_le_of_lt (Nat.zero_le _) hi)).2.2 i hi).2.1) (by omega) (by decide) rfl dX0_netRatesGiven_37 ?_
        refine x_aload_n (j := 0) hc dX0_netRatesGiven_40 rfl rfl ?_
        refine x_getI (C := RX1) (T := TX1) (NN := 7) (ci := 2) (ref := "NetPoints$Sharer") hc 5 in_X0_netRatesGiven_2 rfl (by decide) lf_X0_netRatesGiven_54 (fun _ h9 => h9) (((hl.2.2.2.2.2 (Nat.lt_of_le_of_lt (Nat.zero_le _) hi)).2.2 i hi).2.1) (by omega) (by decide) rfl dX0_netRatesGiven_41 ?_
        refine x_mmax hc lml_X0_netRatesGiven_57 lst_X0_netRatesGiven_57 lini_X0_netRatesGiven_Math lcd_X0_netRatesGiven_57 (Nat.le_of_ble_eq_true rfl) (Nat.le_of_ble_eq_true rfl) (Nat.le_of_ble_eq_true rfl) (Nat.le_of_ble_eq_true rfl) dX0_netRatesGiven_44 ?_
        refine x_iadd hc dX0_netRatesGiven_47 ?_
        refine x_istore_n (lv' := [(1, .int (acc + (if (I (shA R (dr R p 3) i) 4) < (I (shA R (dr R p 3) i) 5) then (I (shA R (dr R p 3) i) 5) else (I (shA R (dr R p 3) i) 4)))), (3, .ref (shA R (dr R p 3) i)), (2, .int (nI i)), (0, .ref p)]) hc dX0_netRatesGiven_48 rfl (by decide) rfl ?_
        refine x_iinc (j := 2) (v := nI (i + 1)) (lv' := [(2, .int (nI (i + 1))), (1, .int (acc + (if (I (shA R (dr R p 3) i) 4) < (I (shA R (dr R p 3) i) 5) then (I (shA R (dr R p 3) i) 5) else (I (shA R (dr R p 3) i) 4)))), (3, .ref (shA R (dr R p 3) i)), (0, .ref p)]) hc dX0_netRatesGiven_49 rfl (nI_1 i) (by decide) rfl ?_
        refine x_goto (tgt := 4) hc dX0_netRatesGiven_52 (by decide) ?_
        refine x_sub [0, 1, 3] rfl ?_
        exact ih (i + 1) _ (by omega) (by rw [netN, netS, if_pos (show (shV I (shA R (dr R p 3) i)).1 = 1 from q1), ← hacc]; rfl)
  exact hloop n 0 0 (by omega) rfl
abbrev rm_X0_sharesThatAreCosts : Room := { frames := 3, cells := 0, slots := 0, locals := 64 }
set_option maxHeartbeats 4000000 in
set_option maxRecDepth 100000 in
theorem c_shares (l : Launch) (D : va_G) (z e0 : Nat) (L : List Nat) (K N : Nat → Nat) (I : Nat → Nat → Int32) (J : Nat → Nat → Int64) (R : Nat → Nat → Option Nat) (b p n : Nat) (hp : Pic L K N R b p) (hl : Lst L K N I R (dr R p 3) (320 * b + 224) (320 * b + 279) n) : MG l yX0_sharesThatAreCosts wsX0_sharesThatAreCosts rm_X0_sharesThatAreCosts D z e0 L K N I J R [.ref p] (fun v I' J' => v = some (.long (costN (J p 10) (J p 9) (fun i => shV I (shA R (dr R p 3) i)) n)) ∧ I' = I ∧ J' = J) := by
  refine mg_of (own := RX0) (maxL := 5) (ret := (some .long)) (by decide +kernel) rfl rfl (Nat.le_of_ble_eq_true rfl) ?_
  intro pg ev s mi args below meth c hc hr
  obtain ⟨hp0, hp1, hp2, hp3, hp4, hp5, hp6, hp7, hp8, hp9, hp10, hp11, hp12⟩ := hp
  have hl0 := hl.1
  refine x_lconst (v := 0) hc dX0_sharesThatAreCosts_0 rfl ?_
  refine x_lstore_n (lv' := [(1, .long 0), (0, .ref p)]) hc dX0_sharesThatAreCosts_1 rfl (by decide) rfl ?_
  refine x_iconst (v := 0) hc dX0_sharesThatAreCosts_2 (by decide) ?_
  refine x_istore_n (lv' := [(3, .int 0), (1, .long 0), (0, .ref p)]) hc dX0_sharesThatAreCosts_3 rfl (by decide) rfl ?_
  have hloop : ∀ (k i : Nat) (acc : Int64), i + k = n → acc = costN (J p 10) (J p 9) (fun i => shV I (shA R (dr R p 3) i)) i → XW pg l ev rm_X0_sharesThatAreCosts s mi args below meth c D z 5 L K N I J R 0 0 (MQ below (QG D z L K N R (fun v I' J' => v = some (.long (costN (J p 10) (J p 9) (fun i => shV I (shA R (dr R p 3) i)) n)) ∧ I' = I ∧ J' = J)) args s (rm_X0_sharesThatAreCosts).cells (rm_X0_sharesThatAreCosts).slots (fun q => z ≤ q)) 4 [(3, .int (nI i)), (1, .long acc), (0, .ref p)] [] := by
    intro k
    induction k with
    | zero =>
      intro i acc hi hacc
      refine x_iload_n (j := 0) hc dX0_sharesThatAreCosts_4 rfl rfl ?_
      refine x_aload_n (j := 2) hc dX0_sharesThatAreCosts_5 rfl rfl ?_
      refine x_getR (C := RX0) (T := TX0) (NN := 15) (ci := 1) (ref := "NetPoints$Picture") hc 3 in_X0_sharesThatAreCosts_1 rfl (by decide) lf_X0_sharesThatAreCosts_26 (fun _ h9 => h9) hp0 (by omega) (by decide) rfl hp8 dX0_sharesThatAreCosts_6 ?_
      refine x_callV (C := RJx4a65c) (T := TJx4a65c) (NN := 3) (ci := 0) (As := []) (st := [.int (nI i)]) hc hl0 (by omega) (by decide) rfl (c_size l D z e0 L K N I J R (dr R p 3) (320 * b + 224) n hl.1 (by omega) hl.2.2.1) gX0_sharesThatAreCosts_Jx4a65c_size_8abf5 rfl hdV_Jx4a65c_size_8abf5 ⟨Nat.le_of_ble_eq_true rfl, Nat.le_of_ble_eq_true rfl⟩ rfl rfl ⟨Nat.le_of_ble_eq_true rfl, Nat.le_of_ble_eq_true rfl⟩ (Nat.le_of_ble_eq_true rfl) dX0_sharesThatAreCosts_9 (fun v9 I9 J9 hz9 => ?_)
      obtain ⟨rfl, hI9, hJ9⟩ := hz9
      replace hI9 := hI9.symm
      subst hI9
      replace hJ9 := hJ9.symm
      subst hJ9
      refine x_icmp_ge (tgt := 78) hc dX0_sharesThatAreCosts_12 (by decide) (fun _ => ?_) (fun q9 => absurd (by rw [show i = n by omega]; exact Int32.le_refl _) q9)
      refine x_lload_n (j := 1) hc dX0_sharesThatAreCosts_78 rfl rfl ?_
      exact x_lret hc hr (by decide) (by decide) dX0_sharesThatAreCosts_79 (⟨by rw [hacc, show i = n by omega], rfl, rfl⟩)
    | succ k ih =>
      intro i acc hik hacc
      have hi : i < n := by omega
      refine x_iload_n (j := 0) hc dX0_sharesThatAreCosts_4 rfl rfl ?_
      refine x_aload_n (j := 2) hc dX0_sharesThatAreCosts_5 rfl rfl ?_
      refine x_getR (C := RX0) (T := TX0) (NN := 15) (ci := 1) (ref := "NetPoints$Picture") hc 3 in_X0_sharesThatAreCosts_1 rfl (by decide) lf_X0_sharesThatAreCosts_26 (fun _ h9 => h9) hp0 (by omega) (by decide) rfl hp8 dX0_sharesThatAreCosts_6 ?_
      refine x_callV (C := RJx4a65c) (T := TJx4a65c) (NN := 3) (ci := 0) (As := []) (st := [.int (nI i)]) hc hl0 (by omega) (by decide) rfl (c_size l D z e0 L K N I J R (dr R p 3) (320 * b + 224) n hl.1 (by omega) hl.2.2.1) gX0_sharesThatAreCosts_Jx4a65c_size_8abf5 rfl hdV_Jx4a65c_size_8abf5 ⟨Nat.le_of_ble_eq_true rfl, Nat.le_of_ble_eq_true rfl⟩ rfl rfl ⟨Nat.le_of_ble_eq_true rfl, Nat.le_of_ble_eq_true rfl⟩ (Nat.le_of_ble_eq_true rfl) dX0_sharesThatAreCosts_9 (fun v9 I9 J9 hz9 => ?_)
      obtain ⟨rfl, hI9, hJ9⟩ := hz9
      replace hI9 := hI9.symm
      subst hI9
      replace hJ9 := hJ9.symm
      subst hJ9
      refine x_icmp_ge (tgt := 78) hc dX0_sharesThatAreCosts_12 (by decide) (fun q9 => absurd q9 (nI_ge hi (Nat.lt_of_le_of_lt hl.2.2.2.1 (by decide)))) (fun _ => ?_)
      refine x_aload_n (j := 2) hc dX0_sharesThatAreCosts_15 rfl rfl ?_
      refine x_getR (C := RX0) (T := TX0) (NN := 15) (ci := 1) (ref := "NetPoints$Picture") hc 3 in_X0_sharesThatAreCosts_1 rfl (by decide) lf_X0_sharesThatAreCosts_26 (fun _ h9 => h9) hp0 (by omega) (by decide) rfl hp8 dX0_sharesThatAreCosts_16 ?_
      refine x_iload_n (j := 0) hc dX0_sharesThatAreCosts_19 rfl rfl ?_
      have hk9 := ((hl.2.2.2.2.2 (Nat.lt_of_le_of_lt (Nat.zero_le _) hi)).2.2 i hi).2.2.1
      refine x_callV (C := RJx4a65c) (T := TJx4a65c) (NN := 3) (ci := 0) (As := [.int (nI i)]) (st := []) hc hl0 (by omega) (by decide) rfl (c_get l D z e0 L K N I J R (dr R p 3) (320 * b + 224) (320 * b + 279) n i hl hi) gX0_sharesThatAreCosts_Jx4a65c_get_915e3 rfl hdV_Jx4a65c_get_915e3 ⟨Nat.le_of_ble_eq_true rfl, Nat.le_of_ble_eq_true rfl⟩ rfl rfl ⟨Nat.le_of_ble_eq_true rfl, Nat.le_of_ble_eq_true rfl⟩ (Nat.le_of_ble_eq_true rfl) dX0_sharesThatAreCosts_20 (fun v9 I9 J9 hz9 => ?_)
      obtain ⟨rfl, hI9, hJ9⟩ := hz9
      replace hI9 := hI9.symm
      subst hI9
      replace hJ9 := hJ9.symm
      subst hJ9
      refine x_cast (T := TX1) (NN := 7) (ci := 2) hc (((hl.2.2.2.2.2 (Nat.lt_of_le_of_lt (Nat.zero_le _) hi)).2.2 i hi).2.1) (by omega) (by decide) rfl lcl_X0_sharesThatAreCosts_45 dX0_sharesThatAreCosts_23 ?_
      refine x_astore (lv' := [(4, .ref (shA R (dr R p 3) i)), (3, .int (nI i)), (1, .long acc), (0, .ref p)]) hc dX0_sharesThatAreCosts_26 (by decide) rfl ?_
      refine x_aload (j := 0) hc dX0_sharesThatAreCosts_28 rfl ?_
      refine x_getI (C := RX1) (T := TX1) (NN := 7) (ci := 2) (ref := "NetPoints$Sharer") hc 2 in_X0_sharesThatAreCosts_2 rfl (by decide) lf_X0_sharesThatAreCosts_47 (fun _ h9 => h9) (((hl.2.2.2.2.2 (Nat.lt_of_le_of_lt (Nat.zero_le _) hi)).2.2 i hi).2.1) (by omega) (by decide) rfl dX0_sharesThatAreCosts_30 ?_
      refine x_if_ne (tgt := 51) hc dX0_sharesThatAreCosts_33 (by decide) (fun q1 => ?_) (fun q1 => ?_)
      · refine x_aload (j := 0) hc dX0_sharesThatAreCosts_51 rfl ?_
        refine x_getI (C := RX1) (T := TX1) (NN := 7) (ci := 2) (ref := "NetPoints$Sharer") hc 2 in_X0_sharesThatAreCosts_2 rfl (by decide) lf_X0_sharesThatAreCosts_47 (fun _ h9 => h9) (((hl.2.2.2.2.2 (Nat.lt_of_le_of_lt (Nat.zero_le _) hi)).2.2 i hi).2.1) (by omega) (by decide) rfl dX0_sharesThatAreCosts_53 ?_
        refine x_iconst (v := 3) hc dX0_sharesThatAreCosts_56 (by decide) ?_
        refine x_icmp_ne (tgt := 72) hc dX0_sharesThatAreCosts_57 (by decide) (fun q2 => ?_) (fun q2 => ?_)
        · refine x_iinc (j := 1) (v := nI (i + 1)) (lv' := [(3, .int (nI (i + 1))), (4, .ref (shA R (dr R p 3) i)), (1, .long acc), (0, .ref p)]) hc dX0_sharesThatAreCosts_72 rfl (nI_1 i) (by decide) rfl ?_
          refine x_goto (tgt := 4) hc dX0_sharesThatAreCosts_75 (by decide) ?_
          refine x_sub [0, 2, 3] rfl ?_
          exact ih (i + 1) _ (by omega) (by rw [costN, costS, if_neg (show ¬ (shV I (shA R (dr R p 3) i)).1 = 0 from q1), if_neg (show ¬ (shV I (shA R (dr R p 3) i)).1 = 3 from q2), ← hacc])
        · refine x_lload_n (j := 2) hc dX0_sharesThatAreCosts_60 rfl rfl ?_
          refine x_aload (j := 0) hc dX0_sharesThatAreCosts_61 rfl ?_
          refine x_aload_n (j := 3) hc dX0_sharesThatAreCosts_63 rfl rfl ?_
          refine x_getJ (C := RX0) (T := TX0) (NN := 15) (ci := 1) (ref := "NetPoints$Picture") hc 9 in_X0_sharesThatAreCosts_1 rfl (by decide) lf_X0_sharesThatAreCosts_63 (fun _ h9 => h9) hp0 (by omega) (by decide) rfl dX0_sharesThatAreCosts_64 ?_
          refine x_callV (C := RX1) (T := TX1) (NN := 7) (ci := 2) (As := [.long (J p 9)]) (st := [.long acc]) hc (((hl.2.2.2.2.2 (Nat.lt_of_le_of_lt (Nat.zero_le _) hi)).2.2 i hi).2.1) (by omega) (by decide) rfl (c_bonusAt l D z e0 L K N I J R (shA R (dr R p 3) i) _ (((hl.2.2.2.2.2 (Nat.lt_of_le_of_lt (Nat.zero_le _) hi)).2.2 i hi).2.1) hk9 (J p 9)) gX0_sharesThatAreCosts_X1_bonusAt rfl hdV_X1_bonusAt ⟨Nat.le_of_ble_eq_true rfl, Nat.le_of_ble_eq_true rfl⟩ rfl rfl ⟨Nat.le_of_ble_eq_true rfl, Nat.le_of_ble_eq_true rfl⟩ (Nat.le_of_ble_eq_true rfl) dX0_sharesThatAreCosts_67 (fun v9 I9 J9 hz9 => ?_)
          obtain ⟨rfl, hI9, hJ9⟩ := hz9
          replace hI9 := hI9.symm
          subst hI9
          replace hJ9 := hJ9.symm
          subst hJ9
          refine x_ladd hc dX0_sharesThatAreCosts_70 ?_
          refine x_lstore_n (lv' := [(1, .long (acc + (bonusAt (J p 9) (shV I (shA R (dr R p 3) i))))), (4, .ref (shA R (dr R p 3) i)), (3, .int (nI i)), (0, .ref p)]) hc dX0_sharesThatAreCosts_71 rfl (by decide) rfl ?_
          refine x_iinc (j := 2) (v := nI (i + 1)) (lv' := [(3, .int (nI (i + 1))), (1, .long (acc + (bonusAt (J p 9) (shV I (shA R (dr R p 3) i))))), (4, .ref (shA R (dr R p 3) i)), (0, .ref p)]) hc dX0_sharesThatAreCosts_72 rfl (nI_1 i) (by decide) rfl ?_
          refine x_goto (tgt := 4) hc dX0_sharesThatAreCosts_75 (by decide) ?_
          refine x_sub [0, 1, 3] rfl ?_
          exact ih (i + 1) _ (by omega) (by rw [costN, costS, if_neg (show ¬ (shV I (shA R (dr R p 3) i)).1 = 0 from q1), if_pos (show (shV I (shA R (dr R p 3) i)).1 = 3 from q2), ← hacc])
      · refine x_lload_n (j := 2) hc dX0_sharesThatAreCosts_36 rfl rfl ?_
        refine x_aload (j := 0) hc dX0_sharesThatAreCosts_37 rfl ?_
        refine x_aload_n (j := 3) hc dX0_sharesThatAreCosts_39 rfl rfl ?_
        refine x_getJ (C := RX0) (T := TX0) (NN := 15) (ci := 1) (ref := "NetPoints$Picture") hc 10 in_X0_sharesThatAreCosts_1 rfl (by decide) lf_X0_sharesThatAreCosts_67 (fun _ h9 => h9) hp0 (by omega) (by decide) rfl dX0_sharesThatAreCosts_40 ?_
        refine x_callV (C := RX1) (T := TX1) (NN := 7) (ci := 2) (As := [.long (J p 10)]) (st := [.long acc]) hc (((hl.2.2.2.2.2 (Nat.lt_of_le_of_lt (Nat.zero_le _) hi)).2.2 i hi).2.1) (by omega) (by decide) rfl (c_shareOf l D z e0 L K N I J R (shA R (dr R p 3) i) _ (((hl.2.2.2.2.2 (Nat.lt_of_le_of_lt (Nat.zero_le _) hi)).2.2 i hi).2.1) hk9 (J p 10)) gX0_sharesThatAreCosts_X1_shareOf rfl hdV_X1_shareOf ⟨Nat.le_of_ble_eq_true rfl, Nat.le_of_ble_eq_true rfl⟩ rfl rfl ⟨Nat.le_of_ble_eq_true rfl, Nat.le_of_ble_eq_true rfl⟩ (Nat.le_of_ble_eq_true rfl) dX0_sharesThatAreCosts_43 (fun v9 I9 J9 hz9 => ?_)
        obtain ⟨rfl, hI9, hJ9⟩ := hz9
        replace hI9 := hI9.symm
        subst hI9
        replace hJ9 := hJ9.symm
        subst hJ9
        refine x_ladd hc dX0_sharesThatAreCosts_46 ?_
        refine x_lstore_n (lv' := [(1, .long (acc + (shareOf (J p 10) (shV I (shA R (dr R p 3) i))))), (4, .ref (shA R (dr R p 3) i)), (3, .int (nI i)), (0, .ref p)]) hc dX0_sharesThatAreCosts_47 rfl (by decide) rfl ?_
        refine x_goto (tgt := 72) hc dX0_sharesThatAreCosts_48 (by decide) ?_
        refine x_iinc (j := 2) (v := nI (i + 1)) (lv' := [(3, .int (nI (i + 1))), (1, .long (acc + (shareOf (J p 10) (shV I (shA R (dr R p 3) i))))), (4, .ref (shA R (dr R p 3) i)), (0, .ref p)]) hc dX0_sharesThatAreCosts_72 rfl (nI_1 i) (by decide) rfl ?_
        refine x_goto (tgt := 4) hc dX0_sharesThatAreCosts_75 (by decide) ?_
        refine x_sub [0, 1, 3] rfl ?_
        exact ih (i + 1) _ (by omega) (by rw [costN, costS, if_pos (show (shV I (shA R (dr R p 3) i)).1 = 0 from q1), ← hacc])
  exact hloop n 0 0 (by omega) rfl
abbrev rm_X0_profitLeftAt : Room := { frames := 3, cells := 0, slots := 0, locals := 64 }
set_option maxHeartbeats 4000000 in
set_option maxRecDepth 100000 in
theorem c_leftAt (l : Launch) (D : va_G) (z e0 : Nat) (L : List Nat) (K N : Nat → Nat) (I : Nat → Nat → Int32) (J : Nat → Nat → Int64) (R : Nat → Nat → Option Nat) (b p n : Nat) (hp : Pic L K N R b p) (hl : Lst L K N I R (dr R p 3) (320 * b + 224) (320 * b + 279) n) (u : Nat) (hu : u ≤ n) : MG l yX0_profitLeftAt wsX0_profitLeftAt rm_X0_profitLeftAt D z e0 L K N I J R [.ref p, .int (nI u)] (fun v I' J' => v = some (.long (leftN (J p 14) (fun i => shV I (shA R (dr R p 3) i)) u)) ∧ I' = I ∧ J' = J) := by
  refine mg_of (own := RX0) (maxL := 6) (ret := (some .long)) (by decide +kernel) rfl rfl (Nat.le_of_ble_eq_true rfl) ?_
  intro pg ev s mi args below meth c hc hr
  obtain ⟨hp0, hp1, hp2, hp3, hp4, hp5, hp6, hp7, hp8, hp9, hp10, hp11, hp12⟩ := hp
  have hl0 := hl.1
  refine x_aload_n (j := 0) hc dX0_profitLeftAt_0 rfl rfl ?_
  refine x_getJ (C := RX0) (T := TX0) (NN := 15) (ci := 1) (ref := "NetPoints$Picture") hc 14 in_X0_profitLeftAt_1 rfl (by decide) lf_X0_profitLeftAt_79 (fun _ h9 => h9) hp0 (by omega) (by decide) rfl dX0_profitLeftAt_1 ?_
  refine x_lstore_n (lv' := [(2, .long (J p 14)), (0, .ref p), (1, .int (nI u))]) hc dX0_profitLeftAt_4 rfl (by decide) rfl ?_
  refine x_iconst (v := 0) hc dX0_profitLeftAt_5 (by decide) ?_
  refine x_istore (lv' := [(4, .int 0), (2, .long (J p 14)), (0, .ref p), (1, .int (nI u))]) hc dX0_profitLeftAt_6 (by decide) rfl ?_
  have hloop : ∀ (k i : Nat) (acc : Int64), i + k = u → acc = leftN (J p 14) (fun i => shV I (shA R (dr R p 3) i)) i → XW pg l ev rm_X0_profitLeftAt s mi args below meth c D z 6 L K N I J R 0 0 (MQ below (QG D z L K N R (fun v I' J' => v = some (.long (leftN (J p 14) (fun i => shV I (shA R (dr R p 3) i)) u)) ∧ I' = I ∧ J' = J)) args s (rm_X0_profitLeftAt).cells (rm_X0_profitLeftAt).slots (fun q => z ≤ q)) 8 [(4, .int (nI i)), (2, .long acc), (0, .ref p), (1, .int (nI u))] [] := by
    intro k
    induction k with
    | zero =>
      intro i acc hi hacc
      refine x_iload (j := 0) hc dX0_profitLeftAt_8 rfl ?_
      refine x_aload_n (j := 2) hc dX0_profitLeftAt_10 rfl rfl ?_
      refine x_getR (C := RX0) (T := TX0) (NN := 15) (ci := 1) (ref := "NetPoints$Picture") hc 3 in_X0_profitLeftAt_1 rfl (by decide) lf_X0_profitLeftAt_26 (fun _ h9 => h9) hp0 (by omega) (by decide) rfl hp8 dX0_profitLeftAt_11 ?_
      refine x_callV (C := RJx4a65c) (T := TJx4a65c) (NN := 3) (ci := 0) (As := []) (st := [.int (nI i)]) hc hl0 (by omega) (by decide) rfl (c_size l D z e0 L K N I J R (dr R p 3) (320 * b + 224) n hl.1 (by omega) hl.2.2.1) gX0_profitLeftAt_Jx4a65c_size_8abf5 rfl hdV_Jx4a65c_size_8abf5 ⟨Nat.le_of_ble_eq_true rfl, Nat.le_of_ble_eq_true rfl⟩ rfl rfl ⟨Nat.le_of_ble_eq_true rfl, Nat.le_of_ble_eq_true rfl⟩ (Nat.le_of_ble_eq_true rfl) dX0_profitLeftAt_14 (fun v9 I9 J9 hz9 => ?_)
      obtain ⟨rfl, hI9, hJ9⟩ := hz9
      replace hI9 := hI9.symm
      subst hI9
      replace hJ9 := hJ9.symm
      subst hJ9
      refine x_icmp_ge (tgt := 68) hc dX0_profitLeftAt_17 (by decide) (fun q1 => ?_) (fun q1 => ?_)
      · refine x_lload_n (j := 1) hc dX0_profitLeftAt_68 rfl rfl ?_
        exact x_lret hc hr (by decide) (by decide) dX0_profitLeftAt_69 (⟨by rw [hacc, show i = u by omega], rfl, rfl⟩)
      · refine x_iload (j := 0) hc dX0_profitLeftAt_20 rfl ?_
        refine x_iload_n (j := 3) hc dX0_profitLeftAt_22 rfl rfl ?_
        refine x_icmp_ge (tgt := 68) hc dX0_profitLeftAt_23 (by decide) (fun _ => ?_) (fun q9 => absurd (by rw [show i = u by omega]; exact Int32.le_refl _) q9)
        refine x_lload_n (j := 1) hc dX0_profitLeftAt_68 rfl rfl ?_
        exact x_lret hc hr (by decide) (by decide) dX0_profitLeftAt_69 (⟨by rw [hacc, show i = u by omega], rfl, rfl⟩)
    | succ k ih =>
      intro i acc hik hacc
      have hi : i < n := by omega
      refine x_iload (j := 0) hc dX0_profitLeftAt_8 rfl ?_
      refine x_aload_n (j := 2) hc dX0_profitLeftAt_10 rfl rfl ?_
      refine x_getR (C := RX0) (T := TX0) (NN := 15) (ci := 1) (ref := "NetPoints$Picture") hc 3 in_X0_profitLeftAt_1 rfl (by decide) lf_X0_profitLeftAt_26 (fun _ h9 => h9) hp0 (by omega) (by decide) rfl hp8 dX0_profitLeftAt_11 ?_
      refine x_callV (C := RJx4a65c) (T := TJx4a65c) (NN := 3) (ci := 0) (As := []) (st := [.int (nI i)]) hc hl0 (by omega) (by decide) rfl (c_size l D z e0 L K N I J R (dr R p 3) (320 * b + 224) n hl.1 (by omega) hl.2.2.1) gX0_profitLeftAt_Jx4a65c_size_8abf5 rfl hdV_Jx4a65c_size_8abf5 ⟨Nat.le_of_ble_eq_true rfl, Nat.le_of_ble_eq_true rfl⟩ rfl rfl ⟨Nat.le_of_ble_eq_true rfl, Nat.le_of_ble_eq_true rfl⟩ (Nat.le_of_ble_eq_true rfl) dX0_profitLeftAt_14 (fun v9 I9 J9 hz9 => ?_)
      obtain ⟨rfl, hI9, hJ9⟩ := hz9
      replace hI9 := hI9.symm
      subst hI9
      replace hJ9 := hJ9.symm
      subst hJ9
      refine x_icmp_ge (tgt := 68) hc dX0_profitLeftAt_17 (by decide) (fun q9 => absurd q9 (nI_ge hi (Nat.lt_of_le_of_lt hl.2.2.2.1 (by decide)))) (fun _ => ?_)
      refine x_iload (j := 0) hc dX0_profitLeftAt_20 rfl ?_
      refine x_iload_n (j := 3) hc dX0_profitLeftAt_22 rfl rfl ?_
      refine x_icmp_ge (tgt := 68) hc dX0_profitLeftAt_23 (by decide) (fun q9 => absurd q9 (nI_ge (show i < u by omega) (Nat.lt_of_le_of_lt hu (Nat.lt_of_le_of_lt hl.2.2.2.1 (by decide))))) (fun _ => ?_)
      refine x_aload_n (j := 2) hc dX0_profitLeftAt_26 rfl rfl ?_
      refine x_getR (C := RX0) (T := TX0) (NN := 15) (ci := 1) (ref := "NetPoints$Picture") hc 3 in_X0_profitLeftAt_1 rfl (by decide) lf_X0_profitLeftAt_26 (fun _ h9 => h9) hp0 (by omega) (by decide) rfl hp8 dX0_profitLeftAt_27 ?_
      refine x_iload (j := 0) hc dX0_profitLeftAt_30 rfl ?_
      have hk9 := ((hl.2.2.2.2.2 (Nat.lt_of_le_of_lt (Nat.zero_le _) hi)).2.2 i hi).2.2.1
      refine x_callV (C := RJx4a65c) (T := TJx4a65c) (NN := 3) (ci := 0) (As := [.int (nI i)]) (st := []) hc hl0 (by omega) (by decide) rfl (c_get l D z e0 L K N I J R (dr R p 3) (320 * b + 224) (320 * b + 279) n i hl hi) gX0_profitLeftAt_Jx4a65c_get_915e3 rfl hdV_Jx4a65c_get_915e3 ⟨Nat.le_of_ble_eq_true rfl, Nat.le_of_ble_eq_true rfl⟩ rfl rfl ⟨Nat.le_of_ble_eq_true rfl, Nat.le_of_ble_eq_true rfl⟩ (Nat.le_of_ble_eq_true rfl) dX0_profitLeftAt_32 (fun v9 I9 J9 hz9 => ?_)
      obtain ⟨rfl, hI9, hJ9⟩ := hz9
      replace hI9 := hI9.symm
      subst hI9
      replace hJ9 := hJ9.symm
      subst hJ9
      refine x_cast (T := TX1) (NN := 7) (ci := 2) hc (((hl.2.2.2.2.2 (Nat.lt_of_le_of_lt (Nat.zero_le _) hi)).2.2 i hi).2.1) (by omega) (by decide) rfl lcl_X0_profitLeftAt_45 dX0_profitLeftAt_35 ?_
      refine x_astore (lv' := [(5, .ref (shA R (dr R p 3) i)), (4, .int (nI i)), (2, .long acc), (0, .ref p), (1, .int (nI u))]) hc dX0_profitLeftAt_38 (by decide) rfl ?_
      refine x_aload (j := 0) hc dX0_profitLeftAt_40 rfl ?_
      refine x_getI (C := RX1) (T := TX1) (NN := 7) (ci := 2) (ref := "NetPoints$Sharer") hc 2 in_X0_profitLeftAt_2 rfl (by decide) lf_X0_profitLeftAt_47 (fun _ h9 => h9) (((hl.2.2.2.2.2 (Nat.lt_of_le_of_lt (Nat.zero_le _) hi)).2.2 i hi).2.1) (by omega) (by decide) rfl dX0_profitLeftAt_42 ?_
      refine x_iconst (v := 2) hc dX0_profitLeftAt_45 (by decide) ?_
      refine x_icmp_ne (tgt := 62) hc dX0_profitLeftAt_46 (by decide) (fun q1 => ?_) (fun q1 => ?_)
      · refine x_iinc (j := 1) (v := nI (i + 1)) (lv' := [(4, .int (nI (i + 1))), (5, .ref (shA R (dr R p 3) i)), (2, .long acc), (0, .ref p), (1, .int (nI u))]) hc dX0_profitLeftAt_62 rfl (nI_1 i) (by decide) rfl ?_
        refine x_goto (tgt := 8) hc dX0_profitLeftAt_65 (by decide) ?_
        refine x_sub [0, 2, 3, 4] rfl ?_
        exact ih (i + 1) _ (by omega) (by rw [leftN, leftS, if_neg (show ¬ (shV I (shA R (dr R p 3) i)).1 = 2 from q1), ← hacc])
      · refine x_lload_n (j := 2) hc dX0_profitLeftAt_49 rfl rfl ?_
        refine x_aload (j := 0) hc dX0_profitLeftAt_50 rfl ?_
        refine x_getI (C := RX1) (T := TX1) (NN := 7) (ci := 2) (ref := "NetPoints$Sharer") hc 3 in_X0_profitLeftAt_2 rfl (by decide) lf_X0_profitLeftAt_117 (fun _ h9 => h9) (((hl.2.2.2.2.2 (Nat.lt_of_le_of_lt (Nat.zero_le _) hi)).2.2 i hi).2.1) (by omega) (by decide) rfl dX0_profitLeftAt_52 ?_
        refine x_i2l hc dX0_profitLeftAt_55 ?_
        refine x_lload_n (j := 2) hc dX0_profitLeftAt_56 rfl rfl ?_
        refine x_mminl hc lml_X0_profitLeftAt_103 lst_X0_profitLeftAt_103 lini_X0_profitLeftAt_Math lcd_X0_profitLeftAt_103 (Nat.le_of_ble_eq_true rfl) (Nat.le_of_ble_eq_true rfl) (Nat.le_of_ble_eq_true rfl) (Nat.le_of_ble_eq_true rfl) dX0_profitLeftAt_57 ?_
        refine x_lsub hc dX0_profitLeftAt_60 ?_
        refine x_lstore_n (lv' := [(2, .long (acc - (if acc < (Int32.toInt64 (I (shA R (dr R p 3) i) 3)) then acc else (Int32.toInt64 (I (shA R (dr R p 3) i) 3))))), (5, .ref (shA R (dr R p 3) i)), (4, .int (nI i)), (0, .ref p), (1, .int (nI u))]) hc dX0_profitLeftAt_61 rfl (by decide) rfl ?_
        refine x_iinc (j := 2) (v := nI (i + 1)) (lv' := [(4, .int (nI (i + 1))), (2, .long (acc - (if acc < (Int32.toInt64 (I (shA R (dr R p 3) i) 3)) then acc else (Int32.toInt64 (I (shA R (dr R p 3) i) 3))))), (5, .ref (shA R (dr R p 3) i)), (0, .ref p), (1, .int (nI u))]) hc dX0_profitLeftAt_62 rfl (nI_1 i) (by decide) rfl ?_
        refine x_goto (tgt := 8) hc dX0_profitLeftAt_65 (by decide) ?_
        refine x_sub [0, 1, 3, 4] rfl ?_
        exact ih (i + 1) _ (by omega) (by rw [leftN, leftS, if_pos (show (shV I (shA R (dr R p 3) i)).1 = 2 from q1), ← hacc]; rfl)
  exact hloop u 0 _ (by omega) rfl
abbrev rm_X0_poolDrawn : Room := { frames := 4, cells := 0, slots := 0, locals := 89 }
set_option maxHeartbeats 4000000 in
set_option maxRecDepth 100000 in
theorem c_pool (l : Launch) (D : va_G) (z e0 : Nat) (L : List Nat) (K N : Nat → Nat) (I : Nat → Nat → Int32) (J : Nat → Nat → Int64) (R : Nat → Nat → Option Nat) (b p n : Nat) (hp : Pic L K N R b p) (hl : Lst L K N I R (dr R p 3) (320 * b + 224) (320 * b + 279) n) : MG l yX0_poolDrawn wsX0_poolDrawn rm_X0_poolDrawn D z e0 L K N I J R [.ref p] (fun v I' J' => v = some (.long (leftN (J p 14) (fun i => shV I (shA R (dr R p 3) i)) n)) ∧ I' = I ∧ J' = J) := by
  refine mg_of (own := RX0) (maxL := 1) (ret := (some .long)) (by decide +kernel) rfl rfl (Nat.le_of_ble_eq_true rfl) ?_
  intro pg ev s mi args below meth c hc hr
  have hpic := hp
  obtain ⟨hp0, hp1, hp2, hp3, hp4, hp5, hp6, hp7, hp8, hp9, hp10, hp11, hp12⟩ := hp
  have hl0 := hl.1
  refine x_aload_n (j := 0) hc dX0_poolDrawn_0 rfl rfl ?_
  refine x_aload_n (j := 0) hc dX0_poolDrawn_1 rfl rfl ?_
  refine x_getR (C := RX0) (T := TX0) (NN := 15) (ci := 1) (ref := "NetPoints$Picture") hc 3 in_X0_poolDrawn_1 rfl (by decide) lf_X0_poolDrawn_26 (fun _ h9 => h9) hp0 (by omega) (by decide) rfl hp8 dX0_poolDrawn_2 ?_
  refine x_callV (C := RJx4a65c) (T := TJx4a65c) (NN := 3) (ci := 0) (As := []) (st := [.ref p]) hc hl0 (by omega) (by decide) rfl (c_size l D z e0 L K N I J R (dr R p 3) (320 * b + 224) n hl.1 (by omega) hl.2.2.1) gX0_poolDrawn_Jx4a65c_size_8abf5 rfl hdV_Jx4a65c_size_8abf5 ⟨Nat.le_of_ble_eq_true rfl, Nat.le_of_ble_eq_true rfl⟩ rfl rfl ⟨Nat.le_of_ble_eq_true rfl, Nat.le_of_ble_eq_true rfl⟩ (Nat.le_of_ble_eq_true rfl) dX0_poolDrawn_5 (fun v9 I9 J9 hz9 => ?_)
  obtain ⟨rfl, hI9, hJ9⟩ := hz9
  replace hI9 := hI9.symm
  subst hI9
  replace hJ9 := hJ9.symm
  subst hJ9
  refine x_callV (C := RX0) (T := TX0) (NN := 15) (ci := 1) (As := [.int (nI n)]) (st := []) hc hp0 (by omega) (by decide) rfl (c_leftAt l D z e0 L K N I J R b p n hpic hl n (Nat.le_refl n)) gX0_poolDrawn_X0_profitLeftAt rfl hdV_X0_profitLeftAt ⟨Nat.le_of_ble_eq_true rfl, Nat.le_of_ble_eq_true rfl⟩ rfl rfl ⟨Nat.le_of_ble_eq_true rfl, Nat.le_of_ble_eq_true rfl⟩ (Nat.le_of_ble_eq_true rfl) dX0_poolDrawn_8 (fun v9 I9 J9 hz9 => ?_)
  obtain ⟨rfl, hI9, hJ9⟩ := hz9
  replace hI9 := hI9.symm
  subst hI9
  replace hJ9 := hJ9.symm
  subst hJ9
  exact x_lret hc hr (by decide) (by decide) dX0_poolDrawn_11 (⟨rfl, rfl, rfl⟩)
abbrev rm_X0_startBooks : Room := { frames := 0, cells := 0, slots := 0, locals := 0 }
set_option maxHeartbeats 4000000 in
set_option maxRecDepth 100000 in
theorem c_start (l : Launch) (D : va_G) (z e0 : Nat) (L : List Nat) (K N : Nat → Nat) (I : Nat → Nat → Int32) (J : Nat → Nat → Int64) (R : Nat → Nat → Option Nat) (b p : Nat) (hp : Pic L K N R b p) : MG l yX0_startBooks wsX0_startBooks rm_X0_startBooks D z e0 L K N I J R [.ref p] (fun v I' J' => v = none ∧ I' = I ∧ J' = setB J p (0, 0, 0, 0, 0, 0)) := by
  refine mg_of (own := RX0) (maxL := 1) (ret := none) (by decide +kernel) rfl rfl (Nat.le_of_ble_eq_true rfl) ?_
  intro pg ev s mi args below meth c hc hr
  obtain ⟨hp0, hp1, hp2, hp3, hp4, hp5, hp6, hp7, hp8, hp9, hp10, hp11, hp12⟩ := hp
  obtain ⟨g, a, f, s, bl, r, hB⟩ : ∃ g a f s bl r : Int64, (g, a, f, s, bl, r) = getB J p := ⟨_, _, _, _, _, _, rfl⟩
  have hJ0 : J = setB J p (g, a, f, s, bl, r) := by rw [hB]; exact setB_self J p
  refine x_setJ hJ0 ?_
  refine x_aload_n (j := 0) hc dX0_startBooks_0 rfl rfl ?_
  refine x_lconst (v := 0) hc dX0_startBooks_1 rfl ?_
  refine x_putJ (C := RX0) (T := TX0) (NN := 15) (ci := 1) (ref := "NetPoints$Picture") hc 9 in_X0_startBooks_1 rfl (by decide) lf_X0_startBooks_63 (fun _ h9 => h9) tyX0 tyX0_ok nmX0 hp0 (by omega) (by decide) rfl rfl pd_X0_9 dX0_startBooks_2 ?_
  refine x_setJ (setB_u9 J p g a f s bl r 0) ?_
  refine x_aload_n (j := 0) hc dX0_startBooks_5 rfl rfl ?_
  refine x_lconst (v := 0) hc dX0_startBooks_6 rfl ?_
  refine x_putJ (C := RX0) (T := TX0) (NN := 15) (ci := 1) (ref := "NetPoints$Picture") hc 10 in_X0_startBooks_1 rfl (by decide) lf_X0_startBooks_67 (fun _ h9 => h9) tyX0 tyX0_ok nmX0 hp0 (by omega) (by decide) rfl rfl pd_X0_10 dX0_startBooks_7 ?_
  refine x_setJ (setB_u10 J p 0 a f s bl r 0) ?_
  refine x_aload_n (j := 0) hc dX0_startBooks_10 rfl rfl ?_
  refine x_lconst (v := 0) hc dX0_startBooks_11 rfl ?_
  refine x_putJ (C := RX0) (T := TX0) (NN := 15) (ci := 1) (ref := "NetPoints$Picture") hc 11 in_X0_startBooks_1 rfl (by decide) lf_X0_startBooks_70 (fun _ h9 => h9) tyX0 tyX0_ok nmX0 hp0 (by omega) (by decide) rfl rfl pd_X0_11 dX0_startBooks_12 ?_
  refine x_setJ (setB_u11 J p 0 0 f s bl r 0) ?_
  refine x_aload_n (j := 0) hc dX0_startBooks_15 rfl rfl ?_
  refine x_lconst (v := 0) hc dX0_startBooks_16 rfl ?_
  refine x_putJ (C := RX0) (T := TX0) (NN := 15) (ci := 1) (ref := "NetPoints$Picture") hc 12 in_X0_startBooks_1 rfl (by decide) lf_X0_startBooks_73 (fun _ h9 => h9) tyX0 tyX0_ok nmX0 hp0 (by omega) (by decide) rfl rfl pd_X0_12 dX0_startBooks_17 ?_
  refine x_setJ (setB_u12 J p 0 0 0 s bl r 0) ?_
  refine x_aload_n (j := 0) hc dX0_startBooks_20 rfl rfl ?_
  refine x_lconst (v := 0) hc dX0_startBooks_21 rfl ?_
  refine x_putJ (C := RX0) (T := TX0) (NN := 15) (ci := 1) (ref := "NetPoints$Picture") hc 13 in_X0_startBooks_1 rfl (by decide) lf_X0_startBooks_76 (fun _ h9 => h9) tyX0 tyX0_ok nmX0 hp0 (by omega) (by decide) rfl rfl pd_X0_13 dX0_startBooks_22 ?_
  refine x_setJ (setB_u13 J p 0 0 0 0 bl r 0) ?_
  refine x_aload_n (j := 0) hc dX0_startBooks_25 rfl rfl ?_
  refine x_lconst (v := 0) hc dX0_startBooks_26 rfl ?_
  refine x_putJ (C := RX0) (T := TX0) (NN := 15) (ci := 1) (ref := "NetPoints$Picture") hc 14 in_X0_startBooks_1 rfl (by decide) lf_X0_startBooks_79 (fun _ h9 => h9) tyX0 tyX0_ok nmX0 hp0 (by omega) (by decide) rfl rfl pd_X0_14 dX0_startBooks_27 ?_
  refine x_setJ (setB_u14 J p 0 0 0 0 0 r 0) ?_
  exact x_vret hc hr (by decide) (by decide) dX0_startBooks_30 (⟨rfl, rfl, rfl⟩)
abbrev rm_X0_recoup : Room := { frames := 4, cells := 0, slots := 0, locals := 88 }
set_option maxHeartbeats 4000000 in
set_option maxRecDepth 100000 in
theorem c_recoup (l : Launch) (D : va_G) (z e0 : Nat) (L : List Nat) (K N : Nat → Nat) (I : Nat → Nat → Int32) (J : Nat → Nat → Int64) (R : Nat → Nat → Option Nat) (b p n : Nat) (hp : Pic L K N R b p) (hl : Lst L K N I R (dr R p 3) (320 * b + 224) (320 * b + 279) n) (y : Nat) (hy : y < 10) : MG l yX0_recoup wsX0_recoup rm_X0_recoup D z e0 L K N I J R [.ref p, .int (nI y)] (fun v I' J' => v = some (.long (recG (I p 4) (I p 5) (I (rwA R p y)) (I (dr R p 2)) (I (dr R p 1) y) (fun i => shV I (shA R (dr R p 3) i)) n (getB J p))) ∧ I' = I ∧ J' = setB J p (recB (I p 4) (I p 5) (I (rwA R p y)) (I (dr R p 2)) (I (dr R p 1) y) (fun i => shV I (shA R (dr R p 3) i)) n (getB J p))) := by
  refine mg_of (own := RX0) (maxL := 12) (ret := (some .long)) (by decide +kernel) rfl rfl (Nat.le_of_ble_eq_true rfl) ?_
  intro pg ev s mi args below meth c hc hr
  have hpic := hp
  obtain ⟨hp0, hp1, hp2, hp3, hp4, hp5, hp6, hp7, hp8, hp9, hp10, hp11, hp12⟩ := hp
  obtain ⟨g, a, f, s, bl, r, hB⟩ : ∃ g a f s bl r : Int64, (g, a, f, s, bl, r) = getB J p := ⟨_, _, _, _, _, _, rfl⟩
  have hJ0 : J = setB J p (g, a, f, s, bl, r) := by rw [hB]; exact setB_self J p
  refine x_setJ hJ0 ?_
  refine x_aload_n (j := 0) hc dX0_recoup_0 rfl rfl ?_
  refine x_iload_n (j := 1) hc dX0_recoup_1 rfl rfl ?_
  refine x_callV (C := RX0) (T := TX0) (NN := 15) (ci := 1) (As := [.int (nI y)]) (st := []) hc hp0 (by omega) (by decide) rfl (c_grossIn l D z e0 L K N I (setB J p (g, a, f, s, bl, r)) R b p hpic y hy) gX0_recoup_X0_grossIn rfl hdV_X0_grossIn ⟨Nat.le_of_ble_eq_true rfl, Nat.le_of_ble_eq_true rfl⟩ rfl rfl ⟨Nat.le_of_ble_eq_true rfl, Nat.le_of_ble_eq_true rfl⟩ (Nat.le_of_ble_eq_true rfl) dX0_recoup_2 (fun v9 I9 J9 hz9 => ?_)
  obtain ⟨rfl, hI9, hJ9⟩ := hz9
  replace hI9 := hI9.symm
  subst hI9
  replace hJ9 := hJ9.symm
  subst hJ9
  refine x_lstore_n (lv' := [(2, .long (grossY (I (rwA R p y)))), (0, .ref p), (1, .int (nI y))]) hc dX0_recoup_5 rfl (by decide) rfl ?_
  refine x_lload_n (j := 0) hc dX0_recoup_6 rfl rfl ?_
  refine x_lload_n (j := 0) hc dX0_recoup_7 rfl rfl ?_
  refine x_aload_n (j := 1) hc dX0_recoup_8 rfl rfl ?_
  refine x_getI (C := RX0) (T := TX0) (NN := 15) (ci := 1) (ref := "NetPoints$Picture") hc 4 in_X0_recoup_1 rfl (by decide) lf_X0_recoup_86 (fun _ h9 => h9) hp0 (by omega) (by decide) rfl dX0_recoup_9 ?_
  refine x_callSN (As := [.long (grossY (I (rwA R p y))), .int (I p 4)]) (st := [.long (grossY (I (rwA R p y)))]) hc (c_part l D z e0 L K N I (setB J p (g, a, f, s, bl, r)) R (grossY (I (rwA R p y))) (I p 4)) gX0_recoup_X2_part_n89 rfl hdS_X2_part ⟨Nat.le_of_ble_eq_true rfl, Nat.le_of_ble_eq_true rfl⟩ hc.ev.2.2.2.2.2.1 lini_X0_recoup_X2_part lst_X0_recoup_X2_part rfl rfl ⟨Nat.le_of_ble_eq_true rfl, Nat.le_of_ble_eq_true rfl⟩ (Nat.le_of_ble_eq_true rfl) dX0_recoup_12 (fun v9 I9 J9 hz9 => ?_)
  obtain ⟨rfl, hI9, hJ9⟩ := hz9
  replace hI9 := hI9.symm
  subst hI9
  replace hJ9 := hJ9.symm
  subst hJ9
  refine x_lsub hc dX0_recoup_15 ?_
  refine x_lstore (lv' := [(4, .long ((grossY (I (rwA R p y))) - (prt (grossY (I (rwA R p y))) (I p 4)))), (2, .long (grossY (I (rwA R p y)))), (0, .ref p), (1, .int (nI y))]) hc dX0_recoup_16 (by decide) rfl ?_
  refine x_aload_n (j := 2) hc dX0_recoup_18 rfl rfl ?_
  refine x_iload_n (j := 3) hc dX0_recoup_19 rfl rfl ?_
  refine x_callV (C := RX0) (T := TX0) (NN := 15) (ci := 1) (As := [.int (nI y)]) (st := []) hc hp0 (by omega) (by decide) rfl (c_feesIn l D z e0 L K N I (setB J p (g, a, f, s, bl, r)) R b p hpic y hy) gX0_recoup_X0_feesIn rfl hdV_X0_feesIn ⟨Nat.le_of_ble_eq_true rfl, Nat.le_of_ble_eq_true rfl⟩ rfl rfl ⟨Nat.le_of_ble_eq_true rfl, Nat.le_of_ble_eq_true rfl⟩ (Nat.le_of_ble_eq_true rfl) dX0_recoup_20 (fun v9 I9 J9 hz9 => ?_)
  obtain ⟨rfl, hI9, hJ9⟩ := hz9
  replace hI9 := hI9.symm
  subst hI9
  replace hJ9 := hJ9.symm
  subst hJ9
  refine x_lstore (lv' := [(6, .long (feesY (I (rwA R p y)) (I (dr R p 2)))), (4, .long ((grossY (I (rwA R p y))) - (prt (grossY (I (rwA R p y))) (I p 4)))), (2, .long (grossY (I (rwA R p y)))), (0, .ref p), (1, .int (nI y))]) hc dX0_recoup_23 (by decide) rfl ?_
  refine x_aload_n (j := 3) hc dX0_recoup_25 rfl rfl ?_
  refine x_dup hc dX0_recoup_26 rfl ?_
  refine x_getJ (C := RX0) (T := TX0) (NN := 15) (ci := 1) (ref := "NetPoints$Picture") hc 9 in_X0_recoup_1 rfl (by decide) lf_X0_recoup_63 (fun _ h9 => h9) hp0 (by omega) (by decide) rfl dX0_recoup_27 ?_
  refine x_vall (y := g) (setB_9 _ _ _) ?_
  refine x_lload_n (j := 2) hc dX0_recoup_30 rfl rfl ?_
  refine x_ladd hc dX0_recoup_31 ?_
  refine x_putJ (C := RX0) (T := TX0) (NN := 15) (ci := 1) (ref := "NetPoints$Picture") hc 9 in_X0_recoup_1 rfl (by decide) lf_X0_recoup_63 (fun _ h9 => h9) tyX0 tyX0_ok nmX0 hp0 (by omega) (by decide) rfl rfl pd_X0_9 dX0_recoup_32 ?_
  refine x_setJ (setB_u9 J p g a f s bl r (g + (grossY (I (rwA R p y))))) ?_
  refine x_aload_n (j := 3) hc dX0_recoup_35 rfl rfl ?_
  refine x_dup hc dX0_recoup_36 rfl ?_
  refine x_getJ (C := RX0) (T := TX0) (NN := 15) (ci := 1) (ref := "NetPoints$Picture") hc 10 in_X0_recoup_1 rfl (by decide) lf_X0_recoup_67 (fun _ h9 => h9) hp0 (by omega) (by decide) rfl dX0_recoup_37 ?_
  refine x_vall (y := a) (setB_10 _ _ _) ?_
  refine x_lload (j := 1) hc dX0_recoup_40 rfl ?_
  refine x_ladd hc dX0_recoup_42 ?_
  refine x_putJ (C := RX0) (T := TX0) (NN := 15) (ci := 1) (ref := "NetPoints$Picture") hc 10 in_X0_recoup_1 rfl (by decide) lf_X0_recoup_67 (fun _ h9 => h9) tyX0 tyX0_ok nmX0 hp0 (by omega) (by decide) rfl rfl pd_X0_10 dX0_recoup_43 ?_
  refine x_setJ (setB_u10 J p (g + (grossY (I (rwA R p y)))) a f s bl r (a + ((grossY (I (rwA R p y))) - (prt (grossY (I (rwA R p y))) (I p 4))))) ?_
  refine x_aload_n (j := 3) hc dX0_recoup_46 rfl rfl ?_
  refine x_dup hc dX0_recoup_47 rfl ?_
  refine x_getJ (C := RX0) (T := TX0) (NN := 15) (ci := 1) (ref := "NetPoints$Picture") hc 11 in_X0_recoup_1 rfl (by decide) lf_X0_recoup_70 (fun _ h9 => h9) hp0 (by omega) (by decide) rfl dX0_recoup_48 ?_
  refine x_vall (y := f) (setB_11 _ _ _) ?_
  refine x_lload (j := 0) hc dX0_recoup_51 rfl ?_
  refine x_ladd hc dX0_recoup_53 ?_
  refine x_putJ (C := RX0) (T := TX0) (NN := 15) (ci := 1) (ref := "NetPoints$Picture") hc 11 in_X0_recoup_1 rfl (by decide) lf_X0_recoup_70 (fun _ h9 => h9) tyX0 tyX0_ok nmX0 hp0 (by omega) (by decide) rfl rfl pd_X0_11 dX0_recoup_54 ?_
  refine x_setJ (setB_u11 J p (g + (grossY (I (rwA R p y)))) (a + ((grossY (I (rwA R p y))) - (prt (grossY (I (rwA R p y))) (I p 4)))) f s bl r (f + (feesY (I (rwA R p y)) (I (dr R p 2))))) ?_
  refine x_aload_n (j := 3) hc dX0_recoup_57 rfl rfl ?_
  have hsh := c_shares l D z e0 L K N I (setB J p ((g + (grossY (I (rwA R p y)))), (a + ((grossY (I (rwA R p y))) - (prt (grossY (I (rwA R p y))) (I p 4)))), (f + (feesY (I (rwA R p y)) (I (dr R p 2)))), s, bl, r)) R b p n hpic hl
  rw [setB_9, setB_10] at hsh
  refine x_callV (C := RX0) (T := TX0) (NN := 15) (ci := 1) (As := []) (st := []) hc hp0 (by omega) (by decide) rfl hsh gX0_recoup_X0_sharesThatAreCosts rfl hdV_X0_sharesThatAreCosts ⟨Nat.le_of_ble_eq_true rfl, Nat.le_of_ble_eq_true rfl⟩ rfl rfl ⟨Nat.le_of_ble_eq_true rfl, Nat.le_of_ble_eq_true rfl⟩ (Nat.le_of_ble_eq_true rfl) dX0_recoup_58 (fun v9 I9 J9 hz9 => ?_)
  obtain ⟨rfl, hI9, hJ9⟩ := hz9
  replace hI9 := hI9.symm
  subst hI9
  replace hJ9 := hJ9.symm
  subst hJ9
  refine x_lstore (lv' := [(8, .long (costN (a + ((grossY (I (rwA R p y))) - (prt (grossY (I (rwA R p y))) (I p 4)))) (g + (grossY (I (rwA R p y)))) (fun i => shV I (shA R (dr R p 3) i)) n)), (6, .long (feesY (I (rwA R p y)) (I (dr R p 2)))), (4, .long ((grossY (I (rwA R p y))) - (prt (grossY (I (rwA R p y))) (I p 4)))), (2, .long (grossY (I (rwA R p y)))), (0, .ref p), (1, .int (nI y))]) hc dX0_recoup_61 (by decide) rfl ?_
  refine x_aload_n (j := 4) hc dX0_recoup_63 rfl rfl ?_
  refine x_dup hc dX0_recoup_64 rfl ?_
  refine x_getJ (C := RX0) (T := TX0) (NN := 15) (ci := 1) (ref := "NetPoints$Picture") hc 13 in_X0_recoup_1 rfl (by decide) lf_X0_recoup_76 (fun _ h9 => h9) hp0 (by omega) (by decide) rfl dX0_recoup_65 ?_
  refine x_vall (y := bl) (setB_13 _ _ _) ?_
  refine x_aload_n (j := 4) hc dX0_recoup_68 rfl rfl ?_
  refine x_getR (C := RX0) (T := TX0) (NN := 15) (ci := 1) (ref := "NetPoints$Picture") hc 1 in_X0_recoup_1 rfl (by decide) lf_X0_recoup_16 (fun _ h9 => h9) hp0 (by omega) (by decide) rfl hp4 dX0_recoup_69 ?_
  refine x_iload_n (j := 5) hc dX0_recoup_72 rfl rfl ?_
  refine x_iald hc hp5 (by decide) rfl hy (by omega) dX0_recoup_73 ?_
  refine x_i2l hc dX0_recoup_74 ?_
  refine x_aload_n (j := 4) hc dX0_recoup_75 rfl rfl ?_
  refine x_getR (C := RX0) (T := TX0) (NN := 15) (ci := 1) (ref := "NetPoints$Picture") hc 1 in_X0_recoup_1 rfl (by decide) lf_X0_recoup_16 (fun _ h9 => h9) hp0 (by omega) (by decide) rfl hp4 dX0_recoup_76 ?_
  refine x_iload_n (j := 5) hc dX0_recoup_79 rfl rfl ?_
  refine x_iald hc hp5 (by decide) rfl hy (by omega) dX0_recoup_80 ?_
  refine x_i2l hc dX0_recoup_81 ?_
  refine x_aload_n (j := 4) hc dX0_recoup_82 rfl rfl ?_
  refine x_getI (C := RX0) (T := TX0) (NN := 15) (ci := 1) (ref := "NetPoints$Picture") hc 5 in_X0_recoup_1 rfl (by decide) lf_X0_recoup_100 (fun _ h9 => h9) hp0 (by omega) (by decide) rfl dX0_recoup_83 ?_
  refine x_callSN (As := [.long (Int32.toInt64 (I (dr R p 1) y)), .int (I p 5)]) (st := [.long (Int32.toInt64 (I (dr R p 1) y)), .long bl, .ref p]) hc (c_part l D z e0 L K N I (setB J p ((g + (grossY (I (rwA R p y)))), (a + ((grossY (I (rwA R p y))) - (prt (grossY (I (rwA R p y))) (I p 4)))), (f + (feesY (I (rwA R p y)) (I (dr R p 2)))), s, bl, r)) R (Int32.toInt64 (I (dr R p 1) y)) (I p 5)) gX0_recoup_X2_part_n89 rfl hdS_X2_part ⟨Nat.le_of_ble_eq_true rfl, Nat.le_of_ble_eq_true rfl⟩ hc.ev.2.2.2.2.2.1 lini_X0_recoup_X2_part lst_X0_recoup_X2_part rfl rfl ⟨Nat.le_of_ble_eq_true rfl, Nat.le_of_ble_eq_true rfl⟩ (Nat.le_of_ble_eq_true rfl) dX0_recoup_86 (fun v9 I9 J9 hz9 => ?_)
  obtain ⟨rfl, hI9, hJ9⟩ := hz9
  replace hI9 := hI9.symm
  subst hI9
  replace hJ9 := hJ9.symm
  subst hJ9
  refine x_ladd hc dX0_recoup_89 ?_
  refine x_lload (j := 0) hc dX0_recoup_90 rfl ?_
  refine x_ladd hc dX0_recoup_92 ?_
  refine x_aload_n (j := 4) hc dX0_recoup_93 rfl rfl ?_
  refine x_getJ (C := RX0) (T := TX0) (NN := 15) (ci := 1) (ref := "NetPoints$Picture") hc 12 in_X0_recoup_1 rfl (by decide) lf_X0_recoup_73 (fun _ h9 => h9) hp0 (by omega) (by decide) rfl dX0_recoup_94 ?_
  refine x_vall (y := s) (setB_12 _ _ _) ?_
  refine x_lsub hc dX0_recoup_97 ?_
  refine x_ladd hc dX0_recoup_98 ?_
  refine x_putJ (C := RX0) (T := TX0) (NN := 15) (ci := 1) (ref := "NetPoints$Picture") hc 13 in_X0_recoup_1 rfl (by decide) lf_X0_recoup_76 (fun _ h9 => h9) tyX0 tyX0_ok nmX0 hp0 (by omega) (by decide) rfl rfl pd_X0_13 dX0_recoup_99 ?_
  refine x_setJ (setB_u13 J p (g + (grossY (I (rwA R p y)))) (a + ((grossY (I (rwA R p y))) - (prt (grossY (I (rwA R p y))) (I p 4)))) (f + (feesY (I (rwA R p y)) (I (dr R p 2)))) s bl r (bl + ((((Int32.toInt64 (I (dr R p 1) y)) + (prt (Int32.toInt64 (I (dr R p 1) y)) (I p 5))) + (costN (a + ((grossY (I (rwA R p y))) - (prt (grossY (I (rwA R p y))) (I p 4)))) (g + (grossY (I (rwA R p y)))) (fun i => shV I (shA R (dr R p 3) i)) n)) - s))) ?_
  refine x_aload_n (j := 4) hc dX0_recoup_102 rfl rfl ?_
  refine x_lload (j := 0) hc dX0_recoup_103 rfl ?_
  refine x_putJ (C := RX0) (T := TX0) (NN := 15) (ci := 1) (ref := "NetPoints$Picture") hc 12 in_X0_recoup_1 rfl (by decide) lf_X0_recoup_73 (fun _ h9 => h9) tyX0 tyX0_ok nmX0 hp0 (by omega) (by decide) rfl rfl pd_X0_12 dX0_recoup_105 ?_
  refine x_setJ (setB_u12 J p (g + (grossY (I (rwA R p y)))) (a + ((grossY (I (rwA R p y))) - (prt (grossY (I (rwA R p y))) (I p 4)))) (f + (feesY (I (rwA R p y)) (I (dr R p 2)))) s (bl + ((((Int32.toInt64 (I (dr R p 1) y)) + (prt (Int32.toInt64 (I (dr R p 1) y)) (I p 5))) + (costN (a + ((grossY (I (rwA R p y))) - (prt (grossY (I (rwA R p y))) (I p 4)))) (g + (grossY (I (rwA R p y)))) (fun i => shV I (shA R (dr R p 3) i)) n)) - s)) r (costN (a + ((grossY (I (rwA R p y))) - (prt (grossY (I (rwA R p y))) (I p 4)))) (g + (grossY (I (rwA R p y)))) (fun i => shV I (shA R (dr R p 3) i)) n)) ?_
  refine x_aload_n (j := 4) hc dX0_recoup_108 rfl rfl ?_
  refine x_dup hc dX0_recoup_109 rfl ?_
  refine x_getJ (C := RX0) (T := TX0) (NN := 15) (ci := 1) (ref := "NetPoints$Picture") hc 13 in_X0_recoup_1 rfl (by decide) lf_X0_recoup_76 (fun _ h9 => h9) hp0 (by omega) (by decide) rfl dX0_recoup_110 ?_
  refine x_vall (y := (bl + ((((Int32.toInt64 (I (dr R p 1) y)) + (prt (Int32.toInt64 (I (dr R p 1) y)) (I p 5))) + (costN (a + ((grossY (I (rwA R p y))) - (prt (grossY (I (rwA R p y))) (I p 4)))) (g + (grossY (I (rwA R p y)))) (fun i => shV I (shA R (dr R p 3) i)) n)) - s))) (setB_13 _ _ _) ?_
  refine x_lload (j := 2) hc dX0_recoup_113 rfl ?_
  refine x_lload (j := 1) hc dX0_recoup_115 rfl ?_
  refine x_lsub hc dX0_recoup_117 ?_
  refine x_lsub hc dX0_recoup_118 ?_
  refine x_putJ (C := RX0) (T := TX0) (NN := 15) (ci := 1) (ref := "NetPoints$Picture") hc 13 in_X0_recoup_1 rfl (by decide) lf_X0_recoup_76 (fun _ h9 => h9) tyX0 tyX0_ok nmX0 hp0 (by omega) (by decide) rfl rfl pd_X0_13 dX0_recoup_119 ?_
  refine x_setJ (setB_u13 J p (g + (grossY (I (rwA R p y)))) (a + ((grossY (I (rwA R p y))) - (prt (grossY (I (rwA R p y))) (I p 4)))) (f + (feesY (I (rwA R p y)) (I (dr R p 2)))) (costN (a + ((grossY (I (rwA R p y))) - (prt (grossY (I (rwA R p y))) (I p 4)))) (g + (grossY (I (rwA R p y)))) (fun i => shV I (shA R (dr R p 3) i)) n) (bl + ((((Int32.toInt64 (I (dr R p 1) y)) + (prt (Int32.toInt64 (I (dr R p 1) y)) (I p 5))) + (costN (a + ((grossY (I (rwA R p y))) - (prt (grossY (I (rwA R p y))) (I p 4)))) (g + (grossY (I (rwA R p y)))) (fun i => shV I (shA R (dr R p 3) i)) n)) - s)) r ((bl + ((((Int32.toInt64 (I (dr R p 1) y)) + (prt (Int32.toInt64 (I (dr R p 1) y)) (I p 5))) + (costN (a + ((grossY (I (rwA R p y))) - (prt (grossY (I (rwA R p y))) (I p 4)))) (g + (grossY (I (rwA R p y)))) (fun i => shV I (shA R (dr R p 3) i)) n)) - s)) - (((grossY (I (rwA R p y))) - (prt (grossY (I (rwA R p y))) (I p 4))) - (feesY (I (rwA R p y)) (I (dr R p 2)))))) ?_
  refine x_aload_n (j := 4) hc dX0_recoup_122 rfl rfl ?_
  refine x_getJ (C := RX0) (T := TX0) (NN := 15) (ci := 1) (ref := "NetPoints$Picture") hc 13 in_X0_recoup_1 rfl (by decide) lf_X0_recoup_76 (fun _ h9 => h9) hp0 (by omega) (by decide) rfl dX0_recoup_123 ?_
  refine x_vall (y := ((bl + ((((Int32.toInt64 (I (dr R p 1) y)) + (prt (Int32.toInt64 (I (dr R p 1) y)) (I p 5))) + (costN (a + ((grossY (I (rwA R p y))) - (prt (grossY (I (rwA R p y))) (I p 4)))) (g + (grossY (I (rwA R p y)))) (fun i => shV I (shA R (dr R p 3) i)) n)) - s)) - (((grossY (I (rwA R p y))) - (prt (grossY (I (rwA R p y))) (I p 4))) - (feesY (I (rwA R p y)) (I (dr R p 2)))))) (setB_13 _ _ _) ?_
  refine x_lconst (v := 0) hc dX0_recoup_126 rfl ?_
  refine x_lcmp hc dX0_recoup_127 ?_
  refine x_if_lt (tgt := 133) hc dX0_recoup_128 (by decide) (fun q1 => ?_) (fun q1 => ?_)
  · refine x_aload_n (j := 4) hc dX0_recoup_133 rfl rfl ?_
    refine x_getJ (C := RX0) (T := TX0) (NN := 15) (ci := 1) (ref := "NetPoints$Picture") hc 13 in_X0_recoup_1 rfl (by decide) lf_X0_recoup_76 (fun _ h9 => h9) hp0 (by omega) (by decide) rfl dX0_recoup_134 ?_
    refine x_vall (y := ((bl + ((((Int32.toInt64 (I (dr R p 1) y)) + (prt (Int32.toInt64 (I (dr R p 1) y)) (I p 5))) + (costN (a + ((grossY (I (rwA R p y))) - (prt (grossY (I (rwA R p y))) (I p 4)))) (g + (grossY (I (rwA R p y)))) (fun i => shV I (shA R (dr R p 3) i)) n)) - s)) - (((grossY (I (rwA R p y))) - (prt (grossY (I (rwA R p y))) (I p 4))) - (feesY (I (rwA R p y)) (I (dr R p 2)))))) (setB_13 _ _ _) ?_
    refine x_lneg hc dX0_recoup_137 ?_
    refine x_lstore (lv' := [(10, .long (-((bl + ((((Int32.toInt64 (I (dr R p 1) y)) + (prt (Int32.toInt64 (I (dr R p 1) y)) (I p 5))) + (costN (a + ((grossY (I (rwA R p y))) - (prt (grossY (I (rwA R p y))) (I p 4)))) (g + (grossY (I (rwA R p y)))) (fun i => shV I (shA R (dr R p 3) i)) n)) - s)) - (((grossY (I (rwA R p y))) - (prt (grossY (I (rwA R p y))) (I p 4))) - (feesY (I (rwA R p y)) (I (dr R p 2))))))), (8, .long (costN (a + ((grossY (I (rwA R p y))) - (prt (grossY (I (rwA R p y))) (I p 4)))) (g + (grossY (I (rwA R p y)))) (fun i => shV I (shA R (dr R p 3) i)) n)), (6, .long (feesY (I (rwA R p y)) (I (dr R p 2)))), (4, .long ((grossY (I (rwA R p y))) - (prt (grossY (I (rwA R p y))) (I p 4)))), (2, .long (grossY (I (rwA R p y)))), (0, .ref p), (1, .int (nI y))]) hc dX0_recoup_138 (by decide) rfl ?_
    refine x_aload_n (j := 5) hc dX0_recoup_140 rfl rfl ?_
    refine x_dup hc dX0_recoup_141 rfl ?_
    refine x_getJ (C := RX0) (T := TX0) (NN := 15) (ci := 1) (ref := "NetPoints$Picture") hc 14 in_X0_recoup_1 rfl (by decide) lf_X0_recoup_79 (fun _ h9 => h9) hp0 (by omega) (by decide) rfl dX0_recoup_142 ?_
    refine x_vall (y := r) (setB_14 _ _ _) ?_
    refine x_lload (j := 0) hc dX0_recoup_145 rfl ?_
    refine x_ladd hc dX0_recoup_147 ?_
    refine x_putJ (C := RX0) (T := TX0) (NN := 15) (ci := 1) (ref := "NetPoints$Picture") hc 14 in_X0_recoup_1 rfl (by decide) lf_X0_recoup_79 (fun _ h9 => h9) tyX0 tyX0_ok nmX0 hp0 (by omega) (by decide) rfl rfl pd_X0_14 dX0_recoup_148 ?_
    refine x_setJ (setB_u14 J p (g + (grossY (I (rwA R p y)))) (a + ((grossY (I (rwA R p y))) - (prt (grossY (I (rwA R p y))) (I p 4)))) (f + (feesY (I (rwA R p y)) (I (dr R p 2)))) (costN (a + ((grossY (I (rwA R p y))) - (prt (grossY (I (rwA R p y))) (I p 4)))) (g + (grossY (I (rwA R p y)))) (fun i => shV I (shA R (dr R p 3) i)) n) ((bl + ((((Int32.toInt64 (I (dr R p 1) y)) + (prt (Int32.toInt64 (I (dr R p 1) y)) (I p 5))) + (costN (a + ((grossY (I (rwA R p y))) - (prt (grossY (I (rwA R p y))) (I p 4)))) (g + (grossY (I (rwA R p y)))) (fun i => shV I (shA R (dr R p 3) i)) n)) - s)) - (((grossY (I (rwA R p y))) - (prt (grossY (I (rwA R p y))) (I p 4))) - (feesY (I (rwA R p y)) (I (dr R p 2))))) r (r + (-((bl + ((((Int32.toInt64 (I (dr R p 1) y)) + (prt (Int32.toInt64 (I (dr R p 1) y)) (I p 5))) + (costN (a + ((grossY (I (rwA R p y))) - (prt (grossY (I (rwA R p y))) (I p 4)))) (g + (grossY (I (rwA R p y)))) (fun i => shV I (shA R (dr R p 3) i)) n)) - s)) - (((grossY (I (rwA R p y))) - (prt (grossY (I (rwA R p y))) (I p 4))) - (feesY (I (rwA R p y)) (I (dr R p 2)))))))) ?_
    refine x_aload_n (j := 5) hc dX0_recoup_151 rfl rfl ?_
    refine x_lconst (v := 0) hc dX0_recoup_152 rfl ?_
    refine x_putJ (C := RX0) (T := TX0) (NN := 15) (ci := 1) (ref := "NetPoints$Picture") hc 13 in_X0_recoup_1 rfl (by decide) lf_X0_recoup_76 (fun _ h9 => h9) tyX0 tyX0_ok nmX0 hp0 (by omega) (by decide) rfl rfl pd_X0_13 dX0_recoup_153 ?_
    refine x_setJ (setB_u13 J p (g + (grossY (I (rwA R p y)))) (a + ((grossY (I (rwA R p y))) - (prt (grossY (I (rwA R p y))) (I p 4)))) (f + (feesY (I (rwA R p y)) (I (dr R p 2)))) (costN (a + ((grossY (I (rwA R p y))) - (prt (grossY (I (rwA R p y))) (I p 4)))) (g + (grossY (I (rwA R p y)))) (fun i => shV I (shA R (dr R p 3) i)) n) ((bl + ((((Int32.toInt64 (I (dr R p 1) y)) + (prt (Int32.toInt64 (I (dr R p 1) y)) (I p 5))) + (costN (a + ((grossY (I (rwA R p y))) - (prt (grossY (I (rwA R p y))) (I p 4)))) (g + (grossY (I (rwA R p y)))) (fun i => shV I (shA R (dr R p 3) i)) n)) - s)) - (((grossY (I (rwA R p y))) - (prt (grossY (I (rwA R p y))) (I p 4))) - (feesY (I (rwA R p y)) (I (dr R p 2))))) (r + (-((bl + ((((Int32.toInt64 (I (dr R p 1) y)) + (prt (Int32.toInt64 (I (dr R p 1) y)) (I p 5))) + (costN (a + ((grossY (I (rwA R p y))) - (prt (grossY (I (rwA R p y))) (I p 4)))) (g + (grossY (I (rwA R p y)))) (fun i => shV I (shA R (dr R p 3) i)) n)) - s)) - (((grossY (I (rwA R p y))) - (prt (grossY (I (rwA R p y))) (I p 4))) - (feesY (I (rwA R p y)) (I (dr R p 2))))))) 0) ?_
    refine x_lload (j := 0) hc dX0_recoup_156 rfl ?_
    refine x_lret hc hr (by decide) (by decide) dX0_recoup_158 (⟨?_, rfl, ?_⟩)
    · rw [← hB, recG, if_pos ((lg_cmp_lt (recX (I p 4) (I p 5) (I (rwA R p y)) (I (dr R p 2)) (I (dr R p 1) y) (fun i => shV I (shA R (dr R p 3) i)) n (g, a, f, s, bl, r)) 0).mp q1)]; rfl
    · rw [← hB, recB, if_pos ((lg_cmp_lt (recX (I p 4) (I p 5) (I (rwA R p y)) (I (dr R p 2)) (I (dr R p 1) y) (fun i => shV I (shA R (dr R p 3) i)) n (g, a, f, s, bl, r)) 0).mp q1)]; rfl
  · refine x_lconst (v := 0) hc dX0_recoup_131 rfl ?_
    refine x_lret hc hr (by decide) (by decide) dX0_recoup_132 (⟨?_, rfl, ?_⟩)
    · rw [← hB, recG, if_neg (fun h => q1 ((lg_cmp_lt (recX (I p 4) (I p 5) (I (rwA R p y)) (I (dr R p 2)) (I (dr R p 1) y) (fun i => shV I (shA R (dr R p 3) i)) n (g, a, f, s, bl, r)) 0).mpr h))]
    · rw [← hB, recB, if_neg (fun h => q1 ((lg_cmp_lt (recX (I p 4) (I p 5) (I (rwA R p y)) (I (dr R p 2)) (I (dr R p 1) y) (fun i => shV I (shA R (dr R p 3) i)) n (g, a, f, s, bl, r)) 0).mpr h))]; rfl
abbrev rm_X0_moveGain : Room := { frames := 1, cells := 0, slots := 0, locals := 15 }
set_option maxHeartbeats 4000000 in
set_option maxRecDepth 100000 in
theorem c_move (l : Launch) (D : va_G) (z e0 : Nat) (L : List Nat) (K N : Nat → Nat) (I : Nat → Nat → Int32) (J : Nat → Nat → Int64) (R : Nat → Nat → Option Nat) (b p b2 o : Nat) (hA : At L K N p (320 * b + 1) 0) (hO : At L K N o (320 * b2 + 1) 0) (hb : b ≠ b2) (x : Int64) : MG l yX0_moveGain wsX0_moveGain rm_X0_moveGain D z e0 L K N I J R [.ref p, .long x, .ref o] (fun v I' J' => v = none ∧ I' = I ∧ J' = u2 (u2 J p 14 (J p 14 - mn x (J o 13))) o 13 (J o 13 - mn x (J o 13))) := by
  refine mg_of (own := RX0) (maxL := 6) (ret := none) (by decide +kernel) rfl rfl (Nat.le_of_ble_eq_true rfl) ?_
  intro pg ev s mi args below meth c hc hr
  have hpo : o ≠ p := (hO.ne hA (by omega))
  refine x_lload_n (j := 1) hc dX0_moveGain_0 rfl rfl ?_
  refine x_aload_n (j := 2) hc dX0_moveGain_1 rfl rfl ?_
  refine x_getJ (C := RX0) (T := TX0) (NN := 15) (ci := 1) (ref := "NetPoints$Picture") hc 13 in_X0_moveGain_1 rfl (by decide) lf_X0_moveGain_76 (fun _ h9 => h9) hO (by omega) (by decide) rfl dX0_moveGain_2 ?_
  refine x_mminl hc lml_X0_moveGain_103 lst_X0_moveGain_103 lini_X0_moveGain_Math lcd_X0_moveGain_103 (Nat.le_of_ble_eq_true rfl) (Nat.le_of_ble_eq_true rfl) (Nat.le_of_ble_eq_true rfl) (Nat.le_of_ble_eq_true rfl) dX0_moveGain_5 ?_
  refine x_lstore (lv' := [(4, .long (if (J o 13) < x then (J o 13) else x)), (0, .ref p), (1, .long x), (3, .ref o)]) hc dX0_moveGain_8 (by decide) rfl ?_
  refine x_aload_n (j := 1) hc dX0_moveGain_10 rfl rfl ?_
  refine x_dup hc dX0_moveGain_11 rfl ?_
  refine x_getJ (C := RX0) (T := TX0) (NN := 15) (ci := 1) (ref := "NetPoints$Picture") hc 14 in_X0_moveGain_1 rfl (by decide) lf_X0_moveGain_79 (fun _ h9 => h9) hA (by omega) (by decide) rfl dX0_moveGain_12 ?_
  refine x_lload (j := 0) hc dX0_moveGain_15 rfl ?_
  refine x_lsub hc dX0_moveGain_17 ?_
  refine x_putJ (C := RX0) (T := TX0) (NN := 15) (ci := 1) (ref := "NetPoints$Picture") hc 14 in_X0_moveGain_1 rfl (by decide) lf_X0_moveGain_79 (fun _ h9 => h9) tyX0 tyX0_ok nmX0 hA (by omega) (by decide) rfl rfl pd_X0_14 dX0_moveGain_18 ?_
  refine x_aload_n (j := 3) hc dX0_moveGain_21 rfl rfl ?_
  refine x_dup hc dX0_moveGain_22 rfl ?_
  refine x_getJ (C := RX0) (T := TX0) (NN := 15) (ci := 1) (ref := "NetPoints$Picture") hc 13 in_X0_moveGain_1 rfl (by decide) lf_X0_moveGain_76 (fun _ h9 => h9) hO (by omega) (by decide) rfl dX0_moveGain_23 ?_
  refine x_vall (u2_k (by decide)) ?_
  refine x_lload (j := 0) hc dX0_moveGain_26 rfl ?_
  refine x_lsub hc dX0_moveGain_28 ?_
  refine x_putJ (C := RX0) (T := TX0) (NN := 15) (ci := 1) (ref := "NetPoints$Picture") hc 13 in_X0_moveGain_1 rfl (by decide) lf_X0_moveGain_76 (fun _ h9 => h9) tyX0 tyX0_ok nmX0 hO (by omega) (by decide) rfl rfl pd_X0_13 dX0_moveGain_29 ?_
  exact x_vret hc hr (by decide) (by decide) dX0_moveGain_32 (⟨rfl, rfl, rfl⟩)
abbrev rm_X0_finishYear : Room := { frames := 1, cells := 0, slots := 0, locals := 22 }
set_option maxHeartbeats 4000000 in
set_option maxRecDepth 100000 in
theorem c_finish (l : Launch) (D : va_G) (z e0 : Nat) (L : List Nat) (K N : Nat → Nat) (I : Nat → Nat → Int32) (J : Nat → Nat → Int64) (R : Nat → Nat → Option Nat) (b p : Nat) (hp : Pic L K N R b p) (y : Nat) (hy : y < 10) : MG l yX0_finishYear wsX0_finishYear rm_X0_finishYear D z e0 L K N I J R [.ref p, .int (nI y)] (fun v I' J' => v = none ∧ I' = I ∧ J' = u2 (u2 (u2 J p 13 (J p 13 + prt (J p 13) (I p 6))) (dr R p 7) y (J p 13 + prt (J p 13) (I p 6))) (dr R p 8) y (J p 14)) := by
  refine mg_of (own := RX0) (maxL := 2) (ret := none) (by decide +kernel) rfl rfl (Nat.le_of_ble_eq_true rfl) ?_
  intro pg ev s mi args below meth c hc hr
  obtain ⟨hp0, hp1, hp2, hp3, hp4, hp5, hp6, hp7, hp8, hp9, hp10, hp11, hp12⟩ := hp
  refine x_aload_n (j := 0) hc dX0_finishYear_0 rfl rfl ?_
  refine x_dup hc dX0_finishYear_1 rfl ?_
  refine x_getJ (C := RX0) (T := TX0) (NN := 15) (ci := 1) (ref := "NetPoints$Picture") hc 13 in_X0_finishYear_1 rfl (by decide) lf_X0_finishYear_76 (fun _ h9 => h9) hp0 (by omega) (by decide) rfl dX0_finishYear_2 ?_
  refine x_aload_n (j := 0) hc dX0_finishYear_5 rfl rfl ?_
  refine x_getJ (C := RX0) (T := TX0) (NN := 15) (ci := 1) (ref := "NetPoints$Picture") hc 13 in_X0_finishYear_1 rfl (by decide) lf_X0_finishYear_76 (fun _ h9 => h9) hp0 (by omega) (by decide) rfl dX0_finishYear_6 ?_
  refine x_aload_n (j := 0) hc dX0_finishYear_9 rfl rfl ?_
  refine x_getI (C := RX0) (T := TX0) (NN := 15) (ci := 1) (ref := "NetPoints$Picture") hc 6 in_X0_finishYear_1 rfl (by decide) lf_X0_finishYear_107 (fun _ h9 => h9) hp0 (by omega) (by decide) rfl dX0_finishYear_10 ?_
  refine x_callSN (As := [.long (J p 13), .int (I p 6)]) (st := [.long (J p 13), .ref p]) hc (c_part l D z e0 L K N I J R (J p 13) (I p 6)) gX0_finishYear_X2_part_n89 rfl hdS_X2_part ⟨Nat.le_of_ble_eq_true rfl, Nat.le_of_ble_eq_true rfl⟩ hc.ev.2.2.2.2.2.1 lini_X0_finishYear_X2_part lst_X0_finishYear_X2_part rfl rfl ⟨Nat.le_of_ble_eq_true rfl, Nat.le_of_ble_eq_true rfl⟩ (Nat.le_of_ble_eq_true rfl) dX0_finishYear_13 (fun v9 I9 J9 hz9 => ?_)
  obtain ⟨rfl, hI9, hJ9⟩ := hz9
  replace hI9 := hI9.symm
  subst hI9
  replace hJ9 := hJ9.symm
  subst hJ9
  refine x_ladd hc dX0_finishYear_16 ?_
  refine x_putJ (C := RX0) (T := TX0) (NN := 15) (ci := 1) (ref := "NetPoints$Picture") hc 13 in_X0_finishYear_1 rfl (by decide) lf_X0_finishYear_76 (fun _ h9 => h9) tyX0 tyX0_ok nmX0 hp0 (by omega) (by decide) rfl rfl pd_X0_13 dX0_finishYear_17 ?_
  refine x_aload_n (j := 0) hc dX0_finishYear_20 rfl rfl ?_
  refine x_getR (C := RX0) (T := TX0) (NN := 15) (ci := 1) (ref := "NetPoints$Picture") hc 7 in_X0_finishYear_1 rfl (by decide) lf_X0_finishYear_30 (fun _ h9 => h9) hp0 (by omega) (by decide) rfl hp9 dX0_finishYear_21 ?_
  refine x_iload_n (j := 1) hc dX0_finishYear_24 rfl rfl ?_
  refine x_aload_n (j := 0) hc dX0_finishYear_25 rfl rfl ?_
  refine x_getJ (C := RX0) (T := TX0) (NN := 15) (ci := 1) (ref := "NetPoints$Picture") hc 13 in_X0_finishYear_1 rfl (by decide) lf_X0_finishYear_76 (fun _ h9 => h9) hp0 (by omega) (by decide) rfl dX0_finishYear_26 ?_
  refine x_vall (u2_s) ?_
  refine x_last hc hp10 (by decide) rfl hy (by omega) dX0_finishYear_29 ?_
  refine x_aload_n (j := 0) hc dX0_finishYear_30 rfl rfl ?_
  refine x_getR (C := RX0) (T := TX0) (NN := 15) (ci := 1) (ref := "NetPoints$Picture") hc 8 in_X0_finishYear_1 rfl (by decide) lf_X0_finishYear_34 (fun _ h9 => h9) hp0 (by omega) (by decide) rfl hp11 dX0_finishYear_31 ?_
  refine x_iload_n (j := 1) hc dX0_finishYear_34 rfl rfl ?_
  refine x_aload_n (j := 0) hc dX0_finishYear_35 rfl rfl ?_
  refine x_getJ (C := RX0) (T := TX0) (NN := 15) (ci := 1) (ref := "NetPoints$Picture") hc 14 in_X0_finishYear_1 rfl (by decide) lf_X0_finishYear_79 (fun _ h9 => h9) hp0 (by omega) (by decide) rfl dX0_finishYear_36 ?_
  refine x_vall ((u2_a (hp0.ne hp10 (by omega))).trans (u2_k (by decide))) ?_
  refine x_last hc hp12 (by decide) rfl hy (by omega) dX0_finishYear_39 ?_
  exact x_vret hc hr (by decide) (by decide) dX0_finishYear_40 (⟨rfl, rfl, rfl⟩)
abbrev rm_X0_sumDrawn : Room := { frames := 5, cells := 0, slots := 0, locals := 109 }
set_option maxHeartbeats 4000000 in
set_option maxRecDepth 100000 in
theorem c_sumDrawn (l : Launch) (D : va_G) (z e0 : Nat) (L : List Nat) (K N : Nat → Nat) (I : Nat → Nat → Int32) (J : Nat → Nat → Int64) (R : Nat → Nat → Option Nat) (b p n : Nat) (hp : Pic L K N R b p) (hl : Lst L K N I R (dr R p 3) (320 * b + 224) (320 * b + 279) n) (q tq u : Nat) (hq : At L K N q tq 0) (hk : tq % 16 = 2) (hturn : I q 1 = nI u) (hu : u ≤ n) (hbon : ¬ I q 2 = 0 → ¬ I q 2 = 1 → ¬ I q 2 = 2 → (2 : Int) < (I q 2).toInt) : MG l yX0_sumDrawn wsX0_sumDrawn rm_X0_sumDrawn D z e0 L K N I J R [.ref p, .ref q] (fun v I' J' => v = some (.long (sumF (J p 10) (J p 9) (J p 14) (shV I q) (fun i => shV I (shA R (dr R p 3) i)) n u)) ∧ I' = I ∧ J' = J) := by
  refine mg_of (own := RX0) (maxL := 2) (ret := (some .long)) (by decide +kernel) rfl rfl (Nat.le_of_ble_eq_true rfl) ?_
  intro pg ev s mi args below meth c hc hr
  have hpic := hp
  obtain ⟨hp0, hp1, hp2, hp3, hp4, hp5, hp6, hp7, hp8, hp9, hp10, hp11, hp12⟩ := hp
  have hl0 := hl.1
  have hk0 : ∀ k : Int32, I q 2 = k → (shV I q).1 = k := fun k h => h
  refine x_aload_n (j := 1) hc dX0_sumDrawn_0 rfl rfl ?_
  refine x_getI (C := RX1) (T := TX1) (NN := 7) (ci := 2) (ref := "NetPoints$Sharer") hc 2 in_X0_sumDrawn_2 rfl (by decide) lf_X0_sumDrawn_47 (fun _ h9 => h9) hq (by omega) (by decide) rfl dX0_sumDrawn_1 ?_
  by_cases q0 : I q 2 = 0
  · refine x_tableIn (off := 28) (tgt := 32) hc dX0_sumDrawn_4 (by rw [q0]; decide) (by rw [q0]; decide) (by rw [q0]; rfl) (by decide) ?_
    refine x_aload_n (j := 1) hc dX0_sumDrawn_32 rfl rfl ?_
    refine x_aload_n (j := 0) hc dX0_sumDrawn_33 rfl rfl ?_
    refine x_getJ (C := RX0) (T := TX0) (NN := 15) (ci := 1) (ref := "NetPoints$Picture") hc 10 in_X0_sumDrawn_1 rfl (by decide) lf_X0_sumDrawn_67 (fun _ h9 => h9) hp0 (by omega) (by decide) rfl dX0_sumDrawn_34 ?_
    refine x_callV (C := RX1) (T := TX1) (NN := 7) (ci := 2) (As := [.long (J p 10)]) (st := []) hc hq (by omega) (by decide) rfl (c_shareOf l D z e0 L K N I J R q tq hq hk (J p 10)) gX0_sumDrawn_X1_shareOf rfl hdV_X1_shareOf ⟨Nat.le_of_ble_eq_true rfl, Nat.le_of_ble_eq_true rfl⟩ rfl rfl ⟨Nat.le_of_ble_eq_true rfl, Nat.le_of_ble_eq_true rfl⟩ (Nat.le_of_ble_eq_true rfl) dX0_sumDrawn_37 (fun v9 I9 J9 hz9 => ?_)
    obtain ⟨rfl, hI9, hJ9⟩ := hz9
    replace hI9 := hI9.symm
    subst hI9
    replace hJ9 := hJ9.symm
    subst hJ9
    exact x_lret hc hr (by decide) (by decide) dX0_sumDrawn_40 (⟨by rw [sumF, if_pos (hk0 0 q0)], rfl, rfl⟩)
  · by_cases q1 : I q 2 = 1
    · refine x_tableIn (off := 37) (tgt := 41) hc dX0_sumDrawn_4 (by rw [q1]; decide) (by rw [q1]; decide) (by rw [q1]; rfl) (by decide) ?_
      refine x_aload_n (j := 1) hc dX0_sumDrawn_41 rfl rfl ?_
      refine x_aload_n (j := 0) hc dX0_sumDrawn_42 rfl rfl ?_
      refine x_callV (C := RX0) (T := TX0) (NN := 15) (ci := 1) (As := []) (st := [.ref q]) hc hp0 (by omega) (by decide) rfl (c_pool l D z e0 L K N I J R b p n hpic hl) gX0_sumDrawn_X0_poolDrawn rfl hdV_X0_poolDrawn ⟨Nat.le_of_ble_eq_true rfl, Nat.le_of_ble_eq_true rfl⟩ rfl rfl ⟨Nat.le_of_ble_eq_true rfl, Nat.le_of_ble_eq_true rfl⟩ (Nat.le_of_ble_eq_true rfl) dX0_sumDrawn_43 (fun v9 I9 J9 hz9 => ?_)
      obtain ⟨rfl, hI9, hJ9⟩ := hz9
      replace hI9 := hI9.symm
      subst hI9
      replace hJ9 := hJ9.symm
      subst hJ9
      refine x_callV (C := RX1) (T := TX1) (NN := 7) (ci := 2) (As := [.long (leftN (J p 14) (fun i => shV I (shA R (dr R p 3) i)) n)]) (st := []) hc hq (by omega) (by decide) rfl (c_shareOf l D z e0 L K N I J R q tq hq hk (leftN (J p 14) (fun i => shV I (shA R (dr R p 3) i)) n)) gX0_sumDrawn_X1_shareOf rfl hdV_X1_shareOf ⟨Nat.le_of_ble_eq_true rfl, Nat.le_of_ble_eq_true rfl⟩ rfl rfl ⟨Nat.le_of_ble_eq_true rfl, Nat.le_of_ble_eq_true rfl⟩ (Nat.le_of_ble_eq_true rfl) dX0_sumDrawn_46 (fun v9 I9 J9 hz9 => ?_)
      obtain ⟨rfl, hI9, hJ9⟩ := hz9
      replace hI9 := hI9.symm
      subst hI9
      replace hJ9 := hJ9.symm
      subst hJ9
      exact x_lret hc hr (by decide) (by decide) dX0_sumDrawn_49 (⟨by rw [sumF, if_neg (show ¬ (shV I q).1 = 0 from q0), if_pos (hk0 1 q1)], rfl, rfl⟩)
    · by_cases q2 : I q 2 = 2
      · refine x_tableIn (off := 46) (tgt := 50) hc dX0_sumDrawn_4 (by rw [q2]; decide) (by rw [q2]; decide) (by rw [q2]; rfl) (by decide) ?_
        refine x_aload_n (j := 1) hc dX0_sumDrawn_50 rfl rfl ?_
        refine x_getI (C := RX1) (T := TX1) (NN := 7) (ci := 2) (ref := "NetPoints$Sharer") hc 3 in_X0_sumDrawn_2 rfl (by decide) lf_X0_sumDrawn_117 (fun _ h9 => h9) hq (by omega) (by decide) rfl dX0_sumDrawn_51 ?_
        refine x_i2l hc dX0_sumDrawn_54 ?_
        refine x_aload_n (j := 0) hc dX0_sumDrawn_55 rfl rfl ?_
        refine x_aload_n (j := 1) hc dX0_sumDrawn_56 rfl rfl ?_
        refine x_getI (C := RX1) (T := TX1) (NN := 7) (ci := 2) (ref := "NetPoints$Sharer") hc 1 in_X0_sumDrawn_2 rfl (by decide) lf_X0_sumDrawn_120 (fun _ h9 => h9) hq (by omega) (by decide) rfl dX0_sumDrawn_57 ?_
        refine x_vali (hturn) ?_
        refine x_callV (C := RX0) (T := TX0) (NN := 15) (ci := 1) (As := [.int (nI u)]) (st := [.long (Int32.toInt64 (I q 3))]) hc hp0 (by omega) (by decide) rfl (c_leftAt l D z e0 L K N I J R b p n hpic hl u hu) gX0_sumDrawn_X0_profitLeftAt rfl hdV_X0_profitLeftAt ⟨Nat.le_of_ble_eq_true rfl, Nat.le_of_ble_eq_true rfl⟩ rfl rfl ⟨Nat.le_of_ble_eq_true rfl, Nat.le_of_ble_eq_true rfl⟩ (Nat.le_of_ble_eq_true rfl) dX0_sumDrawn_60 (fun v9 I9 J9 hz9 => ?_)
        obtain ⟨rfl, hI9, hJ9⟩ := hz9
        replace hI9 := hI9.symm
        subst hI9
        replace hJ9 := hJ9.symm
        subst hJ9
        refine x_mminl hc lml_X0_sumDrawn_103 lst_X0_sumDrawn_103 lini_X0_sumDrawn_Math lcd_X0_sumDrawn_103 (Nat.le_of_ble_eq_true rfl) (Nat.le_of_ble_eq_true rfl) (Nat.le_of_ble_eq_true rfl) (Nat.le_of_ble_eq_true rfl) dX0_sumDrawn_63 ?_
        exact x_lret hc hr (by decide) (by decide) dX0_sumDrawn_66 (⟨by rw [sumF, if_neg (show ¬ (shV I q).1 = 0 from q0), if_neg (show ¬ (shV I q).1 = 1 from q1), if_pos (hk0 2 q2)]; rfl, rfl, rfl⟩)
      · refine x_tableOut (tgt := 67) hc dX0_sumDrawn_4 (Or.inr (hbon q0 q1 q2)) (by decide) ?_
        refine x_aload_n (j := 1) hc dX0_sumDrawn_67 rfl rfl ?_
        refine x_aload_n (j := 0) hc dX0_sumDrawn_68 rfl rfl ?_
        refine x_getJ (C := RX0) (T := TX0) (NN := 15) (ci := 1) (ref := "NetPoints$Picture") hc 9 in_X0_sumDrawn_1 rfl (by decide) lf_X0_sumDrawn_63 (fun _ h9 => h9) hp0 (by omega) (by decide) rfl dX0_sumDrawn_69 ?_
        refine x_callV (C := RX1) (T := TX1) (NN := 7) (ci := 2) (As := [.long (J p 9)]) (st := []) hc hq (by omega) (by decide) rfl (c_bonusAt l D z e0 L K N I J R q tq hq hk (J p 9)) gX0_sumDrawn_X1_bonusAt rfl hdV_X1_bonusAt ⟨Nat.le_of_ble_eq_true rfl, Nat.le_of_ble_eq_true rfl⟩ rfl rfl ⟨Nat.le_of_ble_eq_true rfl, Nat.le_of_ble_eq_true rfl⟩ (Nat.le_of_ble_eq_true rfl) dX0_sumDrawn_72 (fun v9 I9 J9 hz9 => ?_)
        obtain ⟨rfl, hI9, hJ9⟩ := hz9
        replace hI9 := hI9.symm
        subst hI9
        replace hJ9 := hJ9.symm
        subst hJ9
        exact x_lret hc hr (by decide) (by decide) dX0_sumDrawn_75 (⟨by rw [sumF, if_neg (show ¬ (shV I q).1 = 0 from q0), if_neg (show ¬ (shV I q).1 = 1 from q1), if_neg (show ¬ (shV I q).1 = 2 from q2)], rfl, rfl⟩)
