theorem up_gt {a : Int32} {cc k : Nat} (ha : a.toInt = (cc : Int) - 1) (h : cc ≤ k) (hk : k ≤ 10) : nI k > a := by
  show a < nI k
  rw [Int32.lt_iff_toInt_lt, ha, nI_toInt (by omega)]
  omega
theorem up_le {a : Int32} {cc k : Nat} (ha : a.toInt = (cc : Int) - 1) (h : k < cc) (hk : k ≤ 10) : ¬ nI k > a := by
  show ¬ a < nI k
  rw [Int32.lt_iff_toInt_lt, ha, nI_toInt (by omega)]
  omega
theorem up_neg {a : Int32} {cc : Nat} (ha : a.toInt = (cc : Int) - 1) (h : a < 0) : ¬ 0 < cc := by
  rw [Int32.lt_iff_toInt_lt, ha] at h
  have h2 : (cc : Int) - 1 < 0 := h
  omega
theorem up_pos {a : Int32} {cc : Nat} (ha : a.toInt = (cc : Int) - 1) (h : ¬ a < 0) : 0 < cc := by
  rw [Int32.lt_iff_toInt_lt, ha] at h
  have h2 : ¬ (cc : Int) - 1 < 0 := h
  omega
theorem up_y {y : Nat} (hy : y ≤ 10) : (nI y).toInt = ((y + 1 : Nat) : Int) - 1 := by
  rw [nI_toInt (by omega)]
  omega
theorem up_y1 {y : Nat} (hy : y ≤ 10) : (nI y - 1).toInt = (y : Int) - 1 := by
  have h3 := pk_sub_toInt (a := y) (b := 1) (by omega) (by decide)
  exact h3
theorem nI_sub1 {a : Nat} (h : 0 < a) : nI a - 1 = nI (a - 1) := by
  obtain ⟨b, rfl⟩ : ∃ b, a = b + 1 := ⟨a - 1, by omega⟩
  exact nI_pred b
abbrev rm_X3_upTo : Room := { frames := 3, cells := 0, slots := 0, locals := 73 }
set_option maxHeartbeats 4000000 in
set_option maxRecDepth 100000 in
theorem m_upTo (l : Launch) (D : va_G) (z e0 : Nat) (L : List Nat) (K N : Nat → Nat) (I : Nat → Nat → Int32) (J : Nat → Nat → Int64) (R : Nat → Nat → Option Nat) (m now n : Nat) (pic : Nat → Nat) (sh : Nat → Nat → Shr) (hc0 : MC L K N I R m now n pic sh) (j : Nat) (hj : j < n) (a : Int32) (cc : Nat) (ha : a.toInt = (cc : Int) - 1) (hcc : cc ≤ 10) : MG l yX3_upTo wsX3_upTo rm_X3_upTo D z e0 L K N I J R [.ref m, .int (nI j), .int a] (fun v I' J' => v = some (.long (upV (mshr I R m j) (sumG (mrc I R m (pic j)) cc) (sumA (I (dr R m 3) (pic j)) (mrc I R m (pic j)) cc) cc)) ∧ I' = I ∧ J' = J) := by
  refine mg_of (own := RX3) (maxL := 8) (ret := (some .long)) (by decide +kernel) rfl rfl (Nat.le_of_ble_eq_true rfl) ?_
  intro pg ev s mi args below meth c hc hr
  have hm := hc0.1
  have hnow := hc0.2.2.1
  have hn8 := hc0.2.2.2.2.1
  have hj8 : j < 8 := Nat.lt_of_lt_of_le hj hn8
  obtain ⟨hp, hpj⟩ := hc0.2.2.2.2.2.2.1 j hj
  refine x_lconst (v := 0) hc dX3_upTo_0 rfl ?_
  refine x_lstore_n (lv' := [(3, .long 0), (0, .ref m), (1, .int (nI j)), (2, .int a)]) hc dX3_upTo_1 rfl (by decide) rfl ?_
  refine x_lconst (v := 0) hc dX3_upTo_2 rfl ?_
  refine x_lstore (lv' := [(5, .long 0), (3, .long 0), (0, .ref m), (1, .int (nI j)), (2, .int a)]) hc dX3_upTo_3 (by decide) rfl ?_
  refine x_iconst (v := 0) hc dX3_upTo_5 (by decide) ?_
  refine x_istore (lv' := [(7, .int 0), (5, .long 0), (3, .long 0), (0, .ref m), (1, .int (nI j)), (2, .int a)]) hc dX3_upTo_6 (by decide) rfl ?_
  have hloop : ∀ (d k : Nat) (gr ac : Int64), k + d = cc → gr = sumG (mrc I R m (pic j)) k → ac = sumA (I (dr R m 3) (pic j)) (mrc I R m (pic j)) k → XW pg l ev rm_X3_upTo s mi args below meth c D z 8 L K N I J R 0 0 (MQ below (QG D z L K N R (fun v I' J' => v = some (.long (upV (mshr I R m j) (sumG (mrc I R m (pic j)) cc) (sumA (I (dr R m 3) (pic j)) (mrc I R m (pic j)) cc) cc)) ∧ I' = I ∧ J' = J)) args s (rm_X3_upTo).cells (rm_X3_upTo).slots (fun q => z ≤ q)) 8 [(7, .int (nI k)), (5, .long ac), (3, .long gr), (0, .ref m), (1, .int (nI j)), (2, .int a)] [] := by
    intro d
    induction d with
    | zero =>
      intro k gr ac hk hgr hac
      have hk2 : k = cc := by omega
      subst hk2
      refine x_iload (j := 0) hc dX3_upTo_8 rfl ?_
      refine x_iload_n (j := 5) hc dX3_upTo_10 rfl rfl ?_
      refine x_icmp_gt (tgt := 52) hc dX3_upTo_11 (by decide) (fun _ => ?_) (fun q9 => absurd (up_gt ha (Nat.le_refl k) hcc) q9)
      refine x_aload_n (j := 3) hc dX3_upTo_52 rfl rfl ?_
      refine x_getR (C := RX3) (T := TX3) (NN := 19) (ci := 4) (ref := "NetPointsModel") hc 9 in_X3_upTo_4 rfl (by decide) lf_X3_upTo_31 (fun _ h9 => h9) hm.1 (by omega) (by decide) rfl ((hm.cel 9 1077 8 (by decide)).1) dX3_upTo_53 ?_
      refine x_iload_n (j := 4) hc dX3_upTo_56 rfl rfl ?_
      refine x_iald hc ((hm.cel 9 1077 8 (by decide)).2) (by decide) rfl (by omega) (by omega) dX3_upTo_57 ?_
      refine x_if_ne (tgt := 69) hc dX3_upTo_58 (by decide) (fun q1 => ?_) (fun q1 => ?_)
      · refine x_iload_n (j := 5) hc dX3_upTo_69 rfl rfl ?_
        refine x_if_lt (tgt := 99) hc dX3_upTo_70 (by decide) (fun q2 => ?_) (fun q2 => ?_)
        · refine x_lconst (v := 0) hc dX3_upTo_99 rfl ?_
          exact x_lret hc hr (by decide) (by decide) dX3_upTo_100 (⟨congrArg (fun v => some (Value.long v)) ((if_neg (show ¬ (mshr I R m j).1 = 0 from q1)).trans (if_neg (up_neg ha q2))).symm, rfl, rfl⟩)
        · refine x_lload_n (j := 2) hc dX3_upTo_73 rfl rfl ?_
          refine x_aload_n (j := 3) hc dX3_upTo_74 rfl rfl ?_
          refine x_getR (C := RX3) (T := TX3) (NN := 19) (ci := 4) (ref := "NetPointsModel") hc 10 in_X3_upTo_4 rfl (by decide) lf_X3_upTo_34 (fun _ h9 => h9) hm.1 (by omega) (by decide) rfl ((hm.cel 10 1093 8 (by decide)).1) dX3_upTo_75 ?_
          refine x_iload_n (j := 4) hc dX3_upTo_78 rfl rfl ?_
          refine x_iald hc ((hm.cel 10 1093 8 (by decide)).2) (by decide) rfl (by omega) (by omega) dX3_upTo_79 ?_
          refine x_i2l hc dX3_upTo_80 ?_
          refine x_lcmp hc dX3_upTo_81 ?_
          refine x_if_lt (tgt := 99) hc dX3_upTo_82 (by decide) (fun q3 => ?_) (fun q3 => ?_)
          · refine x_lconst (v := 0) hc dX3_upTo_99 rfl ?_
            exact x_lret hc hr (by decide) (by decide) dX3_upTo_100 (⟨congrArg (fun v => some (Value.long v)) ((if_neg (show ¬ (mshr I R m j).1 = 0 from q1)).trans ((if_pos (up_pos ha q2)).trans (bonusAt_0 (q := (mshr I R m j)) (by rw [← hgr]; exact (lg_cmp_lt _ _).mp q3)))).symm, rfl, rfl⟩)
          · refine x_ldc2 hc dX3_upTo_85 lc_X3_upTo_106 ?_
            refine x_aload_n (j := 3) hc dX3_upTo_88 rfl rfl ?_
            refine x_getR (C := RX3) (T := TX3) (NN := 19) (ci := 4) (ref := "NetPointsModel") hc 11 in_X3_upTo_4 rfl (by decide) lf_X3_upTo_37 (fun _ h9 => h9) hm.1 (by omega) (by decide) rfl ((hm.cel 11 1109 8 (by decide)).1) dX3_upTo_89 ?_
            refine x_iload_n (j := 4) hc dX3_upTo_92 rfl rfl ?_
            refine x_iald hc ((hm.cel 11 1109 8 (by decide)).2) (by decide) rfl (by omega) (by omega) dX3_upTo_93 ?_
            refine x_i2l hc dX3_upTo_94 ?_
            refine x_lmul hc dX3_upTo_95 ?_
            refine x_goto (tgt := 100) hc dX3_upTo_96 (by decide) ?_
            exact x_lret hc hr (by decide) (by decide) dX3_upTo_100 (⟨congrArg (fun v => some (Value.long v)) ((Int64.mul_comm _ _).trans ((if_neg (show ¬ (mshr I R m j).1 = 0 from q1)).trans ((if_pos (up_pos ha q2)).trans (bonusAt_1 (q := (mshr I R m j)) (by rw [← hgr]; exact fun h => q3 ((lg_cmp_lt _ _).mpr h))))).symm), rfl, rfl⟩)
      · refine x_aload_n (j := 3) hc dX3_upTo_61 rfl rfl ?_
        refine x_lload (j := 1) hc dX3_upTo_62 rfl ?_
        refine x_iload_n (j := 4) hc dX3_upTo_64 rfl rfl ?_
        refine x_callV (C := RX3) (T := TX3) (NN := 19) (ci := 4) (As := [.long ac, .int (nI j)]) (st := []) hc hm.1 (by omega) (by decide) rfl (m_parted l D z e0 L K N I J R m hm ac j hj8) gX3_upTo_X3_parted rfl hdV_X3_parted ⟨Nat.le_of_ble_eq_true rfl, Nat.le_of_ble_eq_true rfl⟩ rfl rfl ⟨Nat.le_of_ble_eq_true rfl, Nat.le_of_ble_eq_true rfl⟩ (Nat.le_of_ble_eq_true rfl) dX3_upTo_65 (fun v9 I9 J9 hz9 => ?_)
        obtain ⟨rfl, hI9, hJ9⟩ := hz9
        replace hI9 := hI9.symm
        subst hI9
        replace hJ9 := hJ9.symm
        subst hJ9
        exact x_lret hc hr (by decide) (by decide) dX3_upTo_68 (⟨by rw [hac]; exact congrArg (fun v => some (Value.long v)) (if_pos (show (mshr I R m j).1 = 0 from q1)).symm, rfl, rfl⟩)
    | succ d ih =>
      intro k gr ac hk hgr hac
      have hkc : k < cc := by omega
      have hk10 : k < 10 := by omega
      refine x_iload (j := 0) hc dX3_upTo_8 rfl ?_
      refine x_iload_n (j := 5) hc dX3_upTo_10 rfl rfl ?_
      refine x_icmp_gt (tgt := 52) hc dX3_upTo_11 (by decide) (fun q9 => absurd q9 (up_le ha hkc (Nat.le_of_lt hk10))) (fun _ => ?_)
      refine x_lload_n (j := 2) hc dX3_upTo_14 rfl rfl ?_
      refine x_aload_n (j := 3) hc dX3_upTo_15 rfl rfl ?_
      refine x_aload_n (j := 3) hc dX3_upTo_16 rfl rfl ?_
      refine x_getR (C := RX3) (T := TX3) (NN := 19) (ci := 4) (ref := "NetPointsModel") hc 8 in_X3_upTo_4 rfl (by decide) lf_X3_upTo_28 (fun _ h9 => h9) hm.1 (by omega) (by decide) rfl ((hm.cel 8 1061 8 (by decide)).1) dX3_upTo_17 ?_
      refine x_iload_n (j := 4) hc dX3_upTo_20 rfl rfl ?_
      refine x_iald hc ((hm.cel 8 1061 8 (by decide)).2) (by decide) rfl (by omega) (by omega) dX3_upTo_21 ?_
      refine x_vali (hpj) ?_
      refine x_iload (j := 0) hc dX3_upTo_22 rfl ?_
      refine x_callV (C := RX3) (T := TX3) (NN := 19) (ci := 4) (As := [.int (nI (pic j)), .int (nI k)]) (st := [.long gr]) hc hm.1 (by omega) (by decide) rfl (m_grossOf l D z e0 L K N I J R m hm (pic j) k hp hk10) gX3_upTo_X3_grossOf rfl hdV_X3_grossOf ⟨Nat.le_of_ble_eq_true rfl, Nat.le_of_ble_eq_true rfl⟩ rfl rfl ⟨Nat.le_of_ble_eq_true rfl, Nat.le_of_ble_eq_true rfl⟩ (Nat.le_of_ble_eq_true rfl) dX3_upTo_24 (fun v9 I9 J9 hz9 => ?_)
      obtain ⟨rfl, hI9, hJ9⟩ := hz9
      replace hI9 := hI9.symm
      subst hI9
      replace hJ9 := hJ9.symm
      subst hJ9
      refine x_ladd hc dX3_upTo_27 ?_
      refine x_lstore_n (lv' := [(3, .long (gr + (grossY (mrc I R m (pic j) k)))), (7, .int (nI k)), (5, .long ac), (0, .ref m), (1, .int (nI j)), (2, .int a)]) hc dX3_upTo_28 rfl (by decide) rfl ?_
      refine x_lload (j := 2) hc dX3_upTo_29 rfl ?_
      refine x_aload_n (j := 3) hc dX3_upTo_31 rfl rfl ?_
      refine x_aload_n (j := 3) hc dX3_upTo_32 rfl rfl ?_
      refine x_getR (C := RX3) (T := TX3) (NN := 19) (ci := 4) (ref := "NetPointsModel") hc 8 in_X3_upTo_4 rfl (by decide) lf_X3_upTo_28 (fun _ h9 => h9) hm.1 (by omega) (by decide) rfl ((hm.cel 8 1061 8 (by decide)).1) dX3_upTo_33 ?_
      refine x_iload_n (j := 4) hc dX3_upTo_36 rfl rfl ?_
      refine x_iald hc ((hm.cel 8 1061 8 (by decide)).2) (by decide) rfl (by omega) (by omega) dX3_upTo_37 ?_
      refine x_vali (hpj) ?_
      refine x_iload (j := 1) hc dX3_upTo_38 rfl ?_
      refine x_callV (C := RX3) (T := TX3) (NN := 19) (ci := 4) (As := [.int (nI (pic j)), .int (nI k)]) (st := [.long ac]) hc hm.1 (by omega) (by decide) rfl (m_adjustedOf l D z e0 L K N I J R m hm (pic j) k hp hk10) gX3_upTo_X3_adjustedOf rfl hdV_X3_adjustedOf ⟨Nat.le_of_ble_eq_true rfl, Nat.le_of_ble_eq_true rfl⟩ rfl rfl ⟨Nat.le_of_ble_eq_true rfl, Nat.le_of_ble_eq_true rfl⟩ (Nat.le_of_ble_eq_true rfl) dX3_upTo_40 (fun v9 I9 J9 hz9 => ?_)
      obtain ⟨rfl, hI9, hJ9⟩ := hz9
      replace hI9 := hI9.symm
      subst hI9
      replace hJ9 := hJ9.symm
      subst hJ9
      refine x_ladd hc dX3_upTo_43 ?_
      refine x_lstore (lv' := [(5, .long (ac + (adY (I (dr R m 3) (pic j)) (mrc I R m (pic j) k)))), (3, .long (gr + (grossY (mrc I R m (pic j) k)))), (7, .int (nI k)), (0, .ref m), (1, .int (nI j)), (2, .int a)]) hc dX3_upTo_44 (by decide) rfl ?_
      refine x_iinc (j := 2) (v := nI (k + 1)) (lv' := [(7, .int (nI (k + 1))), (5, .long (ac + (adY (I (dr R m 3) (pic j)) (mrc I R m (pic j) k)))), (3, .long (gr + (grossY (mrc I R m (pic j) k)))), (0, .ref m), (1, .int (nI j)), (2, .int a)]) hc dX3_upTo_46 rfl (nI_1 k) (by decide) rfl ?_
      refine x_goto (tgt := 8) hc dX3_upTo_49 (by decide) ?_
      refine x_sub [0, 1, 2, 3, 4, 5] rfl ?_
      exact ih (k + 1) _ _ (by omega) (by rw [hgr]; rfl) (by rw [hac]; rfl)
  exact hloop cc 0 0 0 (by omega) rfl rfl
abbrev rm_X3_move : Room := { frames := 1, cells := 0, slots := 0, locals := 24 }
set_option maxHeartbeats 4000000 in
set_option maxRecDepth 100000 in
theorem m_move (l : Launch) (D : va_G) (z e0 : Nat) (L : List Nat) (K N : Nat → Nat) (I : Nat → Nat → Int32) (J : Nat → Nat → Int64) (R : Nat → Nat → Option Nat) (m : Nat) (hm : Mdl L K N R m) (f t y : Nat) (hf : f < 2) (ht : t < 2) (hy : y < 10) : MG l yX3_move wsX3_move rm_X3_move D z e0 L K N I J R [.ref m, .int (nI f), .int (nI t), .int (nI y)] (fun v I' J' => v = none ∧ I' = I ∧ J' = MVd R m y f t J) := by
  refine mg_of (own := RX3) (maxL := 6) (ret := none) (by decide +kernel) rfl rfl (Nat.le_of_ble_eq_true rfl) ?_
  intro pg ev s mi args below meth c hc hr
  have hp1 := hf
  refine x_aload_n (j := 0) hc dX3_move_0 rfl rfl ?_
  refine x_getR (C := RX3) (T := TX3) (NN := 19) (ci := 4) (ref := "NetPointsModel") hc 17 in_X3_move_4 rfl (by decide) lf_X3_move_53 (fun _ h9 => h9) hm.1 (by omega) (by decide) rfl ((hm.cel 17 1190 2 (by decide)).1) dX3_move_1 ?_
  refine x_iload_n (j := 1) hc dX3_move_4 rfl rfl ?_
  refine x_lald hc ((hm.cel 17 1190 2 (by decide)).2) (by decide) rfl (by omega) (by omega) dX3_move_5 ?_
  refine x_aload_n (j := 0) hc dX3_move_6 rfl rfl ?_
  refine x_getR (C := RX3) (T := TX3) (NN := 19) (ci := 4) (ref := "NetPointsModel") hc 15 in_X3_move_4 rfl (by decide) lf_X3_move_46 (fun _ h9 => h9) hm.1 (by omega) (by decide) rfl ((hm.cel 15 1158 20 (by decide)).1) dX3_move_7 ?_
  refine x_bipush (v := 10) hc dX3_move_10 (by decide) ?_
  refine x_iload_n (j := 2) hc dX3_move_12 rfl rfl ?_
  refine x_imul hc dX3_move_13 ?_
  refine x_iload_n (j := 3) hc dX3_move_14 rfl rfl ?_
  refine x_iadd hc dX3_move_15 ?_
  refine x_vali (ix10 t y) ?_
  refine x_lald hc ((hm.cel 15 1158 20 (by decide)).2) (by decide) rfl (by omega) (by omega) dX3_move_16 ?_
  refine x_lcmp hc dX3_move_17 ?_
  refine x_if_ge (tgt := 30) hc dX3_move_18 (by decide) (fun q1 => ?_) (fun q1 => ?_)
  · refine x_aload_n (j := 0) hc dX3_move_30 rfl rfl ?_
    refine x_getR (C := RX3) (T := TX3) (NN := 19) (ci := 4) (ref := "NetPointsModel") hc 15 in_X3_move_4 rfl (by decide) lf_X3_move_46 (fun _ h9 => h9) hm.1 (by omega) (by decide) rfl ((hm.cel 15 1158 20 (by decide)).1) dX3_move_31 ?_
    refine x_bipush (v := 10) hc dX3_move_34 (by decide) ?_
    refine x_iload_n (j := 2) hc dX3_move_36 rfl rfl ?_
    refine x_imul hc dX3_move_37 ?_
    refine x_iload_n (j := 3) hc dX3_move_38 rfl rfl ?_
    refine x_iadd hc dX3_move_39 ?_
    refine x_vali (ix10 t y) ?_
    refine x_lald hc ((hm.cel 15 1158 20 (by decide)).2) (by decide) rfl (by omega) (by omega) dX3_move_40 ?_
    refine x_vall (y := mn (J (dr R m 17) f) (J (dr R m 15) (10 * t + y))) ((mn_ge (fun h => Int32.not_le.mpr ((lg_cmp_lt _ _).mpr h) q1)).symm) ?_
    refine x_lstore (lv' := [(4, .long (mn (J (dr R m 17) f) (J (dr R m 15) (10 * t + y)))), (0, .ref m), (1, .int (nI f)), (2, .int (nI t)), (3, .int (nI y))]) hc dX3_move_41 (by decide) rfl ?_
    refine x_aload_n (j := 1) hc dX3_move_43 rfl rfl ?_
    refine x_getR (C := RX3) (T := TX3) (NN := 19) (ci := 4) (ref := "NetPointsModel") hc 16 in_X3_move_4 rfl (by decide) lf_X3_move_50 (fun _ h9 => h9) hm.1 (by omega) (by decide) rfl ((hm.cel 16 1174 20 (by decide)).1) dX3_move_44 ?_
    refine x_bipush (v := 10) hc dX3_move_47 (by decide) ?_
    refine x_iload_n (j := 2) hc dX3_move_49 rfl rfl ?_
    refine x_imul hc dX3_move_50 ?_
    refine x_iload_n (j := 4) hc dX3_move_51 rfl rfl ?_
    refine x_iadd hc dX3_move_52 ?_
    refine x_vali (ix10 f y) ?_
    refine x_dup2 hc dX3_move_53 rfl rfl ?_
    refine x_lald hc ((hm.cel 16 1174 20 (by decide)).2) (by decide) rfl (by omega) (by omega) dX3_move_54 ?_
    refine x_lload (j := 0) hc dX3_move_55 rfl ?_
    refine x_lsub hc dX3_move_57 ?_
    refine x_last hc ((hm.cel 16 1174 20 (by decide)).2) (by decide) rfl (by omega) (by omega) dX3_move_58 ?_
    refine x_aload_n (j := 1) hc dX3_move_59 rfl rfl ?_
    refine x_getR (C := RX3) (T := TX3) (NN := 19) (ci := 4) (ref := "NetPointsModel") hc 17 in_X3_move_4 rfl (by decide) lf_X3_move_53 (fun _ h9 => h9) hm.1 (by omega) (by decide) rfl ((hm.cel 17 1190 2 (by decide)).1) dX3_move_60 ?_
    refine x_iload_n (j := 2) hc dX3_move_63 rfl rfl ?_
    refine x_dup2 hc dX3_move_64 rfl rfl ?_
    refine x_lald hc ((hm.cel 17 1190 2 (by decide)).2) (by decide) rfl (by omega) (by omega) dX3_move_65 ?_
    refine x_vall (y := J (dr R m 17) f) (u2_a (((hm.cel 17 1190 2 (by decide)).2).ne ((hm.cel 16 1174 20 (by decide)).2) (by decide))) ?_
    refine x_lload (j := 0) hc dX3_move_66 rfl ?_
    refine x_lsub hc dX3_move_68 ?_
    refine x_last hc ((hm.cel 17 1190 2 (by decide)).2) (by decide) rfl (by omega) (by omega) dX3_move_69 ?_
    refine x_aload_n (j := 1) hc dX3_move_70 rfl rfl ?_
    refine x_getR (C := RX3) (T := TX3) (NN := 19) (ci := 4) (ref := "NetPointsModel") hc 15 in_X3_move_4 rfl (by decide) lf_X3_move_46 (fun _ h9 => h9) hm.1 (by omega) (by decide) rfl ((hm.cel 15 1158 20 (by decide)).1) dX3_move_71 ?_
    refine x_bipush (v := 10) hc dX3_move_74 (by decide) ?_
    refine x_iload_n (j := 3) hc dX3_move_76 rfl rfl ?_
    refine x_imul hc dX3_move_77 ?_
    refine x_iload_n (j := 4) hc dX3_move_78 rfl rfl ?_
    refine x_iadd hc dX3_move_79 ?_
    refine x_vali (ix10 t y) ?_
    refine x_dup2 hc dX3_move_80 rfl rfl ?_
    refine x_lald hc ((hm.cel 15 1158 20 (by decide)).2) (by decide) rfl (by omega) (by omega) dX3_move_81 ?_
    refine x_vall (y := J (dr R m 15) (10 * t + y)) ((u2_a (((hm.cel 15 1158 20 (by decide)).2).ne ((hm.cel 17 1190 2 (by decide)).2) (by decide))).trans (u2_a (((hm.cel 15 1158 20 (by decide)).2).ne ((hm.cel 16 1174 20 (by decide)).2) (by decide)))) ?_
    refine x_lload (j := 0) hc dX3_move_82 rfl ?_
    refine x_lsub hc dX3_move_84 ?_
    refine x_last hc ((hm.cel 15 1158 20 (by decide)).2) (by decide) rfl (by omega) (by omega) dX3_move_85 ?_
    exact x_vret hc hr (by decide) (by decide) dX3_move_86 (⟨rfl, rfl, rfl⟩)
  · refine x_aload_n (j := 0) hc dX3_move_21 rfl rfl ?_
    refine x_getR (C := RX3) (T := TX3) (NN := 19) (ci := 4) (ref := "NetPointsModel") hc 17 in_X3_move_4 rfl (by decide) lf_X3_move_53 (fun _ h9 => h9) hm.1 (by omega) (by decide) rfl ((hm.cel 17 1190 2 (by decide)).1) dX3_move_22 ?_
    refine x_iload_n (j := 1) hc dX3_move_25 rfl rfl ?_
    refine x_lald hc ((hm.cel 17 1190 2 (by decide)).2) (by decide) rfl (by omega) (by omega) dX3_move_26 ?_
    refine x_goto (tgt := 41) hc dX3_move_27 (by decide) ?_
    refine x_vall (y := mn (J (dr R m 17) f) (J (dr R m 15) (10 * t + y))) ((mn_lt ((lg_cmp_lt _ _).mp (Int32.not_le.mp q1))).symm) ?_
    refine x_lstore (lv' := [(4, .long (mn (J (dr R m 17) f) (J (dr R m 15) (10 * t + y)))), (0, .ref m), (1, .int (nI f)), (2, .int (nI t)), (3, .int (nI y))]) hc dX3_move_41 (by decide) rfl ?_
    refine x_aload_n (j := 1) hc dX3_move_43 rfl rfl ?_
    refine x_getR (C := RX3) (T := TX3) (NN := 19) (ci := 4) (ref := "NetPointsModel") hc 16 in_X3_move_4 rfl (by decide) lf_X3_move_50 (fun _ h9 => h9) hm.1 (by omega) (by decide) rfl ((hm.cel 16 1174 20 (by decide)).1) dX3_move_44 ?_
    refine x_bipush (v := 10) hc dX3_move_47 (by decide) ?_
    refine x_iload_n (j := 2) hc dX3_move_49 rfl rfl ?_
    refine x_imul hc dX3_move_50 ?_
    refine x_iload_n (j := 4) hc dX3_move_51 rfl rfl ?_
    refine x_iadd hc dX3_move_52 ?_
    refine x_vali (ix10 f y) ?_
    refine x_dup2 hc dX3_move_53 rfl rfl ?_
    refine x_lald hc ((hm.cel 16 1174 20 (by decide)).2) (by decide) rfl (by omega) (by omega) dX3_move_54 ?_
    refine x_lload (j := 0) hc dX3_move_55 rfl ?_
    refine x_lsub hc dX3_move_57 ?_
    refine x_last hc ((hm.cel 16 1174 20 (by decide)).2) (by decide) rfl (by omega) (by omega) dX3_move_58 ?_
    refine x_aload_n (j := 1) hc dX3_move_59 rfl rfl ?_
    refine x_getR (C := RX3) (T := TX3) (NN := 19) (ci := 4) (ref := "NetPointsModel") hc 17 in_X3_move_4 rfl (by decide) lf_X3_move_53 (fun _ h9 => h9) hm.1 (by omega) (by decide) rfl ((hm.cel 17 1190 2 (by decide)).1) dX3_move_60 ?_
    refine x_iload_n (j := 2) hc dX3_move_63 rfl rfl ?_
    refine x_dup2 hc dX3_move_64 rfl rfl ?_
    refine x_lald hc ((hm.cel 17 1190 2 (by decide)).2) (by decide) rfl (by omega) (by omega) dX3_move_65 ?_
    refine x_vall (y := J (dr R m 17) f) (u2_a (((hm.cel 17 1190 2 (by decide)).2).ne ((hm.cel 16 1174 20 (by decide)).2) (by decide))) ?_
    refine x_lload (j := 0) hc dX3_move_66 rfl ?_
    refine x_lsub hc dX3_move_68 ?_
    refine x_last hc ((hm.cel 17 1190 2 (by decide)).2) (by decide) rfl (by omega) (by omega) dX3_move_69 ?_
    refine x_aload_n (j := 1) hc dX3_move_70 rfl rfl ?_
    refine x_getR (C := RX3) (T := TX3) (NN := 19) (ci := 4) (ref := "NetPointsModel") hc 15 in_X3_move_4 rfl (by decide) lf_X3_move_46 (fun _ h9 => h9) hm.1 (by omega) (by decide) rfl ((hm.cel 15 1158 20 (by decide)).1) dX3_move_71 ?_
    refine x_bipush (v := 10) hc dX3_move_74 (by decide) ?_
    refine x_iload_n (j := 3) hc dX3_move_76 rfl rfl ?_
    refine x_imul hc dX3_move_77 ?_
    refine x_iload_n (j := 4) hc dX3_move_78 rfl rfl ?_
    refine x_iadd hc dX3_move_79 ?_
    refine x_vali (ix10 t y) ?_
    refine x_dup2 hc dX3_move_80 rfl rfl ?_
    refine x_lald hc ((hm.cel 15 1158 20 (by decide)).2) (by decide) rfl (by omega) (by omega) dX3_move_81 ?_
    refine x_vall (y := J (dr R m 15) (10 * t + y)) ((u2_a (((hm.cel 15 1158 20 (by decide)).2).ne ((hm.cel 17 1190 2 (by decide)).2) (by decide))).trans (u2_a (((hm.cel 15 1158 20 (by decide)).2).ne ((hm.cel 16 1174 20 (by decide)).2) (by decide)))) ?_
    refine x_lload (j := 0) hc dX3_move_82 rfl ?_
    refine x_lsub hc dX3_move_84 ?_
    refine x_last hc ((hm.cel 15 1158 20 (by decide)).2) (by decide) rfl (by omega) (by omega) dX3_move_85 ?_
    exact x_vret hc hr (by decide) (by decide) dX3_move_86 (⟨rfl, rfl, rfl⟩)
abbrev rm_X3_deferred : Room := { frames := 1, cells := 0, slots := 0, locals := 24 }
set_option maxHeartbeats 4000000 in
set_option maxRecDepth 100000 in
theorem m_deferred (l : Launch) (D : va_G) (z e0 : Nat) (L : List Nat) (K N : Nat → Nat) (I : Nat → Nat → Int32) (J : Nat → Nat → Int64) (R : Nat → Nat → Option Nat) (m now n : Nat) (pic : Nat → Nat) (sh : Nat → Nat → Shr) (hc0 : MC L K N I R m now n pic sh) (p : Nat) (hp : p < 2) (e : Nat) (he : e ≤ n) : MG l yX3_deferred wsX3_deferred rm_X3_deferred D z e0 L K N I J R [.ref m, .int (nI p), .int (nI e)] (fun v I' J' => v = some (.long (leftN (J (dr R m 16) (10 * p + now)) (sh p) (cnt pic p e))) ∧ I' = I ∧ J' = J) := by
  refine mg_of (own := RX3) (maxL := 6) (ret := (some .long)) (by decide +kernel) rfl rfl (Nat.le_of_ble_eq_true rfl) ?_
  intro pg ev s mi args below meth c hc hr
  have hm := hc0.1
  have hnow := hc0.2.2.1
  have hn8 := hc0.2.2.2.2.1
  refine x_aload_n (j := 0) hc dX3_deferred_0 rfl rfl ?_
  refine x_getR (C := RX3) (T := TX3) (NN := 19) (ci := 4) (ref := "NetPointsModel") hc 16 in_X3_deferred_4 rfl (by decide) lf_X3_deferred_50 (fun _ h9 => h9) hm.1 (by omega) (by decide) rfl ((hm.cel 16 1174 20 (by decide)).1) dX3_deferred_1 ?_
  refine x_bipush (v := 10) hc dX3_deferred_4 (by decide) ?_
  refine x_iload_n (j := 1) hc dX3_deferred_6 rfl rfl ?_
  refine x_imul hc dX3_deferred_7 ?_
  refine x_aload_n (j := 0) hc dX3_deferred_8 rfl rfl ?_
  refine x_getI (C := RX3) (T := TX3) (NN := 19) (ci := 4) (ref := "NetPointsModel") hc 7 in_X3_deferred_4 rfl (by decide) lf_X3_deferred_85 (fun _ h9 => h9) hm.1 (by omega) (by decide) rfl dX3_deferred_9 ?_
  refine x_vali (hc0.2.1) ?_
  refine x_iadd hc dX3_deferred_12 ?_
  refine x_vali (ix10 p now) ?_
  refine x_lald hc ((hm.cel 16 1174 20 (by decide)).2) (by decide) rfl (by omega) (by omega) dX3_deferred_13 ?_
  refine x_vall (rfl) ?_
  refine x_lstore_n (lv' := [(3, .long (J (dr R m 16) (10 * p + now))), (0, .ref m), (1, .int (nI p)), (2, .int (nI e))]) hc dX3_deferred_14 rfl (by decide) rfl ?_
  refine x_iconst (v := 0) hc dX3_deferred_15 (by decide) ?_
  refine x_istore (lv' := [(5, .int 0), (3, .long (J (dr R m 16) (10 * p + now))), (0, .ref m), (1, .int (nI p)), (2, .int (nI e))]) hc dX3_deferred_16 (by decide) rfl ?_
  have hloop : ∀ (d k : Nat) (left : Int64), k + d = e → left = leftN (J (dr R m 16) (10 * p + now)) (sh p) (cnt pic p k) → XW pg l ev rm_X3_deferred s mi args below meth c D z 6 L K N I J R 0 0 (MQ below (QG D z L K N R (fun v I' J' => v = some (.long (leftN (J (dr R m 16) (10 * p + now)) (sh p) (cnt pic p e))) ∧ I' = I ∧ J' = J)) args s (rm_X3_deferred).cells (rm_X3_deferred).slots (fun q => z ≤ q)) 18 [(5, .int (nI k)), (3, .long left), (0, .ref m), (1, .int (nI p)), (2, .int (nI e))] [] := by
    intro d
    induction d with
    | zero =>
      intro k left hk hl
      have hk2 : k = e := by omega
      subst hk2
      refine x_iload (j := 0) hc dX3_deferred_18 rfl ?_
      refine x_iload_n (j := 4) hc dX3_deferred_20 rfl rfl ?_
      refine x_icmp_ge (tgt := 80) hc dX3_deferred_21 (by decide) (fun _ => ?_) (fun q9 => absurd (Int32.le_refl _) q9)
      refine x_lload_n (j := 1) hc dX3_deferred_80 rfl rfl ?_
      exact x_lret hc hr (by decide) (by decide) dX3_deferred_81 (⟨by rw [hl], rfl, rfl⟩)
    | succ d ih =>
      intro k left hk hl
      have hke : k < e := by omega
      have hkn : k < n := by omega
      have hk8 : k < 8 := by omega
      obtain ⟨hpk, hpj⟩ := hc0.2.2.2.2.2.2.1 k hkn
      have hsh := (hc0.2.2.2.2.2.2.2 k hkn).1
      refine x_iload (j := 0) hc dX3_deferred_18 rfl ?_
      refine x_iload_n (j := 4) hc dX3_deferred_20 rfl rfl ?_
      refine x_icmp_ge (tgt := 80) hc dX3_deferred_21 (by decide) (fun q9 => absurd q9 (nI_ge hke (show e < 2 ^ 31 by omega))) (fun _ => ?_)
      refine x_aload_n (j := 2) hc dX3_deferred_24 rfl rfl ?_
      refine x_getR (C := RX3) (T := TX3) (NN := 19) (ci := 4) (ref := "NetPointsModel") hc 8 in_X3_deferred_4 rfl (by decide) lf_X3_deferred_28 (fun _ h9 => h9) hm.1 (by omega) (by decide) rfl ((hm.cel 8 1061 8 (by decide)).1) dX3_deferred_25 ?_
      refine x_iload (j := 0) hc dX3_deferred_28 rfl ?_
      refine x_iald hc ((hm.cel 8 1061 8 (by decide)).2) (by decide) rfl (by omega) (by omega) dX3_deferred_30 ?_
      refine x_vali (hpj) ?_
      refine x_iload_n (j := 3) hc dX3_deferred_31 rfl rfl ?_
      refine x_icmp_ne (tgt := 74) hc dX3_deferred_32 (by decide) (fun q1 => ?_) (fun q1 => ?_)
      · refine x_iinc (j := 0) (v := nI (k + 1)) (lv' := [(5, .int (nI (k + 1))), (3, .long left), (0, .ref m), (1, .int (nI p)), (2, .int (nI e))]) hc dX3_deferred_74 rfl (nI_1 k) (by decide) rfl ?_
        refine x_goto (tgt := 18) hc dX3_deferred_77 (by decide) ?_
        refine x_sub [0, 1, 2, 3, 4] rfl ?_
        exact ih (k + 1) _ (by omega) (by rw [cnt_F (fun h => q1 (by rw [h]))]; exact hl)
      · have hpk2 : pic k = p := (nI_eq (show pic k < 2 ^ 31 by omega) (show p < 2 ^ 31 by omega)).mp q1
        refine x_aload_n (j := 2) hc dX3_deferred_35 rfl rfl ?_
        refine x_getR (C := RX3) (T := TX3) (NN := 19) (ci := 4) (ref := "NetPointsModel") hc 9 in_X3_deferred_4 rfl (by decide) lf_X3_deferred_31 (fun _ h9 => h9) hm.1 (by omega) (by decide) rfl ((hm.cel 9 1077 8 (by decide)).1) dX3_deferred_36 ?_
        refine x_iload (j := 0) hc dX3_deferred_39 rfl ?_
        refine x_iald hc ((hm.cel 9 1077 8 (by decide)).2) (by decide) rfl (by omega) (by omega) dX3_deferred_41 ?_
        refine x_iconst (v := 2) hc dX3_deferred_42 (by decide) ?_
        refine x_icmp_ne (tgt := 74) hc dX3_deferred_43 (by decide) (fun q2 => ?_) (fun q2 => ?_)
        · refine x_iinc (j := 0) (v := nI (k + 1)) (lv' := [(5, .int (nI (k + 1))), (3, .long left), (0, .ref m), (1, .int (nI p)), (2, .int (nI e))]) hc dX3_deferred_74 rfl (nI_1 k) (by decide) rfl ?_
          refine x_goto (tgt := 18) hc dX3_deferred_77 (by decide) ?_
          refine x_sub [0, 1, 2, 3, 4] rfl ?_
          exact ih (k + 1) _ (by omega) (by rw [cnt_T hpk2, leftN, ← hpk2, hsh, hpk2, ← hl]; exact (if_neg (show ¬ (mshr I R m k).1 = 2 from q2)).symm)
        · refine x_lload_n (j := 1) hc dX3_deferred_46 rfl rfl ?_
          refine x_lload_n (j := 1) hc dX3_deferred_47 rfl rfl ?_
          refine x_aload_n (j := 2) hc dX3_deferred_48 rfl rfl ?_
          refine x_getR (C := RX3) (T := TX3) (NN := 19) (ci := 4) (ref := "NetPointsModel") hc 10 in_X3_deferred_4 rfl (by decide) lf_X3_deferred_34 (fun _ h9 => h9) hm.1 (by omega) (by decide) rfl ((hm.cel 10 1093 8 (by decide)).1) dX3_deferred_49 ?_
          refine x_iload (j := 0) hc dX3_deferred_52 rfl ?_
          refine x_iald hc ((hm.cel 10 1093 8 (by decide)).2) (by decide) rfl (by omega) (by omega) dX3_deferred_54 ?_
          refine x_i2l hc dX3_deferred_55 ?_
          refine x_lcmp hc dX3_deferred_56 ?_
          refine x_if_ge (tgt := 64) hc dX3_deferred_57 (by decide) (fun q3 => ?_) (fun q3 => ?_)
          · refine x_aload_n (j := 2) hc dX3_deferred_64 rfl rfl ?_
            refine x_getR (C := RX3) (T := TX3) (NN := 19) (ci := 4) (ref := "NetPointsModel") hc 10 in_X3_deferred_4 rfl (by decide) lf_X3_deferred_34 (fun _ h9 => h9) hm.1 (by omega) (by decide) rfl ((hm.cel 10 1093 8 (by decide)).1) dX3_deferred_65 ?_
            refine x_iload (j := 0) hc dX3_deferred_68 rfl ?_
            refine x_iald hc ((hm.cel 10 1093 8 (by decide)).2) (by decide) rfl (by omega) (by omega) dX3_deferred_70 ?_
            refine x_i2l hc dX3_deferred_71 ?_
            refine x_lsub hc dX3_deferred_72 ?_
            refine x_lstore_n (lv' := [(3, .long (left - (Int32.toInt64 (I (dr R m 10) k)))), (5, .int (nI k)), (0, .ref m), (1, .int (nI p)), (2, .int (nI e))]) hc dX3_deferred_73 rfl (by decide) rfl ?_
            refine x_iinc (j := 1) (v := nI (k + 1)) (lv' := [(5, .int (nI (k + 1))), (3, .long (left - (Int32.toInt64 (I (dr R m 10) k)))), (0, .ref m), (1, .int (nI p)), (2, .int (nI e))]) hc dX3_deferred_74 rfl (nI_1 k) (by decide) rfl ?_
            refine x_goto (tgt := 18) hc dX3_deferred_77 (by decide) ?_
            refine x_sub [0, 1, 2, 3, 4] rfl ?_
            exact ih (k + 1) _ (by omega) (by rw [cnt_T hpk2, leftN, ← hpk2, hsh, hpk2, ← hl]; exact (Eq.trans (if_pos (show (mshr I R m k).1 = 2 from q2)) (congrArg (fun v => left - v) ((mn_comm _ _).trans (mn_ge (fun h => Int32.not_le.mpr ((lg_cmp_lt _ _).mpr h) q3))))).symm)
          · refine x_lload_n (j := 1) hc dX3_deferred_60 rfl rfl ?_
            refine x_goto (tgt := 72) hc dX3_deferred_61 (by decide) ?_
            refine x_lsub hc dX3_deferred_72 ?_
            refine x_lstore_n (lv' := [(3, .long (left - left)), (5, .int (nI k)), (0, .ref m), (1, .int (nI p)), (2, .int (nI e))]) hc dX3_deferred_73 rfl (by decide) rfl ?_
            refine x_iinc (j := 1) (v := nI (k + 1)) (lv' := [(5, .int (nI (k + 1))), (3, .long (left - left)), (0, .ref m), (1, .int (nI p)), (2, .int (nI e))]) hc dX3_deferred_74 rfl (nI_1 k) (by decide) rfl ?_
            refine x_goto (tgt := 18) hc dX3_deferred_77 (by decide) ?_
            refine x_sub [0, 1, 2, 3, 4] rfl ?_
            exact ih (k + 1) _ (by omega) (by rw [cnt_T hpk2, leftN, ← hpk2, hsh, hpk2, ← hl]; exact (Eq.trans (if_pos (show (mshr I R m k).1 = 2 from q2)) (congrArg (fun v => left - v) ((mn_comm _ _).trans (mn_lt ((lg_cmp_lt _ _).mp (Int32.not_le.mp q3)))))).symm)
  exact hloop e 0 _ (by omega) rfl
theorem sh_le {j n : Nat} (h : j < n) (hn : n ≤ 8) : nI j ≤ nI n - 1 := by
  rw [nI_sub1 (by omega)]
  exact nI_le (by omega) (by omega)
abbrev rm_X3_isSharer : Room := { frames := 1, cells := 0, slots := 0, locals := 24 }
set_option maxHeartbeats 4000000 in
set_option maxRecDepth 100000 in
theorem m_isShT (l : Launch) (D : va_G) (z e0 : Nat) (L : List Nat) (K N : Nat → Nat) (I : Nat → Nat → Int32) (J : Nat → Nat → Int64) (R : Nat → Nat → Option Nat) (m now n : Nat) (pic : Nat → Nat) (sh : Nat → Nat → Shr) (hc0 : MC L K N I R m now n pic sh) (j : Nat) (hj : j < n) : MG l yX3_isSharer wsX3_isSharer rm_X3_isSharer D z e0 L K N I J R [.ref m, .int (nI j)] (fun v I' J' => v = some (.int 1) ∧ I' = u2 I m 18 0 ∧ J' = J) := by
  refine mg_of (own := RX3) (maxL := 2) (ret := (some .boolean)) (by decide +kernel) rfl rfl (Nat.le_of_ble_eq_true rfl) ?_
  intro pg ev s mi args below meth c hc hr
  have hm := hc0.1
  have hnow := hc0.2.2.1
  have hn8 := hc0.2.2.2.2.1
  refine x_aload_n (j := 0) hc dX3_isSharer_0 rfl rfl ?_
  refine x_iload_n (j := 1) hc dX3_isSharer_1 rfl rfl ?_
  refine x_iconst (v := 0) hc dX3_isSharer_2 (by decide) ?_
  refine x_aload_n (j := 0) hc dX3_isSharer_3 rfl rfl ?_
  refine x_getI (C := RX3) (T := TX3) (NN := 19) (ci := 4) (ref := "NetPointsModel") hc 14 in_X3_isSharer_4 rfl (by decide) lf_X3_isSharer_81 (fun _ h9 => h9) hm.1 (by omega) (by decide) rfl dX3_isSharer_4 ?_
  refine x_vali (y := nI n) ((hc0.2.2.2.1)) ?_
  refine x_iconst (v := 1) hc dX3_isSharer_7 (by decide) ?_
  refine x_isub hc dX3_isSharer_8 ?_
  refine x_callS (As := [.int (nI j), .int 0, .int ((nI n) - 1)]) (st := [.ref m]) hc (m_inT l D z e0 L K N I J R (nI j) 0 ((nI n) - 1) (nI_pos' (show j < 2 ^ 31 by omega)) (sh_le hj hn8)) gX3_isSharer_X3_in rfl hdS_X3_in ⟨Nat.le_of_ble_eq_true rfl, Nat.le_of_ble_eq_true rfl⟩ rfl rfl ⟨Nat.le_of_ble_eq_true rfl, Nat.le_of_ble_eq_true rfl⟩ (Nat.le_of_ble_eq_true rfl) dX3_isSharer_9 (fun v9 I9 J9 hz9 => ?_)
  obtain ⟨rfl, hI9, hJ9⟩ := hz9
  replace hI9 := hI9.symm
  subst hI9
  replace hJ9 := hJ9.symm
  subst hJ9
  refine x_if_eq (tgt := 19) hc dX3_isSharer_12 (by decide) (fun q9 => absurd q9 (by decide)) (fun _ => ?_)
  refine x_iconst (v := 0) hc dX3_isSharer_15 (by decide) ?_
  refine x_goto (tgt := 20) hc dX3_isSharer_16 (by decide) ?_
  refine x_putI (C := RX3) (T := TX3) (NN := 19) (ci := 4) (ref := "NetPointsModel") hc 18 in_X3_isSharer_4 rfl (by decide) lf_X3_isSharer_56 (fun _ h9 => h9) tyX3 tyX3_ok nmX3 hm.1 (by omega) (by decide) rfl rfl pd_X3_18 dX3_isSharer_20 ?_
  refine x_aload_n (j := 0) hc dX3_isSharer_23 rfl rfl ?_
  refine x_getI (C := RX3) (T := TX3) (NN := 19) (ci := 4) (ref := "NetPointsModel") hc 18 in_X3_isSharer_4 rfl (by decide) lf_X3_isSharer_56 (fun _ h9 => h9) hm.1 (by omega) (by decide) rfl dX3_isSharer_24 ?_
  refine x_vali (y := 0) (u2_s) ?_
  refine x_if_ne (tgt := 34) hc dX3_isSharer_27 (by decide) (fun q9 => absurd q9 (by decide)) (fun _ => ?_)
  refine x_iconst (v := 1) hc dX3_isSharer_30 (by decide) ?_
  refine x_goto (tgt := 35) hc dX3_isSharer_31 (by decide) ?_
  exact x_zret hc hr rfl (by decide) (by decide) dX3_isSharer_35 (⟨rfl, rfl, rfl⟩)
set_option maxHeartbeats 4000000 in
set_option maxRecDepth 100000 in
theorem m_isShF (l : Launch) (D : va_G) (z e0 : Nat) (L : List Nat) (K N : Nat → Nat) (I : Nat → Nat → Int32) (J : Nat → Nat → Int64) (R : Nat → Nat → Option Nat) (m now n : Nat) (pic : Nat → Nat) (sh : Nat → Nat → Shr) (hc0 : MC L K N I R m now n pic sh) (q : Int32) (hq : ¬ (0 ≤ q ∧ q ≤ nI n - 1)) : MG l yX3_isSharer wsX3_isSharer rm_X3_isSharer D z e0 L K N I J R [.ref m, .int q] (fun v I' J' => v = some (.int 0) ∧ I' = u2 I m 18 1 ∧ J' = J) := by
  refine mg_of (own := RX3) (maxL := 2) (ret := (some .boolean)) (by decide +kernel) rfl rfl (Nat.le_of_ble_eq_true rfl) ?_
  intro pg ev s mi args below meth c hc hr
  have hm := hc0.1
  have hnow := hc0.2.2.1
  have hn8 := hc0.2.2.2.2.1
  refine x_aload_n (j := 0) hc dX3_isSharer_0 rfl rfl ?_
  refine x_iload_n (j := 1) hc dX3_isSharer_1 rfl rfl ?_
  refine x_iconst (v := 0) hc dX3_isSharer_2 (by decide) ?_
  refine x_aload_n (j := 0) hc dX3_isSharer_3 rfl rfl ?_
  refine x_getI (C := RX3) (T := TX3) (NN := 19) (ci := 4) (ref := "NetPointsModel") hc 14 in_X3_isSharer_4 rfl (by decide) lf_X3_isSharer_81 (fun _ h9 => h9) hm.1 (by omega) (by decide) rfl dX3_isSharer_4 ?_
  refine x_vali (y := nI n) ((hc0.2.2.2.1)) ?_
  refine x_iconst (v := 1) hc dX3_isSharer_7 (by decide) ?_
  refine x_isub hc dX3_isSharer_8 ?_
  refine x_callS (As := [.int q, .int 0, .int ((nI n) - 1)]) (st := [.ref m]) hc (m_inF l D z e0 L K N I J R q 0 ((nI n) - 1) hq) gX3_isSharer_X3_in rfl hdS_X3_in ⟨Nat.le_of_ble_eq_true rfl, Nat.le_of_ble_eq_true rfl⟩ rfl rfl ⟨Nat.le_of_ble_eq_true rfl, Nat.le_of_ble_eq_true rfl⟩ (Nat.le_of_ble_eq_true rfl) dX3_isSharer_9 (fun v9 I9 J9 hz9 => ?_)
  obtain ⟨rfl, hI9, hJ9⟩ := hz9
  replace hI9 := hI9.symm
  subst hI9
  replace hJ9 := hJ9.symm
  subst hJ9
  refine x_if_eq (tgt := 19) hc dX3_isSharer_12 (by decide) (fun _ => ?_) (fun q9 => absurd (by decide) q9)
  refine x_iconst (v := 1) hc dX3_isSharer_19 (by decide) ?_
  refine x_putI (C := RX3) (T := TX3) (NN := 19) (ci := 4) (ref := "NetPointsModel") hc 18 in_X3_isSharer_4 rfl (by decide) lf_X3_isSharer_56 (fun _ h9 => h9) tyX3 tyX3_ok nmX3 hm.1 (by omega) (by decide) rfl rfl pd_X3_18 dX3_isSharer_20 ?_
  refine x_aload_n (j := 0) hc dX3_isSharer_23 rfl rfl ?_
  refine x_getI (C := RX3) (T := TX3) (NN := 19) (ci := 4) (ref := "NetPointsModel") hc 18 in_X3_isSharer_4 rfl (by decide) lf_X3_isSharer_56 (fun _ h9 => h9) hm.1 (by omega) (by decide) rfl dX3_isSharer_24 ?_
  refine x_vali (y := 1) (u2_s) ?_
  refine x_if_ne (tgt := 34) hc dX3_isSharer_27 (by decide) (fun _ => ?_) (fun q9 => absurd q9 (by decide))
  refine x_iconst (v := 0) hc dX3_isSharer_34 (by decide) ?_
  exact x_zret hc hr rfl (by decide) (by decide) dX3_isSharer_35 (⟨rfl, rfl, rfl⟩)
abbrev rm_X3_isYear : Room := { frames := 2, cells := 0, slots := 0, locals := 42 }
set_option maxHeartbeats 4000000 in
set_option maxRecDepth 100000 in
theorem m_isYrT (l : Launch) (D : va_G) (z e0 : Nat) (L : List Nat) (K N : Nat → Nat) (I : Nat → Nat → Int32) (J : Nat → Nat → Int64) (R : Nat → Nat → Option Nat) (m now n : Nat) (pic : Nat → Nat) (sh : Nat → Nat → Shr) (hc0 : MC L K N I R m now n pic sh) (k : Nat) (hk : k < 2) (y : Nat) (hy : y ≤ now) : MG l yX3_isYear wsX3_isYear rm_X3_isYear D z e0 L K N I J R [.ref m, .int (nI k), .int (nI y)] (fun v I' J' => v = some (.int 1) ∧ I' = u2 I m 18 0 ∧ J' = J) := by
  refine mg_of (own := RX3) (maxL := 3) (ret := (some .boolean)) (by decide +kernel) rfl rfl (Nat.le_of_ble_eq_true rfl) ?_
  intro pg ev s mi args below meth c hc hr
  have hm := hc0.1
  have hnow := hc0.2.2.1
  have hn8 := hc0.2.2.2.2.1
  refine x_aload_n (j := 0) hc dX3_isYear_0 rfl rfl ?_
  refine x_iload_n (j := 1) hc dX3_isYear_1 rfl rfl ?_
  refine x_callS (As := [.int (nI k)]) (st := [.ref m]) hc (m_isPicT l D z e0 L K N I J R k hk) gX3_isYear_X3_isPicture rfl hdS_X3_isPicture ⟨Nat.le_of_ble_eq_true rfl, Nat.le_of_ble_eq_true rfl⟩ rfl rfl ⟨Nat.le_of_ble_eq_true rfl, Nat.le_of_ble_eq_true rfl⟩ (Nat.le_of_ble_eq_true rfl) dX3_isYear_2 (fun v9 I9 J9 hz9 => ?_)
  obtain ⟨rfl, hI9, hJ9⟩ := hz9
  replace hI9 := hI9.symm
  subst hI9
  replace hJ9 := hJ9.symm
  subst hJ9
  refine x_if_ne (tgt := 12) hc dX3_isYear_5 (by decide) (fun _ => ?_) (fun q9 => absurd q9 (by decide))
  refine x_iload_n (j := 2) hc dX3_isYear_12 rfl rfl ?_
  refine x_iconst (v := 0) hc dX3_isYear_13 (by decide) ?_
  refine x_aload_n (j := 0) hc dX3_isYear_14 rfl rfl ?_
  refine x_getI (C := RX3) (T := TX3) (NN := 19) (ci := 4) (ref := "NetPointsModel") hc 7 in_X3_isYear_4 rfl (by decide) lf_X3_isYear_85 (fun _ h9 => h9) hm.1 (by omega) (by decide) rfl dX3_isYear_15 ?_
  refine x_vali (y := nI now) ((hc0.2.1)) ?_
  refine x_callS (As := [.int (nI y), .int 0, .int (nI now)]) (st := [.ref m]) hc (m_inT l D z e0 L K N I J R (nI y) 0 (nI now) (nI_pos' (show y < 2 ^ 31 by omega)) (nI_le hy (show now < 2 ^ 31 by omega))) gX3_isYear_X3_in rfl hdS_X3_in ⟨Nat.le_of_ble_eq_true rfl, Nat.le_of_ble_eq_true rfl⟩ rfl rfl ⟨Nat.le_of_ble_eq_true rfl, Nat.le_of_ble_eq_true rfl⟩ (Nat.le_of_ble_eq_true rfl) dX3_isYear_18 (fun v9 I9 J9 hz9 => ?_)
  obtain ⟨rfl, hI9, hJ9⟩ := hz9
  replace hI9 := hI9.symm
  subst hI9
  replace hJ9 := hJ9.symm
  subst hJ9
  refine x_if_ne (tgt := 28) hc dX3_isYear_21 (by decide) (fun _ => ?_) (fun q9 => absurd q9 (by decide))
  refine x_iconst (v := 0) hc dX3_isYear_28 (by decide) ?_
  refine x_putI (C := RX3) (T := TX3) (NN := 19) (ci := 4) (ref := "NetPointsModel") hc 18 in_X3_isYear_4 rfl (by decide) lf_X3_isYear_56 (fun _ h9 => h9) tyX3 tyX3_ok nmX3 hm.1 (by omega) (by decide) rfl rfl pd_X3_18 dX3_isYear_29 ?_
  refine x_aload_n (j := 0) hc dX3_isYear_32 rfl rfl ?_
  refine x_getI (C := RX3) (T := TX3) (NN := 19) (ci := 4) (ref := "NetPointsModel") hc 18 in_X3_isYear_4 rfl (by decide) lf_X3_isYear_56 (fun _ h9 => h9) hm.1 (by omega) (by decide) rfl dX3_isYear_33 ?_
  refine x_vali (y := 0) (u2_s) ?_
  refine x_if_ne (tgt := 43) hc dX3_isYear_36 (by decide) (fun q9 => absurd q9 (by decide)) (fun _ => ?_)
  refine x_iconst (v := 1) hc dX3_isYear_39 (by decide) ?_
  refine x_goto (tgt := 44) hc dX3_isYear_40 (by decide) ?_
  exact x_zret hc hr rfl (by decide) (by decide) dX3_isYear_44 (⟨rfl, rfl, rfl⟩)
set_option maxHeartbeats 4000000 in
set_option maxRecDepth 100000 in
theorem m_isYrF1 (l : Launch) (D : va_G) (z e0 : Nat) (L : List Nat) (K N : Nat → Nat) (I : Nat → Nat → Int32) (J : Nat → Nat → Int64) (R : Nat → Nat → Option Nat) (m : Nat) (hm : Mdl L K N R m) (q : Int32) (hq : ¬ (0 ≤ q ∧ q ≤ 1)) (y : Int32) : MG l yX3_isYear wsX3_isYear rm_X3_isYear D z e0 L K N I J R [.ref m, .int q, .int y] (fun v I' J' => v = some (.int 0) ∧ I' = u2 I m 18 1 ∧ J' = J) := by
  refine mg_of (own := RX3) (maxL := 3) (ret := (some .boolean)) (by decide +kernel) rfl rfl (Nat.le_of_ble_eq_true rfl) ?_
  intro pg ev s mi args below meth c hc hr
  refine x_aload_n (j := 0) hc dX3_isYear_0 rfl rfl ?_
  refine x_iload_n (j := 1) hc dX3_isYear_1 rfl rfl ?_
  refine x_callS (As := [.int q]) (st := [.ref m]) hc (m_isPicF l D z e0 L K N I J R q hq) gX3_isYear_X3_isPicture rfl hdS_X3_isPicture ⟨Nat.le_of_ble_eq_true rfl, Nat.le_of_ble_eq_true rfl⟩ rfl rfl ⟨Nat.le_of_ble_eq_true rfl, Nat.le_of_ble_eq_true rfl⟩ (Nat.le_of_ble_eq_true rfl) dX3_isYear_2 (fun v9 I9 J9 hz9 => ?_)
  obtain ⟨rfl, hI9, hJ9⟩ := hz9
  replace hI9 := hI9.symm
  subst hI9
  replace hJ9 := hJ9.symm
  subst hJ9
  refine x_if_ne (tgt := 12) hc dX3_isYear_5 (by decide) (fun q9 => absurd q9 (by decide)) (fun _ => ?_)
  refine x_iconst (v := 1) hc dX3_isYear_8 (by decide) ?_
  refine x_goto (tgt := 29) hc dX3_isYear_9 (by decide) ?_
  refine x_putI (C := RX3) (T := TX3) (NN := 19) (ci := 4) (ref := "NetPointsModel") hc 18 in_X3_isYear_4 rfl (by decide) lf_X3_isYear_56 (fun _ h9 => h9) tyX3 tyX3_ok nmX3 hm.1 (by omega) (by decide) rfl rfl pd_X3_18 dX3_isYear_29 ?_
  refine x_aload_n (j := 0) hc dX3_isYear_32 rfl rfl ?_
  refine x_getI (C := RX3) (T := TX3) (NN := 19) (ci := 4) (ref := "NetPointsModel") hc 18 in_X3_isYear_4 rfl (by decide) lf_X3_isYear_56 (fun _ h9 => h9) hm.1 (by omega) (by decide) rfl dX3_isYear_33 ?_
  refine x_vali (y := 1) (u2_s) ?_
  refine x_if_ne (tgt := 43) hc dX3_isYear_36 (by decide) (fun _ => ?_) (fun q9 => absurd q9 (by decide))
  refine x_iconst (v := 0) hc dX3_isYear_43 (by decide) ?_
  exact x_zret hc hr rfl (by decide) (by decide) dX3_isYear_44 (⟨rfl, rfl, rfl⟩)
set_option maxHeartbeats 4000000 in
set_option maxRecDepth 100000 in
theorem m_isYrF2 (l : Launch) (D : va_G) (z e0 : Nat) (L : List Nat) (K N : Nat → Nat) (I : Nat → Nat → Int32) (J : Nat → Nat → Int64) (R : Nat → Nat → Option Nat) (m now n : Nat) (pic : Nat → Nat) (sh : Nat → Nat → Shr) (hc0 : MC L K N I R m now n pic sh) (k : Nat) (hk : k < 2) (q : Int32) (hq : ¬ (0 ≤ q ∧ q ≤ nI now)) : MG l yX3_isYear wsX3_isYear rm_X3_isYear D z e0 L K N I J R [.ref m, .int (nI k), .int q] (fun v I' J' => v = some (.int 0) ∧ I' = u2 I m 18 2 ∧ J' = J) := by
  refine mg_of (own := RX3) (maxL := 3) (ret := (some .boolean)) (by decide +kernel) rfl rfl (Nat.le_of_ble_eq_true rfl) ?_
  intro pg ev s mi args below meth c hc hr
  have hm := hc0.1
  have hnow := hc0.2.2.1
  have hn8 := hc0.2.2.2.2.1
  refine x_aload_n (j := 0) hc dX3_isYear_0 rfl rfl ?_
  refine x_iload_n (j := 1) hc dX3_isYear_1 rfl rfl ?_
  refine x_callS (As := [.int (nI k)]) (st := [.ref m]) hc (m_isPicT l D z e0 L K N I J R k hk) gX3_isYear_X3_isPicture rfl hdS_X3_isPicture ⟨Nat.le_of_ble_eq_true rfl, Nat.le_of_ble_eq_true rfl⟩ rfl rfl ⟨Nat.le_of_ble_eq_true rfl, Nat.le_of_ble_eq_true rfl⟩ (Nat.le_of_ble_eq_true rfl) dX3_isYear_2 (fun v9 I9 J9 hz9 => ?_)
  obtain ⟨rfl, hI9, hJ9⟩ := hz9
  replace hI9 := hI9.symm
  subst hI9
  replace hJ9 := hJ9.symm
  subst hJ9
  refine x_if_ne (tgt := 12) hc dX3_isYear_5 (by decide) (fun _ => ?_) (fun q9 => absurd q9 (by decide))
  refine x_iload_n (j := 2) hc dX3_isYear_12 rfl rfl ?_
  refine x_iconst (v := 0) hc dX3_isYear_13 (by decide) ?_
  refine x_aload_n (j := 0) hc dX3_isYear_14 rfl rfl ?_
  refine x_getI (C := RX3) (T := TX3) (NN := 19) (ci := 4) (ref := "NetPointsModel") hc 7 in_X3_isYear_4 rfl (by decide) lf_X3_isYear_85 (fun _ h9 => h9) hm.1 (by omega) (by decide) rfl dX3_isYear_15 ?_
  refine x_vali (y := nI now) ((hc0.2.1)) ?_
  refine x_callS (As := [.int q, .int 0, .int (nI now)]) (st := [.ref m]) hc (m_inF l D z e0 L K N I J R q 0 (nI now) hq) gX3_isYear_X3_in rfl hdS_X3_in ⟨Nat.le_of_ble_eq_true rfl, Nat.le_of_ble_eq_true rfl⟩ rfl rfl ⟨Nat.le_of_ble_eq_true rfl, Nat.le_of_ble_eq_true rfl⟩ (Nat.le_of_ble_eq_true rfl) dX3_isYear_18 (fun v9 I9 J9 hz9 => ?_)
  obtain ⟨rfl, hI9, hJ9⟩ := hz9
  replace hI9 := hI9.symm
  subst hI9
  replace hJ9 := hJ9.symm
  subst hJ9
  refine x_if_ne (tgt := 28) hc dX3_isYear_21 (by decide) (fun q9 => absurd q9 (by decide)) (fun _ => ?_)
  refine x_iconst (v := 2) hc dX3_isYear_24 (by decide) ?_
  refine x_goto (tgt := 29) hc dX3_isYear_25 (by decide) ?_
  refine x_putI (C := RX3) (T := TX3) (NN := 19) (ci := 4) (ref := "NetPointsModel") hc 18 in_X3_isYear_4 rfl (by decide) lf_X3_isYear_56 (fun _ h9 => h9) tyX3 tyX3_ok nmX3 hm.1 (by omega) (by decide) rfl rfl pd_X3_18 dX3_isYear_29 ?_
  refine x_aload_n (j := 0) hc dX3_isYear_32 rfl rfl ?_
  refine x_getI (C := RX3) (T := TX3) (NN := 19) (ci := 4) (ref := "NetPointsModel") hc 18 in_X3_isYear_4 rfl (by decide) lf_X3_isYear_56 (fun _ h9 => h9) hm.1 (by omega) (by decide) rfl dX3_isYear_33 ?_
  refine x_vali (y := 2) (u2_s) ?_
  refine x_if_ne (tgt := 43) hc dX3_isYear_36 (by decide) (fun _ => ?_) (fun q9 => absurd q9 (by decide))
  refine x_iconst (v := 0) hc dX3_isYear_43 (by decide) ?_
  exact x_zret hc hr rfl (by decide) (by decide) dX3_isYear_44 (⟨rfl, rfl, rfl⟩)
