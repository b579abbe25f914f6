abbrev rm_L_years : Room := { frames := 8, cells := 0, slots := 0, locals := 166 }
set_option maxHeartbeats 4000000 in
set_option maxRecDepth 100000 in
theorem c_years (l : Launch) (D : va_G) (z e0 : Nat) (L : List Nat) (K N : Nat → Nat) (I : Nat → Nat → Int32) (J : Nat → Nat → Int64) (R : Nat → Nat → Option Nat) (x ka pa ma na ea ga st su now n : Nat) (pic : Nat → Nat) (tm : Nat → TM) (rc : Nat → Nat → Nat → Int32) (fe co : Nat → Nat → Int32) (cr : Int32) (sv : Nat → Shr) (pd : Nat → Int32) (H : LW e0 x ka pa ma na ea ga st su L K N I J R now n pic tm rc fe co cr sv pd) (hst : st ≤ 18 ∧ su ≤ 18) : MG l yL_years wsL_years rm_L_years D z e0 L K N I J R [.ref x, .int cr] (fun v I' J' => v = some (.int 1) ∧ I' = I ∧ LW e0 x ka pa ma na ea ga st su L K N I J' R now n pic tm rc fe co cr sv pd) := by
  refine mg_of (own := RL) (maxL := 7) (ret := (some .boolean)) (by decide +kernel) rfl rfl (Nat.le_of_ble_eq_true rfl) ?_
  intro pg ev s mi args below meth c hc hr
  obtain ⟨PF, hPF⟩ : ∃ PF : Nat → Nat → Int32, ∀ k y, Int64.toInt32 (yRun cr (lcon tm rc fe co pic sv n) (y + 1) k).2.2.2.2.2 = PF k y := ⟨_, fun _ _ => rfl⟩
  obtain ⟨BF, hBF⟩ : ∃ BF : Nat → Nat → Int32, ∀ k y, Int64.toInt32 (yRun cr (lcon tm rc fe co pic sv n) (y + 1) k).2.2.2.2.1 = BF k y := ⟨_, fun _ _ => rfl⟩
  obtain ⟨GF, hGF⟩ : ∃ GF : Nat → Int32, ∀ k, Int64.toInt32 (yRun cr (lcon tm rc fe co pic sv n) (now + 1) k).1 = GF k := ⟨_, fun _ => rfl⟩
  obtain ⟨AF, hAF⟩ : ∃ AF : Nat → Int32, ∀ k, Int64.toInt32 (yRun cr (lcon tm rc fe co pic sv n) (now + 1) k).2.1 = AF k := ⟨_, fun _ => rfl⟩
  obtain ⟨FF, hFF⟩ : ∃ FF : Nat → Int32, ∀ k, Int64.toInt32 (yRun cr (lcon tm rc fe co pic sv n) (now + 1) k).2.2.1 = FF k := ⟨_, fun _ => rfl⟩
  have hV := H.2.1
  have hn10 := hV.1
  refine x_iconst (v := 0) hc dL_years_0 (by decide) ?_
  refine x_istore_n (lv' := [(2, .int 0), (0, .ref x), (1, .int cr)]) hc dL_years_1 rfl (by decide) rfl ?_
  have hout : ∀ (d k : Nat) (J1 : Nat → Nat → Int64), k + d = 2 → LW e0 x ka pa ma na ea ga st su L K N I J1 R now n pic tm rc fe co cr sv pd → XW pg l ev rm_L_years s mi args below meth c D z 7 L K N I J1 R 0 0 (MQ below (QG D z L K N R (fun v I' J' => v = some (.int 1) ∧ I' = I ∧ LW e0 x ka pa ma na ea ga st su L K N I J' R now n pic tm rc fe co cr sv pd)) args s (rm_L_years).cells (rm_L_years).slots (fun q => z ≤ q)) 2 [(2, .int (nI k)), (1, .int cr), (0, .ref x)] [] := by
    intro d
    induction d with
    | zero =>
      intro k J1 hk H
      refine x_iload_n (j := 0) hc dL_years_2 rfl rfl ?_
      refine x_iconst (v := 2) hc dL_years_3 (by decide) ?_
      refine x_icmp_ge (tgt := 118) hc dL_years_4 (by decide) (fun _ => ?_) (fun q9 => absurd (nI_le (show 2 ≤ k by omega) (by omega)) q9)
      refine x_iconst (v := 1) hc dL_years_118 (by decide) ?_
      exact x_zret hc hr rfl (by decide) (by decide) dL_years_119 (⟨rfl, rfl, H⟩)
    | succ d ih =>
      intro k J1 hkd H
      have hk : k < 2 := by omega
      obtain ⟨g1, g2, g3⟩ := hV.gafL hst hk (hGF k) (hAF k) (hFF k)
      have hy := fun y (h : y ≤ now) => hV.years hst hk (fun y _ => hPF k y) (fun y _ => hBF k y) h
      refine x_iload_n (j := 0) hc dL_years_2 rfl rfl ?_
      refine x_iconst (v := 2) hc dL_years_3 (by decide) ?_
      refine x_icmp_ge (tgt := 118) hc dL_years_4 (by decide) (fun q9 => absurd q9 (nI_ge hk (by decide))) (fun _ => ?_)
      refine x_iconst (v := 0) hc dL_years_7 (by decide) ?_
      refine x_istore_n (lv' := [(3, .int 0), (2, .int (nI k)), (1, .int cr), (0, .ref x)]) hc dL_years_8 rfl (by decide) rfl ?_
      refine x_iconst (v := 0) hc dL_years_9 (by decide) ?_
      refine x_istore (lv' := [(4, .int 0), (3, .int 0), (2, .int (nI k)), (1, .int cr), (0, .ref x)]) hc dL_years_10 (by decide) rfl ?_
      have hin : ∀ (d2 y : Nat) (J4 : Nat → Nat → Int64), y + d2 = now + 1 → LW e0 x ka pa ma na ea ga st su L K N I J4 R now n pic tm rc fe co cr sv pd → XW pg l ev rm_L_years s mi args below meth c D z 7 L K N I J4 R 0 0 (MQ below (QG D z L K N R (fun v I' J' => v = some (.int 1) ∧ I' = I ∧ LW e0 x ka pa ma na ea ga st su L K N I J' R now n pic tm rc fe co cr sv pd)) args s (rm_L_years).cells (rm_L_years).slots (fun q => z ≤ q)) 12 [(4, .int (nI y)), (3, .int (LY (PF k) y)), (2, .int (nI k)), (1, .int cr), (0, .ref x)] [] := by
        intro d2
        induction d2 with
        | zero =>
          intro y J4 hy0 H
          refine x_iload (j := 0) hc dL_years_12 rfl ?_
          refine x_aload_n (j := 4) hc dL_years_14 rfl rfl ?_
          refine x_callV (C := RX2) (T := TX2) (NN := 5) (ci := 3) (As := []) (st := [.int (nI y)]) hc H.1.1.1 (by omega) (by decide) rfl (a_year (l := l) (D := D) (z := z) H.1) gL_years_X2_year rfl hdV_X2_year ⟨Nat.le_of_ble_eq_true rfl, Nat.le_of_ble_eq_true rfl⟩ rfl rfl ⟨Nat.le_of_ble_eq_true rfl, Nat.le_of_ble_eq_true rfl⟩ (Nat.le_of_ble_eq_true rfl) dL_years_15 (fun v2 I2 J2 hz2 => ?_)
          obtain ⟨rfl, hI2, hj2⟩ := hz2
          replace hI2 := hI2.symm
          subst hI2
          replace H := H.j hj2
          refine x_icmp_gt (tgt := 76) hc dL_years_18 (by decide) (fun _ => ?_) (fun q9 => absurd (nI_lt (show now < y by omega) (by omega)) q9)
          refine x_aload_n (j := 4) hc dL_years_76 rfl rfl ?_
          refine x_iload_n (j := 2) hc dL_years_77 rfl rfl ?_
          refine x_callV (C := RX2) (T := TX2) (NN := 5) (ci := 3) (As := [.int (nI k)]) (st := []) hc H.1.1.1 (by omega) (by decide) rfl (a_adjusted (l := l) (D := D) (z := z) H.1 hk (hAF k)) gL_years_X2_adjusted rfl hdV_X2_adjusted ⟨Nat.le_of_ble_eq_true rfl, Nat.le_of_ble_eq_true rfl⟩ rfl rfl ⟨Nat.le_of_ble_eq_true rfl, Nat.le_of_ble_eq_true rfl⟩ (Nat.le_of_ble_eq_true rfl) dL_years_78 (fun v7 I7 J7 hz7 => ?_)
          obtain ⟨rfl, hI7, hj7⟩ := hz7
          replace hI7 := hI7.symm
          subst hI7
          replace H := H.j hj7
          refine x_aload_n (j := 4) hc dL_years_81 rfl rfl ?_
          refine x_iload_n (j := 2) hc dL_years_82 rfl rfl ?_
          refine x_callV (C := RX2) (T := TX2) (NN := 5) (ci := 3) (As := [.int (nI k)]) (st := [.int (AF k)]) hc H.1.1.1 (by omega) (by decide) rfl (a_gross (l := l) (D := D) (z := z) H.1 hk (hGF k)) gL_years_X2_gross rfl hdV_X2_gross ⟨Nat.le_of_ble_eq_true rfl, Nat.le_of_ble_eq_true rfl⟩ rfl rfl ⟨Nat.le_of_ble_eq_true rfl, Nat.le_of_ble_eq_true rfl⟩ (Nat.le_of_ble_eq_true rfl) dL_years_83 (fun v6 I6 J6 hz6 => ?_)
          obtain ⟨rfl, hI6, hj6⟩ := hz6
          replace hI6 := hI6.symm
          subst hI6
          replace H := H.j hj6
          refine x_icmp_gt (tgt := 110) hc dL_years_86 (by decide) (fun q9 => absurd q9 (g1)) (fun _ => ?_)
          refine x_aload_n (j := 4) hc dL_years_89 rfl rfl ?_
          refine x_iload_n (j := 2) hc dL_years_90 rfl rfl ?_
          refine x_callV (C := RX2) (T := TX2) (NN := 5) (ci := 3) (As := [.int (nI k)]) (st := []) hc H.1.1.1 (by omega) (by decide) rfl (a_fees (l := l) (D := D) (z := z) H.1 hk (hFF k)) gL_years_X2_fees rfl hdV_X2_fees ⟨Nat.le_of_ble_eq_true rfl, Nat.le_of_ble_eq_true rfl⟩ rfl rfl ⟨Nat.le_of_ble_eq_true rfl, Nat.le_of_ble_eq_true rfl⟩ (Nat.le_of_ble_eq_true rfl) dL_years_91 (fun v8 I8 J8 hz8 => ?_)
          obtain ⟨rfl, hI8, hj8⟩ := hz8
          replace hI8 := hI8.symm
          subst hI8
          replace H := H.j hj8
          refine x_aload_n (j := 4) hc dL_years_94 rfl rfl ?_
          refine x_iload_n (j := 2) hc dL_years_95 rfl rfl ?_
          refine x_callV (C := RX2) (T := TX2) (NN := 5) (ci := 3) (As := [.int (nI k)]) (st := [.int (FF k)]) hc H.1.1.1 (by omega) (by decide) rfl (a_gross (l := l) (D := D) (z := z) H.1 hk (hGF k)) gL_years_X2_gross rfl hdV_X2_gross ⟨Nat.le_of_ble_eq_true rfl, Nat.le_of_ble_eq_true rfl⟩ rfl rfl ⟨Nat.le_of_ble_eq_true rfl, Nat.le_of_ble_eq_true rfl⟩ (Nat.le_of_ble_eq_true rfl) dL_years_96 (fun v6 I6 J6 hz6 => ?_)
          obtain ⟨rfl, hI6, hj6⟩ := hz6
          replace hI6 := hI6.symm
          subst hI6
          replace H := H.j hj6
          refine x_icmp_gt (tgt := 110) hc dL_years_99 (by decide) (fun q9 => absurd q9 (g2)) (fun _ => ?_)
          refine x_aload_n (j := 4) hc dL_years_102 rfl rfl ?_
          refine x_iload_n (j := 2) hc dL_years_103 rfl rfl ?_
          refine x_callV (C := RX2) (T := TX2) (NN := 5) (ci := 3) (As := [.int (nI k)]) (st := []) hc H.1.1.1 (by omega) (by decide) rfl (a_fees (l := l) (D := D) (z := z) H.1 hk (hFF k)) gL_years_X2_fees rfl hdV_X2_fees ⟨Nat.le_of_ble_eq_true rfl, Nat.le_of_ble_eq_true rfl⟩ rfl rfl ⟨Nat.le_of_ble_eq_true rfl, Nat.le_of_ble_eq_true rfl⟩ (Nat.le_of_ble_eq_true rfl) dL_years_104 (fun v8 I8 J8 hz8 => ?_)
          obtain ⟨rfl, hI8, hj8⟩ := hz8
          replace hI8 := hI8.symm
          subst hI8
          replace H := H.j hj8
          refine x_if_ge (tgt := 112) hc dL_years_107 (by decide) (fun _ => ?_) (fun q9 => absurd (Int32.not_lt.mp g3) q9)
          refine x_iinc (j := 2) (v := nI (k + 1)) (lv' := [(2, .int (nI (k + 1))), (4, .int (nI y)), (3, .int (LY (PF k) y)), (1, .int cr), (0, .ref x)]) hc dL_years_112 rfl (nI_1 k) (by decide) rfl ?_
          refine x_goto (tgt := 2) hc dL_years_115 (by decide) ?_
          refine x_sub [0, 3, 4] rfl ?_
          exact ih (k + 1) _ (by omega) H
        | succ d2 ih2 =>
          intro y J4 hyd H
          have hyn : y ≤ now := by omega
          obtain ⟨y1, y2, y3⟩ := hy y hyn
          refine x_iload (j := 0) hc dL_years_12 rfl ?_
          refine x_aload_n (j := 4) hc dL_years_14 rfl rfl ?_
          refine x_callV (C := RX2) (T := TX2) (NN := 5) (ci := 3) (As := []) (st := [.int (nI y)]) hc H.1.1.1 (by omega) (by decide) rfl (a_year (l := l) (D := D) (z := z) H.1) gL_years_X2_year rfl hdV_X2_year ⟨Nat.le_of_ble_eq_true rfl, Nat.le_of_ble_eq_true rfl⟩ rfl rfl ⟨Nat.le_of_ble_eq_true rfl, Nat.le_of_ble_eq_true rfl⟩ (Nat.le_of_ble_eq_true rfl) dL_years_15 (fun v2 I2 J2 hz2 => ?_)
          obtain ⟨rfl, hI2, hj2⟩ := hz2
          replace hI2 := hI2.symm
          subst hI2
          replace H := H.j hj2
          refine x_icmp_gt (tgt := 76) hc dL_years_18 (by decide) (fun q9 => absurd q9 (nI_nlt hyn (by omega))) (fun _ => ?_)
          refine x_aload_n (j := 4) hc dL_years_21 rfl rfl ?_
          refine x_iload_n (j := 2) hc dL_years_22 rfl rfl ?_
          refine x_iload (j := 0) hc dL_years_23 rfl ?_
          refine x_callV (C := RX2) (T := TX2) (NN := 5) (ci := 3) (As := [.int (nI k), .int (nI y)]) (st := []) hc H.1.1.1 (by omega) (by decide) rfl (a_profit (l := l) (D := D) (z := z) H.1 hk hyn (hPF k y)) gL_years_X2_profit rfl hdV_X2_profit ⟨Nat.le_of_ble_eq_true rfl, Nat.le_of_ble_eq_true rfl⟩ rfl rfl ⟨Nat.le_of_ble_eq_true rfl, Nat.le_of_ble_eq_true rfl⟩ (Nat.le_of_ble_eq_true rfl) dL_years_25 (fun v3 I3 J3 hz3 => ?_)
          obtain ⟨rfl, hI3, hj3⟩ := hz3
          replace hI3 := hI3.symm
          subst hI3
          replace H := H.j hj3
          refine x_istore (lv' := [(5, .int (PF k y)), (4, .int (nI y)), (3, .int (LY (PF k) y)), (2, .int (nI k)), (1, .int cr), (0, .ref x)]) hc dL_years_28 (by decide) rfl ?_
          refine x_aload_n (j := 5) hc dL_years_30 rfl rfl ?_
          refine x_iload_n (j := 3) hc dL_years_31 rfl rfl ?_
          refine x_iload (j := 1) hc dL_years_32 rfl ?_
          refine x_callV (C := RX2) (T := TX2) (NN := 5) (ci := 3) (As := [.int (nI k), .int (nI y)]) (st := []) hc H.1.1.1 (by omega) (by decide) rfl (a_balance (l := l) (D := D) (z := z) H.1 hk hyn (hBF k y)) gL_years_X2_balance rfl hdV_X2_balance ⟨Nat.le_of_ble_eq_true rfl, Nat.le_of_ble_eq_true rfl⟩ rfl rfl ⟨Nat.le_of_ble_eq_true rfl, Nat.le_of_ble_eq_true rfl⟩ (Nat.le_of_ble_eq_true rfl) dL_years_34 (fun v5 I5 J5 hz5 => ?_)
          obtain ⟨rfl, hI5, hj5⟩ := hz5
          replace hI5 := hI5.symm
          subst hI5
          replace H := H.j hj5
          refine x_istore (lv' := [(6, .int (BF k y)), (5, .int (PF k y)), (4, .int (nI y)), (3, .int (LY (PF k) y)), (2, .int (nI k)), (1, .int cr), (0, .ref x)]) hc dL_years_37 (by decide) rfl ?_
          refine x_iload (j := 0) hc dL_years_39 rfl ?_
          refine x_if_lt (tgt := 65) hc dL_years_41 (by decide) (fun q9 => absurd q9 (y1)) (fun _ => ?_)
          refine x_iload (j := 1) hc dL_years_44 rfl ?_
          refine x_iload_n (j := 3) hc dL_years_46 rfl rfl ?_
          refine x_icmp_lt (tgt := 65) hc dL_years_47 (by decide) (fun q9 => absurd q9 (y2)) (fun _ => ?_)
          refine x_iload_n (j := 5) hc dL_years_50 rfl rfl ?_
          refine x_if_ne (tgt := 67) hc dL_years_51 (by decide) (fun q1 => ?_) (fun q1 => ?_)
          · refine x_iload (j := 1) hc dL_years_67 rfl ?_
            refine x_istore_n (lv' := [(3, .int (PF k y)), (6, .int (BF k y)), (5, .int (PF k y)), (4, .int (nI y)), (2, .int (nI k)), (1, .int cr), (0, .ref x)]) hc dL_years_69 rfl (by decide) rfl ?_
            refine x_iinc (j := 3) (v := nI (y + 1)) (lv' := [(4, .int (nI (y + 1))), (3, .int (PF k y)), (6, .int (BF k y)), (5, .int (PF k y)), (2, .int (nI k)), (1, .int cr), (0, .ref x)]) hc dL_years_70 rfl (nI_1 y) (by decide) rfl ?_
            refine x_goto (tgt := 12) hc dL_years_73 (by decide) ?_
            refine x_sub [0, 1, 4, 5, 6] rfl ?_
            exact ih2 (y + 1) _ (by omega) H
          · refine x_iload (j := 1) hc dL_years_54 rfl ?_
            refine x_iload_n (j := 3) hc dL_years_56 rfl rfl ?_
            refine x_icmp_le (tgt := 67) hc dL_years_57 (by decide) (fun q2 => ?_) (fun q2 => ?_)
            · refine x_iload (j := 1) hc dL_years_67 rfl ?_
              refine x_istore_n (lv' := [(3, .int (PF k y)), (6, .int (BF k y)), (5, .int (PF k y)), (4, .int (nI y)), (2, .int (nI k)), (1, .int cr), (0, .ref x)]) hc dL_years_69 rfl (by decide) rfl ?_
              refine x_iinc (j := 3) (v := nI (y + 1)) (lv' := [(4, .int (nI (y + 1))), (3, .int (PF k y)), (6, .int (BF k y)), (5, .int (PF k y)), (2, .int (nI k)), (1, .int cr), (0, .ref x)]) hc dL_years_70 rfl (nI_1 y) (by decide) rfl ?_
              refine x_goto (tgt := 12) hc dL_years_73 (by decide) ?_
              refine x_sub [0, 1, 4, 5, 6] rfl ?_
              exact ih2 (y + 1) _ (by omega) H
            · refine x_iload (j := 0) hc dL_years_60 rfl ?_
              refine x_if_eq (tgt := 67) hc dL_years_62 (by decide) (fun _ => ?_) (fun q9 => absurd (y3 q1 (Int32.not_le.mp q2)) q9)
              refine x_iload (j := 1) hc dL_years_67 rfl ?_
              refine x_istore_n (lv' := [(3, .int (PF k y)), (6, .int (BF k y)), (5, .int (PF k y)), (4, .int (nI y)), (2, .int (nI k)), (1, .int cr), (0, .ref x)]) hc dL_years_69 rfl (by decide) rfl ?_
              refine x_iinc (j := 3) (v := nI (y + 1)) (lv' := [(4, .int (nI (y + 1))), (3, .int (PF k y)), (6, .int (BF k y)), (5, .int (PF k y)), (2, .int (nI k)), (1, .int cr), (0, .ref x)]) hc dL_years_70 rfl (nI_1 y) (by decide) rfl ?_
              refine x_goto (tgt := 12) hc dL_years_73 (by decide) ?_
              refine x_sub [0, 1, 4, 5, 6] rfl ?_
              exact ih2 (y + 1) _ (by omega) H
      exact hin (now + 1) 0 _ (by omega) H
  refine x_sub [0, 2, 1] rfl ?_
  exact hout 2 0 _ (by omega) H
theorem pd_add (a b : Int32) : a + (b - a) = b := by rw [Int32.add_comm, Int32.sub_add_cancel]
theorem pay_due {S : Int64} {w d : Int32} (h1 : S = w.toInt64) (h2 : 0 ≤ w.toInt) (h3 : 0 ≤ d.toInt) (h : ¬ w - d ≤ 0) : 0 < S - d.toInt64 := by
  have b := r32 w
  have b2 := r32 d
  have q := (not_congr Int32.le_iff_toInt_le).mp h
  rw [s32 (by omega) (by omega)] at q
  have e0 : ((0 : Int32)).toInt = 0 := rfl
  rw [h1]
  apply Int64.lt_iff_toInt_lt.mpr
  rw [s64 (w64 w) (w64 d) (by omega) (by omega)]
  show (0 : Int) < _
  omega
abbrev rm_L_paid : Room := { frames := 8, cells := 0, slots := 0, locals := 189 }
set_option maxHeartbeats 4000000 in
set_option maxRecDepth 100000 in
theorem c_paidL (l : Launch) (D : va_G) (z e0 : Nat) (L : List Nat) (K N : Nat → Nat) (I : Nat → Nat → Int32) (J : Nat → Nat → Int64) (R : Nat → Nat → Option Nat) (x ka pa ma na ea ga st su now n : Nat) (pic : Nat → Nat) (tm : Nat → TM) (rc : Nat → Nat → Nat → Int32) (fe co : Nat → Nat → Int32) (cr : Int32) (sv : Nat → Shr) (pd : Nat → Int32) (H : LW e0 x ka pa ma na ea ga st su L K N I J R now n pic tm rc fe co cr sv pd) (hst : st ≤ 18 ∧ su ≤ 18) : MG l yL_paid wsL_paid rm_L_paid D z e0 L K N I J R [.ref x, .ref na, .ref ea] (fun v I' J' => v = some (.int 1) ∧ ∃ pd1, LW e0 x ka pa ma na ea ga st su L K N I' J' R now n pic tm rc fe co cr sv pd1) := by
  refine mg_of (own := RL) (maxL := 5) (ret := (some .boolean)) (by decide +kernel) rfl rfl (Nat.le_of_ble_eq_true rfl) ?_
  intro pg ev s mi args below meth c hc hr
  obtain ⟨SM, hSM0⟩ : ∃ SM : Nat → Int32, SM = (fun j => Int64.toInt32 (sumL tm rc fe co cr pic sv n now j)) := ⟨_, rfl⟩
  have hSM : ∀ j, j < n → Int64.toInt32 (sumL tm rc fe co cr pic sv n now j) = SM j := fun j _ => by rw [hSM0]
  have hV := H.2.1
  have hn8 := hV.2.1
  have hn10 := hV.1
  have hsw : ∀ j, j < n → sumL tm rc fe co cr pic sv n now j = (SM j).toInt64 ∧ 0 ≤ (SM j).toInt := fun j hj => by
    have e := (hV.sm0 hst hj).1
    have s := hV.sum hst hj
    rw [hSM j hj] at e
    exact ⟨Int64.toInt_inj.mp (by rw [w64, e]), by omega⟩
  refine x_iconst (v := 0) hc dL_paid_0 (by decide) ?_
  refine x_istore_n (lv' := [(3, .int 0), (0, .ref x), (1, .ref na), (2, .ref ea)]) hc dL_paid_1 rfl (by decide) rfl ?_
  have hout : ∀ (d j : Nat) (I1 : Nat → Nat → Int32) (J1 : Nat → Nat → Int64) (pd : Nat → Int32), j + d = n → LW e0 x ka pa ma na ea ga st su L K N I1 J1 R now n pic tm rc fe co cr sv pd → XW pg l ev rm_L_paid s mi args below meth c D z 5 L K N I1 J1 R 0 0 (MQ below (QG D z L K N R (fun v I' J' => v = some (.int 1) ∧ ∃ pd1, LW e0 x ka pa ma na ea ga st su L K N I' J' R now n pic tm rc fe co cr sv pd1)) args s (rm_L_paid).cells (rm_L_paid).slots (fun q => z ≤ q)) 2 [(3, .int (nI j)), (2, .ref ea), (1, .ref na), (0, .ref x)] [] := by
    intro d
    induction d with
    | zero =>
      intro j I1 J1 pd hj0 H
      refine x_iload_n (j := 0) hc dL_paid_2 rfl rfl ?_
      refine x_aload_n (j := 2) hc dL_paid_3 rfl rfl ?_
      refine x_iconst (v := 0) hc dL_paid_4 (by decide) ?_
      refine x_iald hc H.2.2.1.2.2.2.1 (by decide) rfl (by decide) (by omega) dL_paid_5 ?_
      refine x_vali (H.2.2.2.1) ?_
      refine x_icmp_ge (tgt := 103) hc dL_paid_6 (by decide) (fun _ => ?_) (fun q9 => absurd (nI_le (show n ≤ j by omega) (by omega)) q9)
      refine x_iconst (v := 1) hc dL_paid_103 (by decide) ?_
      exact x_zret hc hr rfl (by decide) (by decide) dL_paid_104 (⟨rfl, pd, H⟩)
    | succ d ih =>
      intro j I1 J1 pd hjd H
      have hj : j < n := by omega
      have hj8 : j < 8 := by omega
      have hkd := (hV.2.2.2.2.2.2.2.1 j hj).2.2.1
      have hIe := (H.2.2.2.2.1 j hj).2.2.2
      refine x_iload_n (j := 0) hc dL_paid_2 rfl rfl ?_
      refine x_aload_n (j := 2) hc dL_paid_3 rfl rfl ?_
      refine x_iconst (v := 0) hc dL_paid_4 (by decide) ?_
      refine x_iald hc H.2.2.1.2.2.2.1 (by decide) rfl (by decide) (by omega) dL_paid_5 ?_
      refine x_vali (H.2.2.2.1) ?_
      refine x_icmp_ge (tgt := 103) hc dL_paid_6 (by decide) (fun q9 => absurd q9 (nI_ge hj (by omega))) (fun _ => ?_)
      have hV0 : ∀ i, i < n → 0 ≤ (pd i).toInt := H.2.1.2.2.2.2.2.2.2.2
      refine x_aload_n (j := 3) hc dL_paid_9 rfl rfl ?_
      refine x_iload_n (j := 0) hc dL_paid_10 rfl rfl ?_
      refine x_callV (C := RX2) (T := TX2) (NN := 5) (ci := 3) (As := [.int (nI j)]) (st := []) hc H.1.1.1 (by omega) (by decide) rfl (a_owed (l := l) (D := D) (z := z) H.1 hj hkd (by rw [hSM j hj])) gL_paid_X2_owed rfl hdV_X2_owed ⟨Nat.le_of_ble_eq_true rfl, Nat.le_of_ble_eq_true rfl⟩ rfl rfl ⟨Nat.le_of_ble_eq_true rfl, Nat.le_of_ble_eq_true rfl⟩ (Nat.le_of_ble_eq_true rfl) dL_paid_11 (fun v2 I2 J2 hz2 => ?_)
      obtain ⟨rfl, hI2, hj2⟩ := hz2
      replace hI2 := hI2.symm
      subst hI2
      replace H := H.j hj2
      refine x_istore (lv' := [(4, .int (SM j - pd j)), (3, .int (nI j)), (2, .ref ea), (1, .ref na), (0, .ref x)]) hc dL_paid_14 (by decide) rfl ?_
      refine x_aload_n (j := 4) hc dL_paid_16 rfl rfl ?_
      refine x_iload_n (j := 1) hc dL_paid_17 rfl rfl ?_
      refine x_callV (C := RX2) (T := TX2) (NN := 5) (ci := 3) (As := [.int (nI j)]) (st := []) hc H.1.1.1 (by omega) (by decide) rfl (a_paid (l := l) (D := D) (z := z) H.1 hj hkd) gL_paid_X2_paid rfl hdV_X2_paid ⟨Nat.le_of_ble_eq_true rfl, Nat.le_of_ble_eq_true rfl⟩ rfl rfl ⟨Nat.le_of_ble_eq_true rfl, Nat.le_of_ble_eq_true rfl⟩ (Nat.le_of_ble_eq_true rfl) dL_paid_18 (fun v3 I3 J3 hz3 => ?_)
      obtain ⟨rfl, hI3, hj3⟩ := hz3
      replace hI3 := hI3.symm
      subst hI3
      replace H := H.j hj3
      refine x_aload_n (j := 2) hc dL_paid_21 rfl rfl ?_
      refine x_iload_n (j := 1) hc dL_paid_22 rfl rfl ?_
      refine x_iald hc H.2.2.1.2.2.2.2.1 (by decide) rfl hj8 (by omega) dL_paid_23 ?_
      refine x_vali (hIe) ?_
      refine x_icmp_ne (tgt := 41) hc dL_paid_24 (by decide) (fun q9 => absurd q9 (fun h => h rfl)) (fun _ => ?_)
      refine x_iload (j := 0) hc dL_paid_27 rfl ?_
      refine x_aload_n (j := 4) hc dL_paid_29 rfl rfl ?_
      refine x_iload_n (j := 1) hc dL_paid_30 rfl rfl ?_
      refine x_callV (C := RX2) (T := TX2) (NN := 5) (ci := 3) (As := [.int (nI j)]) (st := [.int (SM j - pd j)]) hc H.1.1.1 (by omega) (by decide) rfl (a_sum (l := l) (D := D) (z := z) H.1 hj hkd (hSM j hj)) gL_paid_X2_sum rfl hdV_X2_sum ⟨Nat.le_of_ble_eq_true rfl, Nat.le_of_ble_eq_true rfl⟩ rfl rfl ⟨Nat.le_of_ble_eq_true rfl, Nat.le_of_ble_eq_true rfl⟩ (Nat.le_of_ble_eq_true rfl) dL_paid_31 (fun v4 I4 J4 hz4 => ?_)
      obtain ⟨rfl, hI4, hj4⟩ := hz4
      replace hI4 := hI4.symm
      subst hI4
      replace H := H.j hj4
      refine x_aload_n (j := 2) hc dL_paid_34 rfl rfl ?_
      refine x_iload_n (j := 1) hc dL_paid_35 rfl rfl ?_
      refine x_iald hc H.2.2.1.2.2.2.2.1 (by decide) rfl hj8 (by omega) dL_paid_36 ?_
      refine x_vali (hIe) ?_
      refine x_isub hc dL_paid_37 ?_
      refine x_icmp_eq (tgt := 43) hc dL_paid_38 (by decide) (fun _ => ?_) (fun q9 => absurd (rfl) q9)
      refine x_iload (j := 0) hc dL_paid_43 rfl ?_
      refine x_if_le (tgt := 97) hc dL_paid_45 (by decide) (fun q1 => ?_) (fun q1 => ?_)
      · refine x_iinc (j := 1) (v := nI (j + 1)) (lv' := [(3, .int (nI (j + 1))), (4, .int (SM j - pd j)), (2, .ref ea), (1, .ref na), (0, .ref x)]) hc dL_paid_97 rfl (nI_1 j) (by decide) rfl ?_
        refine x_goto (tgt := 2) hc dL_paid_100 (by decide) ?_
        refine x_sub [0, 2, 3, 4] rfl ?_
        exact ih (j + 1) _ _ _ (by omega) H
      · refine x_iload_n (j := 1) hc dL_paid_48 rfl rfl ?_
        refine x_iconst (v := 2) hc dL_paid_49 (by decide) ?_
        refine x_irem hc (by decide) dL_paid_50 ?_
        refine x_iconst (v := 1) hc dL_paid_51 (by decide) ?_
        refine x_icmp_ne (tgt := 58) hc dL_paid_52 (by decide) (fun q2 => ?_) (fun q2 => ?_)
        · have hpd := hV0 j hj
          have hs := hsw j hj
          refine x_aload_n (j := 2) hc dL_paid_58 rfl rfl ?_
          refine x_iload_n (j := 1) hc dL_paid_59 rfl rfl ?_
          refine x_dup2 hc dL_paid_60 rfl rfl ?_
          refine x_iald hc H.2.2.1.2.2.2.2.1 (by decide) rfl hj8 (by omega) dL_paid_61 ?_
          refine x_vali (hIe) ?_
          refine x_iload (j := 0) hc dL_paid_62 rfl ?_
          refine x_iadd hc dL_paid_64 ?_
          refine x_vali (pd_add (pd j) (SM j)) ?_
          refine x_iast hc H.2.2.1.2.2.2.2.1 (by decide) rfl hj8 (by omega) dL_paid_65 ?_
          have hA := H.2.2.1.2.2.2.2.1
          have C2 := H.1.arr (i := j) (v := SM j) hA (by omega)
          refine x_aload_n (j := 4) hc dL_paid_66 rfl rfl ?_
          refine x_iload_n (j := 1) hc dL_paid_67 rfl rfl ?_
          refine x_callV (C := RX2) (T := TX2) (NN := 5) (ci := 3) (As := [.int (nI j)]) (st := []) hc C2.1.1 (by omega) (by decide) rfl (a_pay (l := l) (D := D) (z := z) C2 hj hkd (v := SM j - pd j) (w := SM j) (pay_due hs.1 hs.2 hpd q1) (by rw [hSM j hj]) hs.1) gL_paid_X2_pay rfl hdV_X2_pay ⟨Nat.le_of_ble_eq_true rfl, Nat.le_of_ble_eq_true rfl⟩ rfl rfl ⟨Nat.le_of_ble_eq_true rfl, Nat.le_of_ble_eq_true rfl⟩ (Nat.le_of_ble_eq_true rfl) dL_paid_68 (fun v5 I5 J5 hz5 => ?_)
          obtain ⟨rfl, hI5, C3⟩ := hz5
          replace hI5 := hI5.symm
          subst hI5
          replace H := H.paid hj hs.2 C3
          refine x_iload (j := 0) hc dL_paid_71 rfl ?_
          refine x_icmp_ne (tgt := 95) hc dL_paid_73 (by decide) (fun q9 => absurd q9 (fun h => h rfl)) (fun _ => ?_)
          have epd : (fun a => if a = j then SM j else pd a) j = SM j := if_pos rfl
          refine x_aload_n (j := 4) hc dL_paid_76 rfl rfl ?_
          refine x_iload_n (j := 1) hc dL_paid_77 rfl rfl ?_
          refine x_callV (C := RX2) (T := TX2) (NN := 5) (ci := 3) (As := [.int (nI j)]) (st := []) hc H.1.1.1 (by omega) (by decide) rfl (a_owed (l := l) (D := D) (z := z) (v := 0) H.1 hj hkd (by rw [hSM j hj, if_pos rfl]; exact i32_sub_self _)) gL_paid_X2_owed rfl hdV_X2_owed ⟨Nat.le_of_ble_eq_true rfl, Nat.le_of_ble_eq_true rfl⟩ rfl rfl ⟨Nat.le_of_ble_eq_true rfl, Nat.le_of_ble_eq_true rfl⟩ (Nat.le_of_ble_eq_true rfl) dL_paid_78 (fun v6 I6 J6 hz6 => ?_)
          obtain ⟨rfl, hI6, hj6⟩ := hz6
          replace hI6 := hI6.symm
          subst hI6
          replace H := H.j hj6
          refine x_if_ne (tgt := 95) hc dL_paid_81 (by decide) (fun q9 => absurd q9 (fun h => h rfl)) (fun _ => ?_)
          refine x_aload_n (j := 4) hc dL_paid_84 rfl rfl ?_
          refine x_iload_n (j := 1) hc dL_paid_85 rfl rfl ?_
          refine x_callV (C := RX2) (T := TX2) (NN := 5) (ci := 3) (As := [.int (nI j)]) (st := []) hc H.1.1.1 (by omega) (by decide) rfl (a_paid (l := l) (D := D) (z := z) H.1 hj hkd) gL_paid_X2_paid rfl hdV_X2_paid ⟨Nat.le_of_ble_eq_true rfl, Nat.le_of_ble_eq_true rfl⟩ rfl rfl ⟨Nat.le_of_ble_eq_true rfl, Nat.le_of_ble_eq_true rfl⟩ (Nat.le_of_ble_eq_true rfl) dL_paid_86 (fun v7 I7 J7 hz7 => ?_)
          obtain ⟨rfl, hI7, hj7⟩ := hz7
          replace hI7 := hI7.symm
          subst hI7
          replace H := H.j hj7
          refine x_vali (epd) ?_
          refine x_aload_n (j := 2) hc dL_paid_89 rfl rfl ?_
          refine x_iload_n (j := 1) hc dL_paid_90 rfl rfl ?_
          refine x_iald hc H.2.2.1.2.2.2.2.1 (by decide) rfl hj8 (by omega) dL_paid_91 ?_
          refine x_vali (u2_s) ?_
          refine x_icmp_eq (tgt := 97) hc dL_paid_92 (by decide) (fun _ => ?_) (fun q9 => absurd (rfl) q9)
          refine x_iinc (j := 1) (v := nI (j + 1)) (lv' := [(3, .int (nI (j + 1))), (4, .int (SM j - pd j)), (2, .ref ea), (1, .ref na), (0, .ref x)]) hc dL_paid_97 rfl (nI_1 j) (by decide) rfl ?_
          refine x_goto (tgt := 2) hc dL_paid_100 (by decide) ?_
          refine x_sub [0, 2, 3, 4] rfl ?_
          exact ih (j + 1) _ _ _ (by omega) H
        · refine x_goto (tgt := 97) hc dL_paid_55 (by decide) ?_
          refine x_iinc (j := 1) (v := nI (j + 1)) (lv' := [(3, .int (nI (j + 1))), (4, .int (SM j - pd j)), (2, .ref ea), (1, .ref na), (0, .ref x)]) hc dL_paid_97 rfl (nI_1 j) (by decide) rfl ?_
          refine x_goto (tgt := 2) hc dL_paid_100 (by decide) ?_
          refine x_sub [0, 2, 3, 4] rfl ?_
          exact ih (j + 1) _ _ _ (by omega) H
  refine x_sub [0, 3, 2, 1] rfl ?_
  exact hout n 0 _ _ _ (by omega) H
