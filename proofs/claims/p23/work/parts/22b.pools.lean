abbrev rm_L_cell : Room := { frames := 0, cells := 0, slots := 0, locals := 0 }
set_option maxHeartbeats 4000000 in
set_option maxRecDepth 100000 in
theorem c_cell (l : Launch) (D : va_G) (z e0 : Nat) (L : List Nat) (K N : Nat → Nat) (I : Nat → Nat → Int32) (J : Nat → Nat → Int64) (R : Nat → Nat → Option Nat) (b Ln : Nat) (xs : Nat → Int32) (hLn : Ln ≤ 260) (kk : Nat) (hk : kk < 2 ^ 31) : MGX b Ln xs l yL_cell wsL_cell rm_L_cell D z e0 L K N I J R [.ref b, .int (nI kk)] (fun v I' J' => (∃ r, v = some (.int r)) ∧ I' = I ∧ J' = J) := by
  refine mgx_of (own := RL) (maxL := 2) (ret := (some .int)) (by decide +kernel) rfl rfl (Nat.le_of_ble_eq_true rfl) ?_
  intro pg ev s mi args below meth c hc hXs hbl hbz hr
  refine x_iload_n (j := 1) hc dL_cell_0 rfl rfl ?_
  refine x_aload_n (j := 0) hc dL_cell_1 rfl rfl ?_
  refine x_slen hc hXs hbl hbz dL_cell_2 ?_
  refine x_icmp_ge (tgt := 12) hc dL_cell_3 (by decide) (fun q1 => ?_) (fun q1 => ?_)
  · refine x_ldc hc dL_cell_12 lc_L_cell_7 ?_
    refine x_iload_n (j := 1) hc dL_cell_14 rfl rfl ?_
    refine x_iconst (v := 1) hc dL_cell_15 (by decide) ?_
    refine x_iadd hc dL_cell_16 ?_
    refine x_imul hc dL_cell_17 ?_
    exact x_iret hc hr (by decide) (by decide) dL_cell_18 (⟨⟨_, rfl⟩, rfl, rfl⟩)
  · refine x_aload_n (j := 0) hc dL_cell_6 rfl rfl ?_
    refine x_iload_n (j := 1) hc dL_cell_7 rfl rfl ?_
    refine x_sld hc hXs hbl hbz rfl (ge_of q1 hk (by omega)) hLn dL_cell_8 ?_
    refine x_goto (tgt := 18) hc dL_cell_9 (by decide) ?_
    exact x_iret hc hr (by decide) (by decide) dL_cell_18 (⟨⟨_, rfl⟩, rfl, rfl⟩)
abbrev rm_L_at : Room := { frames := 0, cells := 0, slots := 0, locals := 0 }
set_option maxHeartbeats 4000000 in
set_option maxRecDepth 100000 in
theorem c_at (l : Launch) (D : va_G) (z e0 : Nat) (L : List Nat) (K N : Nat → Nat) (I : Nat → Nat → Int32) (J : Nat → Nat → Int64) (R : Nat → Nat → Option Nat) (x y : Int32) (d : Nat) (hn : y = nI d) (h0 : 0 < d) (h1 : d < 2 ^ 31) : MG l yL_at wsL_at rm_L_at D z e0 L K N I J R [.int x, .int y] (fun v I' J' => (∃ a, a < d ∧ v = some (.int (nI a))) ∧ I' = I ∧ J' = J) := by
  refine mg_of (own := RL) (maxL := 2) (ret := (some .int)) (by decide +kernel) rfl rfl (Nat.le_of_ble_eq_true rfl) ?_
  intro pg ev s mi args below meth c hc hr
  have hy : ¬ y = 0 := by rw [hn]; exact nI_ne0 h0 h1
  refine x_iload_n (j := 0) hc dL_at_0 rfl rfl ?_
  refine x_iconst (v := 1) hc dL_at_1 (by decide) ?_
  refine x_iushr1 hc dL_at_2 ?_
  refine x_iload_n (j := 1) hc dL_at_3 rfl rfl ?_
  refine x_irem hc (hy) dL_at_4 ?_
  exact x_iret hc hr (by decide) (by decide) dL_at_5 (⟨(at_ok x hn h0 h1).elim (fun a h => ⟨a, h.1, congrArg (fun t => some (Value.int t)) h.2⟩), rfl, rfl⟩)
abbrev rm_L_pools : Room := { frames := 8, cells := 0, slots := 0, locals := 186 }
set_option maxHeartbeats 4000000 in
set_option maxRecDepth 100000 in
theorem c_pools (l : Launch) (D : va_G) (z e0 : Nat) (L : List Nat) (K N : Nat → Nat) (I : Nat → Nat → Int32) (J : Nat → Nat → Int64) (R : Nat → Nat → Option Nat) (x ka pa ma na ea ga st su now n : Nat) (pic : Nat → Nat) (tm : Nat → TM) (rc : Nat → Nat → Nat → Int32) (fe co : Nat → Nat → Int32) (cr : Int32) (sv : Nat → Shr) (pd : Nat → Int32) (H : LW e0 x ka pa ma na ea ga st su L K N I J R now n pic tm rc fe co cr sv pd) (hst : st ≤ 18 ∧ su ≤ 18) : MG l yL_pools wsL_pools rm_L_pools D z e0 L K N I J R [.ref x, .ref ka, .ref pa, .ref ma, .ref na] (fun v I' J' => v = some (.int 1) ∧ I' = I ∧ LW e0 x ka pa ma na ea ga st su L K N I J' R now n pic tm rc fe co cr sv pd) := by
  refine mg_of (own := RL) (maxL := 10) (ret := (some .boolean)) (by decide +kernel) rfl rfl (Nat.le_of_ble_eq_true rfl) ?_
  intro pg ev s mi args below meth c hc hr
  obtain ⟨SM, hSM0⟩ : ∃ SM : Nat → Int32, SM = (fun j => Int64.toInt32 (sumL tm rc fe co cr pic sv n now j)) := ⟨_, rfl⟩
  have hSM : ∀ j, j < n → Int64.toInt32 (sumL tm rc fe co cr pic sv n now j) = SM j := fun j _ => by rw [hSM0]
  obtain ⟨PF, hPF⟩ : ∃ PF : Nat → Int32, ∀ k, Int64.toInt32 (yRun cr (lcon tm rc fe co pic sv n) (now + 1) k).2.2.2.2.2 = PF k := ⟨_, fun _ => rfl⟩
  have hV := H.2.1
  have hn8 := hV.2.1
  have hn10 := hV.1
  refine x_iconst (v := 0) hc dL_pools_0 (by decide) ?_
  refine x_istore (lv' := [(5, .int 0), (0, .ref x), (1, .ref ka), (2, .ref pa), (3, .ref ma), (4, .ref na)]) hc dL_pools_1 (by decide) rfl ?_
  have hout : ∀ (d k : Nat) (J1 : Nat → Nat → Int64), k + d = 2 → LW e0 x ka pa ma na ea ga st su L K N I J1 R now n pic tm rc fe co cr sv pd → XW pg l ev rm_L_pools s mi args below meth c D z 10 L K N I J1 R 0 0 (MQ below (QG D z L K N R (fun v I' J' => v = some (.int 1) ∧ I' = I ∧ LW e0 x ka pa ma na ea ga st su L K N I J' R now n pic tm rc fe co cr sv pd)) args s (rm_L_pools).cells (rm_L_pools).slots (fun q => z ≤ q)) 3 [(5, .int (nI k)), (4, .ref na), (3, .ref ma), (2, .ref pa), (1, .ref ka), (0, .ref x)] [] := by
    intro d
    induction d with
    | zero =>
      intro k J1 hk H
      refine x_iload (j := 0) hc dL_pools_3 rfl ?_
      refine x_iconst (v := 2) hc dL_pools_5 (by decide) ?_
      refine x_icmp_ge (tgt := 158) hc dL_pools_6 (by decide) (fun _ => ?_) (fun q9 => absurd (nI_le (show 2 ≤ k by omega) (by omega)) q9)
      refine x_iconst (v := 1) hc dL_pools_158 (by decide) ?_
      exact x_zret hc hr rfl (by decide) (by decide) dL_pools_159 (⟨rfl, rfl, H⟩)
    | succ d ih =>
      intro k J1 hkd H
      have hk : k < 2 := by omega
      refine x_iload (j := 0) hc dL_pools_3 rfl ?_
      refine x_iconst (v := 2) hc dL_pools_5 (by decide) ?_
      refine x_icmp_ge (tgt := 158) hc dL_pools_6 (by decide) (fun q9 => absurd q9 (nI_ge hk (by decide))) (fun _ => ?_)
      refine x_aload_n (j := 5) hc dL_pools_9 rfl rfl ?_
      refine x_iload (j := 0) hc dL_pools_10 rfl ?_
      refine x_aload_n (j := 5) hc dL_pools_12 rfl rfl ?_
      refine x_callV (C := RX2) (T := TX2) (NN := 5) (ci := 3) (As := []) (st := [.int (nI k), .ref x]) hc H.1.1.1 (by omega) (by decide) rfl (a_year (l := l) (D := D) (z := z) H.1) gL_pools_X2_year rfl hdV_X2_year ⟨Nat.le_of_ble_eq_true rfl, Nat.le_of_ble_eq_true rfl⟩ rfl rfl ⟨Nat.le_of_ble_eq_true rfl, Nat.le_of_ble_eq_true rfl⟩ (Nat.le_of_ble_eq_true rfl) dL_pools_13 (fun v2 I2 J2 hz2 => ?_)
      obtain ⟨rfl, hI2, hj2⟩ := hz2
      replace hI2 := hI2.symm
      subst hI2
      replace H := H.j hj2
      refine x_callV (C := RX2) (T := TX2) (NN := 5) (ci := 3) (As := [.int (nI k), .int (nI now)]) (st := []) hc H.1.1.1 (by omega) (by decide) rfl (a_profit (l := l) (D := D) (z := z) H.1 hk (Nat.le_refl now) (hPF k)) gL_pools_X2_profit rfl hdV_X2_profit ⟨Nat.le_of_ble_eq_true rfl, Nat.le_of_ble_eq_true rfl⟩ rfl rfl ⟨Nat.le_of_ble_eq_true rfl, Nat.le_of_ble_eq_true rfl⟩ (Nat.le_of_ble_eq_true rfl) dL_pools_16 (fun v3 I3 J3 hz3 => ?_)
      obtain ⟨rfl, hI3, hj3⟩ := hz3
      replace hI3 := hI3.symm
      subst hI3
      replace H := H.j hj3
      refine x_istore (lv' := [(6, .int (PF k)), (5, .int (nI k)), (4, .ref na), (3, .ref ma), (2, .ref pa), (1, .ref ka), (0, .ref x)]) hc dL_pools_19 (by decide) rfl ?_
      refine x_iconst (v := 0) hc dL_pools_21 (by decide) ?_
      refine x_istore (lv' := [(7, .int 0), (6, .int (PF k)), (5, .int (nI k)), (4, .ref na), (3, .ref ma), (2, .ref pa), (1, .ref ka), (0, .ref x)]) hc dL_pools_22 (by decide) rfl ?_
      refine x_iconst (v := 0) hc dL_pools_24 (by decide) ?_
      refine x_istore (lv' := [(8, .int 0), (7, .int 0), (6, .int (PF k)), (5, .int (nI k)), (4, .ref na), (3, .ref ma), (2, .ref pa), (1, .ref ka), (0, .ref x)]) hc dL_pools_25 (by decide) rfl ?_
      have hin : ∀ (d2 j : Nat) (J4 : Nat → Nat → Int64), j + d2 = n → LW e0 x ka pa ma na ea ga st su L K N I J4 R now n pic tm rc fe co cr sv pd → XW pg l ev rm_L_pools s mi args below meth c D z 10 L K N I J4 R 0 0 (MQ below (QG D z L K N R (fun v I' J' => v = some (.int 1) ∧ I' = I ∧ LW e0 x ka pa ma na ea ga st su L K N I J' R now n pic tm rc fe co cr sv pd)) args s (rm_L_pools).cells (rm_L_pools).slots (fun q => z ≤ q)) 27 [(8, .int (nI j)), (7, .int (NF pic sv SM k j)), (6, .int (LF pic sv SM (PF k) k j)), (5, .int (nI k)), (4, .ref na), (3, .ref ma), (2, .ref pa), (1, .ref ka), (0, .ref x)] [] := by
        intro d2
        induction d2 with
        | zero =>
          intro j J4 hj0 H
          have hj9 : j = n := by omega
          subst hj9
          obtain ⟨p1, p2, p3⟩ := hV.pools hst hk hSM (hPF k)
          refine x_iload (j := 0) hc dL_pools_27 rfl ?_
          refine x_aload (j := 4) hc dL_pools_29 rfl ?_
          refine x_iconst (v := 0) hc dL_pools_31 (by decide) ?_
          refine x_iald hc H.2.2.1.2.2.2.1 (by decide) rfl (by decide) (by omega) dL_pools_32 ?_
          refine x_vali (H.2.2.2.1) ?_
          refine x_icmp_ge (tgt := 127) hc dL_pools_33 (by decide) (fun _ => ?_) (fun q9 => absurd (Int32.le_refl _) q9)
          refine x_aload_n (j := 8) hc dL_pools_127 rfl rfl ?_
          refine x_iload (j := 3) hc dL_pools_128 rfl ?_
          refine x_callV (C := RX2) (T := TX2) (NN := 5) (ci := 3) (As := [.int (nI k)]) (st := []) hc H.1.1.1 (by omega) (by decide) rfl (a_pool (l := l) (D := D) (z := z) H.1 hk p1) gL_pools_X2_pool rfl hdV_X2_pool ⟨Nat.le_of_ble_eq_true rfl, Nat.le_of_ble_eq_true rfl⟩ rfl rfl ⟨Nat.le_of_ble_eq_true rfl, Nat.le_of_ble_eq_true rfl⟩ (Nat.le_of_ble_eq_true rfl) dL_pools_130 (fun v6 I6 J6 hz6 => ?_)
          obtain ⟨rfl, hI6, hj6⟩ := hz6
          replace hI6 := hI6.symm
          subst hI6
          replace H := H.j hj6
          refine x_iload (j := 2) hc dL_pools_133 rfl ?_
          refine x_icmp_ne (tgt := 150) hc dL_pools_135 (by decide) (fun q9 => absurd q9 (fun h => h rfl)) (fun _ => ?_)
          refine x_iload (j := 2) hc dL_pools_138 rfl ?_
          refine x_if_lt (tgt := 150) hc dL_pools_140 (by decide) (fun q9 => absurd q9 (p2)) (fun _ => ?_)
          refine x_iload (j := 1) hc dL_pools_143 rfl ?_
          refine x_iload (j := 2) hc dL_pools_145 rfl ?_
          refine x_icmp_le (tgt := 152) hc dL_pools_147 (by decide) (fun _ => ?_) (fun q9 => absurd (Int32.not_lt.mp p3) q9)
          refine x_iinc (j := 3) (v := nI (k + 1)) (lv' := [(5, .int (nI (k + 1))), (8, .int (nI j)), (7, .int (NF pic sv SM k j)), (6, .int (LF pic sv SM (PF k) k j)), (4, .ref na), (3, .ref ma), (2, .ref pa), (1, .ref ka), (0, .ref x)]) hc dL_pools_152 rfl (nI_1 k) (by decide) rfl ?_
          refine x_goto (tgt := 3) hc dL_pools_155 (by decide) ?_
          refine x_sub [0, 4, 5, 6, 7, 8] rfl ?_
          exact ih (k + 1) _ (by omega) H
        | succ d2 ih2 =>
          intro j J4 hjd H
          have hj : j < n := by omega
          have hj8 : j < 8 := by omega
          refine x_iload (j := 0) hc dL_pools_27 rfl ?_
          refine x_aload (j := 4) hc dL_pools_29 rfl ?_
          refine x_iconst (v := 0) hc dL_pools_31 (by decide) ?_
          refine x_iald hc H.2.2.1.2.2.2.1 (by decide) rfl (by decide) (by omega) dL_pools_32 ?_
          refine x_vali (H.2.2.2.1) ?_
          refine x_icmp_ge (tgt := 127) hc dL_pools_33 (by decide) (fun q9 => absurd q9 (nI_ge hj (by omega))) (fun _ => ?_)
          by_cases hp : pic j = k
          · have hs0 : ¬ SM j < 0 := by rw [← hSM j hj]; exact (hV.sm0 hst hj).2
            by_cases hk1 : (sv j).1 = 1
            · have hk2 : ¬ (sv j).1 = 2 := fun h => absurd (hk1.symm.trans h) (by decide)
              refine x_aload_n (j := 6) hc dL_pools_36 rfl rfl ?_
              refine x_iload (j := 0) hc dL_pools_37 rfl ?_
              refine x_iald hc H.2.2.1.2.1 (by decide) rfl hj8 (by omega) dL_pools_39 ?_
              refine x_vali ((H.2.2.2.2.1 j hj).2.1) ?_
              refine x_iload (j := 3) hc dL_pools_40 rfl ?_
              refine x_icmp_eq (tgt := 48) hc dL_pools_42 (by decide) (fun _ => ?_) (fun q9 => absurd (by rw [hp]) q9)
              refine x_aload_n (j := 8) hc dL_pools_48 rfl rfl ?_
              refine x_iload (j := 0) hc dL_pools_49 rfl ?_
              refine x_callV (C := RX2) (T := TX2) (NN := 5) (ci := 3) (As := [.int (nI j)]) (st := []) hc H.1.1.1 (by omega) (by decide) rfl (a_sum (l := l) (D := D) (z := z) H.1 hj (hV.2.2.2.2.2.2.2.1 j hj).2.2.1 (hSM j hj)) gL_pools_X2_sum rfl hdV_X2_sum ⟨Nat.le_of_ble_eq_true rfl, Nat.le_of_ble_eq_true rfl⟩ rfl rfl ⟨Nat.le_of_ble_eq_true rfl, Nat.le_of_ble_eq_true rfl⟩ (Nat.le_of_ble_eq_true rfl) dL_pools_51 (fun v5 I5 J5 hz5 => ?_)
              obtain ⟨rfl, hI5, hj5⟩ := hz5
              replace hI5 := hI5.symm
              subst hI5
              replace H := H.j hj5
              refine x_istore (lv' := [(9, .int (SM j)), (8, .int (nI j)), (7, .int (NF pic sv SM k j)), (6, .int (LF pic sv SM (PF k) k j)), (5, .int (nI k)), (4, .ref na), (3, .ref ma), (2, .ref pa), (1, .ref ka), (0, .ref x)]) hc dL_pools_54 (by decide) rfl ?_
              refine x_iload (j := 0) hc dL_pools_56 rfl ?_
              refine x_if_ge (tgt := 63) hc dL_pools_58 (by decide) (fun _ => ?_) (fun q9 => absurd (Int32.not_lt.mp hs0) q9)
              refine x_aload_n (j := 8) hc dL_pools_63 rfl rfl ?_
              refine x_iload (j := 1) hc dL_pools_64 rfl ?_
              refine x_iald hc H.2.2.1.1 (by decide) rfl hj8 (by omega) dL_pools_66 ?_
              refine x_vali ((H.2.2.2.2.1 j hj).1) ?_
              refine x_iconst (v := 1) hc dL_pools_67 (by decide) ?_
              refine x_icmp_ne (tgt := 78) hc dL_pools_68 (by decide) (fun q9 => absurd q9 (fun h => h hk1)) (fun _ => ?_)
              refine x_iload (j := 2) hc dL_pools_71 rfl ?_
              refine x_iload (j := 0) hc dL_pools_73 rfl ?_
              refine x_iadd hc dL_pools_75 ?_
              refine x_istore (lv' := [(7, .int ((NF pic sv SM k j) + (SM j))), (9, .int (SM j)), (8, .int (nI j)), (6, .int (LF pic sv SM (PF k) k j)), (5, .int (nI k)), (4, .ref na), (3, .ref ma), (2, .ref pa), (1, .ref ka), (0, .ref x)]) hc dL_pools_76 (by decide) rfl ?_
              refine x_aload_n (j := 8) hc dL_pools_78 rfl rfl ?_
              refine x_iload (j := 2) hc dL_pools_79 rfl ?_
              refine x_iald hc H.2.2.1.1 (by decide) rfl hj8 (by omega) dL_pools_81 ?_
              refine x_vali ((H.2.2.2.2.1 j hj).1) ?_
              refine x_iconst (v := 2) hc dL_pools_82 (by decide) ?_
              refine x_icmp_eq (tgt := 89) hc dL_pools_83 (by decide) (fun q9 => absurd q9 (hk2)) (fun _ => ?_)
              refine x_goto (tgt := 121) hc dL_pools_86 (by decide) ?_
              refine x_iinc (j := 2) (v := nI (j + 1)) (lv' := [(8, .int (nI (j + 1))), (7, .int ((NF pic sv SM k j) + (SM j))), (9, .int (SM j)), (6, .int (LF pic sv SM (PF k) k j)), (5, .int (nI k)), (4, .ref na), (3, .ref ma), (2, .ref pa), (1, .ref ka), (0, .ref x)]) hc dL_pools_121 rfl (nI_1 j) (by decide) rfl ?_
              refine x_goto (tgt := 27) hc dL_pools_124 (by decide) ?_
              refine x_sub [0, 1, 3, 4, 5, 6, 7, 8, 9] rfl ?_
              have e7 : (NF pic sv SM k j) + (SM j) = NF pic sv SM k (j + 1) := (if_pos ⟨hp, hk1⟩).symm
              have e6 : LF pic sv SM (PF k) k j = LF pic sv SM (PF k) k (j + 1) := (if_neg (fun q => hk2 q.2)).symm
              rw [e7, e6]
              exact ih2 (j + 1) _ (by omega) H
            · by_cases hk2 : (sv j).1 = 2
              · have hd := hV.def2 hst hk hSM (hPF k) hj hp hk2
                refine x_aload_n (j := 6) hc dL_pools_36 rfl rfl ?_
                refine x_iload (j := 0) hc dL_pools_37 rfl ?_
                refine x_iald hc H.2.2.1.2.1 (by decide) rfl hj8 (by omega) dL_pools_39 ?_
                refine x_vali ((H.2.2.2.2.1 j hj).2.1) ?_
                refine x_iload (j := 3) hc dL_pools_40 rfl ?_
                refine x_icmp_eq (tgt := 48) hc dL_pools_42 (by decide) (fun _ => ?_) (fun q9 => absurd (by rw [hp]) q9)
                refine x_aload_n (j := 8) hc dL_pools_48 rfl rfl ?_
                refine x_iload (j := 0) hc dL_pools_49 rfl ?_
                refine x_callV (C := RX2) (T := TX2) (NN := 5) (ci := 3) (As := [.int (nI j)]) (st := []) hc H.1.1.1 (by omega) (by decide) rfl (a_sum (l := l) (D := D) (z := z) H.1 hj (hV.2.2.2.2.2.2.2.1 j hj).2.2.1 (hSM j hj)) gL_pools_X2_sum rfl hdV_X2_sum ⟨Nat.le_of_ble_eq_true rfl, Nat.le_of_ble_eq_true rfl⟩ rfl rfl ⟨Nat.le_of_ble_eq_true rfl, Nat.le_of_ble_eq_true rfl⟩ (Nat.le_of_ble_eq_true rfl) dL_pools_51 (fun v5 I5 J5 hz5 => ?_)
                obtain ⟨rfl, hI5, hj5⟩ := hz5
                replace hI5 := hI5.symm
                subst hI5
                replace H := H.j hj5
                refine x_istore (lv' := [(9, .int (SM j)), (8, .int (nI j)), (7, .int (NF pic sv SM k j)), (6, .int (LF pic sv SM (PF k) k j)), (5, .int (nI k)), (4, .ref na), (3, .ref ma), (2, .ref pa), (1, .ref ka), (0, .ref x)]) hc dL_pools_54 (by decide) rfl ?_
                refine x_iload (j := 0) hc dL_pools_56 rfl ?_
                refine x_if_ge (tgt := 63) hc dL_pools_58 (by decide) (fun _ => ?_) (fun q9 => absurd (Int32.not_lt.mp hs0) q9)
                refine x_aload_n (j := 8) hc dL_pools_63 rfl rfl ?_
                refine x_iload (j := 1) hc dL_pools_64 rfl ?_
                refine x_iald hc H.2.2.1.1 (by decide) rfl hj8 (by omega) dL_pools_66 ?_
                refine x_vali ((H.2.2.2.2.1 j hj).1) ?_
                refine x_iconst (v := 1) hc dL_pools_67 (by decide) ?_
                refine x_icmp_ne (tgt := 78) hc dL_pools_68 (by decide) (fun _ => ?_) (fun q9 => absurd q9 (hk1))
                refine x_aload_n (j := 8) hc dL_pools_78 rfl rfl ?_
                refine x_iload (j := 1) hc dL_pools_79 rfl ?_
                refine x_iald hc H.2.2.1.1 (by decide) rfl hj8 (by omega) dL_pools_81 ?_
                refine x_vali ((H.2.2.2.2.1 j hj).1) ?_
                refine x_iconst (v := 2) hc dL_pools_82 (by decide) ?_
                refine x_icmp_eq (tgt := 89) hc dL_pools_83 (by decide) (fun _ => ?_) (fun q9 => absurd (hk2) q9)
                refine x_iload (j := 0) hc dL_pools_89 rfl ?_
                refine x_iload (j := 3) hc dL_pools_91 rfl ?_
                refine x_aload_n (j := 6) hc dL_pools_93 rfl rfl ?_
                refine x_iload (j := 1) hc dL_pools_94 rfl ?_
                refine x_iald hc H.2.2.1.2.2.1 (by decide) rfl hj8 (by omega) dL_pools_96 ?_
                refine x_vali ((H.2.2.2.2.1 j hj).2.2.1) ?_
                refine x_icmp_ge (tgt := 105) hc dL_pools_97 (by decide) (fun q1 => ?_) (fun q1 => ?_)
                · refine x_aload_n (j := 6) hc dL_pools_105 rfl rfl ?_
                  refine x_iload (j := 1) hc dL_pools_106 rfl ?_
                  refine x_iald hc H.2.2.1.2.2.1 (by decide) rfl hj8 (by omega) dL_pools_108 ?_
                  refine x_vali ((H.2.2.2.2.1 j hj).2.2.1) ?_
                  refine x_icmp_eq (tgt := 114) hc dL_pools_109 (by decide) (fun _ => ?_) (fun q9 => absurd (hd.trans (if_neg (Int32.not_lt.mpr q1))) q9)
                  refine x_iload (j := 3) hc dL_pools_114 rfl ?_
                  refine x_iload (j := 0) hc dL_pools_116 rfl ?_
                  refine x_isub hc dL_pools_118 ?_
                  refine x_istore (lv' := [(6, .int ((LF pic sv SM (PF k) k j) - (SM j))), (9, .int (SM j)), (8, .int (nI j)), (7, .int (NF pic sv SM k j)), (5, .int (nI k)), (4, .ref na), (3, .ref ma), (2, .ref pa), (1, .ref ka), (0, .ref x)]) hc dL_pools_119 (by decide) rfl ?_
                  refine x_iinc (j := 2) (v := nI (j + 1)) (lv' := [(8, .int (nI (j + 1))), (6, .int ((LF pic sv SM (PF k) k j) - (SM j))), (9, .int (SM j)), (7, .int (NF pic sv SM k j)), (5, .int (nI k)), (4, .ref na), (3, .ref ma), (2, .ref pa), (1, .ref ka), (0, .ref x)]) hc dL_pools_121 rfl (nI_1 j) (by decide) rfl ?_
                  refine x_goto (tgt := 27) hc dL_pools_124 (by decide) ?_
                  refine x_sub [0, 3, 1, 4, 5, 6, 7, 8, 9] rfl ?_
                  have e7 : NF pic sv SM k j = NF pic sv SM k (j + 1) := (if_neg (fun q => hk1 q.2)).symm
                  have e6 : (LF pic sv SM (PF k) k j) - (SM j) = LF pic sv SM (PF k) k (j + 1) := (if_pos ⟨hp, hk2⟩).symm
                  rw [e7, e6]
                  exact ih2 (j + 1) _ (by omega) H
                · refine x_iload (j := 3) hc dL_pools_100 rfl ?_
                  refine x_goto (tgt := 109) hc dL_pools_102 (by decide) ?_
                  refine x_icmp_eq (tgt := 114) hc dL_pools_109 (by decide) (fun _ => ?_) (fun q9 => absurd (hd.trans (if_pos (Int32.not_le.mp q1))) q9)
                  refine x_iload (j := 3) hc dL_pools_114 rfl ?_
                  refine x_iload (j := 0) hc dL_pools_116 rfl ?_
                  refine x_isub hc dL_pools_118 ?_
                  refine x_istore (lv' := [(6, .int ((LF pic sv SM (PF k) k j) - (SM j))), (9, .int (SM j)), (8, .int (nI j)), (7, .int (NF pic sv SM k j)), (5, .int (nI k)), (4, .ref na), (3, .ref ma), (2, .ref pa), (1, .ref ka), (0, .ref x)]) hc dL_pools_119 (by decide) rfl ?_
                  refine x_iinc (j := 2) (v := nI (j + 1)) (lv' := [(8, .int (nI (j + 1))), (6, .int ((LF pic sv SM (PF k) k j) - (SM j))), (9, .int (SM j)), (7, .int (NF pic sv SM k j)), (5, .int (nI k)), (4, .ref na), (3, .ref ma), (2, .ref pa), (1, .ref ka), (0, .ref x)]) hc dL_pools_121 rfl (nI_1 j) (by decide) rfl ?_
                  refine x_goto (tgt := 27) hc dL_pools_124 (by decide) ?_
                  refine x_sub [0, 3, 1, 4, 5, 6, 7, 8, 9] rfl ?_
                  have e7 : NF pic sv SM k j = NF pic sv SM k (j + 1) := (if_neg (fun q => hk1 q.2)).symm
                  have e6 : (LF pic sv SM (PF k) k j) - (SM j) = LF pic sv SM (PF k) k (j + 1) := (if_pos ⟨hp, hk2⟩).symm
                  rw [e7, e6]
                  exact ih2 (j + 1) _ (by omega) H
              · refine x_aload_n (j := 6) hc dL_pools_36 rfl rfl ?_
                refine x_iload (j := 0) hc dL_pools_37 rfl ?_
                refine x_iald hc H.2.2.1.2.1 (by decide) rfl hj8 (by omega) dL_pools_39 ?_
                refine x_vali ((H.2.2.2.2.1 j hj).2.1) ?_
                refine x_iload (j := 3) hc dL_pools_40 rfl ?_
                refine x_icmp_eq (tgt := 48) hc dL_pools_42 (by decide) (fun _ => ?_) (fun q9 => absurd (by rw [hp]) q9)
                refine x_aload_n (j := 8) hc dL_pools_48 rfl rfl ?_
                refine x_iload (j := 0) hc dL_pools_49 rfl ?_
                refine x_callV (C := RX2) (T := TX2) (NN := 5) (ci := 3) (As := [.int (nI j)]) (st := []) hc H.1.1.1 (by omega) (by decide) rfl (a_sum (l := l) (D := D) (z := z) H.1 hj (hV.2.2.2.2.2.2.2.1 j hj).2.2.1 (hSM j hj)) gL_pools_X2_sum rfl hdV_X2_sum ⟨Nat.le_of_ble_eq_true rfl, Nat.le_of_ble_eq_true rfl⟩ rfl rfl ⟨Nat.le_of_ble_eq_true rfl, Nat.le_of_ble_eq_true rfl⟩ (Nat.le_of_ble_eq_true rfl) dL_pools_51 (fun v5 I5 J5 hz5 => ?_)
                obtain ⟨rfl, hI5, hj5⟩ := hz5
                replace hI5 := hI5.symm
                subst hI5
                replace H := H.j hj5
                refine x_istore (lv' := [(9, .int (SM j)), (8, .int (nI j)), (7, .int (NF pic sv SM k j)), (6, .int (LF pic sv SM (PF k) k j)), (5, .int (nI k)), (4, .ref na), (3, .ref ma), (2, .ref pa), (1, .ref ka), (0, .ref x)]) hc dL_pools_54 (by decide) rfl ?_
                refine x_iload (j := 0) hc dL_pools_56 rfl ?_
                refine x_if_ge (tgt := 63) hc dL_pools_58 (by decide) (fun _ => ?_) (fun q9 => absurd (Int32.not_lt.mp hs0) q9)
                refine x_aload_n (j := 8) hc dL_pools_63 rfl rfl ?_
                refine x_iload (j := 1) hc dL_pools_64 rfl ?_
                refine x_iald hc H.2.2.1.1 (by decide) rfl hj8 (by omega) dL_pools_66 ?_
                refine x_vali ((H.2.2.2.2.1 j hj).1) ?_
                refine x_iconst (v := 1) hc dL_pools_67 (by decide) ?_
                refine x_icmp_ne (tgt := 78) hc dL_pools_68 (by decide) (fun _ => ?_) (fun q9 => absurd q9 (hk1))
                refine x_aload_n (j := 8) hc dL_pools_78 rfl rfl ?_
                refine x_iload (j := 1) hc dL_pools_79 rfl ?_
                refine x_iald hc H.2.2.1.1 (by decide) rfl hj8 (by omega) dL_pools_81 ?_
                refine x_vali ((H.2.2.2.2.1 j hj).1) ?_
                refine x_iconst (v := 2) hc dL_pools_82 (by decide) ?_
                refine x_icmp_eq (tgt := 89) hc dL_pools_83 (by decide) (fun q9 => absurd q9 (hk2)) (fun _ => ?_)
                refine x_goto (tgt := 121) hc dL_pools_86 (by decide) ?_
                refine x_iinc (j := 1) (v := nI (j + 1)) (lv' := [(8, .int (nI (j + 1))), (9, .int (SM j)), (7, .int (NF pic sv SM k j)), (6, .int (LF pic sv SM (PF k) k j)), (5, .int (nI k)), (4, .ref na), (3, .ref ma), (2, .ref pa), (1, .ref ka), (0, .ref x)]) hc dL_pools_121 rfl (nI_1 j) (by decide) rfl ?_
                refine x_goto (tgt := 27) hc dL_pools_124 (by decide) ?_
                refine x_sub [0, 2, 3, 4, 5, 6, 7, 8, 9] rfl ?_
                have e7 : NF pic sv SM k j = NF pic sv SM k (j + 1) := (if_neg (fun q => hk1 q.2)).symm
                have e6 : LF pic sv SM (PF k) k j = LF pic sv SM (PF k) k (j + 1) := (if_neg (fun q => hk2 q.2)).symm
                rw [e7, e6]
                exact ih2 (j + 1) _ (by omega) H
          · refine x_aload_n (j := 6) hc dL_pools_36 rfl rfl ?_
            refine x_iload (j := 0) hc dL_pools_37 rfl ?_
            refine x_iald hc H.2.2.1.2.1 (by decide) rfl hj8 (by omega) dL_pools_39 ?_
            refine x_vali ((H.2.2.2.2.1 j hj).2.1) ?_
            refine x_iload (j := 3) hc dL_pools_40 rfl ?_
            refine x_icmp_eq (tgt := 48) hc dL_pools_42 (by decide) (fun q9 => absurd q9 (fun h => hp ((nI_eq (by have := (hV.2.2.2.2.2.2.2.1 j hj).1; omega) (by omega)).mp h))) (fun _ => ?_)
            refine x_goto (tgt := 121) hc dL_pools_45 (by decide) ?_
            refine x_iinc (j := 0) (v := nI (j + 1)) (lv' := [(8, .int (nI (j + 1))), (7, .int (NF pic sv SM k j)), (6, .int (LF pic sv SM (PF k) k j)), (5, .int (nI k)), (4, .ref na), (3, .ref ma), (2, .ref pa), (1, .ref ka), (0, .ref x)]) hc dL_pools_121 rfl (nI_1 j) (by decide) rfl ?_
            refine x_goto (tgt := 27) hc dL_pools_124 (by decide) ?_
            refine x_sub [0, 1, 2, 3, 4, 5, 6, 7, 8] rfl ?_
            have e7 : NF pic sv SM k j = NF pic sv SM k (j + 1) := (if_neg (fun q => hp q.1)).symm
            have e6 : LF pic sv SM (PF k) k j = LF pic sv SM (PF k) k (j + 1) := (if_neg (fun q => hp q.1)).symm
            rw [e7, e6]
            exact ih2 (j + 1) _ (by omega) H
      exact hin n 0 _ (by omega) H
  refine x_sub [0, 5, 4, 3, 2, 1] rfl ?_
  exact hout 2 0 _ (by omega) H
