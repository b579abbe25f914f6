theorem kd03 {a : Int32} (h : a = 0 ∨ a = 1 ∨ a = 2 ∨ a = 3) (q : a - a / 3 * 3 = 0) : a = 0 ∨ a = 3 := by
  rcases h with rfl | rfl | rfl | rfl
  · exact Or.inl rfl
  · exact absurd q (by decide)
  · exact absurd q (by decide)
  · exact Or.inr rfl
theorem rc_le {rc : Nat → Nat → Nat → Int32} {k y w : Nat} {t : Int32} (h : (rc k y w + t).toInt = (rc k y w).toInt + t.toInt) (h1 : 1 ≤ t.toInt) : ∀ a b c : Nat, a < 2 → b < 10 → c < 4 → (rc a b c).toInt ≤ (rcU rc k y w (rc k y w + t) a b c).toInt := fun a b c _ _ _ => by
  show _ ≤ (if a = k ∧ b = y ∧ c = w then rc k y w + t else rc a b c).toInt
  by_cases e : a = k ∧ b = y ∧ c = w
  · obtain ⟨rfl, rfl, rfl⟩ := e
    rw [if_pos ⟨rfl, rfl, rfl⟩]
    omega
  · rw [if_neg e]
    exact Int.le_refl _
abbrev rm_L_grows : Room := { frames := 8, cells := 0, slots := 0, locals := 186 }
set_option maxHeartbeats 4000000 in
set_option maxRecDepth 100000 in
theorem c_grows (l : Launch) (D : va_G) (z e0 : Nat) (L : List Nat) (K N : Nat → Nat) (I : Nat → Nat → Int32) (J : Nat → Nat → Int64) (R : Nat → Nat → Option Nat) (x ka pa ma na ea ga st su now n : Nat) (pic : Nat → Nat) (tm : Nat → TM) (rc : Nat → Nat → Nat → Int32) (fe co : Nat → Nat → Int32) (cr : Int32) (sv : Nat → Shr) (pd : Nat → Int32) (k w : Nat) (t : Int32) (hk : k < 2) (hw : w < 4) (h1 : 1 ≤ t ∧ t ≤ 200000) (H : LW e0 x ka pa ma na ea ga st su L K N I J R now n pic tm rc fe co cr sv pd) (hst : st ≤ 17 ∧ su ≤ 18) : MG l yL_grows wsL_grows rm_L_grows D z e0 L K N I J R [.ref x, .int (nI k), .int (nI w), .int t, .ref ka, .ref na, .ref ga] (fun v I' J' => v = some (.int 1) ∧ LW e0 x ka pa ma na ea ga (st + 1) su L K N I' J' R now n pic tm (rcU rc k now w (rc k now w + t)) fe co cr sv pd) := by
  refine mg_of (own := RL) (maxL := 9) (ret := (some .boolean)) (by decide +kernel) rfl rfl (Nat.le_of_ble_eq_true rfl) ?_
  intro pg ev s mi args below meth c hc hr
  obtain ⟨SM, hSM0⟩ : ∃ SM : Nat → Int32, SM = (fun j => Int64.toInt32 (sumL tm rc fe co cr pic sv n now j)) := ⟨_, rfl⟩
  have hSM : ∀ j, j < n → Int64.toInt32 (sumL tm rc fe co cr pic sv n now j) = SM j := fun j _ => by rw [hSM0]
  obtain ⟨SN, hSN0⟩ : ∃ SN : Nat → Int32, SN = (fun j => Int64.toInt32 (sumL tm (rcU rc k now w (rc k now w + t)) fe co cr pic sv n now j)) := ⟨_, rfl⟩
  have hSN : ∀ j, j < n → Int64.toInt32 (sumL tm (rcU rc k now w (rc k now w + t)) fe co cr pic sv n now j) = SN j := fun j _ => by rw [hSN0]
  obtain ⟨G, hG⟩ : ∃ G : Int32, Int64.toInt32 (yRun cr (lcon tm rc fe co pic sv n) (now + 1) k).1 = G := ⟨_, rfl⟩
  have ht := rng32 h1
  have e1 : (1 : Int32).toInt = 1 := rfl
  have e2 : (200000 : Int32).toInt = 200000 := rfl
  have hV := H.2.1
  have hn8 := hV.2.1
  have hn10 := hV.1
  obtain ⟨hV2, hea⟩ := hV.row (t := t) hk hw (by omega) (by omega) hst.1
  have hrc := (hV.2.2.2.2.2.1 k hk).1 now w hn10 hw
  have hGG := hV.growG hV2 hst hk hw hea
  rw [hG] at hGG
  have hgr : ∀ j, j < n → ((sv j).1 = 0 ∨ (sv j).1 = 3) → SM j ≤ SN j := fun j hj hkd => by
    have h := hV.grow hV2 (by omega) (by omega) (rc_le hea (by omega)) hj hkd
    rw [hSM j hj, hSN j hj] at h
    exact Int32.not_lt.mp h
  refine x_iconst (v := 0) hc dL_grows_0 (by decide) ?_
  refine x_istore (lv' := [(7, .int 0), (0, .ref x), (1, .int (nI k)), (2, .int (nI w)), (3, .int t), (4, .ref ka), (5, .ref na), (6, .ref ga)]) hc dL_grows_1 (by decide) rfl ?_
  have hout : ∀ (d j : Nat) (I1 : Nat → Nat → Int32) (J1 : Nat → Nat → Int64), j + d = n → (∀ i, i < j → I1 ga i = SM i) → LW e0 x ka pa ma na ea ga st su L K N I1 J1 R now n pic tm rc fe co cr sv pd → XW pg l ev rm_L_grows s mi args below meth c D z 9 L K N I1 J1 R 0 0 (MQ below (QG D z L K N R (fun v I' J' => v = some (.int 1) ∧ LW e0 x ka pa ma na ea ga (st + 1) su L K N I' J' R now n pic tm (rcU rc k now w (rc k now w + t)) fe co cr sv pd)) args s (rm_L_grows).cells (rm_L_grows).slots (fun q => z ≤ q)) 3 [(7, .int (nI j)), (6, .ref ga), (5, .ref na), (4, .ref ka), (3, .int t), (2, .int (nI w)), (1, .int (nI k)), (0, .ref x)] [] := by
    intro d
    induction d with
    | zero =>
      intro j I1 J1 hj0 hg H
      refine x_iload (j := 0) hc dL_grows_3 rfl ?_
      refine x_aload (j := 2) hc dL_grows_5 rfl ?_
      refine x_iconst (v := 0) hc dL_grows_7 (by decide) ?_
      refine x_iald hc H.2.2.1.2.2.2.1 (by decide) rfl (by decide) (by omega) dL_grows_8 ?_
      refine x_vali (H.2.2.2.1) ?_
      refine x_icmp_ge (tgt := 29) hc dL_grows_9 (by decide) (fun _ => ?_) (fun q9 => absurd (nI_le (show n ≤ j by omega) (by omega)) q9)
      refine x_aload_n (j := 7) hc dL_grows_29 rfl rfl ?_
      refine x_iload_n (j := 6) hc dL_grows_30 rfl rfl ?_
      refine x_callV (C := RX2) (T := TX2) (NN := 5) (ci := 3) (As := [.int (nI k)]) (st := []) hc H.1.1.1 (by omega) (by decide) rfl (a_gross (l := l) (D := D) (z := z) H.1 hk hG) gL_grows_X2_gross rfl hdV_X2_gross ⟨Nat.le_of_ble_eq_true rfl, Nat.le_of_ble_eq_true rfl⟩ rfl rfl ⟨Nat.le_of_ble_eq_true rfl, Nat.le_of_ble_eq_true rfl⟩ (Nat.le_of_ble_eq_true rfl) dL_grows_31 (fun v2 I2 J2 hz2 => ?_)
      obtain ⟨rfl, hI2, hj2⟩ := hz2
      replace hI2 := hI2.symm
      subst hI2
      replace H := H.j hj2
      refine x_istore (lv' := [(7, .int G), (6, .ref ga), (5, .ref na), (4, .ref ka), (3, .int t), (2, .int (nI w)), (1, .int (nI k)), (0, .ref x)]) hc dL_grows_34 (by decide) rfl ?_
      refine x_aload_n (j := 7) hc dL_grows_36 rfl rfl ?_
      refine x_iload_n (j := 6) hc dL_grows_37 rfl rfl ?_
      refine x_iload_n (j := 5) hc dL_grows_38 rfl rfl ?_
      refine x_iload_n (j := 4) hc dL_grows_39 rfl rfl ?_
      refine x_callV (C := RX2) (T := TX2) (NN := 5) (ci := 3) (As := [.int (nI k), .int (nI w), .int t]) (st := []) hc H.1.1.1 (by omega) (by decide) rfl (a_receive (l := l) (D := D) (z := z) H hk hw h1 hst.1) gL_grows_X2_receive rfl hdV_X2_receive ⟨Nat.le_of_ble_eq_true rfl, Nat.le_of_ble_eq_true rfl⟩ rfl rfl ⟨Nat.le_of_ble_eq_true rfl, Nat.le_of_ble_eq_true rfl⟩ (Nat.le_of_ble_eq_true rfl) dL_grows_40 (fun v5 I5 J5 hz5 => ?_)
      obtain ⟨rfl, hg5, H2⟩ := hz5
      refine x_iload_n (j := 4) hc dL_grows_43 rfl rfl ?_
      refine x_icmp_lt (tgt := 59) hc dL_grows_44 (by decide) (fun q9 => absurd q9 (fun h => by have h2 := Int32.lt_iff_toInt_lt.mp h; omega)) (fun _ => ?_)
      refine x_aload_n (j := 7) hc dL_grows_47 rfl rfl ?_
      refine x_iload_n (j := 6) hc dL_grows_48 rfl rfl ?_
      refine x_callV (C := RX2) (T := TX2) (NN := 5) (ci := 3) (As := [.int (nI k)]) (st := []) hc H2.1.1.1 (by omega) (by decide) rfl (a_gross (l := l) (D := D) (z := z) H2.1 hk hGG) gL_grows_X2_gross rfl hdV_X2_gross ⟨Nat.le_of_ble_eq_true rfl, Nat.le_of_ble_eq_true rfl⟩ rfl rfl ⟨Nat.le_of_ble_eq_true rfl, Nat.le_of_ble_eq_true rfl⟩ (Nat.le_of_ble_eq_true rfl) dL_grows_49 (fun v6 I6 J6 hz6 => ?_)
      obtain ⟨rfl, hI6, hj6⟩ := hz6
      replace hI6 := hI6.symm
      subst hI6
      replace H2 := H2.j hj6
      refine x_iload (j := 0) hc dL_grows_52 rfl ?_
      refine x_iload_n (j := 4) hc dL_grows_54 rfl rfl ?_
      refine x_iadd hc dL_grows_55 ?_
      refine x_icmp_eq (tgt := 61) hc dL_grows_56 (by decide) (fun _ => ?_) (fun q9 => absurd (rfl) q9)
      refine x_iconst (v := 0) hc dL_grows_61 (by decide) ?_
      refine x_istore (lv' := [(8, .int 0), (7, .int G), (6, .ref ga), (5, .ref na), (4, .ref ka), (3, .int t), (2, .int (nI w)), (1, .int (nI k)), (0, .ref x)]) hc dL_grows_62 (by decide) rfl ?_
      have hg9 : ∀ i, i < n → I5 ga i = SM i := fun i hi => (congrFun hg5 i).trans (hg i (by omega))
      have hin : ∀ (d2 i : Nat) (J7 : Nat → Nat → Int64), i + d2 = n → LW e0 x ka pa ma na ea ga (st + 1) su L K N I5 J7 R now n pic tm (rcU rc k now w (rc k now w + t)) fe co cr sv pd → XW pg l ev rm_L_grows s mi args below meth c D z 9 L K N I5 J7 R 0 0 (MQ below (QG D z L K N R (fun v I' J' => v = some (.int 1) ∧ LW e0 x ka pa ma na ea ga (st + 1) su L K N I' J' R now n pic tm (rcU rc k now w (rc k now w + t)) fe co cr sv pd)) args s (rm_L_grows).cells (rm_L_grows).slots (fun q => z ≤ q)) 64 [(8, .int (nI i)), (7, .int G), (6, .ref ga), (5, .ref na), (4, .ref ka), (3, .int t), (2, .int (nI w)), (1, .int (nI k)), (0, .ref x)] [] := by
        intro d2
        induction d2 with
        | zero =>
          intro i J7 hi0 H
          refine x_iload (j := 0) hc dL_grows_64 rfl ?_
          refine x_aload (j := 3) hc dL_grows_66 rfl ?_
          refine x_iconst (v := 0) hc dL_grows_68 (by decide) ?_
          refine x_iald hc H.2.2.1.2.2.2.1 (by decide) rfl (by decide) (by omega) dL_grows_69 ?_
          refine x_vali (H.2.2.2.1) ?_
          refine x_icmp_ge (tgt := 105) hc dL_grows_70 (by decide) (fun _ => ?_) (fun q9 => absurd (nI_le (show n ≤ i by omega) (by omega)) q9)
          refine x_iconst (v := 1) hc dL_grows_105 (by decide) ?_
          exact x_zret hc hr rfl (by decide) (by decide) dL_grows_106 (⟨rfl, H⟩)
        | succ d2 ih2 =>
          intro i J7 hid H
          have hi : i < n := by omega
          have hi8 : i < 8 := by omega
          have hkd := (hV.2.2.2.2.2.2.2.1 i hi).2.2.1
          refine x_iload (j := 0) hc dL_grows_64 rfl ?_
          refine x_aload (j := 3) hc dL_grows_66 rfl ?_
          refine x_iconst (v := 0) hc dL_grows_68 (by decide) ?_
          refine x_iald hc H.2.2.1.2.2.2.1 (by decide) rfl (by decide) (by omega) dL_grows_69 ?_
          refine x_vali (H.2.2.2.1) ?_
          refine x_icmp_ge (tgt := 105) hc dL_grows_70 (by decide) (fun q9 => absurd q9 (nI_ge hi (by omega))) (fun _ => ?_)
          refine x_aload (j := 4) hc dL_grows_73 rfl ?_
          refine x_iload (j := 0) hc dL_grows_75 rfl ?_
          refine x_iald hc H.2.2.1.1 (by decide) rfl hi8 (by omega) dL_grows_77 ?_
          refine x_vali ((H.2.2.2.2.1 i hi).1) ?_
          refine x_iconst (v := 3) hc dL_grows_78 (by decide) ?_
          refine x_irem hc (by decide) dL_grows_79 ?_
          refine x_if_ne (tgt := 99) hc dL_grows_80 (by decide) (fun q1 => ?_) (fun q1 => ?_)
          · refine x_iinc (j := 0) (v := nI (i + 1)) (lv' := [(8, .int (nI (i + 1))), (7, .int G), (6, .ref ga), (5, .ref na), (4, .ref ka), (3, .int t), (2, .int (nI w)), (1, .int (nI k)), (0, .ref x)]) hc dL_grows_99 rfl (nI_1 i) (by decide) rfl ?_
            refine x_goto (tgt := 64) hc dL_grows_102 (by decide) ?_
            refine x_sub [0, 1, 2, 3, 4, 5, 6, 7, 8] rfl ?_
            exact ih2 (i + 1) _ (by omega) H
          · refine x_aload (j := 2) hc dL_grows_83 rfl ?_
            refine x_iload (j := 0) hc dL_grows_85 rfl ?_
            refine x_iald hc H.2.2.1.2.2.2.2.2 (by decide) rfl hi8 (by omega) dL_grows_87 ?_
            refine x_vali (hg9 i hi) ?_
            refine x_aload_n (j := 8) hc dL_grows_88 rfl rfl ?_
            refine x_iload (j := 0) hc dL_grows_89 rfl ?_
            refine x_callV (C := RX2) (T := TX2) (NN := 5) (ci := 3) (As := [.int (nI i)]) (st := [.int (SM i)]) hc H.1.1.1 (by omega) (by decide) rfl (a_sum (l := l) (D := D) (z := z) H.1 hi hkd (hSN i hi)) gL_grows_X2_sum rfl hdV_X2_sum ⟨Nat.le_of_ble_eq_true rfl, Nat.le_of_ble_eq_true rfl⟩ rfl rfl ⟨Nat.le_of_ble_eq_true rfl, Nat.le_of_ble_eq_true rfl⟩ (Nat.le_of_ble_eq_true rfl) dL_grows_91 (fun v8 I8 J8 hz8 => ?_)
            obtain ⟨rfl, hI8, hj8⟩ := hz8
            replace hI8 := hI8.symm
            subst hI8
            replace H := H.j hj8
            refine x_icmp_le (tgt := 99) hc dL_grows_94 (by decide) (fun _ => ?_) (fun q9 => absurd (hgr i hi (kd03 hkd q1)) q9)
            refine x_iinc (j := 0) (v := nI (i + 1)) (lv' := [(8, .int (nI (i + 1))), (7, .int G), (6, .ref ga), (5, .ref na), (4, .ref ka), (3, .int t), (2, .int (nI w)), (1, .int (nI k)), (0, .ref x)]) hc dL_grows_99 rfl (nI_1 i) (by decide) rfl ?_
            refine x_goto (tgt := 64) hc dL_grows_102 (by decide) ?_
            refine x_sub [0, 1, 2, 3, 4, 5, 6, 7, 8] rfl ?_
            exact ih2 (i + 1) _ (by omega) H
      refine x_sub [0, 1, 2, 3, 4, 5, 6, 7, 8] rfl ?_
      exact hin n 0 _ (by omega) H2
    | succ d ih =>
      intro j I1 J1 hjd hg H
      have hj : j < n := by omega
      have hj8 : j < 8 := by omega
      have hkd := (hV.2.2.2.2.2.2.2.1 j hj).2.2.1
      refine x_iload (j := 0) hc dL_grows_3 rfl ?_
      refine x_aload (j := 2) hc dL_grows_5 rfl ?_
      refine x_iconst (v := 0) hc dL_grows_7 (by decide) ?_
      refine x_iald hc H.2.2.1.2.2.2.1 (by decide) rfl (by decide) (by omega) dL_grows_8 ?_
      refine x_vali (H.2.2.2.1) ?_
      refine x_icmp_ge (tgt := 29) hc dL_grows_9 (by decide) (fun q9 => absurd q9 (nI_ge hj (by omega))) (fun _ => ?_)
      refine x_aload (j := 1) hc dL_grows_12 rfl ?_
      refine x_iload (j := 0) hc dL_grows_14 rfl ?_
      refine x_aload_n (j := 7) hc dL_grows_16 rfl rfl ?_
      refine x_iload (j := 0) hc dL_grows_17 rfl ?_
      refine x_callV (C := RX2) (T := TX2) (NN := 5) (ci := 3) (As := [.int (nI j)]) (st := [.int (nI j), .ref ga]) hc H.1.1.1 (by omega) (by decide) rfl (a_sum (l := l) (D := D) (z := z) H.1 hj hkd (hSM j hj)) gL_grows_X2_sum rfl hdV_X2_sum ⟨Nat.le_of_ble_eq_true rfl, Nat.le_of_ble_eq_true rfl⟩ rfl rfl ⟨Nat.le_of_ble_eq_true rfl, Nat.le_of_ble_eq_true rfl⟩ (Nat.le_of_ble_eq_true rfl) dL_grows_19 (fun v4 I4 J4 hz4 => ?_)
      obtain ⟨rfl, hI4, hj4⟩ := hz4
      replace hI4 := hI4.symm
      subst hI4
      replace H := H.j hj4
      refine x_iast hc H.2.2.1.2.2.2.2.2 (by decide) rfl hj8 (by omega) dL_grows_22 ?_
      refine x_iinc (j := 0) (v := nI (j + 1)) (lv' := [(7, .int (nI (j + 1))), (6, .ref ga), (5, .ref na), (4, .ref ka), (3, .int t), (2, .int (nI w)), (1, .int (nI k)), (0, .ref x)]) hc dL_grows_23 rfl (nI_1 j) (by decide) rfl ?_
      refine x_goto (tgt := 3) hc dL_grows_26 (by decide) ?_
      refine x_sub [0, 1, 2, 3, 4, 5, 6, 7] rfl ?_
      refine ih (j + 1) _ _ (by omega) (fun i hi => ?_) H.wg
      by_cases e : i = j
      · rw [e, u2_s]
      · rw [u2_k e]
        exact hg i (by omega)
  refine x_sub [0, 7, 6, 5, 4, 3, 2, 1] rfl ?_
  exact hout n 0 _ _ (by omega) (fun i hi => absurd hi (Nat.not_lt_zero i)) H
