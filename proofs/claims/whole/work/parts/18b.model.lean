/-- what a sharer's sum is, as the reference reckons it -/
def smf (I : Nat → Nat → Int32) (R : Nat → Nat → Option Nat) (m : Nat) (pic : Nat → Nat) (sh : Nat → Nat → Shr) (n now j : Nat) : Int64 :=
  sumF (yRun (I m 6) (mcon I R m pic sh n) (now + 1) (pic j)).2.1 (yRun (I m 6) (mcon I R m pic sh n) (now + 1) (pic j)).1 (yRun (I m 6) (mcon I R m pic sh n) (now + 1) (pic j)).2.2.2.2.2 (mshr I R m j) (sh (pic j)) (cnt pic (pic j) n) (cnt pic (pic j) j)
theorem zrun_thr {L : List Nat} {K N : Nat → Nat} {I : Nat → Nat → Int32} {R : Nat → Nat → Option Nat} {m : Nat} (h : Mdl L K N R m) (v : Int32) (pic : Nat → Nat) (sh : Nat → Nat → Shr) (n : Nat) : yRun ((u2 I m 18 v) m 6) (mcon (u2 I m 18 v) R m pic sh n) = yRun (I m 6) (mcon I R m pic sh n) := by rw [mcon_thr h, u2_k (show (6 : Nat) ≠ 18 by decide)]
theorem smf_thr {L : List Nat} {K N : Nat → Nat} {I : Nat → Nat → Int32} {R : Nat → Nat → Option Nat} {m : Nat} (h : Mdl L K N R m) (v : Int32) (pic : Nat → Nat) (sh : Nat → Nat → Shr) (n now j : Nat) : smf (u2 I m 18 v) R m pic sh n now j = smf I R m pic sh n now j := by
  unfold smf
  rw [zrun_thr h, mshr_thr h]
abbrev rm_X3_sumOf : Room := { frames := 5, cells := 0, slots := 0, locals := 127 }
set_option maxHeartbeats 4000000 in
set_option maxRecDepth 100000 in
theorem m_sumOf (l : Launch) (D : va_G) (z e0 : Nat) (L : List Nat) (K N : Nat → Nat) (I : Nat → Nat → Int32) (J : Nat → Nat → Int64) (R : Nat → Nat → Option Nat) (m now n : Nat) (pic : Nat → Nat) (sh : Nat → Nat → Shr) (hc0 : MC L K N I R m now n pic sh) (j : Nat) (hj : j < n) : MG l yX3_sumOf wsX3_sumOf rm_X3_sumOf D z e0 L K N I J R [.ref m, .int (nI j)] (fun v I' J' => v = some (.long (smf I R m pic sh n now j)) ∧ I' = I ∧ JF R m J J') := by
  refine mg_of (own := RX3) (maxL := 5) (ret := (some .long)) (by decide +kernel) rfl rfl (Nat.le_of_ble_eq_true rfl) ?_
  intro pg ev s mi args below meth c hc hr
  have hm := hc0.1
  have hnow := hc0.2.2.1
  have hn8 := hc0.2.2.2.2.1
  have hj8 : j < 8 := Nat.lt_of_lt_of_le hj hn8
  obtain ⟨hp, hpj⟩ := hc0.2.2.2.2.2.2.1 j hj
  obtain ⟨y1, y2, -, -⟩ := yRun_sums (I m 6) (mcon I R m pic sh n) (pic j) (now + 1)
  have hkd := (hc0.2.2.2.2.2.2.2 j hj).2.2
  refine x_aload_n (j := 0) hc dX3_sumOf_0 rfl rfl ?_
  refine x_getR (C := RX3) (T := TX3) (NN := 19) (ci := 4) (ref := "NetPointsModel") hc 8 in_X3_sumOf_4 rfl (by decide) lf_X3_sumOf_28 (fun _ h9 => h9) hm.1 (by omega) (by decide) rfl ((hm.cel 8 1061 8 (by decide)).1) dX3_sumOf_1 ?_
  refine x_iload_n (j := 1) hc dX3_sumOf_4 rfl rfl ?_
  refine x_iald hc ((hm.cel 8 1061 8 (by decide)).2) (by decide) rfl (by omega) (by omega) dX3_sumOf_5 ?_
  refine x_vali (y := nI (pic j)) ((hpj)) ?_
  refine x_istore_n (lv' := [(2, .int (nI (pic j))), (0, .ref m), (1, .int (nI j))]) hc dX3_sumOf_6 rfl (by decide) rfl ?_
  refine x_aload_n (j := 1) hc dX3_sumOf_7 rfl rfl ?_
  refine x_getR (C := RX3) (T := TX3) (NN := 19) (ci := 4) (ref := "NetPointsModel") hc 9 in_X3_sumOf_4 rfl (by decide) lf_X3_sumOf_31 (fun _ h9 => h9) hm.1 (by omega) (by decide) rfl ((hm.cel 9 1077 8 (by decide)).1) dX3_sumOf_8 ?_
  refine x_iload_n (j := 2) hc dX3_sumOf_11 rfl rfl ?_
  refine x_iald hc ((hm.cel 9 1077 8 (by decide)).2) (by decide) rfl (by omega) (by omega) dX3_sumOf_12 ?_
  refine x_if_eq (tgt := 26) hc dX3_sumOf_13 (by decide) (fun q1 => ?_) (fun q1 => ?_)
  · refine x_aload_n (j := 1) hc dX3_sumOf_26 rfl rfl ?_
    refine x_iload_n (j := 2) hc dX3_sumOf_27 rfl rfl ?_
    refine x_aload_n (j := 1) hc dX3_sumOf_28 rfl rfl ?_
    refine x_getI (C := RX3) (T := TX3) (NN := 19) (ci := 4) (ref := "NetPointsModel") hc 7 in_X3_sumOf_4 rfl (by decide) lf_X3_sumOf_85 (fun _ h9 => h9) hm.1 (by omega) (by decide) rfl dX3_sumOf_29 ?_
    refine x_vali (y := nI now) ((hc0.2.1)) ?_
    refine x_callV (C := RX3) (T := TX3) (NN := 19) (ci := 4) (As := [.int (nI j), .int (nI now)]) (st := []) hc hm.1 (by omega) (by decide) rfl (m_upTo l D z e0 L K N I J R m now n pic sh hc0 j hj (nI now) (now + 1) (up_y (Nat.le_of_lt hnow)) (by omega)) gX3_sumOf_X3_upTo rfl hdV_X3_upTo ⟨Nat.le_of_ble_eq_true rfl, Nat.le_of_ble_eq_true rfl⟩ rfl rfl ⟨Nat.le_of_ble_eq_true rfl, Nat.le_of_ble_eq_true rfl⟩ (Nat.le_of_ble_eq_true rfl) dX3_sumOf_32 (fun v9 I9 J9 hz9 => ?_)
    obtain ⟨rfl, hI9, hJ9⟩ := hz9
    replace hI9 := hI9.symm
    subst hI9
    replace hJ9 := hJ9.symm
    subst hJ9
    exact x_lret hc hr (by decide) (by decide) dX3_sumOf_35 (⟨by rw [smf, sumF, if_pos (show (mshr I R m j).1 = 0 from q1), upV, if_pos (show (mshr I R m j).1 = 0 from q1), y2]; rfl, rfl, fun _ _ _ _ => rfl⟩)
  · refine x_aload_n (j := 1) hc dX3_sumOf_16 rfl rfl ?_
    refine x_getR (C := RX3) (T := TX3) (NN := 19) (ci := 4) (ref := "NetPointsModel") hc 9 in_X3_sumOf_4 rfl (by decide) lf_X3_sumOf_31 (fun _ h9 => h9) hm.1 (by omega) (by decide) rfl ((hm.cel 9 1077 8 (by decide)).1) dX3_sumOf_17 ?_
    refine x_iload_n (j := 2) hc dX3_sumOf_20 rfl rfl ?_
    refine x_iald hc ((hm.cel 9 1077 8 (by decide)).2) (by decide) rfl (by omega) (by omega) dX3_sumOf_21 ?_
    refine x_iconst (v := 3) hc dX3_sumOf_22 (by decide) ?_
    refine x_icmp_ne (tgt := 36) hc dX3_sumOf_23 (by decide) (fun q3 => ?_) (fun q3 => ?_)
    · refine x_aload_n (j := 1) hc dX3_sumOf_36 rfl rfl ?_
      refine x_callV (C := RX3) (T := TX3) (NN := 19) (ci := 4) (As := []) (st := []) hc hm.1 (by omega) (by decide) rfl (m_lay l D z e0 L K N I J R m now n pic sh hc0) gX3_sumOf_X3_lay rfl hdV_X3_lay ⟨Nat.le_of_ble_eq_true rfl, Nat.le_of_ble_eq_true rfl⟩ rfl rfl ⟨Nat.le_of_ble_eq_true rfl, Nat.le_of_ble_eq_true rfl⟩ (Nat.le_of_ble_eq_true rfl) dX3_sumOf_37 (fun v9 I9 J9 hz9 => ?_)
      obtain ⟨rfl, hI9, hM⟩ := hz9
      replace hI9 := hI9.symm
      subst hI9
      have hpr := (hM.1 (pic j) now hp (Nat.lt_succ_self now)).2
      refine x_aload_n (j := 1) hc dX3_sumOf_40 rfl rfl ?_
      refine x_getR (C := RX3) (T := TX3) (NN := 19) (ci := 4) (ref := "NetPointsModel") hc 9 in_X3_sumOf_4 rfl (by decide) lf_X3_sumOf_31 (fun _ h9 => h9) hm.1 (by omega) (by decide) rfl ((hm.cel 9 1077 8 (by decide)).1) dX3_sumOf_41 ?_
      refine x_iload_n (j := 2) hc dX3_sumOf_44 rfl rfl ?_
      refine x_iald hc ((hm.cel 9 1077 8 (by decide)).2) (by decide) rfl (by omega) (by omega) dX3_sumOf_45 ?_
      refine x_iconst (v := 1) hc dX3_sumOf_46 (by decide) ?_
      refine x_icmp_ne (tgt := 65) hc dX3_sumOf_47 (by decide) (fun q4 => ?_) (fun q4 => ?_)
      · refine x_aload_n (j := 1) hc dX3_sumOf_65 rfl rfl ?_
        refine x_iload_n (j := 0) hc dX3_sumOf_66 rfl rfl ?_
        refine x_iload_n (j := 2) hc dX3_sumOf_67 rfl rfl ?_
        have hdf := m_deferred l D z e0 L K N I J9 R m now n pic sh hc0 (pic j) hp j (Nat.le_of_lt hj)
        rw [hpr] at hdf
        refine x_callV (C := RX3) (T := TX3) (NN := 19) (ci := 4) (As := [.int (nI (pic j)), .int (nI j)]) (st := []) hc hm.1 (by omega) (by decide) rfl hdf gX3_sumOf_X3_deferred rfl hdV_X3_deferred ⟨Nat.le_of_ble_eq_true rfl, Nat.le_of_ble_eq_true rfl⟩ rfl rfl ⟨Nat.le_of_ble_eq_true rfl, Nat.le_of_ble_eq_true rfl⟩ (Nat.le_of_ble_eq_true rfl) dX3_sumOf_68 (fun v9 I9 J9 hz9 => ?_)
        obtain ⟨rfl, hI9, hJ9⟩ := hz9
        replace hI9 := hI9.symm
        subst hI9
        replace hJ9 := hJ9.symm
        subst hJ9
        refine x_lstore_n (lv' := [(3, .long (leftN (yRun (I m 6) (mcon I R m pic sh n) (now + 1) (pic j)).2.2.2.2.2 (sh (pic j)) (cnt pic (pic j) j))), (2, .int (nI (pic j))), (0, .ref m), (1, .int (nI j))]) hc dX3_sumOf_71 rfl (by decide) rfl ?_
        refine x_lload_n (j := 0) hc dX3_sumOf_72 rfl rfl ?_
        refine x_aload_n (j := 2) hc dX3_sumOf_73 rfl rfl ?_
        refine x_getR (C := RX3) (T := TX3) (NN := 19) (ci := 4) (ref := "NetPointsModel") hc 10 in_X3_sumOf_4 rfl (by decide) lf_X3_sumOf_34 (fun _ h9 => h9) hm.1 (by omega) (by decide) rfl ((hm.cel 10 1093 8 (by decide)).1) dX3_sumOf_74 ?_
        refine x_iload_n (j := 3) hc dX3_sumOf_77 rfl rfl ?_
        refine x_iald hc ((hm.cel 10 1093 8 (by decide)).2) (by decide) rfl (by omega) (by omega) dX3_sumOf_78 ?_
        refine x_i2l hc dX3_sumOf_79 ?_
        refine x_lcmp hc dX3_sumOf_80 ?_
        refine x_if_ge (tgt := 88) hc dX3_sumOf_81 (by decide) (fun q5 => ?_) (fun q5 => ?_)
        · refine x_aload_n (j := 2) hc dX3_sumOf_88 rfl rfl ?_
          refine x_getR (C := RX3) (T := TX3) (NN := 19) (ci := 4) (ref := "NetPointsModel") hc 10 in_X3_sumOf_4 rfl (by decide) lf_X3_sumOf_34 (fun _ h9 => h9) hm.1 (by omega) (by decide) rfl ((hm.cel 10 1093 8 (by decide)).1) dX3_sumOf_89 ?_
          refine x_iload_n (j := 3) hc dX3_sumOf_92 rfl rfl ?_
          refine x_iald hc ((hm.cel 10 1093 8 (by decide)).2) (by decide) rfl (by omega) (by omega) dX3_sumOf_93 ?_
          refine x_i2l hc dX3_sumOf_94 ?_
          exact x_lret hc hr (by decide) (by decide) dX3_sumOf_95 (⟨by rw [smf, sumF, if_neg (show ¬ (mshr I R m j).1 = 0 from q1), if_neg (show ¬ (mshr I R m j).1 = 1 from q4), if_pos (show (mshr I R m j).1 = 2 from (hkd.elim (fun h => absurd h q1) (fun h => h.elim (fun h => absurd h q4) (fun h => h.elim (fun h => h) (fun h => absurd h q3)))))]; exact congrArg (fun v => some (Value.long v)) ((mn_comm _ _).trans (mn_ge (fun h => Int32.not_le.mpr ((lg_cmp_lt _ _).mpr h) q5))).symm, rfl, hM.2⟩)
        · refine x_lload_n (j := 0) hc dX3_sumOf_84 rfl rfl ?_
          refine x_goto (tgt := 95) hc dX3_sumOf_85 (by decide) ?_
          exact x_lret hc hr (by decide) (by decide) dX3_sumOf_95 (⟨by rw [smf, sumF, if_neg (show ¬ (mshr I R m j).1 = 0 from q1), if_neg (show ¬ (mshr I R m j).1 = 1 from q4), if_pos (show (mshr I R m j).1 = 2 from (hkd.elim (fun h => absurd h q1) (fun h => h.elim (fun h => absurd h q4) (fun h => h.elim (fun h => h) (fun h => absurd h q3)))))]; exact congrArg (fun v => some (Value.long v)) ((mn_comm _ _).trans (mn_lt ((lg_cmp_lt _ _).mp (Int32.not_le.mp q5)))).symm, rfl, hM.2⟩)
      · refine x_aload_n (j := 1) hc dX3_sumOf_50 rfl rfl ?_
        refine x_aload_n (j := 1) hc dX3_sumOf_51 rfl rfl ?_
        refine x_iload_n (j := 0) hc dX3_sumOf_52 rfl rfl ?_
        refine x_aload_n (j := 1) hc dX3_sumOf_53 rfl rfl ?_
        refine x_getI (C := RX3) (T := TX3) (NN := 19) (ci := 4) (ref := "NetPointsModel") hc 14 in_X3_sumOf_4 rfl (by decide) lf_X3_sumOf_81 (fun _ h9 => h9) hm.1 (by omega) (by decide) rfl dX3_sumOf_54 ?_
        refine x_vali (y := nI n) ((hc0.2.2.2.1)) ?_
        have hdf := m_deferred l D z e0 L K N I J9 R m now n pic sh hc0 (pic j) hp n (Nat.le_refl n)
        rw [hpr] at hdf
        refine x_callV (C := RX3) (T := TX3) (NN := 19) (ci := 4) (As := [.int (nI (pic j)), .int (nI n)]) (st := [.ref m]) hc hm.1 (by omega) (by decide) rfl hdf gX3_sumOf_X3_deferred rfl hdV_X3_deferred ⟨Nat.le_of_ble_eq_true rfl, Nat.le_of_ble_eq_true rfl⟩ rfl rfl ⟨Nat.le_of_ble_eq_true rfl, Nat.le_of_ble_eq_true rfl⟩ (Nat.le_of_ble_eq_true rfl) dX3_sumOf_57 (fun v9 I9 J9 hz9 => ?_)
        obtain ⟨rfl, hI9, hJ9⟩ := hz9
        replace hI9 := hI9.symm
        subst hI9
        replace hJ9 := hJ9.symm
        subst hJ9
        refine x_iload_n (j := 2) hc dX3_sumOf_60 rfl rfl ?_
        refine x_callV (C := RX3) (T := TX3) (NN := 19) (ci := 4) (As := [.long (leftN (yRun (I m 6) (mcon I R m pic sh n) (now + 1) (pic j)).2.2.2.2.2 (sh (pic j)) (cnt pic (pic j) n)), .int (nI j)]) (st := []) hc hm.1 (by omega) (by decide) rfl (m_parted l D z e0 L K N I J9 R m hm (leftN (yRun (I m 6) (mcon I R m pic sh n) (now + 1) (pic j)).2.2.2.2.2 (sh (pic j)) (cnt pic (pic j) n)) j hj8) gX3_sumOf_X3_parted rfl hdV_X3_parted ⟨Nat.le_of_ble_eq_true rfl, Nat.le_of_ble_eq_true rfl⟩ rfl rfl ⟨Nat.le_of_ble_eq_true rfl, Nat.le_of_ble_eq_true rfl⟩ (Nat.le_of_ble_eq_true rfl) dX3_sumOf_61 (fun v9 I9 J9 hz9 => ?_)
        obtain ⟨rfl, hI9, hJ9⟩ := hz9
        replace hI9 := hI9.symm
        subst hI9
        replace hJ9 := hJ9.symm
        subst hJ9
        exact x_lret hc hr (by decide) (by decide) dX3_sumOf_64 (⟨by rw [smf, sumF, if_neg (show ¬ (mshr I R m j).1 = 0 from q1), if_pos (show (mshr I R m j).1 = 1 from q4)], rfl, hM.2⟩)
    · refine x_aload_n (j := 1) hc dX3_sumOf_26 rfl rfl ?_
      refine x_iload_n (j := 2) hc dX3_sumOf_27 rfl rfl ?_
      refine x_aload_n (j := 1) hc dX3_sumOf_28 rfl rfl ?_
      refine x_getI (C := RX3) (T := TX3) (NN := 19) (ci := 4) (ref := "NetPointsModel") hc 7 in_X3_sumOf_4 rfl (by decide) lf_X3_sumOf_85 (fun _ h9 => h9) hm.1 (by omega) (by decide) rfl dX3_sumOf_29 ?_
      refine x_vali (y := nI now) ((hc0.2.1)) ?_
      refine x_callV (C := RX3) (T := TX3) (NN := 19) (ci := 4) (As := [.int (nI j), .int (nI now)]) (st := []) hc hm.1 (by omega) (by decide) rfl (m_upTo l D z e0 L K N I J R m now n pic sh hc0 j hj (nI now) (now + 1) (up_y (Nat.le_of_lt hnow)) (by omega)) gX3_sumOf_X3_upTo rfl hdV_X3_upTo ⟨Nat.le_of_ble_eq_true rfl, Nat.le_of_ble_eq_true rfl⟩ rfl rfl ⟨Nat.le_of_ble_eq_true rfl, Nat.le_of_ble_eq_true rfl⟩ (Nat.le_of_ble_eq_true rfl) dX3_sumOf_32 (fun v9 I9 J9 hz9 => ?_)
      obtain ⟨rfl, hI9, hJ9⟩ := hz9
      replace hI9 := hI9.symm
      subst hI9
      replace hJ9 := hJ9.symm
      subst hJ9
      exact x_lret hc hr (by decide) (by decide) dX3_sumOf_35 (⟨by rw [smf, sumF, if_neg (show ¬ (mshr I R m j).1 = 0 from q1), if_neg (show ¬ (mshr I R m j).1 = 1 from fun h => absurd (h.symm.trans (show (mshr I R m j).1 = 3 from q3)) (by decide)), if_neg (show ¬ (mshr I R m j).1 = 2 from fun h => absurd (h.symm.trans (show (mshr I R m j).1 = 3 from q3)) (by decide)), upV, if_neg (show ¬ (mshr I R m j).1 = 0 from q1), if_pos (Nat.succ_pos now), y1]; rfl, rfl, fun _ _ _ _ => rfl⟩)
abbrev rm_X3_sum : Room := { frames := 6, cells := 0, slots := 0, locals := 151 }
set_option maxHeartbeats 4000000 in
set_option maxRecDepth 100000 in
theorem m_sum (l : Launch) (D : va_G) (z e0 : Nat) (L : List Nat) (K N : Nat → Nat) (I : Nat → Nat → Int32) (J : Nat → Nat → Int64) (R : Nat → Nat → Option Nat) (m now n : Nat) (pic : Nat → Nat) (sh : Nat → Nat → Shr) (hc0 : MC L K N I R m now n pic sh) (j : Nat) (hj : j < n) : MG l yX3_sum wsX3_sum rm_X3_sum D z e0 L K N I J R [.ref m, .int (nI j)] (fun v I' J' => v = some (.int (Int64.toInt32 (smf I R m pic sh n now j))) ∧ I' = u2 I m 18 0 ∧ JF R m J J') := by
  refine mg_of (own := RX3) (maxL := 2) (ret := (some .int)) (by decide +kernel) rfl rfl (Nat.le_of_ble_eq_true rfl) ?_
  intro pg ev s mi args below meth c hc hr
  have hm := hc0.1
  have hnow := hc0.2.2.1
  have hn8 := hc0.2.2.2.2.1
  have hj8 : j < 8 := Nat.lt_of_lt_of_le hj hn8
  refine x_aload_n (j := 0) hc dX3_sum_0 rfl rfl ?_
  refine x_iload_n (j := 1) hc dX3_sum_1 rfl rfl ?_
  refine x_callV (C := RX3) (T := TX3) (NN := 19) (ci := 4) (As := [.int (nI j)]) (st := []) hc hm.1 (by omega) (by decide) rfl (m_isShT l D z e0 L K N I J R m now n pic sh hc0 j hj) gX3_sum_X3_isSharer rfl hdV_X3_isSharer ⟨Nat.le_of_ble_eq_true rfl, Nat.le_of_ble_eq_true rfl⟩ rfl rfl ⟨Nat.le_of_ble_eq_true rfl, Nat.le_of_ble_eq_true rfl⟩ (Nat.le_of_ble_eq_true rfl) dX3_sum_2 (fun v9 I9 J9 hz9 => ?_)
  obtain ⟨rfl, hI9, hJ9⟩ := hz9
  replace hI9 := hI9.symm
  subst hI9
  replace hJ9 := hJ9.symm
  subst hJ9
  refine x_if_eq (tgt := 17) hc dX3_sum_5 (by decide) (fun q9 => absurd q9 (by decide)) (fun _ => ?_)
  refine x_aload_n (j := 0) hc dX3_sum_8 rfl rfl ?_
  refine x_iload_n (j := 1) hc dX3_sum_9 rfl rfl ?_
  refine x_callV (C := RX3) (T := TX3) (NN := 19) (ci := 4) (As := [.int (nI j)]) (st := []) hc hm.1 (by omega) (by decide) rfl (m_sumOf l D z e0 L K N (u2 I m 18 0) J R m now n pic sh (hc0.thr 0) j hj) gX3_sum_X3_sumOf rfl hdV_X3_sumOf ⟨Nat.le_of_ble_eq_true rfl, Nat.le_of_ble_eq_true rfl⟩ rfl rfl ⟨Nat.le_of_ble_eq_true rfl, Nat.le_of_ble_eq_true rfl⟩ (Nat.le_of_ble_eq_true rfl) dX3_sum_10 (fun v9 I9 J9 hz9 => ?_)
  obtain ⟨rfl, hI9, hJF⟩ := hz9
  replace hI9 := hI9.symm
  subst hI9
  refine x_vall (y := smf I R m pic sh n now j) (smf_thr hm 0 pic sh n now j) ?_
  refine x_l2i hc dX3_sum_13 ?_
  refine x_goto (tgt := 18) hc dX3_sum_14 (by decide) ?_
  exact x_iret hc hr (by decide) (by decide) dX3_sum_18 (⟨rfl, rfl, hJF⟩)
set_option maxHeartbeats 4000000 in
set_option maxRecDepth 100000 in
theorem m_sum1 (l : Launch) (D : va_G) (z e0 : Nat) (L : List Nat) (K N : Nat → Nat) (I : Nat → Nat → Int32) (J : Nat → Nat → Int64) (R : Nat → Nat → Option Nat) (m now n : Nat) (pic : Nat → Nat) (sh : Nat → Nat → Shr) (hc0 : MC L K N I R m now n pic sh) (q : Int32) (hq : ¬ (0 ≤ q ∧ q ≤ nI n - 1)) : MG l yX3_sum wsX3_sum rm_X3_sum D z e0 L K N I J R [.ref m, .int q] (fun v I' J' => v = some (.int 0) ∧ I' = u2 I m 18 1 ∧ J' = J) := by
  refine mg_of (own := RX3) (maxL := 2) (ret := (some .int)) (by decide +kernel) rfl rfl (Nat.le_of_ble_eq_true rfl) ?_
  intro pg ev s mi args below meth c hc hr
  have hm := hc0.1
  have hnow := hc0.2.2.1
  have hn8 := hc0.2.2.2.2.1
  refine x_aload_n (j := 0) hc dX3_sum_0 rfl rfl ?_
  refine x_iload_n (j := 1) hc dX3_sum_1 rfl rfl ?_
  refine x_callV (C := RX3) (T := TX3) (NN := 19) (ci := 4) (As := [.int q]) (st := []) hc hm.1 (by omega) (by decide) rfl (m_isShF l D z e0 L K N I J R m now n pic sh hc0 q hq) gX3_sum_X3_isSharer rfl hdV_X3_isSharer ⟨Nat.le_of_ble_eq_true rfl, Nat.le_of_ble_eq_true rfl⟩ rfl rfl ⟨Nat.le_of_ble_eq_true rfl, Nat.le_of_ble_eq_true rfl⟩ (Nat.le_of_ble_eq_true rfl) dX3_sum_2 (fun v9 I9 J9 hz9 => ?_)
  obtain ⟨rfl, hI9, hJ9⟩ := hz9
  replace hI9 := hI9.symm
  subst hI9
  replace hJ9 := hJ9.symm
  subst hJ9
  refine x_if_eq (tgt := 17) hc dX3_sum_5 (by decide) (fun _ => ?_) (fun q9 => absurd (by decide) q9)
  refine x_iconst (v := 0) hc dX3_sum_17 (by decide) ?_
  exact x_iret hc hr (by decide) (by decide) dX3_sum_18 (⟨rfl, rfl, rfl⟩)
abbrev rm_X3_paid : Room := { frames := 2, cells := 0, slots := 0, locals := 45 }
set_option maxHeartbeats 4000000 in
set_option maxRecDepth 100000 in
theorem m_paid (l : Launch) (D : va_G) (z e0 : Nat) (L : List Nat) (K N : Nat → Nat) (I : Nat → Nat → Int32) (J : Nat → Nat → Int64) (R : Nat → Nat → Option Nat) (m now n : Nat) (pic : Nat → Nat) (sh : Nat → Nat → Shr) (hc0 : MC L K N I R m now n pic sh) (j : Nat) (hj : j < n) : MG l yX3_paid wsX3_paid rm_X3_paid D z e0 L K N I J R [.ref m, .int (nI j)] (fun v I' J' => v = some (.int (I (dr R m 13) j)) ∧ I' = u2 I m 18 0 ∧ JF R m J J') := by
  refine mg_of (own := RX3) (maxL := 2) (ret := (some .int)) (by decide +kernel) rfl rfl (Nat.le_of_ble_eq_true rfl) ?_
  intro pg ev s mi args below meth c hc hr
  have hm := hc0.1
  have hnow := hc0.2.2.1
  have hn8 := hc0.2.2.2.2.1
  have hj8 : j < 8 := Nat.lt_of_lt_of_le hj hn8
  refine x_aload_n (j := 0) hc dX3_paid_0 rfl rfl ?_
  refine x_iload_n (j := 1) hc dX3_paid_1 rfl rfl ?_
  refine x_callV (C := RX3) (T := TX3) (NN := 19) (ci := 4) (As := [.int (nI j)]) (st := []) hc hm.1 (by omega) (by decide) rfl (m_isShT l D z e0 L K N I J R m now n pic sh hc0 j hj) gX3_paid_X3_isSharer rfl hdV_X3_isSharer ⟨Nat.le_of_ble_eq_true rfl, Nat.le_of_ble_eq_true rfl⟩ rfl rfl ⟨Nat.le_of_ble_eq_true rfl, Nat.le_of_ble_eq_true rfl⟩ (Nat.le_of_ble_eq_true rfl) dX3_paid_2 (fun v9 I9 J9 hz9 => ?_)
  obtain ⟨rfl, hI9, hJ9⟩ := hz9
  replace hI9 := hI9.symm
  subst hI9
  replace hJ9 := hJ9.symm
  subst hJ9
  refine x_if_eq (tgt := 17) hc dX3_paid_5 (by decide) (fun q9 => absurd q9 (by decide)) (fun _ => ?_)
  refine x_aload_n (j := 0) hc dX3_paid_8 rfl rfl ?_
  refine x_getR (C := RX3) (T := TX3) (NN := 19) (ci := 4) (ref := "NetPointsModel") hc 13 in_X3_paid_4 rfl (by decide) lf_X3_paid_43 (fun _ h9 => h9) hm.1 (by omega) (by decide) rfl ((hm.cel 13 1141 8 (by decide)).1) dX3_paid_9 ?_
  refine x_iload_n (j := 1) hc dX3_paid_12 rfl rfl ?_
  refine x_iald hc ((hm.cel 13 1141 8 (by decide)).2) (by decide) rfl (by omega) (by omega) dX3_paid_13 ?_
  refine x_vali (y := I (dr R m 13) j) (u2_a (((hm.cel 13 1141 8 (by decide)).2).ne (hm.1) (by decide))) ?_
  refine x_goto (tgt := 18) hc dX3_paid_14 (by decide) ?_
  exact x_iret hc hr (by decide) (by decide) dX3_paid_18 (⟨rfl, rfl, fun _ _ _ _ => rfl⟩)
set_option maxHeartbeats 4000000 in
set_option maxRecDepth 100000 in
theorem m_paid1 (l : Launch) (D : va_G) (z e0 : Nat) (L : List Nat) (K N : Nat → Nat) (I : Nat → Nat → Int32) (J : Nat → Nat → Int64) (R : Nat → Nat → Option Nat) (m now n : Nat) (pic : Nat → Nat) (sh : Nat → Nat → Shr) (hc0 : MC L K N I R m now n pic sh) (q : Int32) (hq : ¬ (0 ≤ q ∧ q ≤ nI n - 1)) : MG l yX3_paid wsX3_paid rm_X3_paid D z e0 L K N I J R [.ref m, .int q] (fun v I' J' => v = some (.int 0) ∧ I' = u2 I m 18 1 ∧ J' = J) := by
  refine mg_of (own := RX3) (maxL := 2) (ret := (some .int)) (by decide +kernel) rfl rfl (Nat.le_of_ble_eq_true rfl) ?_
  intro pg ev s mi args below meth c hc hr
  have hm := hc0.1
  have hnow := hc0.2.2.1
  have hn8 := hc0.2.2.2.2.1
  refine x_aload_n (j := 0) hc dX3_paid_0 rfl rfl ?_
  refine x_iload_n (j := 1) hc dX3_paid_1 rfl rfl ?_
  refine x_callV (C := RX3) (T := TX3) (NN := 19) (ci := 4) (As := [.int q]) (st := []) hc hm.1 (by omega) (by decide) rfl (m_isShF l D z e0 L K N I J R m now n pic sh hc0 q hq) gX3_paid_X3_isSharer rfl hdV_X3_isSharer ⟨Nat.le_of_ble_eq_true rfl, Nat.le_of_ble_eq_true rfl⟩ rfl rfl ⟨Nat.le_of_ble_eq_true rfl, Nat.le_of_ble_eq_true rfl⟩ (Nat.le_of_ble_eq_true rfl) dX3_paid_2 (fun v9 I9 J9 hz9 => ?_)
  obtain ⟨rfl, hI9, hJ9⟩ := hz9
  replace hI9 := hI9.symm
  subst hI9
  replace hJ9 := hJ9.symm
  subst hJ9
  refine x_if_eq (tgt := 17) hc dX3_paid_5 (by decide) (fun _ => ?_) (fun q9 => absurd (by decide) q9)
  refine x_iconst (v := 0) hc dX3_paid_17 (by decide) ?_
  exact x_iret hc hr (by decide) (by decide) dX3_paid_18 (⟨rfl, rfl, rfl⟩)
abbrev rm_X3_owed : Room := { frames := 6, cells := 0, slots := 0, locals := 151 }
set_option maxHeartbeats 4000000 in
set_option maxRecDepth 100000 in
theorem m_owed (l : Launch) (D : va_G) (z e0 : Nat) (L : List Nat) (K N : Nat → Nat) (I : Nat → Nat → Int32) (J : Nat → Nat → Int64) (R : Nat → Nat → Option Nat) (m now n : Nat) (pic : Nat → Nat) (sh : Nat → Nat → Shr) (hc0 : MC L K N I R m now n pic sh) (j : Nat) (hj : j < n) : MG l yX3_owed wsX3_owed rm_X3_owed D z e0 L K N I J R [.ref m, .int (nI j)] (fun v I' J' => v = some (.int ((Int64.toInt32 (smf I R m pic sh n now j)) - (I (dr R m 13) j))) ∧ I' = u2 I m 18 0 ∧ JF R m J J') := by
  refine mg_of (own := RX3) (maxL := 2) (ret := (some .int)) (by decide +kernel) rfl rfl (Nat.le_of_ble_eq_true rfl) ?_
  intro pg ev s mi args below meth c hc hr
  have hm := hc0.1
  have hnow := hc0.2.2.1
  have hn8 := hc0.2.2.2.2.1
  have hj8 : j < 8 := Nat.lt_of_lt_of_le hj hn8
  refine x_aload_n (j := 0) hc dX3_owed_0 rfl rfl ?_
  refine x_iload_n (j := 1) hc dX3_owed_1 rfl rfl ?_
  refine x_callV (C := RX3) (T := TX3) (NN := 19) (ci := 4) (As := [.int (nI j)]) (st := []) hc hm.1 (by omega) (by decide) rfl (m_isShT l D z e0 L K N I J R m now n pic sh hc0 j hj) gX3_owed_X3_isSharer rfl hdV_X3_isSharer ⟨Nat.le_of_ble_eq_true rfl, Nat.le_of_ble_eq_true rfl⟩ rfl rfl ⟨Nat.le_of_ble_eq_true rfl, Nat.le_of_ble_eq_true rfl⟩ (Nat.le_of_ble_eq_true rfl) dX3_owed_2 (fun v9 I9 J9 hz9 => ?_)
  obtain ⟨rfl, hI9, hJ9⟩ := hz9
  replace hI9 := hI9.symm
  subst hI9
  replace hJ9 := hJ9.symm
  subst hJ9
  refine x_if_eq (tgt := 24) hc dX3_owed_5 (by decide) (fun q9 => absurd q9 (by decide)) (fun _ => ?_)
  refine x_aload_n (j := 0) hc dX3_owed_8 rfl rfl ?_
  refine x_iload_n (j := 1) hc dX3_owed_9 rfl rfl ?_
  refine x_callV (C := RX3) (T := TX3) (NN := 19) (ci := 4) (As := [.int (nI j)]) (st := []) hc hm.1 (by omega) (by decide) rfl (m_sumOf l D z e0 L K N (u2 I m 18 0) J R m now n pic sh (hc0.thr 0) j hj) gX3_owed_X3_sumOf rfl hdV_X3_sumOf ⟨Nat.le_of_ble_eq_true rfl, Nat.le_of_ble_eq_true rfl⟩ rfl rfl ⟨Nat.le_of_ble_eq_true rfl, Nat.le_of_ble_eq_true rfl⟩ (Nat.le_of_ble_eq_true rfl) dX3_owed_10 (fun v9 I9 J9 hz9 => ?_)
  obtain ⟨rfl, hI9, hJF⟩ := hz9
  replace hI9 := hI9.symm
  subst hI9
  refine x_vall (y := smf I R m pic sh n now j) (smf_thr hm 0 pic sh n now j) ?_
  refine x_l2i hc dX3_owed_13 ?_
  refine x_aload_n (j := 0) hc dX3_owed_14 rfl rfl ?_
  refine x_getR (C := RX3) (T := TX3) (NN := 19) (ci := 4) (ref := "NetPointsModel") hc 13 in_X3_owed_4 rfl (by decide) lf_X3_owed_43 (fun _ h9 => h9) hm.1 (by omega) (by decide) rfl ((hm.cel 13 1141 8 (by decide)).1) dX3_owed_15 ?_
  refine x_iload_n (j := 1) hc dX3_owed_18 rfl rfl ?_
  refine x_iald hc ((hm.cel 13 1141 8 (by decide)).2) (by decide) rfl (by omega) (by omega) dX3_owed_19 ?_
  refine x_vali (y := I (dr R m 13) j) (u2_a (((hm.cel 13 1141 8 (by decide)).2).ne (hm.1) (by decide))) ?_
  refine x_isub hc dX3_owed_20 ?_
  refine x_goto (tgt := 25) hc dX3_owed_21 (by decide) ?_
  exact x_iret hc hr (by decide) (by decide) dX3_owed_25 (⟨rfl, rfl, hJF⟩)
set_option maxHeartbeats 4000000 in
set_option maxRecDepth 100000 in
theorem m_owed1 (l : Launch) (D : va_G) (z e0 : Nat) (L : List Nat) (K N : Nat → Nat) (I : Nat → Nat → Int32) (J : Nat → Nat → Int64) (R : Nat → Nat → Option Nat) (m now n : Nat) (pic : Nat → Nat) (sh : Nat → Nat → Shr) (hc0 : MC L K N I R m now n pic sh) (q : Int32) (hq : ¬ (0 ≤ q ∧ q ≤ nI n - 1)) : MG l yX3_owed wsX3_owed rm_X3_owed D z e0 L K N I J R [.ref m, .int q] (fun v I' J' => v = some (.int 0) ∧ I' = u2 I m 18 1 ∧ J' = J) := by
  refine mg_of (own := RX3) (maxL := 2) (ret := (some .int)) (by decide +kernel) rfl rfl (Nat.le_of_ble_eq_true rfl) ?_
  intro pg ev s mi args below meth c hc hr
  have hm := hc0.1
  have hnow := hc0.2.2.1
  have hn8 := hc0.2.2.2.2.1
  refine x_aload_n (j := 0) hc dX3_owed_0 rfl rfl ?_
  refine x_iload_n (j := 1) hc dX3_owed_1 rfl rfl ?_
  refine x_callV (C := RX3) (T := TX3) (NN := 19) (ci := 4) (As := [.int q]) (st := []) hc hm.1 (by omega) (by decide) rfl (m_isShF l D z e0 L K N I J R m now n pic sh hc0 q hq) gX3_owed_X3_isSharer rfl hdV_X3_isSharer ⟨Nat.le_of_ble_eq_true rfl, Nat.le_of_ble_eq_true rfl⟩ rfl rfl ⟨Nat.le_of_ble_eq_true rfl, Nat.le_of_ble_eq_true rfl⟩ (Nat.le_of_ble_eq_true rfl) dX3_owed_2 (fun v9 I9 J9 hz9 => ?_)
  obtain ⟨rfl, hI9, hJ9⟩ := hz9
  replace hI9 := hI9.symm
  subst hI9
  replace hJ9 := hJ9.symm
  subst hJ9
  refine x_if_eq (tgt := 24) hc dX3_owed_5 (by decide) (fun _ => ?_) (fun q9 => absurd (by decide) q9)
  refine x_iconst (v := 0) hc dX3_owed_24 (by decide) ?_
  exact x_iret hc hr (by decide) (by decide) dX3_owed_25 (⟨rfl, rfl, rfl⟩)
abbrev rm_X3_pay : Room := { frames := 6, cells := 0, slots := 0, locals := 151 }
set_option maxHeartbeats 4000000 in
set_option maxRecDepth 100000 in
theorem m_pay (l : Launch) (D : va_G) (z e0 : Nat) (L : List Nat) (K N : Nat → Nat) (I : Nat → Nat → Int32) (J : Nat → Nat → Int64) (R : Nat → Nat → Option Nat) (m now n : Nat) (pic : Nat → Nat) (sh : Nat → Nat → Shr) (hc0 : MC L K N I R m now n pic sh) (j : Nat) (hj : j < n) (hpos : (Int64.toInt32 (smf I R m pic sh n now j)) - (I (dr R m 13) j) > 0) : MG l yX3_pay wsX3_pay rm_X3_pay D z e0 L K N I J R [.ref m, .int (nI j)] (fun v I' J' => v = some (.int ((Int64.toInt32 (smf I R m pic sh n now j)) - (I (dr R m 13) j))) ∧ I' = u2 (u2 I m 18 0) (dr R m 13) j ((I (dr R m 13) j) + ((Int64.toInt32 (smf I R m pic sh n now j)) - (I (dr R m 13) j))) ∧ JF R m J J') := by
  refine mg_of (own := RX3) (maxL := 3) (ret := (some .int)) (by decide +kernel) rfl rfl (Nat.le_of_ble_eq_true rfl) ?_
  intro pg ev s mi args below meth c hc hr
  have hm := hc0.1
  have hnow := hc0.2.2.1
  have hn8 := hc0.2.2.2.2.1
  have hj8 : j < 8 := Nat.lt_of_lt_of_le hj hn8
  refine x_aload_n (j := 0) hc dX3_pay_0 rfl rfl ?_
  refine x_iload_n (j := 1) hc dX3_pay_1 rfl rfl ?_
  refine x_callV (C := RX3) (T := TX3) (NN := 19) (ci := 4) (As := [.int (nI j)]) (st := []) hc hm.1 (by omega) (by decide) rfl (m_isShT l D z e0 L K N I J R m now n pic sh hc0 j hj) gX3_pay_X3_isSharer rfl hdV_X3_isSharer ⟨Nat.le_of_ble_eq_true rfl, Nat.le_of_ble_eq_true rfl⟩ rfl rfl ⟨Nat.le_of_ble_eq_true rfl, Nat.le_of_ble_eq_true rfl⟩ (Nat.le_of_ble_eq_true rfl) dX3_pay_2 (fun v9 I9 J9 hz9 => ?_)
  obtain ⟨rfl, hI9, hJ9⟩ := hz9
  replace hI9 := hI9.symm
  subst hI9
  replace hJ9 := hJ9.symm
  subst hJ9
  refine x_if_ne (tgt := 10) hc dX3_pay_5 (by decide) (fun _ => ?_) (fun q9 => absurd q9 (by decide))
  refine x_aload_n (j := 0) hc dX3_pay_10 rfl rfl ?_
  refine x_iload_n (j := 1) hc dX3_pay_11 rfl rfl ?_
  refine x_callV (C := RX3) (T := TX3) (NN := 19) (ci := 4) (As := [.int (nI j)]) (st := []) hc hm.1 (by omega) (by decide) rfl (m_sumOf l D z e0 L K N (u2 I m 18 0) J R m now n pic sh (hc0.thr 0) j hj) gX3_pay_X3_sumOf rfl hdV_X3_sumOf ⟨Nat.le_of_ble_eq_true rfl, Nat.le_of_ble_eq_true rfl⟩ rfl rfl ⟨Nat.le_of_ble_eq_true rfl, Nat.le_of_ble_eq_true rfl⟩ (Nat.le_of_ble_eq_true rfl) dX3_pay_12 (fun v9 I9 J9 hz9 => ?_)
  obtain ⟨rfl, hI9, hJF⟩ := hz9
  replace hI9 := hI9.symm
  subst hI9
  refine x_vall (y := smf I R m pic sh n now j) (smf_thr hm 0 pic sh n now j) ?_
  refine x_l2i hc dX3_pay_15 ?_
  refine x_aload_n (j := 0) hc dX3_pay_16 rfl rfl ?_
  refine x_getR (C := RX3) (T := TX3) (NN := 19) (ci := 4) (ref := "NetPointsModel") hc 13 in_X3_pay_4 rfl (by decide) lf_X3_pay_43 (fun _ h9 => h9) hm.1 (by omega) (by decide) rfl ((hm.cel 13 1141 8 (by decide)).1) dX3_pay_17 ?_
  refine x_iload_n (j := 1) hc dX3_pay_20 rfl rfl ?_
  refine x_iald hc ((hm.cel 13 1141 8 (by decide)).2) (by decide) rfl (by omega) (by omega) dX3_pay_21 ?_
  refine x_vali (y := I (dr R m 13) j) (u2_a (((hm.cel 13 1141 8 (by decide)).2).ne (hm.1) (by decide))) ?_
  refine x_isub hc dX3_pay_22 ?_
  refine x_istore_n (lv' := [(2, .int ((Int64.toInt32 (smf I R m pic sh n now j)) - (I (dr R m 13) j))), (0, .ref m), (1, .int (nI j))]) hc dX3_pay_23 rfl (by decide) rfl ?_
  refine x_iload_n (j := 0) hc dX3_pay_24 rfl rfl ?_
  refine x_if_gt (tgt := 34) hc dX3_pay_25 (by decide) (fun _ => ?_) (fun q9 => absurd (hpos) q9)
  refine x_aload_n (j := 1) hc dX3_pay_34 rfl rfl ?_
  refine x_getR (C := RX3) (T := TX3) (NN := 19) (ci := 4) (ref := "NetPointsModel") hc 13 in_X3_pay_4 rfl (by decide) lf_X3_pay_43 (fun _ h9 => h9) hm.1 (by omega) (by decide) rfl ((hm.cel 13 1141 8 (by decide)).1) dX3_pay_35 ?_
  refine x_iload_n (j := 2) hc dX3_pay_38 rfl rfl ?_
  refine x_dup2 hc dX3_pay_39 rfl rfl ?_
  refine x_iald hc ((hm.cel 13 1141 8 (by decide)).2) (by decide) rfl (by omega) (by omega) dX3_pay_40 ?_
  refine x_vali (y := I (dr R m 13) j) (u2_a (((hm.cel 13 1141 8 (by decide)).2).ne (hm.1) (by decide))) ?_
  refine x_iload_n (j := 0) hc dX3_pay_41 rfl rfl ?_
  refine x_iadd hc dX3_pay_42 ?_
  refine x_iast hc ((hm.cel 13 1141 8 (by decide)).2) (by decide) rfl (by omega) (by omega) dX3_pay_43 ?_
  refine x_iload_n (j := 0) hc dX3_pay_44 rfl rfl ?_
  exact x_iret hc hr (by decide) (by decide) dX3_pay_45 (⟨rfl, rfl, hJF⟩)
set_option maxHeartbeats 4000000 in
set_option maxRecDepth 100000 in
theorem m_pay2 (l : Launch) (D : va_G) (z e0 : Nat) (L : List Nat) (K N : Nat → Nat) (I : Nat → Nat → Int32) (J : Nat → Nat → Int64) (R : Nat → Nat → Option Nat) (m now n : Nat) (pic : Nat → Nat) (sh : Nat → Nat → Shr) (hc0 : MC L K N I R m now n pic sh) (j : Nat) (hj : j < n) (hpos : ¬ (Int64.toInt32 (smf I R m pic sh n now j)) - (I (dr R m 13) j) > 0) : MG l yX3_pay wsX3_pay rm_X3_pay D z e0 L K N I J R [.ref m, .int (nI j)] (fun v I' J' => v = some (.int 0) ∧ I' = u2 I m 18 2 ∧ JF R m J J') := by
  refine mg_of (own := RX3) (maxL := 3) (ret := (some .int)) (by decide +kernel) rfl rfl (Nat.le_of_ble_eq_true rfl) ?_
  intro pg ev s mi args below meth c hc hr
  have hm := hc0.1
  have hnow := hc0.2.2.1
  have hn8 := hc0.2.2.2.2.1
  have hj8 : j < 8 := Nat.lt_of_lt_of_le hj hn8
  refine x_aload_n (j := 0) hc dX3_pay_0 rfl rfl ?_
  refine x_iload_n (j := 1) hc dX3_pay_1 rfl rfl ?_
  refine x_callV (C := RX3) (T := TX3) (NN := 19) (ci := 4) (As := [.int (nI j)]) (st := []) hc hm.1 (by omega) (by decide) rfl (m_isShT l D z e0 L K N I J R m now n pic sh hc0 j hj) gX3_pay_X3_isSharer rfl hdV_X3_isSharer ⟨Nat.le_of_ble_eq_true rfl, Nat.le_of_ble_eq_true rfl⟩ rfl rfl ⟨Nat.le_of_ble_eq_true rfl, Nat.le_of_ble_eq_true rfl⟩ (Nat.le_of_ble_eq_true rfl) dX3_pay_2 (fun v9 I9 J9 hz9 => ?_)
  obtain ⟨rfl, hI9, hJ9⟩ := hz9
  replace hI9 := hI9.symm
  subst hI9
  replace hJ9 := hJ9.symm
  subst hJ9
  refine x_if_ne (tgt := 10) hc dX3_pay_5 (by decide) (fun _ => ?_) (fun q9 => absurd q9 (by decide))
  refine x_aload_n (j := 0) hc dX3_pay_10 rfl rfl ?_
  refine x_iload_n (j := 1) hc dX3_pay_11 rfl rfl ?_
  refine x_callV (C := RX3) (T := TX3) (NN := 19) (ci := 4) (As := [.int (nI j)]) (st := []) hc hm.1 (by omega) (by decide) rfl (m_sumOf l D z e0 L K N (u2 I m 18 0) J R m now n pic sh (hc0.thr 0) j hj) gX3_pay_X3_sumOf rfl hdV_X3_sumOf ⟨Nat.le_of_ble_eq_true rfl, Nat.le_of_ble_eq_true rfl⟩ rfl rfl ⟨Nat.le_of_ble_eq_true rfl, Nat.le_of_ble_eq_true rfl⟩ (Nat.le_of_ble_eq_true rfl) dX3_pay_12 (fun v9 I9 J9 hz9 => ?_)
  obtain ⟨rfl, hI9, hJF⟩ := hz9
  replace hI9 := hI9.symm
  subst hI9
  refine x_vall (y := smf I R m pic sh n now j) (smf_thr hm 0 pic sh n now j) ?_
  refine x_l2i hc dX3_pay_15 ?_
  refine x_aload_n (j := 0) hc dX3_pay_16 rfl rfl ?_
  refine x_getR (C := RX3) (T := TX3) (NN := 19) (ci := 4) (ref := "NetPointsModel") hc 13 in_X3_pay_4 rfl (by decide) lf_X3_pay_43 (fun _ h9 => h9) hm.1 (by omega) (by decide) rfl ((hm.cel 13 1141 8 (by decide)).1) dX3_pay_17 ?_
  refine x_iload_n (j := 1) hc dX3_pay_20 rfl rfl ?_
  refine x_iald hc ((hm.cel 13 1141 8 (by decide)).2) (by decide) rfl (by omega) (by omega) dX3_pay_21 ?_
  refine x_vali (y := I (dr R m 13) j) (u2_a (((hm.cel 13 1141 8 (by decide)).2).ne (hm.1) (by decide))) ?_
  refine x_isub hc dX3_pay_22 ?_
  refine x_istore_n (lv' := [(2, .int ((Int64.toInt32 (smf I R m pic sh n now j)) - (I (dr R m 13) j))), (0, .ref m), (1, .int (nI j))]) hc dX3_pay_23 rfl (by decide) rfl ?_
  refine x_iload_n (j := 0) hc dX3_pay_24 rfl rfl ?_
  refine x_if_gt (tgt := 34) hc dX3_pay_25 (by decide) (fun q9 => absurd q9 (hpos)) (fun _ => ?_)
  refine x_aload_n (j := 1) hc dX3_pay_28 rfl rfl ?_
  refine x_iconst (v := 2) hc dX3_pay_29 (by decide) ?_
  refine x_callV (C := RX3) (T := TX3) (NN := 19) (ci := 4) (As := [.int 2]) (st := []) hc hm.1 (by omega) (by decide) rfl (m_fails l D z e0 L K N (u2 I m 18 0) J9 R m hm 2) gX3_pay_X3_fails rfl hdV_X3_fails ⟨Nat.le_of_ble_eq_true rfl, Nat.le_of_ble_eq_true rfl⟩ rfl rfl ⟨Nat.le_of_ble_eq_true rfl, Nat.le_of_ble_eq_true rfl⟩ (Nat.le_of_ble_eq_true rfl) dX3_pay_30 (fun v9 I9 J9 hz9 => ?_)
  obtain ⟨rfl, hI9, hJ9⟩ := hz9
  replace hI9 := hI9.symm
  subst hI9
  replace hJ9 := hJ9.symm
  subst hJ9
  refine x_setI u2_u2 ?_
  exact x_iret hc hr (by decide) (by decide) dX3_pay_33 (⟨rfl, rfl, hJF⟩)
set_option maxHeartbeats 4000000 in
set_option maxRecDepth 100000 in
theorem m_pay1 (l : Launch) (D : va_G) (z e0 : Nat) (L : List Nat) (K N : Nat → Nat) (I : Nat → Nat → Int32) (J : Nat → Nat → Int64) (R : Nat → Nat → Option Nat) (m now n : Nat) (pic : Nat → Nat) (sh : Nat → Nat → Shr) (hc0 : MC L K N I R m now n pic sh) (q : Int32) (hq : ¬ (0 ≤ q ∧ q ≤ nI n - 1)) : MG l yX3_pay wsX3_pay rm_X3_pay D z e0 L K N I J R [.ref m, .int q] (fun v I' J' => v = some (.int 0) ∧ I' = u2 I m 18 1 ∧ J' = J) := by
  refine mg_of (own := RX3) (maxL := 3) (ret := (some .int)) (by decide +kernel) rfl rfl (Nat.le_of_ble_eq_true rfl) ?_
  intro pg ev s mi args below meth c hc hr
  have hm := hc0.1
  have hnow := hc0.2.2.1
  have hn8 := hc0.2.2.2.2.1
  refine x_aload_n (j := 0) hc dX3_pay_0 rfl rfl ?_
  refine x_iload_n (j := 1) hc dX3_pay_1 rfl rfl ?_
  refine x_callV (C := RX3) (T := TX3) (NN := 19) (ci := 4) (As := [.int q]) (st := []) hc hm.1 (by omega) (by decide) rfl (m_isShF l D z e0 L K N I J R m now n pic sh hc0 q hq) gX3_pay_X3_isSharer rfl hdV_X3_isSharer ⟨Nat.le_of_ble_eq_true rfl, Nat.le_of_ble_eq_true rfl⟩ rfl rfl ⟨Nat.le_of_ble_eq_true rfl, Nat.le_of_ble_eq_true rfl⟩ (Nat.le_of_ble_eq_true rfl) dX3_pay_2 (fun v9 I9 J9 hz9 => ?_)
  obtain ⟨rfl, hI9, hJ9⟩ := hz9
  replace hI9 := hI9.symm
  subst hI9
  replace hJ9 := hJ9.symm
  subst hJ9
  refine x_if_ne (tgt := 10) hc dX3_pay_5 (by decide) (fun q9 => absurd q9 (by decide)) (fun _ => ?_)
  refine x_iconst (v := 0) hc dX3_pay_8 (by decide) ?_
  exact x_iret hc hr (by decide) (by decide) dX3_pay_9 (⟨rfl, rfl, rfl⟩)
abbrev rm_X3_gross : Room := { frames := 2, cells := 0, slots := 0, locals := 49 }
set_option maxHeartbeats 4000000 in
set_option maxRecDepth 100000 in
theorem m_gross (l : Launch) (D : va_G) (z e0 : Nat) (L : List Nat) (K N : Nat → Nat) (I : Nat → Nat → Int32) (J : Nat → Nat → Int64) (R : Nat → Nat → Option Nat) (m now n : Nat) (pic : Nat → Nat) (sh : Nat → Nat → Shr) (hc0 : MC L K N I R m now n pic sh) (k : Nat) (hk : k < 2) : MG l yX3_gross wsX3_gross rm_X3_gross D z e0 L K N I J R [.ref m, .int (nI k)] (fun v I' J' => v = some (.int (Int64.toInt32 (sumG (mrc I R m k) (now + 1)))) ∧ I' = u2 I m 18 0 ∧ J' = J) := by
  refine mg_of (own := RX3) (maxL := 5) (ret := (some .int)) (by decide +kernel) rfl rfl (Nat.le_of_ble_eq_true rfl) ?_
  intro pg ev s mi args below meth c hc hr
  have hm := hc0.1
  have hnow := hc0.2.2.1
  have hn8 := hc0.2.2.2.2.1
  refine x_aload_n (j := 0) hc dX3_gross_0 rfl rfl ?_
  refine x_iconst (v := 0) hc dX3_gross_1 (by decide) ?_
  refine x_putI (C := RX3) (T := TX3) (NN := 19) (ci := 4) (ref := "NetPointsModel") hc 18 in_X3_gross_4 rfl (by decide) lf_X3_gross_56 (fun _ h9 => h9) tyX3 tyX3_ok nmX3 hm.1 (by omega) (by decide) rfl rfl pd_X3_18 dX3_gross_2 ?_
  refine x_iload_n (j := 1) hc dX3_gross_5 rfl rfl ?_
  refine x_callS (As := [.int (nI k)]) (st := []) hc (m_isPicT l D z e0 L K N (u2 I m 18 0) J R k hk) gX3_gross_X3_isPicture rfl hdS_X3_isPicture ⟨Nat.le_of_ble_eq_true rfl, Nat.le_of_ble_eq_true rfl⟩ rfl rfl ⟨Nat.le_of_ble_eq_true rfl, Nat.le_of_ble_eq_true rfl⟩ (Nat.le_of_ble_eq_true rfl) dX3_gross_6 (fun v9 I9 J9 hz9 => ?_)
  obtain ⟨rfl, hI9, hJ9⟩ := hz9
  replace hI9 := hI9.symm
  subst hI9
  replace hJ9 := hJ9.symm
  subst hJ9
  refine x_if_ne (tgt := 18) hc dX3_gross_9 (by decide) (fun _ => ?_) (fun q9 => absurd q9 (by decide))
  refine x_lconst (v := 0) hc dX3_gross_18 rfl ?_
  refine x_lstore_n (lv' := [(2, .long 0), (0, .ref m), (1, .int (nI k))]) hc dX3_gross_19 rfl (by decide) rfl ?_
  refine x_iconst (v := 0) hc dX3_gross_20 (by decide) ?_
  refine x_istore (lv' := [(4, .int 0), (2, .long 0), (0, .ref m), (1, .int (nI k))]) hc dX3_gross_21 (by decide) rfl ?_
  have hloop : ∀ (d y : Nat) (s0 : Int64), y + d = now + 1 → s0 = sumG (mrc I R m k) y → XW pg l ev rm_X3_gross s mi args below meth c D z 5 L K N (u2 I m 18 0) J R 0 0 (MQ below (QG D z L K N R (fun v I' J' => v = some (.int (Int64.toInt32 (sumG (mrc I R m k) (now + 1)))) ∧ I' = u2 I m 18 0 ∧ J' = J)) args s (rm_X3_gross).cells (rm_X3_gross).slots (fun q => z ≤ q)) 23 [(4, .int (nI y)), (2, .long s0), (0, .ref m), (1, .int (nI k))] [] := by
    intro d
    induction d with
    | zero =>
      intro y s0 hy hs
      refine x_iload (j := 0) hc dX3_gross_23 rfl ?_
      refine x_aload_n (j := 2) hc dX3_gross_25 rfl rfl ?_
      refine x_getI (C := RX3) (T := TX3) (NN := 19) (ci := 4) (ref := "NetPointsModel") hc 7 in_X3_gross_4 rfl (by decide) lf_X3_gross_85 (fun _ h9 => h9) hm.1 (by omega) (by decide) rfl dX3_gross_26 ?_
      refine x_vali (y := nI now) ((u2_k (by decide)).trans ((hc0.2.1))) ?_
      refine x_icmp_gt (tgt := 48) hc dX3_gross_29 (by decide) (fun _ => ?_) (fun q9 => absurd (show nI now < nI y from nI_lt (show now < y by omega) (show y < 2 ^ 31 by omega)) q9)
      refine x_lload_n (j := 1) hc dX3_gross_48 rfl rfl ?_
      refine x_l2i hc dX3_gross_49 ?_
      exact x_iret hc hr (by decide) (by decide) dX3_gross_50 (⟨by rw [hs, show y = now + 1 by omega], rfl, rfl⟩)
    | succ d ih =>
      intro y s0 hy hs
      have hyn : y ≤ now := by omega
      have hy10 : y < 10 := by omega
      refine x_iload (j := 0) hc dX3_gross_23 rfl ?_
      refine x_aload_n (j := 2) hc dX3_gross_25 rfl rfl ?_
      refine x_getI (C := RX3) (T := TX3) (NN := 19) (ci := 4) (ref := "NetPointsModel") hc 7 in_X3_gross_4 rfl (by decide) lf_X3_gross_85 (fun _ h9 => h9) hm.1 (by omega) (by decide) rfl dX3_gross_26 ?_
      refine x_vali (y := nI now) ((u2_k (by decide)).trans ((hc0.2.1))) ?_
      refine x_icmp_gt (tgt := 48) hc dX3_gross_29 (by decide) (fun q9 => absurd q9 (nI_nlt hyn (show now < 2 ^ 31 by omega))) (fun _ => ?_)
      refine x_lload_n (j := 1) hc dX3_gross_32 rfl rfl ?_
      refine x_aload_n (j := 2) hc dX3_gross_33 rfl rfl ?_
      refine x_iload_n (j := 3) hc dX3_gross_34 rfl rfl ?_
      refine x_iload (j := 0) hc dX3_gross_35 rfl ?_
      refine x_callV (C := RX3) (T := TX3) (NN := 19) (ci := 4) (As := [.int (nI k), .int (nI y)]) (st := [.long s0]) hc hm.1 (by omega) (by decide) rfl (m_grossOf l D z e0 L K N (u2 I m 18 0) J R m hm k y hk hy10) gX3_gross_X3_grossOf rfl hdV_X3_grossOf ⟨Nat.le_of_ble_eq_true rfl, Nat.le_of_ble_eq_true rfl⟩ rfl rfl ⟨Nat.le_of_ble_eq_true rfl, Nat.le_of_ble_eq_true rfl⟩ (Nat.le_of_ble_eq_true rfl) dX3_gross_37 (fun v9 I9 J9 hz9 => ?_)
      obtain ⟨rfl, hI9, hJ9⟩ := hz9
      replace hI9 := hI9.symm
      subst hI9
      replace hJ9 := hJ9.symm
      subst hJ9
      refine x_vall (y := grossY (mrc I R m k y)) ((by rw [mrc_thr hm])) ?_
      refine x_ladd hc dX3_gross_40 ?_
      refine x_lstore_n (lv' := [(2, .long (s0 + (grossY (mrc I R m k y)))), (4, .int (nI y)), (0, .ref m), (1, .int (nI k))]) hc dX3_gross_41 rfl (by decide) rfl ?_
      refine x_iinc (j := 1) (v := nI (y + 1)) (lv' := [(4, .int (nI (y + 1))), (2, .long (s0 + (grossY (mrc I R m k y)))), (0, .ref m), (1, .int (nI k))]) hc dX3_gross_42 rfl (nI_1 y) (by decide) rfl ?_
      refine x_goto (tgt := 23) hc dX3_gross_45 (by decide) ?_
      refine x_sub [0, 1, 2, 3] rfl ?_
      exact ih (y + 1) _ (by omega) (by rw [hs]; rfl)
  exact hloop (now + 1) 0 0 (by omega) rfl
set_option maxHeartbeats 4000000 in
set_option maxRecDepth 100000 in
theorem m_gross1 (l : Launch) (D : va_G) (z e0 : Nat) (L : List Nat) (K N : Nat → Nat) (I : Nat → Nat → Int32) (J : Nat → Nat → Int64) (R : Nat → Nat → Option Nat) (m : Nat) (hm : Mdl L K N R m) (q : Int32) (hq : ¬ (0 ≤ q ∧ q ≤ 1)) : MG l yX3_gross wsX3_gross rm_X3_gross D z e0 L K N I J R [.ref m, .int q] (fun v I' J' => v = some (.int 0) ∧ I' = u2 I m 18 1 ∧ J' = J) := by
  refine mg_of (own := RX3) (maxL := 5) (ret := (some .int)) (by decide +kernel) rfl rfl (Nat.le_of_ble_eq_true rfl) ?_
  intro pg ev s mi args below meth c hc hr
  refine x_aload_n (j := 0) hc dX3_gross_0 rfl rfl ?_
  refine x_iconst (v := 0) hc dX3_gross_1 (by decide) ?_
  refine x_putI (C := RX3) (T := TX3) (NN := 19) (ci := 4) (ref := "NetPointsModel") hc 18 in_X3_gross_4 rfl (by decide) lf_X3_gross_56 (fun _ h9 => h9) tyX3 tyX3_ok nmX3 hm.1 (by omega) (by decide) rfl rfl pd_X3_18 dX3_gross_2 ?_
  refine x_iload_n (j := 1) hc dX3_gross_5 rfl rfl ?_
  refine x_callS (As := [.int q]) (st := []) hc (m_isPicF l D z e0 L K N (u2 I m 18 0) J R q hq) gX3_gross_X3_isPicture rfl hdS_X3_isPicture ⟨Nat.le_of_ble_eq_true rfl, Nat.le_of_ble_eq_true rfl⟩ rfl rfl ⟨Nat.le_of_ble_eq_true rfl, Nat.le_of_ble_eq_true rfl⟩ (Nat.le_of_ble_eq_true rfl) dX3_gross_6 (fun v9 I9 J9 hz9 => ?_)
  obtain ⟨rfl, hI9, hJ9⟩ := hz9
  replace hI9 := hI9.symm
  subst hI9
  replace hJ9 := hJ9.symm
  subst hJ9
  refine x_if_ne (tgt := 18) hc dX3_gross_9 (by decide) (fun q9 => absurd q9 (by decide)) (fun _ => ?_)
  refine x_aload_n (j := 0) hc dX3_gross_12 rfl rfl ?_
  refine x_iconst (v := 1) hc dX3_gross_13 (by decide) ?_
  refine x_callV (C := RX3) (T := TX3) (NN := 19) (ci := 4) (As := [.int 1]) (st := []) hc hm.1 (by omega) (by decide) rfl (m_fails l D z e0 L K N (u2 I m 18 0) J R m hm 1) gX3_gross_X3_fails rfl hdV_X3_fails ⟨Nat.le_of_ble_eq_true rfl, Nat.le_of_ble_eq_true rfl⟩ rfl rfl ⟨Nat.le_of_ble_eq_true rfl, Nat.le_of_ble_eq_true rfl⟩ (Nat.le_of_ble_eq_true rfl) dX3_gross_14 (fun v9 I9 J9 hz9 => ?_)
  obtain ⟨rfl, hI9, hJ9⟩ := hz9
  replace hI9 := hI9.symm
  subst hI9
  replace hJ9 := hJ9.symm
  subst hJ9
  refine x_setI u2_u2 ?_
  exact x_iret hc hr (by decide) (by decide) dX3_gross_17 (⟨rfl, rfl, rfl⟩)
abbrev rm_X3_adjusted : Room := { frames := 3, cells := 0, slots := 0, locals := 73 }
set_option maxHeartbeats 4000000 in
set_option maxRecDepth 100000 in
theorem m_adjusted (l : Launch) (D : va_G) (z e0 : Nat) (L : List Nat) (K N : Nat → Nat) (I : Nat → Nat → Int32) (J : Nat → Nat → Int64) (R : Nat → Nat → Option Nat) (m now n : Nat) (pic : Nat → Nat) (sh : Nat → Nat → Shr) (hc0 : MC L K N I R m now n pic sh) (k : Nat) (hk : k < 2) : MG l yX3_adjusted wsX3_adjusted rm_X3_adjusted D z e0 L K N I J R [.ref m, .int (nI k)] (fun v I' J' => v = some (.int (Int64.toInt32 (sumA (I (dr R m 3) k) (mrc I R m k) (now + 1)))) ∧ I' = u2 I m 18 0 ∧ J' = J) := by
  refine mg_of (own := RX3) (maxL := 5) (ret := (some .int)) (by decide +kernel) rfl rfl (Nat.le_of_ble_eq_true rfl) ?_
  intro pg ev s mi args below meth c hc hr
  have hm := hc0.1
  have hnow := hc0.2.2.1
  have hn8 := hc0.2.2.2.2.1
  refine x_aload_n (j := 0) hc dX3_adjusted_0 rfl rfl ?_
  refine x_iconst (v := 0) hc dX3_adjusted_1 (by decide) ?_
  refine x_putI (C := RX3) (T := TX3) (NN := 19) (ci := 4) (ref := "NetPointsModel") hc 18 in_X3_adjusted_4 rfl (by decide) lf_X3_adjusted_56 (fun _ h9 => h9) tyX3 tyX3_ok nmX3 hm.1 (by omega) (by decide) rfl rfl pd_X3_18 dX3_adjusted_2 ?_
  refine x_iload_n (j := 1) hc dX3_adjusted_5 rfl rfl ?_
  refine x_callS (As := [.int (nI k)]) (st := []) hc (m_isPicT l D z e0 L K N (u2 I m 18 0) J R k hk) gX3_adjusted_X3_isPicture rfl hdS_X3_isPicture ⟨Nat.le_of_ble_eq_true rfl, Nat.le_of_ble_eq_true rfl⟩ rfl rfl ⟨Nat.le_of_ble_eq_true rfl, Nat.le_of_ble_eq_true rfl⟩ (Nat.le_of_ble_eq_true rfl) dX3_adjusted_6 (fun v9 I9 J9 hz9 => ?_)
  obtain ⟨rfl, hI9, hJ9⟩ := hz9
  replace hI9 := hI9.symm
  subst hI9
  replace hJ9 := hJ9.symm
  subst hJ9
  refine x_if_ne (tgt := 18) hc dX3_adjusted_9 (by decide) (fun _ => ?_) (fun q9 => absurd q9 (by decide))
  refine x_lconst (v := 0) hc dX3_adjusted_18 rfl ?_
  refine x_lstore_n (lv' := [(2, .long 0), (0, .ref m), (1, .int (nI k))]) hc dX3_adjusted_19 rfl (by decide) rfl ?_
  refine x_iconst (v := 0) hc dX3_adjusted_20 (by decide) ?_
  refine x_istore (lv' := [(4, .int 0), (2, .long 0), (0, .ref m), (1, .int (nI k))]) hc dX3_adjusted_21 (by decide) rfl ?_
  have hloop : ∀ (d y : Nat) (s0 : Int64), y + d = now + 1 → s0 = sumA (I (dr R m 3) k) (mrc I R m k) y → XW pg l ev rm_X3_adjusted s mi args below meth c D z 5 L K N (u2 I m 18 0) J R 0 0 (MQ below (QG D z L K N R (fun v I' J' => v = some (.int (Int64.toInt32 (sumA (I (dr R m 3) k) (mrc I R m k) (now + 1)))) ∧ I' = u2 I m 18 0 ∧ J' = J)) args s (rm_X3_adjusted).cells (rm_X3_adjusted).slots (fun q => z ≤ q)) 23 [(4, .int (nI y)), (2, .long s0), (0, .ref m), (1, .int (nI k))] [] := by
    intro d
    induction d with
    | zero =>
      intro y s0 hy hs
      refine x_iload (j := 0) hc dX3_adjusted_23 rfl ?_
      refine x_aload_n (j := 2) hc dX3_adjusted_25 rfl rfl ?_
      refine x_getI (C := RX3) (T := TX3) (NN := 19) (ci := 4) (ref := "NetPointsModel") hc 7 in_X3_adjusted_4 rfl (by decide) lf_X3_adjusted_85 (fun _ h9 => h9) hm.1 (by omega) (by decide) rfl dX3_adjusted_26 ?_
      refine x_vali (y := nI now) ((u2_k (by decide)).trans ((hc0.2.1))) ?_
      refine x_icmp_gt (tgt := 48) hc dX3_adjusted_29 (by decide) (fun _ => ?_) (fun q9 => absurd (show nI now < nI y from nI_lt (show now < y by omega) (show y < 2 ^ 31 by omega)) q9)
      refine x_lload_n (j := 1) hc dX3_adjusted_48 rfl rfl ?_
      refine x_l2i hc dX3_adjusted_49 ?_
      exact x_iret hc hr (by decide) (by decide) dX3_adjusted_50 (⟨by rw [hs, show y = now + 1 by omega], rfl, rfl⟩)
    | succ d ih =>
      intro y s0 hy hs
      have hyn : y ≤ now := by omega
      have hy10 : y < 10 := by omega
      refine x_iload (j := 0) hc dX3_adjusted_23 rfl ?_
      refine x_aload_n (j := 2) hc dX3_adjusted_25 rfl rfl ?_
      refine x_getI (C := RX3) (T := TX3) (NN := 19) (ci := 4) (ref := "NetPointsModel") hc 7 in_X3_adjusted_4 rfl (by decide) lf_X3_adjusted_85 (fun _ h9 => h9) hm.1 (by omega) (by decide) rfl dX3_adjusted_26 ?_
      refine x_vali (y := nI now) ((u2_k (by decide)).trans ((hc0.2.1))) ?_
      refine x_icmp_gt (tgt := 48) hc dX3_adjusted_29 (by decide) (fun q9 => absurd q9 (nI_nlt hyn (show now < 2 ^ 31 by omega))) (fun _ => ?_)
      refine x_lload_n (j := 1) hc dX3_adjusted_32 rfl rfl ?_
      refine x_aload_n (j := 2) hc dX3_adjusted_33 rfl rfl ?_
      refine x_iload_n (j := 3) hc dX3_adjusted_34 rfl rfl ?_
      refine x_iload (j := 0) hc dX3_adjusted_35 rfl ?_
      refine x_callV (C := RX3) (T := TX3) (NN := 19) (ci := 4) (As := [.int (nI k), .int (nI y)]) (st := [.long s0]) hc hm.1 (by omega) (by decide) rfl (m_adjustedOf l D z e0 L K N (u2 I m 18 0) J R m hm k y hk hy10) gX3_adjusted_X3_adjustedOf rfl hdV_X3_adjustedOf ⟨Nat.le_of_ble_eq_true rfl, Nat.le_of_ble_eq_true rfl⟩ rfl rfl ⟨Nat.le_of_ble_eq_true rfl, Nat.le_of_ble_eq_true rfl⟩ (Nat.le_of_ble_eq_true rfl) dX3_adjusted_37 (fun v9 I9 J9 hz9 => ?_)
      obtain ⟨rfl, hI9, hJ9⟩ := hz9
      replace hI9 := hI9.symm
      subst hI9
      replace hJ9 := hJ9.symm
      subst hJ9
      refine x_vall (y := adY (I (dr R m 3) k) (mrc I R m k y)) ((by rw [mrc_thr hm, thr_row hm 0 (q := (3, 1013, 2)) (by decide)])) ?_
      refine x_ladd hc dX3_adjusted_40 ?_
      refine x_lstore_n (lv' := [(2, .long (s0 + (adY (I (dr R m 3) k) (mrc I R m k y)))), (4, .int (nI y)), (0, .ref m), (1, .int (nI k))]) hc dX3_adjusted_41 rfl (by decide) rfl ?_
      refine x_iinc (j := 1) (v := nI (y + 1)) (lv' := [(4, .int (nI (y + 1))), (2, .long (s0 + (adY (I (dr R m 3) k) (mrc I R m k y)))), (0, .ref m), (1, .int (nI k))]) hc dX3_adjusted_42 rfl (nI_1 y) (by decide) rfl ?_
      refine x_goto (tgt := 23) hc dX3_adjusted_45 (by decide) ?_
      refine x_sub [0, 1, 2, 3] rfl ?_
      exact ih (y + 1) _ (by omega) (by rw [hs]; rfl)
  exact hloop (now + 1) 0 0 (by omega) rfl
set_option maxHeartbeats 4000000 in
set_option maxRecDepth 100000 in
theorem m_adjusted1 (l : Launch) (D : va_G) (z e0 : Nat) (L : List Nat) (K N : Nat → Nat) (I : Nat → Nat → Int32) (J : Nat → Nat → Int64) (R : Nat → Nat → Option Nat) (m : Nat) (hm : Mdl L K N R m) (q : Int32) (hq : ¬ (0 ≤ q ∧ q ≤ 1)) : MG l yX3_adjusted wsX3_adjusted rm_X3_adjusted D z e0 L K N I J R [.ref m, .int q] (fun v I' J' => v = some (.int 0) ∧ I' = u2 I m 18 1 ∧ J' = J) := by
  refine mg_of (own := RX3) (maxL := 5) (ret := (some .int)) (by decide +kernel) rfl rfl (Nat.le_of_ble_eq_true rfl) ?_
  intro pg ev s mi args below meth c hc hr
  refine x_aload_n (j := 0) hc dX3_adjusted_0 rfl rfl ?_
  refine x_iconst (v := 0) hc dX3_adjusted_1 (by decide) ?_
  refine x_putI (C := RX3) (T := TX3) (NN := 19) (ci := 4) (ref := "NetPointsModel") hc 18 in_X3_adjusted_4 rfl (by decide) lf_X3_adjusted_56 (fun _ h9 => h9) tyX3 tyX3_ok nmX3 hm.1 (by omega) (by decide) rfl rfl pd_X3_18 dX3_adjusted_2 ?_
  refine x_iload_n (j := 1) hc dX3_adjusted_5 rfl rfl ?_
  refine x_callS (As := [.int q]) (st := []) hc (m_isPicF l D z e0 L K N (u2 I m 18 0) J R q hq) gX3_adjusted_X3_isPicture rfl hdS_X3_isPicture ⟨Nat.le_of_ble_eq_true rfl, Nat.le_of_ble_eq_true rfl⟩ rfl rfl ⟨Nat.le_of_ble_eq_true rfl, Nat.le_of_ble_eq_true rfl⟩ (Nat.le_of_ble_eq_true rfl) dX3_adjusted_6 (fun v9 I9 J9 hz9 => ?_)
  obtain ⟨rfl, hI9, hJ9⟩ := hz9
  replace hI9 := hI9.symm
  subst hI9
  replace hJ9 := hJ9.symm
  subst hJ9
  refine x_if_ne (tgt := 18) hc dX3_adjusted_9 (by decide) (fun q9 => absurd q9 (by decide)) (fun _ => ?_)
  refine x_aload_n (j := 0) hc dX3_adjusted_12 rfl rfl ?_
  refine x_iconst (v := 1) hc dX3_adjusted_13 (by decide) ?_
  refine x_callV (C := RX3) (T := TX3) (NN := 19) (ci := 4) (As := [.int 1]) (st := []) hc hm.1 (by omega) (by decide) rfl (m_fails l D z e0 L K N (u2 I m 18 0) J R m hm 1) gX3_adjusted_X3_fails rfl hdV_X3_fails ⟨Nat.le_of_ble_eq_true rfl, Nat.le_of_ble_eq_true rfl⟩ rfl rfl ⟨Nat.le_of_ble_eq_true rfl, Nat.le_of_ble_eq_true rfl⟩ (Nat.le_of_ble_eq_true rfl) dX3_adjusted_14 (fun v9 I9 J9 hz9 => ?_)
  obtain ⟨rfl, hI9, hJ9⟩ := hz9
  replace hI9 := hI9.symm
  subst hI9
  replace hJ9 := hJ9.symm
  subst hJ9
  refine x_setI u2_u2 ?_
  exact x_iret hc hr (by decide) (by decide) dX3_adjusted_17 (⟨rfl, rfl, rfl⟩)
abbrev rm_X3_fees : Room := { frames := 2, cells := 0, slots := 0, locals := 49 }
set_option maxHeartbeats 4000000 in
set_option maxRecDepth 100000 in
theorem m_fees (l : Launch) (D : va_G) (z e0 : Nat) (L : List Nat) (K N : Nat → Nat) (I : Nat → Nat → Int32) (J : Nat → Nat → Int64) (R : Nat → Nat → Option Nat) (m now n : Nat) (pic : Nat → Nat) (sh : Nat → Nat → Shr) (hc0 : MC L K N I R m now n pic sh) (k : Nat) (hk : k < 2) : MG l yX3_fees wsX3_fees rm_X3_fees D z e0 L K N I J R [.ref m, .int (nI k)] (fun v I' J' => v = some (.int (Int64.toInt32 (sumE (mrc I R m k) (mfe I R m k) (now + 1)))) ∧ I' = u2 I m 18 0 ∧ J' = J) := by
  refine mg_of (own := RX3) (maxL := 5) (ret := (some .int)) (by decide +kernel) rfl rfl (Nat.le_of_ble_eq_true rfl) ?_
  intro pg ev s mi args below meth c hc hr
  have hm := hc0.1
  have hnow := hc0.2.2.1
  have hn8 := hc0.2.2.2.2.1
  refine x_aload_n (j := 0) hc dX3_fees_0 rfl rfl ?_
  refine x_iconst (v := 0) hc dX3_fees_1 (by decide) ?_
  refine x_putI (C := RX3) (T := TX3) (NN := 19) (ci := 4) (ref := "NetPointsModel") hc 18 in_X3_fees_4 rfl (by decide) lf_X3_fees_56 (fun _ h9 => h9) tyX3 tyX3_ok nmX3 hm.1 (by omega) (by decide) rfl rfl pd_X3_18 dX3_fees_2 ?_
  refine x_iload_n (j := 1) hc dX3_fees_5 rfl rfl ?_
  refine x_callS (As := [.int (nI k)]) (st := []) hc (m_isPicT l D z e0 L K N (u2 I m 18 0) J R k hk) gX3_fees_X3_isPicture rfl hdS_X3_isPicture ⟨Nat.le_of_ble_eq_true rfl, Nat.le_of_ble_eq_true rfl⟩ rfl rfl ⟨Nat.le_of_ble_eq_true rfl, Nat.le_of_ble_eq_true rfl⟩ (Nat.le_of_ble_eq_true rfl) dX3_fees_6 (fun v9 I9 J9 hz9 => ?_)
  obtain ⟨rfl, hI9, hJ9⟩ := hz9
  replace hI9 := hI9.symm
  subst hI9
  replace hJ9 := hJ9.symm
  subst hJ9
  refine x_if_ne (tgt := 18) hc dX3_fees_9 (by decide) (fun _ => ?_) (fun q9 => absurd q9 (by decide))
  refine x_lconst (v := 0) hc dX3_fees_18 rfl ?_
  refine x_lstore_n (lv' := [(2, .long 0), (0, .ref m), (1, .int (nI k))]) hc dX3_fees_19 rfl (by decide) rfl ?_
  refine x_iconst (v := 0) hc dX3_fees_20 (by decide) ?_
  refine x_istore (lv' := [(4, .int 0), (2, .long 0), (0, .ref m), (1, .int (nI k))]) hc dX3_fees_21 (by decide) rfl ?_
  have hloop : ∀ (d y : Nat) (s0 : Int64), y + d = now + 1 → s0 = sumE (mrc I R m k) (mfe I R m k) y → XW pg l ev rm_X3_fees s mi args below meth c D z 5 L K N (u2 I m 18 0) J R 0 0 (MQ below (QG D z L K N R (fun v I' J' => v = some (.int (Int64.toInt32 (sumE (mrc I R m k) (mfe I R m k) (now + 1)))) ∧ I' = u2 I m 18 0 ∧ J' = J)) args s (rm_X3_fees).cells (rm_X3_fees).slots (fun q => z ≤ q)) 23 [(4, .int (nI y)), (2, .long s0), (0, .ref m), (1, .int (nI k))] [] := by
    intro d
    induction d with
    | zero =>
      intro y s0 hy hs
      refine x_iload (j := 0) hc dX3_fees_23 rfl ?_
      refine x_aload_n (j := 2) hc dX3_fees_25 rfl rfl ?_
      refine x_getI (C := RX3) (T := TX3) (NN := 19) (ci := 4) (ref := "NetPointsModel") hc 7 in_X3_fees_4 rfl (by decide) lf_X3_fees_85 (fun _ h9 => h9) hm.1 (by omega) (by decide) rfl dX3_fees_26 ?_
      refine x_vali (y := nI now) ((u2_k (by decide)).trans ((hc0.2.1))) ?_
      refine x_icmp_gt (tgt := 48) hc dX3_fees_29 (by decide) (fun _ => ?_) (fun q9 => absurd (show nI now < nI y from nI_lt (show now < y by omega) (show y < 2 ^ 31 by omega)) q9)
      refine x_lload_n (j := 1) hc dX3_fees_48 rfl rfl ?_
      refine x_l2i hc dX3_fees_49 ?_
      exact x_iret hc hr (by decide) (by decide) dX3_fees_50 (⟨by rw [hs, show y = now + 1 by omega], rfl, rfl⟩)
    | succ d ih =>
      intro y s0 hy hs
      have hyn : y ≤ now := by omega
      have hy10 : y < 10 := by omega
      refine x_iload (j := 0) hc dX3_fees_23 rfl ?_
      refine x_aload_n (j := 2) hc dX3_fees_25 rfl rfl ?_
      refine x_getI (C := RX3) (T := TX3) (NN := 19) (ci := 4) (ref := "NetPointsModel") hc 7 in_X3_fees_4 rfl (by decide) lf_X3_fees_85 (fun _ h9 => h9) hm.1 (by omega) (by decide) rfl dX3_fees_26 ?_
      refine x_vali (y := nI now) ((u2_k (by decide)).trans ((hc0.2.1))) ?_
      refine x_icmp_gt (tgt := 48) hc dX3_fees_29 (by decide) (fun q9 => absurd q9 (nI_nlt hyn (show now < 2 ^ 31 by omega))) (fun _ => ?_)
      refine x_lload_n (j := 1) hc dX3_fees_32 rfl rfl ?_
      refine x_aload_n (j := 2) hc dX3_fees_33 rfl rfl ?_
      refine x_iload_n (j := 3) hc dX3_fees_34 rfl rfl ?_
      refine x_iload (j := 0) hc dX3_fees_35 rfl ?_
      refine x_callV (C := RX3) (T := TX3) (NN := 19) (ci := 4) (As := [.int (nI k), .int (nI y)]) (st := [.long s0]) hc hm.1 (by omega) (by decide) rfl (m_feesOf l D z e0 L K N (u2 I m 18 0) J R m hm k y hk hy10) gX3_fees_X3_feesOf rfl hdV_X3_feesOf ⟨Nat.le_of_ble_eq_true rfl, Nat.le_of_ble_eq_true rfl⟩ rfl rfl ⟨Nat.le_of_ble_eq_true rfl, Nat.le_of_ble_eq_true rfl⟩ (Nat.le_of_ble_eq_true rfl) dX3_fees_37 (fun v9 I9 J9 hz9 => ?_)
      obtain ⟨rfl, hI9, hJ9⟩ := hz9
      replace hI9 := hI9.symm
      subst hI9
      replace hJ9 := hJ9.symm
      subst hJ9
      refine x_vall (y := feesY (mrc I R m k y) (mfe I R m k)) ((by rw [mrc_thr hm, mfe_thr hm])) ?_
      refine x_ladd hc dX3_fees_40 ?_
      refine x_lstore_n (lv' := [(2, .long (s0 + (feesY (mrc I R m k y) (mfe I R m k)))), (4, .int (nI y)), (0, .ref m), (1, .int (nI k))]) hc dX3_fees_41 rfl (by decide) rfl ?_
      refine x_iinc (j := 1) (v := nI (y + 1)) (lv' := [(4, .int (nI (y + 1))), (2, .long (s0 + (feesY (mrc I R m k y) (mfe I R m k)))), (0, .ref m), (1, .int (nI k))]) hc dX3_fees_42 rfl (nI_1 y) (by decide) rfl ?_
      refine x_goto (tgt := 23) hc dX3_fees_45 (by decide) ?_
      refine x_sub [0, 1, 2, 3] rfl ?_
      exact ih (y + 1) _ (by omega) (by rw [hs]; rfl)
  exact hloop (now + 1) 0 0 (by omega) rfl
set_option maxHeartbeats 4000000 in
set_option maxRecDepth 100000 in
theorem m_fees1 (l : Launch) (D : va_G) (z e0 : Nat) (L : List Nat) (K N : Nat → Nat) (I : Nat → Nat → Int32) (J : Nat → Nat → Int64) (R : Nat → Nat → Option Nat) (m : Nat) (hm : Mdl L K N R m) (q : Int32) (hq : ¬ (0 ≤ q ∧ q ≤ 1)) : MG l yX3_fees wsX3_fees rm_X3_fees D z e0 L K N I J R [.ref m, .int q] (fun v I' J' => v = some (.int 0) ∧ I' = u2 I m 18 1 ∧ J' = J) := by
  refine mg_of (own := RX3) (maxL := 5) (ret := (some .int)) (by decide +kernel) rfl rfl (Nat.le_of_ble_eq_true rfl) ?_
  intro pg ev s mi args below meth c hc hr
  refine x_aload_n (j := 0) hc dX3_fees_0 rfl rfl ?_
  refine x_iconst (v := 0) hc dX3_fees_1 (by decide) ?_
  refine x_putI (C := RX3) (T := TX3) (NN := 19) (ci := 4) (ref := "NetPointsModel") hc 18 in_X3_fees_4 rfl (by decide) lf_X3_fees_56 (fun _ h9 => h9) tyX3 tyX3_ok nmX3 hm.1 (by omega) (by decide) rfl rfl pd_X3_18 dX3_fees_2 ?_
  refine x_iload_n (j := 1) hc dX3_fees_5 rfl rfl ?_
  refine x_callS (As := [.int q]) (st := []) hc (m_isPicF l D z e0 L K N (u2 I m 18 0) J R q hq) gX3_fees_X3_isPicture rfl hdS_X3_isPicture ⟨Nat.le_of_ble_eq_true rfl, Nat.le_of_ble_eq_true rfl⟩ rfl rfl ⟨Nat.le_of_ble_eq_true rfl, Nat.le_of_ble_eq_true rfl⟩ (Nat.le_of_ble_eq_true rfl) dX3_fees_6 (fun v9 I9 J9 hz9 => ?_)
  obtain ⟨rfl, hI9, hJ9⟩ := hz9
  replace hI9 := hI9.symm
  subst hI9
  replace hJ9 := hJ9.symm
  subst hJ9
  refine x_if_ne (tgt := 18) hc dX3_fees_9 (by decide) (fun q9 => absurd q9 (by decide)) (fun _ => ?_)
  refine x_aload_n (j := 0) hc dX3_fees_12 rfl rfl ?_
  refine x_iconst (v := 1) hc dX3_fees_13 (by decide) ?_
  refine x_callV (C := RX3) (T := TX3) (NN := 19) (ci := 4) (As := [.int 1]) (st := []) hc hm.1 (by omega) (by decide) rfl (m_fails l D z e0 L K N (u2 I m 18 0) J R m hm 1) gX3_fees_X3_fails rfl hdV_X3_fails ⟨Nat.le_of_ble_eq_true rfl, Nat.le_of_ble_eq_true rfl⟩ rfl rfl ⟨Nat.le_of_ble_eq_true rfl, Nat.le_of_ble_eq_true rfl⟩ (Nat.le_of_ble_eq_true rfl) dX3_fees_14 (fun v9 I9 J9 hz9 => ?_)
  obtain ⟨rfl, hI9, hJ9⟩ := hz9
  replace hI9 := hI9.symm
  subst hI9
  replace hJ9 := hJ9.symm
  subst hJ9
  refine x_setI u2_u2 ?_
  exact x_iret hc hr (by decide) (by decide) dX3_fees_17 (⟨rfl, rfl, rfl⟩)
abbrev rm_X3_balance : Room := { frames := 5, cells := 0, slots := 0, locals := 127 }
set_option maxHeartbeats 4000000 in
set_option maxRecDepth 100000 in
theorem m_balance (l : Launch) (D : va_G) (z e0 : Nat) (L : List Nat) (K N : Nat → Nat) (I : Nat → Nat → Int32) (J : Nat → Nat → Int64) (R : Nat → Nat → Option Nat) (m now n : Nat) (pic : Nat → Nat) (sh : Nat → Nat → Shr) (hc0 : MC L K N I R m now n pic sh) (k : Nat) (hk : k < 2) (y : Nat) (hy : y ≤ now) : MG l yX3_balance wsX3_balance rm_X3_balance D z e0 L K N I J R [.ref m, .int (nI k), .int (nI y)] (fun v I' J' => v = some (.int (Int64.toInt32 (yRun (I m 6) (mcon I R m pic sh n) (y + 1) k).2.2.2.2.1)) ∧ I' = u2 I m 18 0 ∧ JF R m J J') := by
  refine mg_of (own := RX3) (maxL := 3) (ret := (some .int)) (by decide +kernel) rfl rfl (Nat.le_of_ble_eq_true rfl) ?_
  intro pg ev s mi args below meth c hc hr
  have hm := hc0.1
  have hnow := hc0.2.2.1
  have hn8 := hc0.2.2.2.2.1
  refine x_aload_n (j := 0) hc dX3_balance_0 rfl rfl ?_
  refine x_iload_n (j := 1) hc dX3_balance_1 rfl rfl ?_
  refine x_iload_n (j := 2) hc dX3_balance_2 rfl rfl ?_
  refine x_callV (C := RX3) (T := TX3) (NN := 19) (ci := 4) (As := [.int (nI k), .int (nI y)]) (st := []) hc hm.1 (by omega) (by decide) rfl (m_isYrT l D z e0 L K N I J R m now n pic sh hc0 k hk y hy) gX3_balance_X3_isYear rfl hdV_X3_isYear ⟨Nat.le_of_ble_eq_true rfl, Nat.le_of_ble_eq_true rfl⟩ rfl rfl ⟨Nat.le_of_ble_eq_true rfl, Nat.le_of_ble_eq_true rfl⟩ (Nat.le_of_ble_eq_true rfl) dX3_balance_3 (fun v9 I9 J9 hz9 => ?_)
  obtain ⟨rfl, hI9, hJ9⟩ := hz9
  replace hI9 := hI9.symm
  subst hI9
  replace hJ9 := hJ9.symm
  subst hJ9
  refine x_if_ne (tgt := 11) hc dX3_balance_6 (by decide) (fun _ => ?_) (fun q9 => absurd q9 (by decide))
  refine x_aload_n (j := 0) hc dX3_balance_11 rfl rfl ?_
  refine x_callV (C := RX3) (T := TX3) (NN := 19) (ci := 4) (As := []) (st := []) hc hm.1 (by omega) (by decide) rfl (m_lay l D z e0 L K N (u2 I m 18 0) J R m now n pic sh (hc0.thr 0)) gX3_balance_X3_lay rfl hdV_X3_lay ⟨Nat.le_of_ble_eq_true rfl, Nat.le_of_ble_eq_true rfl⟩ rfl rfl ⟨Nat.le_of_ble_eq_true rfl, Nat.le_of_ble_eq_true rfl⟩ (Nat.le_of_ble_eq_true rfl) dX3_balance_12 (fun v9 I9 J9 hz9 => ?_)
  obtain ⟨rfl, hI9, hM⟩ := hz9
  replace hI9 := hI9.symm
  subst hI9
  rw [zrun_thr hm] at hM
  refine x_aload_n (j := 0) hc dX3_balance_15 rfl rfl ?_
  refine x_getR (C := RX3) (T := TX3) (NN := 19) (ci := 4) (ref := "NetPointsModel") hc 15 in_X3_balance_4 rfl (by decide) lf_X3_balance_46 (fun _ h9 => h9) hm.1 (by omega) (by decide) rfl ((hm.cel 15 1158 20 (by decide)).1) dX3_balance_16 ?_
  refine x_bipush (v := 10) hc dX3_balance_19 (by decide) ?_
  refine x_iload_n (j := 1) hc dX3_balance_21 rfl rfl ?_
  refine x_imul hc dX3_balance_22 ?_
  refine x_iload_n (j := 2) hc dX3_balance_23 rfl rfl ?_
  refine x_iadd hc dX3_balance_24 ?_
  refine x_vali (ix10 k y) ?_
  refine x_lald hc ((hm.cel 15 1158 20 (by decide)).2) (by decide) rfl (by omega) (by omega) dX3_balance_25 ?_
  refine x_vall (y := (yRun (I m 6) (mcon I R m pic sh n) (y + 1) k).2.2.2.2.1) (((hM.1 k y hk (Nat.lt_succ_of_le hy)).1)) ?_
  refine x_l2i hc dX3_balance_26 ?_
  exact x_iret hc hr (by decide) (by decide) dX3_balance_27 (⟨rfl, rfl, hM.2⟩)
set_option maxHeartbeats 4000000 in
set_option maxRecDepth 100000 in
theorem m_balance1 (l : Launch) (D : va_G) (z e0 : Nat) (L : List Nat) (K N : Nat → Nat) (I : Nat → Nat → Int32) (J : Nat → Nat → Int64) (R : Nat → Nat → Option Nat) (m : Nat) (hm : Mdl L K N R m) (q : Int32) (hq : ¬ (0 ≤ q ∧ q ≤ 1)) (y : Int32) : MG l yX3_balance wsX3_balance rm_X3_balance D z e0 L K N I J R [.ref m, .int q, .int y] (fun v I' J' => v = some (.int 0) ∧ I' = u2 I m 18 1 ∧ J' = J) := by
  refine mg_of (own := RX3) (maxL := 3) (ret := (some .int)) (by decide +kernel) rfl rfl (Nat.le_of_ble_eq_true rfl) ?_
  intro pg ev s mi args below meth c hc hr
  refine x_aload_n (j := 0) hc dX3_balance_0 rfl rfl ?_
  refine x_iload_n (j := 1) hc dX3_balance_1 rfl rfl ?_
  refine x_iload_n (j := 2) hc dX3_balance_2 rfl rfl ?_
  refine x_callV (C := RX3) (T := TX3) (NN := 19) (ci := 4) (As := [.int q, .int y]) (st := []) hc hm.1 (by omega) (by decide) rfl (m_isYrF1 l D z e0 L K N I J R m hm q hq y) gX3_balance_X3_isYear rfl hdV_X3_isYear ⟨Nat.le_of_ble_eq_true rfl, Nat.le_of_ble_eq_true rfl⟩ rfl rfl ⟨Nat.le_of_ble_eq_true rfl, Nat.le_of_ble_eq_true rfl⟩ (Nat.le_of_ble_eq_true rfl) dX3_balance_3 (fun v9 I9 J9 hz9 => ?_)
  obtain ⟨rfl, hI9, hJ9⟩ := hz9
  replace hI9 := hI9.symm
  subst hI9
  replace hJ9 := hJ9.symm
  subst hJ9
  refine x_if_ne (tgt := 11) hc dX3_balance_6 (by decide) (fun q9 => absurd q9 (by decide)) (fun _ => ?_)
  refine x_iconst (v := 0) hc dX3_balance_9 (by decide) ?_
  exact x_iret hc hr (by decide) (by decide) dX3_balance_10 (⟨rfl, rfl, rfl⟩)
set_option maxHeartbeats 4000000 in
set_option maxRecDepth 100000 in
theorem m_balance2 (l : Launch) (D : va_G) (z e0 : Nat) (L : List Nat) (K N : Nat → Nat) (I : Nat → Nat → Int32) (J : Nat → Nat → Int64) (R : Nat → Nat → Option Nat) (m now n : Nat) (pic : Nat → Nat) (sh : Nat → Nat → Shr) (hc0 : MC L K N I R m now n pic sh) (k : Nat) (hk : k < 2) (q : Int32) (hq : ¬ (0 ≤ q ∧ q ≤ nI now)) : MG l yX3_balance wsX3_balance rm_X3_balance D z e0 L K N I J R [.ref m, .int (nI k), .int q] (fun v I' J' => v = some (.int 0) ∧ I' = u2 I m 18 2 ∧ J' = J) := by
  refine mg_of (own := RX3) (maxL := 3) (ret := (some .int)) (by decide +kernel) rfl rfl (Nat.le_of_ble_eq_true rfl) ?_
  intro pg ev s mi args below meth c hc hr
  have hm := hc0.1
  have hnow := hc0.2.2.1
  have hn8 := hc0.2.2.2.2.1
  refine x_aload_n (j := 0) hc dX3_balance_0 rfl rfl ?_
  refine x_iload_n (j := 1) hc dX3_balance_1 rfl rfl ?_
  refine x_iload_n (j := 2) hc dX3_balance_2 rfl rfl ?_
  refine x_callV (C := RX3) (T := TX3) (NN := 19) (ci := 4) (As := [.int (nI k), .int q]) (st := []) hc hm.1 (by omega) (by decide) rfl (m_isYrF2 l D z e0 L K N I J R m now n pic sh hc0 k hk q hq) gX3_balance_X3_isYear rfl hdV_X3_isYear ⟨Nat.le_of_ble_eq_true rfl, Nat.le_of_ble_eq_true rfl⟩ rfl rfl ⟨Nat.le_of_ble_eq_true rfl, Nat.le_of_ble_eq_true rfl⟩ (Nat.le_of_ble_eq_true rfl) dX3_balance_3 (fun v9 I9 J9 hz9 => ?_)
  obtain ⟨rfl, hI9, hJ9⟩ := hz9
  replace hI9 := hI9.symm
  subst hI9
  replace hJ9 := hJ9.symm
  subst hJ9
  refine x_if_ne (tgt := 11) hc dX3_balance_6 (by decide) (fun q9 => absurd q9 (by decide)) (fun _ => ?_)
  refine x_iconst (v := 0) hc dX3_balance_9 (by decide) ?_
  exact x_iret hc hr (by decide) (by decide) dX3_balance_10 (⟨rfl, rfl, rfl⟩)
abbrev rm_X3_profit : Room := { frames := 5, cells := 0, slots := 0, locals := 127 }
set_option maxHeartbeats 4000000 in
set_option maxRecDepth 100000 in
theorem m_profit (l : Launch) (D : va_G) (z e0 : Nat) (L : List Nat) (K N : Nat → Nat) (I : Nat → Nat → Int32) (J : Nat → Nat → Int64) (R : Nat → Nat → Option Nat) (m now n : Nat) (pic : Nat → Nat) (sh : Nat → Nat → Shr) (hc0 : MC L K N I R m now n pic sh) (k : Nat) (hk : k < 2) (y : Nat) (hy : y ≤ now) : MG l yX3_profit wsX3_profit rm_X3_profit D z e0 L K N I J R [.ref m, .int (nI k), .int (nI y)] (fun v I' J' => v = some (.int (Int64.toInt32 (yRun (I m 6) (mcon I R m pic sh n) (y + 1) k).2.2.2.2.2)) ∧ I' = u2 I m 18 0 ∧ JF R m J J') := by
  refine mg_of (own := RX3) (maxL := 3) (ret := (some .int)) (by decide +kernel) rfl rfl (Nat.le_of_ble_eq_true rfl) ?_
  intro pg ev s mi args below meth c hc hr
  have hm := hc0.1
  have hnow := hc0.2.2.1
  have hn8 := hc0.2.2.2.2.1
  refine x_aload_n (j := 0) hc dX3_profit_0 rfl rfl ?_
  refine x_iload_n (j := 1) hc dX3_profit_1 rfl rfl ?_
  refine x_iload_n (j := 2) hc dX3_profit_2 rfl rfl ?_
  refine x_callV (C := RX3) (T := TX3) (NN := 19) (ci := 4) (As := [.int (nI k), .int (nI y)]) (st := []) hc hm.1 (by omega) (by decide) rfl (m_isYrT l D z e0 L K N I J R m now n pic sh hc0 k hk y hy) gX3_profit_X3_isYear rfl hdV_X3_isYear ⟨Nat.le_of_ble_eq_true rfl, Nat.le_of_ble_eq_true rfl⟩ rfl rfl ⟨Nat.le_of_ble_eq_true rfl, Nat.le_of_ble_eq_true rfl⟩ (Nat.le_of_ble_eq_true rfl) dX3_profit_3 (fun v9 I9 J9 hz9 => ?_)
  obtain ⟨rfl, hI9, hJ9⟩ := hz9
  replace hI9 := hI9.symm
  subst hI9
  replace hJ9 := hJ9.symm
  subst hJ9
  refine x_if_ne (tgt := 11) hc dX3_profit_6 (by decide) (fun _ => ?_) (fun q9 => absurd q9 (by decide))
  refine x_aload_n (j := 0) hc dX3_profit_11 rfl rfl ?_
  refine x_callV (C := RX3) (T := TX3) (NN := 19) (ci := 4) (As := []) (st := []) hc hm.1 (by omega) (by decide) rfl (m_lay l D z e0 L K N (u2 I m 18 0) J R m now n pic sh (hc0.thr 0)) gX3_profit_X3_lay rfl hdV_X3_lay ⟨Nat.le_of_ble_eq_true rfl, Nat.le_of_ble_eq_true rfl⟩ rfl rfl ⟨Nat.le_of_ble_eq_true rfl, Nat.le_of_ble_eq_true rfl⟩ (Nat.le_of_ble_eq_true rfl) dX3_profit_12 (fun v9 I9 J9 hz9 => ?_)
  obtain ⟨rfl, hI9, hM⟩ := hz9
  replace hI9 := hI9.symm
  subst hI9
  rw [zrun_thr hm] at hM
  refine x_aload_n (j := 0) hc dX3_profit_15 rfl rfl ?_
  refine x_getR (C := RX3) (T := TX3) (NN := 19) (ci := 4) (ref := "NetPointsModel") hc 16 in_X3_profit_4 rfl (by decide) lf_X3_profit_50 (fun _ h9 => h9) hm.1 (by omega) (by decide) rfl ((hm.cel 16 1174 20 (by decide)).1) dX3_profit_16 ?_
  refine x_bipush (v := 10) hc dX3_profit_19 (by decide) ?_
  refine x_iload_n (j := 1) hc dX3_profit_21 rfl rfl ?_
  refine x_imul hc dX3_profit_22 ?_
  refine x_iload_n (j := 2) hc dX3_profit_23 rfl rfl ?_
  refine x_iadd hc dX3_profit_24 ?_
  refine x_vali (ix10 k y) ?_
  refine x_lald hc ((hm.cel 16 1174 20 (by decide)).2) (by decide) rfl (by omega) (by omega) dX3_profit_25 ?_
  refine x_vall (y := (yRun (I m 6) (mcon I R m pic sh n) (y + 1) k).2.2.2.2.2) (((hM.1 k y hk (Nat.lt_succ_of_le hy)).2)) ?_
  refine x_l2i hc dX3_profit_26 ?_
  exact x_iret hc hr (by decide) (by decide) dX3_profit_27 (⟨rfl, rfl, hM.2⟩)
set_option maxHeartbeats 4000000 in
set_option maxRecDepth 100000 in
theorem m_profit1 (l : Launch) (D : va_G) (z e0 : Nat) (L : List Nat) (K N : Nat → Nat) (I : Nat → Nat → Int32) (J : Nat → Nat → Int64) (R : Nat → Nat → Option Nat) (m : Nat) (hm : Mdl L K N R m) (q : Int32) (hq : ¬ (0 ≤ q ∧ q ≤ 1)) (y : Int32) : MG l yX3_profit wsX3_profit rm_X3_profit D z e0 L K N I J R [.ref m, .int q, .int y] (fun v I' J' => v = some (.int 0) ∧ I' = u2 I m 18 1 ∧ J' = J) := by
  refine mg_of (own := RX3) (maxL := 3) (ret := (some .int)) (by decide +kernel) rfl rfl (Nat.le_of_ble_eq_true rfl) ?_
  intro pg ev s mi args below meth c hc hr
  refine x_aload_n (j := 0) hc dX3_profit_0 rfl rfl ?_
  refine x_iload_n (j := 1) hc dX3_profit_1 rfl rfl ?_
  refine x_iload_n (j := 2) hc dX3_profit_2 rfl rfl ?_
  refine x_callV (C := RX3) (T := TX3) (NN := 19) (ci := 4) (As := [.int q, .int y]) (st := []) hc hm.1 (by omega) (by decide) rfl (m_isYrF1 l D z e0 L K N I J R m hm q hq y) gX3_profit_X3_isYear rfl hdV_X3_isYear ⟨Nat.le_of_ble_eq_true rfl, Nat.le_of_ble_eq_true rfl⟩ rfl rfl ⟨Nat.le_of_ble_eq_true rfl, Nat.le_of_ble_eq_true rfl⟩ (Nat.le_of_ble_eq_true rfl) dX3_profit_3 (fun v9 I9 J9 hz9 => ?_)
  obtain ⟨rfl, hI9, hJ9⟩ := hz9
  replace hI9 := hI9.symm
  subst hI9
  replace hJ9 := hJ9.symm
  subst hJ9
  refine x_if_ne (tgt := 11) hc dX3_profit_6 (by decide) (fun q9 => absurd q9 (by decide)) (fun _ => ?_)
  refine x_iconst (v := 0) hc dX3_profit_9 (by decide) ?_
  exact x_iret hc hr (by decide) (by decide) dX3_profit_10 (⟨rfl, rfl, rfl⟩)
set_option maxHeartbeats 4000000 in
set_option maxRecDepth 100000 in
theorem m_profit2 (l : Launch) (D : va_G) (z e0 : Nat) (L : List Nat) (K N : Nat → Nat) (I : Nat → Nat → Int32) (J : Nat → Nat → Int64) (R : Nat → Nat → Option Nat) (m now n : Nat) (pic : Nat → Nat) (sh : Nat → Nat → Shr) (hc0 : MC L K N I R m now n pic sh) (k : Nat) (hk : k < 2) (q : Int32) (hq : ¬ (0 ≤ q ∧ q ≤ nI now)) : MG l yX3_profit wsX3_profit rm_X3_profit D z e0 L K N I J R [.ref m, .int (nI k), .int q] (fun v I' J' => v = some (.int 0) ∧ I' = u2 I m 18 2 ∧ J' = J) := by
  refine mg_of (own := RX3) (maxL := 3) (ret := (some .int)) (by decide +kernel) rfl rfl (Nat.le_of_ble_eq_true rfl) ?_
  intro pg ev s mi args below meth c hc hr
  have hm := hc0.1
  have hnow := hc0.2.2.1
  have hn8 := hc0.2.2.2.2.1
  refine x_aload_n (j := 0) hc dX3_profit_0 rfl rfl ?_
  refine x_iload_n (j := 1) hc dX3_profit_1 rfl rfl ?_
  refine x_iload_n (j := 2) hc dX3_profit_2 rfl rfl ?_
  refine x_callV (C := RX3) (T := TX3) (NN := 19) (ci := 4) (As := [.int (nI k), .int q]) (st := []) hc hm.1 (by omega) (by decide) rfl (m_isYrF2 l D z e0 L K N I J R m now n pic sh hc0 k hk q hq) gX3_profit_X3_isYear rfl hdV_X3_isYear ⟨Nat.le_of_ble_eq_true rfl, Nat.le_of_ble_eq_true rfl⟩ rfl rfl ⟨Nat.le_of_ble_eq_true rfl, Nat.le_of_ble_eq_true rfl⟩ (Nat.le_of_ble_eq_true rfl) dX3_profit_3 (fun v9 I9 J9 hz9 => ?_)
  obtain ⟨rfl, hI9, hJ9⟩ := hz9
  replace hI9 := hI9.symm
  subst hI9
  replace hJ9 := hJ9.symm
  subst hJ9
  refine x_if_ne (tgt := 11) hc dX3_profit_6 (by decide) (fun q9 => absurd q9 (by decide)) (fun _ => ?_)
  refine x_iconst (v := 0) hc dX3_profit_9 (by decide) ?_
  exact x_iret hc hr (by decide) (by decide) dX3_profit_10 (⟨rfl, rfl, rfl⟩)
abbrev rm_X3_pool : Room := { frames := 5, cells := 0, slots := 0, locals := 127 }
set_option maxHeartbeats 4000000 in
set_option maxRecDepth 100000 in
theorem m_pool (l : Launch) (D : va_G) (z e0 : Nat) (L : List Nat) (K N : Nat → Nat) (I : Nat → Nat → Int32) (J : Nat → Nat → Int64) (R : Nat → Nat → Option Nat) (m now n : Nat) (pic : Nat → Nat) (sh : Nat → Nat → Shr) (hc0 : MC L K N I R m now n pic sh) (k : Nat) (hk : k < 2) : MG l yX3_pool wsX3_pool rm_X3_pool D z e0 L K N I J R [.ref m, .int (nI k)] (fun v I' J' => v = some (.int (Int64.toInt32 (leftN (yRun (I m 6) (mcon I R m pic sh n) (now + 1) k).2.2.2.2.2 (sh k) (cnt pic k n)))) ∧ I' = u2 I m 18 0 ∧ JF R m J J') := by
  refine mg_of (own := RX3) (maxL := 2) (ret := (some .int)) (by decide +kernel) rfl rfl (Nat.le_of_ble_eq_true rfl) ?_
  intro pg ev s mi args below meth c hc hr
  have hm := hc0.1
  have hnow := hc0.2.2.1
  have hn8 := hc0.2.2.2.2.1
  refine x_aload_n (j := 0) hc dX3_pool_0 rfl rfl ?_
  refine x_iconst (v := 0) hc dX3_pool_1 (by decide) ?_
  refine x_putI (C := RX3) (T := TX3) (NN := 19) (ci := 4) (ref := "NetPointsModel") hc 18 in_X3_pool_4 rfl (by decide) lf_X3_pool_56 (fun _ h9 => h9) tyX3 tyX3_ok nmX3 hm.1 (by omega) (by decide) rfl rfl pd_X3_18 dX3_pool_2 ?_
  refine x_iload_n (j := 1) hc dX3_pool_5 rfl rfl ?_
  refine x_callS (As := [.int (nI k)]) (st := []) hc (m_isPicT l D z e0 L K N (u2 I m 18 0) J R k hk) gX3_pool_X3_isPicture rfl hdS_X3_isPicture ⟨Nat.le_of_ble_eq_true rfl, Nat.le_of_ble_eq_true rfl⟩ rfl rfl ⟨Nat.le_of_ble_eq_true rfl, Nat.le_of_ble_eq_true rfl⟩ (Nat.le_of_ble_eq_true rfl) dX3_pool_6 (fun v9 I9 J9 hz9 => ?_)
  obtain ⟨rfl, hI9, hJ9⟩ := hz9
  replace hI9 := hI9.symm
  subst hI9
  replace hJ9 := hJ9.symm
  subst hJ9
  refine x_if_ne (tgt := 18) hc dX3_pool_9 (by decide) (fun _ => ?_) (fun q9 => absurd q9 (by decide))
  refine x_aload_n (j := 0) hc dX3_pool_18 rfl rfl ?_
  refine x_callV (C := RX3) (T := TX3) (NN := 19) (ci := 4) (As := []) (st := []) hc hm.1 (by omega) (by decide) rfl (m_lay l D z e0 L K N (u2 I m 18 0) J R m now n pic sh (hc0.thr 0)) gX3_pool_X3_lay rfl hdV_X3_lay ⟨Nat.le_of_ble_eq_true rfl, Nat.le_of_ble_eq_true rfl⟩ rfl rfl ⟨Nat.le_of_ble_eq_true rfl, Nat.le_of_ble_eq_true rfl⟩ (Nat.le_of_ble_eq_true rfl) dX3_pool_19 (fun v9 I9 J9 hz9 => ?_)
  obtain ⟨rfl, hI9, hM⟩ := hz9
  replace hI9 := hI9.symm
  subst hI9
  rw [zrun_thr hm] at hM
  refine x_aload_n (j := 0) hc dX3_pool_22 rfl rfl ?_
  refine x_iload_n (j := 1) hc dX3_pool_23 rfl rfl ?_
  refine x_aload_n (j := 0) hc dX3_pool_24 rfl rfl ?_
  refine x_getI (C := RX3) (T := TX3) (NN := 19) (ci := 4) (ref := "NetPointsModel") hc 14 in_X3_pool_4 rfl (by decide) lf_X3_pool_81 (fun _ h9 => h9) hm.1 (by omega) (by decide) rfl dX3_pool_25 ?_
  refine x_vali (y := nI n) ((u2_k (by decide)).trans ((hc0.2.2.2.1))) ?_
  have hpr := (hM.1 k now hk (Nat.lt_succ_self now)).2
  have hdf := m_deferred l D z e0 L K N (u2 I m 18 0) J9 R m now n pic sh (hc0.thr 0) k hk n (Nat.le_refl n)
  rw [hpr] at hdf
  refine x_callV (C := RX3) (T := TX3) (NN := 19) (ci := 4) (As := [.int (nI k), .int (nI n)]) (st := []) hc hm.1 (by omega) (by decide) rfl hdf gX3_pool_X3_deferred rfl hdV_X3_deferred ⟨Nat.le_of_ble_eq_true rfl, Nat.le_of_ble_eq_true rfl⟩ rfl rfl ⟨Nat.le_of_ble_eq_true rfl, Nat.le_of_ble_eq_true rfl⟩ (Nat.le_of_ble_eq_true rfl) dX3_pool_28 (fun v9 I9 J9 hz9 => ?_)
  obtain ⟨rfl, hI9, hJ9⟩ := hz9
  replace hI9 := hI9.symm
  subst hI9
  replace hJ9 := hJ9.symm
  subst hJ9
  refine x_l2i hc dX3_pool_31 ?_
  exact x_iret hc hr (by decide) (by decide) dX3_pool_32 (⟨rfl, rfl, hM.2⟩)
set_option maxHeartbeats 4000000 in
set_option maxRecDepth 100000 in
theorem m_pool1 (l : Launch) (D : va_G) (z e0 : Nat) (L : List Nat) (K N : Nat → Nat) (I : Nat → Nat → Int32) (J : Nat → Nat → Int64) (R : Nat → Nat → Option Nat) (m : Nat) (hm : Mdl L K N R m) (q : Int32) (hq : ¬ (0 ≤ q ∧ q ≤ 1)) : MG l yX3_pool wsX3_pool rm_X3_pool D z e0 L K N I J R [.ref m, .int q] (fun v I' J' => v = some (.int 0) ∧ I' = u2 I m 18 1 ∧ J' = J) := by
  refine mg_of (own := RX3) (maxL := 2) (ret := (some .int)) (by decide +kernel) rfl rfl (Nat.le_of_ble_eq_true rfl) ?_
  intro pg ev s mi args below meth c hc hr
  refine x_aload_n (j := 0) hc dX3_pool_0 rfl rfl ?_
  refine x_iconst (v := 0) hc dX3_pool_1 (by decide) ?_
  refine x_putI (C := RX3) (T := TX3) (NN := 19) (ci := 4) (ref := "NetPointsModel") hc 18 in_X3_pool_4 rfl (by decide) lf_X3_pool_56 (fun _ h9 => h9) tyX3 tyX3_ok nmX3 hm.1 (by omega) (by decide) rfl rfl pd_X3_18 dX3_pool_2 ?_
  refine x_iload_n (j := 1) hc dX3_pool_5 rfl rfl ?_
  refine x_callS (As := [.int q]) (st := []) hc (m_isPicF l D z e0 L K N (u2 I m 18 0) J R q hq) gX3_pool_X3_isPicture rfl hdS_X3_isPicture ⟨Nat.le_of_ble_eq_true rfl, Nat.le_of_ble_eq_true rfl⟩ rfl rfl ⟨Nat.le_of_ble_eq_true rfl, Nat.le_of_ble_eq_true rfl⟩ (Nat.le_of_ble_eq_true rfl) dX3_pool_6 (fun v9 I9 J9 hz9 => ?_)
  obtain ⟨rfl, hI9, hJ9⟩ := hz9
  replace hI9 := hI9.symm
  subst hI9
  replace hJ9 := hJ9.symm
  subst hJ9
  refine x_if_ne (tgt := 18) hc dX3_pool_9 (by decide) (fun q9 => absurd q9 (by decide)) (fun _ => ?_)
  refine x_aload_n (j := 0) hc dX3_pool_12 rfl rfl ?_
  refine x_iconst (v := 1) hc dX3_pool_13 (by decide) ?_
  refine x_callV (C := RX3) (T := TX3) (NN := 19) (ci := 4) (As := [.int 1]) (st := []) hc hm.1 (by omega) (by decide) rfl (m_fails l D z e0 L K N (u2 I m 18 0) J R m hm 1) gX3_pool_X3_fails rfl hdV_X3_fails ⟨Nat.le_of_ble_eq_true rfl, Nat.le_of_ble_eq_true rfl⟩ rfl rfl ⟨Nat.le_of_ble_eq_true rfl, Nat.le_of_ble_eq_true rfl⟩ (Nat.le_of_ble_eq_true rfl) dX3_pool_14 (fun v9 I9 J9 hz9 => ?_)
  obtain ⟨rfl, hI9, hJ9⟩ := hz9
  replace hI9 := hI9.symm
  subst hI9
  replace hJ9 := hJ9.symm
  subst hJ9
  refine x_setI u2_u2 ?_
  exact x_iret hc hr (by decide) (by decide) dX3_pool_17 (⟨rfl, rfl, rfl⟩)
