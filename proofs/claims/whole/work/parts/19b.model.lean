abbrev rm_X3_add : Room := { frames := 2, cells := 0, slots := 0, locals := 42 }
set_option maxHeartbeats 4000000 in
set_option maxRecDepth 100000 in
theorem m_add (l : Launch) (D : va_G) (z e0 : Nat) (L : List Nat) (K N : Nat → Nat) (I : Nat → Nat → Int32) (J : Nat → Nat → Int64) (R : Nat → Nat → Option Nat) (m now n : Nat) (pic : Nat → Nat) (sh : Nat → Nat → Shr) (hc0 : MC L K N I R m now n pic sh) (k : Nat) (hk : k < 2) (ka li fi se : Int32) (h1 : 0 ≤ ka ∧ ka ≤ 3) (h2 : 0 ≤ li ∧ li ≤ 10000000) (h3 : 0 ≤ fi ∧ fi ≤ mostR ka) (h4 : 0 ≤ se ∧ se ≤ mostR ka) (h5 : n < 8) (h6 : ka = 1 → (netN (sh k) (cnt pic k n) + mx fi se ≤ 10000)) : MG l yX3_add wsX3_add rm_X3_add D z e0 L K N I J R [.ref m, .int (nI k), .int ka, .int li, .int fi, .int se] (fun v I' J' => v = some (.int (nI n)) ∧ I' = u2 (u2 (u2 (u2 (u2 (u2 (u2 I m 18 0) (dr R m 8) n (nI k)) (dr R m 9) n ka) (dr R m 10) n li) (dr R m 11) n fi) (dr R m 12) n se) m 14 (nI (n + 1)) ∧ J' = J) := by
  refine mg_of (own := RX3) (maxL := 10) (ret := (some .int)) (by decide +kernel) rfl rfl (Nat.le_of_ble_eq_true rfl) ?_
  intro pg ev s mi args below meth c hc hr
  have hm := hc0.1
  have hnow := hc0.2.2.1
  have hn8 := hc0.2.2.2.2.1
  refine x_aload_n (j := 0) hc dX3_add_0 rfl rfl ?_
  refine x_iconst (v := 0) hc dX3_add_1 (by decide) ?_
  refine x_putI (C := RX3) (T := TX3) (NN := 19) (ci := 4) (ref := "NetPointsModel") hc 18 in_X3_add_4 rfl (by decide) lf_X3_add_56 (fun _ h9 => h9) tyX3 tyX3_ok nmX3 hm.1 (by omega) (by decide) rfl rfl pd_X3_18 dX3_add_2 ?_
  refine x_iload_n (j := 1) hc dX3_add_5 rfl rfl ?_
  refine x_callS (As := [.int (nI k)]) (st := []) hc (m_isPicT l D z e0 L K N (u2 I m 18 0) J R k hk) gX3_add_X3_isPicture rfl hdS_X3_isPicture ⟨Nat.le_of_ble_eq_true rfl, Nat.le_of_ble_eq_true rfl⟩ rfl rfl ⟨Nat.le_of_ble_eq_true rfl, Nat.le_of_ble_eq_true rfl⟩ (Nat.le_of_ble_eq_true rfl) dX3_add_6 (fun v9 I9 J9 hz9 => ?_)
  obtain ⟨rfl, hI9, hJ9⟩ := hz9
  replace hI9 := hI9.symm
  subst hI9
  replace hJ9 := hJ9.symm
  subst hJ9
  refine x_if_ne (tgt := 18) hc dX3_add_9 (by decide) (fun _ => ?_) (fun q9 => absurd q9 (by decide))
  have htail : XW pg l ev rm_X3_add s mi args below meth c D z 10 L K N (u2 I m 18 0) J R 0 0 (MQ below (QG D z L K N R (fun v I' J' => v = some (.int (nI n)) ∧ I' = u2 (u2 (u2 (u2 (u2 (u2 (u2 I m 18 0) (dr R m 8) n (nI k)) (dr R m 9) n ka) (dr R m 10) n li) (dr R m 11) n fi) (dr R m 12) n se) m 14 (nI (n + 1)) ∧ J' = J)) args s (rm_X3_add).cells (rm_X3_add).slots (fun q => z ≤ q)) 31 [(0, .ref m), (1, .int (nI k)), (2, .int ka), (3, .int li), (4, .int fi), (5, .int se)] [.int (mostR ka)] := by
    refine x_istore (lv' := [(6, .int (mostR ka)), (0, .ref m), (1, .int (nI k)), (2, .int ka), (3, .int li), (4, .int fi), (5, .int se)]) hc dX3_add_31 (by decide) rfl ?_
    refine x_iload_n (j := 3) hc dX3_add_33 rfl rfl ?_
    refine x_iconst (v := 0) hc dX3_add_34 (by decide) ?_
    refine x_iconst (v := 3) hc dX3_add_35 (by decide) ?_
    refine x_callS (As := [.int ka, .int 0, .int 3]) (st := []) hc (m_inT l D z e0 L K N (u2 I m 18 0) J R ka 0 3 h1.1 h1.2) gX3_add_X3_in rfl hdS_X3_in ⟨Nat.le_of_ble_eq_true rfl, Nat.le_of_ble_eq_true rfl⟩ rfl rfl ⟨Nat.le_of_ble_eq_true rfl, Nat.le_of_ble_eq_true rfl⟩ (Nat.le_of_ble_eq_true rfl) dX3_add_36 (fun v9 I9 J9 hz9 => ?_)
    obtain ⟨rfl, hI9, hJ9⟩ := hz9
    replace hI9 := hI9.symm
    subst hI9
    replace hJ9 := hJ9.symm
    subst hJ9
    refine x_if_eq (tgt := 74) hc dX3_add_39 (by decide) (fun q9 => absurd q9 (by decide)) (fun _ => ?_)
    refine x_iload_n (j := 4) hc dX3_add_42 rfl rfl ?_
    refine x_iconst (v := 0) hc dX3_add_43 (by decide) ?_
    refine x_ldc hc dX3_add_44 lc_X3_add_80 ?_
    refine x_callS (As := [.int li, .int 0, .int 10000000]) (st := []) hc (m_inT l D z e0 L K N (u2 I m 18 0) J R li 0 10000000 h2.1 h2.2) gX3_add_X3_in rfl hdS_X3_in ⟨Nat.le_of_ble_eq_true rfl, Nat.le_of_ble_eq_true rfl⟩ rfl rfl ⟨Nat.le_of_ble_eq_true rfl, Nat.le_of_ble_eq_true rfl⟩ (Nat.le_of_ble_eq_true rfl) dX3_add_46 (fun v9 I9 J9 hz9 => ?_)
    obtain ⟨rfl, hI9, hJ9⟩ := hz9
    replace hI9 := hI9.symm
    subst hI9
    replace hJ9 := hJ9.symm
    subst hJ9
    refine x_if_eq (tgt := 74) hc dX3_add_49 (by decide) (fun q9 => absurd q9 (by decide)) (fun _ => ?_)
    refine x_iload (j := 5) hc dX3_add_52 rfl ?_
    refine x_iconst (v := 0) hc dX3_add_54 (by decide) ?_
    refine x_iload (j := 0) hc dX3_add_55 rfl ?_
    refine x_callS (As := [.int fi, .int 0, .int (mostR ka)]) (st := []) hc (m_inT l D z e0 L K N (u2 I m 18 0) J R fi 0 (mostR ka) h3.1 h3.2) gX3_add_X3_in rfl hdS_X3_in ⟨Nat.le_of_ble_eq_true rfl, Nat.le_of_ble_eq_true rfl⟩ rfl rfl ⟨Nat.le_of_ble_eq_true rfl, Nat.le_of_ble_eq_true rfl⟩ (Nat.le_of_ble_eq_true rfl) dX3_add_57 (fun v9 I9 J9 hz9 => ?_)
    obtain ⟨rfl, hI9, hJ9⟩ := hz9
    replace hI9 := hI9.symm
    subst hI9
    replace hJ9 := hJ9.symm
    subst hJ9
    refine x_if_eq (tgt := 74) hc dX3_add_60 (by decide) (fun q9 => absurd q9 (by decide)) (fun _ => ?_)
    refine x_iload (j := 6) hc dX3_add_63 rfl ?_
    refine x_iconst (v := 0) hc dX3_add_65 (by decide) ?_
    refine x_iload (j := 0) hc dX3_add_66 rfl ?_
    refine x_callS (As := [.int se, .int 0, .int (mostR ka)]) (st := []) hc (m_inT l D z e0 L K N (u2 I m 18 0) J R se 0 (mostR ka) h4.1 h4.2) gX3_add_X3_in rfl hdS_X3_in ⟨Nat.le_of_ble_eq_true rfl, Nat.le_of_ble_eq_true rfl⟩ rfl rfl ⟨Nat.le_of_ble_eq_true rfl, Nat.le_of_ble_eq_true rfl⟩ (Nat.le_of_ble_eq_true rfl) dX3_add_68 (fun v9 I9 J9 hz9 => ?_)
    obtain ⟨rfl, hI9, hJ9⟩ := hz9
    replace hI9 := hI9.symm
    subst hI9
    replace hJ9 := hJ9.symm
    subst hJ9
    refine x_if_ne (tgt := 80) hc dX3_add_71 (by decide) (fun _ => ?_) (fun q9 => absurd q9 (by decide))
    have hgr : XW pg l ev rm_X3_add s mi args below meth c D z 10 L K N (u2 I m 18 0) J R 0 0 (MQ below (QG D z L K N R (fun v I' J' => v = some (.int (nI n)) ∧ I' = u2 (u2 (u2 (u2 (u2 (u2 (u2 I m 18 0) (dr R m 8) n (nI k)) (dr R m 9) n ka) (dr R m 10) n li) (dr R m 11) n fi) (dr R m 12) n se) m 14 (nI (n + 1)) ∧ J' = J)) args s (rm_X3_add).cells (rm_X3_add).slots (fun q => z ≤ q)) 94 [(6, .int (mostR ka)), (0, .ref m), (1, .int (nI k)), (2, .int ka), (3, .int li), (4, .int fi), (5, .int se)] [.int (mx fi se)] := by
      refine x_istore (lv' := [(7, .int (mx fi se)), (6, .int (mostR ka)), (0, .ref m), (1, .int (nI k)), (2, .int ka), (3, .int li), (4, .int fi), (5, .int se)]) hc dX3_add_94 (by decide) rfl ?_
      refine x_iconst (v := 0) hc dX3_add_96 (by decide) ?_
      refine x_istore (lv' := [(8, .int 0), (7, .int (mx fi se)), (6, .int (mostR ka)), (0, .ref m), (1, .int (nI k)), (2, .int ka), (3, .int li), (4, .int fi), (5, .int se)]) hc dX3_add_97 (by decide) rfl ?_
      by_cases hk1 : ka = 1
      · have hloop : ∀ (d i : Nat) (gr : Int32), i + d = n → gr = mx fi se + netN (sh k) (cnt pic k i) → XW pg l ev rm_X3_add s mi args below meth c D z 10 L K N (u2 I m 18 0) J R 0 0 (MQ below (QG D z L K N R (fun v I' J' => v = some (.int (nI n)) ∧ I' = u2 (u2 (u2 (u2 (u2 (u2 (u2 I m 18 0) (dr R m 8) n (nI k)) (dr R m 9) n ka) (dr R m 10) n li) (dr R m 11) n fi) (dr R m 12) n se) m 14 (nI (n + 1)) ∧ J' = J)) args s (rm_X3_add).cells (rm_X3_add).slots (fun q => z ≤ q)) 99 [(8, .int (nI i)), (7, .int gr), (6, .int (mostR ka)), (0, .ref m), (1, .int (nI k)), (2, .int ka), (3, .int li), (4, .int fi), (5, .int se)] [] := by
          intro d
          induction d with
          | zero =>
            intro i gr hi hgrv
            have hin : i = n := by omega
            refine x_iload (j := 0) hc dX3_add_99 rfl ?_
            refine x_aload_n (j := 3) hc dX3_add_101 rfl rfl ?_
            refine x_getI (C := RX3) (T := TX3) (NN := 19) (ci := 4) (ref := "NetPointsModel") hc 14 in_X3_add_4 rfl (by decide) lf_X3_add_81 (fun _ h9 => h9) hm.1 (by omega) (by decide) rfl dX3_add_102 ?_
            refine x_vali (y := nI n) ((u2_k (by decide)).trans ((hc0.2.2.2.1))) ?_
            refine x_icmp_ge (tgt := 196) hc dX3_add_105 (by decide) (fun _ => ?_) (fun q9 => absurd (by rw [hin]; exact Int32.le_refl _) q9)
            rw [hin] at hgrv
            refine x_aload_n (j := 3) hc dX3_add_196 rfl rfl ?_
            refine x_getI (C := RX3) (T := TX3) (NN := 19) (ci := 4) (ref := "NetPointsModel") hc 14 in_X3_add_4 rfl (by decide) lf_X3_add_81 (fun _ h9 => h9) hm.1 (by omega) (by decide) rfl dX3_add_197 ?_
            refine x_vali (y := nI n) ((u2_k (by decide)).trans ((hc0.2.2.2.1))) ?_
            refine x_bipush (v := 8) hc dX3_add_200 (by decide) ?_
            refine x_icmp_eq (tgt := 218) hc dX3_add_202 (by decide) (fun q9 => absurd q9 (fun h => by have := (nI_eq (a := n) (b := 8) (by omega) (by decide)).mp h; omega)) (fun _ => ?_)
            refine x_iload_n (j := 5) hc dX3_add_205 rfl rfl ?_
            refine x_iconst (v := 1) hc dX3_add_206 (by decide) ?_
            refine x_icmp_ne (tgt := 224) hc dX3_add_207 (by decide) (fun q9 => absurd q9 (fun h => h hk1)) (fun _ => ?_)
            refine x_iload (j := 1) hc dX3_add_210 rfl ?_
            refine x_sipush (v := 10000) hc dX3_add_212 (by decide) ?_
            refine x_icmp_le (tgt := 224) hc dX3_add_215 (by decide) (fun _ => ?_) (fun q9 => absurd (by rw [hgrv, Int32.add_comm]; exact h6 hk1) q9)
            refine x_aload_n (j := 3) hc dX3_add_224 rfl rfl ?_
            refine x_getR (C := RX3) (T := TX3) (NN := 19) (ci := 4) (ref := "NetPointsModel") hc 8 in_X3_add_4 rfl (by decide) lf_X3_add_28 (fun _ h9 => h9) hm.1 (by omega) (by decide) rfl ((hm.cel 8 1061 8 (by decide)).1) dX3_add_225 ?_
            refine x_aload_n (j := 3) hc dX3_add_228 rfl rfl ?_
            refine x_getI (C := RX3) (T := TX3) (NN := 19) (ci := 4) (ref := "NetPointsModel") hc 14 in_X3_add_4 rfl (by decide) lf_X3_add_81 (fun _ h9 => h9) hm.1 (by omega) (by decide) rfl dX3_add_229 ?_
            refine x_vali (y := nI n) ((u2_k (by decide)).trans ((hc0.2.2.2.1))) ?_
            refine x_iload_n (j := 4) hc dX3_add_232 rfl rfl ?_
            refine x_iast hc ((hm.cel 8 1061 8 (by decide)).2) (by decide) rfl (by omega) (by omega) dX3_add_233 ?_
            refine x_aload_n (j := 3) hc dX3_add_234 rfl rfl ?_
            refine x_getR (C := RX3) (T := TX3) (NN := 19) (ci := 4) (ref := "NetPointsModel") hc 9 in_X3_add_4 rfl (by decide) lf_X3_add_31 (fun _ h9 => h9) hm.1 (by omega) (by decide) rfl ((hm.cel 9 1077 8 (by decide)).1) dX3_add_235 ?_
            refine x_aload_n (j := 3) hc dX3_add_238 rfl rfl ?_
            refine x_getI (C := RX3) (T := TX3) (NN := 19) (ci := 4) (ref := "NetPointsModel") hc 14 in_X3_add_4 rfl (by decide) lf_X3_add_81 (fun _ h9 => h9) hm.1 (by omega) (by decide) rfl dX3_add_239 ?_
            refine x_vali (y := nI n) ((u2_a ((hm.1).ne ((hm.cel 8 1061 8 (by decide)).2) (by decide))).trans ((u2_k (by decide)).trans ((hc0.2.2.2.1)))) ?_
            refine x_iload_n (j := 5) hc dX3_add_242 rfl rfl ?_
            refine x_iast hc ((hm.cel 9 1077 8 (by decide)).2) (by decide) rfl (by omega) (by omega) dX3_add_243 ?_
            refine x_aload_n (j := 3) hc dX3_add_244 rfl rfl ?_
            refine x_getR (C := RX3) (T := TX3) (NN := 19) (ci := 4) (ref := "NetPointsModel") hc 10 in_X3_add_4 rfl (by decide) lf_X3_add_34 (fun _ h9 => h9) hm.1 (by omega) (by decide) rfl ((hm.cel 10 1093 8 (by decide)).1) dX3_add_245 ?_
            refine x_aload_n (j := 3) hc dX3_add_248 rfl rfl ?_
            refine x_getI (C := RX3) (T := TX3) (NN := 19) (ci := 4) (ref := "NetPointsModel") hc 14 in_X3_add_4 rfl (by decide) lf_X3_add_81 (fun _ h9 => h9) hm.1 (by omega) (by decide) rfl dX3_add_249 ?_
            refine x_vali (y := nI n) ((u2_a ((hm.1).ne ((hm.cel 9 1077 8 (by decide)).2) (by decide))).trans ((u2_a ((hm.1).ne ((hm.cel 8 1061 8 (by decide)).2) (by decide))).trans ((u2_k (by decide)).trans ((hc0.2.2.2.1))))) ?_
            refine x_iload_n (j := 6) hc dX3_add_252 rfl rfl ?_
            refine x_iast hc ((hm.cel 10 1093 8 (by decide)).2) (by decide) rfl (by omega) (by omega) dX3_add_253 ?_
            refine x_aload_n (j := 3) hc dX3_add_254 rfl rfl ?_
            refine x_getR (C := RX3) (T := TX3) (NN := 19) (ci := 4) (ref := "NetPointsModel") hc 11 in_X3_add_4 rfl (by decide) lf_X3_add_37 (fun _ h9 => h9) hm.1 (by omega) (by decide) rfl ((hm.cel 11 1109 8 (by decide)).1) dX3_add_255 ?_
            refine x_aload_n (j := 3) hc dX3_add_258 rfl rfl ?_
            refine x_getI (C := RX3) (T := TX3) (NN := 19) (ci := 4) (ref := "NetPointsModel") hc 14 in_X3_add_4 rfl (by decide) lf_X3_add_81 (fun _ h9 => h9) hm.1 (by omega) (by decide) rfl dX3_add_259 ?_
            refine x_vali (y := nI n) ((u2_a ((hm.1).ne ((hm.cel 10 1093 8 (by decide)).2) (by decide))).trans ((u2_a ((hm.1).ne ((hm.cel 9 1077 8 (by decide)).2) (by decide))).trans ((u2_a ((hm.1).ne ((hm.cel 8 1061 8 (by decide)).2) (by decide))).trans ((u2_k (by decide)).trans ((hc0.2.2.2.1)))))) ?_
            refine x_iload (j := 7) hc dX3_add_262 rfl ?_
            refine x_iast hc ((hm.cel 11 1109 8 (by decide)).2) (by decide) rfl (by omega) (by omega) dX3_add_264 ?_
            refine x_aload_n (j := 3) hc dX3_add_265 rfl rfl ?_
            refine x_getR (C := RX3) (T := TX3) (NN := 19) (ci := 4) (ref := "NetPointsModel") hc 12 in_X3_add_4 rfl (by decide) lf_X3_add_40 (fun _ h9 => h9) hm.1 (by omega) (by decide) rfl ((hm.cel 12 1125 8 (by decide)).1) dX3_add_266 ?_
            refine x_aload_n (j := 3) hc dX3_add_269 rfl rfl ?_
            refine x_getI (C := RX3) (T := TX3) (NN := 19) (ci := 4) (ref := "NetPointsModel") hc 14 in_X3_add_4 rfl (by decide) lf_X3_add_81 (fun _ h9 => h9) hm.1 (by omega) (by decide) rfl dX3_add_270 ?_
            refine x_vali (y := nI n) ((u2_a ((hm.1).ne ((hm.cel 11 1109 8 (by decide)).2) (by decide))).trans ((u2_a ((hm.1).ne ((hm.cel 10 1093 8 (by decide)).2) (by decide))).trans ((u2_a ((hm.1).ne ((hm.cel 9 1077 8 (by decide)).2) (by decide))).trans ((u2_a ((hm.1).ne ((hm.cel 8 1061 8 (by decide)).2) (by decide))).trans ((u2_k (by decide)).trans ((hc0.2.2.2.1))))))) ?_
            refine x_iload (j := 8) hc dX3_add_273 rfl ?_
            refine x_iast hc ((hm.cel 12 1125 8 (by decide)).2) (by decide) rfl (by omega) (by omega) dX3_add_275 ?_
            refine x_aload_n (j := 3) hc dX3_add_276 rfl rfl ?_
            refine x_dup hc dX3_add_277 rfl ?_
            refine x_getI (C := RX3) (T := TX3) (NN := 19) (ci := 4) (ref := "NetPointsModel") hc 14 in_X3_add_4 rfl (by decide) lf_X3_add_81 (fun _ h9 => h9) hm.1 (by omega) (by decide) rfl dX3_add_278 ?_
            refine x_vali (y := nI n) ((u2_a ((hm.1).ne ((hm.cel 12 1125 8 (by decide)).2) (by decide))).trans ((u2_a ((hm.1).ne ((hm.cel 11 1109 8 (by decide)).2) (by decide))).trans ((u2_a ((hm.1).ne ((hm.cel 10 1093 8 (by decide)).2) (by decide))).trans ((u2_a ((hm.1).ne ((hm.cel 9 1077 8 (by decide)).2) (by decide))).trans ((u2_a ((hm.1).ne ((hm.cel 8 1061 8 (by decide)).2) (by decide))).trans ((u2_k (by decide)).trans ((hc0.2.2.2.1)))))))) ?_
            refine x_iconst (v := 1) hc dX3_add_281 (by decide) ?_
            refine x_iadd hc dX3_add_282 ?_
            refine x_vali (nI_1 n) ?_
            refine x_putI (C := RX3) (T := TX3) (NN := 19) (ci := 4) (ref := "NetPointsModel") hc 14 in_X3_add_4 rfl (by decide) lf_X3_add_81 (fun _ h9 => h9) tyX3 tyX3_ok nmX3 hm.1 (by omega) (by decide) rfl rfl pd_X3_14 dX3_add_283 ?_
            refine x_aload_n (j := 3) hc dX3_add_286 rfl rfl ?_
            refine x_getI (C := RX3) (T := TX3) (NN := 19) (ci := 4) (ref := "NetPointsModel") hc 14 in_X3_add_4 rfl (by decide) lf_X3_add_81 (fun _ h9 => h9) hm.1 (by omega) (by decide) rfl dX3_add_287 ?_
            refine x_vali (y := nI (n + 1)) (u2_s) ?_
            refine x_iconst (v := 1) hc dX3_add_290 (by decide) ?_
            refine x_isub hc dX3_add_291 ?_
            refine x_vali (nI_pred n) ?_
            exact x_iret hc hr (by decide) (by decide) dX3_add_292 (⟨rfl, rfl, rfl⟩)
          | succ d ih =>
            intro i gr hi hgrv
            have hin : i < n := by omega
            have hi8 : i < 8 := by omega
            obtain ⟨hpk, hpj⟩ := hc0.2.2.2.2.2.2.1 i hin
            have hsh := (hc0.2.2.2.2.2.2.2 i hin).1
            refine x_iload (j := 0) hc dX3_add_99 rfl ?_
            refine x_aload_n (j := 3) hc dX3_add_101 rfl rfl ?_
            refine x_getI (C := RX3) (T := TX3) (NN := 19) (ci := 4) (ref := "NetPointsModel") hc 14 in_X3_add_4 rfl (by decide) lf_X3_add_81 (fun _ h9 => h9) hm.1 (by omega) (by decide) rfl dX3_add_102 ?_
            refine x_vali (y := nI n) ((u2_k (by decide)).trans ((hc0.2.2.2.1))) ?_
            refine x_icmp_ge (tgt := 196) hc dX3_add_105 (by decide) (fun q9 => absurd q9 (nI_ge hin (show n < 2 ^ 31 by omega))) (fun _ => ?_)
            refine x_iload_n (j := 5) hc dX3_add_108 rfl rfl ?_
            refine x_iconst (v := 1) hc dX3_add_109 (by decide) ?_
            refine x_icmp_ne (tgt := 196) hc dX3_add_110 (by decide) (fun q9 => absurd q9 (fun h => h hk1)) (fun _ => ?_)
            refine x_aload_n (j := 3) hc dX3_add_113 rfl rfl ?_
            refine x_getR (C := RX3) (T := TX3) (NN := 19) (ci := 4) (ref := "NetPointsModel") hc 9 in_X3_add_4 rfl (by decide) lf_X3_add_31 (fun _ h9 => h9) hm.1 (by omega) (by decide) rfl ((hm.cel 9 1077 8 (by decide)).1) dX3_add_114 ?_
            refine x_iload (j := 0) hc dX3_add_117 rfl ?_
            refine x_iald hc ((hm.cel 9 1077 8 (by decide)).2) (by decide) rfl (by omega) (by omega) dX3_add_119 ?_
            refine x_vali (y := I (dr R m 9) i) (u2_a (((hm.cel 9 1077 8 (by decide)).2).ne (hm.1) (by decide))) ?_
            refine x_iconst (v := 1) hc dX3_add_120 (by decide) ?_
            refine x_icmp_ne (tgt := 139) hc dX3_add_121 (by decide) (fun q2 => ?_) (fun q2 => ?_)
            · refine x_iconst (v := 0) hc dX3_add_139 (by decide) ?_
              refine x_istore (lv' := [(9, .int 0), (8, .int (nI i)), (7, .int gr), (6, .int (mostR ka)), (0, .ref m), (1, .int (nI k)), (2, .int ka), (3, .int li), (4, .int fi), (5, .int se)]) hc dX3_add_140 (by decide) rfl ?_
              refine x_iload (j := 2) hc dX3_add_142 rfl ?_
              refine x_iload (j := 0) hc dX3_add_144 rfl ?_
              refine x_if_ne (tgt := 153) hc dX3_add_146 (by decide) (fun q9 => absurd q9 (by decide)) (fun _ => ?_)
              refine x_iconst (v := 0) hc dX3_add_149 (by decide) ?_
              refine x_goto (tgt := 187) hc dX3_add_150 (by decide) ?_
              refine x_iadd hc dX3_add_187 ?_
              refine x_istore (lv' := [(7, .int (gr + 0)), (9, .int 0), (8, .int (nI i)), (6, .int (mostR ka)), (0, .ref m), (1, .int (nI k)), (2, .int ka), (3, .int li), (4, .int fi), (5, .int se)]) hc dX3_add_188 (by decide) rfl ?_
              refine x_iinc (j := 2) (v := nI (i + 1)) (lv' := [(8, .int (nI (i + 1))), (7, .int (gr + 0)), (9, .int 0), (6, .int (mostR ka)), (0, .ref m), (1, .int (nI k)), (2, .int ka), (3, .int li), (4, .int fi), (5, .int se)]) hc dX3_add_190 rfl (nI_1 i) (by decide) rfl ?_
              refine x_goto (tgt := 99) hc dX3_add_193 (by decide) ?_
              refine x_sub [0, 1, 3, 4, 5, 6, 7, 8, 9] rfl ?_
              exact ih (i + 1) _ (by omega) (by
                                        rw [Int32.add_zero, hgrv]
                                        by_cases hpk2 : pic i = k
                                        · rw [cnt_T hpk2, netN, ← hpk2, hsh, netS, if_neg (show ¬ (mshr I R m i).1 = 1 from q2)]
                                        · rw [cnt_F hpk2])
            · refine x_aload_n (j := 3) hc dX3_add_124 rfl rfl ?_
              refine x_getR (C := RX3) (T := TX3) (NN := 19) (ci := 4) (ref := "NetPointsModel") hc 8 in_X3_add_4 rfl (by decide) lf_X3_add_28 (fun _ h9 => h9) hm.1 (by omega) (by decide) rfl ((hm.cel 8 1061 8 (by decide)).1) dX3_add_125 ?_
              refine x_iload (j := 0) hc dX3_add_128 rfl ?_
              refine x_iald hc ((hm.cel 8 1061 8 (by decide)).2) (by decide) rfl (by omega) (by omega) dX3_add_130 ?_
              refine x_vali (y := nI (pic i)) ((u2_a (((hm.cel 8 1061 8 (by decide)).2).ne (hm.1) (by decide))).trans ((hpj))) ?_
              refine x_iload_n (j := 4) hc dX3_add_131 rfl rfl ?_
              refine x_icmp_ne (tgt := 139) hc dX3_add_132 (by decide) (fun q3 => ?_) (fun q3 => ?_)
              · refine x_iconst (v := 0) hc dX3_add_139 (by decide) ?_
                refine x_istore (lv' := [(9, .int 0), (8, .int (nI i)), (7, .int gr), (6, .int (mostR ka)), (0, .ref m), (1, .int (nI k)), (2, .int ka), (3, .int li), (4, .int fi), (5, .int se)]) hc dX3_add_140 (by decide) rfl ?_
                refine x_iload (j := 2) hc dX3_add_142 rfl ?_
                refine x_iload (j := 0) hc dX3_add_144 rfl ?_
                refine x_if_ne (tgt := 153) hc dX3_add_146 (by decide) (fun q9 => absurd q9 (by decide)) (fun _ => ?_)
                refine x_iconst (v := 0) hc dX3_add_149 (by decide) ?_
                refine x_goto (tgt := 187) hc dX3_add_150 (by decide) ?_
                refine x_iadd hc dX3_add_187 ?_
                refine x_istore (lv' := [(7, .int (gr + 0)), (9, .int 0), (8, .int (nI i)), (6, .int (mostR ka)), (0, .ref m), (1, .int (nI k)), (2, .int ka), (3, .int li), (4, .int fi), (5, .int se)]) hc dX3_add_188 (by decide) rfl ?_
                refine x_iinc (j := 2) (v := nI (i + 1)) (lv' := [(8, .int (nI (i + 1))), (7, .int (gr + 0)), (9, .int 0), (6, .int (mostR ka)), (0, .ref m), (1, .int (nI k)), (2, .int ka), (3, .int li), (4, .int fi), (5, .int se)]) hc dX3_add_190 rfl (nI_1 i) (by decide) rfl ?_
                refine x_goto (tgt := 99) hc dX3_add_193 (by decide) ?_
                refine x_sub [0, 1, 3, 4, 5, 6, 7, 8, 9] rfl ?_
                exact ih (i + 1) _ (by omega) (by rw [cnt_F (fun h => q3 (by rw [h])), Int32.add_zero]; exact hgrv)
              · have hpk2 : pic i = k := (nI_eq (show pic i < 2 ^ 31 by omega) (show k < 2 ^ 31 by omega)).mp q3
                refine x_iconst (v := 1) hc dX3_add_135 (by decide) ?_
                refine x_goto (tgt := 140) hc dX3_add_136 (by decide) ?_
                refine x_istore (lv' := [(9, .int 1), (8, .int (nI i)), (7, .int gr), (6, .int (mostR ka)), (0, .ref m), (1, .int (nI k)), (2, .int ka), (3, .int li), (4, .int fi), (5, .int se)]) hc dX3_add_140 (by decide) rfl ?_
                refine x_iload (j := 2) hc dX3_add_142 rfl ?_
                refine x_iload (j := 0) hc dX3_add_144 rfl ?_
                refine x_if_ne (tgt := 153) hc dX3_add_146 (by decide) (fun _ => ?_) (fun q9 => absurd q9 (by decide))
                refine x_aload_n (j := 4) hc dX3_add_153 rfl rfl ?_
                refine x_getR (C := RX3) (T := TX3) (NN := 19) (ci := 4) (ref := "NetPointsModel") hc 11 in_X3_add_4 rfl (by decide) lf_X3_add_37 (fun _ h9 => h9) hm.1 (by omega) (by decide) rfl ((hm.cel 11 1109 8 (by decide)).1) dX3_add_154 ?_
                refine x_iload (j := 1) hc dX3_add_157 rfl ?_
                refine x_iald hc ((hm.cel 11 1109 8 (by decide)).2) (by decide) rfl (by omega) (by omega) dX3_add_159 ?_
                refine x_vali (y := I (dr R m 11) i) (u2_a (((hm.cel 11 1109 8 (by decide)).2).ne (hm.1) (by decide))) ?_
                refine x_aload_n (j := 4) hc dX3_add_160 rfl rfl ?_
                refine x_getR (C := RX3) (T := TX3) (NN := 19) (ci := 4) (ref := "NetPointsModel") hc 12 in_X3_add_4 rfl (by decide) lf_X3_add_40 (fun _ h9 => h9) hm.1 (by omega) (by decide) rfl ((hm.cel 12 1125 8 (by decide)).1) dX3_add_161 ?_
                refine x_iload (j := 1) hc dX3_add_164 rfl ?_
                refine x_iald hc ((hm.cel 12 1125 8 (by decide)).2) (by decide) rfl (by omega) (by omega) dX3_add_166 ?_
                refine x_vali (y := I (dr R m 12) i) (u2_a (((hm.cel 12 1125 8 (by decide)).2).ne (hm.1) (by decide))) ?_
                refine x_icmp_le (tgt := 180) hc dX3_add_167 (by decide) (fun q4 => ?_) (fun q4 => ?_)
                · refine x_aload_n (j := 4) hc dX3_add_180 rfl rfl ?_
                  refine x_getR (C := RX3) (T := TX3) (NN := 19) (ci := 4) (ref := "NetPointsModel") hc 12 in_X3_add_4 rfl (by decide) lf_X3_add_40 (fun _ h9 => h9) hm.1 (by omega) (by decide) rfl ((hm.cel 12 1125 8 (by decide)).1) dX3_add_181 ?_
                  refine x_iload (j := 1) hc dX3_add_184 rfl ?_
                  refine x_iald hc ((hm.cel 12 1125 8 (by decide)).2) (by decide) rfl (by omega) (by omega) dX3_add_186 ?_
                  refine x_vali (y := I (dr R m 12) i) (u2_a (((hm.cel 12 1125 8 (by decide)).2).ne (hm.1) (by decide))) ?_
                  refine x_iadd hc dX3_add_187 ?_
                  refine x_istore (lv' := [(7, .int (gr + (I (dr R m 12) i))), (9, .int 1), (8, .int (nI i)), (6, .int (mostR ka)), (0, .ref m), (1, .int (nI k)), (2, .int ka), (3, .int li), (4, .int fi), (5, .int se)]) hc dX3_add_188 (by decide) rfl ?_
                  refine x_iinc (j := 2) (v := nI (i + 1)) (lv' := [(8, .int (nI (i + 1))), (7, .int (gr + (I (dr R m 12) i))), (9, .int 1), (6, .int (mostR ka)), (0, .ref m), (1, .int (nI k)), (2, .int ka), (3, .int li), (4, .int fi), (5, .int se)]) hc dX3_add_190 rfl (nI_1 i) (by decide) rfl ?_
                  refine x_goto (tgt := 99) hc dX3_add_193 (by decide) ?_
                  refine x_sub [0, 1, 3, 4, 5, 6, 7, 8, 9] rfl ?_
                  exact ih (i + 1) _ (by omega) (by rw [hgrv, cnt_T hpk2, netN, ← hpk2, hsh, hpk2, netS, if_pos (show (mshr I R m i).1 = 1 from q2), Int32.add_assoc]; exact congrArg (fun v => mx fi se + (netN (sh k) (cnt pic k i) + v)) ((mx_le (a := (mshr I R m i).2.2.1) (b := (mshr I R m i).2.2.2) (Int32.not_lt.mpr q4)).symm))
                · refine x_aload_n (j := 4) hc dX3_add_170 rfl rfl ?_
                  refine x_getR (C := RX3) (T := TX3) (NN := 19) (ci := 4) (ref := "NetPointsModel") hc 11 in_X3_add_4 rfl (by decide) lf_X3_add_37 (fun _ h9 => h9) hm.1 (by omega) (by decide) rfl ((hm.cel 11 1109 8 (by decide)).1) dX3_add_171 ?_
                  refine x_iload (j := 1) hc dX3_add_174 rfl ?_
                  refine x_iald hc ((hm.cel 11 1109 8 (by decide)).2) (by decide) rfl (by omega) (by omega) dX3_add_176 ?_
                  refine x_vali (y := I (dr R m 11) i) (u2_a (((hm.cel 11 1109 8 (by decide)).2).ne (hm.1) (by decide))) ?_
                  refine x_goto (tgt := 187) hc dX3_add_177 (by decide) ?_
                  refine x_iadd hc dX3_add_187 ?_
                  refine x_istore (lv' := [(7, .int (gr + (I (dr R m 11) i))), (9, .int 1), (8, .int (nI i)), (6, .int (mostR ka)), (0, .ref m), (1, .int (nI k)), (2, .int ka), (3, .int li), (4, .int fi), (5, .int se)]) hc dX3_add_188 (by decide) rfl ?_
                  refine x_iinc (j := 2) (v := nI (i + 1)) (lv' := [(8, .int (nI (i + 1))), (7, .int (gr + (I (dr R m 11) i))), (9, .int 1), (6, .int (mostR ka)), (0, .ref m), (1, .int (nI k)), (2, .int ka), (3, .int li), (4, .int fi), (5, .int se)]) hc dX3_add_190 rfl (nI_1 i) (by decide) rfl ?_
                  refine x_goto (tgt := 99) hc dX3_add_193 (by decide) ?_
                  refine x_sub [0, 1, 3, 4, 5, 6, 7, 8, 9] rfl ?_
                  exact ih (i + 1) _ (by omega) (by rw [hgrv, cnt_T hpk2, netN, ← hpk2, hsh, hpk2, netS, if_pos (show (mshr I R m i).1 = 1 from q2), Int32.add_assoc]; exact congrArg (fun v => mx fi se + (netN (sh k) (cnt pic k i) + v)) ((mx_gt (a := (mshr I R m i).2.2.1) (b := (mshr I R m i).2.2.2) (Int32.not_le.mp q4)).symm))
        exact hloop n 0 _ (by omega) (by rw [show netN (sh k) (cnt pic k 0) = 0 from rfl, Int32.add_zero])
      · have hz : XW pg l ev rm_X3_add s mi args below meth c D z 10 L K N (u2 I m 18 0) J R 0 0 (MQ below (QG D z L K N R (fun v I' J' => v = some (.int (nI n)) ∧ I' = u2 (u2 (u2 (u2 (u2 (u2 (u2 I m 18 0) (dr R m 8) n (nI k)) (dr R m 9) n ka) (dr R m 10) n li) (dr R m 11) n fi) (dr R m 12) n se) m 14 (nI (n + 1)) ∧ J' = J)) args s (rm_X3_add).cells (rm_X3_add).slots (fun q => z ≤ q)) 196 [(8, .int 0), (7, .int (mx fi se)), (6, .int (mostR ka)), (0, .ref m), (1, .int (nI k)), (2, .int ka), (3, .int li), (4, .int fi), (5, .int se)] [] := by
          refine x_aload_n (j := 3) hc dX3_add_196 rfl rfl ?_
          refine x_getI (C := RX3) (T := TX3) (NN := 19) (ci := 4) (ref := "NetPointsModel") hc 14 in_X3_add_4 rfl (by decide) lf_X3_add_81 (fun _ h9 => h9) hm.1 (by omega) (by decide) rfl dX3_add_197 ?_
          refine x_vali (y := nI n) ((u2_k (by decide)).trans ((hc0.2.2.2.1))) ?_
          refine x_bipush (v := 8) hc dX3_add_200 (by decide) ?_
          refine x_icmp_eq (tgt := 218) hc dX3_add_202 (by decide) (fun q9 => absurd q9 (fun h => by have := (nI_eq (a := n) (b := 8) (by omega) (by decide)).mp h; omega)) (fun _ => ?_)
          refine x_iload_n (j := 5) hc dX3_add_205 rfl rfl ?_
          refine x_iconst (v := 1) hc dX3_add_206 (by decide) ?_
          refine x_icmp_ne (tgt := 224) hc dX3_add_207 (by decide) (fun _ => ?_) (fun q9 => absurd q9 (hk1))
          refine x_aload_n (j := 3) hc dX3_add_224 rfl rfl ?_
          refine x_getR (C := RX3) (T := TX3) (NN := 19) (ci := 4) (ref := "NetPointsModel") hc 8 in_X3_add_4 rfl (by decide) lf_X3_add_28 (fun _ h9 => h9) hm.1 (by omega) (by decide) rfl ((hm.cel 8 1061 8 (by decide)).1) dX3_add_225 ?_
          refine x_aload_n (j := 3) hc dX3_add_228 rfl rfl ?_
          refine x_getI (C := RX3) (T := TX3) (NN := 19) (ci := 4) (ref := "NetPointsModel") hc 14 in_X3_add_4 rfl (by decide) lf_X3_add_81 (fun _ h9 => h9) hm.1 (by omega) (by decide) rfl dX3_add_229 ?_
          refine x_vali (y := nI n) ((u2_k (by decide)).trans ((hc0.2.2.2.1))) ?_
          refine x_iload_n (j := 4) hc dX3_add_232 rfl rfl ?_
          refine x_iast hc ((hm.cel 8 1061 8 (by decide)).2) (by decide) rfl (by omega) (by omega) dX3_add_233 ?_
          refine x_aload_n (j := 3) hc dX3_add_234 rfl rfl ?_
          refine x_getR (C := RX3) (T := TX3) (NN := 19) (ci := 4) (ref := "NetPointsModel") hc 9 in_X3_add_4 rfl (by decide) lf_X3_add_31 (fun _ h9 => h9) hm.1 (by omega) (by decide) rfl ((hm.cel 9 1077 8 (by decide)).1) dX3_add_235 ?_
          refine x_aload_n (j := 3) hc dX3_add_238 rfl rfl ?_
          refine x_getI (C := RX3) (T := TX3) (NN := 19) (ci := 4) (ref := "NetPointsModel") hc 14 in_X3_add_4 rfl (by decide) lf_X3_add_81 (fun _ h9 => h9) hm.1 (by omega) (by decide) rfl dX3_add_239 ?_
          refine x_vali (y := nI n) ((u2_a ((hm.1).ne ((hm.cel 8 1061 8 (by decide)).2) (by decide))).trans ((u2_k (by decide)).trans ((hc0.2.2.2.1)))) ?_
          refine x_iload_n (j := 5) hc dX3_add_242 rfl rfl ?_
          refine x_iast hc ((hm.cel 9 1077 8 (by decide)).2) (by decide) rfl (by omega) (by omega) dX3_add_243 ?_
          refine x_aload_n (j := 3) hc dX3_add_244 rfl rfl ?_
          refine x_getR (C := RX3) (T := TX3) (NN := 19) (ci := 4) (ref := "NetPointsModel") hc 10 in_X3_add_4 rfl (by decide) lf_X3_add_34 (fun _ h9 => h9) hm.1 (by omega) (by decide) rfl ((hm.cel 10 1093 8 (by decide)).1) dX3_add_245 ?_
          refine x_aload_n (j := 3) hc dX3_add_248 rfl rfl ?_
          refine x_getI (C := RX3) (T := TX3) (NN := 19) (ci := 4) (ref := "NetPointsModel") hc 14 in_X3_add_4 rfl (by decide) lf_X3_add_81 (fun _ h9 => h9) hm.1 (by omega) (by decide) rfl dX3_add_249 ?_
          refine x_vali (y := nI n) ((u2_a ((hm.1).ne ((hm.cel 9 1077 8 (by decide)).2) (by decide))).trans ((u2_a ((hm.1).ne ((hm.cel 8 1061 8 (by decide)).2) (by decide))).trans ((u2_k (by decide)).trans ((hc0.2.2.2.1))))) ?_
          refine x_iload_n (j := 6) hc dX3_add_252 rfl rfl ?_
          refine x_iast hc ((hm.cel 10 1093 8 (by decide)).2) (by decide) rfl (by omega) (by omega) dX3_add_253 ?_
          refine x_aload_n (j := 3) hc dX3_add_254 rfl rfl ?_
          refine x_getR (C := RX3) (T := TX3) (NN := 19) (ci := 4) (ref := "NetPointsModel") hc 11 in_X3_add_4 rfl (by decide) lf_X3_add_37 (fun _ h9 => h9) hm.1 (by omega) (by decide) rfl ((hm.cel 11 1109 8 (by decide)).1) dX3_add_255 ?_
          refine x_aload_n (j := 3) hc dX3_add_258 rfl rfl ?_
          refine x_getI (C := RX3) (T := TX3) (NN := 19) (ci := 4) (ref := "NetPointsModel") hc 14 in_X3_add_4 rfl (by decide) lf_X3_add_81 (fun _ h9 => h9) hm.1 (by omega) (by decide) rfl dX3_add_259 ?_
          refine x_vali (y := nI n) ((u2_a ((hm.1).ne ((hm.cel 10 1093 8 (by decide)).2) (by decide))).trans ((u2_a ((hm.1).ne ((hm.cel 9 1077 8 (by decide)).2) (by decide))).trans ((u2_a ((hm.1).ne ((hm.cel 8 1061 8 (by decide)).2) (by decide))).trans ((u2_k (by decide)).trans ((hc0.2.2.2.1)))))) ?_
          refine x_iload (j := 7) hc dX3_add_262 rfl ?_
          refine x_iast hc ((hm.cel 11 1109 8 (by decide)).2) (by decide) rfl (by omega) (by omega) dX3_add_264 ?_
          refine x_aload_n (j := 3) hc dX3_add_265 rfl rfl ?_
          refine x_getR (C := RX3) (T := TX3) (NN := 19) (ci := 4) (ref := "NetPointsModel") hc 12 in_X3_add_4 rfl (by decide) lf_X3_add_40 (fun _ h9 => h9) hm.1 (by omega) (by decide) rfl ((hm.cel 12 1125 8 (by decide)).1) dX3_add_266 ?_
          refine x_aload_n (j := 3) hc dX3_add_269 rfl rfl ?_
          refine x_getI (C := RX3) (T := TX3) (NN := 19) (ci := 4) (ref := "NetPointsModel") hc 14 in_X3_add_4 rfl (by decide) lf_X3_add_81 (fun _ h9 => h9) hm.1 (by omega) (by decide) rfl dX3_add_270 ?_
          refine x_vali (y := nI n) ((u2_a ((hm.1).ne ((hm.cel 11 1109 8 (by decide)).2) (by decide))).trans ((u2_a ((hm.1).ne ((hm.cel 10 1093 8 (by decide)).2) (by decide))).trans ((u2_a ((hm.1).ne ((hm.cel 9 1077 8 (by decide)).2) (by decide))).trans ((u2_a ((hm.1).ne ((hm.cel 8 1061 8 (by decide)).2) (by decide))).trans ((u2_k (by decide)).trans ((hc0.2.2.2.1))))))) ?_
          refine x_iload (j := 8) hc dX3_add_273 rfl ?_
          refine x_iast hc ((hm.cel 12 1125 8 (by decide)).2) (by decide) rfl (by omega) (by omega) dX3_add_275 ?_
          refine x_aload_n (j := 3) hc dX3_add_276 rfl rfl ?_
          refine x_dup hc dX3_add_277 rfl ?_
          refine x_getI (C := RX3) (T := TX3) (NN := 19) (ci := 4) (ref := "NetPointsModel") hc 14 in_X3_add_4 rfl (by decide) lf_X3_add_81 (fun _ h9 => h9) hm.1 (by omega) (by decide) rfl dX3_add_278 ?_
          refine x_vali (y := nI n) ((u2_a ((hm.1).ne ((hm.cel 12 1125 8 (by decide)).2) (by decide))).trans ((u2_a ((hm.1).ne ((hm.cel 11 1109 8 (by decide)).2) (by decide))).trans ((u2_a ((hm.1).ne ((hm.cel 10 1093 8 (by decide)).2) (by decide))).trans ((u2_a ((hm.1).ne ((hm.cel 9 1077 8 (by decide)).2) (by decide))).trans ((u2_a ((hm.1).ne ((hm.cel 8 1061 8 (by decide)).2) (by decide))).trans ((u2_k (by decide)).trans ((hc0.2.2.2.1)))))))) ?_
          refine x_iconst (v := 1) hc dX3_add_281 (by decide) ?_
          refine x_iadd hc dX3_add_282 ?_
          refine x_vali (nI_1 n) ?_
          refine x_putI (C := RX3) (T := TX3) (NN := 19) (ci := 4) (ref := "NetPointsModel") hc 14 in_X3_add_4 rfl (by decide) lf_X3_add_81 (fun _ h9 => h9) tyX3 tyX3_ok nmX3 hm.1 (by omega) (by decide) rfl rfl pd_X3_14 dX3_add_283 ?_
          refine x_aload_n (j := 3) hc dX3_add_286 rfl rfl ?_
          refine x_getI (C := RX3) (T := TX3) (NN := 19) (ci := 4) (ref := "NetPointsModel") hc 14 in_X3_add_4 rfl (by decide) lf_X3_add_81 (fun _ h9 => h9) hm.1 (by omega) (by decide) rfl dX3_add_287 ?_
          refine x_vali (y := nI (n + 1)) (u2_s) ?_
          refine x_iconst (v := 1) hc dX3_add_290 (by decide) ?_
          refine x_isub hc dX3_add_291 ?_
          refine x_vali (nI_pred n) ?_
          exact x_iret hc hr (by decide) (by decide) dX3_add_292 (⟨rfl, rfl, rfl⟩)
        refine x_iload (j := 0) hc dX3_add_99 rfl ?_
        refine x_aload_n (j := 3) hc dX3_add_101 rfl rfl ?_
        refine x_getI (C := RX3) (T := TX3) (NN := 19) (ci := 4) (ref := "NetPointsModel") hc 14 in_X3_add_4 rfl (by decide) lf_X3_add_81 (fun _ h9 => h9) hm.1 (by omega) (by decide) rfl dX3_add_102 ?_
        refine x_vali (y := nI n) ((u2_k (by decide)).trans ((hc0.2.2.2.1))) ?_
        refine x_icmp_ge (tgt := 196) hc dX3_add_105 (by decide) (fun q2 => ?_) (fun q2 => ?_)
        · exact hz
        · refine x_iload_n (j := 5) hc dX3_add_108 rfl rfl ?_
          refine x_iconst (v := 1) hc dX3_add_109 (by decide) ?_
          refine x_icmp_ne (tgt := 196) hc dX3_add_110 (by decide) (fun _ => ?_) (fun q9 => absurd q9 (hk1))
          exact hz
    refine x_iload (j := 5) hc dX3_add_80 rfl ?_
    refine x_iload (j := 6) hc dX3_add_82 rfl ?_
    refine x_icmp_le (tgt := 92) hc dX3_add_84 (by decide) (fun q1 => ?_) (fun q1 => ?_)
    · refine x_iload (j := 6) hc dX3_add_92 rfl ?_
      refine x_vali ((mx_le (Int32.not_lt.mpr q1)).symm) ?_
      exact hgr
    · refine x_iload (j := 5) hc dX3_add_87 rfl ?_
      refine x_goto (tgt := 94) hc dX3_add_89 (by decide) ?_
      refine x_vali ((mx_gt (Int32.not_le.mp q1)).symm) ?_
      exact hgr
  refine x_iload_n (j := 2) hc dX3_add_18 rfl rfl ?_
  refine x_if_ne (tgt := 28) hc dX3_add_19 (by decide) (fun q1 => ?_) (fun q1 => ?_)
  · refine x_sipush (v := 10000) hc dX3_add_28 (by decide) ?_
    refine x_vali (show (10000 : Int32) = mostR ka from (if_neg q1).symm) ?_
    exact htail
  · refine x_sipush (v := 1000) hc dX3_add_22 (by decide) ?_
    refine x_goto (tgt := 31) hc dX3_add_25 (by decide) ?_
    refine x_vali (show (1000 : Int32) = mostR ka from (if_pos q1).symm) ?_
    exact htail
set_option maxHeartbeats 4000000 in
set_option maxRecDepth 100000 in
theorem m_add1 (l : Launch) (D : va_G) (z e0 : Nat) (L : List Nat) (K N : Nat → Nat) (I : Nat → Nat → Int32) (J : Nat → Nat → Int64) (R : Nat → Nat → Option Nat) (m : Nat) (hm : Mdl L K N R m) (q : Int32) (hq : ¬ (0 ≤ q ∧ q ≤ 1)) (ka li fi se : Int32) : MG l yX3_add wsX3_add rm_X3_add D z e0 L K N I J R [.ref m, .int q, .int ka, .int li, .int fi, .int se] (fun v I' J' => v = some (.int 0) ∧ I' = u2 I m 18 1 ∧ J' = J) := by
  refine mg_of (own := RX3) (maxL := 10) (ret := (some .int)) (by decide +kernel) rfl rfl (Nat.le_of_ble_eq_true rfl) ?_
  intro pg ev s mi args below meth c hc hr
  refine x_aload_n (j := 0) hc dX3_add_0 rfl rfl ?_
  refine x_iconst (v := 0) hc dX3_add_1 (by decide) ?_
  refine x_putI (C := RX3) (T := TX3) (NN := 19) (ci := 4) (ref := "NetPointsModel") hc 18 in_X3_add_4 rfl (by decide) lf_X3_add_56 (fun _ h9 => h9) tyX3 tyX3_ok nmX3 hm.1 (by omega) (by decide) rfl rfl pd_X3_18 dX3_add_2 ?_
  refine x_iload_n (j := 1) hc dX3_add_5 rfl rfl ?_
  refine x_callS (As := [.int q]) (st := []) hc (m_isPicF l D z e0 L K N (u2 I m 18 0) J R q hq) gX3_add_X3_isPicture rfl hdS_X3_isPicture ⟨Nat.le_of_ble_eq_true rfl, Nat.le_of_ble_eq_true rfl⟩ rfl rfl ⟨Nat.le_of_ble_eq_true rfl, Nat.le_of_ble_eq_true rfl⟩ (Nat.le_of_ble_eq_true rfl) dX3_add_6 (fun v9 I9 J9 hz9 => ?_)
  obtain ⟨rfl, hI9, hJ9⟩ := hz9
  replace hI9 := hI9.symm
  subst hI9
  replace hJ9 := hJ9.symm
  subst hJ9
  refine x_if_ne (tgt := 18) hc dX3_add_9 (by decide) (fun q9 => absurd q9 (by decide)) (fun _ => ?_)
  refine x_aload_n (j := 0) hc dX3_add_12 rfl rfl ?_
  refine x_iconst (v := 1) hc dX3_add_13 (by decide) ?_
  refine x_callV (C := RX3) (T := TX3) (NN := 19) (ci := 4) (As := [.int 1]) (st := []) hc hm.1 (by omega) (by decide) rfl (m_fails l D z e0 L K N (u2 I m 18 0) J R m hm 1) gX3_add_X3_fails rfl hdV_X3_fails ⟨Nat.le_of_ble_eq_true rfl, Nat.le_of_ble_eq_true rfl⟩ rfl rfl ⟨Nat.le_of_ble_eq_true rfl, Nat.le_of_ble_eq_true rfl⟩ (Nat.le_of_ble_eq_true rfl) dX3_add_14 (fun v9 I9 J9 hz9 => ?_)
  obtain ⟨rfl, hI9, hJ9⟩ := hz9
  replace hI9 := hI9.symm
  subst hI9
  replace hJ9 := hJ9.symm
  subst hJ9
  refine x_setI u2_u2 ?_
  exact x_iret hc hr (by decide) (by decide) dX3_add_17 (⟨rfl, rfl, rfl⟩)
set_option maxHeartbeats 4000000 in
set_option maxRecDepth 100000 in
theorem m_add2 (l : Launch) (D : va_G) (z e0 : Nat) (L : List Nat) (K N : Nat → Nat) (I : Nat → Nat → Int32) (J : Nat → Nat → Int64) (R : Nat → Nat → Option Nat) (m now n : Nat) (pic : Nat → Nat) (sh : Nat → Nat → Shr) (hc0 : MC L K N I R m now n pic sh) (k : Nat) (hk : k < 2) (ka li fi se : Int32) (hbad : ¬ ((0 ≤ ka ∧ ka ≤ 3) ∧ (0 ≤ li ∧ li ≤ 10000000) ∧ (0 ≤ fi ∧ fi ≤ mostR ka) ∧ (0 ≤ se ∧ se ≤ mostR ka))) : MG l yX3_add wsX3_add rm_X3_add D z e0 L K N I J R [.ref m, .int (nI k), .int ka, .int li, .int fi, .int se] (fun v I' J' => v = some (.int 0) ∧ I' = u2 I m 18 2 ∧ J' = J) := by
  refine mg_of (own := RX3) (maxL := 10) (ret := (some .int)) (by decide +kernel) rfl rfl (Nat.le_of_ble_eq_true rfl) ?_
  intro pg ev s mi args below meth c hc hr
  have hm := hc0.1
  have hnow := hc0.2.2.1
  have hn8 := hc0.2.2.2.2.1
  refine x_aload_n (j := 0) hc dX3_add_0 rfl rfl ?_
  refine x_iconst (v := 0) hc dX3_add_1 (by decide) ?_
  refine x_putI (C := RX3) (T := TX3) (NN := 19) (ci := 4) (ref := "NetPointsModel") hc 18 in_X3_add_4 rfl (by decide) lf_X3_add_56 (fun _ h9 => h9) tyX3 tyX3_ok nmX3 hm.1 (by omega) (by decide) rfl rfl pd_X3_18 dX3_add_2 ?_
  refine x_iload_n (j := 1) hc dX3_add_5 rfl rfl ?_
  refine x_callS (As := [.int (nI k)]) (st := []) hc (m_isPicT l D z e0 L K N (u2 I m 18 0) J R k hk) gX3_add_X3_isPicture rfl hdS_X3_isPicture ⟨Nat.le_of_ble_eq_true rfl, Nat.le_of_ble_eq_true rfl⟩ rfl rfl ⟨Nat.le_of_ble_eq_true rfl, Nat.le_of_ble_eq_true rfl⟩ (Nat.le_of_ble_eq_true rfl) dX3_add_6 (fun v9 I9 J9 hz9 => ?_)
  obtain ⟨rfl, hI9, hJ9⟩ := hz9
  replace hI9 := hI9.symm
  subst hI9
  replace hJ9 := hJ9.symm
  subst hJ9
  refine x_if_ne (tgt := 18) hc dX3_add_9 (by decide) (fun _ => ?_) (fun q9 => absurd q9 (by decide))
  have htail : XW pg l ev rm_X3_add s mi args below meth c D z 10 L K N (u2 I m 18 0) J R 0 0 (MQ below (QG D z L K N R (fun v I' J' => v = some (.int 0) ∧ I' = u2 I m 18 2 ∧ J' = J)) args s (rm_X3_add).cells (rm_X3_add).slots (fun q => z ≤ q)) 31 [(0, .ref m), (1, .int (nI k)), (2, .int ka), (3, .int li), (4, .int fi), (5, .int se)] [.int (mostR ka)] := by
    refine x_istore (lv' := [(6, .int (mostR ka)), (0, .ref m), (1, .int (nI k)), (2, .int ka), (3, .int li), (4, .int fi), (5, .int se)]) hc dX3_add_31 (by decide) rfl ?_
    refine x_iload_n (j := 3) hc dX3_add_33 rfl rfl ?_
    refine x_iconst (v := 0) hc dX3_add_34 (by decide) ?_
    refine x_iconst (v := 3) hc dX3_add_35 (by decide) ?_
    by_cases g0 : (0 : Int32) ≤ ka ∧ ka ≤ 3
    · refine x_callS (As := [.int ka, .int 0, .int 3]) (st := []) hc (m_inT l D z e0 L K N (u2 I m 18 0) J R ka 0 3 g0.1 g0.2) gX3_add_X3_in rfl hdS_X3_in ⟨Nat.le_of_ble_eq_true rfl, Nat.le_of_ble_eq_true rfl⟩ rfl rfl ⟨Nat.le_of_ble_eq_true rfl, Nat.le_of_ble_eq_true rfl⟩ (Nat.le_of_ble_eq_true rfl) dX3_add_36 (fun v9 I9 J9 hz9 => ?_)
      obtain ⟨rfl, hI9, hJ9⟩ := hz9
      replace hI9 := hI9.symm
      subst hI9
      replace hJ9 := hJ9.symm
      subst hJ9
      refine x_if_eq (tgt := 74) hc dX3_add_39 (by decide) (fun q9 => absurd q9 (by decide)) (fun _ => ?_)
      refine x_iload_n (j := 4) hc dX3_add_42 rfl rfl ?_
      refine x_iconst (v := 0) hc dX3_add_43 (by decide) ?_
      refine x_ldc hc dX3_add_44 lc_X3_add_80 ?_
      by_cases g1 : (0 : Int32) ≤ li ∧ li ≤ 10000000
      · refine x_callS (As := [.int li, .int 0, .int 10000000]) (st := []) hc (m_inT l D z e0 L K N (u2 I m 18 0) J R li 0 10000000 g1.1 g1.2) gX3_add_X3_in rfl hdS_X3_in ⟨Nat.le_of_ble_eq_true rfl, Nat.le_of_ble_eq_true rfl⟩ rfl rfl ⟨Nat.le_of_ble_eq_true rfl, Nat.le_of_ble_eq_true rfl⟩ (Nat.le_of_ble_eq_true rfl) dX3_add_46 (fun v9 I9 J9 hz9 => ?_)
        obtain ⟨rfl, hI9, hJ9⟩ := hz9
        replace hI9 := hI9.symm
        subst hI9
        replace hJ9 := hJ9.symm
        subst hJ9
        refine x_if_eq (tgt := 74) hc dX3_add_49 (by decide) (fun q9 => absurd q9 (by decide)) (fun _ => ?_)
        refine x_iload (j := 5) hc dX3_add_52 rfl ?_
        refine x_iconst (v := 0) hc dX3_add_54 (by decide) ?_
        refine x_iload (j := 0) hc dX3_add_55 rfl ?_
        by_cases g2 : (0 : Int32) ≤ fi ∧ fi ≤ mostR ka
        · refine x_callS (As := [.int fi, .int 0, .int (mostR ka)]) (st := []) hc (m_inT l D z e0 L K N (u2 I m 18 0) J R fi 0 (mostR ka) g2.1 g2.2) gX3_add_X3_in rfl hdS_X3_in ⟨Nat.le_of_ble_eq_true rfl, Nat.le_of_ble_eq_true rfl⟩ rfl rfl ⟨Nat.le_of_ble_eq_true rfl, Nat.le_of_ble_eq_true rfl⟩ (Nat.le_of_ble_eq_true rfl) dX3_add_57 (fun v9 I9 J9 hz9 => ?_)
          obtain ⟨rfl, hI9, hJ9⟩ := hz9
          replace hI9 := hI9.symm
          subst hI9
          replace hJ9 := hJ9.symm
          subst hJ9
          refine x_if_eq (tgt := 74) hc dX3_add_60 (by decide) (fun q9 => absurd q9 (by decide)) (fun _ => ?_)
          refine x_iload (j := 6) hc dX3_add_63 rfl ?_
          refine x_iconst (v := 0) hc dX3_add_65 (by decide) ?_
          refine x_iload (j := 0) hc dX3_add_66 rfl ?_
          have g3 : ¬ ((0 : Int32) ≤ se ∧ se ≤ mostR ka) := fun h => hbad ⟨g0, g1, g2, h⟩
          refine x_callS (As := [.int se, .int 0, .int (mostR ka)]) (st := []) hc (m_inF l D z e0 L K N (u2 I m 18 0) J R se 0 (mostR ka) g3) gX3_add_X3_in rfl hdS_X3_in ⟨Nat.le_of_ble_eq_true rfl, Nat.le_of_ble_eq_true rfl⟩ rfl rfl ⟨Nat.le_of_ble_eq_true rfl, Nat.le_of_ble_eq_true rfl⟩ (Nat.le_of_ble_eq_true rfl) dX3_add_68 (fun v9 I9 J9 hz9 => ?_)
          obtain ⟨rfl, hI9, hJ9⟩ := hz9
          replace hI9 := hI9.symm
          subst hI9
          replace hJ9 := hJ9.symm
          subst hJ9
          refine x_if_ne (tgt := 80) hc dX3_add_71 (by decide) (fun q9 => absurd q9 (by decide)) (fun _ => ?_)
          refine x_aload_n (j := 1) hc dX3_add_74 rfl rfl ?_
          refine x_iconst (v := 2) hc dX3_add_75 (by decide) ?_
          refine x_callV (C := RX3) (T := TX3) (NN := 19) (ci := 4) (As := [.int 2]) (st := []) hc hm.1 (by omega) (by decide) rfl (m_fails l D z e0 L K N (u2 I m 18 0) J R m hm 2) gX3_add_X3_fails rfl hdV_X3_fails ⟨Nat.le_of_ble_eq_true rfl, Nat.le_of_ble_eq_true rfl⟩ rfl rfl ⟨Nat.le_of_ble_eq_true rfl, Nat.le_of_ble_eq_true rfl⟩ (Nat.le_of_ble_eq_true rfl) dX3_add_76 (fun v9 I9 J9 hz9 => ?_)
          obtain ⟨rfl, hI9, hJ9⟩ := hz9
          replace hI9 := hI9.symm
          subst hI9
          replace hJ9 := hJ9.symm
          subst hJ9
          refine x_setI u2_u2 ?_
          exact x_iret hc hr (by decide) (by decide) dX3_add_79 (⟨rfl, rfl, rfl⟩)
        · refine x_callS (As := [.int fi, .int 0, .int (mostR ka)]) (st := []) hc (m_inF l D z e0 L K N (u2 I m 18 0) J R fi 0 (mostR ka) g2) gX3_add_X3_in rfl hdS_X3_in ⟨Nat.le_of_ble_eq_true rfl, Nat.le_of_ble_eq_true rfl⟩ rfl rfl ⟨Nat.le_of_ble_eq_true rfl, Nat.le_of_ble_eq_true rfl⟩ (Nat.le_of_ble_eq_true rfl) dX3_add_57 (fun v9 I9 J9 hz9 => ?_)
          obtain ⟨rfl, hI9, hJ9⟩ := hz9
          replace hI9 := hI9.symm
          subst hI9
          replace hJ9 := hJ9.symm
          subst hJ9
          refine x_if_eq (tgt := 74) hc dX3_add_60 (by decide) (fun _ => ?_) (fun q9 => absurd (by decide) q9)
          refine x_aload_n (j := 1) hc dX3_add_74 rfl rfl ?_
          refine x_iconst (v := 2) hc dX3_add_75 (by decide) ?_
          refine x_callV (C := RX3) (T := TX3) (NN := 19) (ci := 4) (As := [.int 2]) (st := []) hc hm.1 (by omega) (by decide) rfl (m_fails l D z e0 L K N (u2 I m 18 0) J R m hm 2) gX3_add_X3_fails rfl hdV_X3_fails ⟨Nat.le_of_ble_eq_true rfl, Nat.le_of_ble_eq_true rfl⟩ rfl rfl ⟨Nat.le_of_ble_eq_true rfl, Nat.le_of_ble_eq_true rfl⟩ (Nat.le_of_ble_eq_true rfl) dX3_add_76 (fun v9 I9 J9 hz9 => ?_)
          obtain ⟨rfl, hI9, hJ9⟩ := hz9
          replace hI9 := hI9.symm
          subst hI9
          replace hJ9 := hJ9.symm
          subst hJ9
          refine x_setI u2_u2 ?_
          exact x_iret hc hr (by decide) (by decide) dX3_add_79 (⟨rfl, rfl, rfl⟩)
      · refine x_callS (As := [.int li, .int 0, .int 10000000]) (st := []) hc (m_inF l D z e0 L K N (u2 I m 18 0) J R li 0 10000000 g1) gX3_add_X3_in rfl hdS_X3_in ⟨Nat.le_of_ble_eq_true rfl, Nat.le_of_ble_eq_true rfl⟩ rfl rfl ⟨Nat.le_of_ble_eq_true rfl, Nat.le_of_ble_eq_true rfl⟩ (Nat.le_of_ble_eq_true rfl) dX3_add_46 (fun v9 I9 J9 hz9 => ?_)
        obtain ⟨rfl, hI9, hJ9⟩ := hz9
        replace hI9 := hI9.symm
        subst hI9
        replace hJ9 := hJ9.symm
        subst hJ9
        refine x_if_eq (tgt := 74) hc dX3_add_49 (by decide) (fun _ => ?_) (fun q9 => absurd (by decide) q9)
        refine x_aload_n (j := 1) hc dX3_add_74 rfl rfl ?_
        refine x_iconst (v := 2) hc dX3_add_75 (by decide) ?_
        refine x_callV (C := RX3) (T := TX3) (NN := 19) (ci := 4) (As := [.int 2]) (st := []) hc hm.1 (by omega) (by decide) rfl (m_fails l D z e0 L K N (u2 I m 18 0) J R m hm 2) gX3_add_X3_fails rfl hdV_X3_fails ⟨Nat.le_of_ble_eq_true rfl, Nat.le_of_ble_eq_true rfl⟩ rfl rfl ⟨Nat.le_of_ble_eq_true rfl, Nat.le_of_ble_eq_true rfl⟩ (Nat.le_of_ble_eq_true rfl) dX3_add_76 (fun v9 I9 J9 hz9 => ?_)
        obtain ⟨rfl, hI9, hJ9⟩ := hz9
        replace hI9 := hI9.symm
        subst hI9
        replace hJ9 := hJ9.symm
        subst hJ9
        refine x_setI u2_u2 ?_
        exact x_iret hc hr (by decide) (by decide) dX3_add_79 (⟨rfl, rfl, rfl⟩)
    · refine x_callS (As := [.int ka, .int 0, .int 3]) (st := []) hc (m_inF l D z e0 L K N (u2 I m 18 0) J R ka 0 3 g0) gX3_add_X3_in rfl hdS_X3_in ⟨Nat.le_of_ble_eq_true rfl, Nat.le_of_ble_eq_true rfl⟩ rfl rfl ⟨Nat.le_of_ble_eq_true rfl, Nat.le_of_ble_eq_true rfl⟩ (Nat.le_of_ble_eq_true rfl) dX3_add_36 (fun v9 I9 J9 hz9 => ?_)
      obtain ⟨rfl, hI9, hJ9⟩ := hz9
      replace hI9 := hI9.symm
      subst hI9
      replace hJ9 := hJ9.symm
      subst hJ9
      refine x_if_eq (tgt := 74) hc dX3_add_39 (by decide) (fun _ => ?_) (fun q9 => absurd (by decide) q9)
      refine x_aload_n (j := 1) hc dX3_add_74 rfl rfl ?_
      refine x_iconst (v := 2) hc dX3_add_75 (by decide) ?_
      refine x_callV (C := RX3) (T := TX3) (NN := 19) (ci := 4) (As := [.int 2]) (st := []) hc hm.1 (by omega) (by decide) rfl (m_fails l D z e0 L K N (u2 I m 18 0) J R m hm 2) gX3_add_X3_fails rfl hdV_X3_fails ⟨Nat.le_of_ble_eq_true rfl, Nat.le_of_ble_eq_true rfl⟩ rfl rfl ⟨Nat.le_of_ble_eq_true rfl, Nat.le_of_ble_eq_true rfl⟩ (Nat.le_of_ble_eq_true rfl) dX3_add_76 (fun v9 I9 J9 hz9 => ?_)
      obtain ⟨rfl, hI9, hJ9⟩ := hz9
      replace hI9 := hI9.symm
      subst hI9
      replace hJ9 := hJ9.symm
      subst hJ9
      refine x_setI u2_u2 ?_
      exact x_iret hc hr (by decide) (by decide) dX3_add_79 (⟨rfl, rfl, rfl⟩)
  refine x_iload_n (j := 2) hc dX3_add_18 rfl rfl ?_
  refine x_if_ne (tgt := 28) hc dX3_add_19 (by decide) (fun q1 => ?_) (fun q1 => ?_)
  · refine x_sipush (v := 10000) hc dX3_add_28 (by decide) ?_
    refine x_vali (show (10000 : Int32) = mostR ka from (if_neg q1).symm) ?_
    exact htail
  · refine x_sipush (v := 1000) hc dX3_add_22 (by decide) ?_
    refine x_goto (tgt := 31) hc dX3_add_25 (by decide) ?_
    refine x_vali (show (1000 : Int32) = mostR ka from (if_pos q1).symm) ?_
    exact htail
set_option maxHeartbeats 4000000 in
set_option maxRecDepth 100000 in
theorem m_add3 (l : Launch) (D : va_G) (z e0 : Nat) (L : List Nat) (K N : Nat → Nat) (I : Nat → Nat → Int32) (J : Nat → Nat → Int64) (R : Nat → Nat → Option Nat) (m now n : Nat) (pic : Nat → Nat) (sh : Nat → Nat → Shr) (hc0 : MC L K N I R m now n pic sh) (k : Nat) (hk : k < 2) (ka li fi se : Int32) (h1 : 0 ≤ ka ∧ ka ≤ 3) (h2 : 0 ≤ li ∧ li ≤ 10000000) (h3 : 0 ≤ fi ∧ fi ≤ mostR ka) (h4 : 0 ≤ se ∧ se ≤ mostR ka) (hbad : ¬ (n < 8 ∧ (ka = 1 → (netN (sh k) (cnt pic k n) + mx fi se ≤ 10000)))) : MG l yX3_add wsX3_add rm_X3_add D z e0 L K N I J R [.ref m, .int (nI k), .int ka, .int li, .int fi, .int se] (fun v I' J' => v = some (.int 0) ∧ I' = u2 I m 18 3 ∧ J' = J) := by
  refine mg_of (own := RX3) (maxL := 10) (ret := (some .int)) (by decide +kernel) rfl rfl (Nat.le_of_ble_eq_true rfl) ?_
  intro pg ev s mi args below meth c hc hr
  have hm := hc0.1
  have hnow := hc0.2.2.1
  have hn8 := hc0.2.2.2.2.1
  refine x_aload_n (j := 0) hc dX3_add_0 rfl rfl ?_
  refine x_iconst (v := 0) hc dX3_add_1 (by decide) ?_
  refine x_putI (C := RX3) (T := TX3) (NN := 19) (ci := 4) (ref := "NetPointsModel") hc 18 in_X3_add_4 rfl (by decide) lf_X3_add_56 (fun _ h9 => h9) tyX3 tyX3_ok nmX3 hm.1 (by omega) (by decide) rfl rfl pd_X3_18 dX3_add_2 ?_
  refine x_iload_n (j := 1) hc dX3_add_5 rfl rfl ?_
  refine x_callS (As := [.int (nI k)]) (st := []) hc (m_isPicT l D z e0 L K N (u2 I m 18 0) J R k hk) gX3_add_X3_isPicture rfl hdS_X3_isPicture ⟨Nat.le_of_ble_eq_true rfl, Nat.le_of_ble_eq_true rfl⟩ rfl rfl ⟨Nat.le_of_ble_eq_true rfl, Nat.le_of_ble_eq_true rfl⟩ (Nat.le_of_ble_eq_true rfl) dX3_add_6 (fun v9 I9 J9 hz9 => ?_)
  obtain ⟨rfl, hI9, hJ9⟩ := hz9
  replace hI9 := hI9.symm
  subst hI9
  replace hJ9 := hJ9.symm
  subst hJ9
  refine x_if_ne (tgt := 18) hc dX3_add_9 (by decide) (fun _ => ?_) (fun q9 => absurd q9 (by decide))
  have htail : XW pg l ev rm_X3_add s mi args below meth c D z 10 L K N (u2 I m 18 0) J R 0 0 (MQ below (QG D z L K N R (fun v I' J' => v = some (.int 0) ∧ I' = u2 I m 18 3 ∧ J' = J)) args s (rm_X3_add).cells (rm_X3_add).slots (fun q => z ≤ q)) 31 [(0, .ref m), (1, .int (nI k)), (2, .int ka), (3, .int li), (4, .int fi), (5, .int se)] [.int (mostR ka)] := by
    refine x_istore (lv' := [(6, .int (mostR ka)), (0, .ref m), (1, .int (nI k)), (2, .int ka), (3, .int li), (4, .int fi), (5, .int se)]) hc dX3_add_31 (by decide) rfl ?_
    refine x_iload_n (j := 3) hc dX3_add_33 rfl rfl ?_
    refine x_iconst (v := 0) hc dX3_add_34 (by decide) ?_
    refine x_iconst (v := 3) hc dX3_add_35 (by decide) ?_
    refine x_callS (As := [.int ka, .int 0, .int 3]) (st := []) hc (m_inT l D z e0 L K N (u2 I m 18 0) J R ka 0 3 h1.1 h1.2) gX3_add_X3_in rfl hdS_X3_in ⟨Nat.le_of_ble_eq_true rfl, Nat.le_of_ble_eq_true rfl⟩ rfl rfl ⟨Nat.le_of_ble_eq_true rfl, Nat.le_of_ble_eq_true rfl⟩ (Nat.le_of_ble_eq_true rfl) dX3_add_36 (fun v9 I9 J9 hz9 => ?_)
    obtain ⟨rfl, hI9, hJ9⟩ := hz9
    replace hI9 := hI9.symm
    subst hI9
    replace hJ9 := hJ9.symm
    subst hJ9
    refine x_if_eq (tgt := 74) hc dX3_add_39 (by decide) (fun q9 => absurd q9 (by decide)) (fun _ => ?_)
    refine x_iload_n (j := 4) hc dX3_add_42 rfl rfl ?_
    refine x_iconst (v := 0) hc dX3_add_43 (by decide) ?_
    refine x_ldc hc dX3_add_44 lc_X3_add_80 ?_
    refine x_callS (As := [.int li, .int 0, .int 10000000]) (st := []) hc (m_inT l D z e0 L K N (u2 I m 18 0) J R li 0 10000000 h2.1 h2.2) gX3_add_X3_in rfl hdS_X3_in ⟨Nat.le_of_ble_eq_true rfl, Nat.le_of_ble_eq_true rfl⟩ rfl rfl ⟨Nat.le_of_ble_eq_true rfl, Nat.le_of_ble_eq_true rfl⟩ (Nat.le_of_ble_eq_true rfl) dX3_add_46 (fun v9 I9 J9 hz9 => ?_)
    obtain ⟨rfl, hI9, hJ9⟩ := hz9
    replace hI9 := hI9.symm
    subst hI9
    replace hJ9 := hJ9.symm
    subst hJ9
    refine x_if_eq (tgt := 74) hc dX3_add_49 (by decide) (fun q9 => absurd q9 (by decide)) (fun _ => ?_)
    refine x_iload (j := 5) hc dX3_add_52 rfl ?_
    refine x_iconst (v := 0) hc dX3_add_54 (by decide) ?_
    refine x_iload (j := 0) hc dX3_add_55 rfl ?_
    refine x_callS (As := [.int fi, .int 0, .int (mostR ka)]) (st := []) hc (m_inT l D z e0 L K N (u2 I m 18 0) J R fi 0 (mostR ka) h3.1 h3.2) gX3_add_X3_in rfl hdS_X3_in ⟨Nat.le_of_ble_eq_true rfl, Nat.le_of_ble_eq_true rfl⟩ rfl rfl ⟨Nat.le_of_ble_eq_true rfl, Nat.le_of_ble_eq_true rfl⟩ (Nat.le_of_ble_eq_true rfl) dX3_add_57 (fun v9 I9 J9 hz9 => ?_)
    obtain ⟨rfl, hI9, hJ9⟩ := hz9
    replace hI9 := hI9.symm
    subst hI9
    replace hJ9 := hJ9.symm
    subst hJ9
    refine x_if_eq (tgt := 74) hc dX3_add_60 (by decide) (fun q9 => absurd q9 (by decide)) (fun _ => ?_)
    refine x_iload (j := 6) hc dX3_add_63 rfl ?_
    refine x_iconst (v := 0) hc dX3_add_65 (by decide) ?_
    refine x_iload (j := 0) hc dX3_add_66 rfl ?_
    refine x_callS (As := [.int se, .int 0, .int (mostR ka)]) (st := []) hc (m_inT l D z e0 L K N (u2 I m 18 0) J R se 0 (mostR ka) h4.1 h4.2) gX3_add_X3_in rfl hdS_X3_in ⟨Nat.le_of_ble_eq_true rfl, Nat.le_of_ble_eq_true rfl⟩ rfl rfl ⟨Nat.le_of_ble_eq_true rfl, Nat.le_of_ble_eq_true rfl⟩ (Nat.le_of_ble_eq_true rfl) dX3_add_68 (fun v9 I9 J9 hz9 => ?_)
    obtain ⟨rfl, hI9, hJ9⟩ := hz9
    replace hI9 := hI9.symm
    subst hI9
    replace hJ9 := hJ9.symm
    subst hJ9
    refine x_if_ne (tgt := 80) hc dX3_add_71 (by decide) (fun _ => ?_) (fun q9 => absurd q9 (by decide))
    have hgr : XW pg l ev rm_X3_add s mi args below meth c D z 10 L K N (u2 I m 18 0) J R 0 0 (MQ below (QG D z L K N R (fun v I' J' => v = some (.int 0) ∧ I' = u2 I m 18 3 ∧ J' = J)) args s (rm_X3_add).cells (rm_X3_add).slots (fun q => z ≤ q)) 94 [(6, .int (mostR ka)), (0, .ref m), (1, .int (nI k)), (2, .int ka), (3, .int li), (4, .int fi), (5, .int se)] [.int (mx fi se)] := by
      refine x_istore (lv' := [(7, .int (mx fi se)), (6, .int (mostR ka)), (0, .ref m), (1, .int (nI k)), (2, .int ka), (3, .int li), (4, .int fi), (5, .int se)]) hc dX3_add_94 (by decide) rfl ?_
      refine x_iconst (v := 0) hc dX3_add_96 (by decide) ?_
      refine x_istore (lv' := [(8, .int 0), (7, .int (mx fi se)), (6, .int (mostR ka)), (0, .ref m), (1, .int (nI k)), (2, .int ka), (3, .int li), (4, .int fi), (5, .int se)]) hc dX3_add_97 (by decide) rfl ?_
      by_cases hk1 : ka = 1
      · have hloop : ∀ (d i : Nat) (gr : Int32), i + d = n → gr = mx fi se + netN (sh k) (cnt pic k i) → XW pg l ev rm_X3_add s mi args below meth c D z 10 L K N (u2 I m 18 0) J R 0 0 (MQ below (QG D z L K N R (fun v I' J' => v = some (.int 0) ∧ I' = u2 I m 18 3 ∧ J' = J)) args s (rm_X3_add).cells (rm_X3_add).slots (fun q => z ≤ q)) 99 [(8, .int (nI i)), (7, .int gr), (6, .int (mostR ka)), (0, .ref m), (1, .int (nI k)), (2, .int ka), (3, .int li), (4, .int fi), (5, .int se)] [] := by
          intro d
          induction d with
          | zero =>
            intro i gr hi hgrv
            have hin : i = n := by omega
            refine x_iload (j := 0) hc dX3_add_99 rfl ?_
            refine x_aload_n (j := 3) hc dX3_add_101 rfl rfl ?_
            refine x_getI (C := RX3) (T := TX3) (NN := 19) (ci := 4) (ref := "NetPointsModel") hc 14 in_X3_add_4 rfl (by decide) lf_X3_add_81 (fun _ h9 => h9) hm.1 (by omega) (by decide) rfl dX3_add_102 ?_
            refine x_vali (y := nI n) ((u2_k (by decide)).trans ((hc0.2.2.2.1))) ?_
            refine x_icmp_ge (tgt := 196) hc dX3_add_105 (by decide) (fun _ => ?_) (fun q9 => absurd (by rw [hin]; exact Int32.le_refl _) q9)
            rw [hin] at hgrv
            by_cases hn : n < 8
            · refine x_aload_n (j := 3) hc dX3_add_196 rfl rfl ?_
              refine x_getI (C := RX3) (T := TX3) (NN := 19) (ci := 4) (ref := "NetPointsModel") hc 14 in_X3_add_4 rfl (by decide) lf_X3_add_81 (fun _ h9 => h9) hm.1 (by omega) (by decide) rfl dX3_add_197 ?_
              refine x_vali (y := nI n) ((u2_k (by decide)).trans ((hc0.2.2.2.1))) ?_
              refine x_bipush (v := 8) hc dX3_add_200 (by decide) ?_
              refine x_icmp_eq (tgt := 218) hc dX3_add_202 (by decide) (fun q9 => absurd q9 (fun h => by have := (nI_eq (a := n) (b := 8) (by omega) (by decide)).mp h; omega)) (fun _ => ?_)
              refine x_iload_n (j := 5) hc dX3_add_205 rfl rfl ?_
              refine x_iconst (v := 1) hc dX3_add_206 (by decide) ?_
              refine x_icmp_ne (tgt := 224) hc dX3_add_207 (by decide) (fun q9 => absurd q9 (fun h => h hk1)) (fun _ => ?_)
              refine x_iload (j := 1) hc dX3_add_210 rfl ?_
              refine x_sipush (v := 10000) hc dX3_add_212 (by decide) ?_
              refine x_icmp_le (tgt := 224) hc dX3_add_215 (by decide) (fun q9 => absurd q9 (fun h => hbad ⟨hn, fun _ => by rw [Int32.add_comm, ← hgrv]; exact h⟩)) (fun _ => ?_)
              refine x_aload_n (j := 3) hc dX3_add_218 rfl rfl ?_
              refine x_iconst (v := 3) hc dX3_add_219 (by decide) ?_
              refine x_callV (C := RX3) (T := TX3) (NN := 19) (ci := 4) (As := [.int 3]) (st := []) hc hm.1 (by omega) (by decide) rfl (m_fails l D z e0 L K N (u2 I m 18 0) J R m hm 3) gX3_add_X3_fails rfl hdV_X3_fails ⟨Nat.le_of_ble_eq_true rfl, Nat.le_of_ble_eq_true rfl⟩ rfl rfl ⟨Nat.le_of_ble_eq_true rfl, Nat.le_of_ble_eq_true rfl⟩ (Nat.le_of_ble_eq_true rfl) dX3_add_220 (fun v9 I9 J9 hz9 => ?_)
              obtain ⟨rfl, hI9, hJ9⟩ := hz9
              replace hI9 := hI9.symm
              subst hI9
              replace hJ9 := hJ9.symm
              subst hJ9
              refine x_setI u2_u2 ?_
              exact x_iret hc hr (by decide) (by decide) dX3_add_223 (⟨rfl, rfl, rfl⟩)
            · refine x_aload_n (j := 3) hc dX3_add_196 rfl rfl ?_
              refine x_getI (C := RX3) (T := TX3) (NN := 19) (ci := 4) (ref := "NetPointsModel") hc 14 in_X3_add_4 rfl (by decide) lf_X3_add_81 (fun _ h9 => h9) hm.1 (by omega) (by decide) rfl dX3_add_197 ?_
              refine x_vali (y := nI n) ((u2_k (by decide)).trans ((hc0.2.2.2.1))) ?_
              refine x_bipush (v := 8) hc dX3_add_200 (by decide) ?_
              refine x_icmp_eq (tgt := 218) hc dX3_add_202 (by decide) (fun _ => ?_) (fun q9 => absurd (show nI n = nI 8 by rw [show n = 8 by omega]) q9)
              refine x_aload_n (j := 3) hc dX3_add_218 rfl rfl ?_
              refine x_iconst (v := 3) hc dX3_add_219 (by decide) ?_
              refine x_callV (C := RX3) (T := TX3) (NN := 19) (ci := 4) (As := [.int 3]) (st := []) hc hm.1 (by omega) (by decide) rfl (m_fails l D z e0 L K N (u2 I m 18 0) J R m hm 3) gX3_add_X3_fails rfl hdV_X3_fails ⟨Nat.le_of_ble_eq_true rfl, Nat.le_of_ble_eq_true rfl⟩ rfl rfl ⟨Nat.le_of_ble_eq_true rfl, Nat.le_of_ble_eq_true rfl⟩ (Nat.le_of_ble_eq_true rfl) dX3_add_220 (fun v9 I9 J9 hz9 => ?_)
              obtain ⟨rfl, hI9, hJ9⟩ := hz9
              replace hI9 := hI9.symm
              subst hI9
              replace hJ9 := hJ9.symm
              subst hJ9
              refine x_setI u2_u2 ?_
              exact x_iret hc hr (by decide) (by decide) dX3_add_223 (⟨rfl, rfl, rfl⟩)
          | succ d ih =>
            intro i gr hi hgrv
            have hin : i < n := by omega
            have hi8 : i < 8 := by omega
            obtain ⟨hpk, hpj⟩ := hc0.2.2.2.2.2.2.1 i hin
            have hsh := (hc0.2.2.2.2.2.2.2 i hin).1
            refine x_iload (j := 0) hc dX3_add_99 rfl ?_
            refine x_aload_n (j := 3) hc dX3_add_101 rfl rfl ?_
            refine x_getI (C := RX3) (T := TX3) (NN := 19) (ci := 4) (ref := "NetPointsModel") hc 14 in_X3_add_4 rfl (by decide) lf_X3_add_81 (fun _ h9 => h9) hm.1 (by omega) (by decide) rfl dX3_add_102 ?_
            refine x_vali (y := nI n) ((u2_k (by decide)).trans ((hc0.2.2.2.1))) ?_
            refine x_icmp_ge (tgt := 196) hc dX3_add_105 (by decide) (fun q9 => absurd q9 (nI_ge hin (show n < 2 ^ 31 by omega))) (fun _ => ?_)
            refine x_iload_n (j := 5) hc dX3_add_108 rfl rfl ?_
            refine x_iconst (v := 1) hc dX3_add_109 (by decide) ?_
            refine x_icmp_ne (tgt := 196) hc dX3_add_110 (by decide) (fun q9 => absurd q9 (fun h => h hk1)) (fun _ => ?_)
            refine x_aload_n (j := 3) hc dX3_add_113 rfl rfl ?_
            refine x_getR (C := RX3) (T := TX3) (NN := 19) (ci := 4) (ref := "NetPointsModel") hc 9 in_X3_add_4 rfl (by decide) lf_X3_add_31 (fun _ h9 => h9) hm.1 (by omega) (by decide) rfl ((hm.cel 9 1077 8 (by decide)).1) dX3_add_114 ?_
            refine x_iload (j := 0) hc dX3_add_117 rfl ?_
            refine x_iald hc ((hm.cel 9 1077 8 (by decide)).2) (by decide) rfl (by omega) (by omega) dX3_add_119 ?_
            refine x_vali (y := I (dr R m 9) i) (u2_a (((hm.cel 9 1077 8 (by decide)).2).ne (hm.1) (by decide))) ?_
            refine x_iconst (v := 1) hc dX3_add_120 (by decide) ?_
            refine x_icmp_ne (tgt := 139) hc dX3_add_121 (by decide) (fun q2 => ?_) (fun q2 => ?_)
            · refine x_iconst (v := 0) hc dX3_add_139 (by decide) ?_
              refine x_istore (lv' := [(9, .int 0), (8, .int (nI i)), (7, .int gr), (6, .int (mostR ka)), (0, .ref m), (1, .int (nI k)), (2, .int ka), (3, .int li), (4, .int fi), (5, .int se)]) hc dX3_add_140 (by decide) rfl ?_
              refine x_iload (j := 2) hc dX3_add_142 rfl ?_
              refine x_iload (j := 0) hc dX3_add_144 rfl ?_
              refine x_if_ne (tgt := 153) hc dX3_add_146 (by decide) (fun q9 => absurd q9 (by decide)) (fun _ => ?_)
              refine x_iconst (v := 0) hc dX3_add_149 (by decide) ?_
              refine x_goto (tgt := 187) hc dX3_add_150 (by decide) ?_
              refine x_iadd hc dX3_add_187 ?_
              refine x_istore (lv' := [(7, .int (gr + 0)), (9, .int 0), (8, .int (nI i)), (6, .int (mostR ka)), (0, .ref m), (1, .int (nI k)), (2, .int ka), (3, .int li), (4, .int fi), (5, .int se)]) hc dX3_add_188 (by decide) rfl ?_
              refine x_iinc (j := 2) (v := nI (i + 1)) (lv' := [(8, .int (nI (i + 1))), (7, .int (gr + 0)), (9, .int 0), (6, .int (mostR ka)), (0, .ref m), (1, .int (nI k)), (2, .int ka), (3, .int li), (4, .int fi), (5, .int se)]) hc dX3_add_190 rfl (nI_1 i) (by decide) rfl ?_
              refine x_goto (tgt := 99) hc dX3_add_193 (by decide) ?_
              refine x_sub [0, 1, 3, 4, 5, 6, 7, 8, 9] rfl ?_
              exact ih (i + 1) _ (by omega) (by
                                        rw [Int32.add_zero, hgrv]
                                        by_cases hpk2 : pic i = k
                                        · rw [cnt_T hpk2, netN, ← hpk2, hsh, netS, if_neg (show ¬ (mshr I R m i).1 = 1 from q2)]
                                        · rw [cnt_F hpk2])
            · refine x_aload_n (j := 3) hc dX3_add_124 rfl rfl ?_
              refine x_getR (C := RX3) (T := TX3) (NN := 19) (ci := 4) (ref := "NetPointsModel") hc 8 in_X3_add_4 rfl (by decide) lf_X3_add_28 (fun _ h9 => h9) hm.1 (by omega) (by decide) rfl ((hm.cel 8 1061 8 (by decide)).1) dX3_add_125 ?_
              refine x_iload (j := 0) hc dX3_add_128 rfl ?_
              refine x_iald hc ((hm.cel 8 1061 8 (by decide)).2) (by decide) rfl (by omega) (by omega) dX3_add_130 ?_
              refine x_vali (y := nI (pic i)) ((u2_a (((hm.cel 8 1061 8 (by decide)).2).ne (hm.1) (by decide))).trans ((hpj))) ?_
              refine x_iload_n (j := 4) hc dX3_add_131 rfl rfl ?_
              refine x_icmp_ne (tgt := 139) hc dX3_add_132 (by decide) (fun q3 => ?_) (fun q3 => ?_)
              · refine x_iconst (v := 0) hc dX3_add_139 (by decide) ?_
                refine x_istore (lv' := [(9, .int 0), (8, .int (nI i)), (7, .int gr), (6, .int (mostR ka)), (0, .ref m), (1, .int (nI k)), (2, .int ka), (3, .int li), (4, .int fi), (5, .int se)]) hc dX3_add_140 (by decide) rfl ?_
                refine x_iload (j := 2) hc dX3_add_142 rfl ?_
                refine x_iload (j := 0) hc dX3_add_144 rfl ?_
                refine x_if_ne (tgt := 153) hc dX3_add_146 (by decide) (fun q9 => absurd q9 (by decide)) (fun _ => ?_)
                refine x_iconst (v := 0) hc dX3_add_149 (by decide) ?_
                refine x_goto (tgt := 187) hc dX3_add_150 (by decide) ?_
                refine x_iadd hc dX3_add_187 ?_
                refine x_istore (lv' := [(7, .int (gr + 0)), (9, .int 0), (8, .int (nI i)), (6, .int (mostR ka)), (0, .ref m), (1, .int (nI k)), (2, .int ka), (3, .int li), (4, .int fi), (5, .int se)]) hc dX3_add_188 (by decide) rfl ?_
                refine x_iinc (j := 2) (v := nI (i + 1)) (lv' := [(8, .int (nI (i + 1))), (7, .int (gr + 0)), (9, .int 0), (6, .int (mostR ka)), (0, .ref m), (1, .int (nI k)), (2, .int ka), (3, .int li), (4, .int fi), (5, .int se)]) hc dX3_add_190 rfl (nI_1 i) (by decide) rfl ?_
                refine x_goto (tgt := 99) hc dX3_add_193 (by decide) ?_
                refine x_sub [0, 1, 3, 4, 5, 6, 7, 8, 9] rfl ?_
                exact ih (i + 1) _ (by omega) (by rw [cnt_F (fun h => q3 (by rw [h])), Int32.add_zero]; exact hgrv)
              · have hpk2 : pic i = k := (nI_eq (show pic i < 2 ^ 31 by omega) (show k < 2 ^ 31 by omega)).mp q3
                refine x_iconst (v := 1) hc dX3_add_135 (by decide) ?_
                refine x_goto (tgt := 140) hc dX3_add_136 (by decide) ?_
                refine x_istore (lv' := [(9, .int 1), (8, .int (nI i)), (7, .int gr), (6, .int (mostR ka)), (0, .ref m), (1, .int (nI k)), (2, .int ka), (3, .int li), (4, .int fi), (5, .int se)]) hc dX3_add_140 (by decide) rfl ?_
                refine x_iload (j := 2) hc dX3_add_142 rfl ?_
                refine x_iload (j := 0) hc dX3_add_144 rfl ?_
                refine x_if_ne (tgt := 153) hc dX3_add_146 (by decide) (fun _ => ?_) (fun q9 => absurd q9 (by decide))
                refine x_aload_n (j := 4) hc dX3_add_153 rfl rfl ?_
                refine x_getR (C := RX3) (T := TX3) (NN := 19) (ci := 4) (ref := "NetPointsModel") hc 11 in_X3_add_4 rfl (by decide) lf_X3_add_37 (fun _ h9 => h9) hm.1 (by omega) (by decide) rfl ((hm.cel 11 1109 8 (by decide)).1) dX3_add_154 ?_
                refine x_iload (j := 1) hc dX3_add_157 rfl ?_
                refine x_iald hc ((hm.cel 11 1109 8 (by decide)).2) (by decide) rfl (by omega) (by omega) dX3_add_159 ?_
                refine x_vali (y := I (dr R m 11) i) (u2_a (((hm.cel 11 1109 8 (by decide)).2).ne (hm.1) (by decide))) ?_
                refine x_aload_n (j := 4) hc dX3_add_160 rfl rfl ?_
                refine x_getR (C := RX3) (T := TX3) (NN := 19) (ci := 4) (ref := "NetPointsModel") hc 12 in_X3_add_4 rfl (by decide) lf_X3_add_40 (fun _ h9 => h9) hm.1 (by omega) (by decide) rfl ((hm.cel 12 1125 8 (by decide)).1) dX3_add_161 ?_
                refine x_iload (j := 1) hc dX3_add_164 rfl ?_
                refine x_iald hc ((hm.cel 12 1125 8 (by decide)).2) (by decide) rfl (by omega) (by omega) dX3_add_166 ?_
                refine x_vali (y := I (dr R m 12) i) (u2_a (((hm.cel 12 1125 8 (by decide)).2).ne (hm.1) (by decide))) ?_
                refine x_icmp_le (tgt := 180) hc dX3_add_167 (by decide) (fun q4 => ?_) (fun q4 => ?_)
                · refine x_aload_n (j := 4) hc dX3_add_180 rfl rfl ?_
                  refine x_getR (C := RX3) (T := TX3) (NN := 19) (ci := 4) (ref := "NetPointsModel") hc 12 in_X3_add_4 rfl (by decide) lf_X3_add_40 (fun _ h9 => h9) hm.1 (by omega) (by decide) rfl ((hm.cel 12 1125 8 (by decide)).1) dX3_add_181 ?_
                  refine x_iload (j := 1) hc dX3_add_184 rfl ?_
                  refine x_iald hc ((hm.cel 12 1125 8 (by decide)).2) (by decide) rfl (by omega) (by omega) dX3_add_186 ?_
                  refine x_vali (y := I (dr R m 12) i) (u2_a (((hm.cel 12 1125 8 (by decide)).2).ne (hm.1) (by decide))) ?_
                  refine x_iadd hc dX3_add_187 ?_
                  refine x_istore (lv' := [(7, .int (gr + (I (dr R m 12) i))), (9, .int 1), (8, .int (nI i)), (6, .int (mostR ka)), (0, .ref m), (1, .int (nI k)), (2, .int ka), (3, .int li), (4, .int fi), (5, .int se)]) hc dX3_add_188 (by decide) rfl ?_
                  refine x_iinc (j := 2) (v := nI (i + 1)) (lv' := [(8, .int (nI (i + 1))), (7, .int (gr + (I (dr R m 12) i))), (9, .int 1), (6, .int (mostR ka)), (0, .ref m), (1, .int (nI k)), (2, .int ka), (3, .int li), (4, .int fi), (5, .int se)]) hc dX3_add_190 rfl (nI_1 i) (by decide) rfl ?_
                  refine x_goto (tgt := 99) hc dX3_add_193 (by decide) ?_
                  refine x_sub [0, 1, 3, 4, 5, 6, 7, 8, 9] rfl ?_
                  exact ih (i + 1) _ (by omega) (by rw [hgrv, cnt_T hpk2, netN, ← hpk2, hsh, hpk2, netS, if_pos (show (mshr I R m i).1 = 1 from q2), Int32.add_assoc]; exact congrArg (fun v => mx fi se + (netN (sh k) (cnt pic k i) + v)) ((mx_le (a := (mshr I R m i).2.2.1) (b := (mshr I R m i).2.2.2) (Int32.not_lt.mpr q4)).symm))
                · refine x_aload_n (j := 4) hc dX3_add_170 rfl rfl ?_
                  refine x_getR (C := RX3) (T := TX3) (NN := 19) (ci := 4) (ref := "NetPointsModel") hc 11 in_X3_add_4 rfl (by decide) lf_X3_add_37 (fun _ h9 => h9) hm.1 (by omega) (by decide) rfl ((hm.cel 11 1109 8 (by decide)).1) dX3_add_171 ?_
                  refine x_iload (j := 1) hc dX3_add_174 rfl ?_
                  refine x_iald hc ((hm.cel 11 1109 8 (by decide)).2) (by decide) rfl (by omega) (by omega) dX3_add_176 ?_
                  refine x_vali (y := I (dr R m 11) i) (u2_a (((hm.cel 11 1109 8 (by decide)).2).ne (hm.1) (by decide))) ?_
                  refine x_goto (tgt := 187) hc dX3_add_177 (by decide) ?_
                  refine x_iadd hc dX3_add_187 ?_
                  refine x_istore (lv' := [(7, .int (gr + (I (dr R m 11) i))), (9, .int 1), (8, .int (nI i)), (6, .int (mostR ka)), (0, .ref m), (1, .int (nI k)), (2, .int ka), (3, .int li), (4, .int fi), (5, .int se)]) hc dX3_add_188 (by decide) rfl ?_
                  refine x_iinc (j := 2) (v := nI (i + 1)) (lv' := [(8, .int (nI (i + 1))), (7, .int (gr + (I (dr R m 11) i))), (9, .int 1), (6, .int (mostR ka)), (0, .ref m), (1, .int (nI k)), (2, .int ka), (3, .int li), (4, .int fi), (5, .int se)]) hc dX3_add_190 rfl (nI_1 i) (by decide) rfl ?_
                  refine x_goto (tgt := 99) hc dX3_add_193 (by decide) ?_
                  refine x_sub [0, 1, 3, 4, 5, 6, 7, 8, 9] rfl ?_
                  exact ih (i + 1) _ (by omega) (by rw [hgrv, cnt_T hpk2, netN, ← hpk2, hsh, hpk2, netS, if_pos (show (mshr I R m i).1 = 1 from q2), Int32.add_assoc]; exact congrArg (fun v => mx fi se + (netN (sh k) (cnt pic k i) + v)) ((mx_gt (a := (mshr I R m i).2.2.1) (b := (mshr I R m i).2.2.2) (Int32.not_le.mp q4)).symm))
        exact hloop n 0 _ (by omega) (by rw [show netN (sh k) (cnt pic k 0) = 0 from rfl, Int32.add_zero])
      · have hz : XW pg l ev rm_X3_add s mi args below meth c D z 10 L K N (u2 I m 18 0) J R 0 0 (MQ below (QG D z L K N R (fun v I' J' => v = some (.int 0) ∧ I' = u2 I m 18 3 ∧ J' = J)) args s (rm_X3_add).cells (rm_X3_add).slots (fun q => z ≤ q)) 196 [(8, .int 0), (7, .int (mx fi se)), (6, .int (mostR ka)), (0, .ref m), (1, .int (nI k)), (2, .int ka), (3, .int li), (4, .int fi), (5, .int se)] [] := by
          by_cases hn : n < 8
          · exact absurd ⟨hn, fun h => absurd h hk1⟩ hbad
          · refine x_aload_n (j := 3) hc dX3_add_196 rfl rfl ?_
            refine x_getI (C := RX3) (T := TX3) (NN := 19) (ci := 4) (ref := "NetPointsModel") hc 14 in_X3_add_4 rfl (by decide) lf_X3_add_81 (fun _ h9 => h9) hm.1 (by omega) (by decide) rfl dX3_add_197 ?_
            refine x_vali (y := nI n) ((u2_k (by decide)).trans ((hc0.2.2.2.1))) ?_
            refine x_bipush (v := 8) hc dX3_add_200 (by decide) ?_
            refine x_icmp_eq (tgt := 218) hc dX3_add_202 (by decide) (fun _ => ?_) (fun q9 => absurd (show nI n = nI 8 by rw [show n = 8 by omega]) q9)
            refine x_aload_n (j := 3) hc dX3_add_218 rfl rfl ?_
            refine x_iconst (v := 3) hc dX3_add_219 (by decide) ?_
            refine x_callV (C := RX3) (T := TX3) (NN := 19) (ci := 4) (As := [.int 3]) (st := []) hc hm.1 (by omega) (by decide) rfl (m_fails l D z e0 L K N (u2 I m 18 0) J R m hm 3) gX3_add_X3_fails rfl hdV_X3_fails ⟨Nat.le_of_ble_eq_true rfl, Nat.le_of_ble_eq_true rfl⟩ rfl rfl ⟨Nat.le_of_ble_eq_true rfl, Nat.le_of_ble_eq_true rfl⟩ (Nat.le_of_ble_eq_true rfl) dX3_add_220 (fun v9 I9 J9 hz9 => ?_)
            obtain ⟨rfl, hI9, hJ9⟩ := hz9
            replace hI9 := hI9.symm
            subst hI9
            replace hJ9 := hJ9.symm
            subst hJ9
            refine x_setI u2_u2 ?_
            exact x_iret hc hr (by decide) (by decide) dX3_add_223 (⟨rfl, rfl, rfl⟩)
        refine x_iload (j := 0) hc dX3_add_99 rfl ?_
        refine x_aload_n (j := 3) hc dX3_add_101 rfl rfl ?_
        refine x_getI (C := RX3) (T := TX3) (NN := 19) (ci := 4) (ref := "NetPointsModel") hc 14 in_X3_add_4 rfl (by decide) lf_X3_add_81 (fun _ h9 => h9) hm.1 (by omega) (by decide) rfl dX3_add_102 ?_
        refine x_vali (y := nI n) ((u2_k (by decide)).trans ((hc0.2.2.2.1))) ?_
        refine x_icmp_ge (tgt := 196) hc dX3_add_105 (by decide) (fun q2 => ?_) (fun q2 => ?_)
        · exact hz
        · refine x_iload_n (j := 5) hc dX3_add_108 rfl rfl ?_
          refine x_iconst (v := 1) hc dX3_add_109 (by decide) ?_
          refine x_icmp_ne (tgt := 196) hc dX3_add_110 (by decide) (fun _ => ?_) (fun q9 => absurd q9 (hk1))
          exact hz
    refine x_iload (j := 5) hc dX3_add_80 rfl ?_
    refine x_iload (j := 6) hc dX3_add_82 rfl ?_
    refine x_icmp_le (tgt := 92) hc dX3_add_84 (by decide) (fun q1 => ?_) (fun q1 => ?_)
    · refine x_iload (j := 6) hc dX3_add_92 rfl ?_
      refine x_vali ((mx_le (Int32.not_lt.mpr q1)).symm) ?_
      exact hgr
    · refine x_iload (j := 5) hc dX3_add_87 rfl ?_
      refine x_goto (tgt := 94) hc dX3_add_89 (by decide) ?_
      refine x_vali ((mx_gt (Int32.not_le.mp q1)).symm) ?_
      exact hgr
  refine x_iload_n (j := 2) hc dX3_add_18 rfl rfl ?_
  refine x_if_ne (tgt := 28) hc dX3_add_19 (by decide) (fun q1 => ?_) (fun q1 => ?_)
  · refine x_sipush (v := 10000) hc dX3_add_28 (by decide) ?_
    refine x_vali (show (10000 : Int32) = mostR ka from (if_neg q1).symm) ?_
    exact htail
  · refine x_sipush (v := 1000) hc dX3_add_22 (by decide) ?_
    refine x_goto (tgt := 31) hc dX3_add_25 (by decide) ?_
    refine x_vali (show (1000 : Int32) = mostR ka from (if_pos q1).symm) ?_
    exact htail
theorem dfvX3 : ∀ j, j < 19 → defaultValue (tyX3 j) = vp_V (fsl (fun _ => 0) (fun _ => 0) (fun _ => none) (lay 4) 0) j := by
  intro j hj
  rcases (show j = 0 ∨ j = 1 ∨ j = 2 ∨ j = 3 ∨ j = 4 ∨ j = 5 ∨ j = 6 ∨ j = 7 ∨ j = 8 ∨ j = 9 ∨ j = 10 ∨ j = 11 ∨ j = 12 ∨ j = 13 ∨ j = 14 ∨ j = 15 ∨ j = 16 ∨ j = 17 ∨ j = 18 by omega) with rfl | rfl | rfl | rfl | rfl | rfl | rfl | rfl | rfl | rfl | rfl | rfl | rfl | rfl | rfl | rfl | rfl | rfl | rfl <;> rfl
/-- the reference as far as it is made: the first cells of the table -/
def Mpart (L : List Nat) (K N : Nat → Nat) (I : Nat → Nat → Int32) (R : Nat → Nat → Option Nat) (m : Nat) (T : List (Nat × Nat × Nat)) : Prop := At L K N m 52 0 ∧ ∀ q ∈ T, R m q.1 = some (dr R m q.1) ∧ At L K N (dr R m q.1) q.2.1 q.2.2 ∧ I (dr R m q.1) = fun _ => 0
theorem Mpart.step {L L1 : List Nat} {K N K1 N1 : Nat → Nat} {I I1 : Nat → Nat → Int32} {J J1 : Nat → Nat → Int64} {R R1 : Nat → Nat → Option Nat} {m : Nat} {T : List (Nat × Nat × Nat)} (h : Mpart L K N I R m T) {k t n q : Nat} (hN : NewC L K N I J R q t n L1 K1 N1 I1 J1 R1) (hT : ∀ x ∈ T, x.1 ≠ k) : Mpart L1 K1 N1 I1 (u2 R1 m k (some q)) m ((k, t, n) :: T) := by
  have E := hN.ext
  refine ⟨E.cell h.1, fun x hx => ?_⟩
  rcases List.mem_cons.mp hx with rfl | hx
  · have e : dr (u2 R1 m k (some q)) m k = q := dr_of u2_s
    show (u2 R1 m k (some q)) m k = some (dr (u2 R1 m k (some q)) m k) ∧ _
    rw [e]
    exact ⟨u2_s, hN.2.1, hN.2.2.1⟩
  · obtain ⟨h1, h2, h3⟩ := h.2 x hx
    have e : dr (u2 R1 m k (some q)) m x.1 = dr R m x.1 := by
      show ((u2 R1 m k (some q)) m x.1).getD 0 = (R m x.1).getD 0
      rw [u2_k (hT x hx), E.r h.1.1 (fun z => z)]
    rw [e, u2_k (hT x hx), E.r h.1.1 (fun z => z)]
    exact ⟨h1, E.cell h2, (E.i h2.1 (fun z => z)).trans h3⟩
theorem mtab_in : ∀ q : Nat × Nat × Nat, q ∈ mtab → q ∈ [(17, 1190, 2), (16, 1174, 20), (15, 1158, 20), (13, 1141, 8), (12, 1125, 8), (11, 1109, 8), (10, 1093, 8), (9, 1077, 8), (8, 1061, 8), (5, 1045, 2), (4, 1029, 2), (3, 1013, 2), (2, 997, 8), (1, 981, 20), (0, 965, 80)] := by decide
abbrev rm_X3_init : Room := { frames := 1, cells := 15, slots := 204, locals := 12 }
set_option maxHeartbeats 4000000 in
set_option maxRecDepth 100000 in
theorem m_init (l : Launch) (D : va_G) (z e0 : Nat) (L : List Nat) (K N : Nat → Nat) (I : Nat → Nat → Int32) (J : Nat → Nat → Int64) (R : Nat → Nat → Option Nat) (m : Nat) (hA : At L K N m 52 0) : MF l yX3_init wsX3_init rm_X3_init D z e0 L K N I J R [.ref m] (fun v L' K' N' I' J' R' => v = none ∧ Mdl L' K' N' R' m ∧ (∀ q ∈ mtab, I' (dr R' m q.1) = fun _ => 0) ∧ I' m = I m ∧ Ext L K N I J R L' K' N' I' J' R' (fun a => a = m)) := by
  refine mf_of (own := RX3) (maxL := 1) (ret := none) (by decide +kernel) rfl rfl (Nat.le_of_ble_eq_true rfl) ?_
  intro pg ev s mi args below meth c hc hr hname
  have hE : Ext L K N I J R L K N I J R (fun a => a = m) := Ext.refl
  have hp : Mpart L K N I R m [] := ⟨hA, fun q hq => by cases hq⟩
  have hI : I m = I m := rfl
  refine x_aload_n (j := 0) hc dX3_init_0 rfl rfl ?_
  refine x_objInit hc lml_X3_init_1 lin_X3_init_obj lcd_X3_init_obj (Nat.le_of_ble_eq_true rfl) (Nat.le_of_ble_eq_true rfl) dX3_init_1 ?_
  refine x_aload_n (j := 0) hc dX3_init_4 rfl rfl ?_
  refine x_bipush (v := 80) hc dX3_init_5 (by decide) ?_
  refine x_newaI hc (965) (n0 := 80) larr_X3_init_int (by omega) (by decide) (by decide) ⟨Nat.le_of_ble_eq_true rfl, Nat.le_of_ble_eq_true rfl⟩ dX3_init_7 (fun q L1 K1 N1 I1 J1 R1 n1 => ?_)
  have hpm := n1.ext.cell hp.1
  replace hI := (n1.ext.i hp.1.1 (fun z => z)).trans hI
  replace hE := hE.trans n1.ext (P3 := fun a => a = m) (fun _ _ h => h) (fun _ _ h => h.elim)
  refine x_putRF (C := RX3) (T := TX3) (NN := 19) (ci := 4) (ref := "NetPointsModel") hc 0 in_X3_init_4 rfl (by decide) lf_X3_init_7 (fun _ h9 => h9) tyX3 tyX3_ok nmX3 hpm (by omega) (by decide) rfl rfl hname rfl pd_X3_0 rfl rfl dX3_init_9 ?_
  replace hp := hp.step (k := 0) n1 (by decide)
  replace hE := hE.trans (Ext.setR (L := L1) (K := K1) (N := N1) (I := I1) (J := J1) (R := R1) (x := some q) (b := m) (k := 0)) (P3 := fun a => a = m) (fun _ _ h => h) (fun _ _ h => h)
  refine x_aload_n (j := 0) hc dX3_init_12 rfl rfl ?_
  refine x_bipush (v := 20) hc dX3_init_13 (by decide) ?_
  refine x_newaI hc (981) (n0 := 20) larr_X3_init_int (by omega) (by decide) (by decide) ⟨Nat.le_of_ble_eq_true rfl, Nat.le_of_ble_eq_true rfl⟩ dX3_init_15 (fun q L2 K2 N2 I2 J2 R2 n2 => ?_)
  have hpm := n2.ext.cell hp.1
  replace hI := (n2.ext.i hp.1.1 (fun z => z)).trans hI
  replace hE := hE.trans n2.ext (P3 := fun a => a = m) (fun _ _ h => h) (fun _ _ h => h.elim)
  refine x_putRF (C := RX3) (T := TX3) (NN := 19) (ci := 4) (ref := "NetPointsModel") hc 1 in_X3_init_4 rfl (by decide) lf_X3_init_13 (fun _ h9 => h9) tyX3 tyX3_ok nmX3 hpm (by omega) (by decide) rfl rfl hname rfl pd_X3_1 rfl rfl dX3_init_17 ?_
  replace hp := hp.step (k := 1) n2 (by decide)
  replace hE := hE.trans (Ext.setR (L := L2) (K := K2) (N := N2) (I := I2) (J := J2) (R := R2) (x := some q) (b := m) (k := 1)) (P3 := fun a => a = m) (fun _ _ h => h) (fun _ _ h => h)
  refine x_aload_n (j := 0) hc dX3_init_20 rfl rfl ?_
  refine x_bipush (v := 8) hc dX3_init_21 (by decide) ?_
  refine x_newaI hc (997) (n0 := 8) larr_X3_init_int (by omega) (by decide) (by decide) ⟨Nat.le_of_ble_eq_true rfl, Nat.le_of_ble_eq_true rfl⟩ dX3_init_23 (fun q L3 K3 N3 I3 J3 R3 n3 => ?_)
  have hpm := n3.ext.cell hp.1
  replace hI := (n3.ext.i hp.1.1 (fun z => z)).trans hI
  replace hE := hE.trans n3.ext (P3 := fun a => a = m) (fun _ _ h => h) (fun _ _ h => h.elim)
  refine x_putRF (C := RX3) (T := TX3) (NN := 19) (ci := 4) (ref := "NetPointsModel") hc 2 in_X3_init_4 rfl (by decide) lf_X3_init_16 (fun _ h9 => h9) tyX3 tyX3_ok nmX3 hpm (by omega) (by decide) rfl rfl hname rfl pd_X3_2 rfl rfl dX3_init_25 ?_
  replace hp := hp.step (k := 2) n3 (by decide)
  replace hE := hE.trans (Ext.setR (L := L3) (K := K3) (N := N3) (I := I3) (J := J3) (R := R3) (x := some q) (b := m) (k := 2)) (P3 := fun a => a = m) (fun _ _ h => h) (fun _ _ h => h)
  refine x_aload_n (j := 0) hc dX3_init_28 rfl rfl ?_
  refine x_iconst (v := 2) hc dX3_init_29 (by decide) ?_
  refine x_newaI hc (1013) (n0 := 2) larr_X3_init_int (by omega) (by decide) (by decide) ⟨Nat.le_of_ble_eq_true rfl, Nat.le_of_ble_eq_true rfl⟩ dX3_init_30 (fun q L4 K4 N4 I4 J4 R4 n4 => ?_)
  have hpm := n4.ext.cell hp.1
  replace hI := (n4.ext.i hp.1.1 (fun z => z)).trans hI
  replace hE := hE.trans n4.ext (P3 := fun a => a = m) (fun _ _ h => h) (fun _ _ h => h.elim)
  refine x_putRF (C := RX3) (T := TX3) (NN := 19) (ci := 4) (ref := "NetPointsModel") hc 3 in_X3_init_4 rfl (by decide) lf_X3_init_19 (fun _ h9 => h9) tyX3 tyX3_ok nmX3 hpm (by omega) (by decide) rfl rfl hname rfl pd_X3_3 rfl rfl dX3_init_32 ?_
  replace hp := hp.step (k := 3) n4 (by decide)
  replace hE := hE.trans (Ext.setR (L := L4) (K := K4) (N := N4) (I := I4) (J := J4) (R := R4) (x := some q) (b := m) (k := 3)) (P3 := fun a => a = m) (fun _ _ h => h) (fun _ _ h => h)
  refine x_aload_n (j := 0) hc dX3_init_35 rfl rfl ?_
  refine x_iconst (v := 2) hc dX3_init_36 (by decide) ?_
  refine x_newaI hc (1029) (n0 := 2) larr_X3_init_int (by omega) (by decide) (by decide) ⟨Nat.le_of_ble_eq_true rfl, Nat.le_of_ble_eq_true rfl⟩ dX3_init_37 (fun q L5 K5 N5 I5 J5 R5 n5 => ?_)
  have hpm := n5.ext.cell hp.1
  replace hI := (n5.ext.i hp.1.1 (fun z => z)).trans hI
  replace hE := hE.trans n5.ext (P3 := fun a => a = m) (fun _ _ h => h) (fun _ _ h => h.elim)
  refine x_putRF (C := RX3) (T := TX3) (NN := 19) (ci := 4) (ref := "NetPointsModel") hc 4 in_X3_init_4 rfl (by decide) lf_X3_init_22 (fun _ h9 => h9) tyX3 tyX3_ok nmX3 hpm (by omega) (by decide) rfl rfl hname rfl pd_X3_4 rfl rfl dX3_init_39 ?_
  replace hp := hp.step (k := 4) n5 (by decide)
  replace hE := hE.trans (Ext.setR (L := L5) (K := K5) (N := N5) (I := I5) (J := J5) (R := R5) (x := some q) (b := m) (k := 4)) (P3 := fun a => a = m) (fun _ _ h => h) (fun _ _ h => h)
  refine x_aload_n (j := 0) hc dX3_init_42 rfl rfl ?_
  refine x_iconst (v := 2) hc dX3_init_43 (by decide) ?_
  refine x_newaI hc (1045) (n0 := 2) larr_X3_init_int (by omega) (by decide) (by decide) ⟨Nat.le_of_ble_eq_true rfl, Nat.le_of_ble_eq_true rfl⟩ dX3_init_44 (fun q L6 K6 N6 I6 J6 R6 n6 => ?_)
  have hpm := n6.ext.cell hp.1
  replace hI := (n6.ext.i hp.1.1 (fun z => z)).trans hI
  replace hE := hE.trans n6.ext (P3 := fun a => a = m) (fun _ _ h => h) (fun _ _ h => h.elim)
  refine x_putRF (C := RX3) (T := TX3) (NN := 19) (ci := 4) (ref := "NetPointsModel") hc 5 in_X3_init_4 rfl (by decide) lf_X3_init_25 (fun _ h9 => h9) tyX3 tyX3_ok nmX3 hpm (by omega) (by decide) rfl rfl hname rfl pd_X3_5 rfl rfl dX3_init_46 ?_
  replace hp := hp.step (k := 5) n6 (by decide)
  replace hE := hE.trans (Ext.setR (L := L6) (K := K6) (N := N6) (I := I6) (J := J6) (R := R6) (x := some q) (b := m) (k := 5)) (P3 := fun a => a = m) (fun _ _ h => h) (fun _ _ h => h)
  refine x_aload_n (j := 0) hc dX3_init_49 rfl rfl ?_
  refine x_bipush (v := 8) hc dX3_init_50 (by decide) ?_
  refine x_newaI hc (1061) (n0 := 8) larr_X3_init_int (by omega) (by decide) (by decide) ⟨Nat.le_of_ble_eq_true rfl, Nat.le_of_ble_eq_true rfl⟩ dX3_init_52 (fun q L7 K7 N7 I7 J7 R7 n7 => ?_)
  have hpm := n7.ext.cell hp.1
  replace hI := (n7.ext.i hp.1.1 (fun z => z)).trans hI
  replace hE := hE.trans n7.ext (P3 := fun a => a = m) (fun _ _ h => h) (fun _ _ h => h.elim)
  refine x_putRF (C := RX3) (T := TX3) (NN := 19) (ci := 4) (ref := "NetPointsModel") hc 8 in_X3_init_4 rfl (by decide) lf_X3_init_28 (fun _ h9 => h9) tyX3 tyX3_ok nmX3 hpm (by omega) (by decide) rfl rfl hname rfl pd_X3_8 rfl rfl dX3_init_54 ?_
  replace hp := hp.step (k := 8) n7 (by decide)
  replace hE := hE.trans (Ext.setR (L := L7) (K := K7) (N := N7) (I := I7) (J := J7) (R := R7) (x := some q) (b := m) (k := 8)) (P3 := fun a => a = m) (fun _ _ h => h) (fun _ _ h => h)
  refine x_aload_n (j := 0) hc dX3_init_57 rfl rfl ?_
  refine x_bipush (v := 8) hc dX3_init_58 (by decide) ?_
  refine x_newaI hc (1077) (n0 := 8) larr_X3_init_int (by omega) (by decide) (by decide) ⟨Nat.le_of_ble_eq_true rfl, Nat.le_of_ble_eq_true rfl⟩ dX3_init_60 (fun q L8 K8 N8 I8 J8 R8 n8 => ?_)
  have hpm := n8.ext.cell hp.1
  replace hI := (n8.ext.i hp.1.1 (fun z => z)).trans hI
  replace hE := hE.trans n8.ext (P3 := fun a => a = m) (fun _ _ h => h) (fun _ _ h => h.elim)
  refine x_putRF (C := RX3) (T := TX3) (NN := 19) (ci := 4) (ref := "NetPointsModel") hc 9 in_X3_init_4 rfl (by decide) lf_X3_init_31 (fun _ h9 => h9) tyX3 tyX3_ok nmX3 hpm (by omega) (by decide) rfl rfl hname rfl pd_X3_9 rfl rfl dX3_init_62 ?_
  replace hp := hp.step (k := 9) n8 (by decide)
  replace hE := hE.trans (Ext.setR (L := L8) (K := K8) (N := N8) (I := I8) (J := J8) (R := R8) (x := some q) (b := m) (k := 9)) (P3 := fun a => a = m) (fun _ _ h => h) (fun _ _ h => h)
  refine x_aload_n (j := 0) hc dX3_init_65 rfl rfl ?_
  refine x_bipush (v := 8) hc dX3_init_66 (by decide) ?_
  refine x_newaI hc (1093) (n0 := 8) larr_X3_init_int (by omega) (by decide) (by decide) ⟨Nat.le_of_ble_eq_true rfl, Nat.le_of_ble_eq_true rfl⟩ dX3_init_68 (fun q L9 K9 N9 I9 J9 R9 n9 => ?_)
  have hpm := n9.ext.cell hp.1
  replace hI := (n9.ext.i hp.1.1 (fun z => z)).trans hI
  replace hE := hE.trans n9.ext (P3 := fun a => a = m) (fun _ _ h => h) (fun _ _ h => h.elim)
  refine x_putRF (C := RX3) (T := TX3) (NN := 19) (ci := 4) (ref := "NetPointsModel") hc 10 in_X3_init_4 rfl (by decide) lf_X3_init_34 (fun _ h9 => h9) tyX3 tyX3_ok nmX3 hpm (by omega) (by decide) rfl rfl hname rfl pd_X3_10 rfl rfl dX3_init_70 ?_
  replace hp := hp.step (k := 10) n9 (by decide)
  replace hE := hE.trans (Ext.setR (L := L9) (K := K9) (N := N9) (I := I9) (J := J9) (R := R9) (x := some q) (b := m) (k := 10)) (P3 := fun a => a = m) (fun _ _ h => h) (fun _ _ h => h)
  refine x_aload_n (j := 0) hc dX3_init_73 rfl rfl ?_
  refine x_bipush (v := 8) hc dX3_init_74 (by decide) ?_
  refine x_newaI hc (1109) (n0 := 8) larr_X3_init_int (by omega) (by decide) (by decide) ⟨Nat.le_of_ble_eq_true rfl, Nat.le_of_ble_eq_true rfl⟩ dX3_init_76 (fun q L10 K10 N10 I10 J10 R10 n10 => ?_)
  have hpm := n10.ext.cell hp.1
  replace hI := (n10.ext.i hp.1.1 (fun z => z)).trans hI
  replace hE := hE.trans n10.ext (P3 := fun a => a = m) (fun _ _ h => h) (fun _ _ h => h.elim)
  refine x_putRF (C := RX3) (T := TX3) (NN := 19) (ci := 4) (ref := "NetPointsModel") hc 11 in_X3_init_4 rfl (by decide) lf_X3_init_37 (fun _ h9 => h9) tyX3 tyX3_ok nmX3 hpm (by omega) (by decide) rfl rfl hname rfl pd_X3_11 rfl rfl dX3_init_78 ?_
  replace hp := hp.step (k := 11) n10 (by decide)
  replace hE := hE.trans (Ext.setR (L := L10) (K := K10) (N := N10) (I := I10) (J := J10) (R := R10) (x := some q) (b := m) (k := 11)) (P3 := fun a => a = m) (fun _ _ h => h) (fun _ _ h => h)
  refine x_aload_n (j := 0) hc dX3_init_81 rfl rfl ?_
  refine x_bipush (v := 8) hc dX3_init_82 (by decide) ?_
  refine x_newaI hc (1125) (n0 := 8) larr_X3_init_int (by omega) (by decide) (by decide) ⟨Nat.le_of_ble_eq_true rfl, Nat.le_of_ble_eq_true rfl⟩ dX3_init_84 (fun q L11 K11 N11 I11 J11 R11 n11 => ?_)
  have hpm := n11.ext.cell hp.1
  replace hI := (n11.ext.i hp.1.1 (fun z => z)).trans hI
  replace hE := hE.trans n11.ext (P3 := fun a => a = m) (fun _ _ h => h) (fun _ _ h => h.elim)
  refine x_putRF (C := RX3) (T := TX3) (NN := 19) (ci := 4) (ref := "NetPointsModel") hc 12 in_X3_init_4 rfl (by decide) lf_X3_init_40 (fun _ h9 => h9) tyX3 tyX3_ok nmX3 hpm (by omega) (by decide) rfl rfl hname rfl pd_X3_12 rfl rfl dX3_init_86 ?_
  replace hp := hp.step (k := 12) n11 (by decide)
  replace hE := hE.trans (Ext.setR (L := L11) (K := K11) (N := N11) (I := I11) (J := J11) (R := R11) (x := some q) (b := m) (k := 12)) (P3 := fun a => a = m) (fun _ _ h => h) (fun _ _ h => h)
  refine x_aload_n (j := 0) hc dX3_init_89 rfl rfl ?_
  refine x_bipush (v := 8) hc dX3_init_90 (by decide) ?_
  refine x_newaI hc (1141) (n0 := 8) larr_X3_init_int (by omega) (by decide) (by decide) ⟨Nat.le_of_ble_eq_true rfl, Nat.le_of_ble_eq_true rfl⟩ dX3_init_92 (fun q L12 K12 N12 I12 J12 R12 n12 => ?_)
  have hpm := n12.ext.cell hp.1
  replace hI := (n12.ext.i hp.1.1 (fun z => z)).trans hI
  replace hE := hE.trans n12.ext (P3 := fun a => a = m) (fun _ _ h => h) (fun _ _ h => h.elim)
  refine x_putRF (C := RX3) (T := TX3) (NN := 19) (ci := 4) (ref := "NetPointsModel") hc 13 in_X3_init_4 rfl (by decide) lf_X3_init_43 (fun _ h9 => h9) tyX3 tyX3_ok nmX3 hpm (by omega) (by decide) rfl rfl hname rfl pd_X3_13 rfl rfl dX3_init_94 ?_
  replace hp := hp.step (k := 13) n12 (by decide)
  replace hE := hE.trans (Ext.setR (L := L12) (K := K12) (N := N12) (I := I12) (J := J12) (R := R12) (x := some q) (b := m) (k := 13)) (P3 := fun a => a = m) (fun _ _ h => h) (fun _ _ h => h)
  refine x_aload_n (j := 0) hc dX3_init_97 rfl rfl ?_
  refine x_bipush (v := 20) hc dX3_init_98 (by decide) ?_
  refine x_newaJ hc (1158) (n0 := 20) larr_X3_init_long (by omega) (by decide) (by decide) ⟨Nat.le_of_ble_eq_true rfl, Nat.le_of_ble_eq_true rfl⟩ dX3_init_100 (fun q L13 K13 N13 I13 J13 R13 n13 => ?_)
  have hpm := n13.ext.cell hp.1
  replace hI := (n13.ext.i hp.1.1 (fun z => z)).trans hI
  replace hE := hE.trans n13.ext (P3 := fun a => a = m) (fun _ _ h => h) (fun _ _ h => h.elim)
  refine x_putRF (C := RX3) (T := TX3) (NN := 19) (ci := 4) (ref := "NetPointsModel") hc 15 in_X3_init_4 rfl (by decide) lf_X3_init_46 (fun _ h9 => h9) tyX3 tyX3_ok nmX3 hpm (by omega) (by decide) rfl rfl hname rfl pd_X3_15 rfl rfl dX3_init_102 ?_
  replace hp := hp.step (k := 15) n13 (by decide)
  replace hE := hE.trans (Ext.setR (L := L13) (K := K13) (N := N13) (I := I13) (J := J13) (R := R13) (x := some q) (b := m) (k := 15)) (P3 := fun a => a = m) (fun _ _ h => h) (fun _ _ h => h)
  refine x_aload_n (j := 0) hc dX3_init_105 rfl rfl ?_
  refine x_bipush (v := 20) hc dX3_init_106 (by decide) ?_
  refine x_newaJ hc (1174) (n0 := 20) larr_X3_init_long (by omega) (by decide) (by decide) ⟨Nat.le_of_ble_eq_true rfl, Nat.le_of_ble_eq_true rfl⟩ dX3_init_108 (fun q L14 K14 N14 I14 J14 R14 n14 => ?_)
  have hpm := n14.ext.cell hp.1
  replace hI := (n14.ext.i hp.1.1 (fun z => z)).trans hI
  replace hE := hE.trans n14.ext (P3 := fun a => a = m) (fun _ _ h => h) (fun _ _ h => h.elim)
  refine x_putRF (C := RX3) (T := TX3) (NN := 19) (ci := 4) (ref := "NetPointsModel") hc 16 in_X3_init_4 rfl (by decide) lf_X3_init_50 (fun _ h9 => h9) tyX3 tyX3_ok nmX3 hpm (by omega) (by decide) rfl rfl hname rfl pd_X3_16 rfl rfl dX3_init_110 ?_
  replace hp := hp.step (k := 16) n14 (by decide)
  replace hE := hE.trans (Ext.setR (L := L14) (K := K14) (N := N14) (I := I14) (J := J14) (R := R14) (x := some q) (b := m) (k := 16)) (P3 := fun a => a = m) (fun _ _ h => h) (fun _ _ h => h)
  refine x_aload_n (j := 0) hc dX3_init_113 rfl rfl ?_
  refine x_iconst (v := 2) hc dX3_init_114 (by decide) ?_
  refine x_newaJ hc (1190) (n0 := 2) larr_X3_init_long (by omega) (by decide) (by decide) ⟨Nat.le_of_ble_eq_true rfl, Nat.le_of_ble_eq_true rfl⟩ dX3_init_115 (fun q L15 K15 N15 I15 J15 R15 n15 => ?_)
  have hpm := n15.ext.cell hp.1
  replace hI := (n15.ext.i hp.1.1 (fun z => z)).trans hI
  replace hE := hE.trans n15.ext (P3 := fun a => a = m) (fun _ _ h => h) (fun _ _ h => h.elim)
  refine x_putRF (C := RX3) (T := TX3) (NN := 19) (ci := 4) (ref := "NetPointsModel") hc 17 in_X3_init_4 rfl (by decide) lf_X3_init_53 (fun _ h9 => h9) tyX3 tyX3_ok nmX3 hpm (by omega) (by decide) rfl rfl hname rfl pd_X3_17 rfl rfl dX3_init_117 ?_
  replace hp := hp.step (k := 17) n15 (by decide)
  replace hE := hE.trans (Ext.setR (L := L15) (K := K15) (N := N15) (I := I15) (J := J15) (R := R15) (x := some q) (b := m) (k := 17)) (P3 := fun a => a = m) (fun _ _ h => h) (fun _ _ h => h)
  exact x_vretF hc hr (by decide) (by decide) dX3_init_120 (⟨rfl, ⟨hp.1, fun q hq => ⟨(hp.2 q (mtab_in q hq)).1, (hp.2 q (mtab_in q hq)).2.1⟩⟩, fun q hq => (hp.2 q (mtab_in q hq)).2.2, hI, hE⟩)
