abbrev rm_X3_lay : Room := { frames := 4, cells := 0, slots := 0, locals := 100 }
set_option maxHeartbeats 4000000 in
set_option maxRecDepth 100000 in
theorem m_lay (l : Launch) (D : va_G) (z e0 : Nat) (L : List Nat) (K N : Nat → Nat) (I : Nat → Nat → Int32) (J : Nat → Nat → Int64) (R : Nat → Nat → Option Nat) (m now n : Nat) (pic : Nat → Nat) (sh : Nat → Nat → Shr) (hc0 : MC L K N I R m now n pic sh) : MG l yX3_lay wsX3_lay rm_X3_lay D z e0 L K N I J R [.ref m] (fun v I' J' => v = none ∧ I' = I ∧ LM R m J J' (yRun (I m 6) (mcon I R m pic sh n)) (now + 1)) := by
  refine mg_of (own := RX3) (maxL := 8) (ret := none) (by decide +kernel) rfl rfl (Nat.le_of_ble_eq_true rfl) ?_
  intro pg ev s mi args below meth c hc hr
  have hm := hc0.1
  have hnow := hc0.2.2.1
  have hn8 := hc0.2.2.2.2.1
  have hd := hm.ds
  obtain ⟨cp, hcc⟩ : ∃ cp, cp = (mcon I R m pic sh n) := ⟨_, rfl⟩
  obtain ⟨Z, hZ⟩ : ∃ Z, Z = yRun (I m 6) (mcon I R m pic sh n) := ⟨_, rfl⟩
  rw [← hZ]
  have hZs : ∀ i p, Z (i + 1) p = finB (I (dr R m 5) p) (if I m 6 = 0 then yRec (cp p) i (Z i p) else mvS (yGain (cp 1) i (Z i 1)) 1 0 (mvS (yGain (cp 0) i (Z i 0)) 0 1 (fun p => yRec (cp p) i (Z i p))) p) := by rw [hZ, hcc]; exact fun i p => rfl
  have hZ0 : ∀ p, (Z 0 p).2.2.2.2.1 = 0 ∧ (Z 0 p).2.2.2.2.2 = 0 := by rw [hZ]; exact fun p => ⟨rfl, rfl⟩
  have hX : ∀ p y, p < 2 → (mD ((Z y p).2.2.2.2.1 + ((I (dr R m 1) (10 * p + y)).toInt64 + prt (I (dr R m 1) (10 * p + y)).toInt64 (I (dr R m 4) p))) p pic (mshr I R m) (sumG (mrc I R m p) (y + 1)) (sumA (I (dr R m 3) p) (mrc I R m p) (y + 1)) (sumG (mrc I R m p) y) (sumA (I (dr R m 3) p) (mrc I R m p) y) y n) - (adY (I (dr R m 3) p) (mrc I R m p y) - feesY (mrc I R m p y) (mfe I R m p)) = yX (cp p) y (Z y p) := by
    intro p y hp
    rw [hZ, hcc]
    exact mX_eq (I m 6) (mcon I R m pic sh n) p pic (mshr I R m) n y rfl (fun j hj hpj => by have h := (hc0.2.2.2.2.2.2.2 j hj).1; rw [hpj] at h; exact h) (fun j hj => (hc0.2.2.2.2.2.2.2 j hj).2.1)
  clear hcc
  refine x_iconst (v := 0) hc dX3_lay_0 (by decide) ?_
  refine x_istore_n (lv' := [(1, .int 0), (0, .ref m)]) hc dX3_lay_1 rfl (by decide) rfl ?_
  have hloop : ∀ (k y : Nat) (J1 : Nat → Nat → Int64), y + k = now + 1 → LM R m J J1 Z y → XW pg l ev rm_X3_lay s mi args below meth c D z 8 L K N I J1 R 0 0 (MQ below (QG D z L K N R (fun v I' J' => v = none ∧ I' = I ∧ LM R m J J' Z (now + 1))) args s (rm_X3_lay).cells (rm_X3_lay).slots (fun q => z ≤ q)) 2 [(1, .int (nI y)), (0, .ref m)] [] := by
    intro k
    induction k with
    | zero =>
      intro y J1 hi hM
      refine x_iload_n (j := 0) hc dX3_lay_2 rfl rfl ?_
      refine x_aload_n (j := 1) hc dX3_lay_3 rfl rfl ?_
      refine x_getI (C := RX3) (T := TX3) (NN := 19) (ci := 4) (ref := "NetPointsModel") hc 7 in_X3_lay_4 rfl (by decide) lf_X3_lay_85 (fun _ h9 => h9) hm.1 (by omega) (by decide) rfl dX3_lay_4 ?_
      refine x_vali (y := nI now) ((hc0.2.1)) ?_
      refine x_icmp_gt (tgt := 328) hc dX3_lay_7 (by decide) (fun _ => ?_) (fun q9 => absurd (show nI now < nI y from nI_lt (show now < y by omega) (show y < 2 ^ 31 by omega)) q9)
      exact x_vret hc hr (by decide) (by decide) dX3_lay_328 (⟨rfl, rfl, by rw [← (show y = now + 1 by omega)]; exact hM⟩)
    | succ k ih =>
      intro y J1 hik hM
      have hyn : y ≤ now := by omega
      have hy10 : y < 10 := by omega
      have hbody : ∀ (p : Nat) (J2 : Nat → Nat → Int64), p < 2 → LM R m J J2 Z y → XW pg l ev rm_X3_lay s mi args below meth c D z 8 L K N I (PBd R m cp Z y p J2) R 0 0 (MQ below (QG D z L K N R (fun v I' J' => v = none ∧ I' = I ∧ LM R m J J' Z (now + 1))) args s (rm_X3_lay).cells (rm_X3_lay).slots (fun q => z ≤ q)) 12 [(2, .int (nI (p + 1))), (1, .int (nI y)), (0, .ref m)] [] → XW pg l ev rm_X3_lay s mi args below meth c D z 8 L K N I J2 R 0 0 (MQ below (QG D z L K N R (fun v I' J' => v = none ∧ I' = I ∧ LM R m J J' Z (now + 1))) args s (rm_X3_lay).cells (rm_X3_lay).slots (fun q => z ≤ q)) 17 [(2, .int (nI p)), (1, .int (nI y)), (0, .ref m)] [] := by
        intro p J2 hp hM2 cont
        refine x_bipush (v := 10) hc dX3_lay_17 (by decide) ?_
        refine x_iload_n (j := 0) hc dX3_lay_19 rfl rfl ?_
        refine x_imul hc dX3_lay_20 ?_
        refine x_iload_n (j := 1) hc dX3_lay_21 rfl rfl ?_
        refine x_iadd hc dX3_lay_22 ?_
        refine x_vali (ix10 p y) ?_
        refine x_istore_n (lv' := [(3, .int (nI (10 * p + y))), (2, .int (nI p)), (1, .int (nI y)), (0, .ref m)]) hc dX3_lay_23 rfl (by decide) rfl ?_
        refine x_iload_n (j := 2) hc dX3_lay_24 rfl rfl ?_
        have htail1 : XW pg l ev rm_X3_lay s mi args below meth c D z 8 L K N I J2 R 0 0 (MQ below (QG D z L K N R (fun v I' J' => v = none ∧ I' = I ∧ LM R m J J' Z (now + 1))) args s (rm_X3_lay).cells (rm_X3_lay).slots (fun q => z ≤ q)) 40 [(3, .int (nI (10 * p + y))), (2, .int (nI p)), (1, .int (nI y)), (0, .ref m)] [.long ((Z y p).2.2.2.2.1)] := by
          refine x_lstore (lv' := [(4, .long ((Z y p).2.2.2.2.1)), (3, .int (nI (10 * p + y))), (2, .int (nI p)), (1, .int (nI y)), (0, .ref m)]) hc dX3_lay_40 (by decide) rfl ?_
          refine x_lload (j := 0) hc dX3_lay_42 rfl ?_
          refine x_aload_n (j := 4) hc dX3_lay_44 rfl rfl ?_
          refine x_getR (C := RX3) (T := TX3) (NN := 19) (ci := 4) (ref := "NetPointsModel") hc 1 in_X3_lay_4 rfl (by decide) lf_X3_lay_13 (fun _ h9 => h9) hm.1 (by omega) (by decide) rfl ((hm.cel 1 981 20 (by decide)).1) dX3_lay_45 ?_
          refine x_iload_n (j := 1) hc dX3_lay_48 rfl rfl ?_
          refine x_iald hc ((hm.cel 1 981 20 (by decide)).2) (by decide) rfl (by omega) (by omega) dX3_lay_49 ?_
          refine x_i2l hc dX3_lay_50 ?_
          refine x_aload_n (j := 4) hc dX3_lay_51 rfl rfl ?_
          refine x_getR (C := RX3) (T := TX3) (NN := 19) (ci := 4) (ref := "NetPointsModel") hc 1 in_X3_lay_4 rfl (by decide) lf_X3_lay_13 (fun _ h9 => h9) hm.1 (by omega) (by decide) rfl ((hm.cel 1 981 20 (by decide)).1) dX3_lay_52 ?_
          refine x_iload_n (j := 1) hc dX3_lay_55 rfl rfl ?_
          refine x_iald hc ((hm.cel 1 981 20 (by decide)).2) (by decide) rfl (by omega) (by omega) dX3_lay_56 ?_
          refine x_i2l hc dX3_lay_57 ?_
          refine x_aload_n (j := 4) hc dX3_lay_58 rfl rfl ?_
          refine x_getR (C := RX3) (T := TX3) (NN := 19) (ci := 4) (ref := "NetPointsModel") hc 4 in_X3_lay_4 rfl (by decide) lf_X3_lay_22 (fun _ h9 => h9) hm.1 (by omega) (by decide) rfl ((hm.cel 4 1029 2 (by decide)).1) dX3_lay_59 ?_
          refine x_iload_n (j := 2) hc dX3_lay_62 rfl rfl ?_
          refine x_iald hc ((hm.cel 4 1029 2 (by decide)).2) (by decide) rfl (by omega) (by omega) dX3_lay_63 ?_
          refine x_i2l hc dX3_lay_64 ?_
          refine x_lmul hc dX3_lay_65 ?_
          refine x_ldc2 hc dX3_lay_66 lc_X3_lay_97 ?_
          refine x_ldiv hc dX3_lay_69 (by decide) ?_
          refine x_ladd hc dX3_lay_70 ?_
          refine x_ladd hc dX3_lay_71 ?_
          refine x_lstore (lv' := [(4, .long (((Z y p).2.2.2.2.1) + ((Int32.toInt64 (I (dr R m 1) (10 * p + y))) + (((Int32.toInt64 (I (dr R m 1) (10 * p + y))) * (Int32.toInt64 (I (dr R m 4) p))) / 10000)))), (3, .int (nI (10 * p + y))), (2, .int (nI p)), (1, .int (nI y)), (0, .ref m)]) hc dX3_lay_72 (by decide) rfl ?_
          refine x_iconst (v := 0) hc dX3_lay_74 (by decide) ?_
          refine x_istore (lv' := [(6, .int 0), (4, .long (((Z y p).2.2.2.2.1) + ((Int32.toInt64 (I (dr R m 1) (10 * p + y))) + (((Int32.toInt64 (I (dr R m 1) (10 * p + y))) * (Int32.toInt64 (I (dr R m 4) p))) / 10000)))), (3, .int (nI (10 * p + y))), (2, .int (nI p)), (1, .int (nI y)), (0, .ref m)]) hc dX3_lay_75 (by decide) rfl ?_
          have hin : ∀ (d k2 : Nat) (acc : Int64), k2 + d = n → acc = mD ((Z y p).2.2.2.2.1 + ((I (dr R m 1) (10 * p + y)).toInt64 + prt (I (dr R m 1) (10 * p + y)).toInt64 (I (dr R m 4) p))) p pic (mshr I R m) (sumG (mrc I R m p) (y + 1)) (sumA (I (dr R m 3) p) (mrc I R m p) (y + 1)) (sumG (mrc I R m p) y) (sumA (I (dr R m 3) p) (mrc I R m p) y) y k2 → XW pg l ev rm_X3_lay s mi args below meth c D z 8 L K N I J2 R 0 0 (MQ below (QG D z L K N R (fun v I' J' => v = none ∧ I' = I ∧ LM R m J J' Z (now + 1))) args s (rm_X3_lay).cells (rm_X3_lay).slots (fun q => z ≤ q)) 77 [(6, .int (nI k2)), (4, .long acc), (3, .int (nI (10 * p + y))), (2, .int (nI p)), (1, .int (nI y)), (0, .ref m)] [] := by
            intro d
            induction d with
            | zero =>
              intro k2 acc hk2 hacc
              have hkn : n = k2 := by omega
              subst hkn
              refine x_iload (j := 0) hc dX3_lay_77 rfl ?_
              refine x_aload_n (j := 5) hc dX3_lay_79 rfl rfl ?_
              refine x_getI (C := RX3) (T := TX3) (NN := 19) (ci := 4) (ref := "NetPointsModel") hc 14 in_X3_lay_4 rfl (by decide) lf_X3_lay_81 (fun _ h9 => h9) hm.1 (by omega) (by decide) rfl dX3_lay_80 ?_
              refine x_vali (y := nI n) ((hc0.2.2.2.1)) ?_
              refine x_icmp_ge (tgt := 162) hc dX3_lay_83 (by decide) (fun _ => ?_) (fun q9 => absurd (Int32.le_refl _) q9)
              refine x_lload (j := 1) hc dX3_lay_162 rfl ?_
              refine x_aload_n (j := 5) hc dX3_lay_164 rfl rfl ?_
              refine x_iload_n (j := 3) hc dX3_lay_165 rfl rfl ?_
              refine x_iload_n (j := 4) hc dX3_lay_166 rfl rfl ?_
              refine x_callV (C := RX3) (T := TX3) (NN := 19) (ci := 4) (As := [.int (nI p), .int (nI y)]) (st := [.long acc]) hc hm.1 (by omega) (by decide) rfl (m_adjustedOf l D z e0 L K N I J2 R m hm p y hp hy10) gX3_lay_X3_adjustedOf rfl hdV_X3_adjustedOf ⟨Nat.le_of_ble_eq_true rfl, Nat.le_of_ble_eq_true rfl⟩ rfl rfl ⟨Nat.le_of_ble_eq_true rfl, Nat.le_of_ble_eq_true rfl⟩ (Nat.le_of_ble_eq_true rfl) dX3_lay_167 (fun v9 I9 J9 hz9 => ?_)
              obtain ⟨rfl, hI9, hJ9⟩ := hz9
              replace hI9 := hI9.symm
              subst hI9
              replace hJ9 := hJ9.symm
              subst hJ9
              refine x_aload_n (j := 5) hc dX3_lay_170 rfl rfl ?_
              refine x_iload_n (j := 3) hc dX3_lay_171 rfl rfl ?_
              refine x_iload_n (j := 4) hc dX3_lay_172 rfl rfl ?_
              refine x_callV (C := RX3) (T := TX3) (NN := 19) (ci := 4) (As := [.int (nI p), .int (nI y)]) (st := [.long (adY (I (dr R m 3) p) (mrc I R m p y)), .long acc]) hc hm.1 (by omega) (by decide) rfl (m_feesOf l D z e0 L K N I J2 R m hm p y hp hy10) gX3_lay_X3_feesOf rfl hdV_X3_feesOf ⟨Nat.le_of_ble_eq_true rfl, Nat.le_of_ble_eq_true rfl⟩ rfl rfl ⟨Nat.le_of_ble_eq_true rfl, Nat.le_of_ble_eq_true rfl⟩ (Nat.le_of_ble_eq_true rfl) dX3_lay_173 (fun v9 I9 J9 hz9 => ?_)
              obtain ⟨rfl, hI9, hJ9⟩ := hz9
              replace hI9 := hI9.symm
              subst hI9
              replace hJ9 := hJ9.symm
              subst hJ9
              refine x_lsub hc dX3_lay_176 ?_
              refine x_lsub hc dX3_lay_177 ?_
              refine x_vall (y := yX (cp p) y (Z y p)) ((by rw [hacc]; exact hX p y hp)) ?_
              by_cases hx : yX (cp p) y (Z y p) < 0
              · obtain ⟨eg, eb, ep⟩ := yN hx
                refine x_lstore (lv' := [(4, .long (yX (cp p) y (Z y p))), (6, .int (nI n)), (3, .int (nI (10 * p + y))), (2, .int (nI p)), (1, .int (nI y)), (0, .ref m)]) hc dX3_lay_178 (by decide) rfl ?_
                refine x_aload_n (j := 5) hc dX3_lay_180 rfl rfl ?_
                refine x_getR (C := RX3) (T := TX3) (NN := 19) (ci := 4) (ref := "NetPointsModel") hc 17 in_X3_lay_4 rfl (by decide) lf_X3_lay_53 (fun _ h9 => h9) hm.1 (by omega) (by decide) rfl ((hm.cel 17 1190 2 (by decide)).1) dX3_lay_181 ?_
                refine x_iload_n (j := 3) hc dX3_lay_184 rfl rfl ?_
                refine x_lload (j := 0) hc dX3_lay_185 rfl ?_
                refine x_lconst (v := 0) hc dX3_lay_187 rfl ?_
                refine x_lcmp hc dX3_lay_188 ?_
                refine x_if_ge (tgt := 198) hc dX3_lay_189 (by decide) (fun q9 => absurd q9 (Int32.not_le.mpr ((lg_cmp_lt _ _).mpr hx))) (fun _ => ?_)
                refine x_lload (j := 0) hc dX3_lay_192 rfl ?_
                refine x_lneg hc dX3_lay_194 ?_
                refine x_goto (tgt := 199) hc dX3_lay_195 (by decide) ?_
                refine x_vall (y := yGain (cp p) y (Z y p)) (eg.symm) ?_
                refine x_last hc ((hm.cel 17 1190 2 (by decide)).2) (by decide) rfl (by omega) (by omega) dX3_lay_199 ?_
                refine x_aload_n (j := 5) hc dX3_lay_200 rfl rfl ?_
                refine x_getR (C := RX3) (T := TX3) (NN := 19) (ci := 4) (ref := "NetPointsModel") hc 15 in_X3_lay_4 rfl (by decide) lf_X3_lay_46 (fun _ h9 => h9) hm.1 (by omega) (by decide) rfl ((hm.cel 15 1158 20 (by decide)).1) dX3_lay_201 ?_
                refine x_iload_n (j := 2) hc dX3_lay_204 rfl rfl ?_
                refine x_lload (j := 0) hc dX3_lay_205 rfl ?_
                refine x_lconst (v := 0) hc dX3_lay_207 rfl ?_
                refine x_lcmp hc dX3_lay_208 ?_
                refine x_if_ge (tgt := 216) hc dX3_lay_209 (by decide) (fun q9 => absurd q9 (Int32.not_le.mpr ((lg_cmp_lt _ _).mpr hx))) (fun _ => ?_)
                refine x_lconst (v := 0) hc dX3_lay_212 rfl ?_
                refine x_goto (tgt := 218) hc dX3_lay_213 (by decide) ?_
                refine x_vall (y := (yRec (cp p) y (Z y p)).2.2.2.2.1) (eb.symm) ?_
                refine x_last hc ((hm.cel 15 1158 20 (by decide)).2) (by decide) rfl (by omega) (by omega) dX3_lay_218 ?_
                refine x_aload_n (j := 5) hc dX3_lay_219 rfl rfl ?_
                refine x_getR (C := RX3) (T := TX3) (NN := 19) (ci := 4) (ref := "NetPointsModel") hc 16 in_X3_lay_4 rfl (by decide) lf_X3_lay_50 (fun _ h9 => h9) hm.1 (by omega) (by decide) rfl ((hm.cel 16 1174 20 (by decide)).1) dX3_lay_220 ?_
                refine x_iload_n (j := 2) hc dX3_lay_223 rfl rfl ?_
                refine x_aload_n (j := 5) hc dX3_lay_224 rfl rfl ?_
                refine x_getR (C := RX3) (T := TX3) (NN := 19) (ci := 4) (ref := "NetPointsModel") hc 17 in_X3_lay_4 rfl (by decide) lf_X3_lay_53 (fun _ h9 => h9) hm.1 (by omega) (by decide) rfl ((hm.cel 17 1190 2 (by decide)).1) dX3_lay_225 ?_
                refine x_iload_n (j := 3) hc dX3_lay_228 rfl rfl ?_
                refine x_lald hc ((hm.cel 17 1190 2 (by decide)).2) (by decide) rfl (by omega) (by omega) dX3_lay_229 ?_
                refine x_vall (y := yGain (cp p) y (Z y p)) ((u2_a (((hm.cel 17 1190 2 (by decide)).2).ne ((hm.cel 15 1158 20 (by decide)).2) (by decide))).trans (u2_s)) ?_
                refine x_iload_n (j := 4) hc dX3_lay_230 rfl rfl ?_
                refine x_if_ne (tgt := 238) hc dX3_lay_231 (by decide) (fun q9 => ?_) (fun q9 => ?_)
                · have q0 : ¬ y = 0 := fun h => q9 (by rw [h]; rfl)
                  refine x_aload_n (j := 5) hc dX3_lay_238 rfl rfl ?_
                  refine x_getR (C := RX3) (T := TX3) (NN := 19) (ci := 4) (ref := "NetPointsModel") hc 16 in_X3_lay_4 rfl (by decide) lf_X3_lay_50 (fun _ h9 => h9) hm.1 (by omega) (by decide) rfl ((hm.cel 16 1174 20 (by decide)).1) dX3_lay_239 ?_
                  refine x_iload_n (j := 2) hc dX3_lay_242 rfl rfl ?_
                  refine x_iconst (v := 1) hc dX3_lay_243 (by decide) ?_
                  refine x_isub hc dX3_lay_244 ?_
                  refine x_vali (nI_sub1 (by omega)) ?_
                  refine x_lald hc ((hm.cel 16 1174 20 (by decide)).2) (by decide) rfl (by omega) (by omega) dX3_lay_245 ?_
                  refine x_vall (y := (Z y p).2.2.2.2.2) ((u2_a (((hm.cel 16 1174 20 (by decide)).2).ne ((hm.cel 15 1158 20 (by decide)).2) (by decide))).trans ((u2_a (((hm.cel 16 1174 20 (by decide)).2).ne ((hm.cel 17 1190 2 (by decide)).2) (by decide))).trans (((by have h := (hM2.1 p (y - 1) hp (by omega)).2; rw [show y - 1 + 1 = y by omega] at h; rw [show 10 * p + y - 1 = 10 * p + (y - 1) by omega]; exact h))))) ?_
                  refine x_ladd hc dX3_lay_246 ?_
                  refine x_vall (y := (yRec (cp p) y (Z y p)).2.2.2.2.2) ((by rw [eg, ep]; exact Int64.add_comm _ _)) ?_
                  refine x_last hc ((hm.cel 16 1174 20 (by decide)).2) (by decide) rfl (by omega) (by omega) dX3_lay_247 ?_
                  refine x_iinc (j := 3) (v := nI (p + 1)) (lv' := [(2, .int (nI (p + 1))), (4, .long (yX (cp p) y (Z y p))), (6, .int (nI n)), (3, .int (nI (10 * p + y))), (1, .int (nI y)), (0, .ref m)]) hc dX3_lay_248 rfl (nI_1 p) (by decide) rfl ?_
                  refine x_goto (tgt := 12) hc dX3_lay_251 (by decide) ?_
                  refine x_sub [0, 4, 5] rfl ?_
                  exact cont
                · have q0 : y = 0 := (nI_eq (b := 0) (show y < 2 ^ 31 by omega) (by decide)).mp q9
                  refine x_lconst (v := 0) hc dX3_lay_234 rfl ?_
                  refine x_goto (tgt := 246) hc dX3_lay_235 (by decide) ?_
                  refine x_vall (y := (Z y p).2.2.2.2.2) ((by rw [show y = 0 from q0]; exact ((hZ0 p).2).symm)) ?_
                  refine x_ladd hc dX3_lay_246 ?_
                  refine x_vall (y := (yRec (cp p) y (Z y p)).2.2.2.2.2) ((by rw [eg, ep]; exact Int64.add_comm _ _)) ?_
                  refine x_last hc ((hm.cel 16 1174 20 (by decide)).2) (by decide) rfl (by omega) (by omega) dX3_lay_247 ?_
                  refine x_iinc (j := 3) (v := nI (p + 1)) (lv' := [(2, .int (nI (p + 1))), (4, .long (yX (cp p) y (Z y p))), (6, .int (nI n)), (3, .int (nI (10 * p + y))), (1, .int (nI y)), (0, .ref m)]) hc dX3_lay_248 rfl (nI_1 p) (by decide) rfl ?_
                  refine x_goto (tgt := 12) hc dX3_lay_251 (by decide) ?_
                  refine x_sub [0, 4, 5] rfl ?_
                  exact cont
              · obtain ⟨eg, eb, ep⟩ := yP hx
                refine x_lstore (lv' := [(4, .long (yX (cp p) y (Z y p))), (6, .int (nI n)), (3, .int (nI (10 * p + y))), (2, .int (nI p)), (1, .int (nI y)), (0, .ref m)]) hc dX3_lay_178 (by decide) rfl ?_
                refine x_aload_n (j := 5) hc dX3_lay_180 rfl rfl ?_
                refine x_getR (C := RX3) (T := TX3) (NN := 19) (ci := 4) (ref := "NetPointsModel") hc 17 in_X3_lay_4 rfl (by decide) lf_X3_lay_53 (fun _ h9 => h9) hm.1 (by omega) (by decide) rfl ((hm.cel 17 1190 2 (by decide)).1) dX3_lay_181 ?_
                refine x_iload_n (j := 3) hc dX3_lay_184 rfl rfl ?_
                refine x_lload (j := 0) hc dX3_lay_185 rfl ?_
                refine x_lconst (v := 0) hc dX3_lay_187 rfl ?_
                refine x_lcmp hc dX3_lay_188 ?_
                refine x_if_ge (tgt := 198) hc dX3_lay_189 (by decide) (fun _ => ?_) (fun q9 => absurd (Int32.not_lt.mp (fun h => hx ((lg_cmp_lt _ _).mp h))) q9)
                refine x_lconst (v := 0) hc dX3_lay_198 rfl ?_
                refine x_vall (y := yGain (cp p) y (Z y p)) (eg.symm) ?_
                refine x_last hc ((hm.cel 17 1190 2 (by decide)).2) (by decide) rfl (by omega) (by omega) dX3_lay_199 ?_
                refine x_aload_n (j := 5) hc dX3_lay_200 rfl rfl ?_
                refine x_getR (C := RX3) (T := TX3) (NN := 19) (ci := 4) (ref := "NetPointsModel") hc 15 in_X3_lay_4 rfl (by decide) lf_X3_lay_46 (fun _ h9 => h9) hm.1 (by omega) (by decide) rfl ((hm.cel 15 1158 20 (by decide)).1) dX3_lay_201 ?_
                refine x_iload_n (j := 2) hc dX3_lay_204 rfl rfl ?_
                refine x_lload (j := 0) hc dX3_lay_205 rfl ?_
                refine x_lconst (v := 0) hc dX3_lay_207 rfl ?_
                refine x_lcmp hc dX3_lay_208 ?_
                refine x_if_ge (tgt := 216) hc dX3_lay_209 (by decide) (fun _ => ?_) (fun q9 => absurd (Int32.not_lt.mp (fun h => hx ((lg_cmp_lt _ _).mp h))) q9)
                refine x_lload (j := 0) hc dX3_lay_216 rfl ?_
                refine x_vall (y := (yRec (cp p) y (Z y p)).2.2.2.2.1) (eb.symm) ?_
                refine x_last hc ((hm.cel 15 1158 20 (by decide)).2) (by decide) rfl (by omega) (by omega) dX3_lay_218 ?_
                refine x_aload_n (j := 5) hc dX3_lay_219 rfl rfl ?_
                refine x_getR (C := RX3) (T := TX3) (NN := 19) (ci := 4) (ref := "NetPointsModel") hc 16 in_X3_lay_4 rfl (by decide) lf_X3_lay_50 (fun _ h9 => h9) hm.1 (by omega) (by decide) rfl ((hm.cel 16 1174 20 (by decide)).1) dX3_lay_220 ?_
                refine x_iload_n (j := 2) hc dX3_lay_223 rfl rfl ?_
                refine x_aload_n (j := 5) hc dX3_lay_224 rfl rfl ?_
                refine x_getR (C := RX3) (T := TX3) (NN := 19) (ci := 4) (ref := "NetPointsModel") hc 17 in_X3_lay_4 rfl (by decide) lf_X3_lay_53 (fun _ h9 => h9) hm.1 (by omega) (by decide) rfl ((hm.cel 17 1190 2 (by decide)).1) dX3_lay_225 ?_
                refine x_iload_n (j := 3) hc dX3_lay_228 rfl rfl ?_
                refine x_lald hc ((hm.cel 17 1190 2 (by decide)).2) (by decide) rfl (by omega) (by omega) dX3_lay_229 ?_
                refine x_vall (y := yGain (cp p) y (Z y p)) ((u2_a (((hm.cel 17 1190 2 (by decide)).2).ne ((hm.cel 15 1158 20 (by decide)).2) (by decide))).trans (u2_s)) ?_
                refine x_iload_n (j := 4) hc dX3_lay_230 rfl rfl ?_
                refine x_if_ne (tgt := 238) hc dX3_lay_231 (by decide) (fun q9 => ?_) (fun q9 => ?_)
                · have q0 : ¬ y = 0 := fun h => q9 (by rw [h]; rfl)
                  refine x_aload_n (j := 5) hc dX3_lay_238 rfl rfl ?_
                  refine x_getR (C := RX3) (T := TX3) (NN := 19) (ci := 4) (ref := "NetPointsModel") hc 16 in_X3_lay_4 rfl (by decide) lf_X3_lay_50 (fun _ h9 => h9) hm.1 (by omega) (by decide) rfl ((hm.cel 16 1174 20 (by decide)).1) dX3_lay_239 ?_
                  refine x_iload_n (j := 2) hc dX3_lay_242 rfl rfl ?_
                  refine x_iconst (v := 1) hc dX3_lay_243 (by decide) ?_
                  refine x_isub hc dX3_lay_244 ?_
                  refine x_vali (nI_sub1 (by omega)) ?_
                  refine x_lald hc ((hm.cel 16 1174 20 (by decide)).2) (by decide) rfl (by omega) (by omega) dX3_lay_245 ?_
                  refine x_vall (y := (Z y p).2.2.2.2.2) ((u2_a (((hm.cel 16 1174 20 (by decide)).2).ne ((hm.cel 15 1158 20 (by decide)).2) (by decide))).trans ((u2_a (((hm.cel 16 1174 20 (by decide)).2).ne ((hm.cel 17 1190 2 (by decide)).2) (by decide))).trans (((by have h := (hM2.1 p (y - 1) hp (by omega)).2; rw [show y - 1 + 1 = y by omega] at h; rw [show 10 * p + y - 1 = 10 * p + (y - 1) by omega]; exact h))))) ?_
                  refine x_ladd hc dX3_lay_246 ?_
                  refine x_vall (y := (yRec (cp p) y (Z y p)).2.2.2.2.2) ((by rw [eg, ep]; exact Int64.zero_add _)) ?_
                  refine x_last hc ((hm.cel 16 1174 20 (by decide)).2) (by decide) rfl (by omega) (by omega) dX3_lay_247 ?_
                  refine x_iinc (j := 3) (v := nI (p + 1)) (lv' := [(2, .int (nI (p + 1))), (4, .long (yX (cp p) y (Z y p))), (6, .int (nI n)), (3, .int (nI (10 * p + y))), (1, .int (nI y)), (0, .ref m)]) hc dX3_lay_248 rfl (nI_1 p) (by decide) rfl ?_
                  refine x_goto (tgt := 12) hc dX3_lay_251 (by decide) ?_
                  refine x_sub [0, 4, 5] rfl ?_
                  exact cont
                · have q0 : y = 0 := (nI_eq (b := 0) (show y < 2 ^ 31 by omega) (by decide)).mp q9
                  refine x_lconst (v := 0) hc dX3_lay_234 rfl ?_
                  refine x_goto (tgt := 246) hc dX3_lay_235 (by decide) ?_
                  refine x_vall (y := (Z y p).2.2.2.2.2) ((by rw [show y = 0 from q0]; exact ((hZ0 p).2).symm)) ?_
                  refine x_ladd hc dX3_lay_246 ?_
                  refine x_vall (y := (yRec (cp p) y (Z y p)).2.2.2.2.2) ((by rw [eg, ep]; exact Int64.zero_add _)) ?_
                  refine x_last hc ((hm.cel 16 1174 20 (by decide)).2) (by decide) rfl (by omega) (by omega) dX3_lay_247 ?_
                  refine x_iinc (j := 3) (v := nI (p + 1)) (lv' := [(2, .int (nI (p + 1))), (4, .long (yX (cp p) y (Z y p))), (6, .int (nI n)), (3, .int (nI (10 * p + y))), (1, .int (nI y)), (0, .ref m)]) hc dX3_lay_248 rfl (nI_1 p) (by decide) rfl ?_
                  refine x_goto (tgt := 12) hc dX3_lay_251 (by decide) ?_
                  refine x_sub [0, 4, 5] rfl ?_
                  exact cont
            | succ d ih2 =>
              intro k2 acc hk2 hacc
              have hkn : k2 < n := by omega
              have hk8 : k2 < 8 := by omega
              obtain ⟨hpk, hpj⟩ := hc0.2.2.2.2.2.2.1 k2 hkn
              refine x_iload (j := 0) hc dX3_lay_77 rfl ?_
              refine x_aload_n (j := 5) hc dX3_lay_79 rfl rfl ?_
              refine x_getI (C := RX3) (T := TX3) (NN := 19) (ci := 4) (ref := "NetPointsModel") hc 14 in_X3_lay_4 rfl (by decide) lf_X3_lay_81 (fun _ h9 => h9) hm.1 (by omega) (by decide) rfl dX3_lay_80 ?_
              refine x_vali (y := nI n) ((hc0.2.2.2.1)) ?_
              refine x_icmp_ge (tgt := 162) hc dX3_lay_83 (by decide) (fun q9 => absurd q9 (nI_ge hkn (show n < 2 ^ 31 by omega))) (fun _ => ?_)
              refine x_aload_n (j := 5) hc dX3_lay_86 rfl rfl ?_
              refine x_getR (C := RX3) (T := TX3) (NN := 19) (ci := 4) (ref := "NetPointsModel") hc 8 in_X3_lay_4 rfl (by decide) lf_X3_lay_28 (fun _ h9 => h9) hm.1 (by omega) (by decide) rfl ((hm.cel 8 1061 8 (by decide)).1) dX3_lay_87 ?_
              refine x_iload (j := 0) hc dX3_lay_90 rfl ?_
              refine x_iald hc ((hm.cel 8 1061 8 (by decide)).2) (by decide) rfl (by omega) (by omega) dX3_lay_92 ?_
              refine x_vali (y := nI (pic k2)) ((hpj)) ?_
              refine x_iload_n (j := 3) hc dX3_lay_93 rfl rfl ?_
              refine x_icmp_ne (tgt := 122) hc dX3_lay_94 (by decide) (fun q1 => ?_) (fun q1 => ?_)
              · refine x_iconst (v := 0) hc dX3_lay_122 (by decide) ?_
                refine x_istore (lv' := [(7, .int 0), (6, .int (nI k2)), (4, .long acc), (3, .int (nI (10 * p + y))), (2, .int (nI p)), (1, .int (nI y)), (0, .ref m)]) hc dX3_lay_123 (by decide) rfl ?_
                refine x_lload (j := 2) hc dX3_lay_125 rfl ?_
                refine x_iload (j := 0) hc dX3_lay_127 rfl ?_
                refine x_if_eq (tgt := 152) hc dX3_lay_129 (by decide) (fun _ => ?_) (fun q9 => absurd (by decide) q9)
                refine x_lconst (v := 0) hc dX3_lay_152 rfl ?_
                refine x_ladd hc dX3_lay_153 ?_
                refine x_lstore (lv' := [(4, .long (acc + 0)), (7, .int 0), (6, .int (nI k2)), (3, .int (nI (10 * p + y))), (2, .int (nI p)), (1, .int (nI y)), (0, .ref m)]) hc dX3_lay_154 (by decide) rfl ?_
                refine x_iinc (j := 2) (v := nI (k2 + 1)) (lv' := [(6, .int (nI (k2 + 1))), (4, .long (acc + 0)), (7, .int 0), (3, .int (nI (10 * p + y))), (2, .int (nI p)), (1, .int (nI y)), (0, .ref m)]) hc dX3_lay_156 rfl (nI_1 k2) (by decide) rfl ?_
                refine x_goto (tgt := 77) hc dX3_lay_159 (by decide) ?_
                refine x_sub [0, 1, 3, 4, 5, 6] rfl ?_
                exact ih2 (k2 + 1) _ (by omega) (by rw [mD, if_neg (show ¬ (pic k2 = p ∧ ((mshr I R m k2).1 = 0 ∨ (mshr I R m k2).1 = 3)) from fun h => q1 (by rw [h.1])), ← hacc])
              · have hpk2 : pic k2 = p := (nI_eq (show pic k2 < 2 ^ 31 by omega) (show p < 2 ^ 31 by omega)).mp q1
                refine x_aload_n (j := 5) hc dX3_lay_97 rfl rfl ?_
                refine x_getR (C := RX3) (T := TX3) (NN := 19) (ci := 4) (ref := "NetPointsModel") hc 9 in_X3_lay_4 rfl (by decide) lf_X3_lay_31 (fun _ h9 => h9) hm.1 (by omega) (by decide) rfl ((hm.cel 9 1077 8 (by decide)).1) dX3_lay_98 ?_
                refine x_iload (j := 0) hc dX3_lay_101 rfl ?_
                refine x_iald hc ((hm.cel 9 1077 8 (by decide)).2) (by decide) rfl (by omega) (by omega) dX3_lay_103 ?_
                refine x_if_eq (tgt := 118) hc dX3_lay_104 (by decide) (fun q2 => ?_) (fun q2 => ?_)
                · refine x_iconst (v := 1) hc dX3_lay_118 (by decide) ?_
                  refine x_goto (tgt := 123) hc dX3_lay_119 (by decide) ?_
                  refine x_istore (lv' := [(7, .int 1), (6, .int (nI k2)), (4, .long acc), (3, .int (nI (10 * p + y))), (2, .int (nI p)), (1, .int (nI y)), (0, .ref m)]) hc dX3_lay_123 (by decide) rfl ?_
                  refine x_lload (j := 2) hc dX3_lay_125 rfl ?_
                  refine x_iload (j := 0) hc dX3_lay_127 rfl ?_
                  refine x_if_eq (tgt := 152) hc dX3_lay_129 (by decide) (fun q9 => absurd q9 (by decide)) (fun _ => ?_)
                  refine x_aload_n (j := 6) hc dX3_lay_132 rfl rfl ?_
                  refine x_iload (j := 1) hc dX3_lay_133 rfl ?_
                  refine x_iload_n (j := 5) hc dX3_lay_135 rfl rfl ?_
                  have hpk3 := hpk2
                  refine x_callV (C := RX3) (T := TX3) (NN := 19) (ci := 4) (As := [.int (nI k2), .int (nI y)]) (st := [.long acc]) hc hm.1 (by omega) (by decide) rfl (m_upTo l D z e0 L K N I J2 R m now n pic sh hc0 k2 hkn (nI y) (y + 1) (up_y (Nat.le_of_lt hy10)) (by omega)) gX3_lay_X3_upTo rfl hdV_X3_upTo ⟨Nat.le_of_ble_eq_true rfl, Nat.le_of_ble_eq_true rfl⟩ rfl rfl ⟨Nat.le_of_ble_eq_true rfl, Nat.le_of_ble_eq_true rfl⟩ (Nat.le_of_ble_eq_true rfl) dX3_lay_136 (fun v9 I9 J9 hz9 => ?_)
                  obtain ⟨rfl, hI9, hJ9⟩ := hz9
                  replace hI9 := hI9.symm
                  subst hI9
                  replace hJ9 := hJ9.symm
                  subst hJ9
                  refine x_aload_n (j := 6) hc dX3_lay_139 rfl rfl ?_
                  refine x_iload (j := 1) hc dX3_lay_140 rfl ?_
                  refine x_iload_n (j := 5) hc dX3_lay_142 rfl rfl ?_
                  refine x_iconst (v := 1) hc dX3_lay_143 (by decide) ?_
                  refine x_isub hc dX3_lay_144 ?_
                  have hpk3 := hpk2
                  refine x_callV (C := RX3) (T := TX3) (NN := 19) (ci := 4) (As := [.int (nI k2), .int ((nI y) - 1)]) (st := [.long (upV (mshr I R m k2) (sumG (mrc I R m (pic k2)) (y + 1)) (sumA (I (dr R m 3) (pic k2)) (mrc I R m (pic k2)) (y + 1)) (y + 1)), .long acc]) hc hm.1 (by omega) (by decide) rfl (m_upTo l D z e0 L K N I J2 R m now n pic sh hc0 k2 hkn ((nI y) - 1) (y) (up_y1 (Nat.le_of_lt hy10)) (by omega)) gX3_lay_X3_upTo rfl hdV_X3_upTo ⟨Nat.le_of_ble_eq_true rfl, Nat.le_of_ble_eq_true rfl⟩ rfl rfl ⟨Nat.le_of_ble_eq_true rfl, Nat.le_of_ble_eq_true rfl⟩ (Nat.le_of_ble_eq_true rfl) dX3_lay_145 (fun v9 I9 J9 hz9 => ?_)
                  obtain ⟨rfl, hI9, hJ9⟩ := hz9
                  replace hI9 := hI9.symm
                  subst hI9
                  replace hJ9 := hJ9.symm
                  subst hJ9
                  refine x_lsub hc dX3_lay_148 ?_
                  refine x_goto (tgt := 153) hc dX3_lay_149 (by decide) ?_
                  refine x_ladd hc dX3_lay_153 ?_
                  refine x_lstore (lv' := [(4, .long (acc + ((upV (mshr I R m k2) (sumG (mrc I R m (pic k2)) (y + 1)) (sumA (I (dr R m 3) (pic k2)) (mrc I R m (pic k2)) (y + 1)) (y + 1)) - (upV (mshr I R m k2) (sumG (mrc I R m (pic k2)) (y)) (sumA (I (dr R m 3) (pic k2)) (mrc I R m (pic k2)) (y)) (y))))), (7, .int 1), (6, .int (nI k2)), (3, .int (nI (10 * p + y))), (2, .int (nI p)), (1, .int (nI y)), (0, .ref m)]) hc dX3_lay_154 (by decide) rfl ?_
                  refine x_iinc (j := 2) (v := nI (k2 + 1)) (lv' := [(6, .int (nI (k2 + 1))), (4, .long (acc + ((upV (mshr I R m k2) (sumG (mrc I R m (pic k2)) (y + 1)) (sumA (I (dr R m 3) (pic k2)) (mrc I R m (pic k2)) (y + 1)) (y + 1)) - (upV (mshr I R m k2) (sumG (mrc I R m (pic k2)) (y)) (sumA (I (dr R m 3) (pic k2)) (mrc I R m (pic k2)) (y)) (y))))), (7, .int 1), (3, .int (nI (10 * p + y))), (2, .int (nI p)), (1, .int (nI y)), (0, .ref m)]) hc dX3_lay_156 rfl (nI_1 k2) (by decide) rfl ?_
                  refine x_goto (tgt := 77) hc dX3_lay_159 (by decide) ?_
                  refine x_sub [0, 1, 3, 4, 5, 6] rfl ?_
                  exact ih2 (k2 + 1) _ (by omega) (by rw [mD, if_pos (show (pic k2 = p ∧ ((mshr I R m k2).1 = 0 ∨ (mshr I R m k2).1 = 3)) from ⟨hpk2, Or.inl q2⟩), ← hacc, hpk2])
                · refine x_aload_n (j := 5) hc dX3_lay_107 rfl rfl ?_
                  refine x_getR (C := RX3) (T := TX3) (NN := 19) (ci := 4) (ref := "NetPointsModel") hc 9 in_X3_lay_4 rfl (by decide) lf_X3_lay_31 (fun _ h9 => h9) hm.1 (by omega) (by decide) rfl ((hm.cel 9 1077 8 (by decide)).1) dX3_lay_108 ?_
                  refine x_iload (j := 0) hc dX3_lay_111 rfl ?_
                  refine x_iald hc ((hm.cel 9 1077 8 (by decide)).2) (by decide) rfl (by omega) (by omega) dX3_lay_113 ?_
                  refine x_iconst (v := 3) hc dX3_lay_114 (by decide) ?_
                  refine x_icmp_ne (tgt := 122) hc dX3_lay_115 (by decide) (fun q3 => ?_) (fun q3 => ?_)
                  · refine x_iconst (v := 0) hc dX3_lay_122 (by decide) ?_
                    refine x_istore (lv' := [(7, .int 0), (6, .int (nI k2)), (4, .long acc), (3, .int (nI (10 * p + y))), (2, .int (nI p)), (1, .int (nI y)), (0, .ref m)]) hc dX3_lay_123 (by decide) rfl ?_
                    refine x_lload (j := 2) hc dX3_lay_125 rfl ?_
                    refine x_iload (j := 0) hc dX3_lay_127 rfl ?_
                    refine x_if_eq (tgt := 152) hc dX3_lay_129 (by decide) (fun _ => ?_) (fun q9 => absurd (by decide) q9)
                    refine x_lconst (v := 0) hc dX3_lay_152 rfl ?_
                    refine x_ladd hc dX3_lay_153 ?_
                    refine x_lstore (lv' := [(4, .long (acc + 0)), (7, .int 0), (6, .int (nI k2)), (3, .int (nI (10 * p + y))), (2, .int (nI p)), (1, .int (nI y)), (0, .ref m)]) hc dX3_lay_154 (by decide) rfl ?_
                    refine x_iinc (j := 2) (v := nI (k2 + 1)) (lv' := [(6, .int (nI (k2 + 1))), (4, .long (acc + 0)), (7, .int 0), (3, .int (nI (10 * p + y))), (2, .int (nI p)), (1, .int (nI y)), (0, .ref m)]) hc dX3_lay_156 rfl (nI_1 k2) (by decide) rfl ?_
                    refine x_goto (tgt := 77) hc dX3_lay_159 (by decide) ?_
                    refine x_sub [0, 1, 3, 4, 5, 6] rfl ?_
                    exact ih2 (k2 + 1) _ (by omega) (by rw [mD, if_neg (show ¬ (pic k2 = p ∧ ((mshr I R m k2).1 = 0 ∨ (mshr I R m k2).1 = 3)) from fun h => h.2.elim q2 q3), ← hacc])
                  · refine x_iconst (v := 1) hc dX3_lay_118 (by decide) ?_
                    refine x_goto (tgt := 123) hc dX3_lay_119 (by decide) ?_
                    refine x_istore (lv' := [(7, .int 1), (6, .int (nI k2)), (4, .long acc), (3, .int (nI (10 * p + y))), (2, .int (nI p)), (1, .int (nI y)), (0, .ref m)]) hc dX3_lay_123 (by decide) rfl ?_
                    refine x_lload (j := 2) hc dX3_lay_125 rfl ?_
                    refine x_iload (j := 0) hc dX3_lay_127 rfl ?_
                    refine x_if_eq (tgt := 152) hc dX3_lay_129 (by decide) (fun q9 => absurd q9 (by decide)) (fun _ => ?_)
                    refine x_aload_n (j := 6) hc dX3_lay_132 rfl rfl ?_
                    refine x_iload (j := 1) hc dX3_lay_133 rfl ?_
                    refine x_iload_n (j := 5) hc dX3_lay_135 rfl rfl ?_
                    have hpk3 := hpk2
                    refine x_callV (C := RX3) (T := TX3) (NN := 19) (ci := 4) (As := [.int (nI k2), .int (nI y)]) (st := [.long acc]) hc hm.1 (by omega) (by decide) rfl (m_upTo l D z e0 L K N I J2 R m now n pic sh hc0 k2 hkn (nI y) (y + 1) (up_y (Nat.le_of_lt hy10)) (by omega)) gX3_lay_X3_upTo rfl hdV_X3_upTo ⟨Nat.le_of_ble_eq_true rfl, Nat.le_of_ble_eq_true rfl⟩ rfl rfl ⟨Nat.le_of_ble_eq_true rfl, Nat.le_of_ble_eq_true rfl⟩ (Nat.le_of_ble_eq_true rfl) dX3_lay_136 (fun v9 I9 J9 hz9 => ?_)
                    obtain ⟨rfl, hI9, hJ9⟩ := hz9
                    replace hI9 := hI9.symm
                    subst hI9
                    replace hJ9 := hJ9.symm
                    subst hJ9
                    refine x_aload_n (j := 6) hc dX3_lay_139 rfl rfl ?_
                    refine x_iload (j := 1) hc dX3_lay_140 rfl ?_
                    refine x_iload_n (j := 5) hc dX3_lay_142 rfl rfl ?_
                    refine x_iconst (v := 1) hc dX3_lay_143 (by decide) ?_
                    refine x_isub hc dX3_lay_144 ?_
                    have hpk3 := hpk2
                    refine x_callV (C := RX3) (T := TX3) (NN := 19) (ci := 4) (As := [.int (nI k2), .int ((nI y) - 1)]) (st := [.long (upV (mshr I R m k2) (sumG (mrc I R m (pic k2)) (y + 1)) (sumA (I (dr R m 3) (pic k2)) (mrc I R m (pic k2)) (y + 1)) (y + 1)), .long acc]) hc hm.1 (by omega) (by decide) rfl (m_upTo l D z e0 L K N I J2 R m now n pic sh hc0 k2 hkn ((nI y) - 1) (y) (up_y1 (Nat.le_of_lt hy10)) (by omega)) gX3_lay_X3_upTo rfl hdV_X3_upTo ⟨Nat.le_of_ble_eq_true rfl, Nat.le_of_ble_eq_true rfl⟩ rfl rfl ⟨Nat.le_of_ble_eq_true rfl, Nat.le_of_ble_eq_true rfl⟩ (Nat.le_of_ble_eq_true rfl) dX3_lay_145 (fun v9 I9 J9 hz9 => ?_)
                    obtain ⟨rfl, hI9, hJ9⟩ := hz9
                    replace hI9 := hI9.symm
                    subst hI9
                    replace hJ9 := hJ9.symm
                    subst hJ9
                    refine x_lsub hc dX3_lay_148 ?_
                    refine x_goto (tgt := 153) hc dX3_lay_149 (by decide) ?_
                    refine x_ladd hc dX3_lay_153 ?_
                    refine x_lstore (lv' := [(4, .long (acc + ((upV (mshr I R m k2) (sumG (mrc I R m (pic k2)) (y + 1)) (sumA (I (dr R m 3) (pic k2)) (mrc I R m (pic k2)) (y + 1)) (y + 1)) - (upV (mshr I R m k2) (sumG (mrc I R m (pic k2)) (y)) (sumA (I (dr R m 3) (pic k2)) (mrc I R m (pic k2)) (y)) (y))))), (7, .int 1), (6, .int (nI k2)), (3, .int (nI (10 * p + y))), (2, .int (nI p)), (1, .int (nI y)), (0, .ref m)]) hc dX3_lay_154 (by decide) rfl ?_
                    refine x_iinc (j := 2) (v := nI (k2 + 1)) (lv' := [(6, .int (nI (k2 + 1))), (4, .long (acc + ((upV (mshr I R m k2) (sumG (mrc I R m (pic k2)) (y + 1)) (sumA (I (dr R m 3) (pic k2)) (mrc I R m (pic k2)) (y + 1)) (y + 1)) - (upV (mshr I R m k2) (sumG (mrc I R m (pic k2)) (y)) (sumA (I (dr R m 3) (pic k2)) (mrc I R m (pic k2)) (y)) (y))))), (7, .int 1), (3, .int (nI (10 * p + y))), (2, .int (nI p)), (1, .int (nI y)), (0, .ref m)]) hc dX3_lay_156 rfl (nI_1 k2) (by decide) rfl ?_
                    refine x_goto (tgt := 77) hc dX3_lay_159 (by decide) ?_
                    refine x_sub [0, 1, 3, 4, 5, 6] rfl ?_
                    exact ih2 (k2 + 1) _ (by omega) (by rw [mD, if_pos (show (pic k2 = p ∧ ((mshr I R m k2).1 = 0 ∨ (mshr I R m k2).1 = 3)) from ⟨hpk2, Or.inr q3⟩), ← hacc, hpk2])
          exact hin n 0 _ (by omega) rfl
        refine x_if_ne (tgt := 32) hc dX3_lay_25 (by decide) (fun q9 => ?_) (fun q9 => ?_)
        · have q0 : ¬ y = 0 := fun h => q9 (by rw [h]; rfl)
          refine x_aload_n (j := 3) hc dX3_lay_32 rfl rfl ?_
          refine x_getR (C := RX3) (T := TX3) (NN := 19) (ci := 4) (ref := "NetPointsModel") hc 15 in_X3_lay_4 rfl (by decide) lf_X3_lay_46 (fun _ h9 => h9) hm.1 (by omega) (by decide) rfl ((hm.cel 15 1158 20 (by decide)).1) dX3_lay_33 ?_
          refine x_iload_n (j := 0) hc dX3_lay_36 rfl rfl ?_
          refine x_iconst (v := 1) hc dX3_lay_37 (by decide) ?_
          refine x_isub hc dX3_lay_38 ?_
          refine x_vali (nI_sub1 (by omega)) ?_
          refine x_lald hc ((hm.cel 15 1158 20 (by decide)).2) (by decide) rfl (by omega) (by omega) dX3_lay_39 ?_
          refine x_vall (y := (Z y p).2.2.2.2.1) (((by have h := (hM2.1 p (y - 1) hp (by omega)).1; rw [show y - 1 + 1 = y by omega] at h; rw [show 10 * p + y - 1 = 10 * p + (y - 1) by omega]; exact h))) ?_
          exact htail1
        · skip
          refine x_lconst (v := 0) hc dX3_lay_28 rfl ?_
          refine x_goto (tgt := 40) hc dX3_lay_29 (by decide) ?_
          refine x_vall (y := (Z y p).2.2.2.2.1) ((by rw [show y = 0 from (nI_eq (b := 0) (show y < 2 ^ 31 by omega) (by decide)).mp q9]; exact ((hZ0 p).1).symm)) ?_
          exact htail1
      obtain ⟨S, hS⟩ : ∃ S : Nat → BK, S = (fun p => if I m 6 = 0 then yRec (cp p) y (Z y p) else mvS (yGain (cp 1) y (Z y 1)) 1 0 (mvS (yGain (cp 0) y (Z y 0)) 0 1 (fun p => yRec (cp p) y (Z y p))) p) := ⟨_, rfl⟩
      have hZS : ∀ p, Z (y + 1) p = finB (I (dr R m 5) p) (S p) := by rw [hS]; exact fun p => hZs y p
      have htail : ∀ (J4 : Nat → Nat → Int64), LM R m J J4 Z y → (∀ p, p < 2 → J4 (dr R m 15) (10 * p + y) = (S p).2.2.2.2.1 ∧ J4 (dr R m 16) (10 * p + y) = (S p).2.2.2.2.2) → XW pg l ev rm_X3_lay s mi args below meth c D z 8 L K N I J4 R 0 0 (MQ below (QG D z L K N R (fun v I' J' => v = none ∧ I' = I ∧ LM R m J J' Z (now + 1))) args s (rm_X3_lay).cells (rm_X3_lay).slots (fun q => z ≤ q)) 275 [(1, .int (nI y)), (0, .ref m)] [] := by
        intro J4 hM4 hv
        refine x_iconst (v := 0) hc dX3_lay_275 (by decide) ?_
        refine x_istore_n (lv' := [(2, .int 0), (1, .int (nI y)), (0, .ref m)]) hc dX3_lay_276 rfl (by decide) rfl ?_
        refine x_iload_n (j := 0) hc dX3_lay_277 rfl rfl ?_
        refine x_iconst (v := 2) hc dX3_lay_278 (by decide) ?_
        refine x_icmp_ge (tgt := 322) hc dX3_lay_279 (by decide) (fun q9 => absurd q9 (by decide)) (fun _ => ?_)
        refine x_bipush (v := 10) hc dX3_lay_282 (by decide) ?_
        refine x_iload_n (j := 0) hc dX3_lay_284 rfl rfl ?_
        refine x_imul hc dX3_lay_285 ?_
        refine x_iload_n (j := 1) hc dX3_lay_286 rfl rfl ?_
        refine x_iadd hc dX3_lay_287 ?_
        refine x_vali (ix10 0 y) ?_
        refine x_istore_n (lv' := [(3, .int (nI (10 * 0 + y))), (2, .int 0), (1, .int (nI y)), (0, .ref m)]) hc dX3_lay_288 rfl (by decide) rfl ?_
        refine x_aload_n (j := 3) hc dX3_lay_289 rfl rfl ?_
        refine x_getR (C := RX3) (T := TX3) (NN := 19) (ci := 4) (ref := "NetPointsModel") hc 15 in_X3_lay_4 rfl (by decide) lf_X3_lay_46 (fun _ h9 => h9) hm.1 (by omega) (by decide) rfl ((hm.cel 15 1158 20 (by decide)).1) dX3_lay_290 ?_
        refine x_iload_n (j := 0) hc dX3_lay_293 rfl rfl ?_
        refine x_dup2 hc dX3_lay_294 rfl rfl ?_
        refine x_lald hc ((hm.cel 15 1158 20 (by decide)).2) (by decide) rfl (by omega) (by omega) dX3_lay_295 ?_
        refine x_vall (y := (S 0).2.2.2.2.1) (((hv 0 (by decide)).1)) ?_
        refine x_aload_n (j := 3) hc dX3_lay_296 rfl rfl ?_
        refine x_getR (C := RX3) (T := TX3) (NN := 19) (ci := 4) (ref := "NetPointsModel") hc 15 in_X3_lay_4 rfl (by decide) lf_X3_lay_46 (fun _ h9 => h9) hm.1 (by omega) (by decide) rfl ((hm.cel 15 1158 20 (by decide)).1) dX3_lay_297 ?_
        refine x_iload_n (j := 0) hc dX3_lay_300 rfl rfl ?_
        refine x_lald hc ((hm.cel 15 1158 20 (by decide)).2) (by decide) rfl (by omega) (by omega) dX3_lay_301 ?_
        refine x_vall (y := (S 0).2.2.2.2.1) (((hv 0 (by decide)).1)) ?_
        refine x_aload_n (j := 3) hc dX3_lay_302 rfl rfl ?_
        refine x_getR (C := RX3) (T := TX3) (NN := 19) (ci := 4) (ref := "NetPointsModel") hc 5 in_X3_lay_4 rfl (by decide) lf_X3_lay_25 (fun _ h9 => h9) hm.1 (by omega) (by decide) rfl ((hm.cel 5 1045 2 (by decide)).1) dX3_lay_303 ?_
        refine x_iload_n (j := 1) hc dX3_lay_306 rfl rfl ?_
        refine x_iald hc ((hm.cel 5 1045 2 (by decide)).2) (by decide) rfl (by decide) (by omega) dX3_lay_307 ?_
        refine x_i2l hc dX3_lay_308 ?_
        refine x_lmul hc dX3_lay_309 ?_
        refine x_ldc2 hc dX3_lay_310 lc_X3_lay_97 ?_
        refine x_ldiv hc dX3_lay_313 (by decide) ?_
        refine x_ladd hc dX3_lay_314 ?_
        refine x_vall (y := (Z (y + 1) 0).2.2.2.2.1) ((by rw [hZS 0]; rfl)) ?_
        refine x_last hc ((hm.cel 15 1158 20 (by decide)).2) (by decide) rfl (by omega) (by omega) dX3_lay_315 ?_
        refine x_iinc (j := 1) (v := 1) (lv' := [(2, .int 1), (3, .int (nI (10 * 0 + y))), (1, .int (nI y)), (0, .ref m)]) hc dX3_lay_316 rfl (by decide) (by decide) rfl ?_
        refine x_goto (tgt := 277) hc dX3_lay_319 (by decide) ?_
        refine x_iload_n (j := 0) hc dX3_lay_277 rfl rfl ?_
        refine x_iconst (v := 2) hc dX3_lay_278 (by decide) ?_
        refine x_icmp_ge (tgt := 322) hc dX3_lay_279 (by decide) (fun q9 => absurd q9 (by decide)) (fun _ => ?_)
        refine x_bipush (v := 10) hc dX3_lay_282 (by decide) ?_
        refine x_iload_n (j := 0) hc dX3_lay_284 rfl rfl ?_
        refine x_imul hc dX3_lay_285 ?_
        refine x_iload_n (j := 2) hc dX3_lay_286 rfl rfl ?_
        refine x_iadd hc dX3_lay_287 ?_
        refine x_vali (ix10 1 y) ?_
        refine x_istore_n (lv' := [(3, .int (nI (10 * 1 + y))), (2, .int 1), (1, .int (nI y)), (0, .ref m)]) hc dX3_lay_288 rfl (by decide) rfl ?_
        refine x_aload_n (j := 3) hc dX3_lay_289 rfl rfl ?_
        refine x_getR (C := RX3) (T := TX3) (NN := 19) (ci := 4) (ref := "NetPointsModel") hc 15 in_X3_lay_4 rfl (by decide) lf_X3_lay_46 (fun _ h9 => h9) hm.1 (by omega) (by decide) rfl ((hm.cel 15 1158 20 (by decide)).1) dX3_lay_290 ?_
        refine x_iload_n (j := 0) hc dX3_lay_293 rfl rfl ?_
        refine x_dup2 hc dX3_lay_294 rfl rfl ?_
        refine x_lald hc ((hm.cel 15 1158 20 (by decide)).2) (by decide) rfl (by omega) (by omega) dX3_lay_295 ?_
        refine x_vall (y := (S 1).2.2.2.2.1) ((u2_k (by omega)).trans (((hv 1 (by decide)).1))) ?_
        refine x_aload_n (j := 3) hc dX3_lay_296 rfl rfl ?_
        refine x_getR (C := RX3) (T := TX3) (NN := 19) (ci := 4) (ref := "NetPointsModel") hc 15 in_X3_lay_4 rfl (by decide) lf_X3_lay_46 (fun _ h9 => h9) hm.1 (by omega) (by decide) rfl ((hm.cel 15 1158 20 (by decide)).1) dX3_lay_297 ?_
        refine x_iload_n (j := 0) hc dX3_lay_300 rfl rfl ?_
        refine x_lald hc ((hm.cel 15 1158 20 (by decide)).2) (by decide) rfl (by omega) (by omega) dX3_lay_301 ?_
        refine x_vall (y := (S 1).2.2.2.2.1) ((u2_k (by omega)).trans (((hv 1 (by decide)).1))) ?_
        refine x_aload_n (j := 3) hc dX3_lay_302 rfl rfl ?_
        refine x_getR (C := RX3) (T := TX3) (NN := 19) (ci := 4) (ref := "NetPointsModel") hc 5 in_X3_lay_4 rfl (by decide) lf_X3_lay_25 (fun _ h9 => h9) hm.1 (by omega) (by decide) rfl ((hm.cel 5 1045 2 (by decide)).1) dX3_lay_303 ?_
        refine x_iload_n (j := 1) hc dX3_lay_306 rfl rfl ?_
        refine x_iald hc ((hm.cel 5 1045 2 (by decide)).2) (by decide) rfl (by decide) (by omega) dX3_lay_307 ?_
        refine x_i2l hc dX3_lay_308 ?_
        refine x_lmul hc dX3_lay_309 ?_
        refine x_ldc2 hc dX3_lay_310 lc_X3_lay_97 ?_
        refine x_ldiv hc dX3_lay_313 (by decide) ?_
        refine x_ladd hc dX3_lay_314 ?_
        refine x_vall (y := (Z (y + 1) 1).2.2.2.2.1) ((by rw [hZS 1]; rfl)) ?_
        refine x_last hc ((hm.cel 15 1158 20 (by decide)).2) (by decide) rfl (by omega) (by omega) dX3_lay_315 ?_
        refine x_iinc (j := 1) (v := 2) (lv' := [(2, .int 2), (3, .int (nI (10 * 1 + y))), (1, .int (nI y)), (0, .ref m)]) hc dX3_lay_316 rfl (by decide) (by decide) rfl ?_
        refine x_goto (tgt := 277) hc dX3_lay_319 (by decide) ?_
        refine x_iload_n (j := 0) hc dX3_lay_277 rfl rfl ?_
        refine x_iconst (v := 2) hc dX3_lay_278 (by decide) ?_
        refine x_icmp_ge (tgt := 322) hc dX3_lay_279 (by decide) (fun _ => ?_) (fun q9 => absurd (by decide) q9)
        refine x_iinc (j := 2) (v := nI (y + 1)) (lv' := [(1, .int (nI (y + 1))), (2, .int 2), (3, .int (nI (10 * 1 + y))), (0, .ref m)]) hc dX3_lay_322 rfl (nI_1 y) (by decide) rfl ?_
        refine x_goto (tgt := 2) hc dX3_lay_325 (by decide) ?_
        refine x_sub [0, 3] rfl ?_
        exact ih (y + 1) _ (by omega) (LM.next (it := fun p => I (dr R m 5) p) hM4 hd hy10 hv (fun p _ => hZS p))
      refine x_iload_n (j := 0) hc dX3_lay_2 rfl rfl ?_
      refine x_aload_n (j := 1) hc dX3_lay_3 rfl rfl ?_
      refine x_getI (C := RX3) (T := TX3) (NN := 19) (ci := 4) (ref := "NetPointsModel") hc 7 in_X3_lay_4 rfl (by decide) lf_X3_lay_85 (fun _ h9 => h9) hm.1 (by omega) (by decide) rfl dX3_lay_4 ?_
      refine x_vali (y := nI now) ((hc0.2.1)) ?_
      refine x_icmp_gt (tgt := 328) hc dX3_lay_7 (by decide) (fun q9 => absurd q9 (nI_nlt hyn (show now < 2 ^ 31 by omega))) (fun _ => ?_)
      refine x_iconst (v := 0) hc dX3_lay_10 (by decide) ?_
      refine x_istore_n (lv' := [(2, .int 0), (1, .int (nI y)), (0, .ref m)]) hc dX3_lay_11 rfl (by decide) rfl ?_
      refine x_iload_n (j := 0) hc dX3_lay_12 rfl rfl ?_
      refine x_iconst (v := 2) hc dX3_lay_13 (by decide) ?_
      refine x_icmp_ge (tgt := 254) hc dX3_lay_14 (by decide) (fun q9 => absurd q9 (by decide)) (fun _ => ?_)
      refine x_sub [0, 1, 2] rfl ?_
      refine hbody 0 J1 (by decide) hM ?_
      have hMa := LM.pb (c := cp) hM hd (p := 0) (by decide) hy10
      refine x_iload_n (j := 0) hc dX3_lay_12 rfl rfl ?_
      refine x_iconst (v := 2) hc dX3_lay_13 (by decide) ?_
      refine x_icmp_ge (tgt := 254) hc dX3_lay_14 (by decide) (fun q9 => absurd q9 (by decide)) (fun _ => ?_)
      refine x_sub [0, 1, 2] rfl ?_
      refine hbody 1 (PBd R m cp Z y 0 J1) (by decide) hMa ?_
      refine x_iload_n (j := 0) hc dX3_lay_12 rfl rfl ?_
      refine x_iconst (v := 2) hc dX3_lay_13 (by decide) ?_
      refine x_icmp_ge (tgt := 254) hc dX3_lay_14 (by decide) (fun _ => ?_) (fun q9 => absurd (by decide) q9)
      refine x_aload_n (j := 2) hc dX3_lay_254 rfl rfl ?_
      refine x_getI (C := RX3) (T := TX3) (NN := 19) (ci := 4) (ref := "NetPointsModel") hc 6 in_X3_lay_4 rfl (by decide) lf_X3_lay_76 (fun _ h9 => h9) hm.1 (by omega) (by decide) rfl dX3_lay_255 ?_
      refine x_if_eq (tgt := 275) hc dX3_lay_258 (by decide) (fun q1 => ?_) (fun q1 => ?_)
      · refine x_sub [1, 2] rfl ?_
        refine htail _ (LM.pb hMa hd (by decide) hy10) (fun p hp => ?_)
        have hv6 := V6.pb2 (c := cp) (Z := Z) (y := y) (J1 := J1) hd p hp
        have hSp : S p = yRec (cp p) y (Z y p) := by rw [hS]; exact if_pos q1
        rw [hSp]
        exact hv6.2
      · refine x_aload_n (j := 2) hc dX3_lay_261 rfl rfl ?_
        refine x_iconst (v := 0) hc dX3_lay_262 (by decide) ?_
        refine x_iconst (v := 1) hc dX3_lay_263 (by decide) ?_
        refine x_iload_n (j := 1) hc dX3_lay_264 rfl rfl ?_
        refine x_callV (C := RX3) (T := TX3) (NN := 19) (ci := 4) (As := [.int 0, .int 1, .int (nI y)]) (st := []) hc hm.1 (by omega) (by decide) rfl (m_move l D z e0 L K N I (PBd R m cp Z y 1 (PBd R m cp Z y 0 J1)) R m hm 0 1 y (by decide) (by decide) hy10) gX3_lay_X3_move rfl hdV_X3_move ⟨Nat.le_of_ble_eq_true rfl, Nat.le_of_ble_eq_true rfl⟩ rfl rfl ⟨Nat.le_of_ble_eq_true rfl, Nat.le_of_ble_eq_true rfl⟩ (Nat.le_of_ble_eq_true rfl) dX3_lay_265 (fun v9 I9 J9 hz9 => ?_)
        obtain ⟨rfl, hI9, hJ9⟩ := hz9
        replace hI9 := hI9.symm
        subst hI9
        replace hJ9 := hJ9.symm
        subst hJ9
        refine x_aload_n (j := 2) hc dX3_lay_268 rfl rfl ?_
        refine x_iconst (v := 1) hc dX3_lay_269 (by decide) ?_
        refine x_iconst (v := 0) hc dX3_lay_270 (by decide) ?_
        refine x_iload_n (j := 1) hc dX3_lay_271 rfl rfl ?_
        refine x_callV (C := RX3) (T := TX3) (NN := 19) (ci := 4) (As := [.int 1, .int 0, .int (nI y)]) (st := []) hc hm.1 (by omega) (by decide) rfl (m_move l D z e0 L K N I (MVd R m y 0 1 (PBd R m cp Z y 1 (PBd R m cp Z y 0 J1))) R m hm 1 0 y (by decide) (by decide) hy10) gX3_lay_X3_move rfl hdV_X3_move ⟨Nat.le_of_ble_eq_true rfl, Nat.le_of_ble_eq_true rfl⟩ rfl rfl ⟨Nat.le_of_ble_eq_true rfl, Nat.le_of_ble_eq_true rfl⟩ (Nat.le_of_ble_eq_true rfl) dX3_lay_272 (fun v9 I9 J9 hz9 => ?_)
        obtain ⟨rfl, hI9, hJ9⟩ := hz9
        replace hI9 := hI9.symm
        subst hI9
        replace hJ9 := hJ9.symm
        subst hJ9
        refine x_sub [1, 2] rfl ?_
        have hv6 := V6.pb2 (c := cp) (Z := Z) (y := y) (J1 := J1) hd
        have hv7 := V6.mv (S := fun p => yRec (cp p) y (Z y p)) hv6 hd (f := 0) (t := 1) (by decide) (by decide) (by decide) (fun p _ => ⟨rfl, rfl⟩)
        have hv8 := V6.mv (S := mvS (yGain (cp 0) y (Z y 0)) 0 1 (fun p => yRec (cp p) y (Z y p))) hv7 hd (f := 1) (t := 0) (by decide) (by decide) (by decide) (fun p _ => ⟨rfl, rfl⟩)
        refine htail _ (LM.mv (LM.mv (LM.pb hMa hd (by decide) hy10) hd (by decide) (by decide) hy10) hd (by decide) (by decide) hy10) (fun p hp => ?_)
        have hSp : S p = mvS (yGain (cp 1) y (Z y 1)) 1 0 (mvS (yGain (cp 0) y (Z y 0)) 0 1 (fun p => yRec (cp p) y (Z y p))) p := by rw [hS]; exact if_neg q1
        rw [hSp]
        exact (hv8 p hp).2
  exact hloop (now + 1) 0 J (by omega) ⟨fun p i _ hi => absurd hi (Nat.not_lt_zero i), fun _ _ _ _ => rfl⟩
