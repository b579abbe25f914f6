abbrev rm_X2_drawBooks : Room := { frames := 5, cells := 0, slots := 0, locals := 119 }
set_option maxHeartbeats 4000000 in
set_option maxRecDepth 100000 in
theorem c_drawBooks (l : Launch) (D : va_G) (z e0 : Nat) (L : List Nat) (K N : Nat → Nat) (I : Nat → Nat → Int32) (J : Nat → Nat → Int64) (R : Nat → Nat → Option Nat) (x now n : Nat) (nn : Nat → Nat) (hx : Cls L K N I R x now n nn) : MG l yX2_drawBooks wsX2_drawBooks rm_X2_drawBooks D z e0 L K N I J R [.ref x] (fun v I' J' => v = none ∧ I' = I ∧ BM R x J J' (yRun (I x 3) (fun k => pcon I R (dr R x k) (nn k))) ((yRun (I x 3) (fun k => pcon I R (dr R x k) (nn k))) (now + 1)) (fun _ => now + 1)) := by
  refine mg_of (own := RX2) (maxL := 6) (ret := none) (by decide +kernel) rfl rfl (Nat.le_of_ble_eq_true rfl) ?_
  intro pg ev s mi args below meth c hc hr
  obtain ⟨Z, hZ⟩ : ∃ Z, Z = (yRun (I x 3) (fun k => pcon I R (dr R x k) (nn k))) := ⟨_, rfl⟩
  rw [← hZ]
  have ha : Apart R x := Apart.of (fun k hk => (hx.2.1 k hk).2.1)
  have hZs : ∀ i k, Z (i + 1) k = finB (I (dr R x k) 6) (if I x 3 = 0 then yRec (pcon I R (dr R x k) (nn k)) i (Z i k) else mvS (yGain (pcon I R (dr R x 1) (nn 1)) i (Z i 1)) 1 0 (mvS (yGain (pcon I R (dr R x 0) (nn 0)) i (Z i 0)) 0 1 (fun k => yRec (pcon I R (dr R x k) (nn k)) i (Z i k))) k) := by rw [hZ]; exact fun i k => rfl
  obtain ⟨hr0, hP0, hL0⟩ := hx.2.1 0 (by decide)
  obtain ⟨hr1, hP1, hL1⟩ := hx.2.1 1 (by decide)
  refine x_aload_n (j := 0) hc dX2_drawBooks_0 rfl rfl ?_
  refine x_getR (C := RX2) (T := TX2) (NN := 5) (ci := 3) (ref := "NetPoints") hc 0 in_X2_drawBooks_3 rfl (by decide) lf_X2_drawBooks_10 (fun _ h9 => h9) hx.1 (by omega) (by decide) rfl hr0 dX2_drawBooks_1 ?_
  refine x_callV (C := RX0) (T := TX0) (NN := 15) (ci := 1) (As := []) (st := []) hc hP0.1 (by omega) (by decide) rfl (c_start l D z e0 L K N I J R 1 (dr R x 0) hP0) gX2_drawBooks_X0_startBooks rfl hdV_X0_startBooks ⟨Nat.le_of_ble_eq_true rfl, Nat.le_of_ble_eq_true rfl⟩ rfl rfl ⟨Nat.le_of_ble_eq_true rfl, Nat.le_of_ble_eq_true rfl⟩ (Nat.le_of_ble_eq_true rfl) dX2_drawBooks_4 (fun v9 I9 J9 hz9 => ?_)
  obtain ⟨rfl, hI9, hJ9⟩ := hz9
  replace hI9 := hI9.symm
  subst hI9
  replace hJ9 := hJ9.symm
  subst hJ9
  refine x_aload_n (j := 0) hc dX2_drawBooks_7 rfl rfl ?_
  refine x_getR (C := RX2) (T := TX2) (NN := 5) (ci := 3) (ref := "NetPoints") hc 1 in_X2_drawBooks_3 rfl (by decide) lf_X2_drawBooks_16 (fun _ h9 => h9) hx.1 (by omega) (by decide) rfl hr1 dX2_drawBooks_8 ?_
  refine x_callV (C := RX0) (T := TX0) (NN := 15) (ci := 1) (As := []) (st := []) hc hP1.1 (by omega) (by decide) rfl (c_start l D z e0 L K N I (setB J (dr R x 0) (0, 0, 0, 0, 0, 0)) R 2 (dr R x 1) hP1) gX2_drawBooks_X0_startBooks rfl hdV_X0_startBooks ⟨Nat.le_of_ble_eq_true rfl, Nat.le_of_ble_eq_true rfl⟩ rfl rfl ⟨Nat.le_of_ble_eq_true rfl, Nat.le_of_ble_eq_true rfl⟩ (Nat.le_of_ble_eq_true rfl) dX2_drawBooks_11 (fun v9 I9 J9 hz9 => ?_)
  obtain ⟨rfl, hI9, hJ9⟩ := hz9
  replace hI9 := hI9.symm
  subst hI9
  replace hJ9 := hJ9.symm
  subst hJ9
  refine x_iconst (v := 0) hc dX2_drawBooks_14 (by decide) ?_
  refine x_istore_n (lv' := [(1, .int 0), (0, .ref x)]) hc dX2_drawBooks_15 rfl (by decide) rfl ?_
  have hloop : ∀ (k i : Nat) (J1 : Nat → Nat → Int64), i + k = now + 1 → BM R x J J1 Z (Z i) (fun _ => i) → XW pg l ev rm_X2_drawBooks s mi args below meth c D z 6 L K N I J1 R 0 0 (MQ below (QG D z L K N R (fun v I' J' => v = none ∧ I' = I ∧ BM R x J J' Z (Z (now + 1)) (fun _ => now + 1))) args s (rm_X2_drawBooks).cells (rm_X2_drawBooks).slots (fun q => z ≤ q)) 16 [(1, .int (nI i)), (0, .ref x)] [] := by
    intro k
    induction k with
    | zero =>
      intro i J1 hi hM
      refine x_iload_n (j := 0) hc dX2_drawBooks_16 rfl rfl ?_
      refine x_bipush (v := 10) hc dX2_drawBooks_17 (by decide) ?_
      refine x_icmp_ge (tgt := 103) hc dX2_drawBooks_19 (by decide) (fun q1 => ?_) (fun q1 => ?_)
      · exact x_vret hc hr (by decide) (by decide) dX2_drawBooks_103 (⟨rfl, rfl, by rw [← (show i = now + 1 by omega)]; exact hM⟩)
      · refine x_iload_n (j := 0) hc dX2_drawBooks_22 rfl rfl ?_
        refine x_aload_n (j := 1) hc dX2_drawBooks_23 rfl rfl ?_
        refine x_getI (C := RX2) (T := TX2) (NN := 5) (ci := 3) (ref := "NetPoints") hc 4 in_X2_drawBooks_3 rfl (by decide) lf_X2_drawBooks_30 (fun _ h9 => h9) hx.1 (by omega) (by decide) rfl dX2_drawBooks_24 ?_
        refine x_vali (hx.2.2.2.2.1) ?_
        refine x_icmp_gt (tgt := 103) hc dX2_drawBooks_27 (by decide) (fun _ => ?_) (fun q9 => absurd (nI_lt (show now < i by omega) (Nat.lt_of_le_of_lt (show i ≤ 10 by have := hx.2.2.2.2.2.1; omega) (by decide))) q9)
        exact x_vret hc hr (by decide) (by decide) dX2_drawBooks_103 (⟨rfl, rfl, by rw [← (show i = now + 1 by omega)]; exact hM⟩)
    | succ k ih =>
      intro i J1 hik hM
      have hin : i ≤ now := by omega
      have hi10 : i < 10 := Nat.lt_of_le_of_lt hin hx.2.2.2.2.2.1
      obtain ⟨S, hS⟩ : ∃ S : Nat → BK, S = (fun k => if I x 3 = 0 then yRec (pcon I R (dr R x k) (nn k)) i (Z i k) else mvS (yGain (pcon I R (dr R x 1) (nn 1)) i (Z i 1)) 1 0 (mvS (yGain (pcon I R (dr R x 0) (nn 0)) i (Z i 0)) 0 1 (fun k => yRec (pcon I R (dr R x k) (nn k)) i (Z i k))) k) := ⟨_, rfl⟩
      have hZS : ∀ k, Z (i + 1) k = finB (I (dr R x k) 6) (S k) := by rw [hS]; exact fun k => hZs i k
      have htail : ∀ (J4 : Nat → Nat → Int64) (g0 g1 : Int64), BM R x J J4 Z S (fun _ => i) → XW pg l ev rm_X2_drawBooks s mi args below meth c D z 6 L K N I J4 R 0 0 (MQ below (QG D z L K N R (fun v I' J' => v = none ∧ I' = I ∧ BM R x J J' Z (Z (now + 1)) (fun _ => now + 1))) args s (rm_X2_drawBooks).cells (rm_X2_drawBooks).slots (fun q => z ≤ q)) 81 [(4, .long g1), (2, .long g0), (1, .int (nI i)), (0, .ref x)] [] := by
        intro J4 g0 g1 hM4
        refine x_aload_n (j := 3) hc dX2_drawBooks_81 rfl rfl ?_
        refine x_getR (C := RX2) (T := TX2) (NN := 5) (ci := 3) (ref := "NetPoints") hc 0 in_X2_drawBooks_3 rfl (by decide) lf_X2_drawBooks_10 (fun _ h9 => h9) hx.1 (by omega) (by decide) rfl hr0 dX2_drawBooks_82 ?_
        refine x_iload_n (j := 2) hc dX2_drawBooks_85 rfl rfl ?_
        have hM5 := BM.fin hM4 ha (k := 0) (y := i) (by decide) rfl (I (dr R x 0) 6) (hZS 0)
        refine x_callV (C := RX0) (T := TX0) (NN := 15) (ci := 1) (As := [.int (nI i)]) (st := []) hc hP0.1 (by omega) (by decide) rfl (c_finish l D z e0 L K N I J4 R 1 (dr R x 0) hP0 i hi10) gX2_drawBooks_X0_finishYear rfl hdV_X0_finishYear ⟨Nat.le_of_ble_eq_true rfl, Nat.le_of_ble_eq_true rfl⟩ rfl rfl ⟨Nat.le_of_ble_eq_true rfl, Nat.le_of_ble_eq_true rfl⟩ (Nat.le_of_ble_eq_true rfl) dX2_drawBooks_86 (fun v9 I9 J9 hz9 => ?_)
        obtain ⟨rfl, hI9, hJ9⟩ := hz9
        replace hI9 := hI9.symm
        subst hI9
        replace hJ9 := hJ9.symm
        subst hJ9
        refine x_aload_n (j := 3) hc dX2_drawBooks_89 rfl rfl ?_
        refine x_getR (C := RX2) (T := TX2) (NN := 5) (ci := 3) (ref := "NetPoints") hc 1 in_X2_drawBooks_3 rfl (by decide) lf_X2_drawBooks_16 (fun _ h9 => h9) hx.1 (by omega) (by decide) rfl hr1 dX2_drawBooks_90 ?_
        refine x_iload_n (j := 2) hc dX2_drawBooks_93 rfl rfl ?_
        have hM6 := BM.fin hM5 ha (k := 1) (y := i) (by decide) rfl (I (dr R x 1) 6) ((hZS 1).trans rfl)
        refine x_callV (C := RX0) (T := TX0) (NN := 15) (ci := 1) (As := [.int (nI i)]) (st := []) hc hP1.1 (by omega) (by decide) rfl (c_finish l D z e0 L K N I (u2 (u2 (u2 J4 (dr R x 0) 13 (J4 (dr R x 0) 13 + prt (J4 (dr R x 0) 13) (I (dr R x 0) 6))) (dr R (dr R x 0) 7) i (J4 (dr R x 0) 13 + prt (J4 (dr R x 0) 13) (I (dr R x 0) 6))) (dr R (dr R x 0) 8) i (J4 (dr R x 0) 14)) R 2 (dr R x 1) hP1 i hi10) gX2_drawBooks_X0_finishYear rfl hdV_X0_finishYear ⟨Nat.le_of_ble_eq_true rfl, Nat.le_of_ble_eq_true rfl⟩ rfl rfl ⟨Nat.le_of_ble_eq_true rfl, Nat.le_of_ble_eq_true rfl⟩ (Nat.le_of_ble_eq_true rfl) dX2_drawBooks_94 (fun v9 I9 J9 hz9 => ?_)
        obtain ⟨rfl, hI9, hJ9⟩ := hz9
        replace hI9 := hI9.symm
        subst hI9
        replace hJ9 := hJ9.symm
        subst hJ9
        refine x_iinc (j := 2) (v := nI (i + 1)) (lv' := [(1, .int (nI (i + 1))), (4, .long g1), (2, .long g0), (0, .ref x)]) hc dX2_drawBooks_97 rfl (nI_1 i) (by decide) rfl ?_
        refine x_goto (tgt := 16) hc dX2_drawBooks_100 (by decide) ?_
        refine x_sub [0, 3] rfl ?_
        refine ih (i + 1) _ (by omega) (hM6.cong (fun k hk => ?_) (fun k hk => ?_))
        · rcases (show k = 0 ∨ k = 1 by omega) with rfl | rfl
          · exact (hZS 0).symm
          · exact (hZS 1).symm
        · rcases (show k = 0 ∨ k = 1 by omega) with rfl | rfl <;> rfl
      refine x_iload_n (j := 0) hc dX2_drawBooks_16 rfl rfl ?_
      refine x_bipush (v := 10) hc dX2_drawBooks_17 (by decide) ?_
      refine x_icmp_ge (tgt := 103) hc dX2_drawBooks_19 (by decide) (fun q9 => absurd q9 (nI_ge hi10 (by decide))) (fun _ => ?_)
      refine x_iload_n (j := 0) hc dX2_drawBooks_22 rfl rfl ?_
      refine x_aload_n (j := 1) hc dX2_drawBooks_23 rfl rfl ?_
      refine x_getI (C := RX2) (T := TX2) (NN := 5) (ci := 3) (ref := "NetPoints") hc 4 in_X2_drawBooks_3 rfl (by decide) lf_X2_drawBooks_30 (fun _ h9 => h9) hx.1 (by omega) (by decide) rfl dX2_drawBooks_24 ?_
      refine x_vali (hx.2.2.2.2.1) ?_
      refine x_icmp_gt (tgt := 103) hc dX2_drawBooks_27 (by decide) (fun q9 => absurd q9 (nI_nlt hin (Nat.lt_of_lt_of_le hx.2.2.2.2.2.1 (by decide)))) (fun _ => ?_)
      refine x_aload_n (j := 1) hc dX2_drawBooks_30 rfl rfl ?_
      refine x_getR (C := RX2) (T := TX2) (NN := 5) (ci := 3) (ref := "NetPoints") hc 0 in_X2_drawBooks_3 rfl (by decide) lf_X2_drawBooks_10 (fun _ h9 => h9) hx.1 (by omega) (by decide) rfl hr0 dX2_drawBooks_31 ?_
      refine x_iload_n (j := 0) hc dX2_drawBooks_34 rfl rfl ?_
      have hB0 := (hM.1 0 (by decide)).1
      have hrec0 : MG l yX0_recoup wsX0_recoup rm_X0_recoup D z e0 L K N I J1 R [.ref (dr R x 0), .int (nI i)] (fun v I' J' => v = some (.long (yGain (pcon I R (dr R x 0) (nn 0)) i (Z i 0))) ∧ I' = I ∧ J' = setB J1 (dr R x 0) (yRec (pcon I R (dr R x 0) (nn 0)) i (Z i 0))) := by
        have h := c_recoup l D z e0 L K N I J1 R 1 (dr R x 0) (nn 0) hP0 hL0 i hi10
        rw [hB0] at h
        exact h
      refine x_callV (C := RX0) (T := TX0) (NN := 15) (ci := 1) (As := [.int (nI i)]) (st := []) hc hP0.1 (by omega) (by decide) rfl hrec0 gX2_drawBooks_X0_recoup rfl hdV_X0_recoup ⟨Nat.le_of_ble_eq_true rfl, Nat.le_of_ble_eq_true rfl⟩ rfl rfl ⟨Nat.le_of_ble_eq_true rfl, Nat.le_of_ble_eq_true rfl⟩ (Nat.le_of_ble_eq_true rfl) dX2_drawBooks_35 (fun v9 I9 J9 hz9 => ?_)
      obtain ⟨rfl, hI9, hJ9⟩ := hz9
      replace hI9 := hI9.symm
      subst hI9
      replace hJ9 := hJ9.symm
      subst hJ9
      refine x_lstore_n (lv' := [(2, .long (yGain (pcon I R (dr R x 0) (nn 0)) i (Z i 0))), (1, .int (nI i)), (0, .ref x)]) hc dX2_drawBooks_38 rfl (by decide) rfl ?_
      refine x_aload_n (j := 2) hc dX2_drawBooks_39 rfl rfl ?_
      refine x_getR (C := RX2) (T := TX2) (NN := 5) (ci := 3) (ref := "NetPoints") hc 1 in_X2_drawBooks_3 rfl (by decide) lf_X2_drawBooks_16 (fun _ h9 => h9) hx.1 (by omega) (by decide) rfl hr1 dX2_drawBooks_40 ?_
      refine x_iload_n (j := 1) hc dX2_drawBooks_43 rfl rfl ?_
      have hM2 := hM.set ha (show 0 < 2 by decide) (yRec (pcon I R (dr R x 0) (nn 0)) i (Z i 0))
      have hB1 := (hM2.1 1 (by decide)).1.trans (if_neg (by decide))
      have hrec1 : MG l yX0_recoup wsX0_recoup rm_X0_recoup D z e0 L K N I (setB J1 (dr R x 0) (yRec (pcon I R (dr R x 0) (nn 0)) i (Z i 0))) R [.ref (dr R x 1), .int (nI i)] (fun v I' J' => v = some (.long (yGain (pcon I R (dr R x 1) (nn 1)) i (Z i 1))) ∧ I' = I ∧ J' = setB (setB J1 (dr R x 0) (yRec (pcon I R (dr R x 0) (nn 0)) i (Z i 0))) (dr R x 1) (yRec (pcon I R (dr R x 1) (nn 1)) i (Z i 1))) := by
        have h := c_recoup l D z e0 L K N I (setB J1 (dr R x 0) (yRec (pcon I R (dr R x 0) (nn 0)) i (Z i 0))) R 2 (dr R x 1) (nn 1) hP1 hL1 i hi10
        rw [hB1] at h
        exact h
      have hM3 := hM2.set ha (show 1 < 2 by decide) (yRec (pcon I R (dr R x 1) (nn 1)) i (Z i 1))
      refine x_callV (C := RX0) (T := TX0) (NN := 15) (ci := 1) (As := [.int (nI i)]) (st := []) hc hP1.1 (by omega) (by decide) rfl hrec1 gX2_drawBooks_X0_recoup rfl hdV_X0_recoup ⟨Nat.le_of_ble_eq_true rfl, Nat.le_of_ble_eq_true rfl⟩ rfl rfl ⟨Nat.le_of_ble_eq_true rfl, Nat.le_of_ble_eq_true rfl⟩ (Nat.le_of_ble_eq_true rfl) dX2_drawBooks_44 (fun v9 I9 J9 hz9 => ?_)
      obtain ⟨rfl, hI9, hJ9⟩ := hz9
      replace hI9 := hI9.symm
      subst hI9
      replace hJ9 := hJ9.symm
      subst hJ9
      refine x_lstore (lv' := [(4, .long (yGain (pcon I R (dr R x 1) (nn 1)) i (Z i 1))), (2, .long (yGain (pcon I R (dr R x 0) (nn 0)) i (Z i 0))), (1, .int (nI i)), (0, .ref x)]) hc dX2_drawBooks_47 (by decide) rfl ?_
      refine x_aload_n (j := 3) hc dX2_drawBooks_49 rfl rfl ?_
      refine x_getI (C := RX2) (T := TX2) (NN := 5) (ci := 3) (ref := "NetPoints") hc 3 in_X2_drawBooks_3 rfl (by decide) lf_X2_drawBooks_26 (fun _ h9 => h9) hx.1 (by omega) (by decide) rfl dX2_drawBooks_50 ?_
      refine x_if_eq (tgt := 81) hc dX2_drawBooks_53 (by decide) (fun q1 => ?_) (fun q1 => ?_)
      · refine x_sub [0, 1, 2, 3] rfl ?_
        exact htail _ _ _ (hM3.cong (fun k hk => by rw [hS]; rcases (show k = 0 ∨ k = 1 by omega) with rfl | rfl <;> exact (if_pos q1).symm) (fun k hk => rfl))
      · refine x_aload_n (j := 3) hc dX2_drawBooks_56 rfl rfl ?_
        refine x_getR (C := RX2) (T := TX2) (NN := 5) (ci := 3) (ref := "NetPoints") hc 0 in_X2_drawBooks_3 rfl (by decide) lf_X2_drawBooks_10 (fun _ h9 => h9) hx.1 (by omega) (by decide) rfl hr0 dX2_drawBooks_57 ?_
        refine x_lload_n (j := 1) hc dX2_drawBooks_60 rfl rfl ?_
        refine x_aload_n (j := 3) hc dX2_drawBooks_61 rfl rfl ?_
        refine x_getR (C := RX2) (T := TX2) (NN := 5) (ci := 3) (ref := "NetPoints") hc 1 in_X2_drawBooks_3 rfl (by decide) lf_X2_drawBooks_16 (fun _ h9 => h9) hx.1 (by omega) (by decide) rfl hr1 dX2_drawBooks_62 ?_
        have hMc := hM3.cong (S' := fun k => yRec (pcon I R (dr R x k) (nn k)) i (Z i k)) (mm' := fun _ => i) (fun k hk => by rcases (show k = 0 ∨ k = 1 by omega) with rfl | rfl <;> rfl) (fun k hk => rfl)
        have hM7 := BM.move hMc ha (f := 0) (t := 1) (by decide) (by decide) (by decide) (yGain (pcon I R (dr R x 0) (nn 0)) i (Z i 0))
        refine x_callV (C := RX0) (T := TX0) (NN := 15) (ci := 1) (As := [.long (yGain (pcon I R (dr R x 0) (nn 0)) i (Z i 0)), .ref (dr R x 1)]) (st := []) hc hP0.1 (by omega) (by decide) rfl (c_move l D z e0 L K N I (setB (setB J1 (dr R x 0) (yRec (pcon I R (dr R x 0) (nn 0)) i (Z i 0))) (dr R x 1) (yRec (pcon I R (dr R x 1) (nn 1)) i (Z i 1))) R 1 (dr R x 0) 2 (dr R x 1) hP0.1 hP1.1 (by decide) (yGain (pcon I R (dr R x 0) (nn 0)) i (Z i 0))) gX2_drawBooks_X0_moveGain rfl hdV_X0_moveGain ⟨Nat.le_of_ble_eq_true rfl, Nat.le_of_ble_eq_true rfl⟩ rfl rfl ⟨Nat.le_of_ble_eq_true rfl, Nat.le_of_ble_eq_true rfl⟩ (Nat.le_of_ble_eq_true rfl) dX2_drawBooks_65 (fun v9 I9 J9 hz9 => ?_)
        obtain ⟨rfl, hI9, hJ9⟩ := hz9
        replace hI9 := hI9.symm
        subst hI9
        replace hJ9 := hJ9.symm
        subst hJ9
        refine x_aload_n (j := 3) hc dX2_drawBooks_68 rfl rfl ?_
        refine x_getR (C := RX2) (T := TX2) (NN := 5) (ci := 3) (ref := "NetPoints") hc 1 in_X2_drawBooks_3 rfl (by decide) lf_X2_drawBooks_16 (fun _ h9 => h9) hx.1 (by omega) (by decide) rfl hr1 dX2_drawBooks_69 ?_
        refine x_lload (j := 0) hc dX2_drawBooks_72 rfl ?_
        refine x_aload_n (j := 3) hc dX2_drawBooks_74 rfl rfl ?_
        refine x_getR (C := RX2) (T := TX2) (NN := 5) (ci := 3) (ref := "NetPoints") hc 0 in_X2_drawBooks_3 rfl (by decide) lf_X2_drawBooks_10 (fun _ h9 => h9) hx.1 (by omega) (by decide) rfl hr0 dX2_drawBooks_75 ?_
        have hM8 := BM.move hM7 ha (f := 1) (t := 0) (by decide) (by decide) (by decide) (yGain (pcon I R (dr R x 1) (nn 1)) i (Z i 1))
        refine x_callV (C := RX0) (T := TX0) (NN := 15) (ci := 1) (As := [.long (yGain (pcon I R (dr R x 1) (nn 1)) i (Z i 1)), .ref (dr R x 0)]) (st := []) hc hP1.1 (by omega) (by decide) rfl (c_move l D z e0 L K N I (u2 (u2 (setB (setB J1 (dr R x 0) (yRec (pcon I R (dr R x 0) (nn 0)) i (Z i 0))) (dr R x 1) (yRec (pcon I R (dr R x 1) (nn 1)) i (Z i 1))) (dr R x 0) 14 ((setB (setB J1 (dr R x 0) (yRec (pcon I R (dr R x 0) (nn 0)) i (Z i 0))) (dr R x 1) (yRec (pcon I R (dr R x 1) (nn 1)) i (Z i 1))) (dr R x 0) 14 - mn (yGain (pcon I R (dr R x 0) (nn 0)) i (Z i 0)) ((setB (setB J1 (dr R x 0) (yRec (pcon I R (dr R x 0) (nn 0)) i (Z i 0))) (dr R x 1) (yRec (pcon I R (dr R x 1) (nn 1)) i (Z i 1))) (dr R x 1) 13))) (dr R x 1) 13 ((setB (setB J1 (dr R x 0) (yRec (pcon I R (dr R x 0) (nn 0)) i (Z i 0))) (dr R x 1) (yRec (pcon I R (dr R x 1) (nn 1)) i (Z i 1))) (dr R x 1) 13 - mn (yGain (pcon I R (dr R x 0) (nn 0)) i (Z i 0)) ((setB (setB J1 (dr R x 0) (yRec (pcon I R (dr R x 0) (nn 0)) i (Z i 0))) (dr R x 1) (yRec (pcon I R (dr R x 1) (nn 1)) i (Z i 1))) (dr R x 1) 13))) R 2 (dr R x 1) 1 (dr R x 0) hP1.1 hP0.1 (by decide) (yGain (pcon I R (dr R x 1) (nn 1)) i (Z i 1))) gX2_drawBooks_X0_moveGain rfl hdV_X0_moveGain ⟨Nat.le_of_ble_eq_true rfl, Nat.le_of_ble_eq_true rfl⟩ rfl rfl ⟨Nat.le_of_ble_eq_true rfl, Nat.le_of_ble_eq_true rfl⟩ (Nat.le_of_ble_eq_true rfl) dX2_drawBooks_78 (fun v9 I9 J9 hz9 => ?_)
        obtain ⟨rfl, hI9, hJ9⟩ := hz9
        replace hI9 := hI9.symm
        subst hI9
        replace hJ9 := hJ9.symm
        subst hJ9
        refine x_sub [0, 1, 2, 3] rfl ?_
        exact htail _ _ _ (hM8.cong (fun k hk => by rw [hS]; exact (if_neg q1).symm) (fun k hk => rfl))
  refine hloop (now + 1) 0 _ (by omega) ?_
  have hs := BM.start (J := J) ha Z
  refine hs.cong (fun k hk => ?_) (fun k hk => rfl)
  rw [hZ]; rfl
abbrev rm_X2_gross : Room := { frames := 7, cells := 0, slots := 0, locals := 144 }
set_option maxHeartbeats 4000000 in
set_option maxRecDepth 100000 in
theorem c_gross (l : Launch) (D : va_G) (z e0 : Nat) (L : List Nat) (K N : Nat → Nat) (I : Nat → Nat → Int32) (J : Nat → Nat → Int64) (R : Nat → Nat → Option Nat) (x now n : Nat) (nn : Nat → Nat) (hx : Cls L K N I R x now n nn) (k : Nat) (hk : k < 2) : MG l yX2_gross wsX2_gross rm_X2_gross D z e0 L K N I J R [.ref x, .int (nI k)] (fun v I' J' => v = some (.int (Int64.toInt32 (((yRun (I x 3) (fun k => pcon I R (dr R x k) (nn k))) (now + 1)) k).1)) ∧ I' = I ∧ BM R x J J' (yRun (I x 3) (fun k => pcon I R (dr R x k) (nn k))) ((yRun (I x 3) (fun k => pcon I R (dr R x k) (nn k))) (now + 1)) (fun _ => now + 1)) := by
  refine mg_of (own := RX2) (maxL := 2) (ret := (some .int)) (by decide +kernel) rfl rfl (Nat.le_of_ble_eq_true rfl) ?_
  intro pg ev s mi args below meth c hc hr
  refine x_iload_n (j := 1) hc dX2_gross_0 rfl rfl ?_
  refine x_callS (As := [.int (nI k)]) (st := []) hc (c_reqPic l D z e0 L K N I J R k hk) gX2_gross_X2_requirePicture rfl hdS_X2_requirePicture ⟨Nat.le_of_ble_eq_true rfl, Nat.le_of_ble_eq_true rfl⟩ rfl rfl ⟨Nat.le_of_ble_eq_true rfl, Nat.le_of_ble_eq_true rfl⟩ (Nat.le_of_ble_eq_true rfl) dX2_gross_1 (fun v9 I9 J9 hz9 => ?_)
  obtain ⟨rfl, hI9, hJ9⟩ := hz9
  replace hI9 := hI9.symm
  subst hI9
  replace hJ9 := hJ9.symm
  subst hJ9
  refine x_aload_n (j := 0) hc dX2_gross_4 rfl rfl ?_
  refine x_callV (C := RX2) (T := TX2) (NN := 5) (ci := 3) (As := []) (st := []) hc hx.1 (by omega) (by decide) rfl (c_drawBooks l D z e0 L K N I J R x now n nn hx) gX2_gross_X2_drawBooks rfl hdV_X2_drawBooks ⟨Nat.le_of_ble_eq_true rfl, Nat.le_of_ble_eq_true rfl⟩ rfl rfl ⟨Nat.le_of_ble_eq_true rfl, Nat.le_of_ble_eq_true rfl⟩ (Nat.le_of_ble_eq_true rfl) dX2_gross_5 (fun v9 I9 J9 hz9 => ?_)
  obtain ⟨rfl, hI9, hM⟩ := hz9
  replace hI9 := hI9.symm
  subst hI9
  refine x_aload_n (j := 0) hc dX2_gross_8 rfl rfl ?_
  refine x_iload_n (j := 1) hc dX2_gross_9 rfl rfl ?_
  obtain ⟨hp0, hp1, hp2, hp3, hp4, hp5, hp6, hp7, hp8, hp9, hp10, hp11, hp12⟩ := (hx.2.1 k hk).2.1
  refine x_callV (C := RX2) (T := TX2) (NN := 5) (ci := 3) (As := [.int (nI k)]) (st := []) hc hx.1 (by omega) (by decide) rfl (c_picOf l D z e0 L K N I J9 R x k hx.1 hk (hx.2.1 k hk).1) gX2_gross_X2_pictureOf rfl hdV_X2_pictureOf ⟨Nat.le_of_ble_eq_true rfl, Nat.le_of_ble_eq_true rfl⟩ rfl rfl ⟨Nat.le_of_ble_eq_true rfl, Nat.le_of_ble_eq_true rfl⟩ (Nat.le_of_ble_eq_true rfl) dX2_gross_10 (fun v9 I9 J9 hz9 => ?_)
  obtain ⟨rfl, hI9, hJ9⟩ := hz9
  replace hI9 := hI9.symm
  subst hI9
  replace hJ9 := hJ9.symm
  subst hJ9
  refine x_getJ (C := RX0) (T := TX0) (NN := 15) (ci := 1) (ref := "NetPoints$Picture") hc 9 in_X2_gross_1 rfl (by decide) lf_X2_gross_128 (fun _ h9 => h9) hp0 (by omega) (by decide) rfl dX2_gross_13 ?_
  refine x_vall ((getB_eq (hM.1 k hk).1).1) ?_
  refine x_l2i hc dX2_gross_16 ?_
  exact x_iret hc hr (by decide) (by decide) dX2_gross_17 (⟨rfl, rfl, hM⟩)
abbrev rm_X2_adjusted : Room := { frames := 7, cells := 0, slots := 0, locals := 144 }
set_option maxHeartbeats 4000000 in
set_option maxRecDepth 100000 in
theorem c_adjusted (l : Launch) (D : va_G) (z e0 : Nat) (L : List Nat) (K N : Nat → Nat) (I : Nat → Nat → Int32) (J : Nat → Nat → Int64) (R : Nat → Nat → Option Nat) (x now n : Nat) (nn : Nat → Nat) (hx : Cls L K N I R x now n nn) (k : Nat) (hk : k < 2) : MG l yX2_adjusted wsX2_adjusted rm_X2_adjusted D z e0 L K N I J R [.ref x, .int (nI k)] (fun v I' J' => v = some (.int (Int64.toInt32 (((yRun (I x 3) (fun k => pcon I R (dr R x k) (nn k))) (now + 1)) k).2.1)) ∧ I' = I ∧ BM R x J J' (yRun (I x 3) (fun k => pcon I R (dr R x k) (nn k))) ((yRun (I x 3) (fun k => pcon I R (dr R x k) (nn k))) (now + 1)) (fun _ => now + 1)) := by
  refine mg_of (own := RX2) (maxL := 2) (ret := (some .int)) (by decide +kernel) rfl rfl (Nat.le_of_ble_eq_true rfl) ?_
  intro pg ev s mi args below meth c hc hr
  refine x_iload_n (j := 1) hc dX2_adjusted_0 rfl rfl ?_
  refine x_callS (As := [.int (nI k)]) (st := []) hc (c_reqPic l D z e0 L K N I J R k hk) gX2_adjusted_X2_requirePicture rfl hdS_X2_requirePicture ⟨Nat.le_of_ble_eq_true rfl, Nat.le_of_ble_eq_true rfl⟩ rfl rfl ⟨Nat.le_of_ble_eq_true rfl, Nat.le_of_ble_eq_true rfl⟩ (Nat.le_of_ble_eq_true rfl) dX2_adjusted_1 (fun v9 I9 J9 hz9 => ?_)
  obtain ⟨rfl, hI9, hJ9⟩ := hz9
  replace hI9 := hI9.symm
  subst hI9
  replace hJ9 := hJ9.symm
  subst hJ9
  refine x_aload_n (j := 0) hc dX2_adjusted_4 rfl rfl ?_
  refine x_callV (C := RX2) (T := TX2) (NN := 5) (ci := 3) (As := []) (st := []) hc hx.1 (by omega) (by decide) rfl (c_drawBooks l D z e0 L K N I J R x now n nn hx) gX2_adjusted_X2_drawBooks rfl hdV_X2_drawBooks ⟨Nat.le_of_ble_eq_true rfl, Nat.le_of_ble_eq_true rfl⟩ rfl rfl ⟨Nat.le_of_ble_eq_true rfl, Nat.le_of_ble_eq_true rfl⟩ (Nat.le_of_ble_eq_true rfl) dX2_adjusted_5 (fun v9 I9 J9 hz9 => ?_)
  obtain ⟨rfl, hI9, hM⟩ := hz9
  replace hI9 := hI9.symm
  subst hI9
  refine x_aload_n (j := 0) hc dX2_adjusted_8 rfl rfl ?_
  refine x_iload_n (j := 1) hc dX2_adjusted_9 rfl rfl ?_
  obtain ⟨hp0, hp1, hp2, hp3, hp4, hp5, hp6, hp7, hp8, hp9, hp10, hp11, hp12⟩ := (hx.2.1 k hk).2.1
  refine x_callV (C := RX2) (T := TX2) (NN := 5) (ci := 3) (As := [.int (nI k)]) (st := []) hc hx.1 (by omega) (by decide) rfl (c_picOf l D z e0 L K N I J9 R x k hx.1 hk (hx.2.1 k hk).1) gX2_adjusted_X2_pictureOf rfl hdV_X2_pictureOf ⟨Nat.le_of_ble_eq_true rfl, Nat.le_of_ble_eq_true rfl⟩ rfl rfl ⟨Nat.le_of_ble_eq_true rfl, Nat.le_of_ble_eq_true rfl⟩ (Nat.le_of_ble_eq_true rfl) dX2_adjusted_10 (fun v9 I9 J9 hz9 => ?_)
  obtain ⟨rfl, hI9, hJ9⟩ := hz9
  replace hI9 := hI9.symm
  subst hI9
  replace hJ9 := hJ9.symm
  subst hJ9
  refine x_getJ (C := RX0) (T := TX0) (NN := 15) (ci := 1) (ref := "NetPoints$Picture") hc 10 in_X2_adjusted_1 rfl (by decide) lf_X2_adjusted_131 (fun _ h9 => h9) hp0 (by omega) (by decide) rfl dX2_adjusted_13 ?_
  refine x_vall ((getB_eq (hM.1 k hk).1).2.1) ?_
  refine x_l2i hc dX2_adjusted_16 ?_
  exact x_iret hc hr (by decide) (by decide) dX2_adjusted_17 (⟨rfl, rfl, hM⟩)
abbrev rm_X2_fees : Room := { frames := 7, cells := 0, slots := 0, locals := 144 }
set_option maxHeartbeats 4000000 in
set_option maxRecDepth 100000 in
theorem c_fees (l : Launch) (D : va_G) (z e0 : Nat) (L : List Nat) (K N : Nat → Nat) (I : Nat → Nat → Int32) (J : Nat → Nat → Int64) (R : Nat → Nat → Option Nat) (x now n : Nat) (nn : Nat → Nat) (hx : Cls L K N I R x now n nn) (k : Nat) (hk : k < 2) : MG l yX2_fees wsX2_fees rm_X2_fees D z e0 L K N I J R [.ref x, .int (nI k)] (fun v I' J' => v = some (.int (Int64.toInt32 (((yRun (I x 3) (fun k => pcon I R (dr R x k) (nn k))) (now + 1)) k).2.2.1)) ∧ I' = I ∧ BM R x J J' (yRun (I x 3) (fun k => pcon I R (dr R x k) (nn k))) ((yRun (I x 3) (fun k => pcon I R (dr R x k) (nn k))) (now + 1)) (fun _ => now + 1)) := by
  refine mg_of (own := RX2) (maxL := 2) (ret := (some .int)) (by decide +kernel) rfl rfl (Nat.le_of_ble_eq_true rfl) ?_
  intro pg ev s mi args below meth c hc hr
  refine x_iload_n (j := 1) hc dX2_fees_0 rfl rfl ?_
  refine x_callS (As := [.int (nI k)]) (st := []) hc (c_reqPic l D z e0 L K N I J R k hk) gX2_fees_X2_requirePicture rfl hdS_X2_requirePicture ⟨Nat.le_of_ble_eq_true rfl, Nat.le_of_ble_eq_true rfl⟩ rfl rfl ⟨Nat.le_of_ble_eq_true rfl, Nat.le_of_ble_eq_true rfl⟩ (Nat.le_of_ble_eq_true rfl) dX2_fees_1 (fun v9 I9 J9 hz9 => ?_)
  obtain ⟨rfl, hI9, hJ9⟩ := hz9
  replace hI9 := hI9.symm
  subst hI9
  replace hJ9 := hJ9.symm
  subst hJ9
  refine x_aload_n (j := 0) hc dX2_fees_4 rfl rfl ?_
  refine x_callV (C := RX2) (T := TX2) (NN := 5) (ci := 3) (As := []) (st := []) hc hx.1 (by omega) (by decide) rfl (c_drawBooks l D z e0 L K N I J R x now n nn hx) gX2_fees_X2_drawBooks rfl hdV_X2_drawBooks ⟨Nat.le_of_ble_eq_true rfl, Nat.le_of_ble_eq_true rfl⟩ rfl rfl ⟨Nat.le_of_ble_eq_true rfl, Nat.le_of_ble_eq_true rfl⟩ (Nat.le_of_ble_eq_true rfl) dX2_fees_5 (fun v9 I9 J9 hz9 => ?_)
  obtain ⟨rfl, hI9, hM⟩ := hz9
  replace hI9 := hI9.symm
  subst hI9
  refine x_aload_n (j := 0) hc dX2_fees_8 rfl rfl ?_
  refine x_iload_n (j := 1) hc dX2_fees_9 rfl rfl ?_
  obtain ⟨hp0, hp1, hp2, hp3, hp4, hp5, hp6, hp7, hp8, hp9, hp10, hp11, hp12⟩ := (hx.2.1 k hk).2.1
  refine x_callV (C := RX2) (T := TX2) (NN := 5) (ci := 3) (As := [.int (nI k)]) (st := []) hc hx.1 (by omega) (by decide) rfl (c_picOf l D z e0 L K N I J9 R x k hx.1 hk (hx.2.1 k hk).1) gX2_fees_X2_pictureOf rfl hdV_X2_pictureOf ⟨Nat.le_of_ble_eq_true rfl, Nat.le_of_ble_eq_true rfl⟩ rfl rfl ⟨Nat.le_of_ble_eq_true rfl, Nat.le_of_ble_eq_true rfl⟩ (Nat.le_of_ble_eq_true rfl) dX2_fees_10 (fun v9 I9 J9 hz9 => ?_)
  obtain ⟨rfl, hI9, hJ9⟩ := hz9
  replace hI9 := hI9.symm
  subst hI9
  replace hJ9 := hJ9.symm
  subst hJ9
  refine x_getJ (C := RX0) (T := TX0) (NN := 15) (ci := 1) (ref := "NetPoints$Picture") hc 11 in_X2_fees_1 rfl (by decide) lf_X2_fees_134 (fun _ h9 => h9) hp0 (by omega) (by decide) rfl dX2_fees_13 ?_
  refine x_vall ((getB_eq (hM.1 k hk).1).2.2.1) ?_
  refine x_l2i hc dX2_fees_16 ?_
  exact x_iret hc hr (by decide) (by decide) dX2_fees_17 (⟨rfl, rfl, hM⟩)
abbrev rm_X2_pool : Room := { frames := 7, cells := 0, slots := 0, locals := 144 }
set_option maxHeartbeats 4000000 in
set_option maxRecDepth 100000 in
theorem c_poolP (l : Launch) (D : va_G) (z e0 : Nat) (L : List Nat) (K N : Nat → Nat) (I : Nat → Nat → Int32) (J : Nat → Nat → Int64) (R : Nat → Nat → Option Nat) (x now n : Nat) (nn : Nat → Nat) (hx : Cls L K N I R x now n nn) (k : Nat) (hk : k < 2) : MG l yX2_pool wsX2_pool rm_X2_pool D z e0 L K N I J R [.ref x, .int (nI k)] (fun v I' J' => v = some (.int (Int64.toInt32 (leftN (((yRun (I x 3) (fun k => pcon I R (dr R x k) (nn k))) (now + 1)) k).2.2.2.2.2 (fun i => shV I (shA R (dr R (dr R x k) 3) i)) (nn k)))) ∧ I' = I ∧ BM R x J J' (yRun (I x 3) (fun k => pcon I R (dr R x k) (nn k))) ((yRun (I x 3) (fun k => pcon I R (dr R x k) (nn k))) (now + 1)) (fun _ => now + 1)) := by
  refine mg_of (own := RX2) (maxL := 2) (ret := (some .int)) (by decide +kernel) rfl rfl (Nat.le_of_ble_eq_true rfl) ?_
  intro pg ev s mi args below meth c hc hr
  refine x_iload_n (j := 1) hc dX2_pool_0 rfl rfl ?_
  refine x_callS (As := [.int (nI k)]) (st := []) hc (c_reqPic l D z e0 L K N I J R k hk) gX2_pool_X2_requirePicture rfl hdS_X2_requirePicture ⟨Nat.le_of_ble_eq_true rfl, Nat.le_of_ble_eq_true rfl⟩ rfl rfl ⟨Nat.le_of_ble_eq_true rfl, Nat.le_of_ble_eq_true rfl⟩ (Nat.le_of_ble_eq_true rfl) dX2_pool_1 (fun v9 I9 J9 hz9 => ?_)
  obtain ⟨rfl, hI9, hJ9⟩ := hz9
  replace hI9 := hI9.symm
  subst hI9
  replace hJ9 := hJ9.symm
  subst hJ9
  refine x_aload_n (j := 0) hc dX2_pool_4 rfl rfl ?_
  refine x_callV (C := RX2) (T := TX2) (NN := 5) (ci := 3) (As := []) (st := []) hc hx.1 (by omega) (by decide) rfl (c_drawBooks l D z e0 L K N I J R x now n nn hx) gX2_pool_X2_drawBooks rfl hdV_X2_drawBooks ⟨Nat.le_of_ble_eq_true rfl, Nat.le_of_ble_eq_true rfl⟩ rfl rfl ⟨Nat.le_of_ble_eq_true rfl, Nat.le_of_ble_eq_true rfl⟩ (Nat.le_of_ble_eq_true rfl) dX2_pool_5 (fun v9 I9 J9 hz9 => ?_)
  obtain ⟨rfl, hI9, hM⟩ := hz9
  replace hI9 := hI9.symm
  subst hI9
  refine x_aload_n (j := 0) hc dX2_pool_8 rfl rfl ?_
  refine x_iload_n (j := 1) hc dX2_pool_9 rfl rfl ?_
  obtain ⟨hp0, hp1, hp2, hp3, hp4, hp5, hp6, hp7, hp8, hp9, hp10, hp11, hp12⟩ := (hx.2.1 k hk).2.1
  refine x_callV (C := RX2) (T := TX2) (NN := 5) (ci := 3) (As := [.int (nI k)]) (st := []) hc hx.1 (by omega) (by decide) rfl (c_picOf l D z e0 L K N I J9 R x k hx.1 hk (hx.2.1 k hk).1) gX2_pool_X2_pictureOf rfl hdV_X2_pictureOf ⟨Nat.le_of_ble_eq_true rfl, Nat.le_of_ble_eq_true rfl⟩ rfl rfl ⟨Nat.le_of_ble_eq_true rfl, Nat.le_of_ble_eq_true rfl⟩ (Nat.le_of_ble_eq_true rfl) dX2_pool_10 (fun v9 I9 J9 hz9 => ?_)
  obtain ⟨rfl, hI9, hJ9⟩ := hz9
  replace hI9 := hI9.symm
  subst hI9
  replace hJ9 := hJ9.symm
  subst hJ9
  have e14 := (getB_eq (hM.1 k hk).1).2.2.2.2.2
  have hpl := c_pool l D z e0 L K N I J9 R (k + 1) (dr R x k) (nn k) (hx.2.1 k hk).2.1 (hx.2.1 k hk).2.2
  rw [e14] at hpl
  refine x_callV (C := RX0) (T := TX0) (NN := 15) (ci := 1) (As := []) (st := []) hc hp0 (by omega) (by decide) rfl hpl gX2_pool_X0_poolDrawn rfl hdV_X0_poolDrawn ⟨Nat.le_of_ble_eq_true rfl, Nat.le_of_ble_eq_true rfl⟩ rfl rfl ⟨Nat.le_of_ble_eq_true rfl, Nat.le_of_ble_eq_true rfl⟩ (Nat.le_of_ble_eq_true rfl) dX2_pool_13 (fun v9 I9 J9 hz9 => ?_)
  obtain ⟨rfl, hI9, hJ9⟩ := hz9
  replace hI9 := hI9.symm
  subst hI9
  replace hJ9 := hJ9.symm
  subst hJ9
  refine x_l2i hc dX2_pool_16 ?_
  exact x_iret hc hr (by decide) (by decide) dX2_pool_17 (⟨rfl, rfl, hM⟩)
abbrev rm_X2_balance : Room := { frames := 7, cells := 0, slots := 0, locals := 144 }
set_option maxHeartbeats 4000000 in
set_option maxRecDepth 100000 in
theorem c_balance (l : Launch) (D : va_G) (z e0 : Nat) (L : List Nat) (K N : Nat → Nat) (I : Nat → Nat → Int32) (J : Nat → Nat → Int64) (R : Nat → Nat → Option Nat) (x now n : Nat) (nn : Nat → Nat) (hx : Cls L K N I R x now n nn) (k : Nat) (hk : k < 2) (y : Nat) (hy : y ≤ now) : MG l yX2_balance wsX2_balance rm_X2_balance D z e0 L K N I J R [.ref x, .int (nI k), .int (nI y)] (fun v I' J' => v = some (.int (Int64.toInt32 ((yRun (I x 3) (fun k => pcon I R (dr R x k) (nn k))) (y + 1) k).2.2.2.2.1)) ∧ I' = I ∧ BM R x J J' (yRun (I x 3) (fun k => pcon I R (dr R x k) (nn k))) ((yRun (I x 3) (fun k => pcon I R (dr R x k) (nn k))) (now + 1)) (fun _ => now + 1)) := by
  refine mg_of (own := RX2) (maxL := 3) (ret := (some .int)) (by decide +kernel) rfl rfl (Nat.le_of_ble_eq_true rfl) ?_
  intro pg ev s mi args below meth c hc hr
  refine x_iload_n (j := 1) hc dX2_balance_0 rfl rfl ?_
  refine x_callS (As := [.int (nI k)]) (st := []) hc (c_reqPic l D z e0 L K N I J R k hk) gX2_balance_X2_requirePicture rfl hdS_X2_requirePicture ⟨Nat.le_of_ble_eq_true rfl, Nat.le_of_ble_eq_true rfl⟩ rfl rfl ⟨Nat.le_of_ble_eq_true rfl, Nat.le_of_ble_eq_true rfl⟩ (Nat.le_of_ble_eq_true rfl) dX2_balance_1 (fun v9 I9 J9 hz9 => ?_)
  obtain ⟨rfl, hI9, hJ9⟩ := hz9
  replace hI9 := hI9.symm
  subst hI9
  replace hJ9 := hJ9.symm
  subst hJ9
  refine x_iload_n (j := 2) hc dX2_balance_4 rfl rfl ?_
  refine x_iconst (v := 0) hc dX2_balance_5 (by decide) ?_
  refine x_aload_n (j := 0) hc dX2_balance_6 rfl rfl ?_
  refine x_getI (C := RX2) (T := TX2) (NN := 5) (ci := 3) (ref := "NetPoints") hc 4 in_X2_balance_3 rfl (by decide) lf_X2_balance_30 (fun _ h9 => h9) hx.1 (by omega) (by decide) rfl dX2_balance_7 ?_
  refine x_vali (hx.2.2.2.2.1) ?_
  refine x_callS (As := [.int (nI y), .int 0, .int (nI now)]) (st := []) hc (c_reqRange l D z e0 L K N I J R (nI y) 0 (nI now) (nI_pos' (Nat.lt_of_le_of_lt hy (Nat.lt_of_lt_of_le hx.2.2.2.2.2.1 (by decide)))) (nI_le hy (Nat.lt_of_lt_of_le hx.2.2.2.2.2.1 (by decide)))) gX2_balance_X2_requireRange rfl hdS_X2_requireRange ⟨Nat.le_of_ble_eq_true rfl, Nat.le_of_ble_eq_true rfl⟩ rfl rfl ⟨Nat.le_of_ble_eq_true rfl, Nat.le_of_ble_eq_true rfl⟩ (Nat.le_of_ble_eq_true rfl) dX2_balance_10 (fun v9 I9 J9 hz9 => ?_)
  obtain ⟨rfl, hI9, hJ9⟩ := hz9
  replace hI9 := hI9.symm
  subst hI9
  replace hJ9 := hJ9.symm
  subst hJ9
  refine x_aload_n (j := 0) hc dX2_balance_13 rfl rfl ?_
  refine x_callV (C := RX2) (T := TX2) (NN := 5) (ci := 3) (As := []) (st := []) hc hx.1 (by omega) (by decide) rfl (c_drawBooks l D z e0 L K N I J R x now n nn hx) gX2_balance_X2_drawBooks rfl hdV_X2_drawBooks ⟨Nat.le_of_ble_eq_true rfl, Nat.le_of_ble_eq_true rfl⟩ rfl rfl ⟨Nat.le_of_ble_eq_true rfl, Nat.le_of_ble_eq_true rfl⟩ (Nat.le_of_ble_eq_true rfl) dX2_balance_14 (fun v9 I9 J9 hz9 => ?_)
  obtain ⟨rfl, hI9, hM⟩ := hz9
  replace hI9 := hI9.symm
  subst hI9
  refine x_aload_n (j := 0) hc dX2_balance_17 rfl rfl ?_
  refine x_iload_n (j := 1) hc dX2_balance_18 rfl rfl ?_
  obtain ⟨hp0, hp1, hp2, hp3, hp4, hp5, hp6, hp7, hp8, hp9, hp10, hp11, hp12⟩ := (hx.2.1 k hk).2.1
  refine x_callV (C := RX2) (T := TX2) (NN := 5) (ci := 3) (As := [.int (nI k)]) (st := []) hc hx.1 (by omega) (by decide) rfl (c_picOf l D z e0 L K N I J9 R x k hx.1 hk (hx.2.1 k hk).1) gX2_balance_X2_pictureOf rfl hdV_X2_pictureOf ⟨Nat.le_of_ble_eq_true rfl, Nat.le_of_ble_eq_true rfl⟩ rfl rfl ⟨Nat.le_of_ble_eq_true rfl, Nat.le_of_ble_eq_true rfl⟩ (Nat.le_of_ble_eq_true rfl) dX2_balance_19 (fun v9 I9 J9 hz9 => ?_)
  obtain ⟨rfl, hI9, hJ9⟩ := hz9
  replace hI9 := hI9.symm
  subst hI9
  replace hJ9 := hJ9.symm
  subst hJ9
  refine x_getR (C := RX0) (T := TX0) (NN := 15) (ci := 1) (ref := "NetPoints$Picture") hc 7 in_X2_balance_1 rfl (by decide) lf_X2_balance_137 (fun _ h9 => h9) hp0 (by omega) (by decide) rfl hp9 dX2_balance_22 ?_
  refine x_iload_n (j := 2) hc dX2_balance_25 rfl rfl ?_
  refine x_lald hc hp10 (by decide) rfl (Nat.lt_of_le_of_lt hy hx.2.2.2.2.2.1) (by omega) dX2_balance_26 ?_
  refine x_vall (((hM.1 k hk).2 y (Nat.lt_succ_of_le hy)).1) ?_
  refine x_l2i hc dX2_balance_27 ?_
  exact x_iret hc hr (by decide) (by decide) dX2_balance_28 (⟨rfl, rfl, hM⟩)
abbrev rm_X2_profit : Room := { frames := 7, cells := 0, slots := 0, locals := 144 }
set_option maxHeartbeats 4000000 in
set_option maxRecDepth 100000 in
theorem c_profit (l : Launch) (D : va_G) (z e0 : Nat) (L : List Nat) (K N : Nat → Nat) (I : Nat → Nat → Int32) (J : Nat → Nat → Int64) (R : Nat → Nat → Option Nat) (x now n : Nat) (nn : Nat → Nat) (hx : Cls L K N I R x now n nn) (k : Nat) (hk : k < 2) (y : Nat) (hy : y ≤ now) : MG l yX2_profit wsX2_profit rm_X2_profit D z e0 L K N I J R [.ref x, .int (nI k), .int (nI y)] (fun v I' J' => v = some (.int (Int64.toInt32 ((yRun (I x 3) (fun k => pcon I R (dr R x k) (nn k))) (y + 1) k).2.2.2.2.2)) ∧ I' = I ∧ BM R x J J' (yRun (I x 3) (fun k => pcon I R (dr R x k) (nn k))) ((yRun (I x 3) (fun k => pcon I R (dr R x k) (nn k))) (now + 1)) (fun _ => now + 1)) := by
  refine mg_of (own := RX2) (maxL := 3) (ret := (some .int)) (by decide +kernel) rfl rfl (Nat.le_of_ble_eq_true rfl) ?_
  intro pg ev s mi args below meth c hc hr
  refine x_iload_n (j := 1) hc dX2_profit_0 rfl rfl ?_
  refine x_callS (As := [.int (nI k)]) (st := []) hc (c_reqPic l D z e0 L K N I J R k hk) gX2_profit_X2_requirePicture rfl hdS_X2_requirePicture ⟨Nat.le_of_ble_eq_true rfl, Nat.le_of_ble_eq_true rfl⟩ rfl rfl ⟨Nat.le_of_ble_eq_true rfl, Nat.le_of_ble_eq_true rfl⟩ (Nat.le_of_ble_eq_true rfl) dX2_profit_1 (fun v9 I9 J9 hz9 => ?_)
  obtain ⟨rfl, hI9, hJ9⟩ := hz9
  replace hI9 := hI9.symm
  subst hI9
  replace hJ9 := hJ9.symm
  subst hJ9
  refine x_iload_n (j := 2) hc dX2_profit_4 rfl rfl ?_
  refine x_iconst (v := 0) hc dX2_profit_5 (by decide) ?_
  refine x_aload_n (j := 0) hc dX2_profit_6 rfl rfl ?_
  refine x_getI (C := RX2) (T := TX2) (NN := 5) (ci := 3) (ref := "NetPoints") hc 4 in_X2_profit_3 rfl (by decide) lf_X2_profit_30 (fun _ h9 => h9) hx.1 (by omega) (by decide) rfl dX2_profit_7 ?_
  refine x_vali (hx.2.2.2.2.1) ?_
  refine x_callS (As := [.int (nI y), .int 0, .int (nI now)]) (st := []) hc (c_reqRange l D z e0 L K N I J R (nI y) 0 (nI now) (nI_pos' (Nat.lt_of_le_of_lt hy (Nat.lt_of_lt_of_le hx.2.2.2.2.2.1 (by decide)))) (nI_le hy (Nat.lt_of_lt_of_le hx.2.2.2.2.2.1 (by decide)))) gX2_profit_X2_requireRange rfl hdS_X2_requireRange ⟨Nat.le_of_ble_eq_true rfl, Nat.le_of_ble_eq_true rfl⟩ rfl rfl ⟨Nat.le_of_ble_eq_true rfl, Nat.le_of_ble_eq_true rfl⟩ (Nat.le_of_ble_eq_true rfl) dX2_profit_10 (fun v9 I9 J9 hz9 => ?_)
  obtain ⟨rfl, hI9, hJ9⟩ := hz9
  replace hI9 := hI9.symm
  subst hI9
  replace hJ9 := hJ9.symm
  subst hJ9
  refine x_aload_n (j := 0) hc dX2_profit_13 rfl rfl ?_
  refine x_callV (C := RX2) (T := TX2) (NN := 5) (ci := 3) (As := []) (st := []) hc hx.1 (by omega) (by decide) rfl (c_drawBooks l D z e0 L K N I J R x now n nn hx) gX2_profit_X2_drawBooks rfl hdV_X2_drawBooks ⟨Nat.le_of_ble_eq_true rfl, Nat.le_of_ble_eq_true rfl⟩ rfl rfl ⟨Nat.le_of_ble_eq_true rfl, Nat.le_of_ble_eq_true rfl⟩ (Nat.le_of_ble_eq_true rfl) dX2_profit_14 (fun v9 I9 J9 hz9 => ?_)
  obtain ⟨rfl, hI9, hM⟩ := hz9
  replace hI9 := hI9.symm
  subst hI9
  refine x_aload_n (j := 0) hc dX2_profit_17 rfl rfl ?_
  refine x_iload_n (j := 1) hc dX2_profit_18 rfl rfl ?_
  obtain ⟨hp0, hp1, hp2, hp3, hp4, hp5, hp6, hp7, hp8, hp9, hp10, hp11, hp12⟩ := (hx.2.1 k hk).2.1
  refine x_callV (C := RX2) (T := TX2) (NN := 5) (ci := 3) (As := [.int (nI k)]) (st := []) hc hx.1 (by omega) (by decide) rfl (c_picOf l D z e0 L K N I J9 R x k hx.1 hk (hx.2.1 k hk).1) gX2_profit_X2_pictureOf rfl hdV_X2_pictureOf ⟨Nat.le_of_ble_eq_true rfl, Nat.le_of_ble_eq_true rfl⟩ rfl rfl ⟨Nat.le_of_ble_eq_true rfl, Nat.le_of_ble_eq_true rfl⟩ (Nat.le_of_ble_eq_true rfl) dX2_profit_19 (fun v9 I9 J9 hz9 => ?_)
  obtain ⟨rfl, hI9, hJ9⟩ := hz9
  replace hI9 := hI9.symm
  subst hI9
  replace hJ9 := hJ9.symm
  subst hJ9
  refine x_getR (C := RX0) (T := TX0) (NN := 15) (ci := 1) (ref := "NetPoints$Picture") hc 8 in_X2_profit_1 rfl (by decide) lf_X2_profit_141 (fun _ h9 => h9) hp0 (by omega) (by decide) rfl hp11 dX2_profit_22 ?_
  refine x_iload_n (j := 2) hc dX2_profit_25 rfl rfl ?_
  refine x_lald hc hp12 (by decide) rfl (Nat.lt_of_le_of_lt hy hx.2.2.2.2.2.1) (by omega) dX2_profit_26 ?_
  refine x_vall (((hM.1 k hk).2 y (Nat.lt_succ_of_le hy)).2) ?_
  refine x_l2i hc dX2_profit_27 ?_
  exact x_iret hc hr (by decide) (by decide) dX2_profit_28 (⟨rfl, rfl, hM⟩)
abbrev rm_X2_drawnSum : Room := { frames := 6, cells := 0, slots := 0, locals := 144 }
set_option maxHeartbeats 4000000 in
set_option maxRecDepth 100000 in
theorem c_drawnSum (l : Launch) (D : va_G) (z e0 : Nat) (L : List Nat) (K N : Nat → Nat) (I : Nat → Nat → Int32) (J : Nat → Nat → Int64) (R : Nat → Nat → Option Nat) (x now n : Nat) (nn : Nat → Nat) (hx : Cls L K N I R x now n nn) (q k u : Nat) (hs : ShOk L K N I R x nn q k u) : MG l yX2_drawnSum wsX2_drawnSum rm_X2_drawnSum D z e0 L K N I J R [.ref x, .ref q] (fun v I' J' => v = some (.long (sumF (((yRun (I x 3) (fun k => pcon I R (dr R x k) (nn k))) (now + 1)) k).2.1 (((yRun (I x 3) (fun k => pcon I R (dr R x k) (nn k))) (now + 1)) k).1 (((yRun (I x 3) (fun k => pcon I R (dr R x k) (nn k))) (now + 1)) k).2.2.2.2.2 (shV I q) (fun i => shV I (shA R (dr R (dr R x k) 3) i)) (nn k) u)) ∧ I' = I ∧ BM R x J J' (yRun (I x 3) (fun k => pcon I R (dr R x k) (nn k))) ((yRun (I x 3) (fun k => pcon I R (dr R x k) (nn k))) (now + 1)) (fun _ => now + 1)) := by
  refine mg_of (own := RX2) (maxL := 2) (ret := (some .long)) (by decide +kernel) rfl rfl (Nat.le_of_ble_eq_true rfl) ?_
  intro pg ev s mi args below meth c hc hr
  obtain ⟨hs1, hs2, hs3, hk, hs5, hs6, hs7, hs8⟩ := hs
  refine x_aload_n (j := 0) hc dX2_drawnSum_0 rfl rfl ?_
  refine x_callV (C := RX2) (T := TX2) (NN := 5) (ci := 3) (As := []) (st := []) hc hx.1 (by omega) (by decide) rfl (c_drawBooks l D z e0 L K N I J R x now n nn hx) gX2_drawnSum_X2_drawBooks rfl hdV_X2_drawBooks ⟨Nat.le_of_ble_eq_true rfl, Nat.le_of_ble_eq_true rfl⟩ rfl rfl ⟨Nat.le_of_ble_eq_true rfl, Nat.le_of_ble_eq_true rfl⟩ (Nat.le_of_ble_eq_true rfl) dX2_drawnSum_1 (fun v9 I9 J9 hz9 => ?_)
  obtain ⟨rfl, hI9, hM⟩ := hz9
  replace hI9 := hI9.symm
  subst hI9
  refine x_aload_n (j := 1) hc dX2_drawnSum_4 rfl rfl ?_
  refine x_getR (C := RX1) (T := TX1) (NN := 7) (ci := 2) (ref := "NetPoints$Sharer") hc 0 in_X2_drawnSum_2 rfl (by decide) lf_X2_drawnSum_171 (fun _ h9 => h9) hs1 (by omega) (by decide) rfl hs5 dX2_drawnSum_5 ?_
  refine x_aload_n (j := 1) hc dX2_drawnSum_8 rfl rfl ?_
  obtain ⟨e9, e10, e11, e12, e13, e14⟩ := getB_eq (hM.1 k hk).1
  have hsd := c_sumDrawn l D z e0 L K N I J9 R (k + 1) (dr R x k) (nn k) (hx.2.1 k hk).2.1 (hx.2.1 k hk).2.2 q (K q) u hs1 hs2 hs6 hs7 hs8
  rw [e9, e10, e14] at hsd
  refine x_callV (C := RX0) (T := TX0) (NN := 15) (ci := 1) (As := [.ref q]) (st := []) hc ((hx.2.1 k hk).2.1.1) (by omega) (by decide) rfl hsd gX2_drawnSum_X0_sumDrawn rfl hdV_X0_sumDrawn ⟨Nat.le_of_ble_eq_true rfl, Nat.le_of_ble_eq_true rfl⟩ rfl rfl ⟨Nat.le_of_ble_eq_true rfl, Nat.le_of_ble_eq_true rfl⟩ (Nat.le_of_ble_eq_true rfl) dX2_drawnSum_9 (fun v9 I9 J9 hz9 => ?_)
  obtain ⟨rfl, hI9, hJ9⟩ := hz9
  replace hI9 := hI9.symm
  subst hI9
  replace hJ9 := hJ9.symm
  subst hJ9
  exact x_lret hc hr (by decide) (by decide) dX2_drawnSum_12 (⟨rfl, rfl, hM⟩)
theorem shne {L : List Nat} {K N : Nat → Nat} {I : Nat → Nat → Int32} {R : Nat → Nat → Option Nat} {x now n : Nat} {nn : Nat → Nat} (hx : Cls L K N I R x now n nn) {q k u : Nat} (hs : ShOk L K N I R x nn q k u) : ∀ j, j < 2 → q ≠ dr R x j ∧ q ≠ dr R (dr R x j) 7 ∧ q ≠ dr R (dr R x j) 8 := by
  intro j hj
  obtain ⟨a0, -, -, -, -, -, -, -, -, -, a7, -, a8⟩ := (hx.2.1 j hj).2.1
  have h3 := hs.2.2.1
  exact ⟨hs.1.ne a0 (by omega), hs.1.ne a7 (by omega), hs.1.ne a8 (by omega)⟩
abbrev rm_X2_sum : Room := { frames := 7, cells := 0, slots := 0, locals := 165 }
set_option maxHeartbeats 4000000 in
set_option maxRecDepth 100000 in
theorem c_sum (l : Launch) (D : va_G) (z e0 : Nat) (L : List Nat) (K N : Nat → Nat) (I : Nat → Nat → Int32) (J : Nat → Nat → Int64) (R : Nat → Nat → Option Nat) (x now n : Nat) (nn : Nat → Nat) (hx : Cls L K N I R x now n nn) (j q k u : Nat) (hj : j < n) (hq : shA R (dr R x 2) j = q) (hs : ShOk L K N I R x nn q k u) : MG l yX2_sum wsX2_sum rm_X2_sum D z e0 L K N I J R [.ref x, .int (nI j)] (fun v I' J' => v = some (.int (Int64.toInt32 (sumF (((yRun (I x 3) (fun k => pcon I R (dr R x k) (nn k))) (now + 1)) k).2.1 (((yRun (I x 3) (fun k => pcon I R (dr R x k) (nn k))) (now + 1)) k).1 (((yRun (I x 3) (fun k => pcon I R (dr R x k) (nn k))) (now + 1)) k).2.2.2.2.2 (shV I q) (fun i => shV I (shA R (dr R (dr R x k) 3) i)) (nn k) u))) ∧ I' = I ∧ BM R x J J' (yRun (I x 3) (fun k => pcon I R (dr R x k) (nn k))) ((yRun (I x 3) (fun k => pcon I R (dr R x k) (nn k))) (now + 1)) (fun _ => now + 1)) := by
  refine mg_of (own := RX2) (maxL := 2) (ret := (some .int)) (by decide +kernel) rfl rfl (Nat.le_of_ble_eq_true rfl) ?_
  intro pg ev s mi args below meth c hc hr
  have hq2 := hs.2.1
  refine x_aload_n (j := 0) hc dX2_sum_0 rfl rfl ?_
  refine x_iload_n (j := 1) hc dX2_sum_1 rfl rfl ?_
  refine x_callV (C := RX2) (T := TX2) (NN := 5) (ci := 3) (As := [.int (nI j)]) (st := []) hc hx.1 (by omega) (by decide) rfl (c_reqSharer l D z e0 L K N I J R x now n nn hx j hj) gX2_sum_X2_requireSharer rfl hdV_X2_requireSharer ⟨Nat.le_of_ble_eq_true rfl, Nat.le_of_ble_eq_true rfl⟩ rfl rfl ⟨Nat.le_of_ble_eq_true rfl, Nat.le_of_ble_eq_true rfl⟩ (Nat.le_of_ble_eq_true rfl) dX2_sum_2 (fun v9 I9 J9 hz9 => ?_)
  obtain ⟨rfl, hI9, hJ9⟩ := hz9
  replace hI9 := hI9.symm
  subst hI9
  replace hJ9 := hJ9.symm
  subst hJ9
  refine x_aload_n (j := 0) hc dX2_sum_5 rfl rfl ?_
  refine x_aload_n (j := 0) hc dX2_sum_6 rfl rfl ?_
  refine x_getR (C := RX2) (T := TX2) (NN := 5) (ci := 3) (ref := "NetPoints") hc 2 in_X2_sum_3 rfl (by decide) lf_X2_sum_22 (fun _ h9 => h9) hx.1 (by omega) (by decide) rfl hx.2.2.1 dX2_sum_7 ?_
  refine x_iload_n (j := 1) hc dX2_sum_10 rfl rfl ?_
  have hget := c_get l D z e0 L K N I J R (dr R x 2) 16 39 n j hx.2.2.2.1 hj
  rw [hq] at hget
  refine x_callV (C := RJx4a65c) (T := TJx4a65c) (NN := 3) (ci := 0) (As := [.int (nI j)]) (st := [.ref x]) hc hx.2.2.2.1.1 (by omega) (by decide) rfl hget gX2_sum_Jx4a65c_get_915e3 rfl hdV_Jx4a65c_get_915e3 ⟨Nat.le_of_ble_eq_true rfl, Nat.le_of_ble_eq_true rfl⟩ rfl rfl ⟨Nat.le_of_ble_eq_true rfl, Nat.le_of_ble_eq_true rfl⟩ (Nat.le_of_ble_eq_true rfl) dX2_sum_11 (fun v9 I9 J9 hz9 => ?_)
  obtain ⟨rfl, hI9, hJ9⟩ := hz9
  replace hI9 := hI9.symm
  subst hI9
  replace hJ9 := hJ9.symm
  subst hJ9
  refine x_cast (T := TX1) (NN := 7) (ci := 2) hc hs.1 (by omega) (by decide) rfl lcl_X2_sum_73 dX2_sum_14 ?_
  refine x_callV (C := RX2) (T := TX2) (NN := 5) (ci := 3) (As := [.ref q]) (st := []) hc hx.1 (by omega) (by decide) rfl (c_drawnSum l D z e0 L K N I J R x now n nn hx q k u hs) gX2_sum_X2_drawnSum rfl hdV_X2_drawnSum ⟨Nat.le_of_ble_eq_true rfl, Nat.le_of_ble_eq_true rfl⟩ rfl rfl ⟨Nat.le_of_ble_eq_true rfl, Nat.le_of_ble_eq_true rfl⟩ (Nat.le_of_ble_eq_true rfl) dX2_sum_17 (fun v9 I9 J9 hz9 => ?_)
  obtain ⟨rfl, hI9, hM⟩ := hz9
  replace hI9 := hI9.symm
  subst hI9
  refine x_l2i hc dX2_sum_20 ?_
  exact x_iret hc hr (by decide) (by decide) dX2_sum_21 (⟨rfl, rfl, hM⟩)
abbrev rm_X2_paid : Room := { frames := 7, cells := 0, slots := 0, locals := 103 }
set_option maxHeartbeats 4000000 in
set_option maxRecDepth 100000 in
theorem c_paid (l : Launch) (D : va_G) (z e0 : Nat) (L : List Nat) (K N : Nat → Nat) (I : Nat → Nat → Int32) (J : Nat → Nat → Int64) (R : Nat → Nat → Option Nat) (x now n : Nat) (nn : Nat → Nat) (hx : Cls L K N I R x now n nn) (j q k u : Nat) (hj : j < n) (hq : shA R (dr R x 2) j = q) (hs : ShOk L K N I R x nn q k u) : MG l yX2_paid wsX2_paid rm_X2_paid D z e0 L K N I J R [.ref x, .int (nI j)] (fun v I' J' => v = some (.int (Int64.toInt32 (J q 6))) ∧ I' = I ∧ J' = J) := by
  refine mg_of (own := RX2) (maxL := 2) (ret := (some .int)) (by decide +kernel) rfl rfl (Nat.le_of_ble_eq_true rfl) ?_
  intro pg ev s mi args below meth c hc hr
  have hq2 := hs.2.1
  refine x_aload_n (j := 0) hc dX2_paid_0 rfl rfl ?_
  refine x_iload_n (j := 1) hc dX2_paid_1 rfl rfl ?_
  refine x_callV (C := RX2) (T := TX2) (NN := 5) (ci := 3) (As := [.int (nI j)]) (st := []) hc hx.1 (by omega) (by decide) rfl (c_reqSharer l D z e0 L K N I J R x now n nn hx j hj) gX2_paid_X2_requireSharer rfl hdV_X2_requireSharer ⟨Nat.le_of_ble_eq_true rfl, Nat.le_of_ble_eq_true rfl⟩ rfl rfl ⟨Nat.le_of_ble_eq_true rfl, Nat.le_of_ble_eq_true rfl⟩ (Nat.le_of_ble_eq_true rfl) dX2_paid_2 (fun v9 I9 J9 hz9 => ?_)
  obtain ⟨rfl, hI9, hJ9⟩ := hz9
  replace hI9 := hI9.symm
  subst hI9
  replace hJ9 := hJ9.symm
  subst hJ9
  refine x_aload_n (j := 0) hc dX2_paid_5 rfl rfl ?_
  refine x_getR (C := RX2) (T := TX2) (NN := 5) (ci := 3) (ref := "NetPoints") hc 2 in_X2_paid_3 rfl (by decide) lf_X2_paid_22 (fun _ h9 => h9) hx.1 (by omega) (by decide) rfl hx.2.2.1 dX2_paid_6 ?_
  refine x_iload_n (j := 1) hc dX2_paid_9 rfl rfl ?_
  have hget := c_get l D z e0 L K N I J R (dr R x 2) 16 39 n j hx.2.2.2.1 hj
  rw [hq] at hget
  refine x_callV (C := RJx4a65c) (T := TJx4a65c) (NN := 3) (ci := 0) (As := [.int (nI j)]) (st := []) hc hx.2.2.2.1.1 (by omega) (by decide) rfl hget gX2_paid_Jx4a65c_get_915e3 rfl hdV_Jx4a65c_get_915e3 ⟨Nat.le_of_ble_eq_true rfl, Nat.le_of_ble_eq_true rfl⟩ rfl rfl ⟨Nat.le_of_ble_eq_true rfl, Nat.le_of_ble_eq_true rfl⟩ (Nat.le_of_ble_eq_true rfl) dX2_paid_10 (fun v9 I9 J9 hz9 => ?_)
  obtain ⟨rfl, hI9, hJ9⟩ := hz9
  replace hI9 := hI9.symm
  subst hI9
  replace hJ9 := hJ9.symm
  subst hJ9
  refine x_cast (T := TX1) (NN := 7) (ci := 2) hc hs.1 (by omega) (by decide) rfl lcl_X2_paid_73 dX2_paid_13 ?_
  refine x_getJ (C := RX1) (T := TX1) (NN := 7) (ci := 2) (ref := "NetPoints$Sharer") hc 6 in_X2_paid_2 rfl (by decide) lf_X2_paid_119 (fun _ h9 => h9) hs.1 (by omega) (by decide) rfl dX2_paid_16 ?_
  refine x_l2i hc dX2_paid_19 ?_
  exact x_iret hc hr (by decide) (by decide) dX2_paid_20 (⟨rfl, rfl, rfl⟩)
abbrev rm_X2_owed : Room := { frames := 7, cells := 0, slots := 0, locals := 165 }
set_option maxHeartbeats 4000000 in
set_option maxRecDepth 100000 in
theorem c_owed (l : Launch) (D : va_G) (z e0 : Nat) (L : List Nat) (K N : Nat → Nat) (I : Nat → Nat → Int32) (J : Nat → Nat → Int64) (R : Nat → Nat → Option Nat) (x now n : Nat) (nn : Nat → Nat) (hx : Cls L K N I R x now n nn) (j q k u : Nat) (hj : j < n) (hq : shA R (dr R x 2) j = q) (hs : ShOk L K N I R x nn q k u) : MG l yX2_owed wsX2_owed rm_X2_owed D z e0 L K N I J R [.ref x, .int (nI j)] (fun v I' J' => v = some (.int (Int64.toInt32 ((sumF (((yRun (I x 3) (fun k => pcon I R (dr R x k) (nn k))) (now + 1)) k).2.1 (((yRun (I x 3) (fun k => pcon I R (dr R x k) (nn k))) (now + 1)) k).1 (((yRun (I x 3) (fun k => pcon I R (dr R x k) (nn k))) (now + 1)) k).2.2.2.2.2 (shV I q) (fun i => shV I (shA R (dr R (dr R x k) 3) i)) (nn k) u) - J q 6))) ∧ I' = I ∧ BM R x J J' (yRun (I x 3) (fun k => pcon I R (dr R x k) (nn k))) ((yRun (I x 3) (fun k => pcon I R (dr R x k) (nn k))) (now + 1)) (fun _ => now + 1)) := by
  refine mg_of (own := RX2) (maxL := 3) (ret := (some .int)) (by decide +kernel) rfl rfl (Nat.le_of_ble_eq_true rfl) ?_
  intro pg ev s mi args below meth c hc hr
  have hq2 := hs.2.1
  refine x_aload_n (j := 0) hc dX2_owed_0 rfl rfl ?_
  refine x_iload_n (j := 1) hc dX2_owed_1 rfl rfl ?_
  refine x_callV (C := RX2) (T := TX2) (NN := 5) (ci := 3) (As := [.int (nI j)]) (st := []) hc hx.1 (by omega) (by decide) rfl (c_reqSharer l D z e0 L K N I J R x now n nn hx j hj) gX2_owed_X2_requireSharer rfl hdV_X2_requireSharer ⟨Nat.le_of_ble_eq_true rfl, Nat.le_of_ble_eq_true rfl⟩ rfl rfl ⟨Nat.le_of_ble_eq_true rfl, Nat.le_of_ble_eq_true rfl⟩ (Nat.le_of_ble_eq_true rfl) dX2_owed_2 (fun v9 I9 J9 hz9 => ?_)
  obtain ⟨rfl, hI9, hJ9⟩ := hz9
  replace hI9 := hI9.symm
  subst hI9
  replace hJ9 := hJ9.symm
  subst hJ9
  refine x_aload_n (j := 0) hc dX2_owed_5 rfl rfl ?_
  refine x_getR (C := RX2) (T := TX2) (NN := 5) (ci := 3) (ref := "NetPoints") hc 2 in_X2_owed_3 rfl (by decide) lf_X2_owed_22 (fun _ h9 => h9) hx.1 (by omega) (by decide) rfl hx.2.2.1 dX2_owed_6 ?_
  refine x_iload_n (j := 1) hc dX2_owed_9 rfl rfl ?_
  have hget := c_get l D z e0 L K N I J R (dr R x 2) 16 39 n j hx.2.2.2.1 hj
  rw [hq] at hget
  refine x_callV (C := RJx4a65c) (T := TJx4a65c) (NN := 3) (ci := 0) (As := [.int (nI j)]) (st := []) hc hx.2.2.2.1.1 (by omega) (by decide) rfl hget gX2_owed_Jx4a65c_get_915e3 rfl hdV_Jx4a65c_get_915e3 ⟨Nat.le_of_ble_eq_true rfl, Nat.le_of_ble_eq_true rfl⟩ rfl rfl ⟨Nat.le_of_ble_eq_true rfl, Nat.le_of_ble_eq_true rfl⟩ (Nat.le_of_ble_eq_true rfl) dX2_owed_10 (fun v9 I9 J9 hz9 => ?_)
  obtain ⟨rfl, hI9, hJ9⟩ := hz9
  replace hI9 := hI9.symm
  subst hI9
  replace hJ9 := hJ9.symm
  subst hJ9
  refine x_cast (T := TX1) (NN := 7) (ci := 2) hc hs.1 (by omega) (by decide) rfl lcl_X2_owed_73 dX2_owed_13 ?_
  refine x_astore_n (lv' := [(2, .ref q), (0, .ref x), (1, .int (nI j))]) hc dX2_owed_16 rfl (by decide) rfl ?_
  refine x_aload_n (j := 1) hc dX2_owed_17 rfl rfl ?_
  refine x_aload_n (j := 0) hc dX2_owed_18 rfl rfl ?_
  refine x_callV (C := RX2) (T := TX2) (NN := 5) (ci := 3) (As := [.ref q]) (st := []) hc hx.1 (by omega) (by decide) rfl (c_drawnSum l D z e0 L K N I J R x now n nn hx q k u hs) gX2_owed_X2_drawnSum rfl hdV_X2_drawnSum ⟨Nat.le_of_ble_eq_true rfl, Nat.le_of_ble_eq_true rfl⟩ rfl rfl ⟨Nat.le_of_ble_eq_true rfl, Nat.le_of_ble_eq_true rfl⟩ (Nat.le_of_ble_eq_true rfl) dX2_owed_19 (fun v9 I9 J9 hz9 => ?_)
  obtain ⟨rfl, hI9, hM⟩ := hz9
  replace hI9 := hI9.symm
  subst hI9
  refine x_aload_n (j := 0) hc dX2_owed_22 rfl rfl ?_
  refine x_getJ (C := RX1) (T := TX1) (NN := 7) (ci := 2) (ref := "NetPoints$Sharer") hc 6 in_X2_owed_2 rfl (by decide) lf_X2_owed_119 (fun _ h9 => h9) hs.1 (by omega) (by decide) rfl dX2_owed_23 ?_
  refine x_vall (congrFun (hM.2 q (shne hx hs)) 6) ?_
  refine x_lsub hc dX2_owed_26 ?_
  refine x_l2i hc dX2_owed_27 ?_
  exact x_iret hc hr (by decide) (by decide) dX2_owed_28 (⟨rfl, rfl, hM⟩)
abbrev rm_X2_pay : Room := { frames := 7, cells := 0, slots := 0, locals := 165 }
set_option maxHeartbeats 4000000 in
set_option maxRecDepth 100000 in
theorem c_pay (l : Launch) (D : va_G) (z e0 : Nat) (L : List Nat) (K N : Nat → Nat) (I : Nat → Nat → Int32) (J : Nat → Nat → Int64) (R : Nat → Nat → Option Nat) (x now n : Nat) (nn : Nat → Nat) (hx : Cls L K N I R x now n nn) (j q k u : Nat) (hj : j < n) (hq : shA R (dr R x 2) j = q) (hs : ShOk L K N I R x nn q k u) (hdue : 0 < (sumF (((yRun (I x 3) (fun k => pcon I R (dr R x k) (nn k))) (now + 1)) k).2.1 (((yRun (I x 3) (fun k => pcon I R (dr R x k) (nn k))) (now + 1)) k).1 (((yRun (I x 3) (fun k => pcon I R (dr R x k) (nn k))) (now + 1)) k).2.2.2.2.2 (shV I q) (fun i => shV I (shA R (dr R (dr R x k) 3) i)) (nn k) u) - J q 6) : MG l yX2_pay wsX2_pay rm_X2_pay D z e0 L K N I J R [.ref x, .int (nI j)] (fun v I' J' => v = some (.int (Int64.toInt32 ((sumF (((yRun (I x 3) (fun k => pcon I R (dr R x k) (nn k))) (now + 1)) k).2.1 (((yRun (I x 3) (fun k => pcon I R (dr R x k) (nn k))) (now + 1)) k).1 (((yRun (I x 3) (fun k => pcon I R (dr R x k) (nn k))) (now + 1)) k).2.2.2.2.2 (shV I q) (fun i => shV I (shA R (dr R (dr R x k) 3) i)) (nn k) u) - J q 6))) ∧ I' = I ∧ ∃ J9, BM R x J J9 (yRun (I x 3) (fun k => pcon I R (dr R x k) (nn k))) ((yRun (I x 3) (fun k => pcon I R (dr R x k) (nn k))) (now + 1)) (fun _ => now + 1) ∧ J' = u2 J9 q 6 (J q 6 + ((sumF (((yRun (I x 3) (fun k => pcon I R (dr R x k) (nn k))) (now + 1)) k).2.1 (((yRun (I x 3) (fun k => pcon I R (dr R x k) (nn k))) (now + 1)) k).1 (((yRun (I x 3) (fun k => pcon I R (dr R x k) (nn k))) (now + 1)) k).2.2.2.2.2 (shV I q) (fun i => shV I (shA R (dr R (dr R x k) 3) i)) (nn k) u) - J q 6))) := by
  refine mg_of (own := RX2) (maxL := 5) (ret := (some .int)) (by decide +kernel) rfl rfl (Nat.le_of_ble_eq_true rfl) ?_
  intro pg ev s mi args below meth c hc hr
  have hq2 := hs.2.1
  refine x_aload_n (j := 0) hc dX2_pay_0 rfl rfl ?_
  refine x_iload_n (j := 1) hc dX2_pay_1 rfl rfl ?_
  refine x_callV (C := RX2) (T := TX2) (NN := 5) (ci := 3) (As := [.int (nI j)]) (st := []) hc hx.1 (by omega) (by decide) rfl (c_reqSharer l D z e0 L K N I J R x now n nn hx j hj) gX2_pay_X2_requireSharer rfl hdV_X2_requireSharer ⟨Nat.le_of_ble_eq_true rfl, Nat.le_of_ble_eq_true rfl⟩ rfl rfl ⟨Nat.le_of_ble_eq_true rfl, Nat.le_of_ble_eq_true rfl⟩ (Nat.le_of_ble_eq_true rfl) dX2_pay_2 (fun v9 I9 J9 hz9 => ?_)
  obtain ⟨rfl, hI9, hJ9⟩ := hz9
  replace hI9 := hI9.symm
  subst hI9
  replace hJ9 := hJ9.symm
  subst hJ9
  refine x_aload_n (j := 0) hc dX2_pay_5 rfl rfl ?_
  refine x_getR (C := RX2) (T := TX2) (NN := 5) (ci := 3) (ref := "NetPoints") hc 2 in_X2_pay_3 rfl (by decide) lf_X2_pay_22 (fun _ h9 => h9) hx.1 (by omega) (by decide) rfl hx.2.2.1 dX2_pay_6 ?_
  refine x_iload_n (j := 1) hc dX2_pay_9 rfl rfl ?_
  have hget := c_get l D z e0 L K N I J R (dr R x 2) 16 39 n j hx.2.2.2.1 hj
  rw [hq] at hget
  refine x_callV (C := RJx4a65c) (T := TJx4a65c) (NN := 3) (ci := 0) (As := [.int (nI j)]) (st := []) hc hx.2.2.2.1.1 (by omega) (by decide) rfl hget gX2_pay_Jx4a65c_get_915e3 rfl hdV_Jx4a65c_get_915e3 ⟨Nat.le_of_ble_eq_true rfl, Nat.le_of_ble_eq_true rfl⟩ rfl rfl ⟨Nat.le_of_ble_eq_true rfl, Nat.le_of_ble_eq_true rfl⟩ (Nat.le_of_ble_eq_true rfl) dX2_pay_10 (fun v9 I9 J9 hz9 => ?_)
  obtain ⟨rfl, hI9, hJ9⟩ := hz9
  replace hI9 := hI9.symm
  subst hI9
  replace hJ9 := hJ9.symm
  subst hJ9
  refine x_cast (T := TX1) (NN := 7) (ci := 2) hc hs.1 (by omega) (by decide) rfl lcl_X2_pay_73 dX2_pay_13 ?_
  refine x_astore_n (lv' := [(2, .ref q), (0, .ref x), (1, .int (nI j))]) hc dX2_pay_16 rfl (by decide) rfl ?_
  refine x_aload_n (j := 1) hc dX2_pay_17 rfl rfl ?_
  refine x_aload_n (j := 0) hc dX2_pay_18 rfl rfl ?_
  refine x_callV (C := RX2) (T := TX2) (NN := 5) (ci := 3) (As := [.ref q]) (st := []) hc hx.1 (by omega) (by decide) rfl (c_drawnSum l D z e0 L K N I J R x now n nn hx q k u hs) gX2_pay_X2_drawnSum rfl hdV_X2_drawnSum ⟨Nat.le_of_ble_eq_true rfl, Nat.le_of_ble_eq_true rfl⟩ rfl rfl ⟨Nat.le_of_ble_eq_true rfl, Nat.le_of_ble_eq_true rfl⟩ (Nat.le_of_ble_eq_true rfl) dX2_pay_19 (fun v9 I9 J9 hz9 => ?_)
  obtain ⟨rfl, hI9, hM⟩ := hz9
  replace hI9 := hI9.symm
  subst hI9
  refine x_aload_n (j := 0) hc dX2_pay_22 rfl rfl ?_
  refine x_getJ (C := RX1) (T := TX1) (NN := 7) (ci := 2) (ref := "NetPoints$Sharer") hc 6 in_X2_pay_2 rfl (by decide) lf_X2_pay_119 (fun _ h9 => h9) hs.1 (by omega) (by decide) rfl dX2_pay_23 ?_
  refine x_vall (congrFun (hM.2 q (shne hx hs)) 6) ?_
  refine x_lsub hc dX2_pay_26 ?_
  refine x_lstore_n (lv' := [(3, .long ((sumF (((yRun (I x 3) (fun k => pcon I R (dr R x k) (nn k))) (now + 1)) k).2.1 (((yRun (I x 3) (fun k => pcon I R (dr R x k) (nn k))) (now + 1)) k).1 (((yRun (I x 3) (fun k => pcon I R (dr R x k) (nn k))) (now + 1)) k).2.2.2.2.2 (shV I q) (fun i => shV I (shA R (dr R (dr R x k) 3) i)) (nn k) u) - (J q 6))), (2, .ref q), (0, .ref x), (1, .int (nI j))]) hc dX2_pay_27 rfl (by decide) rfl ?_
  refine x_lload_n (j := 0) hc dX2_pay_28 rfl rfl ?_
  refine x_lconst (v := 0) hc dX2_pay_29 rfl ?_
  refine x_lcmp hc dX2_pay_30 ?_
  refine x_if_gt (tgt := 44) hc dX2_pay_31 (by decide) (fun _ => ?_) (fun q9 => absurd ((lg_cmp_gt _ _).mpr hdue) q9)
  refine x_aload_n (j := 1) hc dX2_pay_44 rfl rfl ?_
  refine x_dup hc dX2_pay_45 rfl ?_
  refine x_getJ (C := RX1) (T := TX1) (NN := 7) (ci := 2) (ref := "NetPoints$Sharer") hc 6 in_X2_pay_2 rfl (by decide) lf_X2_pay_119 (fun _ h9 => h9) hs.1 (by omega) (by decide) rfl dX2_pay_46 ?_
  refine x_vall (congrFun (hM.2 q (shne hx hs)) 6) ?_
  refine x_lload_n (j := 0) hc dX2_pay_49 rfl rfl ?_
  refine x_ladd hc dX2_pay_50 ?_
  refine x_putJ (C := RX1) (T := TX1) (NN := 7) (ci := 2) (ref := "NetPoints$Sharer") hc 6 in_X2_pay_2 rfl (by decide) lf_X2_pay_119 (fun _ h9 => h9) tyX1 tyX1_ok nmX1 hs.1 (by omega) (by decide) rfl rfl pd_X1_6 dX2_pay_51 ?_
  refine x_lload_n (j := 0) hc dX2_pay_54 rfl rfl ?_
  refine x_l2i hc dX2_pay_55 ?_
  exact x_iret hc hr (by decide) (by decide) dX2_pay_56 (⟨rfl, rfl, J9, hM, rfl⟩)
