def Cls (L : List Nat) (K N : Nat → Nat) (I : Nat → Nat → Int32) (R : Nat → Nat → Option Nat) (x now n : Nat) (nn : Nat → Nat) : Prop :=
  At L K N x 3 0 ∧ (∀ k, k < 2 → R x k = some (dr R x k) ∧ Pic L K N R (k + 1) (dr R x k) ∧ Lst L K N I R (dr R (dr R x k) 3) (320 * (k + 1) + 224) (320 * (k + 1) + 279) (nn k)) ∧ R x 2 = some (dr R x 2) ∧ Lst L K N I R (dr R x 2) 16 39 n ∧ I x 4 = nI now ∧ now < 10 ∧ (I x 3 = 0 ∨ I x 3 = 1)
/-- the j-th sharer: its picture, its turn -/
def ShOk (L : List Nat) (K N : Nat → Nat) (I : Nat → Nat → Int32) (R : Nat → Nat → Option Nat) (x : Nat) (nn : Nat → Nat) (q k u : Nat) : Prop :=
  At L K N q (K q) 0 ∧ K q % 16 = 2 ∧ 1600 ≤ K q ∧ k < 2 ∧ R q 0 = some (dr R x k) ∧ I q 1 = nI u ∧ u ≤ nn k ∧ (¬ I q 2 = 0 → ¬ I q 2 = 1 → ¬ I q 2 = 2 → (2 : Int) < (I q 2).toInt)
abbrev rm_X2_requirePicture : Room := { frames := 6, cells := 0, slots := 0, locals := 82 }
set_option maxHeartbeats 4000000 in
set_option maxRecDepth 100000 in
theorem c_reqPic (l : Launch) (D : va_G) (z e0 : Nat) (L : List Nat) (K N : Nat → Nat) (I : Nat → Nat → Int32) (J : Nat → Nat → Int64) (R : Nat → Nat → Option Nat) (k : Nat) (hk : k < 2) : MG l yX2_requirePicture wsX2_requirePicture rm_X2_requirePicture D z e0 L K N I J R [.int (nI k)] (fun v I' J' => v = none ∧ I' = I ∧ J' = J) := by
  refine mg_of (own := RX2) (maxL := 1) (ret := none) (by decide +kernel) rfl rfl (Nat.le_of_ble_eq_true rfl) ?_
  intro pg ev s mi args below meth c hc hr
  refine x_iload_n (j := 0) hc dX2_requirePicture_0 rfl rfl ?_
  refine x_if_lt (tgt := 9) hc dX2_requirePicture_1 (by decide) (fun q9 => absurd q9 (nI_pos (Nat.lt_of_lt_of_le hk (by decide)))) (fun _ => ?_)
  refine x_iload_n (j := 0) hc dX2_requirePicture_4 rfl rfl ?_
  refine x_iconst (v := 2) hc dX2_requirePicture_5 (by decide) ?_
  refine x_icmp_lt (tgt := 19) hc dX2_requirePicture_6 (by decide) (fun _ => ?_) (fun q9 => absurd (nI_lt hk (by decide)) q9)
  exact x_vret hc hr (by decide) (by decide) dX2_requirePicture_19 (⟨rfl, rfl, rfl⟩)
abbrev rm_X2_requireWindow : Room := { frames := 6, cells := 0, slots := 0, locals := 82 }
set_option maxHeartbeats 4000000 in
set_option maxRecDepth 100000 in
theorem c_reqWin (l : Launch) (D : va_G) (z e0 : Nat) (L : List Nat) (K N : Nat → Nat) (I : Nat → Nat → Int32) (J : Nat → Nat → Int64) (R : Nat → Nat → Option Nat) (k : Nat) (hk : k < 4) : MG l yX2_requireWindow wsX2_requireWindow rm_X2_requireWindow D z e0 L K N I J R [.int (nI k)] (fun v I' J' => v = none ∧ I' = I ∧ J' = J) := by
  refine mg_of (own := RX2) (maxL := 1) (ret := none) (by decide +kernel) rfl rfl (Nat.le_of_ble_eq_true rfl) ?_
  intro pg ev s mi args below meth c hc hr
  refine x_iload_n (j := 0) hc dX2_requireWindow_0 rfl rfl ?_
  refine x_if_lt (tgt := 9) hc dX2_requireWindow_1 (by decide) (fun q9 => absurd q9 (nI_pos (Nat.lt_of_lt_of_le hk (by decide)))) (fun _ => ?_)
  refine x_iload_n (j := 0) hc dX2_requireWindow_4 rfl rfl ?_
  refine x_iconst (v := 4) hc dX2_requireWindow_5 (by decide) ?_
  refine x_icmp_lt (tgt := 19) hc dX2_requireWindow_6 (by decide) (fun _ => ?_) (fun q9 => absurd (nI_lt hk (by decide)) q9)
  exact x_vret hc hr (by decide) (by decide) dX2_requireWindow_19 (⟨rfl, rfl, rfl⟩)
abbrev rm_X2_requireRange : Room := { frames := 6, cells := 0, slots := 0, locals := 82 }
set_option maxHeartbeats 4000000 in
set_option maxRecDepth 100000 in
theorem c_reqRange (l : Launch) (D : va_G) (z e0 : Nat) (L : List Nat) (K N : Nat → Nat) (I : Nat → Nat → Int32) (J : Nat → Nat → Int64) (R : Nat → Nat → Option Nat) (v lo hi : Int32) (h1 : lo ≤ v) (h2 : v ≤ hi) : MG l yX2_requireRange wsX2_requireRange rm_X2_requireRange D z e0 L K N I J R [.int v, .int lo, .int hi] (fun v I' J' => v = none ∧ I' = I ∧ J' = J) := by
  refine mg_of (own := RX2) (maxL := 3) (ret := none) (by decide +kernel) rfl rfl (Nat.le_of_ble_eq_true rfl) ?_
  intro pg ev s mi args below meth c hc hr
  refine x_iload_n (j := 0) hc dX2_requireRange_0 rfl rfl ?_
  refine x_iload_n (j := 1) hc dX2_requireRange_1 rfl rfl ?_
  refine x_icmp_lt (tgt := 10) hc dX2_requireRange_2 (by decide) (fun q9 => absurd q9 (Int32.not_lt.mpr h1)) (fun _ => ?_)
  refine x_iload_n (j := 0) hc dX2_requireRange_5 rfl rfl ?_
  refine x_iload_n (j := 2) hc dX2_requireRange_6 rfl rfl ?_
  refine x_icmp_le (tgt := 20) hc dX2_requireRange_7 (by decide) (fun _ => ?_) (fun q9 => absurd (h2) q9)
  exact x_vret hc hr (by decide) (by decide) dX2_requireRange_20 (⟨rfl, rfl, rfl⟩)
abbrev rm_X2_requireSharer : Room := { frames := 6, cells := 0, slots := 0, locals := 82 }
set_option maxHeartbeats 4000000 in
set_option maxRecDepth 100000 in
theorem c_reqSharer (l : Launch) (D : va_G) (z e0 : Nat) (L : List Nat) (K N : Nat → Nat) (I : Nat → Nat → Int32) (J : Nat → Nat → Int64) (R : Nat → Nat → Option Nat) (x now n : Nat) (nn : Nat → Nat) (hx : Cls L K N I R x now n nn) (j : Nat) (hj : j < n) : MG l yX2_requireSharer wsX2_requireSharer rm_X2_requireSharer D z e0 L K N I J R [.ref x, .int (nI j)] (fun v I' J' => v = none ∧ I' = I ∧ J' = J) := by
  refine mg_of (own := RX2) (maxL := 2) (ret := none) (by decide +kernel) rfl rfl (Nat.le_of_ble_eq_true rfl) ?_
  intro pg ev s mi args below meth c hc hr
  refine x_iload_n (j := 1) hc dX2_requireSharer_0 rfl rfl ?_
  refine x_if_lt (tgt := 15) hc dX2_requireSharer_1 (by decide) (fun q9 => absurd q9 (nI_pos (Nat.lt_of_lt_of_le hj (Nat.le_trans hx.2.2.2.1.2.2.2.1 (by decide))))) (fun _ => ?_)
  refine x_iload_n (j := 1) hc dX2_requireSharer_4 rfl rfl ?_
  refine x_aload_n (j := 0) hc dX2_requireSharer_5 rfl rfl ?_
  refine x_getR (C := RX2) (T := TX2) (NN := 5) (ci := 3) (ref := "NetPoints") hc 2 in_X2_requireSharer_3 rfl (by decide) lf_X2_requireSharer_22 (fun _ h9 => h9) hx.1 (by omega) (by decide) rfl hx.2.2.1 dX2_requireSharer_6 ?_
  refine x_callV (C := RJx4a65c) (T := TJx4a65c) (NN := 3) (ci := 0) (As := []) (st := [.int (nI j)]) hc hx.2.2.2.1.1 (by omega) (by decide) rfl (c_size l D z e0 L K N I J R (dr R x 2) 16 n hx.2.2.2.1.1 (by omega) hx.2.2.2.1.2.2.1) gX2_requireSharer_Jx4a65c_size_8abf5 rfl hdV_Jx4a65c_size_8abf5 ⟨Nat.le_of_ble_eq_true rfl, Nat.le_of_ble_eq_true rfl⟩ rfl rfl ⟨Nat.le_of_ble_eq_true rfl, Nat.le_of_ble_eq_true rfl⟩ (Nat.le_of_ble_eq_true rfl) dX2_requireSharer_9 (fun v9 I9 J9 hz9 => ?_)
  obtain ⟨rfl, hI9, hJ9⟩ := hz9
  replace hI9 := hI9.symm
  subst hI9
  replace hJ9 := hJ9.symm
  subst hJ9
  refine x_icmp_lt (tgt := 25) hc dX2_requireSharer_12 (by decide) (fun _ => ?_) (fun q9 => absurd (nI_lt hj (Nat.lt_of_le_of_lt hx.2.2.2.1.2.2.2.1 (by decide))) q9)
  exact x_vret hc hr (by decide) (by decide) dX2_requireSharer_25 (⟨rfl, rfl, rfl⟩)
abbrev rm_X2_pictureOf : Room := { frames := 0, cells := 0, slots := 0, locals := 0 }
set_option maxHeartbeats 4000000 in
set_option maxRecDepth 100000 in
theorem c_picOf (l : Launch) (D : va_G) (z e0 : Nat) (L : List Nat) (K N : Nat → Nat) (I : Nat → Nat → Int32) (J : Nat → Nat → Int64) (R : Nat → Nat → Option Nat) (x k : Nat) (hA : At L K N x 3 0) (hk : k < 2) (h0 : R x k = some (dr R x k)) : MG l yX2_pictureOf wsX2_pictureOf rm_X2_pictureOf D z e0 L K N I J R [.ref x, .int (nI k)] (fun v I' J' => v = some (.ref (dr R x k)) ∧ I' = I ∧ J' = J) := by
  refine mg_of (own := RX2) (maxL := 2) (ret := (some (.object "NetPoints$Picture"))) (by decide +kernel) rfl rfl (Nat.le_of_ble_eq_true rfl) ?_
  intro pg ev s mi args below meth c hc hr
  rcases (show k = 0 ∨ k = 1 by omega) with rfl | rfl
  · refine x_iload_n (j := 1) hc dX2_pictureOf_0 rfl rfl ?_
    refine x_if_ne (tgt := 11) hc dX2_pictureOf_1 (by decide) (fun q9 => absurd q9 (fun h => h rfl)) (fun _ => ?_)
    refine x_aload_n (j := 0) hc dX2_pictureOf_4 rfl rfl ?_
    refine x_getR (C := RX2) (T := TX2) (NN := 5) (ci := 3) (ref := "NetPoints") hc 0 in_X2_pictureOf_3 rfl (by decide) lf_X2_pictureOf_10 (fun _ h9 => h9) hA (by omega) (by decide) rfl h0 dX2_pictureOf_5 ?_
    refine x_goto (tgt := 15) hc dX2_pictureOf_8 (by decide) ?_
    exact x_aret hc hr (Or.inl ⟨_, rfl⟩) (by decide) (by decide) dX2_pictureOf_15 (⟨rfl, rfl, rfl⟩)
  · refine x_iload_n (j := 1) hc dX2_pictureOf_0 rfl rfl ?_
    refine x_if_ne (tgt := 11) hc dX2_pictureOf_1 (by decide) (fun _ => ?_) (fun q9 => absurd q9 (by decide))
    refine x_aload_n (j := 0) hc dX2_pictureOf_11 rfl rfl ?_
    refine x_getR (C := RX2) (T := TX2) (NN := 5) (ci := 3) (ref := "NetPoints") hc 1 in_X2_pictureOf_3 rfl (by decide) lf_X2_pictureOf_16 (fun _ h9 => h9) hA (by omega) (by decide) rfl h0 dX2_pictureOf_12 ?_
    exact x_aret hc hr (Or.inl ⟨_, rfl⟩) (by decide) (by decide) dX2_pictureOf_15 (⟨rfl, rfl, rfl⟩)
abbrev rm_X2_setRates : Room := { frames := 7, cells := 0, slots := 0, locals := 104 }
set_option maxHeartbeats 4000000 in
set_option maxRecDepth 100000 in
theorem c_setRates (l : Launch) (D : va_G) (z e0 : Nat) (L : List Nat) (K N : Nat → Nat) (I : Nat → Nat → Int32) (J : Nat → Nat → Int64) (R : Nat → Nat → Option Nat) (x now n : Nat) (nn : Nat → Nat) (hx : Cls L K N I R x now n nn) (k : Nat) (hk : k < 2) (t o i : Int32) (h1 : 0 ≤ t ∧ t ≤ 10000) (h2 : 0 ≤ o ∧ o ≤ 10000) (h3 : 0 ≤ i ∧ i ≤ 2000) : MG l yX2_setRates wsX2_setRates rm_X2_setRates D z e0 L K N I J R [.ref x, .int (nI k), .int t, .int o, .int i] (fun v I' J' => v = none ∧ I' = u2 (u2 (u2 I (dr R x k) 4 t) (dr R x k) 5 o) (dr R x k) 6 i ∧ J' = J) := by
  refine mg_of (own := RX2) (maxL := 6) (ret := none) (by decide +kernel) rfl rfl (Nat.le_of_ble_eq_true rfl) ?_
  intro pg ev s mi args below meth c hc hr
  refine x_iload_n (j := 1) hc dX2_setRates_0 rfl rfl ?_
  refine x_callS (As := [.int (nI k)]) (st := []) hc (c_reqPic l D z e0 L K N I J R k hk) gX2_setRates_X2_requirePicture rfl hdS_X2_requirePicture ⟨Nat.le_of_ble_eq_true rfl, Nat.le_of_ble_eq_true rfl⟩ rfl rfl ⟨Nat.le_of_ble_eq_true rfl, Nat.le_of_ble_eq_true rfl⟩ (Nat.le_of_ble_eq_true rfl) dX2_setRates_1 (fun v9 I9 J9 hz9 => ?_)
  obtain ⟨rfl, hI9, hJ9⟩ := hz9
  replace hI9 := hI9.symm
  subst hI9
  replace hJ9 := hJ9.symm
  subst hJ9
  refine x_iload_n (j := 2) hc dX2_setRates_4 rfl rfl ?_
  refine x_iconst (v := 0) hc dX2_setRates_5 (by decide) ?_
  refine x_sipush (v := 10000) hc dX2_setRates_6 (by decide) ?_
  refine x_callS (As := [.int t, .int 0, .int 10000]) (st := []) hc (c_reqRange l D z e0 L K N I J R t 0 10000 h1.1 h1.2) gX2_setRates_X2_requireRange rfl hdS_X2_requireRange ⟨Nat.le_of_ble_eq_true rfl, Nat.le_of_ble_eq_true rfl⟩ rfl rfl ⟨Nat.le_of_ble_eq_true rfl, Nat.le_of_ble_eq_true rfl⟩ (Nat.le_of_ble_eq_true rfl) dX2_setRates_9 (fun v9 I9 J9 hz9 => ?_)
  obtain ⟨rfl, hI9, hJ9⟩ := hz9
  replace hI9 := hI9.symm
  subst hI9
  replace hJ9 := hJ9.symm
  subst hJ9
  refine x_iload_n (j := 3) hc dX2_setRates_12 rfl rfl ?_
  refine x_iconst (v := 0) hc dX2_setRates_13 (by decide) ?_
  refine x_sipush (v := 10000) hc dX2_setRates_14 (by decide) ?_
  refine x_callS (As := [.int o, .int 0, .int 10000]) (st := []) hc (c_reqRange l D z e0 L K N I J R o 0 10000 h2.1 h2.2) gX2_setRates_X2_requireRange rfl hdS_X2_requireRange ⟨Nat.le_of_ble_eq_true rfl, Nat.le_of_ble_eq_true rfl⟩ rfl rfl ⟨Nat.le_of_ble_eq_true rfl, Nat.le_of_ble_eq_true rfl⟩ (Nat.le_of_ble_eq_true rfl) dX2_setRates_17 (fun v9 I9 J9 hz9 => ?_)
  obtain ⟨rfl, hI9, hJ9⟩ := hz9
  replace hI9 := hI9.symm
  subst hI9
  replace hJ9 := hJ9.symm
  subst hJ9
  refine x_iload (j := 4) hc dX2_setRates_20 rfl ?_
  refine x_iconst (v := 0) hc dX2_setRates_22 (by decide) ?_
  refine x_sipush (v := 2000) hc dX2_setRates_23 (by decide) ?_
  refine x_callS (As := [.int i, .int 0, .int 2000]) (st := []) hc (c_reqRange l D z e0 L K N I J R i 0 2000 h3.1 h3.2) gX2_setRates_X2_requireRange rfl hdS_X2_requireRange ⟨Nat.le_of_ble_eq_true rfl, Nat.le_of_ble_eq_true rfl⟩ rfl rfl ⟨Nat.le_of_ble_eq_true rfl, Nat.le_of_ble_eq_true rfl⟩ (Nat.le_of_ble_eq_true rfl) dX2_setRates_26 (fun v9 I9 J9 hz9 => ?_)
  obtain ⟨rfl, hI9, hJ9⟩ := hz9
  replace hI9 := hI9.symm
  subst hI9
  replace hJ9 := hJ9.symm
  subst hJ9
  refine x_aload_n (j := 0) hc dX2_setRates_29 rfl rfl ?_
  refine x_iload_n (j := 1) hc dX2_setRates_30 rfl rfl ?_
  obtain ⟨hp0, hp1, hp2, hp3, hp4, hp5, hp6, hp7, hp8, hp9, hp10, hp11, hp12⟩ := (hx.2.1 k hk).2.1
  refine x_callV (C := RX2) (T := TX2) (NN := 5) (ci := 3) (As := [.int (nI k)]) (st := []) hc hx.1 (by omega) (by decide) rfl (c_picOf l D z e0 L K N I J R x k hx.1 hk (hx.2.1 k hk).1) gX2_setRates_X2_pictureOf rfl hdV_X2_pictureOf ⟨Nat.le_of_ble_eq_true rfl, Nat.le_of_ble_eq_true rfl⟩ rfl rfl ⟨Nat.le_of_ble_eq_true rfl, Nat.le_of_ble_eq_true rfl⟩ (Nat.le_of_ble_eq_true rfl) dX2_setRates_31 (fun v9 I9 J9 hz9 => ?_)
  obtain ⟨rfl, hI9, hJ9⟩ := hz9
  replace hI9 := hI9.symm
  subst hI9
  replace hJ9 := hJ9.symm
  subst hJ9
  refine x_astore (lv' := [(5, .ref (dr R x k)), (0, .ref x), (1, .int (nI k)), (2, .int t), (3, .int o), (4, .int i)]) hc dX2_setRates_34 (by decide) rfl ?_
  refine x_aload (j := 0) hc dX2_setRates_36 rfl ?_
  refine x_iload_n (j := 3) hc dX2_setRates_38 rfl rfl ?_
  refine x_putI (C := RX0) (T := TX0) (NN := 15) (ci := 1) (ref := "NetPoints$Picture") hc 4 in_X2_setRates_1 rfl (by decide) lf_X2_setRates_46 (fun _ h9 => h9) tyX0 tyX0_ok nmX0 hp0 (by omega) (by decide) rfl rfl pd_X0_4 dX2_setRates_39 ?_
  refine x_aload (j := 0) hc dX2_setRates_42 rfl ?_
  refine x_iload_n (j := 4) hc dX2_setRates_44 rfl rfl ?_
  refine x_putI (C := RX0) (T := TX0) (NN := 15) (ci := 1) (ref := "NetPoints$Picture") hc 5 in_X2_setRates_1 rfl (by decide) lf_X2_setRates_49 (fun _ h9 => h9) tyX0 tyX0_ok nmX0 hp0 (by omega) (by decide) rfl rfl pd_X0_5 dX2_setRates_45 ?_
  refine x_aload (j := 0) hc dX2_setRates_48 rfl ?_
  refine x_iload (j := 5) hc dX2_setRates_50 rfl ?_
  refine x_putI (C := RX0) (T := TX0) (NN := 15) (ci := 1) (ref := "NetPoints$Picture") hc 6 in_X2_setRates_1 rfl (by decide) lf_X2_setRates_52 (fun _ h9 => h9) tyX0 tyX0_ok nmX0 hp0 (by omega) (by decide) rfl rfl pd_X0_6 dX2_setRates_52 ?_
  exact x_vret hc hr (by decide) (by decide) dX2_setRates_55 (⟨rfl, rfl, rfl⟩)
abbrev rm_X2_setFee : Room := { frames := 7, cells := 0, slots := 0, locals := 104 }
set_option maxHeartbeats 4000000 in
set_option maxRecDepth 100000 in
theorem c_setFee (l : Launch) (D : va_G) (z e0 : Nat) (L : List Nat) (K N : Nat → Nat) (I : Nat → Nat → Int32) (J : Nat → Nat → Int64) (R : Nat → Nat → Option Nat) (x now n : Nat) (nn : Nat → Nat) (hx : Cls L K N I R x now n nn) (k : Nat) (hk : k < 2) (w : Nat) (hw : w < 4) (t : Int32) (h1 : 0 ≤ t ∧ t ≤ 10000) : MG l yX2_setFee wsX2_setFee rm_X2_setFee D z e0 L K N I J R [.ref x, .int (nI k), .int (nI w), .int t] (fun v I' J' => v = some (.int (I (dr R (dr R x k) 2) w)) ∧ I' = u2 I (dr R (dr R x k) 2) w t ∧ J' = J) := by
  refine mg_of (own := RX2) (maxL := 6) (ret := (some .int)) (by decide +kernel) rfl rfl (Nat.le_of_ble_eq_true rfl) ?_
  intro pg ev s mi args below meth c hc hr
  refine x_iload_n (j := 1) hc dX2_setFee_0 rfl rfl ?_
  refine x_callS (As := [.int (nI k)]) (st := []) hc (c_reqPic l D z e0 L K N I J R k hk) gX2_setFee_X2_requirePicture rfl hdS_X2_requirePicture ⟨Nat.le_of_ble_eq_true rfl, Nat.le_of_ble_eq_true rfl⟩ rfl rfl ⟨Nat.le_of_ble_eq_true rfl, Nat.le_of_ble_eq_true rfl⟩ (Nat.le_of_ble_eq_true rfl) dX2_setFee_1 (fun v9 I9 J9 hz9 => ?_)
  obtain ⟨rfl, hI9, hJ9⟩ := hz9
  replace hI9 := hI9.symm
  subst hI9
  replace hJ9 := hJ9.symm
  subst hJ9
  refine x_iload_n (j := 2) hc dX2_setFee_4 rfl rfl ?_
  refine x_callS (As := [.int (nI w)]) (st := []) hc (c_reqWin l D z e0 L K N I J R w hw) gX2_setFee_X2_requireWindow rfl hdS_X2_requireWindow ⟨Nat.le_of_ble_eq_true rfl, Nat.le_of_ble_eq_true rfl⟩ rfl rfl ⟨Nat.le_of_ble_eq_true rfl, Nat.le_of_ble_eq_true rfl⟩ (Nat.le_of_ble_eq_true rfl) dX2_setFee_5 (fun v9 I9 J9 hz9 => ?_)
  obtain ⟨rfl, hI9, hJ9⟩ := hz9
  replace hI9 := hI9.symm
  subst hI9
  replace hJ9 := hJ9.symm
  subst hJ9
  refine x_iload_n (j := 3) hc dX2_setFee_8 rfl rfl ?_
  refine x_iconst (v := 0) hc dX2_setFee_9 (by decide) ?_
  refine x_sipush (v := 10000) hc dX2_setFee_10 (by decide) ?_
  refine x_callS (As := [.int t, .int 0, .int 10000]) (st := []) hc (c_reqRange l D z e0 L K N I J R t 0 10000 h1.1 h1.2) gX2_setFee_X2_requireRange rfl hdS_X2_requireRange ⟨Nat.le_of_ble_eq_true rfl, Nat.le_of_ble_eq_true rfl⟩ rfl rfl ⟨Nat.le_of_ble_eq_true rfl, Nat.le_of_ble_eq_true rfl⟩ (Nat.le_of_ble_eq_true rfl) dX2_setFee_13 (fun v9 I9 J9 hz9 => ?_)
  obtain ⟨rfl, hI9, hJ9⟩ := hz9
  replace hI9 := hI9.symm
  subst hI9
  replace hJ9 := hJ9.symm
  subst hJ9
  refine x_aload_n (j := 0) hc dX2_setFee_16 rfl rfl ?_
  refine x_iload_n (j := 1) hc dX2_setFee_17 rfl rfl ?_
  obtain ⟨hp0, hp1, hp2, hp3, hp4, hp5, hp6, hp7, hp8, hp9, hp10, hp11, hp12⟩ := (hx.2.1 k hk).2.1
  refine x_callV (C := RX2) (T := TX2) (NN := 5) (ci := 3) (As := [.int (nI k)]) (st := []) hc hx.1 (by omega) (by decide) rfl (c_picOf l D z e0 L K N I J R x k hx.1 hk (hx.2.1 k hk).1) gX2_setFee_X2_pictureOf rfl hdV_X2_pictureOf ⟨Nat.le_of_ble_eq_true rfl, Nat.le_of_ble_eq_true rfl⟩ rfl rfl ⟨Nat.le_of_ble_eq_true rfl, Nat.le_of_ble_eq_true rfl⟩ (Nat.le_of_ble_eq_true rfl) dX2_setFee_18 (fun v9 I9 J9 hz9 => ?_)
  obtain ⟨rfl, hI9, hJ9⟩ := hz9
  replace hI9 := hI9.symm
  subst hI9
  replace hJ9 := hJ9.symm
  subst hJ9
  refine x_astore (lv' := [(4, .ref (dr R x k)), (0, .ref x), (1, .int (nI k)), (2, .int (nI w)), (3, .int t)]) hc dX2_setFee_21 (by decide) rfl ?_
  refine x_aload (j := 0) hc dX2_setFee_23 rfl ?_
  refine x_getR (C := RX0) (T := TX0) (NN := 15) (ci := 1) (ref := "NetPoints$Picture") hc 2 in_X2_setFee_1 rfl (by decide) lf_X2_setFee_58 (fun _ h9 => h9) hp0 (by omega) (by decide) rfl hp6 dX2_setFee_25 ?_
  refine x_iload_n (j := 3) hc dX2_setFee_28 rfl rfl ?_
  refine x_iald hc hp7 (by decide) rfl hw (by omega) dX2_setFee_29 ?_
  refine x_istore (lv' := [(5, .int (I (dr R (dr R x k) 2) w)), (4, .ref (dr R x k)), (0, .ref x), (1, .int (nI k)), (2, .int (nI w)), (3, .int t)]) hc dX2_setFee_30 (by decide) rfl ?_
  refine x_aload (j := 1) hc dX2_setFee_32 rfl ?_
  refine x_getR (C := RX0) (T := TX0) (NN := 15) (ci := 1) (ref := "NetPoints$Picture") hc 2 in_X2_setFee_1 rfl (by decide) lf_X2_setFee_58 (fun _ h9 => h9) hp0 (by omega) (by decide) rfl hp6 dX2_setFee_34 ?_
  refine x_iload_n (j := 4) hc dX2_setFee_37 rfl rfl ?_
  refine x_iload_n (j := 5) hc dX2_setFee_38 rfl rfl ?_
  refine x_iast hc hp7 (by decide) rfl hw (by omega) dX2_setFee_39 ?_
  refine x_iload (j := 0) hc dX2_setFee_40 rfl ?_
  exact x_iret hc hr (by decide) (by decide) dX2_setFee_42 (⟨rfl, rfl, rfl⟩)
abbrev rm_X2_setCrossed : Room := { frames := 0, cells := 0, slots := 0, locals := 0 }
set_option maxHeartbeats 4000000 in
set_option maxRecDepth 100000 in
theorem c_setCrossed (l : Launch) (D : va_G) (z e0 : Nat) (L : List Nat) (K N : Nat → Nat) (I : Nat → Nat → Int32) (J : Nat → Nat → Int64) (R : Nat → Nat → Option Nat) (x now n : Nat) (nn : Nat → Nat) (hx : Cls L K N I R x now n nn) (t : Int32) (ht : t = 0 ∨ t = 1) : MG l yX2_setCrossed wsX2_setCrossed rm_X2_setCrossed D z e0 L K N I J R [.ref x, .int t] (fun v I' J' => v = some (.int (I x 3)) ∧ I' = u2 I x 3 t ∧ J' = J) := by
  refine mg_of (own := RX2) (maxL := 3) (ret := (some .boolean)) (by decide +kernel) rfl rfl (Nat.le_of_ble_eq_true rfl) ?_
  intro pg ev s mi args below meth c hc hr
  refine x_aload_n (j := 0) hc dX2_setCrossed_0 rfl rfl ?_
  refine x_getI (C := RX2) (T := TX2) (NN := 5) (ci := 3) (ref := "NetPoints") hc 3 in_X2_setCrossed_3 rfl (by decide) lf_X2_setCrossed_26 (fun _ h9 => h9) hx.1 (by omega) (by decide) rfl dX2_setCrossed_1 ?_
  refine x_istore_n (lv' := [(2, .int (I x 3)), (0, .ref x), (1, .int t)]) hc dX2_setCrossed_4 rfl (by decide) rfl ?_
  refine x_aload_n (j := 1) hc dX2_setCrossed_5 rfl rfl ?_
  refine x_iload_n (j := 2) hc dX2_setCrossed_6 rfl rfl ?_
  refine x_putZ (C := RX2) (T := TX2) (NN := 5) (ci := 3) (ref := "NetPoints") hc 3 in_X2_setCrossed_3 rfl (by decide) lf_X2_setCrossed_26 (fun _ h9 => h9) tyX2 tyX2_ok nmX2 hx.1 (by omega) (by decide) rfl rfl pd_X2_3 (by rcases ht with rfl | rfl <;> rfl) (by rcases ht with rfl | rfl <;> rfl) dX2_setCrossed_7 ?_
  refine x_iload_n (j := 0) hc dX2_setCrossed_10 rfl rfl ?_
  exact x_zret hc hr (by rcases hx.2.2.2.2.2.2 with h | h <;> rw [h] <;> rfl) (by decide) (by decide) dX2_setCrossed_11 (⟨rfl, rfl, rfl⟩)
abbrev rm_X2_receive : Room := { frames := 7, cells := 0, slots := 0, locals := 104 }
set_option maxHeartbeats 4000000 in
set_option maxRecDepth 100000 in
theorem c_receive (l : Launch) (D : va_G) (z e0 : Nat) (L : List Nat) (K N : Nat → Nat) (I : Nat → Nat → Int32) (J : Nat → Nat → Int64) (R : Nat → Nat → Option Nat) (x now n : Nat) (nn : Nat → Nat) (hx : Cls L K N I R x now n nn) (k : Nat) (hk : k < 2) (w : Nat) (hw : w < 4) (t : Int32) (h1 : 1 ≤ t ∧ t ≤ 200000) : MG l yX2_receive wsX2_receive rm_X2_receive D z e0 L K N I J R [.ref x, .int (nI k), .int (nI w), .int t] (fun v I' J' => v = some (.int (I (rwA R (dr R x k) now) w + t)) ∧ I' = u2 I (rwA R (dr R x k) now) w (I (rwA R (dr R x k) now) w + t) ∧ J' = J) := by
  refine mg_of (own := RX2) (maxL := 5) (ret := (some .int)) (by decide +kernel) rfl rfl (Nat.le_of_ble_eq_true rfl) ?_
  intro pg ev s mi args below meth c hc hr
  refine x_iload_n (j := 1) hc dX2_receive_0 rfl rfl ?_
  refine x_callS (As := [.int (nI k)]) (st := []) hc (c_reqPic l D z e0 L K N I J R k hk) gX2_receive_X2_requirePicture rfl hdS_X2_requirePicture ⟨Nat.le_of_ble_eq_true rfl, Nat.le_of_ble_eq_true rfl⟩ rfl rfl ⟨Nat.le_of_ble_eq_true rfl, Nat.le_of_ble_eq_true rfl⟩ (Nat.le_of_ble_eq_true rfl) dX2_receive_1 (fun v9 I9 J9 hz9 => ?_)
  obtain ⟨rfl, hI9, hJ9⟩ := hz9
  replace hI9 := hI9.symm
  subst hI9
  replace hJ9 := hJ9.symm
  subst hJ9
  refine x_iload_n (j := 2) hc dX2_receive_4 rfl rfl ?_
  refine x_callS (As := [.int (nI w)]) (st := []) hc (c_reqWin l D z e0 L K N I J R w hw) gX2_receive_X2_requireWindow rfl hdS_X2_requireWindow ⟨Nat.le_of_ble_eq_true rfl, Nat.le_of_ble_eq_true rfl⟩ rfl rfl ⟨Nat.le_of_ble_eq_true rfl, Nat.le_of_ble_eq_true rfl⟩ (Nat.le_of_ble_eq_true rfl) dX2_receive_5 (fun v9 I9 J9 hz9 => ?_)
  obtain ⟨rfl, hI9, hJ9⟩ := hz9
  replace hI9 := hI9.symm
  subst hI9
  replace hJ9 := hJ9.symm
  subst hJ9
  refine x_iload_n (j := 3) hc dX2_receive_8 rfl rfl ?_
  refine x_iconst (v := 1) hc dX2_receive_9 (by decide) ?_
  refine x_ldc hc dX2_receive_10 lc_X2_receive_89 ?_
  refine x_callS (As := [.int t, .int 1, .int 200000]) (st := []) hc (c_reqRange l D z e0 L K N I J R t 1 200000 h1.1 h1.2) gX2_receive_X2_requireRange rfl hdS_X2_requireRange ⟨Nat.le_of_ble_eq_true rfl, Nat.le_of_ble_eq_true rfl⟩ rfl rfl ⟨Nat.le_of_ble_eq_true rfl, Nat.le_of_ble_eq_true rfl⟩ (Nat.le_of_ble_eq_true rfl) dX2_receive_12 (fun v9 I9 J9 hz9 => ?_)
  obtain ⟨rfl, hI9, hJ9⟩ := hz9
  replace hI9 := hI9.symm
  subst hI9
  replace hJ9 := hJ9.symm
  subst hJ9
  refine x_aload_n (j := 0) hc dX2_receive_15 rfl rfl ?_
  refine x_iload_n (j := 1) hc dX2_receive_16 rfl rfl ?_
  obtain ⟨hp0, hp1, hp2, hp3, hp4, hp5, hp6, hp7, hp8, hp9, hp10, hp11, hp12⟩ := (hx.2.1 k hk).2.1
  refine x_callV (C := RX2) (T := TX2) (NN := 5) (ci := 3) (As := [.int (nI k)]) (st := []) hc hx.1 (by omega) (by decide) rfl (c_picOf l D z e0 L K N I J R x k hx.1 hk (hx.2.1 k hk).1) gX2_receive_X2_pictureOf rfl hdV_X2_pictureOf ⟨Nat.le_of_ble_eq_true rfl, Nat.le_of_ble_eq_true rfl⟩ rfl rfl ⟨Nat.le_of_ble_eq_true rfl, Nat.le_of_ble_eq_true rfl⟩ (Nat.le_of_ble_eq_true rfl) dX2_receive_17 (fun v9 I9 J9 hz9 => ?_)
  obtain ⟨rfl, hI9, hJ9⟩ := hz9
  replace hI9 := hI9.symm
  subst hI9
  replace hJ9 := hJ9.symm
  subst hJ9
  refine x_getR (C := RX0) (T := TX0) (NN := 15) (ci := 1) (ref := "NetPoints$Picture") hc 0 in_X2_receive_1 rfl (by decide) lf_X2_receive_90 (fun _ h9 => h9) hp0 (by omega) (by decide) rfl hp1 dX2_receive_20 ?_
  refine x_aload_n (j := 0) hc dX2_receive_23 rfl rfl ?_
  refine x_getI (C := RX2) (T := TX2) (NN := 5) (ci := 3) (ref := "NetPoints") hc 4 in_X2_receive_3 rfl (by decide) lf_X2_receive_30 (fun _ h9 => h9) hx.1 (by omega) (by decide) rfl dX2_receive_24 ?_
  refine x_vali (hx.2.2.2.2.1) ?_
  refine x_aaldA hc hp2 (by decide) rfl hx.2.2.2.2.2.1 (by omega) ((hp3 now hx.2.2.2.2.2.1).1) dX2_receive_27 ?_
  refine x_astore (lv' := [(4, .ref (rwA R (dr R x k) now)), (0, .ref x), (1, .int (nI k)), (2, .int (nI w)), (3, .int t)]) hc dX2_receive_28 (by decide) rfl ?_
  refine x_aload (j := 0) hc dX2_receive_30 rfl ?_
  refine x_iload_n (j := 3) hc dX2_receive_32 rfl rfl ?_
  refine x_dup2 hc dX2_receive_33 rfl rfl ?_
  refine x_iald hc ((hp3 now hx.2.2.2.2.2.1).2) (by decide) rfl hw (by omega) dX2_receive_34 ?_
  refine x_iload_n (j := 4) hc dX2_receive_35 rfl rfl ?_
  refine x_iadd hc dX2_receive_36 ?_
  refine x_iast hc ((hp3 now hx.2.2.2.2.2.1).2) (by decide) rfl hw (by omega) dX2_receive_37 ?_
  refine x_aload (j := 0) hc dX2_receive_38 rfl ?_
  refine x_iload_n (j := 3) hc dX2_receive_40 rfl rfl ?_
  refine x_iald hc ((hp3 now hx.2.2.2.2.2.1).2) (by decide) rfl hw (by omega) dX2_receive_41 ?_
  refine x_vali (u2_s) ?_
  exact x_iret hc hr (by decide) (by decide) dX2_receive_42 (⟨rfl, rfl, rfl⟩)
abbrev rm_X2_spend : Room := { frames := 7, cells := 0, slots := 0, locals := 104 }
set_option maxHeartbeats 4000000 in
set_option maxRecDepth 100000 in
theorem c_spend (l : Launch) (D : va_G) (z e0 : Nat) (L : List Nat) (K N : Nat → Nat) (I : Nat → Nat → Int32) (J : Nat → Nat → Int64) (R : Nat → Nat → Option Nat) (x now n : Nat) (nn : Nat → Nat) (hx : Cls L K N I R x now n nn) (k : Nat) (hk : k < 2) (t : Int32) (h1 : 1 ≤ t ∧ t ≤ 200000) : MG l yX2_spend wsX2_spend rm_X2_spend D z e0 L K N I J R [.ref x, .int (nI k), .int t] (fun v I' J' => v = some (.int (I (dr R (dr R x k) 1) now + t)) ∧ I' = u2 I (dr R (dr R x k) 1) now (I (dr R (dr R x k) 1) now + t) ∧ J' = J) := by
  refine mg_of (own := RX2) (maxL := 4) (ret := (some .int)) (by decide +kernel) rfl rfl (Nat.le_of_ble_eq_true rfl) ?_
  intro pg ev s mi args below meth c hc hr
  have hne9 : x ≠ dr R (dr R x k) 1 := (hx.1.ne (hx.2.1 k hk).2.1.2.2.2.2.2.1 (by omega))
  refine x_iload_n (j := 1) hc dX2_spend_0 rfl rfl ?_
  refine x_callS (As := [.int (nI k)]) (st := []) hc (c_reqPic l D z e0 L K N I J R k hk) gX2_spend_X2_requirePicture rfl hdS_X2_requirePicture ⟨Nat.le_of_ble_eq_true rfl, Nat.le_of_ble_eq_true rfl⟩ rfl rfl ⟨Nat.le_of_ble_eq_true rfl, Nat.le_of_ble_eq_true rfl⟩ (Nat.le_of_ble_eq_true rfl) dX2_spend_1 (fun v9 I9 J9 hz9 => ?_)
  obtain ⟨rfl, hI9, hJ9⟩ := hz9
  replace hI9 := hI9.symm
  subst hI9
  replace hJ9 := hJ9.symm
  subst hJ9
  refine x_iload_n (j := 2) hc dX2_spend_4 rfl rfl ?_
  refine x_iconst (v := 1) hc dX2_spend_5 (by decide) ?_
  refine x_ldc hc dX2_spend_6 lc_X2_spend_89 ?_
  refine x_callS (As := [.int t, .int 1, .int 200000]) (st := []) hc (c_reqRange l D z e0 L K N I J R t 1 200000 h1.1 h1.2) gX2_spend_X2_requireRange rfl hdS_X2_requireRange ⟨Nat.le_of_ble_eq_true rfl, Nat.le_of_ble_eq_true rfl⟩ rfl rfl ⟨Nat.le_of_ble_eq_true rfl, Nat.le_of_ble_eq_true rfl⟩ (Nat.le_of_ble_eq_true rfl) dX2_spend_8 (fun v9 I9 J9 hz9 => ?_)
  obtain ⟨rfl, hI9, hJ9⟩ := hz9
  replace hI9 := hI9.symm
  subst hI9
  replace hJ9 := hJ9.symm
  subst hJ9
  refine x_aload_n (j := 0) hc dX2_spend_11 rfl rfl ?_
  refine x_iload_n (j := 1) hc dX2_spend_12 rfl rfl ?_
  obtain ⟨hp0, hp1, hp2, hp3, hp4, hp5, hp6, hp7, hp8, hp9, hp10, hp11, hp12⟩ := (hx.2.1 k hk).2.1
  refine x_callV (C := RX2) (T := TX2) (NN := 5) (ci := 3) (As := [.int (nI k)]) (st := []) hc hx.1 (by omega) (by decide) rfl (c_picOf l D z e0 L K N I J R x k hx.1 hk (hx.2.1 k hk).1) gX2_spend_X2_pictureOf rfl hdV_X2_pictureOf ⟨Nat.le_of_ble_eq_true rfl, Nat.le_of_ble_eq_true rfl⟩ rfl rfl ⟨Nat.le_of_ble_eq_true rfl, Nat.le_of_ble_eq_true rfl⟩ (Nat.le_of_ble_eq_true rfl) dX2_spend_13 (fun v9 I9 J9 hz9 => ?_)
  obtain ⟨rfl, hI9, hJ9⟩ := hz9
  replace hI9 := hI9.symm
  subst hI9
  replace hJ9 := hJ9.symm
  subst hJ9
  refine x_getR (C := RX0) (T := TX0) (NN := 15) (ci := 1) (ref := "NetPoints$Picture") hc 1 in_X2_spend_1 rfl (by decide) lf_X2_spend_94 (fun _ h9 => h9) hp0 (by omega) (by decide) rfl hp4 dX2_spend_16 ?_
  refine x_astore_n (lv' := [(3, .ref (dr R (dr R x k) 1)), (0, .ref x), (1, .int (nI k)), (2, .int t)]) hc dX2_spend_19 rfl (by decide) rfl ?_
  refine x_aload_n (j := 0) hc dX2_spend_20 rfl rfl ?_
  refine x_aload_n (j := 1) hc dX2_spend_21 rfl rfl ?_
  refine x_getI (C := RX2) (T := TX2) (NN := 5) (ci := 3) (ref := "NetPoints") hc 4 in_X2_spend_3 rfl (by decide) lf_X2_spend_30 (fun _ h9 => h9) hx.1 (by omega) (by decide) rfl dX2_spend_22 ?_
  refine x_vali (hx.2.2.2.2.1) ?_
  refine x_dup2 hc dX2_spend_25 rfl rfl ?_
  refine x_iald hc hp5 (by decide) rfl hx.2.2.2.2.2.1 (by omega) dX2_spend_26 ?_
  refine x_iload_n (j := 3) hc dX2_spend_27 rfl rfl ?_
  refine x_iadd hc dX2_spend_28 ?_
  refine x_iast hc hp5 (by decide) rfl hx.2.2.2.2.2.1 (by omega) dX2_spend_29 ?_
  refine x_aload_n (j := 0) hc dX2_spend_30 rfl rfl ?_
  refine x_aload_n (j := 1) hc dX2_spend_31 rfl rfl ?_
  refine x_getI (C := RX2) (T := TX2) (NN := 5) (ci := 3) (ref := "NetPoints") hc 4 in_X2_spend_3 rfl (by decide) lf_X2_spend_30 (fun _ h9 => h9) hx.1 (by omega) (by decide) rfl dX2_spend_32 ?_
  refine x_vali ((u2_a hne9).trans hx.2.2.2.2.1) ?_
  refine x_iald hc hp5 (by decide) rfl hx.2.2.2.2.2.1 (by omega) dX2_spend_35 ?_
  refine x_vali (u2_s) ?_
  exact x_iret hc hr (by decide) (by decide) dX2_spend_36 (⟨rfl, rfl, rfl⟩)
abbrev rm_X2_closeYear : Room := { frames := 6, cells := 0, slots := 0, locals := 82 }
set_option maxHeartbeats 4000000 in
set_option maxRecDepth 100000 in
theorem c_closeYear (l : Launch) (D : va_G) (z e0 : Nat) (L : List Nat) (K N : Nat → Nat) (I : Nat → Nat → Int32) (J : Nat → Nat → Int64) (R : Nat → Nat → Option Nat) (x now n : Nat) (nn : Nat → Nat) (hx : Cls L K N I R x now n nn) (h9 : now < 9) : MG l yX2_closeYear wsX2_closeYear rm_X2_closeYear D z e0 L K N I J R [.ref x] (fun v I' J' => v = some (.int (nI (now + 1))) ∧ I' = u2 I x 4 (nI (now + 1)) ∧ J' = J) := by
  refine mg_of (own := RX2) (maxL := 1) (ret := (some .int)) (by decide +kernel) rfl rfl (Nat.le_of_ble_eq_true rfl) ?_
  intro pg ev s mi args below meth c hc hr
  refine x_aload_n (j := 0) hc dX2_closeYear_0 rfl rfl ?_
  refine x_getI (C := RX2) (T := TX2) (NN := 5) (ci := 3) (ref := "NetPoints") hc 4 in_X2_closeYear_3 rfl (by decide) lf_X2_closeYear_30 (fun _ h9 => h9) hx.1 (by omega) (by decide) rfl dX2_closeYear_1 ?_
  refine x_vali (hx.2.2.2.2.1) ?_
  refine x_bipush (v := 9) hc dX2_closeYear_4 (by decide) ?_
  refine x_icmp_lt (tgt := 19) hc dX2_closeYear_6 (by decide) (fun _ => ?_) (fun q9 => absurd (nI_lt h9 (by decide)) q9)
  refine x_aload_n (j := 0) hc dX2_closeYear_19 rfl rfl ?_
  refine x_dup hc dX2_closeYear_20 rfl ?_
  refine x_getI (C := RX2) (T := TX2) (NN := 5) (ci := 3) (ref := "NetPoints") hc 4 in_X2_closeYear_3 rfl (by decide) lf_X2_closeYear_30 (fun _ h9 => h9) hx.1 (by omega) (by decide) rfl dX2_closeYear_21 ?_
  refine x_vali (hx.2.2.2.2.1) ?_
  refine x_iconst (v := 1) hc dX2_closeYear_24 (by decide) ?_
  refine x_iadd hc dX2_closeYear_25 ?_
  refine x_putI (C := RX2) (T := TX2) (NN := 5) (ci := 3) (ref := "NetPoints") hc 4 in_X2_closeYear_3 rfl (by decide) lf_X2_closeYear_30 (fun _ h9 => h9) tyX2 tyX2_ok nmX2 hx.1 (by omega) (by decide) rfl rfl pd_X2_4 dX2_closeYear_26 ?_
  refine x_aload_n (j := 0) hc dX2_closeYear_29 rfl rfl ?_
  refine x_getI (C := RX2) (T := TX2) (NN := 5) (ci := 3) (ref := "NetPoints") hc 4 in_X2_closeYear_3 rfl (by decide) lf_X2_closeYear_30 (fun _ h9 => h9) hx.1 (by omega) (by decide) rfl dX2_closeYear_30 ?_
  refine x_vali (u2_s.trans (nI_1 now)) ?_
  exact x_iret hc hr (by decide) (by decide) dX2_closeYear_33 (⟨rfl, by rw [nI_1], rfl⟩)
abbrev rm_X2_year : Room := { frames := 0, cells := 0, slots := 0, locals := 0 }
set_option maxHeartbeats 4000000 in
set_option maxRecDepth 100000 in
theorem c_year (l : Launch) (D : va_G) (z e0 : Nat) (L : List Nat) (K N : Nat → Nat) (I : Nat → Nat → Int32) (J : Nat → Nat → Int64) (R : Nat → Nat → Option Nat) (x now n : Nat) (nn : Nat → Nat) (hx : Cls L K N I R x now n nn) : MG l yX2_year wsX2_year rm_X2_year D z e0 L K N I J R [.ref x] (fun v I' J' => v = some (.int (nI now)) ∧ I' = I ∧ J' = J) := by
  refine mg_of (own := RX2) (maxL := 1) (ret := (some .int)) (by decide +kernel) rfl rfl (Nat.le_of_ble_eq_true rfl) ?_
  intro pg ev s mi args below meth c hc hr
  refine x_aload_n (j := 0) hc dX2_year_0 rfl rfl ?_
  refine x_getI (C := RX2) (T := TX2) (NN := 5) (ci := 3) (ref := "NetPoints") hc 4 in_X2_year_3 rfl (by decide) lf_X2_year_30 (fun _ h9 => h9) hx.1 (by omega) (by decide) rfl dX2_year_1 ?_
  refine x_vali (hx.2.2.2.2.1) ?_
  exact x_iret hc hr (by decide) (by decide) dX2_year_4 (⟨rfl, rfl, rfl⟩)
