abbrev rm_X3_thrown : Room := { frames := 0, cells := 0, slots := 0, locals := 0 }
set_option maxHeartbeats 4000000 in
set_option maxRecDepth 100000 in
theorem m_thrown (l : Launch) (D : va_G) (z e0 : Nat) (L : List Nat) (K N : Nat → Nat) (I : Nat → Nat → Int32) (J : Nat → Nat → Int64) (R : Nat → Nat → Option Nat) (m : Nat) (hm : Mdl L K N R m) : MG l yX3_thrown wsX3_thrown rm_X3_thrown D z e0 L K N I J R [.ref m] (fun v I' J' => v = some (.int (I m 18)) ∧ I' = I ∧ J' = J) := by
  refine mg_of (own := RX3) (maxL := 1) (ret := (some .int)) (by decide +kernel) rfl rfl (Nat.le_of_ble_eq_true rfl) ?_
  intro pg ev s mi args below meth c hc hr
  refine x_aload_n (j := 0) hc dX3_thrown_0 rfl rfl ?_
  refine x_getI (C := RX3) (T := TX3) (NN := 19) (ci := 4) (ref := "NetPointsModel") hc 18 in_X3_thrown_4 rfl (by decide) lf_X3_thrown_56 (fun _ h9 => h9) hm.1 (by omega) (by decide) rfl dX3_thrown_1 ?_
  exact x_iret hc hr (by decide) (by decide) dX3_thrown_4 (⟨rfl, rfl, rfl⟩)
abbrev rm_X3_fails : Room := { frames := 0, cells := 0, slots := 0, locals := 0 }
set_option maxHeartbeats 4000000 in
set_option maxRecDepth 100000 in
theorem m_fails (l : Launch) (D : va_G) (z e0 : Nat) (L : List Nat) (K N : Nat → Nat) (I : Nat → Nat → Int32) (J : Nat → Nat → Int64) (R : Nat → Nat → Option Nat) (m : Nat) (hm : Mdl L K N R m) (v0 : Int32) : MG l yX3_fails wsX3_fails rm_X3_fails D z e0 L K N I J R [.ref m, .int v0] (fun v I' J' => v = some (.int 0) ∧ I' = u2 I m 18 v0 ∧ J' = J) := by
  refine mg_of (own := RX3) (maxL := 2) (ret := (some .int)) (by decide +kernel) rfl rfl (Nat.le_of_ble_eq_true rfl) ?_
  intro pg ev s mi args below meth c hc hr
  refine x_aload_n (j := 0) hc dX3_fails_0 rfl rfl ?_
  refine x_iload_n (j := 1) hc dX3_fails_1 rfl rfl ?_
  refine x_putI (C := RX3) (T := TX3) (NN := 19) (ci := 4) (ref := "NetPointsModel") hc 18 in_X3_fails_4 rfl (by decide) lf_X3_fails_56 (fun _ h9 => h9) tyX3 tyX3_ok nmX3 hm.1 (by omega) (by decide) rfl rfl pd_X3_18 dX3_fails_2 ?_
  refine x_iconst (v := 0) hc dX3_fails_5 (by decide) ?_
  exact x_iret hc hr (by decide) (by decide) dX3_fails_6 (⟨rfl, rfl, rfl⟩)
abbrev rm_X3_in : Room := { frames := 0, cells := 0, slots := 0, locals := 0 }
set_option maxHeartbeats 4000000 in
set_option maxRecDepth 100000 in
theorem m_inT (l : Launch) (D : va_G) (z e0 : Nat) (L : List Nat) (K N : Nat → Nat) (I : Nat → Nat → Int32) (J : Nat → Nat → Int64) (R : Nat → Nat → Option Nat) (v lo hi : Int32) (h1 : lo ≤ v) (h2 : v ≤ hi) : MG l yX3_in wsX3_in rm_X3_in D z e0 L K N I J R [.int v, .int lo, .int hi] (fun v I' J' => v = some (.int 1) ∧ I' = I ∧ J' = J) := by
  refine mg_of (own := RX3) (maxL := 3) (ret := (some .boolean)) (by decide +kernel) rfl rfl (Nat.le_of_ble_eq_true rfl) ?_
  intro pg ev s mi args below meth c hc hr
  refine x_iload_n (j := 0) hc dX3_in_0 rfl rfl ?_
  refine x_iload_n (j := 1) hc dX3_in_1 rfl rfl ?_
  refine x_icmp_lt (tgt := 14) hc dX3_in_2 (by decide) (fun q9 => absurd q9 (Int32.not_lt.mpr h1)) (fun _ => ?_)
  refine x_iload_n (j := 0) hc dX3_in_5 rfl rfl ?_
  refine x_iload_n (j := 2) hc dX3_in_6 rfl rfl ?_
  refine x_icmp_gt (tgt := 14) hc dX3_in_7 (by decide) (fun q9 => absurd q9 (Int32.not_lt.mpr h2)) (fun _ => ?_)
  refine x_iconst (v := 1) hc dX3_in_10 (by decide) ?_
  refine x_goto (tgt := 15) hc dX3_in_11 (by decide) ?_
  exact x_zret hc hr rfl (by decide) (by decide) dX3_in_15 (⟨rfl, rfl, rfl⟩)
set_option maxHeartbeats 4000000 in
set_option maxRecDepth 100000 in
theorem m_inF (l : Launch) (D : va_G) (z e0 : Nat) (L : List Nat) (K N : Nat → Nat) (I : Nat → Nat → Int32) (J : Nat → Nat → Int64) (R : Nat → Nat → Option Nat) (v lo hi : Int32) (h1 : ¬ (lo ≤ v ∧ v ≤ hi)) : MG l yX3_in wsX3_in rm_X3_in D z e0 L K N I J R [.int v, .int lo, .int hi] (fun v I' J' => v = some (.int 0) ∧ I' = I ∧ J' = J) := by
  refine mg_of (own := RX3) (maxL := 3) (ret := (some .boolean)) (by decide +kernel) rfl rfl (Nat.le_of_ble_eq_true rfl) ?_
  intro pg ev s mi args below meth c hc hr
  refine x_iload_n (j := 0) hc dX3_in_0 rfl rfl ?_
  refine x_iload_n (j := 1) hc dX3_in_1 rfl rfl ?_
  refine x_icmp_lt (tgt := 14) hc dX3_in_2 (by decide) (fun q1 => ?_) (fun q1 => ?_)
  · refine x_iconst (v := 0) hc dX3_in_14 (by decide) ?_
    exact x_zret hc hr rfl (by decide) (by decide) dX3_in_15 (⟨rfl, rfl, rfl⟩)
  · refine x_iload_n (j := 0) hc dX3_in_5 rfl rfl ?_
    refine x_iload_n (j := 2) hc dX3_in_6 rfl rfl ?_
    refine x_icmp_gt (tgt := 14) hc dX3_in_7 (by decide) (fun _ => ?_) (fun q9 => absurd (Int32.not_le.mp (fun h => h1 ⟨Int32.not_lt.mp q1, h⟩)) q9)
    refine x_iconst (v := 0) hc dX3_in_14 (by decide) ?_
    exact x_zret hc hr rfl (by decide) (by decide) dX3_in_15 (⟨rfl, rfl, rfl⟩)
abbrev rm_X3_isPicture : Room := { frames := 1, cells := 0, slots := 0, locals := 22 }
set_option maxHeartbeats 4000000 in
set_option maxRecDepth 100000 in
theorem m_isPicT (l : Launch) (D : va_G) (z e0 : Nat) (L : List Nat) (K N : Nat → Nat) (I : Nat → Nat → Int32) (J : Nat → Nat → Int64) (R : Nat → Nat → Option Nat) (k : Nat) (hk : k < 2) : MG l yX3_isPicture wsX3_isPicture rm_X3_isPicture D z e0 L K N I J R [.int (nI k)] (fun v I' J' => v = some (.int 1) ∧ I' = I ∧ J' = J) := by
  refine mg_of (own := RX3) (maxL := 1) (ret := (some .boolean)) (by decide +kernel) rfl rfl (Nat.le_of_ble_eq_true rfl) ?_
  intro pg ev s mi args below meth c hc hr
  refine x_iload_n (j := 0) hc dX3_isPicture_0 rfl rfl ?_
  refine x_iconst (v := 0) hc dX3_isPicture_1 (by decide) ?_
  refine x_iconst (v := 1) hc dX3_isPicture_2 (by decide) ?_
  refine x_callS (As := [.int (nI k), .int 0, .int 1]) (st := []) hc (m_inT l D z e0 L K N I J R (nI k) 0 1 (nI_pos' (Nat.lt_of_lt_of_le hk (by decide))) (nI_le (show k ≤ 1 by omega) (by decide))) gX3_isPicture_X3_in rfl hdS_X3_in ⟨Nat.le_of_ble_eq_true rfl, Nat.le_of_ble_eq_true rfl⟩ rfl rfl ⟨Nat.le_of_ble_eq_true rfl, Nat.le_of_ble_eq_true rfl⟩ (Nat.le_of_ble_eq_true rfl) dX3_isPicture_3 (fun v9 I9 J9 hz9 => ?_)
  obtain ⟨rfl, hI9, hJ9⟩ := hz9
  replace hI9 := hI9.symm
  subst hI9
  replace hJ9 := hJ9.symm
  subst hJ9
  exact x_zret hc hr rfl (by decide) (by decide) dX3_isPicture_6 (⟨rfl, rfl, rfl⟩)
set_option maxHeartbeats 4000000 in
set_option maxRecDepth 100000 in
theorem m_isPicF (l : Launch) (D : va_G) (z e0 : Nat) (L : List Nat) (K N : Nat → Nat) (I : Nat → Nat → Int32) (J : Nat → Nat → Int64) (R : Nat → Nat → Option Nat) (q : Int32) (hq : ¬ (0 ≤ q ∧ q ≤ 1)) : MG l yX3_isPicture wsX3_isPicture rm_X3_isPicture D z e0 L K N I J R [.int q] (fun v I' J' => v = some (.int 0) ∧ I' = I ∧ J' = J) := by
  refine mg_of (own := RX3) (maxL := 1) (ret := (some .boolean)) (by decide +kernel) rfl rfl (Nat.le_of_ble_eq_true rfl) ?_
  intro pg ev s mi args below meth c hc hr
  refine x_iload_n (j := 0) hc dX3_isPicture_0 rfl rfl ?_
  refine x_iconst (v := 0) hc dX3_isPicture_1 (by decide) ?_
  refine x_iconst (v := 1) hc dX3_isPicture_2 (by decide) ?_
  refine x_callS (As := [.int q, .int 0, .int 1]) (st := []) hc (m_inF l D z e0 L K N I J R q 0 1 hq) gX3_isPicture_X3_in rfl hdS_X3_in ⟨Nat.le_of_ble_eq_true rfl, Nat.le_of_ble_eq_true rfl⟩ rfl rfl ⟨Nat.le_of_ble_eq_true rfl, Nat.le_of_ble_eq_true rfl⟩ (Nat.le_of_ble_eq_true rfl) dX3_isPicture_3 (fun v9 I9 J9 hz9 => ?_)
  obtain ⟨rfl, hI9, hJ9⟩ := hz9
  replace hI9 := hI9.symm
  subst hI9
  replace hJ9 := hJ9.symm
  subst hJ9
  exact x_zret hc hr rfl (by decide) (by decide) dX3_isPicture_6 (⟨rfl, rfl, rfl⟩)
abbrev rm_X3_isWindow : Room := { frames := 2, cells := 0, slots := 0, locals := 42 }
set_option maxHeartbeats 4000000 in
set_option maxRecDepth 100000 in
theorem m_isWinT (l : Launch) (D : va_G) (z e0 : Nat) (L : List Nat) (K N : Nat → Nat) (I : Nat → Nat → Int32) (J : Nat → Nat → Int64) (R : Nat → Nat → Option Nat) (k : Nat) (hk : k < 2) (w : Nat) (hw : w < 4) : MG l yX3_isWindow wsX3_isWindow rm_X3_isWindow D z e0 L K N I J R [.int (nI k), .int (nI w)] (fun v I' J' => v = some (.int 1) ∧ I' = I ∧ J' = J) := by
  refine mg_of (own := RX3) (maxL := 2) (ret := (some .boolean)) (by decide +kernel) rfl rfl (Nat.le_of_ble_eq_true rfl) ?_
  intro pg ev s mi args below meth c hc hr
  refine x_iload_n (j := 0) hc dX3_isWindow_0 rfl rfl ?_
  refine x_callS (As := [.int (nI k)]) (st := []) hc (m_isPicT l D z e0 L K N I J R k hk) gX3_isWindow_X3_isPicture rfl hdS_X3_isPicture ⟨Nat.le_of_ble_eq_true rfl, Nat.le_of_ble_eq_true rfl⟩ rfl rfl ⟨Nat.le_of_ble_eq_true rfl, Nat.le_of_ble_eq_true rfl⟩ (Nat.le_of_ble_eq_true rfl) dX3_isWindow_1 (fun v9 I9 J9 hz9 => ?_)
  obtain ⟨rfl, hI9, hJ9⟩ := hz9
  replace hI9 := hI9.symm
  subst hI9
  replace hJ9 := hJ9.symm
  subst hJ9
  refine x_if_eq (tgt := 20) hc dX3_isWindow_4 (by decide) (fun q9 => absurd q9 (by decide)) (fun _ => ?_)
  refine x_iload_n (j := 1) hc dX3_isWindow_7 rfl rfl ?_
  refine x_iconst (v := 0) hc dX3_isWindow_8 (by decide) ?_
  refine x_iconst (v := 3) hc dX3_isWindow_9 (by decide) ?_
  refine x_callS (As := [.int (nI w), .int 0, .int 3]) (st := []) hc (m_inT l D z e0 L K N I J R (nI w) 0 3 (nI_pos' (Nat.lt_of_lt_of_le hw (by decide))) (nI_le (show w ≤ 3 by omega) (by decide))) gX3_isWindow_X3_in rfl hdS_X3_in ⟨Nat.le_of_ble_eq_true rfl, Nat.le_of_ble_eq_true rfl⟩ rfl rfl ⟨Nat.le_of_ble_eq_true rfl, Nat.le_of_ble_eq_true rfl⟩ (Nat.le_of_ble_eq_true rfl) dX3_isWindow_10 (fun v9 I9 J9 hz9 => ?_)
  obtain ⟨rfl, hI9, hJ9⟩ := hz9
  replace hI9 := hI9.symm
  subst hI9
  replace hJ9 := hJ9.symm
  subst hJ9
  refine x_if_eq (tgt := 20) hc dX3_isWindow_13 (by decide) (fun q9 => absurd q9 (by decide)) (fun _ => ?_)
  refine x_iconst (v := 1) hc dX3_isWindow_16 (by decide) ?_
  refine x_goto (tgt := 21) hc dX3_isWindow_17 (by decide) ?_
  exact x_zret hc hr rfl (by decide) (by decide) dX3_isWindow_21 (⟨rfl, rfl, rfl⟩)
set_option maxHeartbeats 4000000 in
set_option maxRecDepth 100000 in
theorem m_isWinF1 (l : Launch) (D : va_G) (z e0 : Nat) (L : List Nat) (K N : Nat → Nat) (I : Nat → Nat → Int32) (J : Nat → Nat → Int64) (R : Nat → Nat → Option Nat) (q : Int32) (hq : ¬ (0 ≤ q ∧ q ≤ 1)) (u : Int32) : MG l yX3_isWindow wsX3_isWindow rm_X3_isWindow D z e0 L K N I J R [.int q, .int u] (fun v I' J' => v = some (.int 0) ∧ I' = I ∧ J' = J) := by
  refine mg_of (own := RX3) (maxL := 2) (ret := (some .boolean)) (by decide +kernel) rfl rfl (Nat.le_of_ble_eq_true rfl) ?_
  intro pg ev s mi args below meth c hc hr
  refine x_iload_n (j := 0) hc dX3_isWindow_0 rfl rfl ?_
  refine x_callS (As := [.int q]) (st := []) hc (m_isPicF l D z e0 L K N I J R q hq) gX3_isWindow_X3_isPicture rfl hdS_X3_isPicture ⟨Nat.le_of_ble_eq_true rfl, Nat.le_of_ble_eq_true rfl⟩ rfl rfl ⟨Nat.le_of_ble_eq_true rfl, Nat.le_of_ble_eq_true rfl⟩ (Nat.le_of_ble_eq_true rfl) dX3_isWindow_1 (fun v9 I9 J9 hz9 => ?_)
  obtain ⟨rfl, hI9, hJ9⟩ := hz9
  replace hI9 := hI9.symm
  subst hI9
  replace hJ9 := hJ9.symm
  subst hJ9
  refine x_if_eq (tgt := 20) hc dX3_isWindow_4 (by decide) (fun _ => ?_) (fun q9 => absurd (by decide) q9)
  refine x_iconst (v := 0) hc dX3_isWindow_20 (by decide) ?_
  exact x_zret hc hr rfl (by decide) (by decide) dX3_isWindow_21 (⟨rfl, rfl, rfl⟩)
set_option maxHeartbeats 4000000 in
set_option maxRecDepth 100000 in
theorem m_isWinF2 (l : Launch) (D : va_G) (z e0 : Nat) (L : List Nat) (K N : Nat → Nat) (I : Nat → Nat → Int32) (J : Nat → Nat → Int64) (R : Nat → Nat → Option Nat) (k : Nat) (hk : k < 2) (q : Int32) (hq : ¬ (0 ≤ q ∧ q ≤ 3)) : MG l yX3_isWindow wsX3_isWindow rm_X3_isWindow D z e0 L K N I J R [.int (nI k), .int q] (fun v I' J' => v = some (.int 0) ∧ I' = I ∧ J' = J) := by
  refine mg_of (own := RX3) (maxL := 2) (ret := (some .boolean)) (by decide +kernel) rfl rfl (Nat.le_of_ble_eq_true rfl) ?_
  intro pg ev s mi args below meth c hc hr
  refine x_iload_n (j := 0) hc dX3_isWindow_0 rfl rfl ?_
  refine x_callS (As := [.int (nI k)]) (st := []) hc (m_isPicT l D z e0 L K N I J R k hk) gX3_isWindow_X3_isPicture rfl hdS_X3_isPicture ⟨Nat.le_of_ble_eq_true rfl, Nat.le_of_ble_eq_true rfl⟩ rfl rfl ⟨Nat.le_of_ble_eq_true rfl, Nat.le_of_ble_eq_true rfl⟩ (Nat.le_of_ble_eq_true rfl) dX3_isWindow_1 (fun v9 I9 J9 hz9 => ?_)
  obtain ⟨rfl, hI9, hJ9⟩ := hz9
  replace hI9 := hI9.symm
  subst hI9
  replace hJ9 := hJ9.symm
  subst hJ9
  refine x_if_eq (tgt := 20) hc dX3_isWindow_4 (by decide) (fun q9 => absurd q9 (by decide)) (fun _ => ?_)
  refine x_iload_n (j := 1) hc dX3_isWindow_7 rfl rfl ?_
  refine x_iconst (v := 0) hc dX3_isWindow_8 (by decide) ?_
  refine x_iconst (v := 3) hc dX3_isWindow_9 (by decide) ?_
  refine x_callS (As := [.int q, .int 0, .int 3]) (st := []) hc (m_inF l D z e0 L K N I J R q 0 3 hq) gX3_isWindow_X3_in rfl hdS_X3_in ⟨Nat.le_of_ble_eq_true rfl, Nat.le_of_ble_eq_true rfl⟩ rfl rfl ⟨Nat.le_of_ble_eq_true rfl, Nat.le_of_ble_eq_true rfl⟩ (Nat.le_of_ble_eq_true rfl) dX3_isWindow_10 (fun v9 I9 J9 hz9 => ?_)
  obtain ⟨rfl, hI9, hJ9⟩ := hz9
  replace hI9 := hI9.symm
  subst hI9
  replace hJ9 := hJ9.symm
  subst hJ9
  refine x_if_eq (tgt := 20) hc dX3_isWindow_13 (by decide) (fun _ => ?_) (fun q9 => absurd (by decide) q9)
  refine x_iconst (v := 0) hc dX3_isWindow_20 (by decide) ?_
  exact x_zret hc hr rfl (by decide) (by decide) dX3_isWindow_21 (⟨rfl, rfl, rfl⟩)
abbrev rm_X3_at : Room := { frames := 0, cells := 0, slots := 0, locals := 0 }
set_option maxHeartbeats 4000000 in
set_option maxRecDepth 100000 in
theorem m_at (l : Launch) (D : va_G) (z e0 : Nat) (L : List Nat) (K N : Nat → Nat) (I : Nat → Nat → Int32) (J : Nat → Nat → Int64) (R : Nat → Nat → Option Nat) (p y w : Nat) : MG l yX3_at wsX3_at rm_X3_at D z e0 L K N I J R [.int (nI p), .int (nI y), .int (nI w)] (fun v I' J' => v = some (.int (nI (40 * p + 4 * y + w))) ∧ I' = I ∧ J' = J) := by
  refine mg_of (own := RX3) (maxL := 3) (ret := (some .int)) (by decide +kernel) rfl rfl (Nat.le_of_ble_eq_true rfl) ?_
  intro pg ev s mi args below meth c hc hr
  refine x_bipush (v := 40) hc dX3_at_0 (by decide) ?_
  refine x_iload_n (j := 0) hc dX3_at_2 rfl rfl ?_
  refine x_imul hc dX3_at_3 ?_
  refine x_iconst (v := 4) hc dX3_at_4 (by decide) ?_
  refine x_iload_n (j := 1) hc dX3_at_5 rfl rfl ?_
  refine x_imul hc dX3_at_6 ?_
  refine x_iadd hc dX3_at_7 ?_
  refine x_iload_n (j := 2) hc dX3_at_8 rfl rfl ?_
  refine x_iadd hc dX3_at_9 ?_
  exact x_iret hc hr (by decide) (by decide) dX3_at_10 (⟨by rw [ix40], rfl, rfl⟩)
abbrev rm_X3_setRates : Room := { frames := 2, cells := 0, slots := 0, locals := 42 }
set_option maxHeartbeats 4000000 in
set_option maxRecDepth 100000 in
theorem m_setRates (l : Launch) (D : va_G) (z e0 : Nat) (L : List Nat) (K N : Nat → Nat) (I : Nat → Nat → Int32) (J : Nat → Nat → Int64) (R : Nat → Nat → Option Nat) (m : Nat) (hm : Mdl L K N R m) (k : Nat) (hk : k < 2) (t o i : Int32) (h1 : 0 ≤ t ∧ t ≤ 10000) (h2 : 0 ≤ o ∧ o ≤ 10000) (h3 : 0 ≤ i ∧ i ≤ 2000) : MG l yX3_setRates wsX3_setRates rm_X3_setRates D z e0 L K N I J R [.ref m, .int (nI k), .int t, .int o, .int i] (fun v I' J' => v = none ∧ I' = u2 (u2 (u2 (u2 I m 18 0) (dr R m 3) k t) (dr R m 4) k o) (dr R m 5) k i ∧ J' = J) := by
  refine mg_of (own := RX3) (maxL := 5) (ret := none) (by decide +kernel) rfl rfl (Nat.le_of_ble_eq_true rfl) ?_
  intro pg ev s mi args below meth c hc hr
  refine x_aload_n (j := 0) hc dX3_setRates_0 rfl rfl ?_
  refine x_iconst (v := 0) hc dX3_setRates_1 (by decide) ?_
  refine x_putI (C := RX3) (T := TX3) (NN := 19) (ci := 4) (ref := "NetPointsModel") hc 18 in_X3_setRates_4 rfl (by decide) lf_X3_setRates_56 (fun _ h9 => h9) tyX3 tyX3_ok nmX3 hm.1 (by omega) (by decide) rfl rfl pd_X3_18 dX3_setRates_2 ?_
  refine x_iload_n (j := 1) hc dX3_setRates_5 rfl rfl ?_
  refine x_callS (As := [.int (nI k)]) (st := []) hc (m_isPicT l D z e0 L K N (u2 I m 18 0) J R k hk) gX3_setRates_X3_isPicture rfl hdS_X3_isPicture ⟨Nat.le_of_ble_eq_true rfl, Nat.le_of_ble_eq_true rfl⟩ rfl rfl ⟨Nat.le_of_ble_eq_true rfl, Nat.le_of_ble_eq_true rfl⟩ (Nat.le_of_ble_eq_true rfl) dX3_setRates_6 (fun v9 I9 J9 hz9 => ?_)
  obtain ⟨rfl, hI9, hJ9⟩ := hz9
  replace hI9 := hI9.symm
  subst hI9
  replace hJ9 := hJ9.symm
  subst hJ9
  refine x_if_ne (tgt := 19) hc dX3_setRates_9 (by decide) (fun _ => ?_) (fun q9 => absurd q9 (by decide))
  refine x_iload_n (j := 2) hc dX3_setRates_19 rfl rfl ?_
  refine x_iconst (v := 0) hc dX3_setRates_20 (by decide) ?_
  refine x_sipush (v := 10000) hc dX3_setRates_21 (by decide) ?_
  refine x_callS (As := [.int t, .int 0, .int 10000]) (st := []) hc (m_inT l D z e0 L K N (u2 I m 18 0) J R t 0 10000 h1.1 h1.2) gX3_setRates_X3_in rfl hdS_X3_in ⟨Nat.le_of_ble_eq_true rfl, Nat.le_of_ble_eq_true rfl⟩ rfl rfl ⟨Nat.le_of_ble_eq_true rfl, Nat.le_of_ble_eq_true rfl⟩ (Nat.le_of_ble_eq_true rfl) dX3_setRates_24 (fun v9 I9 J9 hz9 => ?_)
  obtain ⟨rfl, hI9, hJ9⟩ := hz9
  replace hI9 := hI9.symm
  subst hI9
  replace hJ9 := hJ9.symm
  subst hJ9
  refine x_if_eq (tgt := 53) hc dX3_setRates_27 (by decide) (fun q9 => absurd q9 (by decide)) (fun _ => ?_)
  refine x_iload_n (j := 3) hc dX3_setRates_30 rfl rfl ?_
  refine x_iconst (v := 0) hc dX3_setRates_31 (by decide) ?_
  refine x_sipush (v := 10000) hc dX3_setRates_32 (by decide) ?_
  refine x_callS (As := [.int o, .int 0, .int 10000]) (st := []) hc (m_inT l D z e0 L K N (u2 I m 18 0) J R o 0 10000 h2.1 h2.2) gX3_setRates_X3_in rfl hdS_X3_in ⟨Nat.le_of_ble_eq_true rfl, Nat.le_of_ble_eq_true rfl⟩ rfl rfl ⟨Nat.le_of_ble_eq_true rfl, Nat.le_of_ble_eq_true rfl⟩ (Nat.le_of_ble_eq_true rfl) dX3_setRates_35 (fun v9 I9 J9 hz9 => ?_)
  obtain ⟨rfl, hI9, hJ9⟩ := hz9
  replace hI9 := hI9.symm
  subst hI9
  replace hJ9 := hJ9.symm
  subst hJ9
  refine x_if_eq (tgt := 53) hc dX3_setRates_38 (by decide) (fun q9 => absurd q9 (by decide)) (fun _ => ?_)
  refine x_iload (j := 4) hc dX3_setRates_41 rfl ?_
  refine x_iconst (v := 0) hc dX3_setRates_43 (by decide) ?_
  refine x_sipush (v := 2000) hc dX3_setRates_44 (by decide) ?_
  refine x_callS (As := [.int i, .int 0, .int 2000]) (st := []) hc (m_inT l D z e0 L K N (u2 I m 18 0) J R i 0 2000 h3.1 h3.2) gX3_setRates_X3_in rfl hdS_X3_in ⟨Nat.le_of_ble_eq_true rfl, Nat.le_of_ble_eq_true rfl⟩ rfl rfl ⟨Nat.le_of_ble_eq_true rfl, Nat.le_of_ble_eq_true rfl⟩ (Nat.le_of_ble_eq_true rfl) dX3_setRates_47 (fun v9 I9 J9 hz9 => ?_)
  obtain ⟨rfl, hI9, hJ9⟩ := hz9
  replace hI9 := hI9.symm
  subst hI9
  replace hJ9 := hJ9.symm
  subst hJ9
  refine x_if_ne (tgt := 60) hc dX3_setRates_50 (by decide) (fun _ => ?_) (fun q9 => absurd q9 (by decide))
  refine x_aload_n (j := 0) hc dX3_setRates_60 rfl rfl ?_
  refine x_getR (C := RX3) (T := TX3) (NN := 19) (ci := 4) (ref := "NetPointsModel") hc 3 in_X3_setRates_4 rfl (by decide) lf_X3_setRates_19 (fun _ h9 => h9) hm.1 (by omega) (by decide) rfl ((hm.cel 3 1013 2 (by decide)).1) dX3_setRates_61 ?_
  refine x_iload_n (j := 1) hc dX3_setRates_64 rfl rfl ?_
  refine x_iload_n (j := 2) hc dX3_setRates_65 rfl rfl ?_
  refine x_iast hc ((hm.cel 3 1013 2 (by decide)).2) (by decide) rfl (by omega) (by omega) dX3_setRates_66 ?_
  refine x_aload_n (j := 0) hc dX3_setRates_67 rfl rfl ?_
  refine x_getR (C := RX3) (T := TX3) (NN := 19) (ci := 4) (ref := "NetPointsModel") hc 4 in_X3_setRates_4 rfl (by decide) lf_X3_setRates_22 (fun _ h9 => h9) hm.1 (by omega) (by decide) rfl ((hm.cel 4 1029 2 (by decide)).1) dX3_setRates_68 ?_
  refine x_iload_n (j := 1) hc dX3_setRates_71 rfl rfl ?_
  refine x_iload_n (j := 3) hc dX3_setRates_72 rfl rfl ?_
  refine x_iast hc ((hm.cel 4 1029 2 (by decide)).2) (by decide) rfl (by omega) (by omega) dX3_setRates_73 ?_
  refine x_aload_n (j := 0) hc dX3_setRates_74 rfl rfl ?_
  refine x_getR (C := RX3) (T := TX3) (NN := 19) (ci := 4) (ref := "NetPointsModel") hc 5 in_X3_setRates_4 rfl (by decide) lf_X3_setRates_25 (fun _ h9 => h9) hm.1 (by omega) (by decide) rfl ((hm.cel 5 1045 2 (by decide)).1) dX3_setRates_75 ?_
  refine x_iload_n (j := 1) hc dX3_setRates_78 rfl rfl ?_
  refine x_iload (j := 4) hc dX3_setRates_79 rfl ?_
  refine x_iast hc ((hm.cel 5 1045 2 (by decide)).2) (by decide) rfl (by omega) (by omega) dX3_setRates_81 ?_
  exact x_vret hc hr (by decide) (by decide) dX3_setRates_82 (⟨rfl, rfl, rfl⟩)
set_option maxHeartbeats 4000000 in
set_option maxRecDepth 100000 in
theorem m_setRates1 (l : Launch) (D : va_G) (z e0 : Nat) (L : List Nat) (K N : Nat → Nat) (I : Nat → Nat → Int32) (J : Nat → Nat → Int64) (R : Nat → Nat → Option Nat) (m : Nat) (hm : Mdl L K N R m) (q : Int32) (hq : ¬ (0 ≤ q ∧ q ≤ 1)) (t o i : Int32) : MG l yX3_setRates wsX3_setRates rm_X3_setRates D z e0 L K N I J R [.ref m, .int q, .int t, .int o, .int i] (fun v I' J' => v = none ∧ I' = u2 I m 18 1 ∧ J' = J) := by
  refine mg_of (own := RX3) (maxL := 5) (ret := none) (by decide +kernel) rfl rfl (Nat.le_of_ble_eq_true rfl) ?_
  intro pg ev s mi args below meth c hc hr
  refine x_aload_n (j := 0) hc dX3_setRates_0 rfl rfl ?_
  refine x_iconst (v := 0) hc dX3_setRates_1 (by decide) ?_
  refine x_putI (C := RX3) (T := TX3) (NN := 19) (ci := 4) (ref := "NetPointsModel") hc 18 in_X3_setRates_4 rfl (by decide) lf_X3_setRates_56 (fun _ h9 => h9) tyX3 tyX3_ok nmX3 hm.1 (by omega) (by decide) rfl rfl pd_X3_18 dX3_setRates_2 ?_
  refine x_iload_n (j := 1) hc dX3_setRates_5 rfl rfl ?_
  refine x_callS (As := [.int q]) (st := []) hc (m_isPicF l D z e0 L K N (u2 I m 18 0) J R q hq) gX3_setRates_X3_isPicture rfl hdS_X3_isPicture ⟨Nat.le_of_ble_eq_true rfl, Nat.le_of_ble_eq_true rfl⟩ rfl rfl ⟨Nat.le_of_ble_eq_true rfl, Nat.le_of_ble_eq_true rfl⟩ (Nat.le_of_ble_eq_true rfl) dX3_setRates_6 (fun v9 I9 J9 hz9 => ?_)
  obtain ⟨rfl, hI9, hJ9⟩ := hz9
  replace hI9 := hI9.symm
  subst hI9
  replace hJ9 := hJ9.symm
  subst hJ9
  refine x_if_ne (tgt := 19) hc dX3_setRates_9 (by decide) (fun q9 => absurd q9 (by decide)) (fun _ => ?_)
  refine x_aload_n (j := 0) hc dX3_setRates_12 rfl rfl ?_
  refine x_iconst (v := 1) hc dX3_setRates_13 (by decide) ?_
  refine x_callV (C := RX3) (T := TX3) (NN := 19) (ci := 4) (As := [.int 1]) (st := []) hc hm.1 (by omega) (by decide) rfl (m_fails l D z e0 L K N (u2 I m 18 0) J R m hm 1) gX3_setRates_X3_fails rfl hdV_X3_fails ⟨Nat.le_of_ble_eq_true rfl, Nat.le_of_ble_eq_true rfl⟩ rfl rfl ⟨Nat.le_of_ble_eq_true rfl, Nat.le_of_ble_eq_true rfl⟩ (Nat.le_of_ble_eq_true rfl) dX3_setRates_14 (fun v9 I9 J9 hz9 => ?_)
  obtain ⟨rfl, hI9, hJ9⟩ := hz9
  replace hI9 := hI9.symm
  subst hI9
  replace hJ9 := hJ9.symm
  subst hJ9
  refine x_setI u2_u2 ?_
  refine x_pop hc dX3_setRates_17 rfl ?_
  exact x_vret hc hr (by decide) (by decide) dX3_setRates_18 (⟨rfl, rfl, rfl⟩)
set_option maxHeartbeats 4000000 in
set_option maxRecDepth 100000 in
theorem m_setRates2 (l : Launch) (D : va_G) (z e0 : Nat) (L : List Nat) (K N : Nat → Nat) (I : Nat → Nat → Int32) (J : Nat → Nat → Int64) (R : Nat → Nat → Option Nat) (m : Nat) (hm : Mdl L K N R m) (k : Nat) (hk : k < 2) (t o i : Int32) (hbad : ¬ ((0 ≤ t ∧ t ≤ 10000) ∧ (0 ≤ o ∧ o ≤ 10000) ∧ (0 ≤ i ∧ i ≤ 2000))) : MG l yX3_setRates wsX3_setRates rm_X3_setRates D z e0 L K N I J R [.ref m, .int (nI k), .int t, .int o, .int i] (fun v I' J' => v = none ∧ I' = u2 I m 18 2 ∧ J' = J) := by
  refine mg_of (own := RX3) (maxL := 5) (ret := none) (by decide +kernel) rfl rfl (Nat.le_of_ble_eq_true rfl) ?_
  intro pg ev s mi args below meth c hc hr
  refine x_aload_n (j := 0) hc dX3_setRates_0 rfl rfl ?_
  refine x_iconst (v := 0) hc dX3_setRates_1 (by decide) ?_
  refine x_putI (C := RX3) (T := TX3) (NN := 19) (ci := 4) (ref := "NetPointsModel") hc 18 in_X3_setRates_4 rfl (by decide) lf_X3_setRates_56 (fun _ h9 => h9) tyX3 tyX3_ok nmX3 hm.1 (by omega) (by decide) rfl rfl pd_X3_18 dX3_setRates_2 ?_
  refine x_iload_n (j := 1) hc dX3_setRates_5 rfl rfl ?_
  refine x_callS (As := [.int (nI k)]) (st := []) hc (m_isPicT l D z e0 L K N (u2 I m 18 0) J R k hk) gX3_setRates_X3_isPicture rfl hdS_X3_isPicture ⟨Nat.le_of_ble_eq_true rfl, Nat.le_of_ble_eq_true rfl⟩ rfl rfl ⟨Nat.le_of_ble_eq_true rfl, Nat.le_of_ble_eq_true rfl⟩ (Nat.le_of_ble_eq_true rfl) dX3_setRates_6 (fun v9 I9 J9 hz9 => ?_)
  obtain ⟨rfl, hI9, hJ9⟩ := hz9
  replace hI9 := hI9.symm
  subst hI9
  replace hJ9 := hJ9.symm
  subst hJ9
  refine x_if_ne (tgt := 19) hc dX3_setRates_9 (by decide) (fun _ => ?_) (fun q9 => absurd q9 (by decide))
  refine x_iload_n (j := 2) hc dX3_setRates_19 rfl rfl ?_
  refine x_iconst (v := 0) hc dX3_setRates_20 (by decide) ?_
  refine x_sipush (v := 10000) hc dX3_setRates_21 (by decide) ?_
  by_cases g0 : (0 : Int32) ≤ t ∧ t ≤ 10000
  · refine x_callS (As := [.int t, .int 0, .int 10000]) (st := []) hc (m_inT l D z e0 L K N (u2 I m 18 0) J R t 0 10000 g0.1 g0.2) gX3_setRates_X3_in rfl hdS_X3_in ⟨Nat.le_of_ble_eq_true rfl, Nat.le_of_ble_eq_true rfl⟩ rfl rfl ⟨Nat.le_of_ble_eq_true rfl, Nat.le_of_ble_eq_true rfl⟩ (Nat.le_of_ble_eq_true rfl) dX3_setRates_24 (fun v9 I9 J9 hz9 => ?_)
    obtain ⟨rfl, hI9, hJ9⟩ := hz9
    replace hI9 := hI9.symm
    subst hI9
    replace hJ9 := hJ9.symm
    subst hJ9
    refine x_if_eq (tgt := 53) hc dX3_setRates_27 (by decide) (fun q9 => absurd q9 (by decide)) (fun _ => ?_)
    refine x_iload_n (j := 3) hc dX3_setRates_30 rfl rfl ?_
    refine x_iconst (v := 0) hc dX3_setRates_31 (by decide) ?_
    refine x_sipush (v := 10000) hc dX3_setRates_32 (by decide) ?_
    by_cases g1 : (0 : Int32) ≤ o ∧ o ≤ 10000
    · refine x_callS (As := [.int o, .int 0, .int 10000]) (st := []) hc (m_inT l D z e0 L K N (u2 I m 18 0) J R o 0 10000 g1.1 g1.2) gX3_setRates_X3_in rfl hdS_X3_in ⟨Nat.le_of_ble_eq_true rfl, Nat.le_of_ble_eq_true rfl⟩ rfl rfl ⟨Nat.le_of_ble_eq_true rfl, Nat.le_of_ble_eq_true rfl⟩ (Nat.le_of_ble_eq_true rfl) dX3_setRates_35 (fun v9 I9 J9 hz9 => ?_)
      obtain ⟨rfl, hI9, hJ9⟩ := hz9
      replace hI9 := hI9.symm
      subst hI9
      replace hJ9 := hJ9.symm
      subst hJ9
      refine x_if_eq (tgt := 53) hc dX3_setRates_38 (by decide) (fun q9 => absurd q9 (by decide)) (fun _ => ?_)
      refine x_iload (j := 4) hc dX3_setRates_41 rfl ?_
      refine x_iconst (v := 0) hc dX3_setRates_43 (by decide) ?_
      refine x_sipush (v := 2000) hc dX3_setRates_44 (by decide) ?_
      have g2 : ¬ ((0 : Int32) ≤ i ∧ i ≤ 2000) := fun h => hbad ⟨g0, g1, h⟩
      refine x_callS (As := [.int i, .int 0, .int 2000]) (st := []) hc (m_inF l D z e0 L K N (u2 I m 18 0) J R i 0 2000 g2) gX3_setRates_X3_in rfl hdS_X3_in ⟨Nat.le_of_ble_eq_true rfl, Nat.le_of_ble_eq_true rfl⟩ rfl rfl ⟨Nat.le_of_ble_eq_true rfl, Nat.le_of_ble_eq_true rfl⟩ (Nat.le_of_ble_eq_true rfl) dX3_setRates_47 (fun v9 I9 J9 hz9 => ?_)
      obtain ⟨rfl, hI9, hJ9⟩ := hz9
      replace hI9 := hI9.symm
      subst hI9
      replace hJ9 := hJ9.symm
      subst hJ9
      refine x_if_ne (tgt := 60) hc dX3_setRates_50 (by decide) (fun q9 => absurd q9 (by decide)) (fun _ => ?_)
      refine x_aload_n (j := 0) hc dX3_setRates_53 rfl rfl ?_
      refine x_iconst (v := 2) hc dX3_setRates_54 (by decide) ?_
      refine x_callV (C := RX3) (T := TX3) (NN := 19) (ci := 4) (As := [.int 2]) (st := []) hc hm.1 (by omega) (by decide) rfl (m_fails l D z e0 L K N (u2 I m 18 0) J R m hm 2) gX3_setRates_X3_fails rfl hdV_X3_fails ⟨Nat.le_of_ble_eq_true rfl, Nat.le_of_ble_eq_true rfl⟩ rfl rfl ⟨Nat.le_of_ble_eq_true rfl, Nat.le_of_ble_eq_true rfl⟩ (Nat.le_of_ble_eq_true rfl) dX3_setRates_55 (fun v9 I9 J9 hz9 => ?_)
      obtain ⟨rfl, hI9, hJ9⟩ := hz9
      replace hI9 := hI9.symm
      subst hI9
      replace hJ9 := hJ9.symm
      subst hJ9
      refine x_setI u2_u2 ?_
      refine x_pop hc dX3_setRates_58 rfl ?_
      exact x_vret hc hr (by decide) (by decide) dX3_setRates_59 (⟨rfl, rfl, rfl⟩)
    · refine x_callS (As := [.int o, .int 0, .int 10000]) (st := []) hc (m_inF l D z e0 L K N (u2 I m 18 0) J R o 0 10000 g1) gX3_setRates_X3_in rfl hdS_X3_in ⟨Nat.le_of_ble_eq_true rfl, Nat.le_of_ble_eq_true rfl⟩ rfl rfl ⟨Nat.le_of_ble_eq_true rfl, Nat.le_of_ble_eq_true rfl⟩ (Nat.le_of_ble_eq_true rfl) dX3_setRates_35 (fun v9 I9 J9 hz9 => ?_)
      obtain ⟨rfl, hI9, hJ9⟩ := hz9
      replace hI9 := hI9.symm
      subst hI9
      replace hJ9 := hJ9.symm
      subst hJ9
      refine x_if_eq (tgt := 53) hc dX3_setRates_38 (by decide) (fun _ => ?_) (fun q9 => absurd (by decide) q9)
      refine x_aload_n (j := 0) hc dX3_setRates_53 rfl rfl ?_
      refine x_iconst (v := 2) hc dX3_setRates_54 (by decide) ?_
      refine x_callV (C := RX3) (T := TX3) (NN := 19) (ci := 4) (As := [.int 2]) (st := []) hc hm.1 (by omega) (by decide) rfl (m_fails l D z e0 L K N (u2 I m 18 0) J R m hm 2) gX3_setRates_X3_fails rfl hdV_X3_fails ⟨Nat.le_of_ble_eq_true rfl, Nat.le_of_ble_eq_true rfl⟩ rfl rfl ⟨Nat.le_of_ble_eq_true rfl, Nat.le_of_ble_eq_true rfl⟩ (Nat.le_of_ble_eq_true rfl) dX3_setRates_55 (fun v9 I9 J9 hz9 => ?_)
      obtain ⟨rfl, hI9, hJ9⟩ := hz9
      replace hI9 := hI9.symm
      subst hI9
      replace hJ9 := hJ9.symm
      subst hJ9
      refine x_setI u2_u2 ?_
      refine x_pop hc dX3_setRates_58 rfl ?_
      exact x_vret hc hr (by decide) (by decide) dX3_setRates_59 (⟨rfl, rfl, rfl⟩)
  · refine x_callS (As := [.int t, .int 0, .int 10000]) (st := []) hc (m_inF l D z e0 L K N (u2 I m 18 0) J R t 0 10000 g0) gX3_setRates_X3_in rfl hdS_X3_in ⟨Nat.le_of_ble_eq_true rfl, Nat.le_of_ble_eq_true rfl⟩ rfl rfl ⟨Nat.le_of_ble_eq_true rfl, Nat.le_of_ble_eq_true rfl⟩ (Nat.le_of_ble_eq_true rfl) dX3_setRates_24 (fun v9 I9 J9 hz9 => ?_)
    obtain ⟨rfl, hI9, hJ9⟩ := hz9
    replace hI9 := hI9.symm
    subst hI9
    replace hJ9 := hJ9.symm
    subst hJ9
    refine x_if_eq (tgt := 53) hc dX3_setRates_27 (by decide) (fun _ => ?_) (fun q9 => absurd (by decide) q9)
    refine x_aload_n (j := 0) hc dX3_setRates_53 rfl rfl ?_
    refine x_iconst (v := 2) hc dX3_setRates_54 (by decide) ?_
    refine x_callV (C := RX3) (T := TX3) (NN := 19) (ci := 4) (As := [.int 2]) (st := []) hc hm.1 (by omega) (by decide) rfl (m_fails l D z e0 L K N (u2 I m 18 0) J R m hm 2) gX3_setRates_X3_fails rfl hdV_X3_fails ⟨Nat.le_of_ble_eq_true rfl, Nat.le_of_ble_eq_true rfl⟩ rfl rfl ⟨Nat.le_of_ble_eq_true rfl, Nat.le_of_ble_eq_true rfl⟩ (Nat.le_of_ble_eq_true rfl) dX3_setRates_55 (fun v9 I9 J9 hz9 => ?_)
    obtain ⟨rfl, hI9, hJ9⟩ := hz9
    replace hI9 := hI9.symm
    subst hI9
    replace hJ9 := hJ9.symm
    subst hJ9
    refine x_setI u2_u2 ?_
    refine x_pop hc dX3_setRates_58 rfl ?_
    exact x_vret hc hr (by decide) (by decide) dX3_setRates_59 (⟨rfl, rfl, rfl⟩)
abbrev rm_X3_setFee : Room := { frames := 3, cells := 0, slots := 0, locals := 63 }
set_option maxHeartbeats 4000000 in
set_option maxRecDepth 100000 in
theorem m_setFee (l : Launch) (D : va_G) (z e0 : Nat) (L : List Nat) (K N : Nat → Nat) (I : Nat → Nat → Int32) (J : Nat → Nat → Int64) (R : Nat → Nat → Option Nat) (m : Nat) (hm : Mdl L K N R m) (k : Nat) (hk : k < 2) (w : Nat) (hw : w < 4) (t : Int32) (h1 : 0 ≤ t ∧ t ≤ 10000) : MG l yX3_setFee wsX3_setFee rm_X3_setFee D z e0 L K N I J R [.ref m, .int (nI k), .int (nI w), .int t] (fun v I' J' => v = some (.int (I (dr R m 2) (4 * k + w))) ∧ I' = u2 (u2 I m 18 0) (dr R m 2) (4 * k + w) t ∧ J' = J) := by
  refine mg_of (own := RX3) (maxL := 5) (ret := (some .int)) (by decide +kernel) rfl rfl (Nat.le_of_ble_eq_true rfl) ?_
  intro pg ev s mi args below meth c hc hr
  have e2 : u2 I m 18 0 (dr R m 2) (4 * k + w) = I (dr R m 2) (4 * k + w) := u2_a (hm.nx 2 997 8 (by decide))
  refine x_aload_n (j := 0) hc dX3_setFee_0 rfl rfl ?_
  refine x_iconst (v := 0) hc dX3_setFee_1 (by decide) ?_
  refine x_putI (C := RX3) (T := TX3) (NN := 19) (ci := 4) (ref := "NetPointsModel") hc 18 in_X3_setFee_4 rfl (by decide) lf_X3_setFee_56 (fun _ h9 => h9) tyX3 tyX3_ok nmX3 hm.1 (by omega) (by decide) rfl rfl pd_X3_18 dX3_setFee_2 ?_
  refine x_iload_n (j := 1) hc dX3_setFee_5 rfl rfl ?_
  refine x_iload_n (j := 2) hc dX3_setFee_6 rfl rfl ?_
  refine x_callS (As := [.int (nI k), .int (nI w)]) (st := []) hc (m_isWinT l D z e0 L K N (u2 I m 18 0) J R k hk w hw) gX3_setFee_X3_isWindow rfl hdS_X3_isWindow ⟨Nat.le_of_ble_eq_true rfl, Nat.le_of_ble_eq_true rfl⟩ rfl rfl ⟨Nat.le_of_ble_eq_true rfl, Nat.le_of_ble_eq_true rfl⟩ (Nat.le_of_ble_eq_true rfl) dX3_setFee_7 (fun v9 I9 J9 hz9 => ?_)
  obtain ⟨rfl, hI9, hJ9⟩ := hz9
  replace hI9 := hI9.symm
  subst hI9
  replace hJ9 := hJ9.symm
  subst hJ9
  refine x_if_ne (tgt := 19) hc dX3_setFee_10 (by decide) (fun _ => ?_) (fun q9 => absurd q9 (by decide))
  refine x_iload_n (j := 3) hc dX3_setFee_19 rfl rfl ?_
  refine x_iconst (v := 0) hc dX3_setFee_20 (by decide) ?_
  refine x_sipush (v := 10000) hc dX3_setFee_21 (by decide) ?_
  refine x_callS (As := [.int t, .int 0, .int 10000]) (st := []) hc (m_inT l D z e0 L K N (u2 I m 18 0) J R t 0 10000 h1.1 h1.2) gX3_setFee_X3_in rfl hdS_X3_in ⟨Nat.le_of_ble_eq_true rfl, Nat.le_of_ble_eq_true rfl⟩ rfl rfl ⟨Nat.le_of_ble_eq_true rfl, Nat.le_of_ble_eq_true rfl⟩ (Nat.le_of_ble_eq_true rfl) dX3_setFee_24 (fun v9 I9 J9 hz9 => ?_)
  obtain ⟨rfl, hI9, hJ9⟩ := hz9
  replace hI9 := hI9.symm
  subst hI9
  replace hJ9 := hJ9.symm
  subst hJ9
  refine x_if_ne (tgt := 36) hc dX3_setFee_27 (by decide) (fun _ => ?_) (fun q9 => absurd q9 (by decide))
  refine x_aload_n (j := 0) hc dX3_setFee_36 rfl rfl ?_
  refine x_getR (C := RX3) (T := TX3) (NN := 19) (ci := 4) (ref := "NetPointsModel") hc 2 in_X3_setFee_4 rfl (by decide) lf_X3_setFee_16 (fun _ h9 => h9) hm.1 (by omega) (by decide) rfl ((hm.cel 2 997 8 (by decide)).1) dX3_setFee_37 ?_
  refine x_iconst (v := 4) hc dX3_setFee_40 (by decide) ?_
  refine x_iload_n (j := 1) hc dX3_setFee_41 rfl rfl ?_
  refine x_imul hc dX3_setFee_42 ?_
  refine x_iload_n (j := 2) hc dX3_setFee_43 rfl rfl ?_
  refine x_iadd hc dX3_setFee_44 ?_
  refine x_vali (ix4 k w) ?_
  refine x_iald hc ((hm.cel 2 997 8 (by decide)).2) (by decide) rfl (by omega) (by omega) dX3_setFee_45 ?_
  refine x_vali (e2) ?_
  refine x_istore (lv' := [(4, .int (I (dr R m 2) (4 * k + w))), (0, .ref m), (1, .int (nI k)), (2, .int (nI w)), (3, .int t)]) hc dX3_setFee_46 (by decide) rfl ?_
  refine x_aload_n (j := 1) hc dX3_setFee_48 rfl rfl ?_
  refine x_getR (C := RX3) (T := TX3) (NN := 19) (ci := 4) (ref := "NetPointsModel") hc 2 in_X3_setFee_4 rfl (by decide) lf_X3_setFee_16 (fun _ h9 => h9) hm.1 (by omega) (by decide) rfl ((hm.cel 2 997 8 (by decide)).1) dX3_setFee_49 ?_
  refine x_iconst (v := 4) hc dX3_setFee_52 (by decide) ?_
  refine x_iload_n (j := 2) hc dX3_setFee_53 rfl rfl ?_
  refine x_imul hc dX3_setFee_54 ?_
  refine x_iload_n (j := 3) hc dX3_setFee_55 rfl rfl ?_
  refine x_iadd hc dX3_setFee_56 ?_
  refine x_vali (ix4 k w) ?_
  refine x_iload_n (j := 4) hc dX3_setFee_57 rfl rfl ?_
  refine x_iast hc ((hm.cel 2 997 8 (by decide)).2) (by decide) rfl (by omega) (by omega) dX3_setFee_58 ?_
  refine x_iload (j := 0) hc dX3_setFee_59 rfl ?_
  exact x_iret hc hr (by decide) (by decide) dX3_setFee_61 (⟨rfl, rfl, rfl⟩)
set_option maxHeartbeats 4000000 in
set_option maxRecDepth 100000 in
theorem m_setFee1 (l : Launch) (D : va_G) (z e0 : Nat) (L : List Nat) (K N : Nat → Nat) (I : Nat → Nat → Int32) (J : Nat → Nat → Int64) (R : Nat → Nat → Option Nat) (m : Nat) (hm : Mdl L K N R m) (q : Int32) (hq : ¬ (0 ≤ q ∧ q ≤ 1)) (u t : Int32) : MG l yX3_setFee wsX3_setFee rm_X3_setFee D z e0 L K N I J R [.ref m, .int q, .int u, .int t] (fun v I' J' => v = some (.int 0) ∧ I' = u2 I m 18 1 ∧ J' = J) := by
  refine mg_of (own := RX3) (maxL := 5) (ret := (some .int)) (by decide +kernel) rfl rfl (Nat.le_of_ble_eq_true rfl) ?_
  intro pg ev s mi args below meth c hc hr
  refine x_aload_n (j := 0) hc dX3_setFee_0 rfl rfl ?_
  refine x_iconst (v := 0) hc dX3_setFee_1 (by decide) ?_
  refine x_putI (C := RX3) (T := TX3) (NN := 19) (ci := 4) (ref := "NetPointsModel") hc 18 in_X3_setFee_4 rfl (by decide) lf_X3_setFee_56 (fun _ h9 => h9) tyX3 tyX3_ok nmX3 hm.1 (by omega) (by decide) rfl rfl pd_X3_18 dX3_setFee_2 ?_
  refine x_iload_n (j := 1) hc dX3_setFee_5 rfl rfl ?_
  refine x_iload_n (j := 2) hc dX3_setFee_6 rfl rfl ?_
  refine x_callS (As := [.int q, .int u]) (st := []) hc (m_isWinF1 l D z e0 L K N (u2 I m 18 0) J R q hq u) gX3_setFee_X3_isWindow rfl hdS_X3_isWindow ⟨Nat.le_of_ble_eq_true rfl, Nat.le_of_ble_eq_true rfl⟩ rfl rfl ⟨Nat.le_of_ble_eq_true rfl, Nat.le_of_ble_eq_true rfl⟩ (Nat.le_of_ble_eq_true rfl) dX3_setFee_7 (fun v9 I9 J9 hz9 => ?_)
  obtain ⟨rfl, hI9, hJ9⟩ := hz9
  replace hI9 := hI9.symm
  subst hI9
  replace hJ9 := hJ9.symm
  subst hJ9
  refine x_if_ne (tgt := 19) hc dX3_setFee_10 (by decide) (fun q9 => absurd q9 (by decide)) (fun _ => ?_)
  refine x_aload_n (j := 0) hc dX3_setFee_13 rfl rfl ?_
  refine x_iconst (v := 1) hc dX3_setFee_14 (by decide) ?_
  refine x_callV (C := RX3) (T := TX3) (NN := 19) (ci := 4) (As := [.int 1]) (st := []) hc hm.1 (by omega) (by decide) rfl (m_fails l D z e0 L K N (u2 I m 18 0) J R m hm 1) gX3_setFee_X3_fails rfl hdV_X3_fails ⟨Nat.le_of_ble_eq_true rfl, Nat.le_of_ble_eq_true rfl⟩ rfl rfl ⟨Nat.le_of_ble_eq_true rfl, Nat.le_of_ble_eq_true rfl⟩ (Nat.le_of_ble_eq_true rfl) dX3_setFee_15 (fun v9 I9 J9 hz9 => ?_)
  obtain ⟨rfl, hI9, hJ9⟩ := hz9
  replace hI9 := hI9.symm
  subst hI9
  replace hJ9 := hJ9.symm
  subst hJ9
  refine x_setI u2_u2 ?_
  exact x_iret hc hr (by decide) (by decide) dX3_setFee_18 (⟨rfl, rfl, rfl⟩)
set_option maxHeartbeats 4000000 in
set_option maxRecDepth 100000 in
theorem m_setFee1w (l : Launch) (D : va_G) (z e0 : Nat) (L : List Nat) (K N : Nat → Nat) (I : Nat → Nat → Int32) (J : Nat → Nat → Int64) (R : Nat → Nat → Option Nat) (m : Nat) (hm : Mdl L K N R m) (k : Nat) (hk : k < 2) (q : Int32) (hq : ¬ (0 ≤ q ∧ q ≤ 3)) (t : Int32) : MG l yX3_setFee wsX3_setFee rm_X3_setFee D z e0 L K N I J R [.ref m, .int (nI k), .int q, .int t] (fun v I' J' => v = some (.int 0) ∧ I' = u2 I m 18 1 ∧ J' = J) := by
  refine mg_of (own := RX3) (maxL := 5) (ret := (some .int)) (by decide +kernel) rfl rfl (Nat.le_of_ble_eq_true rfl) ?_
  intro pg ev s mi args below meth c hc hr
  refine x_aload_n (j := 0) hc dX3_setFee_0 rfl rfl ?_
  refine x_iconst (v := 0) hc dX3_setFee_1 (by decide) ?_
  refine x_putI (C := RX3) (T := TX3) (NN := 19) (ci := 4) (ref := "NetPointsModel") hc 18 in_X3_setFee_4 rfl (by decide) lf_X3_setFee_56 (fun _ h9 => h9) tyX3 tyX3_ok nmX3 hm.1 (by omega) (by decide) rfl rfl pd_X3_18 dX3_setFee_2 ?_
  refine x_iload_n (j := 1) hc dX3_setFee_5 rfl rfl ?_
  refine x_iload_n (j := 2) hc dX3_setFee_6 rfl rfl ?_
  refine x_callS (As := [.int (nI k), .int q]) (st := []) hc (m_isWinF2 l D z e0 L K N (u2 I m 18 0) J R k hk q hq) gX3_setFee_X3_isWindow rfl hdS_X3_isWindow ⟨Nat.le_of_ble_eq_true rfl, Nat.le_of_ble_eq_true rfl⟩ rfl rfl ⟨Nat.le_of_ble_eq_true rfl, Nat.le_of_ble_eq_true rfl⟩ (Nat.le_of_ble_eq_true rfl) dX3_setFee_7 (fun v9 I9 J9 hz9 => ?_)
  obtain ⟨rfl, hI9, hJ9⟩ := hz9
  replace hI9 := hI9.symm
  subst hI9
  replace hJ9 := hJ9.symm
  subst hJ9
  refine x_if_ne (tgt := 19) hc dX3_setFee_10 (by decide) (fun q9 => absurd q9 (by decide)) (fun _ => ?_)
  refine x_aload_n (j := 0) hc dX3_setFee_13 rfl rfl ?_
  refine x_iconst (v := 1) hc dX3_setFee_14 (by decide) ?_
  refine x_callV (C := RX3) (T := TX3) (NN := 19) (ci := 4) (As := [.int 1]) (st := []) hc hm.1 (by omega) (by decide) rfl (m_fails l D z e0 L K N (u2 I m 18 0) J R m hm 1) gX3_setFee_X3_fails rfl hdV_X3_fails ⟨Nat.le_of_ble_eq_true rfl, Nat.le_of_ble_eq_true rfl⟩ rfl rfl ⟨Nat.le_of_ble_eq_true rfl, Nat.le_of_ble_eq_true rfl⟩ (Nat.le_of_ble_eq_true rfl) dX3_setFee_15 (fun v9 I9 J9 hz9 => ?_)
  obtain ⟨rfl, hI9, hJ9⟩ := hz9
  replace hI9 := hI9.symm
  subst hI9
  replace hJ9 := hJ9.symm
  subst hJ9
  refine x_setI u2_u2 ?_
  exact x_iret hc hr (by decide) (by decide) dX3_setFee_18 (⟨rfl, rfl, rfl⟩)
set_option maxHeartbeats 4000000 in
set_option maxRecDepth 100000 in
theorem m_setFee2 (l : Launch) (D : va_G) (z e0 : Nat) (L : List Nat) (K N : Nat → Nat) (I : Nat → Nat → Int32) (J : Nat → Nat → Int64) (R : Nat → Nat → Option Nat) (m : Nat) (hm : Mdl L K N R m) (k : Nat) (hk : k < 2) (w : Nat) (hw : w < 4) (t : Int32) (hbad : ¬ (0 ≤ t ∧ t ≤ 10000)) : MG l yX3_setFee wsX3_setFee rm_X3_setFee D z e0 L K N I J R [.ref m, .int (nI k), .int (nI w), .int t] (fun v I' J' => v = some (.int 0) ∧ I' = u2 I m 18 2 ∧ J' = J) := by
  refine mg_of (own := RX3) (maxL := 5) (ret := (some .int)) (by decide +kernel) rfl rfl (Nat.le_of_ble_eq_true rfl) ?_
  intro pg ev s mi args below meth c hc hr
  refine x_aload_n (j := 0) hc dX3_setFee_0 rfl rfl ?_
  refine x_iconst (v := 0) hc dX3_setFee_1 (by decide) ?_
  refine x_putI (C := RX3) (T := TX3) (NN := 19) (ci := 4) (ref := "NetPointsModel") hc 18 in_X3_setFee_4 rfl (by decide) lf_X3_setFee_56 (fun _ h9 => h9) tyX3 tyX3_ok nmX3 hm.1 (by omega) (by decide) rfl rfl pd_X3_18 dX3_setFee_2 ?_
  refine x_iload_n (j := 1) hc dX3_setFee_5 rfl rfl ?_
  refine x_iload_n (j := 2) hc dX3_setFee_6 rfl rfl ?_
  refine x_callS (As := [.int (nI k), .int (nI w)]) (st := []) hc (m_isWinT l D z e0 L K N (u2 I m 18 0) J R k hk w hw) gX3_setFee_X3_isWindow rfl hdS_X3_isWindow ⟨Nat.le_of_ble_eq_true rfl, Nat.le_of_ble_eq_true rfl⟩ rfl rfl ⟨Nat.le_of_ble_eq_true rfl, Nat.le_of_ble_eq_true rfl⟩ (Nat.le_of_ble_eq_true rfl) dX3_setFee_7 (fun v9 I9 J9 hz9 => ?_)
  obtain ⟨rfl, hI9, hJ9⟩ := hz9
  replace hI9 := hI9.symm
  subst hI9
  replace hJ9 := hJ9.symm
  subst hJ9
  refine x_if_ne (tgt := 19) hc dX3_setFee_10 (by decide) (fun _ => ?_) (fun q9 => absurd q9 (by decide))
  refine x_iload_n (j := 3) hc dX3_setFee_19 rfl rfl ?_
  refine x_iconst (v := 0) hc dX3_setFee_20 (by decide) ?_
  refine x_sipush (v := 10000) hc dX3_setFee_21 (by decide) ?_
  refine x_callS (As := [.int t, .int 0, .int 10000]) (st := []) hc (m_inF l D z e0 L K N (u2 I m 18 0) J R t 0 10000 hbad) gX3_setFee_X3_in rfl hdS_X3_in ⟨Nat.le_of_ble_eq_true rfl, Nat.le_of_ble_eq_true rfl⟩ rfl rfl ⟨Nat.le_of_ble_eq_true rfl, Nat.le_of_ble_eq_true rfl⟩ (Nat.le_of_ble_eq_true rfl) dX3_setFee_24 (fun v9 I9 J9 hz9 => ?_)
  obtain ⟨rfl, hI9, hJ9⟩ := hz9
  replace hI9 := hI9.symm
  subst hI9
  replace hJ9 := hJ9.symm
  subst hJ9
  refine x_if_ne (tgt := 36) hc dX3_setFee_27 (by decide) (fun q9 => absurd q9 (by decide)) (fun _ => ?_)
  refine x_aload_n (j := 0) hc dX3_setFee_30 rfl rfl ?_
  refine x_iconst (v := 2) hc dX3_setFee_31 (by decide) ?_
  refine x_callV (C := RX3) (T := TX3) (NN := 19) (ci := 4) (As := [.int 2]) (st := []) hc hm.1 (by omega) (by decide) rfl (m_fails l D z e0 L K N (u2 I m 18 0) J R m hm 2) gX3_setFee_X3_fails rfl hdV_X3_fails ⟨Nat.le_of_ble_eq_true rfl, Nat.le_of_ble_eq_true rfl⟩ rfl rfl ⟨Nat.le_of_ble_eq_true rfl, Nat.le_of_ble_eq_true rfl⟩ (Nat.le_of_ble_eq_true rfl) dX3_setFee_32 (fun v9 I9 J9 hz9 => ?_)
  obtain ⟨rfl, hI9, hJ9⟩ := hz9
  replace hI9 := hI9.symm
  subst hI9
  replace hJ9 := hJ9.symm
  subst hJ9
  refine x_setI u2_u2 ?_
  exact x_iret hc hr (by decide) (by decide) dX3_setFee_35 (⟨rfl, rfl, rfl⟩)
abbrev rm_X3_setCrossed : Room := { frames := 1, cells := 0, slots := 0, locals := 24 }
set_option maxHeartbeats 4000000 in
set_option maxRecDepth 100000 in
theorem m_setCrossed (l : Launch) (D : va_G) (z e0 : Nat) (L : List Nat) (K N : Nat → Nat) (I : Nat → Nat → Int32) (J : Nat → Nat → Int64) (R : Nat → Nat → Option Nat) (m : Nat) (hm : Mdl L K N R m) (h6 : I m 6 = 0 ∨ I m 6 = 1) (t : Int32) (ht : t = 0 ∨ t = 1) : MG l yX3_setCrossed wsX3_setCrossed rm_X3_setCrossed D z e0 L K N I J R [.ref m, .int t] (fun v I' J' => v = some (.int (I m 6)) ∧ I' = u2 (u2 I m 18 0) m 6 t ∧ J' = J) := by
  refine mg_of (own := RX3) (maxL := 3) (ret := (some .boolean)) (by decide +kernel) rfl rfl (Nat.le_of_ble_eq_true rfl) ?_
  intro pg ev s mi args below meth c hc hr
  refine x_aload_n (j := 0) hc dX3_setCrossed_0 rfl rfl ?_
  refine x_iconst (v := 0) hc dX3_setCrossed_1 (by decide) ?_
  refine x_putI (C := RX3) (T := TX3) (NN := 19) (ci := 4) (ref := "NetPointsModel") hc 18 in_X3_setCrossed_4 rfl (by decide) lf_X3_setCrossed_56 (fun _ h9 => h9) tyX3 tyX3_ok nmX3 hm.1 (by omega) (by decide) rfl rfl pd_X3_18 dX3_setCrossed_2 ?_
  refine x_aload_n (j := 0) hc dX3_setCrossed_5 rfl rfl ?_
  refine x_getI (C := RX3) (T := TX3) (NN := 19) (ci := 4) (ref := "NetPointsModel") hc 6 in_X3_setCrossed_4 rfl (by decide) lf_X3_setCrossed_76 (fun _ h9 => h9) hm.1 (by omega) (by decide) rfl dX3_setCrossed_6 ?_
  refine x_vali (u2_k (by decide)) ?_
  refine x_istore_n (lv' := [(2, .int (I m 6)), (0, .ref m), (1, .int t)]) hc dX3_setCrossed_9 rfl (by decide) rfl ?_
  refine x_aload_n (j := 1) hc dX3_setCrossed_10 rfl rfl ?_
  refine x_iload_n (j := 2) hc dX3_setCrossed_11 rfl rfl ?_
  refine x_putZ (C := RX3) (T := TX3) (NN := 19) (ci := 4) (ref := "NetPointsModel") hc 6 in_X3_setCrossed_4 rfl (by decide) lf_X3_setCrossed_76 (fun _ h9 => h9) tyX3 tyX3_ok nmX3 hm.1 (by omega) (by decide) rfl rfl pd_X3_6 (by rcases ht with rfl | rfl <;> rfl) (by rcases ht with rfl | rfl <;> rfl) dX3_setCrossed_12 ?_
  refine x_iload_n (j := 0) hc dX3_setCrossed_15 rfl rfl ?_
  exact x_zret hc hr (by rcases h6 with h | h <;> rw [h] <;> rfl) (by decide) (by decide) dX3_setCrossed_16 (⟨rfl, rfl, rfl⟩)
abbrev rm_X3_receive : Room := { frames := 3, cells := 0, slots := 0, locals := 63 }
set_option maxHeartbeats 4000000 in
set_option maxRecDepth 100000 in
theorem m_receive (l : Launch) (D : va_G) (z e0 : Nat) (L : List Nat) (K N : Nat → Nat) (I : Nat → Nat → Int32) (J : Nat → Nat → Int64) (R : Nat → Nat → Option Nat) (m now n : Nat) (pic : Nat → Nat) (sh : Nat → Nat → Shr) (hc0 : MC L K N I R m now n pic sh) (k : Nat) (hk : k < 2) (w : Nat) (hw : w < 4) (t : Int32) (h1 : 1 ≤ t ∧ t ≤ 200000) : MG l yX3_receive wsX3_receive rm_X3_receive D z e0 L K N I J R [.ref m, .int (nI k), .int (nI w), .int t] (fun v I' J' => v = some (.int (I (dr R m 0) (40 * k + 4 * now + w) + t)) ∧ I' = u2 (u2 I m 18 0) (dr R m 0) (40 * k + 4 * now + w) (I (dr R m 0) (40 * k + 4 * now + w) + t) ∧ J' = J) := by
  refine mg_of (own := RX3) (maxL := 4) (ret := (some .int)) (by decide +kernel) rfl rfl (Nat.le_of_ble_eq_true rfl) ?_
  intro pg ev s mi args below meth c hc hr
  have hm := hc0.1
  have hnow := hc0.2.2.1
  have hn8 := hc0.2.2.2.2.1
  have hne := hm.nx 0 965 80 (by decide)
  have e2 : u2 I m 18 0 (dr R m 0) (40 * k + 4 * now + w) = I (dr R m 0) (40 * k + 4 * now + w) := u2_a hne
  refine x_aload_n (j := 0) hc dX3_receive_0 rfl rfl ?_
  refine x_iconst (v := 0) hc dX3_receive_1 (by decide) ?_
  refine x_putI (C := RX3) (T := TX3) (NN := 19) (ci := 4) (ref := "NetPointsModel") hc 18 in_X3_receive_4 rfl (by decide) lf_X3_receive_56 (fun _ h9 => h9) tyX3 tyX3_ok nmX3 hm.1 (by omega) (by decide) rfl rfl pd_X3_18 dX3_receive_2 ?_
  refine x_iload_n (j := 1) hc dX3_receive_5 rfl rfl ?_
  refine x_iload_n (j := 2) hc dX3_receive_6 rfl rfl ?_
  refine x_callS (As := [.int (nI k), .int (nI w)]) (st := []) hc (m_isWinT l D z e0 L K N (u2 I m 18 0) J R k hk w hw) gX3_receive_X3_isWindow rfl hdS_X3_isWindow ⟨Nat.le_of_ble_eq_true rfl, Nat.le_of_ble_eq_true rfl⟩ rfl rfl ⟨Nat.le_of_ble_eq_true rfl, Nat.le_of_ble_eq_true rfl⟩ (Nat.le_of_ble_eq_true rfl) dX3_receive_7 (fun v9 I9 J9 hz9 => ?_)
  obtain ⟨rfl, hI9, hJ9⟩ := hz9
  replace hI9 := hI9.symm
  subst hI9
  replace hJ9 := hJ9.symm
  subst hJ9
  refine x_if_ne (tgt := 19) hc dX3_receive_10 (by decide) (fun _ => ?_) (fun q9 => absurd q9 (by decide))
  refine x_iload_n (j := 3) hc dX3_receive_19 rfl rfl ?_
  refine x_iconst (v := 1) hc dX3_receive_20 (by decide) ?_
  refine x_ldc hc dX3_receive_21 lc_X3_receive_84 ?_
  refine x_callS (As := [.int t, .int 1, .int 200000]) (st := []) hc (m_inT l D z e0 L K N (u2 I m 18 0) J R t 1 200000 h1.1 h1.2) gX3_receive_X3_in rfl hdS_X3_in ⟨Nat.le_of_ble_eq_true rfl, Nat.le_of_ble_eq_true rfl⟩ rfl rfl ⟨Nat.le_of_ble_eq_true rfl, Nat.le_of_ble_eq_true rfl⟩ (Nat.le_of_ble_eq_true rfl) dX3_receive_23 (fun v9 I9 J9 hz9 => ?_)
  obtain ⟨rfl, hI9, hJ9⟩ := hz9
  replace hI9 := hI9.symm
  subst hI9
  replace hJ9 := hJ9.symm
  subst hJ9
  refine x_if_ne (tgt := 35) hc dX3_receive_26 (by decide) (fun _ => ?_) (fun q9 => absurd q9 (by decide))
  refine x_aload_n (j := 0) hc dX3_receive_35 rfl rfl ?_
  refine x_getR (C := RX3) (T := TX3) (NN := 19) (ci := 4) (ref := "NetPointsModel") hc 0 in_X3_receive_4 rfl (by decide) lf_X3_receive_7 (fun _ h9 => h9) hm.1 (by omega) (by decide) rfl ((hm.cel 0 965 80 (by decide)).1) dX3_receive_36 ?_
  refine x_iload_n (j := 1) hc dX3_receive_39 rfl rfl ?_
  refine x_aload_n (j := 0) hc dX3_receive_40 rfl rfl ?_
  refine x_getI (C := RX3) (T := TX3) (NN := 19) (ci := 4) (ref := "NetPointsModel") hc 7 in_X3_receive_4 rfl (by decide) lf_X3_receive_85 (fun _ h9 => h9) hm.1 (by omega) (by decide) rfl dX3_receive_41 ?_
  refine x_vali ((hc0.thr 0).2.1) ?_
  refine x_iload_n (j := 2) hc dX3_receive_44 rfl rfl ?_
  refine x_callS (As := [.int (nI k), .int (nI now), .int (nI w)]) (st := [.ref (dr R m 0)]) hc (m_at l D z e0 L K N (u2 I m 18 0) J R k now w) gX3_receive_X3_at rfl hdS_X3_at ⟨Nat.le_of_ble_eq_true rfl, Nat.le_of_ble_eq_true rfl⟩ rfl rfl ⟨Nat.le_of_ble_eq_true rfl, Nat.le_of_ble_eq_true rfl⟩ (Nat.le_of_ble_eq_true rfl) dX3_receive_45 (fun v9 I9 J9 hz9 => ?_)
  obtain ⟨rfl, hI9, hJ9⟩ := hz9
  replace hI9 := hI9.symm
  subst hI9
  replace hJ9 := hJ9.symm
  subst hJ9
  refine x_dup2 hc dX3_receive_48 rfl rfl ?_
  refine x_iald hc ((hm.cel 0 965 80 (by decide)).2) (by decide) rfl (by omega) (by omega) dX3_receive_49 ?_
  refine x_vali (e2) ?_
  refine x_iload_n (j := 3) hc dX3_receive_50 rfl rfl ?_
  refine x_iadd hc dX3_receive_51 ?_
  refine x_iast hc ((hm.cel 0 965 80 (by decide)).2) (by decide) rfl (by omega) (by omega) dX3_receive_52 ?_
  refine x_aload_n (j := 0) hc dX3_receive_53 rfl rfl ?_
  refine x_getR (C := RX3) (T := TX3) (NN := 19) (ci := 4) (ref := "NetPointsModel") hc 0 in_X3_receive_4 rfl (by decide) lf_X3_receive_7 (fun _ h9 => h9) hm.1 (by omega) (by decide) rfl ((hm.cel 0 965 80 (by decide)).1) dX3_receive_54 ?_
  refine x_iload_n (j := 1) hc dX3_receive_57 rfl rfl ?_
  refine x_aload_n (j := 0) hc dX3_receive_58 rfl rfl ?_
  refine x_getI (C := RX3) (T := TX3) (NN := 19) (ci := 4) (ref := "NetPointsModel") hc 7 in_X3_receive_4 rfl (by decide) lf_X3_receive_85 (fun _ h9 => h9) hm.1 (by omega) (by decide) rfl dX3_receive_59 ?_
  refine x_vali ((u2_a (Ne.symm hne)).trans (hc0.thr 0).2.1) ?_
  refine x_iload_n (j := 2) hc dX3_receive_62 rfl rfl ?_
  refine x_callS (As := [.int (nI k), .int (nI now), .int (nI w)]) (st := [.ref (dr R m 0)]) hc (m_at l D z e0 L K N (u2 (u2 I m 18 0) (dr R m 0) (40 * k + 4 * now + w) ((I (dr R m 0) (40 * k + 4 * now + w)) + t)) J R k now w) gX3_receive_X3_at rfl hdS_X3_at ⟨Nat.le_of_ble_eq_true rfl, Nat.le_of_ble_eq_true rfl⟩ rfl rfl ⟨Nat.le_of_ble_eq_true rfl, Nat.le_of_ble_eq_true rfl⟩ (Nat.le_of_ble_eq_true rfl) dX3_receive_63 (fun v9 I9 J9 hz9 => ?_)
  obtain ⟨rfl, hI9, hJ9⟩ := hz9
  replace hI9 := hI9.symm
  subst hI9
  replace hJ9 := hJ9.symm
  subst hJ9
  refine x_iald hc ((hm.cel 0 965 80 (by decide)).2) (by decide) rfl (by omega) (by omega) dX3_receive_66 ?_
  refine x_vali (u2_s) ?_
  exact x_iret hc hr (by decide) (by decide) dX3_receive_67 (⟨rfl, rfl, rfl⟩)
set_option maxHeartbeats 4000000 in
set_option maxRecDepth 100000 in
theorem m_receive1 (l : Launch) (D : va_G) (z e0 : Nat) (L : List Nat) (K N : Nat → Nat) (I : Nat → Nat → Int32) (J : Nat → Nat → Int64) (R : Nat → Nat → Option Nat) (m : Nat) (hm : Mdl L K N R m) (q : Int32) (hq : ¬ (0 ≤ q ∧ q ≤ 1)) (u t : Int32) : MG l yX3_receive wsX3_receive rm_X3_receive D z e0 L K N I J R [.ref m, .int q, .int u, .int t] (fun v I' J' => v = some (.int 0) ∧ I' = u2 I m 18 1 ∧ J' = J) := by
  refine mg_of (own := RX3) (maxL := 4) (ret := (some .int)) (by decide +kernel) rfl rfl (Nat.le_of_ble_eq_true rfl) ?_
  intro pg ev s mi args below meth c hc hr
  refine x_aload_n (j := 0) hc dX3_receive_0 rfl rfl ?_
  refine x_iconst (v := 0) hc dX3_receive_1 (by decide) ?_
  refine x_putI (C := RX3) (T := TX3) (NN := 19) (ci := 4) (ref := "NetPointsModel") hc 18 in_X3_receive_4 rfl (by decide) lf_X3_receive_56 (fun _ h9 => h9) tyX3 tyX3_ok nmX3 hm.1 (by omega) (by decide) rfl rfl pd_X3_18 dX3_receive_2 ?_
  refine x_iload_n (j := 1) hc dX3_receive_5 rfl rfl ?_
  refine x_iload_n (j := 2) hc dX3_receive_6 rfl rfl ?_
  refine x_callS (As := [.int q, .int u]) (st := []) hc (m_isWinF1 l D z e0 L K N (u2 I m 18 0) J R q hq u) gX3_receive_X3_isWindow rfl hdS_X3_isWindow ⟨Nat.le_of_ble_eq_true rfl, Nat.le_of_ble_eq_true rfl⟩ rfl rfl ⟨Nat.le_of_ble_eq_true rfl, Nat.le_of_ble_eq_true rfl⟩ (Nat.le_of_ble_eq_true rfl) dX3_receive_7 (fun v9 I9 J9 hz9 => ?_)
  obtain ⟨rfl, hI9, hJ9⟩ := hz9
  replace hI9 := hI9.symm
  subst hI9
  replace hJ9 := hJ9.symm
  subst hJ9
  refine x_if_ne (tgt := 19) hc dX3_receive_10 (by decide) (fun q9 => absurd q9 (by decide)) (fun _ => ?_)
  refine x_aload_n (j := 0) hc dX3_receive_13 rfl rfl ?_
  refine x_iconst (v := 1) hc dX3_receive_14 (by decide) ?_
  refine x_callV (C := RX3) (T := TX3) (NN := 19) (ci := 4) (As := [.int 1]) (st := []) hc hm.1 (by omega) (by decide) rfl (m_fails l D z e0 L K N (u2 I m 18 0) J R m hm 1) gX3_receive_X3_fails rfl hdV_X3_fails ⟨Nat.le_of_ble_eq_true rfl, Nat.le_of_ble_eq_true rfl⟩ rfl rfl ⟨Nat.le_of_ble_eq_true rfl, Nat.le_of_ble_eq_true rfl⟩ (Nat.le_of_ble_eq_true rfl) dX3_receive_15 (fun v9 I9 J9 hz9 => ?_)
  obtain ⟨rfl, hI9, hJ9⟩ := hz9
  replace hI9 := hI9.symm
  subst hI9
  replace hJ9 := hJ9.symm
  subst hJ9
  refine x_setI u2_u2 ?_
  exact x_iret hc hr (by decide) (by decide) dX3_receive_18 (⟨rfl, rfl, rfl⟩)
set_option maxHeartbeats 4000000 in
set_option maxRecDepth 100000 in
theorem m_receive1w (l : Launch) (D : va_G) (z e0 : Nat) (L : List Nat) (K N : Nat → Nat) (I : Nat → Nat → Int32) (J : Nat → Nat → Int64) (R : Nat → Nat → Option Nat) (m : Nat) (hm : Mdl L K N R m) (k : Nat) (hk : k < 2) (q : Int32) (hq : ¬ (0 ≤ q ∧ q ≤ 3)) (t : Int32) : MG l yX3_receive wsX3_receive rm_X3_receive D z e0 L K N I J R [.ref m, .int (nI k), .int q, .int t] (fun v I' J' => v = some (.int 0) ∧ I' = u2 I m 18 1 ∧ J' = J) := by
  refine mg_of (own := RX3) (maxL := 4) (ret := (some .int)) (by decide +kernel) rfl rfl (Nat.le_of_ble_eq_true rfl) ?_
  intro pg ev s mi args below meth c hc hr
  refine x_aload_n (j := 0) hc dX3_receive_0 rfl rfl ?_
  refine x_iconst (v := 0) hc dX3_receive_1 (by decide) ?_
  refine x_putI (C := RX3) (T := TX3) (NN := 19) (ci := 4) (ref := "NetPointsModel") hc 18 in_X3_receive_4 rfl (by decide) lf_X3_receive_56 (fun _ h9 => h9) tyX3 tyX3_ok nmX3 hm.1 (by omega) (by decide) rfl rfl pd_X3_18 dX3_receive_2 ?_
  refine x_iload_n (j := 1) hc dX3_receive_5 rfl rfl ?_
  refine x_iload_n (j := 2) hc dX3_receive_6 rfl rfl ?_
  refine x_callS (As := [.int (nI k), .int q]) (st := []) hc (m_isWinF2 l D z e0 L K N (u2 I m 18 0) J R k hk q hq) gX3_receive_X3_isWindow rfl hdS_X3_isWindow ⟨Nat.le_of_ble_eq_true rfl, Nat.le_of_ble_eq_true rfl⟩ rfl rfl ⟨Nat.le_of_ble_eq_true rfl, Nat.le_of_ble_eq_true rfl⟩ (Nat.le_of_ble_eq_true rfl) dX3_receive_7 (fun v9 I9 J9 hz9 => ?_)
  obtain ⟨rfl, hI9, hJ9⟩ := hz9
  replace hI9 := hI9.symm
  subst hI9
  replace hJ9 := hJ9.symm
  subst hJ9
  refine x_if_ne (tgt := 19) hc dX3_receive_10 (by decide) (fun q9 => absurd q9 (by decide)) (fun _ => ?_)
  refine x_aload_n (j := 0) hc dX3_receive_13 rfl rfl ?_
  refine x_iconst (v := 1) hc dX3_receive_14 (by decide) ?_
  refine x_callV (C := RX3) (T := TX3) (NN := 19) (ci := 4) (As := [.int 1]) (st := []) hc hm.1 (by omega) (by decide) rfl (m_fails l D z e0 L K N (u2 I m 18 0) J R m hm 1) gX3_receive_X3_fails rfl hdV_X3_fails ⟨Nat.le_of_ble_eq_true rfl, Nat.le_of_ble_eq_true rfl⟩ rfl rfl ⟨Nat.le_of_ble_eq_true rfl, Nat.le_of_ble_eq_true rfl⟩ (Nat.le_of_ble_eq_true rfl) dX3_receive_15 (fun v9 I9 J9 hz9 => ?_)
  obtain ⟨rfl, hI9, hJ9⟩ := hz9
  replace hI9 := hI9.symm
  subst hI9
  replace hJ9 := hJ9.symm
  subst hJ9
  refine x_setI u2_u2 ?_
  exact x_iret hc hr (by decide) (by decide) dX3_receive_18 (⟨rfl, rfl, rfl⟩)
set_option maxHeartbeats 4000000 in
set_option maxRecDepth 100000 in
theorem m_receive2 (l : Launch) (D : va_G) (z e0 : Nat) (L : List Nat) (K N : Nat → Nat) (I : Nat → Nat → Int32) (J : Nat → Nat → Int64) (R : Nat → Nat → Option Nat) (m : Nat) (hm : Mdl L K N R m) (k : Nat) (hk : k < 2) (w : Nat) (hw : w < 4) (t : Int32) (hbad : ¬ (1 ≤ t ∧ t ≤ 200000)) : MG l yX3_receive wsX3_receive rm_X3_receive D z e0 L K N I J R [.ref m, .int (nI k), .int (nI w), .int t] (fun v I' J' => v = some (.int 0) ∧ I' = u2 I m 18 2 ∧ J' = J) := by
  refine mg_of (own := RX3) (maxL := 4) (ret := (some .int)) (by decide +kernel) rfl rfl (Nat.le_of_ble_eq_true rfl) ?_
  intro pg ev s mi args below meth c hc hr
  refine x_aload_n (j := 0) hc dX3_receive_0 rfl rfl ?_
  refine x_iconst (v := 0) hc dX3_receive_1 (by decide) ?_
  refine x_putI (C := RX3) (T := TX3) (NN := 19) (ci := 4) (ref := "NetPointsModel") hc 18 in_X3_receive_4 rfl (by decide) lf_X3_receive_56 (fun _ h9 => h9) tyX3 tyX3_ok nmX3 hm.1 (by omega) (by decide) rfl rfl pd_X3_18 dX3_receive_2 ?_
  refine x_iload_n (j := 1) hc dX3_receive_5 rfl rfl ?_
  refine x_iload_n (j := 2) hc dX3_receive_6 rfl rfl ?_
  refine x_callS (As := [.int (nI k), .int (nI w)]) (st := []) hc (m_isWinT l D z e0 L K N (u2 I m 18 0) J R k hk w hw) gX3_receive_X3_isWindow rfl hdS_X3_isWindow ⟨Nat.le_of_ble_eq_true rfl, Nat.le_of_ble_eq_true rfl⟩ rfl rfl ⟨Nat.le_of_ble_eq_true rfl, Nat.le_of_ble_eq_true rfl⟩ (Nat.le_of_ble_eq_true rfl) dX3_receive_7 (fun v9 I9 J9 hz9 => ?_)
  obtain ⟨rfl, hI9, hJ9⟩ := hz9
  replace hI9 := hI9.symm
  subst hI9
  replace hJ9 := hJ9.symm
  subst hJ9
  refine x_if_ne (tgt := 19) hc dX3_receive_10 (by decide) (fun _ => ?_) (fun q9 => absurd q9 (by decide))
  refine x_iload_n (j := 3) hc dX3_receive_19 rfl rfl ?_
  refine x_iconst (v := 1) hc dX3_receive_20 (by decide) ?_
  refine x_ldc hc dX3_receive_21 lc_X3_receive_84 ?_
  refine x_callS (As := [.int t, .int 1, .int 200000]) (st := []) hc (m_inF l D z e0 L K N (u2 I m 18 0) J R t 1 200000 hbad) gX3_receive_X3_in rfl hdS_X3_in ⟨Nat.le_of_ble_eq_true rfl, Nat.le_of_ble_eq_true rfl⟩ rfl rfl ⟨Nat.le_of_ble_eq_true rfl, Nat.le_of_ble_eq_true rfl⟩ (Nat.le_of_ble_eq_true rfl) dX3_receive_23 (fun v9 I9 J9 hz9 => ?_)
  obtain ⟨rfl, hI9, hJ9⟩ := hz9
  replace hI9 := hI9.symm
  subst hI9
  replace hJ9 := hJ9.symm
  subst hJ9
  refine x_if_ne (tgt := 35) hc dX3_receive_26 (by decide) (fun q9 => absurd q9 (by decide)) (fun _ => ?_)
  refine x_aload_n (j := 0) hc dX3_receive_29 rfl rfl ?_
  refine x_iconst (v := 2) hc dX3_receive_30 (by decide) ?_
  refine x_callV (C := RX3) (T := TX3) (NN := 19) (ci := 4) (As := [.int 2]) (st := []) hc hm.1 (by omega) (by decide) rfl (m_fails l D z e0 L K N (u2 I m 18 0) J R m hm 2) gX3_receive_X3_fails rfl hdV_X3_fails ⟨Nat.le_of_ble_eq_true rfl, Nat.le_of_ble_eq_true rfl⟩ rfl rfl ⟨Nat.le_of_ble_eq_true rfl, Nat.le_of_ble_eq_true rfl⟩ (Nat.le_of_ble_eq_true rfl) dX3_receive_31 (fun v9 I9 J9 hz9 => ?_)
  obtain ⟨rfl, hI9, hJ9⟩ := hz9
  replace hI9 := hI9.symm
  subst hI9
  replace hJ9 := hJ9.symm
  subst hJ9
  refine x_setI u2_u2 ?_
  exact x_iret hc hr (by decide) (by decide) dX3_receive_34 (⟨rfl, rfl, rfl⟩)
abbrev rm_X3_spend : Room := { frames := 2, cells := 0, slots := 0, locals := 42 }
set_option maxHeartbeats 4000000 in
set_option maxRecDepth 100000 in
theorem m_spend (l : Launch) (D : va_G) (z e0 : Nat) (L : List Nat) (K N : Nat → Nat) (I : Nat → Nat → Int32) (J : Nat → Nat → Int64) (R : Nat → Nat → Option Nat) (m now n : Nat) (pic : Nat → Nat) (sh : Nat → Nat → Shr) (hc0 : MC L K N I R m now n pic sh) (k : Nat) (hk : k < 2) (t : Int32) (h1 : 1 ≤ t ∧ t ≤ 200000) : MG l yX3_spend wsX3_spend rm_X3_spend D z e0 L K N I J R [.ref m, .int (nI k), .int t] (fun v I' J' => v = some (.int (I (dr R m 1) (10 * k + now) + t)) ∧ I' = u2 (u2 I m 18 0) (dr R m 1) (10 * k + now) (I (dr R m 1) (10 * k + now) + t) ∧ J' = J) := by
  refine mg_of (own := RX3) (maxL := 3) (ret := (some .int)) (by decide +kernel) rfl rfl (Nat.le_of_ble_eq_true rfl) ?_
  intro pg ev s mi args below meth c hc hr
  have hm := hc0.1
  have hnow := hc0.2.2.1
  have hn8 := hc0.2.2.2.2.1
  have hne := hm.nx 1 981 20 (by decide)
  have e2 : u2 I m 18 0 (dr R m 1) (10 * k + now) = I (dr R m 1) (10 * k + now) := u2_a hne
  refine x_aload_n (j := 0) hc dX3_spend_0 rfl rfl ?_
  refine x_iconst (v := 0) hc dX3_spend_1 (by decide) ?_
  refine x_putI (C := RX3) (T := TX3) (NN := 19) (ci := 4) (ref := "NetPointsModel") hc 18 in_X3_spend_4 rfl (by decide) lf_X3_spend_56 (fun _ h9 => h9) tyX3 tyX3_ok nmX3 hm.1 (by omega) (by decide) rfl rfl pd_X3_18 dX3_spend_2 ?_
  refine x_iload_n (j := 1) hc dX3_spend_5 rfl rfl ?_
  refine x_callS (As := [.int (nI k)]) (st := []) hc (m_isPicT l D z e0 L K N (u2 I m 18 0) J R k hk) gX3_spend_X3_isPicture rfl hdS_X3_isPicture ⟨Nat.le_of_ble_eq_true rfl, Nat.le_of_ble_eq_true rfl⟩ rfl rfl ⟨Nat.le_of_ble_eq_true rfl, Nat.le_of_ble_eq_true rfl⟩ (Nat.le_of_ble_eq_true rfl) dX3_spend_6 (fun v9 I9 J9 hz9 => ?_)
  obtain ⟨rfl, hI9, hJ9⟩ := hz9
  replace hI9 := hI9.symm
  subst hI9
  replace hJ9 := hJ9.symm
  subst hJ9
  refine x_if_ne (tgt := 18) hc dX3_spend_9 (by decide) (fun _ => ?_) (fun q9 => absurd q9 (by decide))
  refine x_iload_n (j := 2) hc dX3_spend_18 rfl rfl ?_
  refine x_iconst (v := 1) hc dX3_spend_19 (by decide) ?_
  refine x_ldc hc dX3_spend_20 lc_X3_spend_84 ?_
  refine x_callS (As := [.int t, .int 1, .int 200000]) (st := []) hc (m_inT l D z e0 L K N (u2 I m 18 0) J R t 1 200000 h1.1 h1.2) gX3_spend_X3_in rfl hdS_X3_in ⟨Nat.le_of_ble_eq_true rfl, Nat.le_of_ble_eq_true rfl⟩ rfl rfl ⟨Nat.le_of_ble_eq_true rfl, Nat.le_of_ble_eq_true rfl⟩ (Nat.le_of_ble_eq_true rfl) dX3_spend_22 (fun v9 I9 J9 hz9 => ?_)
  obtain ⟨rfl, hI9, hJ9⟩ := hz9
  replace hI9 := hI9.symm
  subst hI9
  replace hJ9 := hJ9.symm
  subst hJ9
  refine x_if_ne (tgt := 34) hc dX3_spend_25 (by decide) (fun _ => ?_) (fun q9 => absurd q9 (by decide))
  refine x_aload_n (j := 0) hc dX3_spend_34 rfl rfl ?_
  refine x_getR (C := RX3) (T := TX3) (NN := 19) (ci := 4) (ref := "NetPointsModel") hc 1 in_X3_spend_4 rfl (by decide) lf_X3_spend_13 (fun _ h9 => h9) hm.1 (by omega) (by decide) rfl ((hm.cel 1 981 20 (by decide)).1) dX3_spend_35 ?_
  refine x_bipush (v := 10) hc dX3_spend_38 (by decide) ?_
  refine x_iload_n (j := 1) hc dX3_spend_40 rfl rfl ?_
  refine x_imul hc dX3_spend_41 ?_
  refine x_aload_n (j := 0) hc dX3_spend_42 rfl rfl ?_
  refine x_getI (C := RX3) (T := TX3) (NN := 19) (ci := 4) (ref := "NetPointsModel") hc 7 in_X3_spend_4 rfl (by decide) lf_X3_spend_85 (fun _ h9 => h9) hm.1 (by omega) (by decide) rfl dX3_spend_43 ?_
  refine x_vali ((hc0.thr 0).2.1) ?_
  refine x_iadd hc dX3_spend_46 ?_
  refine x_vali (ix10 k now) ?_
  refine x_dup2 hc dX3_spend_47 rfl rfl ?_
  refine x_iald hc ((hm.cel 1 981 20 (by decide)).2) (by decide) rfl (by omega) (by omega) dX3_spend_48 ?_
  refine x_vali (e2) ?_
  refine x_iload_n (j := 2) hc dX3_spend_49 rfl rfl ?_
  refine x_iadd hc dX3_spend_50 ?_
  refine x_iast hc ((hm.cel 1 981 20 (by decide)).2) (by decide) rfl (by omega) (by omega) dX3_spend_51 ?_
  refine x_aload_n (j := 0) hc dX3_spend_52 rfl rfl ?_
  refine x_getR (C := RX3) (T := TX3) (NN := 19) (ci := 4) (ref := "NetPointsModel") hc 1 in_X3_spend_4 rfl (by decide) lf_X3_spend_13 (fun _ h9 => h9) hm.1 (by omega) (by decide) rfl ((hm.cel 1 981 20 (by decide)).1) dX3_spend_53 ?_
  refine x_bipush (v := 10) hc dX3_spend_56 (by decide) ?_
  refine x_iload_n (j := 1) hc dX3_spend_58 rfl rfl ?_
  refine x_imul hc dX3_spend_59 ?_
  refine x_aload_n (j := 0) hc dX3_spend_60 rfl rfl ?_
  refine x_getI (C := RX3) (T := TX3) (NN := 19) (ci := 4) (ref := "NetPointsModel") hc 7 in_X3_spend_4 rfl (by decide) lf_X3_spend_85 (fun _ h9 => h9) hm.1 (by omega) (by decide) rfl dX3_spend_61 ?_
  refine x_vali ((u2_a (Ne.symm hne)).trans (hc0.thr 0).2.1) ?_
  refine x_iadd hc dX3_spend_64 ?_
  refine x_vali (ix10 k now) ?_
  refine x_iald hc ((hm.cel 1 981 20 (by decide)).2) (by decide) rfl (by omega) (by omega) dX3_spend_65 ?_
  refine x_vali (u2_s) ?_
  exact x_iret hc hr (by decide) (by decide) dX3_spend_66 (⟨rfl, rfl, rfl⟩)
set_option maxHeartbeats 4000000 in
set_option maxRecDepth 100000 in
theorem m_spend1 (l : Launch) (D : va_G) (z e0 : Nat) (L : List Nat) (K N : Nat → Nat) (I : Nat → Nat → Int32) (J : Nat → Nat → Int64) (R : Nat → Nat → Option Nat) (m : Nat) (hm : Mdl L K N R m) (q : Int32) (hq : ¬ (0 ≤ q ∧ q ≤ 1)) (t : Int32) : MG l yX3_spend wsX3_spend rm_X3_spend D z e0 L K N I J R [.ref m, .int q, .int t] (fun v I' J' => v = some (.int 0) ∧ I' = u2 I m 18 1 ∧ J' = J) := by
  refine mg_of (own := RX3) (maxL := 3) (ret := (some .int)) (by decide +kernel) rfl rfl (Nat.le_of_ble_eq_true rfl) ?_
  intro pg ev s mi args below meth c hc hr
  refine x_aload_n (j := 0) hc dX3_spend_0 rfl rfl ?_
  refine x_iconst (v := 0) hc dX3_spend_1 (by decide) ?_
  refine x_putI (C := RX3) (T := TX3) (NN := 19) (ci := 4) (ref := "NetPointsModel") hc 18 in_X3_spend_4 rfl (by decide) lf_X3_spend_56 (fun _ h9 => h9) tyX3 tyX3_ok nmX3 hm.1 (by omega) (by decide) rfl rfl pd_X3_18 dX3_spend_2 ?_
  refine x_iload_n (j := 1) hc dX3_spend_5 rfl rfl ?_
  refine x_callS (As := [.int q]) (st := []) hc (m_isPicF l D z e0 L K N (u2 I m 18 0) J R q hq) gX3_spend_X3_isPicture rfl hdS_X3_isPicture ⟨Nat.le_of_ble_eq_true rfl, Nat.le_of_ble_eq_true rfl⟩ rfl rfl ⟨Nat.le_of_ble_eq_true rfl, Nat.le_of_ble_eq_true rfl⟩ (Nat.le_of_ble_eq_true rfl) dX3_spend_6 (fun v9 I9 J9 hz9 => ?_)
  obtain ⟨rfl, hI9, hJ9⟩ := hz9
  replace hI9 := hI9.symm
  subst hI9
  replace hJ9 := hJ9.symm
  subst hJ9
  refine x_if_ne (tgt := 18) hc dX3_spend_9 (by decide) (fun q9 => absurd q9 (by decide)) (fun _ => ?_)
  refine x_aload_n (j := 0) hc dX3_spend_12 rfl rfl ?_
  refine x_iconst (v := 1) hc dX3_spend_13 (by decide) ?_
  refine x_callV (C := RX3) (T := TX3) (NN := 19) (ci := 4) (As := [.int 1]) (st := []) hc hm.1 (by omega) (by decide) rfl (m_fails l D z e0 L K N (u2 I m 18 0) J R m hm 1) gX3_spend_X3_fails rfl hdV_X3_fails ⟨Nat.le_of_ble_eq_true rfl, Nat.le_of_ble_eq_true rfl⟩ rfl rfl ⟨Nat.le_of_ble_eq_true rfl, Nat.le_of_ble_eq_true rfl⟩ (Nat.le_of_ble_eq_true rfl) dX3_spend_14 (fun v9 I9 J9 hz9 => ?_)
  obtain ⟨rfl, hI9, hJ9⟩ := hz9
  replace hI9 := hI9.symm
  subst hI9
  replace hJ9 := hJ9.symm
  subst hJ9
  refine x_setI u2_u2 ?_
  exact x_iret hc hr (by decide) (by decide) dX3_spend_17 (⟨rfl, rfl, rfl⟩)
set_option maxHeartbeats 4000000 in
set_option maxRecDepth 100000 in
theorem m_spend2 (l : Launch) (D : va_G) (z e0 : Nat) (L : List Nat) (K N : Nat → Nat) (I : Nat → Nat → Int32) (J : Nat → Nat → Int64) (R : Nat → Nat → Option Nat) (m : Nat) (hm : Mdl L K N R m) (k : Nat) (hk : k < 2) (t : Int32) (hbad : ¬ (1 ≤ t ∧ t ≤ 200000)) : MG l yX3_spend wsX3_spend rm_X3_spend D z e0 L K N I J R [.ref m, .int (nI k), .int t] (fun v I' J' => v = some (.int 0) ∧ I' = u2 I m 18 2 ∧ J' = J) := by
  refine mg_of (own := RX3) (maxL := 3) (ret := (some .int)) (by decide +kernel) rfl rfl (Nat.le_of_ble_eq_true rfl) ?_
  intro pg ev s mi args below meth c hc hr
  refine x_aload_n (j := 0) hc dX3_spend_0 rfl rfl ?_
  refine x_iconst (v := 0) hc dX3_spend_1 (by decide) ?_
  refine x_putI (C := RX3) (T := TX3) (NN := 19) (ci := 4) (ref := "NetPointsModel") hc 18 in_X3_spend_4 rfl (by decide) lf_X3_spend_56 (fun _ h9 => h9) tyX3 tyX3_ok nmX3 hm.1 (by omega) (by decide) rfl rfl pd_X3_18 dX3_spend_2 ?_
  refine x_iload_n (j := 1) hc dX3_spend_5 rfl rfl ?_
  refine x_callS (As := [.int (nI k)]) (st := []) hc (m_isPicT l D z e0 L K N (u2 I m 18 0) J R k hk) gX3_spend_X3_isPicture rfl hdS_X3_isPicture ⟨Nat.le_of_ble_eq_true rfl, Nat.le_of_ble_eq_true rfl⟩ rfl rfl ⟨Nat.le_of_ble_eq_true rfl, Nat.le_of_ble_eq_true rfl⟩ (Nat.le_of_ble_eq_true rfl) dX3_spend_6 (fun v9 I9 J9 hz9 => ?_)
  obtain ⟨rfl, hI9, hJ9⟩ := hz9
  replace hI9 := hI9.symm
  subst hI9
  replace hJ9 := hJ9.symm
  subst hJ9
  refine x_if_ne (tgt := 18) hc dX3_spend_9 (by decide) (fun _ => ?_) (fun q9 => absurd q9 (by decide))
  refine x_iload_n (j := 2) hc dX3_spend_18 rfl rfl ?_
  refine x_iconst (v := 1) hc dX3_spend_19 (by decide) ?_
  refine x_ldc hc dX3_spend_20 lc_X3_spend_84 ?_
  refine x_callS (As := [.int t, .int 1, .int 200000]) (st := []) hc (m_inF l D z e0 L K N (u2 I m 18 0) J R t 1 200000 hbad) gX3_spend_X3_in rfl hdS_X3_in ⟨Nat.le_of_ble_eq_true rfl, Nat.le_of_ble_eq_true rfl⟩ rfl rfl ⟨Nat.le_of_ble_eq_true rfl, Nat.le_of_ble_eq_true rfl⟩ (Nat.le_of_ble_eq_true rfl) dX3_spend_22 (fun v9 I9 J9 hz9 => ?_)
  obtain ⟨rfl, hI9, hJ9⟩ := hz9
  replace hI9 := hI9.symm
  subst hI9
  replace hJ9 := hJ9.symm
  subst hJ9
  refine x_if_ne (tgt := 34) hc dX3_spend_25 (by decide) (fun q9 => absurd q9 (by decide)) (fun _ => ?_)
  refine x_aload_n (j := 0) hc dX3_spend_28 rfl rfl ?_
  refine x_iconst (v := 2) hc dX3_spend_29 (by decide) ?_
  refine x_callV (C := RX3) (T := TX3) (NN := 19) (ci := 4) (As := [.int 2]) (st := []) hc hm.1 (by omega) (by decide) rfl (m_fails l D z e0 L K N (u2 I m 18 0) J R m hm 2) gX3_spend_X3_fails rfl hdV_X3_fails ⟨Nat.le_of_ble_eq_true rfl, Nat.le_of_ble_eq_true rfl⟩ rfl rfl ⟨Nat.le_of_ble_eq_true rfl, Nat.le_of_ble_eq_true rfl⟩ (Nat.le_of_ble_eq_true rfl) dX3_spend_30 (fun v9 I9 J9 hz9 => ?_)
  obtain ⟨rfl, hI9, hJ9⟩ := hz9
  replace hI9 := hI9.symm
  subst hI9
  replace hJ9 := hJ9.symm
  subst hJ9
  refine x_setI u2_u2 ?_
  exact x_iret hc hr (by decide) (by decide) dX3_spend_33 (⟨rfl, rfl, rfl⟩)
theorem sub_le3 {y now : Nat} (h : now ≤ y + 3) (h2 : y ≤ now) (h1 : now ≤ 10) : nI now - nI y ≤ 3 := by
  rw [Int32.le_iff_toInt_le, pk_sub_toInt (by omega) (by omega)]
  show (now : Int) - (y : Int) ≤ 3
  omega
theorem sub_gt3 {y now : Nat} (h : ¬ now ≤ y + 3) (h1 : now ≤ 10) : ¬ nI now - nI y ≤ 3 := by
  rw [Int32.le_iff_toInt_le, pk_sub_toInt (by omega) (by omega)]
  show ¬ (now : Int) - (y : Int) ≤ 3
  omega
abbrev rm_X3_audit : Room := { frames := 3, cells := 0, slots := 0, locals := 63 }
set_option maxHeartbeats 4000000 in
set_option maxRecDepth 100000 in
theorem m_audit (l : Launch) (D : va_G) (z e0 : Nat) (L : List Nat) (K N : Nat → Nat) (I : Nat → Nat → Int32) (J : Nat → Nat → Int64) (R : Nat → Nat → Option Nat) (m now n : Nat) (pic : Nat → Nat) (sh : Nat → Nat → Shr) (hc0 : MC L K N I R m now n pic sh) (k : Nat) (hk : k < 2) (y : Nat) (hy : y < now) (hy3 : now ≤ y + 3) (w : Nat) (hw : w < 4) (t : Int32) (h1 : 0 ≤ t ∧ t ≤ 1000000) : MG l yX3_audit wsX3_audit rm_X3_audit D z e0 L K N I J R [.ref m, .int (nI k), .int (nI y), .int (nI w), .int t] (fun v I' J' => v = some (.int (I (dr R m 0) (40 * k + 4 * y + w))) ∧ I' = u2 (u2 I m 18 0) (dr R m 0) (40 * k + 4 * y + w) t ∧ J' = J) := by
  refine mg_of (own := RX3) (maxL := 6) (ret := (some .int)) (by decide +kernel) rfl rfl (Nat.le_of_ble_eq_true rfl) ?_
  intro pg ev s mi args below meth c hc hr
  have hm := hc0.1
  have hnow := hc0.2.2.1
  have hn8 := hc0.2.2.2.2.1
  have hne := hm.nx 0 965 80 (by decide)
  have e2 : u2 I m 18 0 (dr R m 0) (40 * k + 4 * y + w) = I (dr R m 0) (40 * k + 4 * y + w) := u2_a hne
  refine x_aload_n (j := 0) hc dX3_audit_0 rfl rfl ?_
  refine x_iconst (v := 0) hc dX3_audit_1 (by decide) ?_
  refine x_putI (C := RX3) (T := TX3) (NN := 19) (ci := 4) (ref := "NetPointsModel") hc 18 in_X3_audit_4 rfl (by decide) lf_X3_audit_56 (fun _ h9 => h9) tyX3 tyX3_ok nmX3 hm.1 (by omega) (by decide) rfl rfl pd_X3_18 dX3_audit_2 ?_
  refine x_iload_n (j := 1) hc dX3_audit_5 rfl rfl ?_
  refine x_iload_n (j := 3) hc dX3_audit_6 rfl rfl ?_
  refine x_callS (As := [.int (nI k), .int (nI w)]) (st := []) hc (m_isWinT l D z e0 L K N (u2 I m 18 0) J R k hk w hw) gX3_audit_X3_isWindow rfl hdS_X3_isWindow ⟨Nat.le_of_ble_eq_true rfl, Nat.le_of_ble_eq_true rfl⟩ rfl rfl ⟨Nat.le_of_ble_eq_true rfl, Nat.le_of_ble_eq_true rfl⟩ (Nat.le_of_ble_eq_true rfl) dX3_audit_7 (fun v9 I9 J9 hz9 => ?_)
  obtain ⟨rfl, hI9, hJ9⟩ := hz9
  replace hI9 := hI9.symm
  subst hI9
  replace hJ9 := hJ9.symm
  subst hJ9
  refine x_if_ne (tgt := 19) hc dX3_audit_10 (by decide) (fun _ => ?_) (fun q9 => absurd q9 (by decide))
  refine x_iload (j := 4) hc dX3_audit_19 rfl ?_
  refine x_iconst (v := 0) hc dX3_audit_21 (by decide) ?_
  refine x_ldc hc dX3_audit_22 lc_X3_audit_92 ?_
  refine x_callS (As := [.int t, .int 0, .int 1000000]) (st := []) hc (m_inT l D z e0 L K N (u2 I m 18 0) J R t 0 1000000 h1.1 h1.2) gX3_audit_X3_in rfl hdS_X3_in ⟨Nat.le_of_ble_eq_true rfl, Nat.le_of_ble_eq_true rfl⟩ rfl rfl ⟨Nat.le_of_ble_eq_true rfl, Nat.le_of_ble_eq_true rfl⟩ (Nat.le_of_ble_eq_true rfl) dX3_audit_24 (fun v9 I9 J9 hz9 => ?_)
  obtain ⟨rfl, hI9, hJ9⟩ := hz9
  replace hI9 := hI9.symm
  subst hI9
  replace hJ9 := hJ9.symm
  subst hJ9
  refine x_if_ne (tgt := 36) hc dX3_audit_27 (by decide) (fun _ => ?_) (fun q9 => absurd q9 (by decide))
  refine x_iload_n (j := 2) hc dX3_audit_36 rfl rfl ?_
  refine x_if_lt (tgt := 58) hc dX3_audit_37 (by decide) (fun q9 => absurd q9 (nI_pos (show y < 2 ^ 31 by omega))) (fun _ => ?_)
  refine x_iload_n (j := 2) hc dX3_audit_40 rfl rfl ?_
  refine x_aload_n (j := 0) hc dX3_audit_41 rfl rfl ?_
  refine x_getI (C := RX3) (T := TX3) (NN := 19) (ci := 4) (ref := "NetPointsModel") hc 7 in_X3_audit_4 rfl (by decide) lf_X3_audit_85 (fun _ h9 => h9) hm.1 (by omega) (by decide) rfl dX3_audit_42 ?_
  refine x_vali ((hc0.thr 0).2.1) ?_
  refine x_icmp_ge (tgt := 58) hc dX3_audit_45 (by decide) (fun q9 => absurd q9 (nI_ge hy (show now < 2 ^ 31 by omega))) (fun _ => ?_)
  refine x_aload_n (j := 0) hc dX3_audit_48 rfl rfl ?_
  refine x_getI (C := RX3) (T := TX3) (NN := 19) (ci := 4) (ref := "NetPointsModel") hc 7 in_X3_audit_4 rfl (by decide) lf_X3_audit_85 (fun _ h9 => h9) hm.1 (by omega) (by decide) rfl dX3_audit_49 ?_
  refine x_vali ((hc0.thr 0).2.1) ?_
  refine x_iload_n (j := 2) hc dX3_audit_52 rfl rfl ?_
  refine x_isub hc dX3_audit_53 ?_
  refine x_iconst (v := 3) hc dX3_audit_54 (by decide) ?_
  refine x_icmp_le (tgt := 64) hc dX3_audit_55 (by decide) (fun _ => ?_) (fun q9 => absurd (sub_le3 hy3 (Nat.le_of_lt hy) (Nat.le_of_lt hnow)) q9)
  refine x_aload_n (j := 0) hc dX3_audit_64 rfl rfl ?_
  refine x_getR (C := RX3) (T := TX3) (NN := 19) (ci := 4) (ref := "NetPointsModel") hc 0 in_X3_audit_4 rfl (by decide) lf_X3_audit_7 (fun _ h9 => h9) hm.1 (by omega) (by decide) rfl ((hm.cel 0 965 80 (by decide)).1) dX3_audit_65 ?_
  refine x_iload_n (j := 1) hc dX3_audit_68 rfl rfl ?_
  refine x_iload_n (j := 2) hc dX3_audit_69 rfl rfl ?_
  refine x_iload_n (j := 3) hc dX3_audit_70 rfl rfl ?_
  refine x_callS (As := [.int (nI k), .int (nI y), .int (nI w)]) (st := [.ref (dr R m 0)]) hc (m_at l D z e0 L K N (u2 I m 18 0) J R k y w) gX3_audit_X3_at rfl hdS_X3_at ⟨Nat.le_of_ble_eq_true rfl, Nat.le_of_ble_eq_true rfl⟩ rfl rfl ⟨Nat.le_of_ble_eq_true rfl, Nat.le_of_ble_eq_true rfl⟩ (Nat.le_of_ble_eq_true rfl) dX3_audit_71 (fun v9 I9 J9 hz9 => ?_)
  obtain ⟨rfl, hI9, hJ9⟩ := hz9
  replace hI9 := hI9.symm
  subst hI9
  replace hJ9 := hJ9.symm
  subst hJ9
  refine x_iald hc ((hm.cel 0 965 80 (by decide)).2) (by decide) rfl (by omega) (by omega) dX3_audit_74 ?_
  refine x_vali (e2) ?_
  refine x_istore (lv' := [(5, .int (I (dr R m 0) (40 * k + 4 * y + w))), (0, .ref m), (1, .int (nI k)), (2, .int (nI y)), (3, .int (nI w)), (4, .int t)]) hc dX3_audit_75 (by decide) rfl ?_
  refine x_aload_n (j := 1) hc dX3_audit_77 rfl rfl ?_
  refine x_getR (C := RX3) (T := TX3) (NN := 19) (ci := 4) (ref := "NetPointsModel") hc 0 in_X3_audit_4 rfl (by decide) lf_X3_audit_7 (fun _ h9 => h9) hm.1 (by omega) (by decide) rfl ((hm.cel 0 965 80 (by decide)).1) dX3_audit_78 ?_
  refine x_iload_n (j := 2) hc dX3_audit_81 rfl rfl ?_
  refine x_iload_n (j := 3) hc dX3_audit_82 rfl rfl ?_
  refine x_iload_n (j := 4) hc dX3_audit_83 rfl rfl ?_
  refine x_callS (As := [.int (nI k), .int (nI y), .int (nI w)]) (st := [.ref (dr R m 0)]) hc (m_at l D z e0 L K N (u2 I m 18 0) J R k y w) gX3_audit_X3_at rfl hdS_X3_at ⟨Nat.le_of_ble_eq_true rfl, Nat.le_of_ble_eq_true rfl⟩ rfl rfl ⟨Nat.le_of_ble_eq_true rfl, Nat.le_of_ble_eq_true rfl⟩ (Nat.le_of_ble_eq_true rfl) dX3_audit_84 (fun v9 I9 J9 hz9 => ?_)
  obtain ⟨rfl, hI9, hJ9⟩ := hz9
  replace hI9 := hI9.symm
  subst hI9
  replace hJ9 := hJ9.symm
  subst hJ9
  refine x_iload (j := 5) hc dX3_audit_87 rfl ?_
  refine x_iast hc ((hm.cel 0 965 80 (by decide)).2) (by decide) rfl (by omega) (by omega) dX3_audit_89 ?_
  refine x_iload (j := 0) hc dX3_audit_90 rfl ?_
  exact x_iret hc hr (by decide) (by decide) dX3_audit_92 (⟨rfl, rfl, rfl⟩)
set_option maxHeartbeats 4000000 in
set_option maxRecDepth 100000 in
theorem m_audit1 (l : Launch) (D : va_G) (z e0 : Nat) (L : List Nat) (K N : Nat → Nat) (I : Nat → Nat → Int32) (J : Nat → Nat → Int64) (R : Nat → Nat → Option Nat) (m : Nat) (hm : Mdl L K N R m) (q : Int32) (hq : ¬ (0 ≤ q ∧ q ≤ 1)) (y u t : Int32) : MG l yX3_audit wsX3_audit rm_X3_audit D z e0 L K N I J R [.ref m, .int q, .int y, .int u, .int t] (fun v I' J' => v = some (.int 0) ∧ I' = u2 I m 18 1 ∧ J' = J) := by
  refine mg_of (own := RX3) (maxL := 6) (ret := (some .int)) (by decide +kernel) rfl rfl (Nat.le_of_ble_eq_true rfl) ?_
  intro pg ev s mi args below meth c hc hr
  refine x_aload_n (j := 0) hc dX3_audit_0 rfl rfl ?_
  refine x_iconst (v := 0) hc dX3_audit_1 (by decide) ?_
  refine x_putI (C := RX3) (T := TX3) (NN := 19) (ci := 4) (ref := "NetPointsModel") hc 18 in_X3_audit_4 rfl (by decide) lf_X3_audit_56 (fun _ h9 => h9) tyX3 tyX3_ok nmX3 hm.1 (by omega) (by decide) rfl rfl pd_X3_18 dX3_audit_2 ?_
  refine x_iload_n (j := 1) hc dX3_audit_5 rfl rfl ?_
  refine x_iload_n (j := 3) hc dX3_audit_6 rfl rfl ?_
  refine x_callS (As := [.int q, .int u]) (st := []) hc (m_isWinF1 l D z e0 L K N (u2 I m 18 0) J R q hq u) gX3_audit_X3_isWindow rfl hdS_X3_isWindow ⟨Nat.le_of_ble_eq_true rfl, Nat.le_of_ble_eq_true rfl⟩ rfl rfl ⟨Nat.le_of_ble_eq_true rfl, Nat.le_of_ble_eq_true rfl⟩ (Nat.le_of_ble_eq_true rfl) dX3_audit_7 (fun v9 I9 J9 hz9 => ?_)
  obtain ⟨rfl, hI9, hJ9⟩ := hz9
  replace hI9 := hI9.symm
  subst hI9
  replace hJ9 := hJ9.symm
  subst hJ9
  refine x_if_ne (tgt := 19) hc dX3_audit_10 (by decide) (fun q9 => absurd q9 (by decide)) (fun _ => ?_)
  refine x_aload_n (j := 0) hc dX3_audit_13 rfl rfl ?_
  refine x_iconst (v := 1) hc dX3_audit_14 (by decide) ?_
  refine x_callV (C := RX3) (T := TX3) (NN := 19) (ci := 4) (As := [.int 1]) (st := []) hc hm.1 (by omega) (by decide) rfl (m_fails l D z e0 L K N (u2 I m 18 0) J R m hm 1) gX3_audit_X3_fails rfl hdV_X3_fails ⟨Nat.le_of_ble_eq_true rfl, Nat.le_of_ble_eq_true rfl⟩ rfl rfl ⟨Nat.le_of_ble_eq_true rfl, Nat.le_of_ble_eq_true rfl⟩ (Nat.le_of_ble_eq_true rfl) dX3_audit_15 (fun v9 I9 J9 hz9 => ?_)
  obtain ⟨rfl, hI9, hJ9⟩ := hz9
  replace hI9 := hI9.symm
  subst hI9
  replace hJ9 := hJ9.symm
  subst hJ9
  refine x_setI u2_u2 ?_
  exact x_iret hc hr (by decide) (by decide) dX3_audit_18 (⟨rfl, rfl, rfl⟩)
set_option maxHeartbeats 4000000 in
set_option maxRecDepth 100000 in
theorem m_audit1w (l : Launch) (D : va_G) (z e0 : Nat) (L : List Nat) (K N : Nat → Nat) (I : Nat → Nat → Int32) (J : Nat → Nat → Int64) (R : Nat → Nat → Option Nat) (m : Nat) (hm : Mdl L K N R m) (k : Nat) (hk : k < 2) (q : Int32) (hq : ¬ (0 ≤ q ∧ q ≤ 3)) (y t : Int32) : MG l yX3_audit wsX3_audit rm_X3_audit D z e0 L K N I J R [.ref m, .int (nI k), .int y, .int q, .int t] (fun v I' J' => v = some (.int 0) ∧ I' = u2 I m 18 1 ∧ J' = J) := by
  refine mg_of (own := RX3) (maxL := 6) (ret := (some .int)) (by decide +kernel) rfl rfl (Nat.le_of_ble_eq_true rfl) ?_
  intro pg ev s mi args below meth c hc hr
  refine x_aload_n (j := 0) hc dX3_audit_0 rfl rfl ?_
  refine x_iconst (v := 0) hc dX3_audit_1 (by decide) ?_
  refine x_putI (C := RX3) (T := TX3) (NN := 19) (ci := 4) (ref := "NetPointsModel") hc 18 in_X3_audit_4 rfl (by decide) lf_X3_audit_56 (fun _ h9 => h9) tyX3 tyX3_ok nmX3 hm.1 (by omega) (by decide) rfl rfl pd_X3_18 dX3_audit_2 ?_
  refine x_iload_n (j := 1) hc dX3_audit_5 rfl rfl ?_
  refine x_iload_n (j := 3) hc dX3_audit_6 rfl rfl ?_
  refine x_callS (As := [.int (nI k), .int q]) (st := []) hc (m_isWinF2 l D z e0 L K N (u2 I m 18 0) J R k hk q hq) gX3_audit_X3_isWindow rfl hdS_X3_isWindow ⟨Nat.le_of_ble_eq_true rfl, Nat.le_of_ble_eq_true rfl⟩ rfl rfl ⟨Nat.le_of_ble_eq_true rfl, Nat.le_of_ble_eq_true rfl⟩ (Nat.le_of_ble_eq_true rfl) dX3_audit_7 (fun v9 I9 J9 hz9 => ?_)
  obtain ⟨rfl, hI9, hJ9⟩ := hz9
  replace hI9 := hI9.symm
  subst hI9
  replace hJ9 := hJ9.symm
  subst hJ9
  refine x_if_ne (tgt := 19) hc dX3_audit_10 (by decide) (fun q9 => absurd q9 (by decide)) (fun _ => ?_)
  refine x_aload_n (j := 0) hc dX3_audit_13 rfl rfl ?_
  refine x_iconst (v := 1) hc dX3_audit_14 (by decide) ?_
  refine x_callV (C := RX3) (T := TX3) (NN := 19) (ci := 4) (As := [.int 1]) (st := []) hc hm.1 (by omega) (by decide) rfl (m_fails l D z e0 L K N (u2 I m 18 0) J R m hm 1) gX3_audit_X3_fails rfl hdV_X3_fails ⟨Nat.le_of_ble_eq_true rfl, Nat.le_of_ble_eq_true rfl⟩ rfl rfl ⟨Nat.le_of_ble_eq_true rfl, Nat.le_of_ble_eq_true rfl⟩ (Nat.le_of_ble_eq_true rfl) dX3_audit_15 (fun v9 I9 J9 hz9 => ?_)
  obtain ⟨rfl, hI9, hJ9⟩ := hz9
  replace hI9 := hI9.symm
  subst hI9
  replace hJ9 := hJ9.symm
  subst hJ9
  refine x_setI u2_u2 ?_
  exact x_iret hc hr (by decide) (by decide) dX3_audit_18 (⟨rfl, rfl, rfl⟩)
set_option maxHeartbeats 4000000 in
set_option maxRecDepth 100000 in
theorem m_audit2 (l : Launch) (D : va_G) (z e0 : Nat) (L : List Nat) (K N : Nat → Nat) (I : Nat → Nat → Int32) (J : Nat → Nat → Int64) (R : Nat → Nat → Option Nat) (m : Nat) (hm : Mdl L K N R m) (k : Nat) (hk : k < 2) (w : Nat) (hw : w < 4) (y t : Int32) (hbad : ¬ (0 ≤ t ∧ t ≤ 1000000)) : MG l yX3_audit wsX3_audit rm_X3_audit D z e0 L K N I J R [.ref m, .int (nI k), .int y, .int (nI w), .int t] (fun v I' J' => v = some (.int 0) ∧ I' = u2 I m 18 2 ∧ J' = J) := by
  refine mg_of (own := RX3) (maxL := 6) (ret := (some .int)) (by decide +kernel) rfl rfl (Nat.le_of_ble_eq_true rfl) ?_
  intro pg ev s mi args below meth c hc hr
  refine x_aload_n (j := 0) hc dX3_audit_0 rfl rfl ?_
  refine x_iconst (v := 0) hc dX3_audit_1 (by decide) ?_
  refine x_putI (C := RX3) (T := TX3) (NN := 19) (ci := 4) (ref := "NetPointsModel") hc 18 in_X3_audit_4 rfl (by decide) lf_X3_audit_56 (fun _ h9 => h9) tyX3 tyX3_ok nmX3 hm.1 (by omega) (by decide) rfl rfl pd_X3_18 dX3_audit_2 ?_
  refine x_iload_n (j := 1) hc dX3_audit_5 rfl rfl ?_
  refine x_iload_n (j := 3) hc dX3_audit_6 rfl rfl ?_
  refine x_callS (As := [.int (nI k), .int (nI w)]) (st := []) hc (m_isWinT l D z e0 L K N (u2 I m 18 0) J R k hk w hw) gX3_audit_X3_isWindow rfl hdS_X3_isWindow ⟨Nat.le_of_ble_eq_true rfl, Nat.le_of_ble_eq_true rfl⟩ rfl rfl ⟨Nat.le_of_ble_eq_true rfl, Nat.le_of_ble_eq_true rfl⟩ (Nat.le_of_ble_eq_true rfl) dX3_audit_7 (fun v9 I9 J9 hz9 => ?_)
  obtain ⟨rfl, hI9, hJ9⟩ := hz9
  replace hI9 := hI9.symm
  subst hI9
  replace hJ9 := hJ9.symm
  subst hJ9
  refine x_if_ne (tgt := 19) hc dX3_audit_10 (by decide) (fun _ => ?_) (fun q9 => absurd q9 (by decide))
  refine x_iload (j := 4) hc dX3_audit_19 rfl ?_
  refine x_iconst (v := 0) hc dX3_audit_21 (by decide) ?_
  refine x_ldc hc dX3_audit_22 lc_X3_audit_92 ?_
  refine x_callS (As := [.int t, .int 0, .int 1000000]) (st := []) hc (m_inF l D z e0 L K N (u2 I m 18 0) J R t 0 1000000 hbad) gX3_audit_X3_in rfl hdS_X3_in ⟨Nat.le_of_ble_eq_true rfl, Nat.le_of_ble_eq_true rfl⟩ rfl rfl ⟨Nat.le_of_ble_eq_true rfl, Nat.le_of_ble_eq_true rfl⟩ (Nat.le_of_ble_eq_true rfl) dX3_audit_24 (fun v9 I9 J9 hz9 => ?_)
  obtain ⟨rfl, hI9, hJ9⟩ := hz9
  replace hI9 := hI9.symm
  subst hI9
  replace hJ9 := hJ9.symm
  subst hJ9
  refine x_if_ne (tgt := 36) hc dX3_audit_27 (by decide) (fun q9 => absurd q9 (by decide)) (fun _ => ?_)
  refine x_aload_n (j := 0) hc dX3_audit_30 rfl rfl ?_
  refine x_iconst (v := 2) hc dX3_audit_31 (by decide) ?_
  refine x_callV (C := RX3) (T := TX3) (NN := 19) (ci := 4) (As := [.int 2]) (st := []) hc hm.1 (by omega) (by decide) rfl (m_fails l D z e0 L K N (u2 I m 18 0) J R m hm 2) gX3_audit_X3_fails rfl hdV_X3_fails ⟨Nat.le_of_ble_eq_true rfl, Nat.le_of_ble_eq_true rfl⟩ rfl rfl ⟨Nat.le_of_ble_eq_true rfl, Nat.le_of_ble_eq_true rfl⟩ (Nat.le_of_ble_eq_true rfl) dX3_audit_32 (fun v9 I9 J9 hz9 => ?_)
  obtain ⟨rfl, hI9, hJ9⟩ := hz9
  replace hI9 := hI9.symm
  subst hI9
  replace hJ9 := hJ9.symm
  subst hJ9
  refine x_setI u2_u2 ?_
  exact x_iret hc hr (by decide) (by decide) dX3_audit_35 (⟨rfl, rfl, rfl⟩)
set_option maxHeartbeats 4000000 in
set_option maxRecDepth 100000 in
theorem m_audit3 (l : Launch) (D : va_G) (z e0 : Nat) (L : List Nat) (K N : Nat → Nat) (I : Nat → Nat → Int32) (J : Nat → Nat → Int64) (R : Nat → Nat → Option Nat) (m now n : Nat) (pic : Nat → Nat) (sh : Nat → Nat → Shr) (hc0 : MC L K N I R m now n pic sh) (k : Nat) (hk : k < 2) (w : Nat) (hw : w < 4) (y t : Int32) (h1 : 0 ≤ t ∧ t ≤ 1000000) (hbad : ¬ (¬ y < 0 ∧ ¬ nI now ≤ y ∧ nI now - y ≤ 3)) : MG l yX3_audit wsX3_audit rm_X3_audit D z e0 L K N I J R [.ref m, .int (nI k), .int y, .int (nI w), .int t] (fun v I' J' => v = some (.int 0) ∧ I' = u2 I m 18 3 ∧ J' = J) := by
  refine mg_of (own := RX3) (maxL := 6) (ret := (some .int)) (by decide +kernel) rfl rfl (Nat.le_of_ble_eq_true rfl) ?_
  intro pg ev s mi args below meth c hc hr
  have hm := hc0.1
  have hnow := hc0.2.2.1
  have hn8 := hc0.2.2.2.2.1
  refine x_aload_n (j := 0) hc dX3_audit_0 rfl rfl ?_
  refine x_iconst (v := 0) hc dX3_audit_1 (by decide) ?_
  refine x_putI (C := RX3) (T := TX3) (NN := 19) (ci := 4) (ref := "NetPointsModel") hc 18 in_X3_audit_4 rfl (by decide) lf_X3_audit_56 (fun _ h9 => h9) tyX3 tyX3_ok nmX3 hm.1 (by omega) (by decide) rfl rfl pd_X3_18 dX3_audit_2 ?_
  refine x_iload_n (j := 1) hc dX3_audit_5 rfl rfl ?_
  refine x_iload_n (j := 3) hc dX3_audit_6 rfl rfl ?_
  refine x_callS (As := [.int (nI k), .int (nI w)]) (st := []) hc (m_isWinT l D z e0 L K N (u2 I m 18 0) J R k hk w hw) gX3_audit_X3_isWindow rfl hdS_X3_isWindow ⟨Nat.le_of_ble_eq_true rfl, Nat.le_of_ble_eq_true rfl⟩ rfl rfl ⟨Nat.le_of_ble_eq_true rfl, Nat.le_of_ble_eq_true rfl⟩ (Nat.le_of_ble_eq_true rfl) dX3_audit_7 (fun v9 I9 J9 hz9 => ?_)
  obtain ⟨rfl, hI9, hJ9⟩ := hz9
  replace hI9 := hI9.symm
  subst hI9
  replace hJ9 := hJ9.symm
  subst hJ9
  refine x_if_ne (tgt := 19) hc dX3_audit_10 (by decide) (fun _ => ?_) (fun q9 => absurd q9 (by decide))
  refine x_iload (j := 4) hc dX3_audit_19 rfl ?_
  refine x_iconst (v := 0) hc dX3_audit_21 (by decide) ?_
  refine x_ldc hc dX3_audit_22 lc_X3_audit_92 ?_
  refine x_callS (As := [.int t, .int 0, .int 1000000]) (st := []) hc (m_inT l D z e0 L K N (u2 I m 18 0) J R t 0 1000000 h1.1 h1.2) gX3_audit_X3_in rfl hdS_X3_in ⟨Nat.le_of_ble_eq_true rfl, Nat.le_of_ble_eq_true rfl⟩ rfl rfl ⟨Nat.le_of_ble_eq_true rfl, Nat.le_of_ble_eq_true rfl⟩ (Nat.le_of_ble_eq_true rfl) dX3_audit_24 (fun v9 I9 J9 hz9 => ?_)
  obtain ⟨rfl, hI9, hJ9⟩ := hz9
  replace hI9 := hI9.symm
  subst hI9
  replace hJ9 := hJ9.symm
  subst hJ9
  refine x_if_ne (tgt := 36) hc dX3_audit_27 (by decide) (fun _ => ?_) (fun q9 => absurd q9 (by decide))
  refine x_iload_n (j := 2) hc dX3_audit_36 rfl rfl ?_
  refine x_if_lt (tgt := 58) hc dX3_audit_37 (by decide) (fun q1 => ?_) (fun q1 => ?_)
  · refine x_aload_n (j := 0) hc dX3_audit_58 rfl rfl ?_
    refine x_iconst (v := 3) hc dX3_audit_59 (by decide) ?_
    refine x_callV (C := RX3) (T := TX3) (NN := 19) (ci := 4) (As := [.int 3]) (st := []) hc hm.1 (by omega) (by decide) rfl (m_fails l D z e0 L K N (u2 I m 18 0) J R m hm 3) gX3_audit_X3_fails rfl hdV_X3_fails ⟨Nat.le_of_ble_eq_true rfl, Nat.le_of_ble_eq_true rfl⟩ rfl rfl ⟨Nat.le_of_ble_eq_true rfl, Nat.le_of_ble_eq_true rfl⟩ (Nat.le_of_ble_eq_true rfl) dX3_audit_60 (fun v9 I9 J9 hz9 => ?_)
    obtain ⟨rfl, hI9, hJ9⟩ := hz9
    replace hI9 := hI9.symm
    subst hI9
    replace hJ9 := hJ9.symm
    subst hJ9
    refine x_setI u2_u2 ?_
    exact x_iret hc hr (by decide) (by decide) dX3_audit_63 (⟨rfl, rfl, rfl⟩)
  · refine x_iload_n (j := 2) hc dX3_audit_40 rfl rfl ?_
    refine x_aload_n (j := 0) hc dX3_audit_41 rfl rfl ?_
    refine x_getI (C := RX3) (T := TX3) (NN := 19) (ci := 4) (ref := "NetPointsModel") hc 7 in_X3_audit_4 rfl (by decide) lf_X3_audit_85 (fun _ h9 => h9) hm.1 (by omega) (by decide) rfl dX3_audit_42 ?_
    refine x_vali ((hc0.thr 0).2.1) ?_
    refine x_icmp_ge (tgt := 58) hc dX3_audit_45 (by decide) (fun q2 => ?_) (fun q2 => ?_)
    · refine x_aload_n (j := 0) hc dX3_audit_58 rfl rfl ?_
      refine x_iconst (v := 3) hc dX3_audit_59 (by decide) ?_
      refine x_callV (C := RX3) (T := TX3) (NN := 19) (ci := 4) (As := [.int 3]) (st := []) hc hm.1 (by omega) (by decide) rfl (m_fails l D z e0 L K N (u2 I m 18 0) J R m hm 3) gX3_audit_X3_fails rfl hdV_X3_fails ⟨Nat.le_of_ble_eq_true rfl, Nat.le_of_ble_eq_true rfl⟩ rfl rfl ⟨Nat.le_of_ble_eq_true rfl, Nat.le_of_ble_eq_true rfl⟩ (Nat.le_of_ble_eq_true rfl) dX3_audit_60 (fun v9 I9 J9 hz9 => ?_)
      obtain ⟨rfl, hI9, hJ9⟩ := hz9
      replace hI9 := hI9.symm
      subst hI9
      replace hJ9 := hJ9.symm
      subst hJ9
      refine x_setI u2_u2 ?_
      exact x_iret hc hr (by decide) (by decide) dX3_audit_63 (⟨rfl, rfl, rfl⟩)
    · refine x_aload_n (j := 0) hc dX3_audit_48 rfl rfl ?_
      refine x_getI (C := RX3) (T := TX3) (NN := 19) (ci := 4) (ref := "NetPointsModel") hc 7 in_X3_audit_4 rfl (by decide) lf_X3_audit_85 (fun _ h9 => h9) hm.1 (by omega) (by decide) rfl dX3_audit_49 ?_
      refine x_vali ((hc0.thr 0).2.1) ?_
      refine x_iload_n (j := 2) hc dX3_audit_52 rfl rfl ?_
      refine x_isub hc dX3_audit_53 ?_
      refine x_iconst (v := 3) hc dX3_audit_54 (by decide) ?_
      refine x_icmp_le (tgt := 64) hc dX3_audit_55 (by decide) (fun q9 => absurd q9 (fun h => hbad ⟨q1, q2, h⟩)) (fun _ => ?_)
      refine x_aload_n (j := 0) hc dX3_audit_58 rfl rfl ?_
      refine x_iconst (v := 3) hc dX3_audit_59 (by decide) ?_
      refine x_callV (C := RX3) (T := TX3) (NN := 19) (ci := 4) (As := [.int 3]) (st := []) hc hm.1 (by omega) (by decide) rfl (m_fails l D z e0 L K N (u2 I m 18 0) J R m hm 3) gX3_audit_X3_fails rfl hdV_X3_fails ⟨Nat.le_of_ble_eq_true rfl, Nat.le_of_ble_eq_true rfl⟩ rfl rfl ⟨Nat.le_of_ble_eq_true rfl, Nat.le_of_ble_eq_true rfl⟩ (Nat.le_of_ble_eq_true rfl) dX3_audit_60 (fun v9 I9 J9 hz9 => ?_)
      obtain ⟨rfl, hI9, hJ9⟩ := hz9
      replace hI9 := hI9.symm
      subst hI9
      replace hJ9 := hJ9.symm
      subst hJ9
      refine x_setI u2_u2 ?_
      exact x_iret hc hr (by decide) (by decide) dX3_audit_63 (⟨rfl, rfl, rfl⟩)
abbrev rm_X3_closeYear : Room := { frames := 1, cells := 0, slots := 0, locals := 24 }
set_option maxHeartbeats 4000000 in
set_option maxRecDepth 100000 in
theorem m_closeYear (l : Launch) (D : va_G) (z e0 : Nat) (L : List Nat) (K N : Nat → Nat) (I : Nat → Nat → Int32) (J : Nat → Nat → Int64) (R : Nat → Nat → Option Nat) (m now n : Nat) (pic : Nat → Nat) (sh : Nat → Nat → Shr) (hc0 : MC L K N I R m now n pic sh) (h9 : now < 9) : MG l yX3_closeYear wsX3_closeYear rm_X3_closeYear D z e0 L K N I J R [.ref m] (fun v I' J' => v = some (.int (nI (now + 1))) ∧ I' = u2 (u2 I m 18 0) m 7 (nI (now + 1)) ∧ J' = J) := by
  refine mg_of (own := RX3) (maxL := 1) (ret := (some .int)) (by decide +kernel) rfl rfl (Nat.le_of_ble_eq_true rfl) ?_
  intro pg ev s mi args below meth c hc hr
  have hm := hc0.1
  have hnow := hc0.2.2.1
  have hn8 := hc0.2.2.2.2.1
  refine x_aload_n (j := 0) hc dX3_closeYear_0 rfl rfl ?_
  refine x_iconst (v := 0) hc dX3_closeYear_1 (by decide) ?_
  refine x_putI (C := RX3) (T := TX3) (NN := 19) (ci := 4) (ref := "NetPointsModel") hc 18 in_X3_closeYear_4 rfl (by decide) lf_X3_closeYear_56 (fun _ h9 => h9) tyX3 tyX3_ok nmX3 hm.1 (by omega) (by decide) rfl rfl pd_X3_18 dX3_closeYear_2 ?_
  refine x_aload_n (j := 0) hc dX3_closeYear_5 rfl rfl ?_
  refine x_getI (C := RX3) (T := TX3) (NN := 19) (ci := 4) (ref := "NetPointsModel") hc 7 in_X3_closeYear_4 rfl (by decide) lf_X3_closeYear_85 (fun _ h9 => h9) hm.1 (by omega) (by decide) rfl dX3_closeYear_6 ?_
  refine x_vali ((hc0.thr 0).2.1) ?_
  refine x_bipush (v := 9) hc dX3_closeYear_9 (by decide) ?_
  refine x_icmp_ne (tgt := 20) hc dX3_closeYear_11 (by decide) (fun _ => ?_) (fun q9 => absurd q9 (fun h => by have := (nI_eq (a := now) (b := 9) (by omega) (by decide)).mp h; omega))
  refine x_aload_n (j := 0) hc dX3_closeYear_20 rfl rfl ?_
  refine x_dup hc dX3_closeYear_21 rfl ?_
  refine x_getI (C := RX3) (T := TX3) (NN := 19) (ci := 4) (ref := "NetPointsModel") hc 7 in_X3_closeYear_4 rfl (by decide) lf_X3_closeYear_85 (fun _ h9 => h9) hm.1 (by omega) (by decide) rfl dX3_closeYear_22 ?_
  refine x_vali ((hc0.thr 0).2.1) ?_
  refine x_iconst (v := 1) hc dX3_closeYear_25 (by decide) ?_
  refine x_iadd hc dX3_closeYear_26 ?_
  refine x_putI (C := RX3) (T := TX3) (NN := 19) (ci := 4) (ref := "NetPointsModel") hc 7 in_X3_closeYear_4 rfl (by decide) lf_X3_closeYear_85 (fun _ h9 => h9) tyX3 tyX3_ok nmX3 hm.1 (by omega) (by decide) rfl rfl pd_X3_7 dX3_closeYear_27 ?_
  refine x_aload_n (j := 0) hc dX3_closeYear_30 rfl rfl ?_
  refine x_getI (C := RX3) (T := TX3) (NN := 19) (ci := 4) (ref := "NetPointsModel") hc 7 in_X3_closeYear_4 rfl (by decide) lf_X3_closeYear_85 (fun _ h9 => h9) hm.1 (by omega) (by decide) rfl dX3_closeYear_31 ?_
  refine x_vali (u2_s.trans (nI_1 now)) ?_
  exact x_iret hc hr (by decide) (by decide) dX3_closeYear_34 (⟨rfl, by rw [nI_1], rfl⟩)
set_option maxHeartbeats 4000000 in
set_option maxRecDepth 100000 in
theorem m_closeYear1 (l : Launch) (D : va_G) (z e0 : Nat) (L : List Nat) (K N : Nat → Nat) (I : Nat → Nat → Int32) (J : Nat → Nat → Int64) (R : Nat → Nat → Option Nat) (m now n : Nat) (pic : Nat → Nat) (sh : Nat → Nat → Shr) (hc0 : MC L K N I R m now n pic sh) (h9 : ¬ now < 9) : MG l yX3_closeYear wsX3_closeYear rm_X3_closeYear D z e0 L K N I J R [.ref m] (fun v I' J' => v = some (.int 0) ∧ I' = u2 I m 18 1 ∧ J' = J) := by
  refine mg_of (own := RX3) (maxL := 1) (ret := (some .int)) (by decide +kernel) rfl rfl (Nat.le_of_ble_eq_true rfl) ?_
  intro pg ev s mi args below meth c hc hr
  have hm := hc0.1
  have hnow := hc0.2.2.1
  have hn8 := hc0.2.2.2.2.1
  refine x_aload_n (j := 0) hc dX3_closeYear_0 rfl rfl ?_
  refine x_iconst (v := 0) hc dX3_closeYear_1 (by decide) ?_
  refine x_putI (C := RX3) (T := TX3) (NN := 19) (ci := 4) (ref := "NetPointsModel") hc 18 in_X3_closeYear_4 rfl (by decide) lf_X3_closeYear_56 (fun _ h9 => h9) tyX3 tyX3_ok nmX3 hm.1 (by omega) (by decide) rfl rfl pd_X3_18 dX3_closeYear_2 ?_
  refine x_aload_n (j := 0) hc dX3_closeYear_5 rfl rfl ?_
  refine x_getI (C := RX3) (T := TX3) (NN := 19) (ci := 4) (ref := "NetPointsModel") hc 7 in_X3_closeYear_4 rfl (by decide) lf_X3_closeYear_85 (fun _ h9 => h9) hm.1 (by omega) (by decide) rfl dX3_closeYear_6 ?_
  refine x_vali ((hc0.thr 0).2.1) ?_
  refine x_bipush (v := 9) hc dX3_closeYear_9 (by decide) ?_
  refine x_icmp_ne (tgt := 20) hc dX3_closeYear_11 (by decide) (fun q9 => absurd q9 (fun h => h (show nI now = nI 9 by rw [show now = 9 by omega]))) (fun _ => ?_)
  refine x_aload_n (j := 0) hc dX3_closeYear_14 rfl rfl ?_
  refine x_iconst (v := 1) hc dX3_closeYear_15 (by decide) ?_
  refine x_callV (C := RX3) (T := TX3) (NN := 19) (ci := 4) (As := [.int 1]) (st := []) hc hm.1 (by omega) (by decide) rfl (m_fails l D z e0 L K N (u2 I m 18 0) J R m hm 1) gX3_closeYear_X3_fails rfl hdV_X3_fails ⟨Nat.le_of_ble_eq_true rfl, Nat.le_of_ble_eq_true rfl⟩ rfl rfl ⟨Nat.le_of_ble_eq_true rfl, Nat.le_of_ble_eq_true rfl⟩ (Nat.le_of_ble_eq_true rfl) dX3_closeYear_16 (fun v9 I9 J9 hz9 => ?_)
  obtain ⟨rfl, hI9, hJ9⟩ := hz9
  replace hI9 := hI9.symm
  subst hI9
  replace hJ9 := hJ9.symm
  subst hJ9
  refine x_setI u2_u2 ?_
  exact x_iret hc hr (by decide) (by decide) dX3_closeYear_19 (⟨rfl, rfl, rfl⟩)
abbrev rm_X3_year : Room := { frames := 1, cells := 0, slots := 0, locals := 24 }
set_option maxHeartbeats 4000000 in
set_option maxRecDepth 100000 in
theorem m_year (l : Launch) (D : va_G) (z e0 : Nat) (L : List Nat) (K N : Nat → Nat) (I : Nat → Nat → Int32) (J : Nat → Nat → Int64) (R : Nat → Nat → Option Nat) (m now n : Nat) (pic : Nat → Nat) (sh : Nat → Nat → Shr) (hc0 : MC L K N I R m now n pic sh) : MG l yX3_year wsX3_year rm_X3_year D z e0 L K N I J R [.ref m] (fun v I' J' => v = some (.int (nI now)) ∧ I' = u2 I m 18 0 ∧ J' = J) := by
  refine mg_of (own := RX3) (maxL := 1) (ret := (some .int)) (by decide +kernel) rfl rfl (Nat.le_of_ble_eq_true rfl) ?_
  intro pg ev s mi args below meth c hc hr
  have hm := hc0.1
  have hnow := hc0.2.2.1
  have hn8 := hc0.2.2.2.2.1
  refine x_aload_n (j := 0) hc dX3_year_0 rfl rfl ?_
  refine x_iconst (v := 0) hc dX3_year_1 (by decide) ?_
  refine x_putI (C := RX3) (T := TX3) (NN := 19) (ci := 4) (ref := "NetPointsModel") hc 18 in_X3_year_4 rfl (by decide) lf_X3_year_56 (fun _ h9 => h9) tyX3 tyX3_ok nmX3 hm.1 (by omega) (by decide) rfl rfl pd_X3_18 dX3_year_2 ?_
  refine x_aload_n (j := 0) hc dX3_year_5 rfl rfl ?_
  refine x_getI (C := RX3) (T := TX3) (NN := 19) (ci := 4) (ref := "NetPointsModel") hc 7 in_X3_year_4 rfl (by decide) lf_X3_year_85 (fun _ h9 => h9) hm.1 (by omega) (by decide) rfl dX3_year_6 ?_
  refine x_vali ((hc0.thr 0).2.1) ?_
  exact x_iret hc hr (by decide) (by decide) dX3_year_9 (⟨rfl, rfl, rfl⟩)
abbrev rm_X3_sharers : Room := { frames := 1, cells := 0, slots := 0, locals := 24 }
set_option maxHeartbeats 4000000 in
set_option maxRecDepth 100000 in
theorem m_sharers (l : Launch) (D : va_G) (z e0 : Nat) (L : List Nat) (K N : Nat → Nat) (I : Nat → Nat → Int32) (J : Nat → Nat → Int64) (R : Nat → Nat → Option Nat) (m now n : Nat) (pic : Nat → Nat) (sh : Nat → Nat → Shr) (hc0 : MC L K N I R m now n pic sh) : MG l yX3_sharers wsX3_sharers rm_X3_sharers D z e0 L K N I J R [.ref m] (fun v I' J' => v = some (.int (nI n)) ∧ I' = u2 I m 18 0 ∧ J' = J) := by
  refine mg_of (own := RX3) (maxL := 1) (ret := (some .int)) (by decide +kernel) rfl rfl (Nat.le_of_ble_eq_true rfl) ?_
  intro pg ev s mi args below meth c hc hr
  have hm := hc0.1
  have hnow := hc0.2.2.1
  have hn8 := hc0.2.2.2.2.1
  refine x_aload_n (j := 0) hc dX3_sharers_0 rfl rfl ?_
  refine x_iconst (v := 0) hc dX3_sharers_1 (by decide) ?_
  refine x_putI (C := RX3) (T := TX3) (NN := 19) (ci := 4) (ref := "NetPointsModel") hc 18 in_X3_sharers_4 rfl (by decide) lf_X3_sharers_56 (fun _ h9 => h9) tyX3 tyX3_ok nmX3 hm.1 (by omega) (by decide) rfl rfl pd_X3_18 dX3_sharers_2 ?_
  refine x_aload_n (j := 0) hc dX3_sharers_5 rfl rfl ?_
  refine x_getI (C := RX3) (T := TX3) (NN := 19) (ci := 4) (ref := "NetPointsModel") hc 14 in_X3_sharers_4 rfl (by decide) lf_X3_sharers_81 (fun _ h9 => h9) hm.1 (by omega) (by decide) rfl dX3_sharers_6 ?_
  refine x_vali ((hc0.thr 0).2.2.2.1) ?_
  exact x_iret hc hr (by decide) (by decide) dX3_sharers_9 (⟨rfl, rfl, rfl⟩)
abbrev rm_X3_grossOf : Room := { frames := 1, cells := 0, slots := 0, locals := 24 }
set_option maxHeartbeats 4000000 in
set_option maxRecDepth 100000 in
theorem m_grossOf (l : Launch) (D : va_G) (z e0 : Nat) (L : List Nat) (K N : Nat → Nat) (I : Nat → Nat → Int32) (J : Nat → Nat → Int64) (R : Nat → Nat → Option Nat) (m : Nat) (hm : Mdl L K N R m) (p y : Nat) (hp : p < 2) (hy : y < 10) : MG l yX3_grossOf wsX3_grossOf rm_X3_grossOf D z e0 L K N I J R [.ref m, .int (nI p), .int (nI y)] (fun v I' J' => v = some (.long (grossY (mrc I R m p y))) ∧ I' = I ∧ J' = J) := by
  refine mg_of (own := RX3) (maxL := 6) (ret := (some .long)) (by decide +kernel) rfl rfl (Nat.le_of_ble_eq_true rfl) ?_
  intro pg ev s mi args below meth c hc hr
  refine x_lconst (v := 0) hc dX3_grossOf_0 rfl ?_
  refine x_lstore_n (lv' := [(3, .long 0), (0, .ref m), (1, .int (nI p)), (2, .int (nI y))]) hc dX3_grossOf_1 rfl (by decide) rfl ?_
  refine x_iconst (v := 0) hc dX3_grossOf_2 (by decide) ?_
  refine x_istore (lv' := [(5, .int 0), (3, .long 0), (0, .ref m), (1, .int (nI p)), (2, .int (nI y))]) hc dX3_grossOf_3 (by decide) rfl ?_
  refine x_iload (j := 0) hc dX3_grossOf_5 rfl ?_
  refine x_iconst (v := 4) hc dX3_grossOf_7 (by decide) ?_
  refine x_icmp_ge (tgt := 33) hc dX3_grossOf_8 (by decide) (fun q9 => absurd q9 (by decide)) (fun _ => ?_)
  refine x_lload_n (j := 1) hc dX3_grossOf_11 rfl rfl ?_
  refine x_aload_n (j := 2) hc dX3_grossOf_12 rfl rfl ?_
  refine x_getR (C := RX3) (T := TX3) (NN := 19) (ci := 4) (ref := "NetPointsModel") hc 0 in_X3_grossOf_4 rfl (by decide) lf_X3_grossOf_7 (fun _ h9 => h9) hm.1 (by omega) (by decide) rfl ((hm.cel 0 965 80 (by decide)).1) dX3_grossOf_13 ?_
  refine x_iload_n (j := 3) hc dX3_grossOf_16 rfl rfl ?_
  refine x_iload_n (j := 4) hc dX3_grossOf_17 rfl rfl ?_
  refine x_iload (j := 0) hc dX3_grossOf_18 rfl ?_
  refine x_callS (As := [.int (nI p), .int (nI y), .int 0]) (st := [.ref (dr R m 0), .long 0]) hc (m_at l D z e0 L K N I J R p y 0) gX3_grossOf_X3_at rfl hdS_X3_at ⟨Nat.le_of_ble_eq_true rfl, Nat.le_of_ble_eq_true rfl⟩ rfl rfl ⟨Nat.le_of_ble_eq_true rfl, Nat.le_of_ble_eq_true rfl⟩ (Nat.le_of_ble_eq_true rfl) dX3_grossOf_20 (fun v9 I9 J9 hz9 => ?_)
  obtain ⟨rfl, hI9, hJ9⟩ := hz9
  replace hI9 := hI9.symm
  subst hI9
  replace hJ9 := hJ9.symm
  subst hJ9
  refine x_iald hc ((hm.cel 0 965 80 (by decide)).2) (by decide) rfl (by omega) (by omega) dX3_grossOf_23 ?_
  refine x_i2l hc dX3_grossOf_24 ?_
  refine x_ladd hc dX3_grossOf_25 ?_
  refine x_lstore_n (lv' := [(3, .long (0 + (Int32.toInt64 (I (dr R m 0) (40 * p + 4 * y + 0))))), (5, .int 0), (0, .ref m), (1, .int (nI p)), (2, .int (nI y))]) hc dX3_grossOf_26 rfl (by decide) rfl ?_
  refine x_iinc (j := 1) (v := 1) (lv' := [(5, .int 1), (3, .long (0 + (Int32.toInt64 (I (dr R m 0) (40 * p + 4 * y + 0))))), (0, .ref m), (1, .int (nI p)), (2, .int (nI y))]) hc dX3_grossOf_27 rfl (by decide) (by decide) rfl ?_
  refine x_goto (tgt := 5) hc dX3_grossOf_30 (by decide) ?_
  refine x_iload (j := 0) hc dX3_grossOf_5 rfl ?_
  refine x_iconst (v := 4) hc dX3_grossOf_7 (by decide) ?_
  refine x_icmp_ge (tgt := 33) hc dX3_grossOf_8 (by decide) (fun q9 => absurd q9 (by decide)) (fun _ => ?_)
  refine x_lload_n (j := 1) hc dX3_grossOf_11 rfl rfl ?_
  refine x_aload_n (j := 2) hc dX3_grossOf_12 rfl rfl ?_
  refine x_getR (C := RX3) (T := TX3) (NN := 19) (ci := 4) (ref := "NetPointsModel") hc 0 in_X3_grossOf_4 rfl (by decide) lf_X3_grossOf_7 (fun _ h9 => h9) hm.1 (by omega) (by decide) rfl ((hm.cel 0 965 80 (by decide)).1) dX3_grossOf_13 ?_
  refine x_iload_n (j := 3) hc dX3_grossOf_16 rfl rfl ?_
  refine x_iload_n (j := 4) hc dX3_grossOf_17 rfl rfl ?_
  refine x_iload (j := 0) hc dX3_grossOf_18 rfl ?_
  refine x_callS (As := [.int (nI p), .int (nI y), .int 1]) (st := [.ref (dr R m 0), .long (0 + (Int32.toInt64 (I (dr R m 0) (40 * p + 4 * y + 0))))]) hc (m_at l D z e0 L K N I J R p y 1) gX3_grossOf_X3_at rfl hdS_X3_at ⟨Nat.le_of_ble_eq_true rfl, Nat.le_of_ble_eq_true rfl⟩ rfl rfl ⟨Nat.le_of_ble_eq_true rfl, Nat.le_of_ble_eq_true rfl⟩ (Nat.le_of_ble_eq_true rfl) dX3_grossOf_20 (fun v9 I9 J9 hz9 => ?_)
  obtain ⟨rfl, hI9, hJ9⟩ := hz9
  replace hI9 := hI9.symm
  subst hI9
  replace hJ9 := hJ9.symm
  subst hJ9
  refine x_iald hc ((hm.cel 0 965 80 (by decide)).2) (by decide) rfl (by omega) (by omega) dX3_grossOf_23 ?_
  refine x_i2l hc dX3_grossOf_24 ?_
  refine x_ladd hc dX3_grossOf_25 ?_
  refine x_lstore_n (lv' := [(3, .long ((0 + (Int32.toInt64 (I (dr R m 0) (40 * p + 4 * y + 0)))) + (Int32.toInt64 (I (dr R m 0) (40 * p + 4 * y + 1))))), (5, .int 1), (0, .ref m), (1, .int (nI p)), (2, .int (nI y))]) hc dX3_grossOf_26 rfl (by decide) rfl ?_
  refine x_iinc (j := 1) (v := 2) (lv' := [(5, .int 2), (3, .long ((0 + (Int32.toInt64 (I (dr R m 0) (40 * p + 4 * y + 0)))) + (Int32.toInt64 (I (dr R m 0) (40 * p + 4 * y + 1))))), (0, .ref m), (1, .int (nI p)), (2, .int (nI y))]) hc dX3_grossOf_27 rfl (by decide) (by decide) rfl ?_
  refine x_goto (tgt := 5) hc dX3_grossOf_30 (by decide) ?_
  refine x_iload (j := 0) hc dX3_grossOf_5 rfl ?_
  refine x_iconst (v := 4) hc dX3_grossOf_7 (by decide) ?_
  refine x_icmp_ge (tgt := 33) hc dX3_grossOf_8 (by decide) (fun q9 => absurd q9 (by decide)) (fun _ => ?_)
  refine x_lload_n (j := 1) hc dX3_grossOf_11 rfl rfl ?_
  refine x_aload_n (j := 2) hc dX3_grossOf_12 rfl rfl ?_
  refine x_getR (C := RX3) (T := TX3) (NN := 19) (ci := 4) (ref := "NetPointsModel") hc 0 in_X3_grossOf_4 rfl (by decide) lf_X3_grossOf_7 (fun _ h9 => h9) hm.1 (by omega) (by decide) rfl ((hm.cel 0 965 80 (by decide)).1) dX3_grossOf_13 ?_
  refine x_iload_n (j := 3) hc dX3_grossOf_16 rfl rfl ?_
  refine x_iload_n (j := 4) hc dX3_grossOf_17 rfl rfl ?_
  refine x_iload (j := 0) hc dX3_grossOf_18 rfl ?_
  refine x_callS (As := [.int (nI p), .int (nI y), .int 2]) (st := [.ref (dr R m 0), .long ((0 + (Int32.toInt64 (I (dr R m 0) (40 * p + 4 * y + 0)))) + (Int32.toInt64 (I (dr R m 0) (40 * p + 4 * y + 1))))]) hc (m_at l D z e0 L K N I J R p y 2) gX3_grossOf_X3_at rfl hdS_X3_at ⟨Nat.le_of_ble_eq_true rfl, Nat.le_of_ble_eq_true rfl⟩ rfl rfl ⟨Nat.le_of_ble_eq_true rfl, Nat.le_of_ble_eq_true rfl⟩ (Nat.le_of_ble_eq_true rfl) dX3_grossOf_20 (fun v9 I9 J9 hz9 => ?_)
  obtain ⟨rfl, hI9, hJ9⟩ := hz9
  replace hI9 := hI9.symm
  subst hI9
  replace hJ9 := hJ9.symm
  subst hJ9
  refine x_iald hc ((hm.cel 0 965 80 (by decide)).2) (by decide) rfl (by omega) (by omega) dX3_grossOf_23 ?_
  refine x_i2l hc dX3_grossOf_24 ?_
  refine x_ladd hc dX3_grossOf_25 ?_
  refine x_lstore_n (lv' := [(3, .long (((0 + (Int32.toInt64 (I (dr R m 0) (40 * p + 4 * y + 0)))) + (Int32.toInt64 (I (dr R m 0) (40 * p + 4 * y + 1)))) + (Int32.toInt64 (I (dr R m 0) (40 * p + 4 * y + 2))))), (5, .int 2), (0, .ref m), (1, .int (nI p)), (2, .int (nI y))]) hc dX3_grossOf_26 rfl (by decide) rfl ?_
  refine x_iinc (j := 1) (v := 3) (lv' := [(5, .int 3), (3, .long (((0 + (Int32.toInt64 (I (dr R m 0) (40 * p + 4 * y + 0)))) + (Int32.toInt64 (I (dr R m 0) (40 * p + 4 * y + 1)))) + (Int32.toInt64 (I (dr R m 0) (40 * p + 4 * y + 2))))), (0, .ref m), (1, .int (nI p)), (2, .int (nI y))]) hc dX3_grossOf_27 rfl (by decide) (by decide) rfl ?_
  refine x_goto (tgt := 5) hc dX3_grossOf_30 (by decide) ?_
  refine x_iload (j := 0) hc dX3_grossOf_5 rfl ?_
  refine x_iconst (v := 4) hc dX3_grossOf_7 (by decide) ?_
  refine x_icmp_ge (tgt := 33) hc dX3_grossOf_8 (by decide) (fun q9 => absurd q9 (by decide)) (fun _ => ?_)
  refine x_lload_n (j := 1) hc dX3_grossOf_11 rfl rfl ?_
  refine x_aload_n (j := 2) hc dX3_grossOf_12 rfl rfl ?_
  refine x_getR (C := RX3) (T := TX3) (NN := 19) (ci := 4) (ref := "NetPointsModel") hc 0 in_X3_grossOf_4 rfl (by decide) lf_X3_grossOf_7 (fun _ h9 => h9) hm.1 (by omega) (by decide) rfl ((hm.cel 0 965 80 (by decide)).1) dX3_grossOf_13 ?_
  refine x_iload_n (j := 3) hc dX3_grossOf_16 rfl rfl ?_
  refine x_iload_n (j := 4) hc dX3_grossOf_17 rfl rfl ?_
  refine x_iload (j := 0) hc dX3_grossOf_18 rfl ?_
  refine x_callS (As := [.int (nI p), .int (nI y), .int 3]) (st := [.ref (dr R m 0), .long (((0 + (Int32.toInt64 (I (dr R m 0) (40 * p + 4 * y + 0)))) + (Int32.toInt64 (I (dr R m 0) (40 * p + 4 * y + 1)))) + (Int32.toInt64 (I (dr R m 0) (40 * p + 4 * y + 2))))]) hc (m_at l D z e0 L K N I J R p y 3) gX3_grossOf_X3_at rfl hdS_X3_at ⟨Nat.le_of_ble_eq_true rfl, Nat.le_of_ble_eq_true rfl⟩ rfl rfl ⟨Nat.le_of_ble_eq_true rfl, Nat.le_of_ble_eq_true rfl⟩ (Nat.le_of_ble_eq_true rfl) dX3_grossOf_20 (fun v9 I9 J9 hz9 => ?_)
  obtain ⟨rfl, hI9, hJ9⟩ := hz9
  replace hI9 := hI9.symm
  subst hI9
  replace hJ9 := hJ9.symm
  subst hJ9
  refine x_iald hc ((hm.cel 0 965 80 (by decide)).2) (by decide) rfl (by omega) (by omega) dX3_grossOf_23 ?_
  refine x_i2l hc dX3_grossOf_24 ?_
  refine x_ladd hc dX3_grossOf_25 ?_
  refine x_lstore_n (lv' := [(3, .long ((((0 + (Int32.toInt64 (I (dr R m 0) (40 * p + 4 * y + 0)))) + (Int32.toInt64 (I (dr R m 0) (40 * p + 4 * y + 1)))) + (Int32.toInt64 (I (dr R m 0) (40 * p + 4 * y + 2)))) + (Int32.toInt64 (I (dr R m 0) (40 * p + 4 * y + 3))))), (5, .int 3), (0, .ref m), (1, .int (nI p)), (2, .int (nI y))]) hc dX3_grossOf_26 rfl (by decide) rfl ?_
  refine x_iinc (j := 1) (v := 4) (lv' := [(5, .int 4), (3, .long ((((0 + (Int32.toInt64 (I (dr R m 0) (40 * p + 4 * y + 0)))) + (Int32.toInt64 (I (dr R m 0) (40 * p + 4 * y + 1)))) + (Int32.toInt64 (I (dr R m 0) (40 * p + 4 * y + 2)))) + (Int32.toInt64 (I (dr R m 0) (40 * p + 4 * y + 3))))), (0, .ref m), (1, .int (nI p)), (2, .int (nI y))]) hc dX3_grossOf_27 rfl (by decide) (by decide) rfl ?_
  refine x_goto (tgt := 5) hc dX3_grossOf_30 (by decide) ?_
  refine x_iload (j := 0) hc dX3_grossOf_5 rfl ?_
  refine x_iconst (v := 4) hc dX3_grossOf_7 (by decide) ?_
  refine x_icmp_ge (tgt := 33) hc dX3_grossOf_8 (by decide) (fun _ => ?_) (fun q9 => absurd (by decide) q9)
  refine x_lload_n (j := 1) hc dX3_grossOf_33 rfl rfl ?_
  exact x_lret hc hr (by decide) (by decide) dX3_grossOf_34 (⟨rfl, rfl, rfl⟩)
abbrev rm_X3_adjustedOf : Room := { frames := 2, cells := 0, slots := 0, locals := 49 }
set_option maxHeartbeats 4000000 in
set_option maxRecDepth 100000 in
theorem m_adjustedOf (l : Launch) (D : va_G) (z e0 : Nat) (L : List Nat) (K N : Nat → Nat) (I : Nat → Nat → Int32) (J : Nat → Nat → Int64) (R : Nat → Nat → Option Nat) (m : Nat) (hm : Mdl L K N R m) (p y : Nat) (hp : p < 2) (hy : y < 10) : MG l yX3_adjustedOf wsX3_adjustedOf rm_X3_adjustedOf D z e0 L K N I J R [.ref m, .int (nI p), .int (nI y)] (fun v I' J' => v = some (.long (adY (I (dr R m 3) p) (mrc I R m p y))) ∧ I' = I ∧ J' = J) := by
  refine mg_of (own := RX3) (maxL := 5) (ret := (some .long)) (by decide +kernel) rfl rfl (Nat.le_of_ble_eq_true rfl) ?_
  intro pg ev s mi args below meth c hc hr
  refine x_aload_n (j := 0) hc dX3_adjustedOf_0 rfl rfl ?_
  refine x_iload_n (j := 1) hc dX3_adjustedOf_1 rfl rfl ?_
  refine x_iload_n (j := 2) hc dX3_adjustedOf_2 rfl rfl ?_
  refine x_callV (C := RX3) (T := TX3) (NN := 19) (ci := 4) (As := [.int (nI p), .int (nI y)]) (st := []) hc hm.1 (by omega) (by decide) rfl (m_grossOf l D z e0 L K N I J R m hm p y hp hy) gX3_adjustedOf_X3_grossOf rfl hdV_X3_grossOf ⟨Nat.le_of_ble_eq_true rfl, Nat.le_of_ble_eq_true rfl⟩ rfl rfl ⟨Nat.le_of_ble_eq_true rfl, Nat.le_of_ble_eq_true rfl⟩ (Nat.le_of_ble_eq_true rfl) dX3_adjustedOf_3 (fun v9 I9 J9 hz9 => ?_)
  obtain ⟨rfl, hI9, hJ9⟩ := hz9
  replace hI9 := hI9.symm
  subst hI9
  replace hJ9 := hJ9.symm
  subst hJ9
  refine x_lstore_n (lv' := [(3, .long (grossY (mrc I R m p y))), (0, .ref m), (1, .int (nI p)), (2, .int (nI y))]) hc dX3_adjustedOf_6 rfl (by decide) rfl ?_
  refine x_lload_n (j := 0) hc dX3_adjustedOf_7 rfl rfl ?_
  refine x_lload_n (j := 0) hc dX3_adjustedOf_8 rfl rfl ?_
  refine x_aload_n (j := 1) hc dX3_adjustedOf_9 rfl rfl ?_
  refine x_getR (C := RX3) (T := TX3) (NN := 19) (ci := 4) (ref := "NetPointsModel") hc 3 in_X3_adjustedOf_4 rfl (by decide) lf_X3_adjustedOf_19 (fun _ h9 => h9) hm.1 (by omega) (by decide) rfl ((hm.cel 3 1013 2 (by decide)).1) dX3_adjustedOf_10 ?_
  refine x_iload_n (j := 2) hc dX3_adjustedOf_13 rfl rfl ?_
  refine x_iald hc ((hm.cel 3 1013 2 (by decide)).2) (by decide) rfl (by omega) (by omega) dX3_adjustedOf_14 ?_
  refine x_i2l hc dX3_adjustedOf_15 ?_
  refine x_lmul hc dX3_adjustedOf_16 ?_
  refine x_ldc2 hc dX3_adjustedOf_17 lc_X3_adjustedOf_97 ?_
  refine x_ldiv hc dX3_adjustedOf_20 (by decide) ?_
  refine x_lsub hc dX3_adjustedOf_21 ?_
  exact x_lret hc hr (by decide) (by decide) dX3_adjustedOf_22 (⟨rfl, rfl, rfl⟩)
abbrev rm_X3_feesOf : Room := { frames := 1, cells := 0, slots := 0, locals := 24 }
set_option maxHeartbeats 4000000 in
set_option maxRecDepth 100000 in
theorem m_feesOf (l : Launch) (D : va_G) (z e0 : Nat) (L : List Nat) (K N : Nat → Nat) (I : Nat → Nat → Int32) (J : Nat → Nat → Int64) (R : Nat → Nat → Option Nat) (m : Nat) (hm : Mdl L K N R m) (p y : Nat) (hp : p < 2) (hy : y < 10) : MG l yX3_feesOf wsX3_feesOf rm_X3_feesOf D z e0 L K N I J R [.ref m, .int (nI p), .int (nI y)] (fun v I' J' => v = some (.long (feesY (mrc I R m p y) (mfe I R m p))) ∧ I' = I ∧ J' = J) := by
  refine mg_of (own := RX3) (maxL := 6) (ret := (some .long)) (by decide +kernel) rfl rfl (Nat.le_of_ble_eq_true rfl) ?_
  intro pg ev s mi args below meth c hc hr
  refine x_lconst (v := 0) hc dX3_feesOf_0 rfl ?_
  refine x_lstore_n (lv' := [(3, .long 0), (0, .ref m), (1, .int (nI p)), (2, .int (nI y))]) hc dX3_feesOf_1 rfl (by decide) rfl ?_
  refine x_iconst (v := 0) hc dX3_feesOf_2 (by decide) ?_
  refine x_istore (lv' := [(5, .int 0), (3, .long 0), (0, .ref m), (1, .int (nI p)), (2, .int (nI y))]) hc dX3_feesOf_3 (by decide) rfl ?_
  refine x_iload (j := 0) hc dX3_feesOf_5 rfl ?_
  refine x_iconst (v := 4) hc dX3_feesOf_7 (by decide) ?_
  refine x_icmp_ge (tgt := 50) hc dX3_feesOf_8 (by decide) (fun q9 => absurd q9 (by decide)) (fun _ => ?_)
  refine x_lload_n (j := 1) hc dX3_feesOf_11 rfl rfl ?_
  refine x_aload_n (j := 2) hc dX3_feesOf_12 rfl rfl ?_
  refine x_getR (C := RX3) (T := TX3) (NN := 19) (ci := 4) (ref := "NetPointsModel") hc 0 in_X3_feesOf_4 rfl (by decide) lf_X3_feesOf_7 (fun _ h9 => h9) hm.1 (by omega) (by decide) rfl ((hm.cel 0 965 80 (by decide)).1) dX3_feesOf_13 ?_
  refine x_iload_n (j := 3) hc dX3_feesOf_16 rfl rfl ?_
  refine x_iload_n (j := 4) hc dX3_feesOf_17 rfl rfl ?_
  refine x_iload (j := 0) hc dX3_feesOf_18 rfl ?_
  refine x_callS (As := [.int (nI p), .int (nI y), .int 0]) (st := [.ref (dr R m 0), .long 0]) hc (m_at l D z e0 L K N I J R p y 0) gX3_feesOf_X3_at rfl hdS_X3_at ⟨Nat.le_of_ble_eq_true rfl, Nat.le_of_ble_eq_true rfl⟩ rfl rfl ⟨Nat.le_of_ble_eq_true rfl, Nat.le_of_ble_eq_true rfl⟩ (Nat.le_of_ble_eq_true rfl) dX3_feesOf_20 (fun v9 I9 J9 hz9 => ?_)
  obtain ⟨rfl, hI9, hJ9⟩ := hz9
  replace hI9 := hI9.symm
  subst hI9
  replace hJ9 := hJ9.symm
  subst hJ9
  refine x_iald hc ((hm.cel 0 965 80 (by decide)).2) (by decide) rfl (by omega) (by omega) dX3_feesOf_23 ?_
  refine x_i2l hc dX3_feesOf_24 ?_
  refine x_aload_n (j := 2) hc dX3_feesOf_25 rfl rfl ?_
  refine x_getR (C := RX3) (T := TX3) (NN := 19) (ci := 4) (ref := "NetPointsModel") hc 2 in_X3_feesOf_4 rfl (by decide) lf_X3_feesOf_16 (fun _ h9 => h9) hm.1 (by omega) (by decide) rfl ((hm.cel 2 997 8 (by decide)).1) dX3_feesOf_26 ?_
  refine x_iconst (v := 4) hc dX3_feesOf_29 (by decide) ?_
  refine x_iload_n (j := 3) hc dX3_feesOf_30 rfl rfl ?_
  refine x_imul hc dX3_feesOf_31 ?_
  refine x_iload (j := 0) hc dX3_feesOf_32 rfl ?_
  refine x_iadd hc dX3_feesOf_34 ?_
  refine x_vali (ix4 p 0) ?_
  refine x_iald hc ((hm.cel 2 997 8 (by decide)).2) (by decide) rfl (by omega) (by omega) dX3_feesOf_35 ?_
  refine x_i2l hc dX3_feesOf_36 ?_
  refine x_lmul hc dX3_feesOf_37 ?_
  refine x_ldc2 hc dX3_feesOf_38 lc_X3_feesOf_97 ?_
  refine x_ldiv hc dX3_feesOf_41 (by decide) ?_
  refine x_ladd hc dX3_feesOf_42 ?_
  refine x_lstore_n (lv' := [(3, .long (0 + (((Int32.toInt64 (I (dr R m 0) (40 * p + 4 * y + 0))) * (Int32.toInt64 (I (dr R m 2) (4 * p + 0)))) / 10000))), (5, .int 0), (0, .ref m), (1, .int (nI p)), (2, .int (nI y))]) hc dX3_feesOf_43 rfl (by decide) rfl ?_
  refine x_iinc (j := 1) (v := 1) (lv' := [(5, .int 1), (3, .long (0 + (((Int32.toInt64 (I (dr R m 0) (40 * p + 4 * y + 0))) * (Int32.toInt64 (I (dr R m 2) (4 * p + 0)))) / 10000))), (0, .ref m), (1, .int (nI p)), (2, .int (nI y))]) hc dX3_feesOf_44 rfl (by decide) (by decide) rfl ?_
  refine x_goto (tgt := 5) hc dX3_feesOf_47 (by decide) ?_
  refine x_iload (j := 0) hc dX3_feesOf_5 rfl ?_
  refine x_iconst (v := 4) hc dX3_feesOf_7 (by decide) ?_
  refine x_icmp_ge (tgt := 50) hc dX3_feesOf_8 (by decide) (fun q9 => absurd q9 (by decide)) (fun _ => ?_)
  refine x_lload_n (j := 1) hc dX3_feesOf_11 rfl rfl ?_
  refine x_aload_n (j := 2) hc dX3_feesOf_12 rfl rfl ?_
  refine x_getR (C := RX3) (T := TX3) (NN := 19) (ci := 4) (ref := "NetPointsModel") hc 0 in_X3_feesOf_4 rfl (by decide) lf_X3_feesOf_7 (fun _ h9 => h9) hm.1 (by omega) (by decide) rfl ((hm.cel 0 965 80 (by decide)).1) dX3_feesOf_13 ?_
  refine x_iload_n (j := 3) hc dX3_feesOf_16 rfl rfl ?_
  refine x_iload_n (j := 4) hc dX3_feesOf_17 rfl rfl ?_
  refine x_iload (j := 0) hc dX3_feesOf_18 rfl ?_
  refine x_callS (As := [.int (nI p), .int (nI y), .int 1]) (st := [.ref (dr R m 0), .long (0 + (((Int32.toInt64 (I (dr R m 0) (40 * p + 4 * y + 0))) * (Int32.toInt64 (I (dr R m 2) (4 * p + 0)))) / 10000))]) hc (m_at l D z e0 L K N I J R p y 1) gX3_feesOf_X3_at rfl hdS_X3_at ⟨Nat.le_of_ble_eq_true rfl, Nat.le_of_ble_eq_true rfl⟩ rfl rfl ⟨Nat.le_of_ble_eq_true rfl, Nat.le_of_ble_eq_true rfl⟩ (Nat.le_of_ble_eq_true rfl) dX3_feesOf_20 (fun v9 I9 J9 hz9 => ?_)
  obtain ⟨rfl, hI9, hJ9⟩ := hz9
  replace hI9 := hI9.symm
  subst hI9
  replace hJ9 := hJ9.symm
  subst hJ9
  refine x_iald hc ((hm.cel 0 965 80 (by decide)).2) (by decide) rfl (by omega) (by omega) dX3_feesOf_23 ?_
  refine x_i2l hc dX3_feesOf_24 ?_
  refine x_aload_n (j := 2) hc dX3_feesOf_25 rfl rfl ?_
  refine x_getR (C := RX3) (T := TX3) (NN := 19) (ci := 4) (ref := "NetPointsModel") hc 2 in_X3_feesOf_4 rfl (by decide) lf_X3_feesOf_16 (fun _ h9 => h9) hm.1 (by omega) (by decide) rfl ((hm.cel 2 997 8 (by decide)).1) dX3_feesOf_26 ?_
  refine x_iconst (v := 4) hc dX3_feesOf_29 (by decide) ?_
  refine x_iload_n (j := 3) hc dX3_feesOf_30 rfl rfl ?_
  refine x_imul hc dX3_feesOf_31 ?_
  refine x_iload (j := 0) hc dX3_feesOf_32 rfl ?_
  refine x_iadd hc dX3_feesOf_34 ?_
  refine x_vali (ix4 p 1) ?_
  refine x_iald hc ((hm.cel 2 997 8 (by decide)).2) (by decide) rfl (by omega) (by omega) dX3_feesOf_35 ?_
  refine x_i2l hc dX3_feesOf_36 ?_
  refine x_lmul hc dX3_feesOf_37 ?_
  refine x_ldc2 hc dX3_feesOf_38 lc_X3_feesOf_97 ?_
  refine x_ldiv hc dX3_feesOf_41 (by decide) ?_
  refine x_ladd hc dX3_feesOf_42 ?_
  refine x_lstore_n (lv' := [(3, .long ((0 + (((Int32.toInt64 (I (dr R m 0) (40 * p + 4 * y + 0))) * (Int32.toInt64 (I (dr R m 2) (4 * p + 0)))) / 10000)) + (((Int32.toInt64 (I (dr R m 0) (40 * p + 4 * y + 1))) * (Int32.toInt64 (I (dr R m 2) (4 * p + 1)))) / 10000))), (5, .int 1), (0, .ref m), (1, .int (nI p)), (2, .int (nI y))]) hc dX3_feesOf_43 rfl (by decide) rfl ?_
  refine x_iinc (j := 1) (v := 2) (lv' := [(5, .int 2), (3, .long ((0 + (((Int32.toInt64 (I (dr R m 0) (40 * p + 4 * y + 0))) * (Int32.toInt64 (I (dr R m 2) (4 * p + 0)))) / 10000)) + (((Int32.toInt64 (I (dr R m 0) (40 * p + 4 * y + 1))) * (Int32.toInt64 (I (dr R m 2) (4 * p + 1)))) / 10000))), (0, .ref m), (1, .int (nI p)), (2, .int (nI y))]) hc dX3_feesOf_44 rfl (by decide) (by decide) rfl ?_
  refine x_goto (tgt := 5) hc dX3_feesOf_47 (by decide) ?_
  refine x_iload (j := 0) hc dX3_feesOf_5 rfl ?_
  refine x_iconst (v := 4) hc dX3_feesOf_7 (by decide) ?_
  refine x_icmp_ge (tgt := 50) hc dX3_feesOf_8 (by decide) (fun q9 => absurd q9 (by decide)) (fun _ => ?_)
  refine x_lload_n (j := 1) hc dX3_feesOf_11 rfl rfl ?_
  refine x_aload_n (j := 2) hc dX3_feesOf_12 rfl rfl ?_
  refine x_getR (C := RX3) (T := TX3) (NN := 19) (ci := 4) (ref := "NetPointsModel") hc 0 in_X3_feesOf_4 rfl (by decide) lf_X3_feesOf_7 (fun _ h9 => h9) hm.1 (by omega) (by decide) rfl ((hm.cel 0 965 80 (by decide)).1) dX3_feesOf_13 ?_
  refine x_iload_n (j := 3) hc dX3_feesOf_16 rfl rfl ?_
  refine x_iload_n (j := 4) hc dX3_feesOf_17 rfl rfl ?_
  refine x_iload (j := 0) hc dX3_feesOf_18 rfl ?_
  refine x_callS (As := [.int (nI p), .int (nI y), .int 2]) (st := [.ref (dr R m 0), .long ((0 + (((Int32.toInt64 (I (dr R m 0) (40 * p + 4 * y + 0))) * (Int32.toInt64 (I (dr R m 2) (4 * p + 0)))) / 10000)) + (((Int32.toInt64 (I (dr R m 0) (40 * p + 4 * y + 1))) * (Int32.toInt64 (I (dr R m 2) (4 * p + 1)))) / 10000))]) hc (m_at l D z e0 L K N I J R p y 2) gX3_feesOf_X3_at rfl hdS_X3_at ⟨Nat.le_of_ble_eq_true rfl, Nat.le_of_ble_eq_true rfl⟩ rfl rfl ⟨Nat.le_of_ble_eq_true rfl, Nat.le_of_ble_eq_true rfl⟩ (Nat.le_of_ble_eq_true rfl) dX3_feesOf_20 (fun v9 I9 J9 hz9 => ?_)
  obtain ⟨rfl, hI9, hJ9⟩ := hz9
  replace hI9 := hI9.symm
  subst hI9
  replace hJ9 := hJ9.symm
  subst hJ9
  refine x_iald hc ((hm.cel 0 965 80 (by decide)).2) (by decide) rfl (by omega) (by omega) dX3_feesOf_23 ?_
  refine x_i2l hc dX3_feesOf_24 ?_
  refine x_aload_n (j := 2) hc dX3_feesOf_25 rfl rfl ?_
  refine x_getR (C := RX3) (T := TX3) (NN := 19) (ci := 4) (ref := "NetPointsModel") hc 2 in_X3_feesOf_4 rfl (by decide) lf_X3_feesOf_16 (fun _ h9 => h9) hm.1 (by omega) (by decide) rfl ((hm.cel 2 997 8 (by decide)).1) dX3_feesOf_26 ?_
  refine x_iconst (v := 4) hc dX3_feesOf_29 (by decide) ?_
  refine x_iload_n (j := 3) hc dX3_feesOf_30 rfl rfl ?_
  refine x_imul hc dX3_feesOf_31 ?_
  refine x_iload (j := 0) hc dX3_feesOf_32 rfl ?_
  refine x_iadd hc dX3_feesOf_34 ?_
  refine x_vali (ix4 p 2) ?_
  refine x_iald hc ((hm.cel 2 997 8 (by decide)).2) (by decide) rfl (by omega) (by omega) dX3_feesOf_35 ?_
  refine x_i2l hc dX3_feesOf_36 ?_
  refine x_lmul hc dX3_feesOf_37 ?_
  refine x_ldc2 hc dX3_feesOf_38 lc_X3_feesOf_97 ?_
  refine x_ldiv hc dX3_feesOf_41 (by decide) ?_
  refine x_ladd hc dX3_feesOf_42 ?_
  refine x_lstore_n (lv' := [(3, .long (((0 + (((Int32.toInt64 (I (dr R m 0) (40 * p + 4 * y + 0))) * (Int32.toInt64 (I (dr R m 2) (4 * p + 0)))) / 10000)) + (((Int32.toInt64 (I (dr R m 0) (40 * p + 4 * y + 1))) * (Int32.toInt64 (I (dr R m 2) (4 * p + 1)))) / 10000)) + (((Int32.toInt64 (I (dr R m 0) (40 * p + 4 * y + 2))) * (Int32.toInt64 (I (dr R m 2) (4 * p + 2)))) / 10000))), (5, .int 2), (0, .ref m), (1, .int (nI p)), (2, .int (nI y))]) hc dX3_feesOf_43 rfl (by decide) rfl ?_
  refine x_iinc (j := 1) (v := 3) (lv' := [(5, .int 3), (3, .long (((0 + (((Int32.toInt64 (I (dr R m 0) (40 * p + 4 * y + 0))) * (Int32.toInt64 (I (dr R m 2) (4 * p + 0)))) / 10000)) + (((Int32.toInt64 (I (dr R m 0) (40 * p + 4 * y + 1))) * (Int32.toInt64 (I (dr R m 2) (4 * p + 1)))) / 10000)) + (((Int32.toInt64 (I (dr R m 0) (40 * p + 4 * y + 2))) * (Int32.toInt64 (I (dr R m 2) (4 * p + 2)))) / 10000))), (0, .ref m), (1, .int (nI p)), (2, .int (nI y))]) hc dX3_feesOf_44 rfl (by decide) (by decide) rfl ?_
  refine x_goto (tgt := 5) hc dX3_feesOf_47 (by decide) ?_
  refine x_iload (j := 0) hc dX3_feesOf_5 rfl ?_
  refine x_iconst (v := 4) hc dX3_feesOf_7 (by decide) ?_
  refine x_icmp_ge (tgt := 50) hc dX3_feesOf_8 (by decide) (fun q9 => absurd q9 (by decide)) (fun _ => ?_)
  refine x_lload_n (j := 1) hc dX3_feesOf_11 rfl rfl ?_
  refine x_aload_n (j := 2) hc dX3_feesOf_12 rfl rfl ?_
  refine x_getR (C := RX3) (T := TX3) (NN := 19) (ci := 4) (ref := "NetPointsModel") hc 0 in_X3_feesOf_4 rfl (by decide) lf_X3_feesOf_7 (fun _ h9 => h9) hm.1 (by omega) (by decide) rfl ((hm.cel 0 965 80 (by decide)).1) dX3_feesOf_13 ?_
  refine x_iload_n (j := 3) hc dX3_feesOf_16 rfl rfl ?_
  refine x_iload_n (j := 4) hc dX3_feesOf_17 rfl rfl ?_
  refine x_iload (j := 0) hc dX3_feesOf_18 rfl ?_
  refine x_callS (As := [.int (nI p), .int (nI y), .int 3]) (st := [.ref (dr R m 0), .long (((0 + (((Int32.toInt64 (I (dr R m 0) (40 * p + 4 * y + 0))) * (Int32.toInt64 (I (dr R m 2) (4 * p + 0)))) / 10000)) + (((Int32.toInt64 (I (dr R m 0) (40 * p + 4 * y + 1))) * (Int32.toInt64 (I (dr R m 2) (4 * p + 1)))) / 10000)) + (((Int32.toInt64 (I (dr R m 0) (40 * p + 4 * y + 2))) * (Int32.toInt64 (I (dr R m 2) (4 * p + 2)))) / 10000))]) hc (m_at l D z e0 L K N I J R p y 3) gX3_feesOf_X3_at rfl hdS_X3_at ⟨Nat.le_of_ble_eq_true rfl, Nat.le_of_ble_eq_true rfl⟩ rfl rfl ⟨Nat.le_of_ble_eq_true rfl, Nat.le_of_ble_eq_true rfl⟩ (Nat.le_of_ble_eq_true rfl) dX3_feesOf_20 (fun v9 I9 J9 hz9 => ?_)
  obtain ⟨rfl, hI9, hJ9⟩ := hz9
  replace hI9 := hI9.symm
  subst hI9
  replace hJ9 := hJ9.symm
  subst hJ9
  refine x_iald hc ((hm.cel 0 965 80 (by decide)).2) (by decide) rfl (by omega) (by omega) dX3_feesOf_23 ?_
  refine x_i2l hc dX3_feesOf_24 ?_
  refine x_aload_n (j := 2) hc dX3_feesOf_25 rfl rfl ?_
  refine x_getR (C := RX3) (T := TX3) (NN := 19) (ci := 4) (ref := "NetPointsModel") hc 2 in_X3_feesOf_4 rfl (by decide) lf_X3_feesOf_16 (fun _ h9 => h9) hm.1 (by omega) (by decide) rfl ((hm.cel 2 997 8 (by decide)).1) dX3_feesOf_26 ?_
  refine x_iconst (v := 4) hc dX3_feesOf_29 (by decide) ?_
  refine x_iload_n (j := 3) hc dX3_feesOf_30 rfl rfl ?_
  refine x_imul hc dX3_feesOf_31 ?_
  refine x_iload (j := 0) hc dX3_feesOf_32 rfl ?_
  refine x_iadd hc dX3_feesOf_34 ?_
  refine x_vali (ix4 p 3) ?_
  refine x_iald hc ((hm.cel 2 997 8 (by decide)).2) (by decide) rfl (by omega) (by omega) dX3_feesOf_35 ?_
  refine x_i2l hc dX3_feesOf_36 ?_
  refine x_lmul hc dX3_feesOf_37 ?_
  refine x_ldc2 hc dX3_feesOf_38 lc_X3_feesOf_97 ?_
  refine x_ldiv hc dX3_feesOf_41 (by decide) ?_
  refine x_ladd hc dX3_feesOf_42 ?_
  refine x_lstore_n (lv' := [(3, .long ((((0 + (((Int32.toInt64 (I (dr R m 0) (40 * p + 4 * y + 0))) * (Int32.toInt64 (I (dr R m 2) (4 * p + 0)))) / 10000)) + (((Int32.toInt64 (I (dr R m 0) (40 * p + 4 * y + 1))) * (Int32.toInt64 (I (dr R m 2) (4 * p + 1)))) / 10000)) + (((Int32.toInt64 (I (dr R m 0) (40 * p + 4 * y + 2))) * (Int32.toInt64 (I (dr R m 2) (4 * p + 2)))) / 10000)) + (((Int32.toInt64 (I (dr R m 0) (40 * p + 4 * y + 3))) * (Int32.toInt64 (I (dr R m 2) (4 * p + 3)))) / 10000))), (5, .int 3), (0, .ref m), (1, .int (nI p)), (2, .int (nI y))]) hc dX3_feesOf_43 rfl (by decide) rfl ?_
  refine x_iinc (j := 1) (v := 4) (lv' := [(5, .int 4), (3, .long ((((0 + (((Int32.toInt64 (I (dr R m 0) (40 * p + 4 * y + 0))) * (Int32.toInt64 (I (dr R m 2) (4 * p + 0)))) / 10000)) + (((Int32.toInt64 (I (dr R m 0) (40 * p + 4 * y + 1))) * (Int32.toInt64 (I (dr R m 2) (4 * p + 1)))) / 10000)) + (((Int32.toInt64 (I (dr R m 0) (40 * p + 4 * y + 2))) * (Int32.toInt64 (I (dr R m 2) (4 * p + 2)))) / 10000)) + (((Int32.toInt64 (I (dr R m 0) (40 * p + 4 * y + 3))) * (Int32.toInt64 (I (dr R m 2) (4 * p + 3)))) / 10000))), (0, .ref m), (1, .int (nI p)), (2, .int (nI y))]) hc dX3_feesOf_44 rfl (by decide) (by decide) rfl ?_
  refine x_goto (tgt := 5) hc dX3_feesOf_47 (by decide) ?_
  refine x_iload (j := 0) hc dX3_feesOf_5 rfl ?_
  refine x_iconst (v := 4) hc dX3_feesOf_7 (by decide) ?_
  refine x_icmp_ge (tgt := 50) hc dX3_feesOf_8 (by decide) (fun _ => ?_) (fun q9 => absurd (by decide) q9)
  refine x_lload_n (j := 1) hc dX3_feesOf_50 rfl rfl ?_
  exact x_lret hc hr (by decide) (by decide) dX3_feesOf_51 (⟨rfl, rfl, rfl⟩)
abbrev rm_X3_parted : Room := { frames := 1, cells := 0, slots := 0, locals := 24 }
set_option maxHeartbeats 4000000 in
set_option maxRecDepth 100000 in
theorem m_parted (l : Launch) (D : va_G) (z e0 : Nat) (L : List Nat) (K N : Nat → Nat) (I : Nat → Nat → Int32) (J : Nat → Nat → Int64) (R : Nat → Nat → Option Nat) (m : Nat) (hm : Mdl L K N R m) (x : Int64) (j : Nat) (hj : j < 8) : MG l yX3_parted wsX3_parted rm_X3_parted D z e0 L K N I J R [.ref m, .long x, .int (nI j)] (fun v I' J' => v = some (.long (shareOf x (mshr I R m j))) ∧ I' = I ∧ J' = J) := by
  refine mg_of (own := RX3) (maxL := 6) (ret := (some .long)) (by decide +kernel) rfl rfl (Nat.le_of_ble_eq_true rfl) ?_
  intro pg ev s mi args below meth c hc hr
  refine x_lload_n (j := 1) hc dX3_parted_0 rfl rfl ?_
  refine x_aload_n (j := 0) hc dX3_parted_1 rfl rfl ?_
  refine x_getR (C := RX3) (T := TX3) (NN := 19) (ci := 4) (ref := "NetPointsModel") hc 10 in_X3_parted_4 rfl (by decide) lf_X3_parted_34 (fun _ h9 => h9) hm.1 (by omega) (by decide) rfl ((hm.cel 10 1093 8 (by decide)).1) dX3_parted_2 ?_
  refine x_iload_n (j := 2) hc dX3_parted_5 rfl rfl ?_
  refine x_iald hc ((hm.cel 10 1093 8 (by decide)).2) (by decide) rfl (by omega) (by omega) dX3_parted_6 ?_
  refine x_i2l hc dX3_parted_7 ?_
  refine x_lcmp hc dX3_parted_8 ?_
  refine x_if_ge (tgt := 16) hc dX3_parted_9 (by decide) (fun q1 => ?_) (fun q1 => ?_)
  · refine x_aload_n (j := 0) hc dX3_parted_16 rfl rfl ?_
    refine x_getR (C := RX3) (T := TX3) (NN := 19) (ci := 4) (ref := "NetPointsModel") hc 10 in_X3_parted_4 rfl (by decide) lf_X3_parted_34 (fun _ h9 => h9) hm.1 (by omega) (by decide) rfl ((hm.cel 10 1093 8 (by decide)).1) dX3_parted_17 ?_
    refine x_iload_n (j := 2) hc dX3_parted_20 rfl rfl ?_
    refine x_iald hc ((hm.cel 10 1093 8 (by decide)).2) (by decide) rfl (by omega) (by omega) dX3_parted_21 ?_
    refine x_i2l hc dX3_parted_22 ?_
    refine x_lstore (lv' := [(4, .long (Int32.toInt64 (I (dr R m 10) j))), (0, .ref m), (1, .long x), (3, .int (nI j))]) hc dX3_parted_23 (by decide) rfl ?_
    refine x_lload (j := 0) hc dX3_parted_25 rfl ?_
    refine x_aload_n (j := 1) hc dX3_parted_27 rfl rfl ?_
    refine x_getR (C := RX3) (T := TX3) (NN := 19) (ci := 4) (ref := "NetPointsModel") hc 11 in_X3_parted_4 rfl (by decide) lf_X3_parted_37 (fun _ h9 => h9) hm.1 (by omega) (by decide) rfl ((hm.cel 11 1109 8 (by decide)).1) dX3_parted_28 ?_
    refine x_iload_n (j := 3) hc dX3_parted_31 rfl rfl ?_
    refine x_iald hc ((hm.cel 11 1109 8 (by decide)).2) (by decide) rfl (by omega) (by omega) dX3_parted_32 ?_
    refine x_i2l hc dX3_parted_33 ?_
    refine x_lmul hc dX3_parted_34 ?_
    refine x_lload_n (j := 2) hc dX3_parted_35 rfl rfl ?_
    refine x_lload (j := 0) hc dX3_parted_36 rfl ?_
    refine x_lsub hc dX3_parted_38 ?_
    refine x_aload_n (j := 1) hc dX3_parted_39 rfl rfl ?_
    refine x_getR (C := RX3) (T := TX3) (NN := 19) (ci := 4) (ref := "NetPointsModel") hc 12 in_X3_parted_4 rfl (by decide) lf_X3_parted_40 (fun _ h9 => h9) hm.1 (by omega) (by decide) rfl ((hm.cel 12 1125 8 (by decide)).1) dX3_parted_40 ?_
    refine x_iload_n (j := 3) hc dX3_parted_43 rfl rfl ?_
    refine x_iald hc ((hm.cel 12 1125 8 (by decide)).2) (by decide) rfl (by omega) (by omega) dX3_parted_44 ?_
    refine x_i2l hc dX3_parted_45 ?_
    refine x_lmul hc dX3_parted_46 ?_
    refine x_ladd hc dX3_parted_47 ?_
    refine x_ldc2 hc dX3_parted_48 lc_X3_parted_97 ?_
    refine x_ldiv hc dX3_parted_51 (by decide) ?_
    exact x_lret hc hr (by decide) (by decide) dX3_parted_52 (⟨congrArg (fun v => some (Value.long v)) (shareOf_ge (q := mshr I R m j) (fun h => Int32.not_le.mpr ((lg_cmp_lt _ _).mpr h) q1)).symm, rfl, rfl⟩)
  · refine x_lload_n (j := 1) hc dX3_parted_12 rfl rfl ?_
    refine x_goto (tgt := 23) hc dX3_parted_13 (by decide) ?_
    refine x_lstore (lv' := [(4, .long x), (0, .ref m), (1, .long x), (3, .int (nI j))]) hc dX3_parted_23 (by decide) rfl ?_
    refine x_lload (j := 0) hc dX3_parted_25 rfl ?_
    refine x_aload_n (j := 1) hc dX3_parted_27 rfl rfl ?_
    refine x_getR (C := RX3) (T := TX3) (NN := 19) (ci := 4) (ref := "NetPointsModel") hc 11 in_X3_parted_4 rfl (by decide) lf_X3_parted_37 (fun _ h9 => h9) hm.1 (by omega) (by decide) rfl ((hm.cel 11 1109 8 (by decide)).1) dX3_parted_28 ?_
    refine x_iload_n (j := 3) hc dX3_parted_31 rfl rfl ?_
    refine x_iald hc ((hm.cel 11 1109 8 (by decide)).2) (by decide) rfl (by omega) (by omega) dX3_parted_32 ?_
    refine x_i2l hc dX3_parted_33 ?_
    refine x_lmul hc dX3_parted_34 ?_
    refine x_lload_n (j := 2) hc dX3_parted_35 rfl rfl ?_
    refine x_lload (j := 0) hc dX3_parted_36 rfl ?_
    refine x_lsub hc dX3_parted_38 ?_
    refine x_aload_n (j := 1) hc dX3_parted_39 rfl rfl ?_
    refine x_getR (C := RX3) (T := TX3) (NN := 19) (ci := 4) (ref := "NetPointsModel") hc 12 in_X3_parted_4 rfl (by decide) lf_X3_parted_40 (fun _ h9 => h9) hm.1 (by omega) (by decide) rfl ((hm.cel 12 1125 8 (by decide)).1) dX3_parted_40 ?_
    refine x_iload_n (j := 3) hc dX3_parted_43 rfl rfl ?_
    refine x_iald hc ((hm.cel 12 1125 8 (by decide)).2) (by decide) rfl (by omega) (by omega) dX3_parted_44 ?_
    refine x_i2l hc dX3_parted_45 ?_
    refine x_lmul hc dX3_parted_46 ?_
    refine x_ladd hc dX3_parted_47 ?_
    refine x_ldc2 hc dX3_parted_48 lc_X3_parted_97 ?_
    refine x_ldiv hc dX3_parted_51 (by decide) ?_
    exact x_lret hc hr (by decide) (by decide) dX3_parted_52 (⟨congrArg (fun v => some (Value.long v)) (shareOf_lt (q := mshr I R m j) ((lg_cmp_lt _ _).mp (Int32.not_le.mp q1))).symm, rfl, rfl⟩)
