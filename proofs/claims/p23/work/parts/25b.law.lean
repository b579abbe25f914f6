theorem rg {a b : Nat} {B : Int32} (h : a ≤ b) (hb : b < 2 ^ 31) (hB : B = nI b) : 0 ≤ nI a ∧ nI a ≤ B := by
  subst hB
  exact ⟨nI_pos' (by omega), nI_le h hb⟩
theorem rg1 {a b : Nat} {B : Int32} (h : a + 1 ≤ b) (hb : b < 2 ^ 31) (hB : B = nI b) : 1 ≤ nI (1 + a) ∧ nI (1 + a) ≤ B := by
  subst hB
  exact ⟨show nI 1 ≤ nI (1 + a) from nI_le (by omega) (by omega), nI_le (by omega) hb⟩
set_option maxHeartbeats 4000000 in
set_option maxRecDepth 100000 in
theorem law_e {pg : Program} {l : Launch} {ev : Env} {s : State} {mi : MethodId} {args : Array Value} {below : List Frame} {meth : Method} {c : Code} {D : va_G} {z e0 : Nat} {L : List Nat} {K N : Nat → Nat} {I : Nat → Nat → Int32} {J : Nat → Nat → Int64} {R : Nat → Nat → Option Nat} {cells slots : Nat} {Q : State → Prop} {b x ka pa ma na ea ga st now n : Nat} {xv yv : Int32} {pic : Nat → Nat} {tm : Nat → TM} {rc : Nat → Nat → Nat → Int32} {fe co : Nat → Nat → Int32} {cr : Int32} {sv : Nat → Shr} {pd : Nat → Int32} (hc : CT pg l s mi args meth c D z e0 cL_law 14 RL wsL_law) (H : LW e0 x ka pa ma na ea ga (st + 1) (st + 1) L K N I J R now n pic tm rc fe co cr sv pd) (hst : st ≤ 17) (hcs : cells ≤ room_1.cells ∧ slots ≤ room_1.slots) (kont : ∀ (I : Nat → Nat → Int32) (J : Nat → Nat → Int64) (pd : Nat → Int32), LW e0 x ka pa ma na ea ga (st + 1) (st + 1) L K N I J R now n pic tm rc fe co cr sv pd → XW pg l ev room_1 s mi args below meth c D z 14 L K N I J R (cells) (slots) Q 464 [(11, .int yv), (10, .int xv), (9, .int (nI st)), (8, .int cr), (7, .ref ga), (6, .ref ea), (5, .ref na), (4, .ref ma), (3, .ref pa), (2, .ref ka), (1, .ref x), (0, .ref b)] []) : XW pg l ev room_1 s mi args below meth c D z 14 L K N I J R (cells) (slots) Q 429 [(11, .int yv), (10, .int xv), (9, .int (nI st)), (8, .int cr), (7, .ref ga), (6, .ref ea), (5, .ref na), (4, .ref ma), (3, .ref pa), (2, .ref ka), (1, .ref x), (0, .ref b)] [] := by
  refine x_aload_n (j := 10) hc dL_law_429 rfl rfl ?_
  refine x_aload_n (j := 9) hc dL_law_430 rfl rfl ?_
  refine x_aload_n (j := 8) hc dL_law_431 rfl rfl ?_
  refine x_aload (j := 7) hc dL_law_432 rfl ?_
  refine x_aload (j := 6) hc dL_law_434 rfl ?_
  refine x_callS (As := [.ref x, .ref ka, .ref pa, .ref ma, .ref na]) (st := []) hc (c_pools l D z e0 L K N I J R x ka pa ma na ea ga (st + 1) (st + 1) now n pic tm rc fe co cr sv pd H ⟨by omega, by omega⟩) gL_law_L_pools rfl hdS_L_pools ⟨Nat.le_of_ble_eq_true rfl, Nat.le_of_ble_eq_true rfl⟩ rfl rfl ⟨hcs.1, hcs.2⟩ (Nat.le_of_ble_eq_true rfl) dL_law_436 (fun v2 I2 J2 hz2 => ?_)
  obtain ⟨rfl, hI2, H⟩ := hz2
  replace hI2 := hI2.symm
  subst hI2
  refine x_if_eq (tgt := 462) hc dL_law_439 (by decide) (fun q9 => absurd q9 (by decide)) (fun _ => ?_)
  refine x_aload_n (j := 10) hc dL_law_442 rfl rfl ?_
  refine x_iload (j := 3) hc dL_law_443 rfl ?_
  refine x_callS (As := [.ref x, .int cr]) (st := []) hc (c_years l D z e0 L K N I J2 R x ka pa ma na ea ga (st + 1) (st + 1) now n pic tm rc fe co cr sv pd H ⟨by omega, by omega⟩) gL_law_L_years rfl hdS_L_years ⟨Nat.le_of_ble_eq_true rfl, Nat.le_of_ble_eq_true rfl⟩ rfl rfl ⟨hcs.1, hcs.2⟩ (Nat.le_of_ble_eq_true rfl) dL_law_445 (fun v3 I3 J3 hz3 => ?_)
  obtain ⟨rfl, hI3, H⟩ := hz3
  replace hI3 := hI3.symm
  subst hI3
  refine x_if_eq (tgt := 462) hc dL_law_448 (by decide) (fun q9 => absurd q9 (by decide)) (fun _ => ?_)
  refine x_aload_n (j := 10) hc dL_law_451 rfl rfl ?_
  refine x_aload (j := 6) hc dL_law_452 rfl ?_
  refine x_aload (j := 5) hc dL_law_454 rfl ?_
  refine x_callS (As := [.ref x, .ref na, .ref ea]) (st := []) hc (c_paidL l D z e0 L K N I J3 R x ka pa ma na ea ga (st + 1) (st + 1) now n pic tm rc fe co cr sv pd H ⟨by omega, by omega⟩) gL_law_L_paid rfl hdS_L_paid ⟨Nat.le_of_ble_eq_true rfl, Nat.le_of_ble_eq_true rfl⟩ rfl rfl ⟨hcs.1, hcs.2⟩ (Nat.le_of_ble_eq_true rfl) dL_law_456 (fun v4 I4 J4 hz4 => ?_)
  obtain ⟨rfl, pd4, H⟩ := hz4
  refine x_if_ne (tgt := 464) hc dL_law_459 (by decide) (fun _ => ?_) (fun q9 => absurd q9 (by decide))
  exact kont _ _ _ H
set_option maxHeartbeats 4000000 in
set_option maxRecDepth 100000 in
theorem law_d {pg : Program} {l : Launch} {ev : Env} {s : State} {mi : MethodId} {args : Array Value} {below : List Frame} {meth : Method} {c : Code} {D : va_G} {z e0 : Nat} {L : List Nat} {K N : Nat → Nat} {I : Nat → Nat → Int32} {J : Nat → Nat → Int64} {R : Nat → Nat → Option Nat} {cells slots : Nat} {Q : State → Prop} {b x ka pa ma na ea ga st now n : Nat} {xv yv : Int32} {pic : Nat → Nat} {tm : Nat → TM} {rc : Nat → Nat → Nat → Int32} {fe co : Nat → Nat → Int32} {cr : Int32} {sv : Nat → Shr} {pd : Nat → Int32} (hc : CT pg l s mi args meth c D z e0 cL_law 14 RL wsL_law) (H : LW e0 x ka pa ma na ea ga (st + 1) (st + 1) L K N I J R now n pic tm rc fe co cr sv pd) (hst : st ≤ 17) (hcs : cells ≤ room_1.cells ∧ slots ≤ room_1.slots) (kont : ∀ (I : Nat → Nat → Int32) (J : Nat → Nat → Int64) (now : Nat), LW e0 x ka pa ma na ea ga (st + 1) (st + 1) L K N I J R now n pic tm rc fe co cr sv pd → XW pg l ev room_1 s mi args below meth c D z 14 L K N I J R (cells) (slots) Q 429 [(11, .int yv), (10, .int xv), (9, .int (nI st)), (8, .int cr), (7, .ref ga), (6, .ref ea), (5, .ref na), (4, .ref ma), (3, .ref pa), (2, .ref ka), (1, .ref x), (0, .ref b)] []) : XW pg l ev room_1 s mi args below meth c D z 14 L K N I J R (cells) (slots) Q 402 [(11, .int yv), (10, .int xv), (9, .int (nI st)), (8, .int cr), (7, .ref ga), (6, .ref ea), (5, .ref na), (4, .ref ma), (3, .ref pa), (2, .ref ka), (1, .ref x), (0, .ref b)] [] := by
  have hn10 := H.2.1.1
  refine x_iload (j := 2) hc dL_law_402 rfl ?_
  refine x_iconst (v := 2) hc dL_law_404 (by decide) ?_
  refine x_irem hc (by decide) dL_law_405 ?_
  refine x_iconst (v := 1) hc dL_law_406 (by decide) ?_
  refine x_icmp_ne (tgt := 429) hc dL_law_407 (by decide) (fun q1 => ?_) (fun q1 => ?_)
  · exact kont _ _ _ H
  · refine x_aload_n (j := 10) hc dL_law_410 rfl rfl ?_
    refine x_callV (C := RX2) (T := TX2) (NN := 5) (ci := 3) (As := []) (st := []) hc H.1.1.1 (by omega) (by decide) rfl (a_year (l := l) (D := D) (z := z) H.1) gL_law_X2_year rfl hdV_X2_year ⟨Nat.le_of_ble_eq_true rfl, Nat.le_of_ble_eq_true rfl⟩ rfl rfl ⟨hcs.1, hcs.2⟩ (Nat.le_of_ble_eq_true rfl) dL_law_411 (fun v2 I2 J2 hz2 => ?_)
    obtain ⟨rfl, hI2, hj2⟩ := hz2
    replace hI2 := hI2.symm
    subst hI2
    replace H := H.j hj2
    refine x_bipush (v := 9) hc dL_law_414 (by decide) ?_
    refine x_icmp_ge (tgt := 429) hc dL_law_416 (by decide) (fun q2 => ?_) (fun q2 => ?_)
    · exact kont _ _ _ H
    · have h9 : now < 9 := ge_of (n := 9) q2 (by omega) (by decide)
      refine x_aload_n (j := 10) hc dL_law_419 rfl rfl ?_
      refine x_callV (C := RX2) (T := TX2) (NN := 5) (ci := 3) (As := []) (st := []) hc H.1.1.1 (by omega) (by decide) rfl (a_closeYear (l := l) (D := D) (z := z) H h9) gL_law_X2_closeYear rfl hdV_X2_closeYear ⟨Nat.le_of_ble_eq_true rfl, Nat.le_of_ble_eq_true rfl⟩ rfl rfl ⟨hcs.1, hcs.2⟩ (Nat.le_of_ble_eq_true rfl) dL_law_420 (fun v4 I4 J4 hz4 => ?_)
      obtain ⟨rfl, H⟩ := hz4
      refine x_iconst (v := 1) hc dL_law_423 (by decide) ?_
      refine x_icmp_ge (tgt := 429) hc dL_law_424 (by decide) (fun _ => ?_) (fun q9 => absurd (show nI 1 ≤ nI (now + 1) from nI_le (by omega) (by omega)) q9)
      exact kont _ _ _ H
set_option maxHeartbeats 4000000 in
set_option maxRecDepth 100000 in
theorem law_c2 {pg : Program} {l : Launch} {ev : Env} {s : State} {mi : MethodId} {args : Array Value} {below : List Frame} {meth : Method} {c : Code} {D : va_G} {z e0 : Nat} {L : List Nat} {K N : Nat → Nat} {I : Nat → Nat → Int32} {J : Nat → Nat → Int64} {R : Nat → Nat → Option Nat} {cells slots : Nat} {Q : State → Prop} {b x ka pa ma na ea ga st now n : Nat} {xv yv : Int32} {pic : Nat → Nat} {tm : Nat → TM} {rc : Nat → Nat → Nat → Int32} {fe co : Nat → Nat → Int32} {cr : Int32} {sv : Nat → Shr} {pd : Nat → Int32} (hc : CT pg l s mi args meth c D z e0 cL_law 14 RL wsL_law) (H : LW e0 x ka pa ma na ea ga (st + 1) (st + 1) L K N I J R now n pic tm rc fe co cr sv pd) (hst : st ≤ 17) (hcs : cells ≤ room_1.cells ∧ slots ≤ room_1.slots) (kont : ∀ (I : Nat → Nat → Int32) (J : Nat → Nat → Int64) (fe : Nat → Nat → Int32), LW e0 x ka pa ma na ea ga (st + 1) (st + 1) L K N I J R now n pic tm rc fe co cr sv pd → XW pg l ev room_1 s mi args below meth c D z 14 L K N I J R (cells) (slots) Q 402 [(11, .int yv), (10, .int xv), (9, .int (nI st)), (8, .int cr), (7, .ref ga), (6, .ref ea), (5, .ref na), (4, .ref ma), (3, .ref pa), (2, .ref ka), (1, .ref x), (0, .ref b)] []) : XW pg l ev room_1 s mi args below meth c D z 14 L K N I J R (cells) (slots) Q 367 [(11, .int yv), (10, .int xv), (9, .int (nI st)), (8, .int cr), (7, .ref ga), (6, .ref ea), (5, .ref na), (4, .ref ma), (3, .ref pa), (2, .ref ka), (1, .ref x), (0, .ref b)] [] := by
  refine x_aload_n (j := 10) hc dL_law_367 rfl rfl ?_
  refine x_iload (j := 1) hc dL_law_368 rfl ?_
  refine x_iconst (v := 2) hc dL_law_370 (by decide) ?_
  refine x_callS (As := [.int xv, .int 2]) (st := [.ref x]) hc (c_at l D z e0 L K N I J R xv 2 2 rfl (by decide) (by decide)) gL_law_L_at rfl hdS_L_at ⟨Nat.le_of_ble_eq_true rfl, Nat.le_of_ble_eq_true rfl⟩ rfl rfl ⟨hcs.1, hcs.2⟩ (Nat.le_of_ble_eq_true rfl) dL_law_371 (fun v9 I9 J9 hz9 => ?_)
  obtain ⟨⟨a1, ha1, rfl⟩, hI9, hJ9⟩ := hz9
  replace hI9 := hI9.symm
  subst hI9
  replace hJ9 := hJ9.symm
  subst hJ9
  refine x_iload (j := 1) hc dL_law_374 rfl ?_
  refine x_bipush (v := 6) hc dL_law_376 (by decide) ?_
  refine x_ishr hc dL_law_378 ?_
  refine x_iconst (v := 4) hc dL_law_379 (by decide) ?_
  refine x_callS (As := [.int (xv >>> (6 &&& 31)), .int 4]) (st := [.int (nI a1), .ref x]) hc (c_at l D z e0 L K N I J R (xv >>> (6 &&& 31)) 4 4 rfl (by decide) (by decide)) gL_law_L_at rfl hdS_L_at ⟨Nat.le_of_ble_eq_true rfl, Nat.le_of_ble_eq_true rfl⟩ rfl rfl ⟨hcs.1, hcs.2⟩ (Nat.le_of_ble_eq_true rfl) dL_law_380 (fun v9 I9 J9 hz9 => ?_)
  obtain ⟨⟨a2, ha2, rfl⟩, hI9, hJ9⟩ := hz9
  replace hI9 := hI9.symm
  subst hI9
  replace hJ9 := hJ9.symm
  subst hJ9
  refine x_iload (j := 0) hc dL_law_383 rfl ?_
  refine x_bipush (v := 10) hc dL_law_385 (by decide) ?_
  refine x_ishr hc dL_law_387 ?_
  refine x_sipush (v := 2000) hc dL_law_388 (by decide) ?_
  refine x_callS (As := [.int (yv >>> (10 &&& 31)), .int 2000]) (st := [.int (nI a2), .int (nI a1), .ref x]) hc (c_at l D z e0 L K N I J R (yv >>> (10 &&& 31)) 2000 2000 rfl (by decide) (by decide)) gL_law_L_at rfl hdS_L_at ⟨Nat.le_of_ble_eq_true rfl, Nat.le_of_ble_eq_true rfl⟩ rfl rfl ⟨hcs.1, hcs.2⟩ (Nat.le_of_ble_eq_true rfl) dL_law_391 (fun v9 I9 J9 hz9 => ?_)
  obtain ⟨⟨a3, ha3, rfl⟩, hI9, hJ9⟩ := hz9
  replace hI9 := hI9.symm
  subst hI9
  replace hJ9 := hJ9.symm
  subst hJ9
  refine x_callV (C := RX2) (T := TX2) (NN := 5) (ci := 3) (As := [.int (nI a1), .int (nI a2), .int (nI a3)]) (st := []) hc H.1.1.1 (by omega) (by decide) rfl (a_setFee (l := l) (D := D) (z := z) H ha1 ha2 (rg (show a3 ≤ 10000 by omega) (by decide) rfl)) gL_law_X2_setFee rfl hdV_X2_setFee ⟨Nat.le_of_ble_eq_true rfl, Nat.le_of_ble_eq_true rfl⟩ rfl rfl ⟨hcs.1, hcs.2⟩ (Nat.le_of_ble_eq_true rfl) dL_law_394 (fun v4 I4 J4 hz4 => ?_)
  obtain ⟨rfl, hfe, H⟩ := hz4
  refine x_if_ge (tgt := 402) hc dL_law_397 (by decide) (fun _ => ?_) (fun q9 => absurd (Int32.not_lt.mp hfe) q9)
  exact kont _ _ _ H
set_option maxHeartbeats 4000000 in
set_option maxRecDepth 100000 in
theorem law_c1 {pg : Program} {l : Launch} {ev : Env} {s : State} {mi : MethodId} {args : Array Value} {below : List Frame} {meth : Method} {c : Code} {D : va_G} {z e0 : Nat} {L : List Nat} {K N : Nat → Nat} {I : Nat → Nat → Int32} {J : Nat → Nat → Int64} {R : Nat → Nat → Option Nat} {cells slots : Nat} {Q : State → Prop} {b x ka pa ma na ea ga st now n : Nat} {xv yv : Int32} {pic : Nat → Nat} {tm : Nat → TM} {rc : Nat → Nat → Nat → Int32} {fe co : Nat → Nat → Int32} {cr : Int32} {sv : Nat → Shr} {pd : Nat → Int32} (hc : CT pg l s mi args meth c D z e0 cL_law 14 RL wsL_law) (H : LW e0 x ka pa ma na ea ga (st + 1) (st + 1) L K N I J R now n pic tm rc fe co cr sv pd) (hst : st ≤ 17) (hcs : cells ≤ room_1.cells ∧ slots ≤ room_1.slots) (kont : ∀ (I : Nat → Nat → Int32) (J : Nat → Nat → Int64) (cr : Int32), LW e0 x ka pa ma na ea ga (st + 1) (st + 1) L K N I J R now n pic tm rc fe co cr sv pd → XW pg l ev room_1 s mi args below meth c D z 14 L K N I J R (cells) (slots) Q 367 [(11, .int yv), (10, .int xv), (9, .int (nI st)), (8, .int cr), (7, .ref ga), (6, .ref ea), (5, .ref na), (4, .ref ma), (3, .ref pa), (2, .ref ka), (1, .ref x), (0, .ref b)] []) : XW pg l ev room_1 s mi args below meth c D z 14 L K N I J R (cells) (slots) Q 319 [(11, .int yv), (10, .int xv), (9, .int (nI st)), (8, .int cr), (7, .ref ga), (6, .ref ea), (5, .ref na), (4, .ref ma), (3, .ref pa), (2, .ref ka), (1, .ref x), (0, .ref b)] [] := by
  refine x_iload (j := 1) hc dL_law_319 rfl ?_
  refine x_bipush (v := 9) hc dL_law_321 (by decide) ?_
  refine x_ishr hc dL_law_323 ?_
  refine x_iconst (v := 3) hc dL_law_324 (by decide) ?_
  refine x_callS (As := [.int (xv >>> (9 &&& 31)), .int 3]) (st := []) hc (c_at l D z e0 L K N I J R (xv >>> (9 &&& 31)) 3 3 rfl (by decide) (by decide)) gL_law_L_at rfl hdS_L_at ⟨Nat.le_of_ble_eq_true rfl, Nat.le_of_ble_eq_true rfl⟩ rfl rfl ⟨hcs.1, hcs.2⟩ (Nat.le_of_ble_eq_true rfl) dL_law_325 (fun v9 I9 J9 hz9 => ?_)
  obtain ⟨⟨a1, ha1, rfl⟩, hI9, hJ9⟩ := hz9
  replace hI9 := hI9.symm
  subst hI9
  replace hJ9 := hJ9.symm
  subst hJ9
  refine x_if_ne (tgt := 367) hc dL_law_328 (by decide) (fun q1 => ?_) (fun q1 => ?_)
  · refine x_sub [0, 1, 2, 3, 4, 5, 6, 7, 8, 9, 10, 11] rfl ?_
    exact kont _ _ _ H
  · refine x_iload (j := 0) hc dL_law_331 rfl ?_
    refine x_bipush (v := 7) hc dL_law_333 (by decide) ?_
    refine x_ishr hc dL_law_335 ?_
    refine x_iconst (v := 2) hc dL_law_336 (by decide) ?_
    refine x_callS (As := [.int (yv >>> (7 &&& 31)), .int 2]) (st := []) hc (c_at l D z e0 L K N I J R (yv >>> (7 &&& 31)) 2 2 rfl (by decide) (by decide)) gL_law_L_at rfl hdS_L_at ⟨Nat.le_of_ble_eq_true rfl, Nat.le_of_ble_eq_true rfl⟩ rfl rfl ⟨hcs.1, hcs.2⟩ (Nat.le_of_ble_eq_true rfl) dL_law_337 (fun v9 I9 J9 hz9 => ?_)
    obtain ⟨⟨a2, ha2, rfl⟩, hI9, hJ9⟩ := hz9
    replace hI9 := hI9.symm
    subst hI9
    replace hJ9 := hJ9.symm
    subst hJ9
    refine x_if_ne (tgt := 347) hc dL_law_340 (by decide) (fun q2 => ?_) (fun q2 => ?_)
    · refine x_iconst (v := 0) hc dL_law_347 (by decide) ?_
      refine x_istore (lv' := [(13, .int 0), (11, .int yv), (10, .int xv), (9, .int (nI st)), (8, .int cr), (7, .ref ga), (6, .ref ea), (5, .ref na), (4, .ref ma), (3, .ref pa), (2, .ref ka), (1, .ref x), (0, .ref b)]) hc dL_law_348 (by decide) rfl ?_
      refine x_aload_n (j := 11) hc dL_law_350 rfl rfl ?_
      refine x_iload (j := 0) hc dL_law_351 rfl ?_
      refine x_callV (C := RX2) (T := TX2) (NN := 5) (ci := 3) (As := [.int 0]) (st := []) hc H.1.1.1 (by omega) (by decide) rfl (a_setCrossed (l := l) (D := D) (z := z) (t := 0) H (Or.inl rfl)) gL_law_X2_setCrossed rfl hdV_X2_setCrossed ⟨Nat.le_of_ble_eq_true rfl, Nat.le_of_ble_eq_true rfl⟩ rfl rfl ⟨hcs.1, hcs.2⟩ (Nat.le_of_ble_eq_true rfl) dL_law_353 (fun v4 I4 J4 hz4 => ?_)
      obtain ⟨rfl, H⟩ := hz4
      refine x_iload (j := 4) hc dL_law_356 rfl ?_
      refine x_icmp_eq (tgt := 363) hc dL_law_358 (by decide) (fun _ => ?_) (fun q9 => absurd (rfl) q9)
      refine x_iload (j := 0) hc dL_law_363 rfl ?_
      refine x_istore (lv' := [(8, .int 0), (13, .int 0), (11, .int yv), (10, .int xv), (9, .int (nI st)), (7, .ref ga), (6, .ref ea), (5, .ref na), (4, .ref ma), (3, .ref pa), (2, .ref ka), (1, .ref x), (0, .ref b)]) hc dL_law_365 (by decide) rfl ?_
      refine x_sub [2, 3, 4, 0, 5, 6, 7, 8, 9, 10, 11, 12] rfl ?_
      exact kont _ _ _ H
    · refine x_iconst (v := 1) hc dL_law_343 (by decide) ?_
      refine x_goto (tgt := 348) hc dL_law_344 (by decide) ?_
      refine x_istore (lv' := [(13, .int 1), (11, .int yv), (10, .int xv), (9, .int (nI st)), (8, .int cr), (7, .ref ga), (6, .ref ea), (5, .ref na), (4, .ref ma), (3, .ref pa), (2, .ref ka), (1, .ref x), (0, .ref b)]) hc dL_law_348 (by decide) rfl ?_
      refine x_aload_n (j := 11) hc dL_law_350 rfl rfl ?_
      refine x_iload (j := 0) hc dL_law_351 rfl ?_
      refine x_callV (C := RX2) (T := TX2) (NN := 5) (ci := 3) (As := [.int 1]) (st := []) hc H.1.1.1 (by omega) (by decide) rfl (a_setCrossed (l := l) (D := D) (z := z) (t := 1) H (Or.inr rfl)) gL_law_X2_setCrossed rfl hdV_X2_setCrossed ⟨Nat.le_of_ble_eq_true rfl, Nat.le_of_ble_eq_true rfl⟩ rfl rfl ⟨hcs.1, hcs.2⟩ (Nat.le_of_ble_eq_true rfl) dL_law_353 (fun v4 I4 J4 hz4 => ?_)
      obtain ⟨rfl, H⟩ := hz4
      refine x_iload (j := 4) hc dL_law_356 rfl ?_
      refine x_icmp_eq (tgt := 363) hc dL_law_358 (by decide) (fun _ => ?_) (fun q9 => absurd (rfl) q9)
      refine x_iload (j := 0) hc dL_law_363 rfl ?_
      refine x_istore (lv' := [(8, .int 1), (13, .int 1), (11, .int yv), (10, .int xv), (9, .int (nI st)), (7, .ref ga), (6, .ref ea), (5, .ref na), (4, .ref ma), (3, .ref pa), (2, .ref ka), (1, .ref x), (0, .ref b)]) hc dL_law_365 (by decide) rfl ?_
      refine x_sub [2, 3, 4, 0, 5, 6, 7, 8, 9, 10, 11, 12] rfl ?_
      exact kont _ _ _ H
set_option maxHeartbeats 4000000 in
set_option maxRecDepth 100000 in
theorem law_b {pg : Program} {l : Launch} {ev : Env} {s : State} {mi : MethodId} {args : Array Value} {below : List Frame} {meth : Method} {c : Code} {D : va_G} {z e0 : Nat} {L : List Nat} {K N : Nat → Nat} {I : Nat → Nat → Int32} {J : Nat → Nat → Int64} {R : Nat → Nat → Option Nat} {cells slots : Nat} {Q : State → Prop} {b x ka pa ma na ea ga st now n : Nat} {xv yv : Int32} {pic : Nat → Nat} {tm : Nat → TM} {rc : Nat → Nat → Nat → Int32} {fe co : Nat → Nat → Int32} {cr : Int32} {sv : Nat → Shr} {pd : Nat → Int32} (hc : CT pg l s mi args meth c D z e0 cL_law 14 RL wsL_law) (H : LW e0 x ka pa ma na ea ga st st L K N I J R now n pic tm rc fe co cr sv pd) (hst : st ≤ 17) (hcs : cells ≤ room_1.cells ∧ slots ≤ room_1.slots) (kont : ∀ (I : Nat → Nat → Int32) (J : Nat → Nat → Int64) (tm : Nat → TM) (rc : Nat → Nat → Nat → Int32) (co : Nat → Nat → Int32), LW e0 x ka pa ma na ea ga (st + 1) (st + 1) L K N I J R now n pic tm rc fe co cr sv pd → XW pg l ev room_1 s mi args below meth c D z 14 L K N I J R (cells) (slots) Q 319 [(11, .int yv), (10, .int xv), (9, .int (nI st)), (8, .int cr), (7, .ref ga), (6, .ref ea), (5, .ref na), (4, .ref ma), (3, .ref pa), (2, .ref ka), (1, .ref x), (0, .ref b)] []) : XW pg l ev room_1 s mi args below meth c D z 14 L K N I J R (cells) (slots) Q 193 [(11, .int yv), (10, .int xv), (9, .int (nI st)), (8, .int cr), (7, .ref ga), (6, .ref ea), (5, .ref na), (4, .ref ma), (3, .ref pa), (2, .ref ka), (1, .ref x), (0, .ref b)] [] := by
  refine x_aload_n (j := 10) hc dL_law_193 rfl rfl ?_
  refine x_iload (j := 0) hc dL_law_194 rfl ?_
  refine x_iconst (v := 3) hc dL_law_196 (by decide) ?_
  refine x_ishr hc dL_law_197 ?_
  refine x_iconst (v := 2) hc dL_law_198 (by decide) ?_
  refine x_callS (As := [.int (yv >>> (3 &&& 31)), .int 2]) (st := [.ref x]) hc (c_at l D z e0 L K N I J R (yv >>> (3 &&& 31)) 2 2 rfl (by decide) (by decide)) gL_law_L_at rfl hdS_L_at ⟨Nat.le_of_ble_eq_true rfl, Nat.le_of_ble_eq_true rfl⟩ rfl rfl ⟨hcs.1, hcs.2⟩ (Nat.le_of_ble_eq_true rfl) dL_law_199 (fun v9 I9 J9 hz9 => ?_)
  obtain ⟨⟨a1, ha1, rfl⟩, hI9, hJ9⟩ := hz9
  replace hI9 := hI9.symm
  subst hI9
  replace hJ9 := hJ9.symm
  subst hJ9
  refine x_iload (j := 0) hc dL_law_202 rfl ?_
  refine x_iconst (v := 5) hc dL_law_204 (by decide) ?_
  refine x_ishr hc dL_law_205 ?_
  refine x_iconst (v := 4) hc dL_law_206 (by decide) ?_
  refine x_callS (As := [.int (yv >>> (5 &&& 31)), .int 4]) (st := [.int (nI a1), .ref x]) hc (c_at l D z e0 L K N I J R (yv >>> (5 &&& 31)) 4 4 rfl (by decide) (by decide)) gL_law_L_at rfl hdS_L_at ⟨Nat.le_of_ble_eq_true rfl, Nat.le_of_ble_eq_true rfl⟩ rfl rfl ⟨hcs.1, hcs.2⟩ (Nat.le_of_ble_eq_true rfl) dL_law_207 (fun v9 I9 J9 hz9 => ?_)
  obtain ⟨⟨a2, ha2, rfl⟩, hI9, hJ9⟩ := hz9
  replace hI9 := hI9.symm
  subst hI9
  replace hJ9 := hJ9.symm
  subst hJ9
  refine x_iconst (v := 1) hc dL_law_210 (by decide) ?_
  refine x_iload (j := 1) hc dL_law_211 rfl ?_
  refine x_bipush (v := 7) hc dL_law_213 (by decide) ?_
  refine x_ishr hc dL_law_215 ?_
  refine x_ldc hc dL_law_216 lc_L_law_61 ?_
  refine x_callS (As := [.int (xv >>> (7 &&& 31)), .int 200000]) (st := [.int 1, .int (nI a2), .int (nI a1), .ref x]) hc (c_at l D z e0 L K N I J R (xv >>> (7 &&& 31)) 200000 200000 rfl (by decide) (by decide)) gL_law_L_at rfl hdS_L_at ⟨Nat.le_of_ble_eq_true rfl, Nat.le_of_ble_eq_true rfl⟩ rfl rfl ⟨hcs.1, hcs.2⟩ (Nat.le_of_ble_eq_true rfl) dL_law_218 (fun v9 I9 J9 hz9 => ?_)
  obtain ⟨⟨a3, ha3, rfl⟩, hI9, hJ9⟩ := hz9
  replace hI9 := hI9.symm
  subst hI9
  replace hJ9 := hJ9.symm
  subst hJ9
  refine x_iadd hc dL_law_221 ?_
  refine x_vali (show (1 : Int32) + nI a3 = nI (1 + a3) from nI_add 1 a3) ?_
  refine x_aload_n (j := 9) hc dL_law_222 rfl rfl ?_
  refine x_aload (j := 6) hc dL_law_223 rfl ?_
  refine x_aload (j := 4) hc dL_law_225 rfl ?_
  refine x_callS (As := [.ref x, .int (nI a1), .int (nI a2), .int (nI (1 + a3)), .ref ka, .ref na, .ref ga]) (st := []) hc (c_grows l D z e0 L K N I J R x ka pa ma na ea ga st st now n pic tm rc fe co cr sv pd a1 a2 (nI (1 + a3)) ha1 ha2 (rg1 (show a3 + 1 ≤ 200000 by omega) (by decide) rfl) H ⟨by omega, by omega⟩) gL_law_L_grows rfl hdS_L_grows ⟨Nat.le_of_ble_eq_true rfl, Nat.le_of_ble_eq_true rfl⟩ rfl rfl ⟨hcs.1, hcs.2⟩ (Nat.le_of_ble_eq_true rfl) dL_law_227 (fun v4 I4 J4 hz4 => ?_)
  obtain ⟨rfl, H⟩ := hz4
  refine x_if_eq (tgt := 261) hc dL_law_230 (by decide) (fun q9 => absurd q9 (by decide)) (fun _ => ?_)
  refine x_aload_n (j := 10) hc dL_law_233 rfl rfl ?_
  refine x_iload (j := 1) hc dL_law_234 rfl ?_
  refine x_iconst (v := 5) hc dL_law_236 (by decide) ?_
  refine x_ishr hc dL_law_237 ?_
  refine x_iconst (v := 2) hc dL_law_238 (by decide) ?_
  refine x_callS (As := [.int (xv >>> (5 &&& 31)), .int 2]) (st := [.ref x]) hc (c_at l D z e0 L K N I4 J4 R (xv >>> (5 &&& 31)) 2 2 rfl (by decide) (by decide)) gL_law_L_at rfl hdS_L_at ⟨Nat.le_of_ble_eq_true rfl, Nat.le_of_ble_eq_true rfl⟩ rfl rfl ⟨hcs.1, hcs.2⟩ (Nat.le_of_ble_eq_true rfl) dL_law_239 (fun v9 I9 J9 hz9 => ?_)
  obtain ⟨⟨a4, ha4, rfl⟩, hI9, hJ9⟩ := hz9
  replace hI9 := hI9.symm
  subst hI9
  replace hJ9 := hJ9.symm
  subst hJ9
  refine x_iconst (v := 1) hc dL_law_242 (by decide) ?_
  refine x_iload (j := 0) hc dL_law_243 rfl ?_
  refine x_bipush (v := 8) hc dL_law_245 (by decide) ?_
  refine x_ishr hc dL_law_247 ?_
  refine x_ldc hc dL_law_248 lc_L_law_70 ?_
  refine x_callS (As := [.int (yv >>> (8 &&& 31)), .int 150000]) (st := [.int 1, .int (nI a4), .ref x]) hc (c_at l D z e0 L K N I4 J4 R (yv >>> (8 &&& 31)) 150000 150000 rfl (by decide) (by decide)) gL_law_L_at rfl hdS_L_at ⟨Nat.le_of_ble_eq_true rfl, Nat.le_of_ble_eq_true rfl⟩ rfl rfl ⟨hcs.1, hcs.2⟩ (Nat.le_of_ble_eq_true rfl) dL_law_250 (fun v9 I9 J9 hz9 => ?_)
  obtain ⟨⟨a5, ha5, rfl⟩, hI9, hJ9⟩ := hz9
  replace hI9 := hI9.symm
  subst hI9
  replace hJ9 := hJ9.symm
  subst hJ9
  refine x_iadd hc dL_law_253 ?_
  refine x_vali (show (1 : Int32) + nI a5 = nI (1 + a5) from nI_add 1 a5) ?_
  refine x_callV (C := RX2) (T := TX2) (NN := 5) (ci := 3) (As := [.int (nI a4), .int (nI (1 + a5))]) (st := []) hc H.1.1.1 (by omega) (by decide) rfl (a_spend (l := l) (D := D) (z := z) H ha4 (rg1 (show a5 + 1 ≤ 150000 by omega) (by decide) rfl) (by omega)) gL_law_X2_spend rfl hdV_X2_spend ⟨Nat.le_of_ble_eq_true rfl, Nat.le_of_ble_eq_true rfl⟩ rfl rfl ⟨hcs.1, hcs.2⟩ (Nat.le_of_ble_eq_true rfl) dL_law_254 (fun v5 I5 J5 hz5 => ?_)
  obtain ⟨rfl, hsp, H⟩ := hz5
  refine x_iconst (v := 1) hc dL_law_257 (by decide) ?_
  refine x_icmp_ge (tgt := 263) hc dL_law_258 (by decide) (fun _ => ?_) (fun q9 => absurd (Int32.not_lt.mp hsp) q9)
  refine x_iload (j := 0) hc dL_law_263 rfl ?_
  refine x_bipush (v := 9) hc dL_law_265 (by decide) ?_
  refine x_ishr hc dL_law_267 ?_
  refine x_iconst (v := 4) hc dL_law_268 (by decide) ?_
  refine x_callS (As := [.int (yv >>> (9 &&& 31)), .int 4]) (st := []) hc (c_at l D z e0 L K N I5 J5 R (yv >>> (9 &&& 31)) 4 4 rfl (by decide) (by decide)) gL_law_L_at rfl hdS_L_at ⟨Nat.le_of_ble_eq_true rfl, Nat.le_of_ble_eq_true rfl⟩ rfl rfl ⟨hcs.1, hcs.2⟩ (Nat.le_of_ble_eq_true rfl) dL_law_269 (fun v9 I9 J9 hz9 => ?_)
  obtain ⟨⟨a6, ha6, rfl⟩, hI9, hJ9⟩ := hz9
  replace hI9 := hI9.symm
  subst hI9
  replace hJ9 := hJ9.symm
  subst hJ9
  refine x_if_ne (tgt := 319) hc dL_law_272 (by decide) (fun q1 => ?_) (fun q1 => ?_)
  · exact kont _ _ _ _ _ H
  · refine x_aload_n (j := 10) hc dL_law_275 rfl rfl ?_
    refine x_iload (j := 1) hc dL_law_276 rfl ?_
    refine x_iconst (v := 3) hc dL_law_278 (by decide) ?_
    refine x_ishr hc dL_law_279 ?_
    refine x_iconst (v := 2) hc dL_law_280 (by decide) ?_
    refine x_callS (As := [.int (xv >>> (3 &&& 31)), .int 2]) (st := [.ref x]) hc (c_at l D z e0 L K N I5 J5 R (xv >>> (3 &&& 31)) 2 2 rfl (by decide) (by decide)) gL_law_L_at rfl hdS_L_at ⟨Nat.le_of_ble_eq_true rfl, Nat.le_of_ble_eq_true rfl⟩ rfl rfl ⟨hcs.1, hcs.2⟩ (Nat.le_of_ble_eq_true rfl) dL_law_281 (fun v9 I9 J9 hz9 => ?_)
    obtain ⟨⟨a7, ha7, rfl⟩, hI9, hJ9⟩ := hz9
    replace hI9 := hI9.symm
    subst hI9
    replace hJ9 := hJ9.symm
    subst hJ9
    refine x_iload (j := 0) hc dL_law_284 rfl ?_
    refine x_iconst (v := 2) hc dL_law_286 (by decide) ?_
    refine x_ishr hc dL_law_287 ?_
    refine x_sipush (v := 3000) hc dL_law_288 (by decide) ?_
    refine x_callS (As := [.int (yv >>> (2 &&& 31)), .int 3000]) (st := [.int (nI a7), .ref x]) hc (c_at l D z e0 L K N I5 J5 R (yv >>> (2 &&& 31)) 3000 3000 rfl (by decide) (by decide)) gL_law_L_at rfl hdS_L_at ⟨Nat.le_of_ble_eq_true rfl, Nat.le_of_ble_eq_true rfl⟩ rfl rfl ⟨hcs.1, hcs.2⟩ (Nat.le_of_ble_eq_true rfl) dL_law_291 (fun v9 I9 J9 hz9 => ?_)
    obtain ⟨⟨a8, ha8, rfl⟩, hI9, hJ9⟩ := hz9
    replace hI9 := hI9.symm
    subst hI9
    replace hJ9 := hJ9.symm
    subst hJ9
    refine x_iload (j := 1) hc dL_law_294 rfl ?_
    refine x_bipush (v := 8) hc dL_law_296 (by decide) ?_
    refine x_ishr hc dL_law_298 ?_
    refine x_sipush (v := 3000) hc dL_law_299 (by decide) ?_
    refine x_callS (As := [.int (xv >>> (8 &&& 31)), .int 3000]) (st := [.int (nI a8), .int (nI a7), .ref x]) hc (c_at l D z e0 L K N I5 J5 R (xv >>> (8 &&& 31)) 3000 3000 rfl (by decide) (by decide)) gL_law_L_at rfl hdS_L_at ⟨Nat.le_of_ble_eq_true rfl, Nat.le_of_ble_eq_true rfl⟩ rfl rfl ⟨hcs.1, hcs.2⟩ (Nat.le_of_ble_eq_true rfl) dL_law_302 (fun v9 I9 J9 hz9 => ?_)
    obtain ⟨⟨a9, ha9, rfl⟩, hI9, hJ9⟩ := hz9
    replace hI9 := hI9.symm
    subst hI9
    replace hJ9 := hJ9.symm
    subst hJ9
    refine x_iload (j := 0) hc dL_law_305 rfl ?_
    refine x_bipush (v := 6) hc dL_law_307 (by decide) ?_
    refine x_ishr hc dL_law_309 ?_
    refine x_sipush (v := 1200) hc dL_law_310 (by decide) ?_
    refine x_callS (As := [.int (yv >>> (6 &&& 31)), .int 1200]) (st := [.int (nI a9), .int (nI a8), .int (nI a7), .ref x]) hc (c_at l D z e0 L K N I5 J5 R (yv >>> (6 &&& 31)) 1200 1200 rfl (by decide) (by decide)) gL_law_L_at rfl hdS_L_at ⟨Nat.le_of_ble_eq_true rfl, Nat.le_of_ble_eq_true rfl⟩ rfl rfl ⟨hcs.1, hcs.2⟩ (Nat.le_of_ble_eq_true rfl) dL_law_313 (fun v9 I9 J9 hz9 => ?_)
    obtain ⟨⟨a10, ha10, rfl⟩, hI9, hJ9⟩ := hz9
    replace hI9 := hI9.symm
    subst hI9
    replace hJ9 := hJ9.symm
    subst hJ9
    refine x_callV (C := RX2) (T := TX2) (NN := 5) (ci := 3) (As := [.int (nI a7), .int (nI a8), .int (nI a9), .int (nI a10)]) (st := []) hc H.1.1.1 (by omega) (by decide) rfl (a_setRates (l := l) (D := D) (z := z) H ha7 (rg (show a8 ≤ 10000 by omega) (by decide) rfl) (rg (show a9 ≤ 10000 by omega) (by decide) rfl) (rg (show a10 ≤ 2000 by omega) (by decide) rfl)) gL_law_X2_setRates rfl hdV_X2_setRates ⟨Nat.le_of_ble_eq_true rfl, Nat.le_of_ble_eq_true rfl⟩ rfl rfl ⟨hcs.1, hcs.2⟩ (Nat.le_of_ble_eq_true rfl) dL_law_316 (fun v6 I6 J6 hz6 => ?_)
    obtain ⟨rfl, H⟩ := hz6
    exact kont _ _ _ _ _ H
set_option maxHeartbeats 4000000 in
set_option maxRecDepth 100000 in
theorem law_a {pg : Program} {l : Launch} {ev : Env} {s : State} {mi : MethodId} {args : Array Value} {below : List Frame} {meth : Method} {c : Code} {D : va_G} {z e0 : Nat} {L : List Nat} {K N : Nat → Nat} {I : Nat → Nat → Int32} {J : Nat → Nat → Int64} {R : Nat → Nat → Option Nat} {cells slots : Nat} {Q : State → Prop} {b x ka pa ma na ea ga st now n : Nat} {xv yv : Int32} {pic : Nat → Nat} {tm : Nat → TM} {rc : Nat → Nat → Nat → Int32} {fe co : Nat → Nat → Int32} {cr : Int32} {sv : Nat → Shr} {pd : Nat → Int32} (hc : CT pg l s mi args meth c D z e0 cL_law 14 RL wsL_law) {Ln : Nat} {xs : Nat → Int32} (hXs : va_X b Ln xs s s.heap) (hbl : b < s.heap.size) (hbz : b < z) (hLn : Ln ≤ 260) (H : LW e0 x ka pa ma na ea ga st st L K N I J R now n pic tm rc fe co cr sv pd) (hst : st ≤ 17) (hcs : cells + 9 ≤ room_1.cells ∧ slots + 63 ≤ room_1.slots) (kont : ∀ (L : List Nat) (K N : Nat → Nat) (I : Nat → Nat → Int32) (J : Nat → Nat → Int64) (R : Nat → Nat → Option Nat) (n : Nat) (pic : Nat → Nat) (sv : Nat → Shr) (pd : Nat → Int32) (xv yv : Int32), LW e0 x ka pa ma na ea ga st st L K N I J R now n pic tm rc fe co cr sv pd → XW pg l ev room_1 s mi args below meth c D z 14 L K N I J R (cells + 9) (slots + 63) Q 193 [(11, .int yv), (10, .int xv), (9, .int (nI st)), (8, .int cr), (7, .ref ga), (6, .ref ea), (5, .ref na), (4, .ref ma), (3, .ref pa), (2, .ref ka), (1, .ref x), (0, .ref b)] []) : XW pg l ev room_1 s mi args below meth c D z 14 L K N I J R (cells) (slots) Q 54 [(9, .int (nI st)), (8, .int cr), (7, .ref ga), (6, .ref ea), (5, .ref na), (4, .ref ma), (3, .ref pa), (2, .ref ka), (1, .ref x), (0, .ref b)] [] := by
  have hn8 := H.2.1.2.1
  have hcs0 : cells ≤ room_1.cells ∧ slots ≤ room_1.slots := ⟨Nat.le_trans (Nat.le_add_right _ _) hcs.1, Nat.le_trans (Nat.le_add_right _ _) hcs.2⟩
  refine x_aload_n (j := 9) hc dL_law_54 rfl rfl ?_
  refine x_iconst (v := 2) hc dL_law_55 (by decide) ?_
  refine x_iload (j := 0) hc dL_law_56 rfl ?_
  refine x_imul hc dL_law_58 ?_
  refine x_vali (show (2 : Int32) * nI st = nI (2 * st) from nI_mul 2 st) ?_
  refine x_callSZ (As := [.ref b, .int (nI (2 * st))]) (st := []) hc hXs hbl hbz (c_cell l D z e0 L K N I J R b Ln xs hLn (2 * st) (by omega)) gL_law_L_cell rfl hdS_L_cell ⟨Nat.le_of_ble_eq_true rfl, Nat.le_of_ble_eq_true rfl⟩ rfl rfl ⟨hcs0.1, hcs0.2⟩ (Nat.le_of_ble_eq_true rfl) dL_law_59 (fun v9 I9 J9 hz9 => ?_)
  obtain ⟨⟨cv1, rfl⟩, hI9, hJ9⟩ := hz9
  replace hI9 := hI9.symm
  subst hI9
  replace hJ9 := hJ9.symm
  subst hJ9
  refine x_ldc hc dL_law_62 lc_L_law_57 ?_
  refine x_iand hc dL_law_64 ?_
  refine x_topi (fun xv exv => ?_)
  refine x_istore (lv' := [(10, .int xv), (9, .int (nI st)), (8, .int cr), (7, .ref ga), (6, .ref ea), (5, .ref na), (4, .ref ma), (3, .ref pa), (2, .ref ka), (1, .ref x), (0, .ref b)]) hc dL_law_65 (by decide) rfl ?_
  refine x_aload_n (j := 10) hc dL_law_67 rfl rfl ?_
  refine x_iconst (v := 2) hc dL_law_68 (by decide) ?_
  refine x_iload (j := 1) hc dL_law_69 rfl ?_
  refine x_imul hc dL_law_71 ?_
  refine x_iconst (v := 1) hc dL_law_72 (by decide) ?_
  refine x_iadd hc dL_law_73 ?_
  refine x_vali (show (2 : Int32) * nI st + 1 = nI (2 * st + 1) from (congrArg (fun q => q + 1) (nI_mul 2 st)).trans (nI_1 (2 * st))) ?_
  refine x_callSZ (As := [.ref b, .int (nI (2 * st + 1))]) (st := []) hc hXs hbl hbz (c_cell l D z e0 L K N I J R b Ln xs hLn (2 * st + 1) (by omega)) gL_law_L_cell rfl hdS_L_cell ⟨Nat.le_of_ble_eq_true rfl, Nat.le_of_ble_eq_true rfl⟩ rfl rfl ⟨hcs0.1, hcs0.2⟩ (Nat.le_of_ble_eq_true rfl) dL_law_74 (fun v9 I9 J9 hz9 => ?_)
  obtain ⟨⟨cv2, rfl⟩, hI9, hJ9⟩ := hz9
  replace hI9 := hI9.symm
  subst hI9
  replace hJ9 := hJ9.symm
  subst hJ9
  refine x_ldc hc dL_law_77 lc_L_law_57 ?_
  refine x_iand hc dL_law_79 ?_
  refine x_topi (fun yv eyv => ?_)
  refine x_istore (lv' := [(11, .int yv), (10, .int xv), (9, .int (nI st)), (8, .int cr), (7, .ref ga), (6, .ref ea), (5, .ref na), (4, .ref ma), (3, .ref pa), (2, .ref ka), (1, .ref x), (0, .ref b)]) hc dL_law_80 (by decide) rfl ?_
  refine x_aload (j := 6) hc dL_law_82 rfl ?_
  refine x_iconst (v := 0) hc dL_law_84 (by decide) ?_
  refine x_iald hc H.2.2.1.2.2.2.1 (by decide) rfl (by decide) (by omega) dL_law_85 ?_
  refine x_vali (H.2.2.2.1) ?_
  refine x_istore (lv' := [(12, .int (nI n)), (11, .int yv), (10, .int xv), (9, .int (nI st)), (8, .int cr), (7, .ref ga), (6, .ref ea), (5, .ref na), (4, .ref ma), (3, .ref pa), (2, .ref ka), (1, .ref x), (0, .ref b)]) hc dL_law_86 (by decide) rfl ?_
  refine x_iload (j := 0) hc dL_law_88 rfl ?_
  refine x_bipush (v := 8) hc dL_law_90 (by decide) ?_
  refine x_icmp_ge (tgt := 193) hc dL_law_92 (by decide) (fun q1 => ?_) (fun q1 => ?_)
  · refine x_sub [1, 2, 3, 4, 5, 6, 7, 8, 9, 10, 11, 12] rfl ?_
    refine x_widen (show cells ≤ cells + 9 by omega) (show slots ≤ slots + 63 by omega) ?_
    exact kont _ _ _ _ _ _ _ _ _ _ _ _ H
  · refine x_iload (j := 2) hc dL_law_95 rfl ?_
    refine x_iconst (v := 2) hc dL_law_97 (by decide) ?_
    refine x_callS (As := [.int xv, .int 2]) (st := []) hc (c_at l D z e0 L K N I J R xv 2 2 rfl (by decide) (by decide)) gL_law_L_at rfl hdS_L_at ⟨Nat.le_of_ble_eq_true rfl, Nat.le_of_ble_eq_true rfl⟩ rfl rfl ⟨hcs0.1, hcs0.2⟩ (Nat.le_of_ble_eq_true rfl) dL_law_98 (fun v9 I9 J9 hz9 => ?_)
    obtain ⟨⟨a1, ha1, rfl⟩, hI9, hJ9⟩ := hz9
    replace hI9 := hI9.symm
    subst hI9
    replace hJ9 := hJ9.symm
    subst hJ9
    refine x_if_ne (tgt := 193) hc dL_law_101 (by decide) (fun q2 => ?_) (fun q2 => ?_)
    · refine x_sub [1, 2, 3, 4, 5, 6, 7, 8, 9, 10, 11, 12] rfl ?_
      refine x_widen (show cells ≤ cells + 9 by omega) (show slots ≤ slots + 63 by omega) ?_
      exact kont _ _ _ _ _ _ _ _ _ _ _ _ H
    · have hn8x : n < 8 := ge_of (n := 8) q1 (by omega) (by decide)
      refine x_aload_n (j := 10) hc dL_law_104 rfl rfl ?_
      refine x_iload (j := 0) hc dL_law_105 rfl ?_
      refine x_iload (j := 2) hc dL_law_107 rfl ?_
      refine x_iconst (v := 2) hc dL_law_109 (by decide) ?_
      refine x_ishr hc dL_law_110 ?_
      refine x_iconst (v := 4) hc dL_law_111 (by decide) ?_
      refine x_callS (As := [.int (xv >>> (2 &&& 31)), .int 4]) (st := [.int (nI n), .ref ka]) hc (c_at l D z e0 L K N I J R (xv >>> (2 &&& 31)) 4 4 rfl (by decide) (by decide)) gL_law_L_at rfl hdS_L_at ⟨Nat.le_of_ble_eq_true rfl, Nat.le_of_ble_eq_true rfl⟩ rfl rfl ⟨hcs0.1, hcs0.2⟩ (Nat.le_of_ble_eq_true rfl) dL_law_112 (fun v9 I9 J9 hz9 => ?_)
      obtain ⟨⟨a2, ha2, rfl⟩, hI9, hJ9⟩ := hz9
      replace hI9 := hI9.symm
      subst hI9
      replace hJ9 := hJ9.symm
      subst hJ9
      refine x_iast hc H.2.2.1.1 (by decide) rfl hn8x (by omega) dL_law_115 ?_
      replace H := H.wr (i := n) (v := nI a2) H.2.2.1.1 (Or.inl rfl) (Nat.le_refl n)
      refine x_aload_n (j := 9) hc dL_law_116 rfl rfl ?_
      refine x_iload (j := 0) hc dL_law_117 rfl ?_
      refine x_iload (j := 2) hc dL_law_119 rfl ?_
      refine x_iconst (v := 4) hc dL_law_121 (by decide) ?_
      refine x_ishr hc dL_law_122 ?_
      refine x_iconst (v := 2) hc dL_law_123 (by decide) ?_
      refine x_callS (As := [.int (xv >>> (4 &&& 31)), .int 2]) (st := [.int (nI n), .ref pa]) hc (c_at l D z e0 L K N (u2 I ka n (nI a2)) J R (xv >>> (4 &&& 31)) 2 2 rfl (by decide) (by decide)) gL_law_L_at rfl hdS_L_at ⟨Nat.le_of_ble_eq_true rfl, Nat.le_of_ble_eq_true rfl⟩ rfl rfl ⟨hcs0.1, hcs0.2⟩ (Nat.le_of_ble_eq_true rfl) dL_law_124 (fun v9 I9 J9 hz9 => ?_)
      obtain ⟨⟨a3, ha3, rfl⟩, hI9, hJ9⟩ := hz9
      replace hI9 := hI9.symm
      subst hI9
      replace hJ9 := hJ9.symm
      subst hJ9
      refine x_iast hc H.2.2.1.2.1 (by decide) rfl hn8x (by omega) dL_law_127 ?_
      replace H := H.wr (i := n) (v := nI a3) H.2.2.1.2.1 (Or.inr (Or.inl rfl)) (Nat.le_refl n)
      refine x_aload (j := 8) hc dL_law_128 rfl ?_
      refine x_iload (j := 0) hc dL_law_130 rfl ?_
      refine x_iload (j := 1) hc dL_law_132 rfl ?_
      refine x_ldc hc dL_law_134 lc_L_law_61 ?_
      refine x_callS (As := [.int yv, .int 200000]) (st := [.int (nI n), .ref ma]) hc (c_at l D z e0 L K N (u2 (u2 I ka n (nI a2)) pa n (nI a3)) J R yv 200000 200000 rfl (by decide) (by decide)) gL_law_L_at rfl hdS_L_at ⟨Nat.le_of_ble_eq_true rfl, Nat.le_of_ble_eq_true rfl⟩ rfl rfl ⟨hcs0.1, hcs0.2⟩ (Nat.le_of_ble_eq_true rfl) dL_law_136 (fun v9 I9 J9 hz9 => ?_)
      obtain ⟨⟨a4, ha4, rfl⟩, hI9, hJ9⟩ := hz9
      replace hI9 := hI9.symm
      subst hI9
      replace hJ9 := hJ9.symm
      subst hJ9
      refine x_iast hc H.2.2.1.2.2.1 (by decide) rfl hn8x (by omega) dL_law_139 ?_
      replace H := H.wr (i := n) (v := nI a4) H.2.2.1.2.2.1 (Or.inr (Or.inr rfl)) (Nat.le_refl n)
      have ek : (u2 (u2 (u2 I ka n (nI a2)) pa n (nI a3)) ma n (nI a4)) ka n = nI a2 := (u2_a (H.2.2.1.1.ne H.2.2.1.2.2.1 (by omega))).trans ((u2_a (H.2.2.1.1.ne H.2.2.1.2.1 (by omega))).trans u2_s)
      have ep : (u2 (u2 (u2 I ka n (nI a2)) pa n (nI a3)) ma n (nI a4)) pa n = nI a3 := (u2_a (H.2.2.1.2.1.ne H.2.2.1.2.2.1 (by omega))).trans u2_s
      have em : (u2 (u2 (u2 I ka n (nI a2)) pa n (nI a3)) ma n (nI a4)) ma n = nI a4 := u2_s
      refine x_aload_n (j := 11) hc dL_law_140 rfl rfl ?_
      refine x_aload_n (j := 9) hc dL_law_141 rfl rfl ?_
      refine x_iload (j := 0) hc dL_law_142 rfl ?_
      refine x_iald hc H.2.2.1.2.1 (by decide) rfl hn8x (by omega) dL_law_144 ?_
      refine x_vali (ep) ?_
      refine x_aload_n (j := 10) hc dL_law_145 rfl rfl ?_
      refine x_iload (j := 0) hc dL_law_146 rfl ?_
      refine x_iald hc H.2.2.1.1 (by decide) rfl hn8x (by omega) dL_law_148 ?_
      refine x_vali (ek) ?_
      refine x_aload (j := 8) hc dL_law_149 rfl ?_
      refine x_iload (j := 0) hc dL_law_151 rfl ?_
      refine x_iald hc H.2.2.1.2.2.1 (by decide) rfl hn8x (by omega) dL_law_153 ?_
      refine x_vali (em) ?_
      refine x_iload (j := 2) hc dL_law_154 rfl ?_
      refine x_bipush (v := 6) hc dL_law_156 (by decide) ?_
      refine x_ishr hc dL_law_158 ?_
      refine x_sipush (v := 1001) hc dL_law_159 (by decide) ?_
      refine x_callS (As := [.int (xv >>> (6 &&& 31)), .int 1001]) (st := [.int (nI a4), .int (nI a2), .int (nI a3), .ref x]) hc (c_at l D z e0 L K N (u2 (u2 (u2 I ka n (nI a2)) pa n (nI a3)) ma n (nI a4)) J R (xv >>> (6 &&& 31)) 1001 1001 rfl (by decide) (by decide)) gL_law_L_at rfl hdS_L_at ⟨Nat.le_of_ble_eq_true rfl, Nat.le_of_ble_eq_true rfl⟩ rfl rfl ⟨hcs0.1, hcs0.2⟩ (Nat.le_of_ble_eq_true rfl) dL_law_162 (fun v9 I9 J9 hz9 => ?_)
      obtain ⟨⟨a5, ha5, rfl⟩, hI9, hJ9⟩ := hz9
      replace hI9 := hI9.symm
      subst hI9
      replace hJ9 := hJ9.symm
      subst hJ9
      refine x_iload (j := 1) hc dL_law_165 rfl ?_
      refine x_iconst (v := 4) hc dL_law_167 (by decide) ?_
      refine x_ishr hc dL_law_168 ?_
      refine x_sipush (v := 1001) hc dL_law_169 (by decide) ?_
      refine x_callS (As := [.int (yv >>> (4 &&& 31)), .int 1001]) (st := [.int (nI a5), .int (nI a4), .int (nI a2), .int (nI a3), .ref x]) hc (c_at l D z e0 L K N (u2 (u2 (u2 I ka n (nI a2)) pa n (nI a3)) ma n (nI a4)) J R (yv >>> (4 &&& 31)) 1001 1001 rfl (by decide) (by decide)) gL_law_L_at rfl hdS_L_at ⟨Nat.le_of_ble_eq_true rfl, Nat.le_of_ble_eq_true rfl⟩ rfl rfl ⟨hcs0.1, hcs0.2⟩ (Nat.le_of_ble_eq_true rfl) dL_law_172 (fun v9 I9 J9 hz9 => ?_)
      obtain ⟨⟨a6, ha6, rfl⟩, hI9, hJ9⟩ := hz9
      replace hI9 := hI9.symm
      subst hI9
      replace hJ9 := hJ9.symm
      subst hJ9
      refine x_callVF (C := RX2) (T := TX2) (NN := 5) (ci := 3) (As := [.int (nI a3), .int (nI a2), .int (nI a4), .int (nI a5), .int (nI a6)]) (st := []) hc H.1.1.1 (by omega) (by decide) rfl (a_add (l := l) (D := D) (z := z) H ha3 hn8x (rg (show a2 ≤ 3 by omega) (by decide) rfl) (rg (show a4 ≤ 199999 by omega) (by decide) rfl) (rg (show a5 ≤ 1000 by omega) (by decide) rfl) (rg (show a6 ≤ 1000 by omega) (by decide) rfl) ek ep em) gL_law_X2_add rfl hdV_X2_add ⟨Nat.le_of_ble_eq_true rfl, Nat.le_of_ble_eq_true rfl⟩ rfl rfl ⟨hcs.1, hcs.2⟩ (Nat.le_of_ble_eq_true rfl) dL_law_175 (fun v9 L9 K9 N9 I9 J9 R9 hz9 => ?_)
      obtain ⟨rfl, hna9, hn09, H9⟩ := hz9
      refine x_iload (j := 0) hc dL_law_178 rfl ?_
      refine x_icmp_eq (tgt := 185) hc dL_law_180 (by decide) (fun _ => ?_) (fun q9 => absurd (rfl) q9)
      refine x_aload (j := 7) hc dL_law_185 rfl ?_
      refine x_iconst (v := 0) hc dL_law_187 (by decide) ?_
      refine x_dup2 hc dL_law_188 rfl rfl ?_
      refine x_iald hc hna9 (by decide) rfl (by decide) (by omega) dL_law_189 ?_
      refine x_vali (hn09) ?_
      refine x_iconst (v := 1) hc dL_law_190 (by decide) ?_
      refine x_iadd hc dL_law_191 ?_
      refine x_vali (nI_1 n) ?_
      refine x_iast hc hna9 (by decide) rfl (by decide) (by omega) dL_law_192 ?_
      refine x_sub [1, 2, 3, 4, 5, 6, 7, 8, 9, 10, 11, 12] rfl ?_
      exact kont _ _ _ _ _ _ _ _ _ _ _ _ H9
