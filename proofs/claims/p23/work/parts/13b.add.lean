abbrev rm_Jx4a65c_grow_92f84 : Room := { frames := 1, cells := 1, slots := 10, locals := 16 }
set_option maxHeartbeats 4000000 in
set_option maxRecDepth 100000 in
theorem c_grow1 (l : Launch) (D : va_G) (z e0 : Nat) (L : List Nat) (K N : Nat → Nat) (I : Nat → Nat → Int32) (J : Nat → Nat → Int64) (R : Nat → Nat → Option Nat) (sl t te : Nat) (hA : At L K N sl t 0) (h0 : t % 16 = 0) (h7 : te % 16 = 7) (h1 : R sl 1 = some e0) : MF l yJx4a65c_grow_92f84 wsJx4a65c_grow_92f84 rm_Jx4a65c_grow_92f84 D z e0 L K N I J R [.ref sl, .int 1] (fun v L' K' N' I' J' R' => ∃ q R1, v = some (.ref q) ∧ NewC L K N I J R q te 10 L' K' N' I' J' R1 ∧ R' = u2 R1 sl 1 (some q)) := by
  refine mf_of (own := RJx4a65c) (maxL := 4) (ret := (some (.array (.object "java/lang/Object")))) (by decide +kernel) rfl rfl (Nat.le_of_ble_eq_true rfl) ?_
  intro pg ev s mi args below meth c hc hr hname
  refine x_aload_n (j := 0) hc dJx4a65c_grow_92f84_0 rfl rfl ?_
  refine x_getR (C := RJx4a65c) (T := TJx4a65c) (NN := 3) (ci := 0) (ref := "java/util/ArrayList") hc 1 in_Jx4a65c_grow_92f84_0 rfl (by decide) lf_Jx4a65c_grow_92f84_9 (fun _ h9 => h9) hA (by omega) (by decide) rfl h1 dJx4a65c_grow_92f84_1 ?_
  refine x_alenE hc dJx4a65c_grow_92f84_4 ?_
  refine x_istore_n (lv' := [(2, .int 0), (0, .ref sl), (1, .int 1)]) hc dJx4a65c_grow_92f84_5 rfl (by decide) rfl ?_
  refine x_iload_n (j := 0) hc dJx4a65c_grow_92f84_6 rfl rfl ?_
  refine x_if_gt (tgt := 20) hc dJx4a65c_grow_92f84_7 (by decide) (fun q9 => absurd q9 (by decide)) (fun _ => ?_)
  refine x_aload_n (j := 1) hc dJx4a65c_grow_92f84_10 rfl rfl ?_
  refine x_getR (C := RJx4a65c) (T := TJx4a65c) (NN := 3) (ci := 0) (ref := "java/util/ArrayList") hc 1 in_Jx4a65c_grow_92f84_0 rfl (by decide) lf_Jx4a65c_grow_92f84_9 (fun _ h9 => h9) hA (by omega) (by decide) rfl h1 dJx4a65c_grow_92f84_11 ?_
  refine x_getsE hc lsf_Jx4a65c_grow_92f84_39 dJx4a65c_grow_92f84_14 ?_
  refine x_acmpEq (tgt := 45) hc dJx4a65c_grow_92f84_17 (by decide) ?_
  refine x_aload_n (j := 1) hc dJx4a65c_grow_92f84_45 rfl rfl ?_
  refine x_bipush (v := 10) hc dJx4a65c_grow_92f84_46 (by decide) ?_
  refine x_iload_n (j := 2) hc dJx4a65c_grow_92f84_48 rfl rfl ?_
  refine x_mmax hc lml_Jx4a65c_grow_92f84_79 lst_Jx4a65c_grow_92f84_79 lini_Jx4a65c_grow_92f84_Math lcd_Jx4a65c_grow_92f84_79 (Nat.le_of_ble_eq_true rfl) (Nat.le_of_ble_eq_true rfl) (Nat.le_of_ble_eq_true rfl) (Nat.le_of_ble_eq_true rfl) dJx4a65c_grow_92f84_49 ?_
  refine x_vali (show (if (10 : Int32) < 1 then 1 else 10) = 10 by decide) ?_
  refine x_newaO hc (te) (n0 := 10) lcl_Jx4a65c_grow_92f84_7 (by omega) (by decide) (by decide) ⟨Nat.le_of_ble_eq_true rfl, Nat.le_of_ble_eq_true rfl⟩ dJx4a65c_grow_92f84_52 (fun q L1 K1 N1 I1 J1 R1 n1 => ?_)
  have hA1 := n1.ext.cell hA
  refine x_dup_x1 hc dJx4a65c_grow_92f84_55 rfl rfl ?_
  refine x_putR (C := RJx4a65c) (T := TJx4a65c) (NN := 3) (ci := 0) (ref := "java/util/ArrayList") hc 1 in_Jx4a65c_grow_92f84_0 rfl (by decide) lf_Jx4a65c_grow_92f84_9 (fun _ h9 => h9) tyJx4a65c tyJx4a65c_ok nmJx4a65c hA1 (by omega) (by decide) rfl rfl pd_Jx4a65c_1 rfl rfl dJx4a65c_grow_92f84_56 ?_
  exact x_aretF hc hr (Or.inr ⟨_, rfl⟩) (by decide) (by decide) dJx4a65c_grow_92f84_59 (⟨q, R1, rfl, n1, rfl⟩)
abbrev rm_Jx4a65c_grow_d5877 : Room := { frames := 2, cells := 1, slots := 10, locals := 39 }
set_option maxHeartbeats 4000000 in
set_option maxRecDepth 100000 in
theorem c_grow0 (l : Launch) (D : va_G) (z e0 : Nat) (L : List Nat) (K N : Nat → Nat) (I : Nat → Nat → Int32) (J : Nat → Nat → Int64) (R : Nat → Nat → Option Nat) (sl t te : Nat) (hA : At L K N sl t 0) (h0 : t % 16 = 0) (h7 : te % 16 = 7) (h1 : R sl 1 = some e0) (h2 : I sl 2 = 0) : MF l yJx4a65c_grow_d5877 wsJx4a65c_grow_d5877 rm_Jx4a65c_grow_d5877 D z e0 L K N I J R [.ref sl] (fun v L' K' N' I' J' R' => ∃ q R1, v = some (.ref q) ∧ NewC L K N I J R q te 10 L' K' N' I' J' R1 ∧ R' = u2 R1 sl 1 (some q)) := by
  refine mf_of (own := RJx4a65c) (maxL := 1) (ret := (some (.array (.object "java/lang/Object")))) (by decide +kernel) rfl rfl (Nat.le_of_ble_eq_true rfl) ?_
  intro pg ev s mi args below meth c hc hr hname
  refine x_aload_n (j := 0) hc dJx4a65c_grow_d5877_0 rfl rfl ?_
  refine x_aload_n (j := 0) hc dJx4a65c_grow_d5877_1 rfl rfl ?_
  refine x_getI (C := RJx4a65c) (T := TJx4a65c) (NN := 3) (ci := 0) (ref := "java/util/ArrayList") hc 2 in_Jx4a65c_grow_d5877_0 rfl (by decide) lf_Jx4a65c_grow_d5877_48 (fun _ h9 => h9) hA (by omega) (by decide) rfl dJx4a65c_grow_d5877_2 ?_
  refine x_vali (h2) ?_
  refine x_iconst (v := 1) hc dJx4a65c_grow_d5877_5 (by decide) ?_
  refine x_iadd hc dJx4a65c_grow_d5877_6 ?_
  refine x_vali (show (0 : Int32) + 1 = 1 by decide) ?_
  refine x_callVF (C := RJx4a65c) (T := TJx4a65c) (NN := 3) (ci := 0) (As := [.int 1]) (st := []) hc hA (by omega) (by decide) rfl (c_grow1 l D z e0 L K N I J R sl t te hA h0 h7 h1) gJx4a65c_grow_d5877_Jx4a65c_grow_92f84 rfl hdV_Jx4a65c_grow_92f84 ⟨Nat.le_of_ble_eq_true rfl, Nat.le_of_ble_eq_true rfl⟩ rfl rfl ⟨Nat.le_of_ble_eq_true rfl, Nat.le_of_ble_eq_true rfl⟩ (Nat.le_of_ble_eq_true rfl) dJx4a65c_grow_d5877_7 (fun v9 L9 K9 N9 I9 J9 R9 hz9 => ?_)
  obtain ⟨q, R1, rfl, n1, rfl⟩ := hz9
  exact x_aretF hc hr (Or.inr ⟨_, rfl⟩) (by decide) (by decide) dJx4a65c_grow_d5877_10 (⟨q, R1, rfl, n1, rfl⟩)
abbrev rm_Jx4a65c_add_72be8 : Room := { frames := 3, cells := 1, slots := 10, locals := 59 }
set_option maxHeartbeats 4000000 in
set_option maxRecDepth 100000 in
theorem c_add3A (l : Launch) (D : va_G) (z e0 : Nat) (L : List Nat) (K N : Nat → Nat) (I : Nat → Nat → Int32) (J : Nat → Nat → Int64) (R : Nat → Nat → Option Nat) (sl t te : Nat) (hA : At L K N sl t 0) (h0 : t % 16 = 0) (h7 : te % 16 = 7) (h1 : R sl 1 = some e0) (h2 : I sl 2 = 0) (a ta : Nat) (ha : At L K N a ta 0) (hta : ta % 16 = 2 ∧ 1600 ≤ ta) : MF l yJx4a65c_add_72be8 wsJx4a65c_add_72be8 rm_Jx4a65c_add_72be8 D z e0 L K N I J R [.ref sl, .ref a, .ref e0, .int 0] (fun v L' K' N' I' J' R' => v = none ∧ ∃ q R1 I1, NewC L K N I J R q te 10 L' K' N' I1 J' R1 ∧ R' = u2 (u2 R1 sl 1 (some q)) q 0 (some a) ∧ I' = u2 I1 sl 2 (0 + 1)) := by
  refine mf_of (own := RJx4a65c) (maxL := 4) (ret := none) (by decide +kernel) rfl rfl (Nat.le_of_ble_eq_true rfl) ?_
  intro pg ev s mi args below meth c hc hr hname
  have hta1 := hta.1
  refine x_iload_n (j := 3) hc dJx4a65c_add_72be8_0 rfl rfl ?_
  refine x_aload_n (j := 2) hc dJx4a65c_add_72be8_1 rfl rfl ?_
  refine x_alenE hc dJx4a65c_add_72be8_2 ?_
  refine x_icmp_ne (tgt := 11) hc dJx4a65c_add_72be8_3 (by decide) (fun q9 => absurd q9 (by decide)) (fun _ => ?_)
  refine x_aload_n (j := 0) hc dJx4a65c_add_72be8_6 rfl rfl ?_
  refine x_callVF (C := RJx4a65c) (T := TJx4a65c) (NN := 3) (ci := 0) (As := []) (st := []) hc hA (by omega) (by decide) rfl (c_grow0 l D z e0 L K N I J R sl t te hA h0 h7 h1 h2) gJx4a65c_add_72be8_Jx4a65c_grow_d5877 rfl hdV_Jx4a65c_grow_d5877 ⟨Nat.le_of_ble_eq_true rfl, Nat.le_of_ble_eq_true rfl⟩ rfl rfl ⟨Nat.le_of_ble_eq_true rfl, Nat.le_of_ble_eq_true rfl⟩ (Nat.le_of_ble_eq_true rfl) dJx4a65c_add_72be8_7 (fun v9 L9 K9 N9 I9 J9 R9 hz9 => ?_)
  obtain ⟨q, R1, rfl, n1, rfl⟩ := hz9
  have hA1 := n1.ext.cell hA
  have ha1 := n1.ext.cell ha
  have hq1 := n1.2.1
  refine x_astore_n (lv' := [(2, .ref q), (0, .ref sl), (1, .ref a), (3, .int 0)]) hc dJx4a65c_add_72be8_10 rfl (by decide) rfl ?_
  refine x_aload_n (j := 0) hc dJx4a65c_add_72be8_11 rfl rfl ?_
  refine x_iload_n (j := 3) hc dJx4a65c_add_72be8_12 rfl rfl ?_
  refine x_aload_n (j := 2) hc dJx4a65c_add_72be8_13 rfl rfl ?_
  refine x_aast hc hq1 (by omega) ha1 (by omega) (by decide) rfl (by decide) dJx4a65c_add_72be8_14 ?_
  refine x_aload_n (j := 1) hc dJx4a65c_add_72be8_15 rfl rfl ?_
  refine x_iload_n (j := 3) hc dJx4a65c_add_72be8_16 rfl rfl ?_
  refine x_iconst (v := 1) hc dJx4a65c_add_72be8_17 (by decide) ?_
  refine x_iadd hc dJx4a65c_add_72be8_18 ?_
  refine x_putI (C := RJx4a65c) (T := TJx4a65c) (NN := 3) (ci := 0) (ref := "java/util/ArrayList") hc 2 in_Jx4a65c_add_72be8_0 rfl (by decide) lf_Jx4a65c_add_72be8_48 (fun _ h9 => h9) tyJx4a65c tyJx4a65c_ok nmJx4a65c hA1 (by omega) (by decide) rfl rfl pd_Jx4a65c_2 dJx4a65c_add_72be8_19 ?_
  exact x_vretF hc hr (by decide) (by decide) dJx4a65c_add_72be8_22 (⟨rfl, q, R1, I9, n1, rfl, rfl⟩)
set_option maxHeartbeats 4000000 in
set_option maxRecDepth 100000 in
theorem c_add3B (l : Launch) (D : va_G) (z e0 : Nat) (L : List Nat) (K N : Nat → Nat) (I : Nat → Nat → Int32) (J : Nat → Nat → Int64) (R : Nat → Nat → Option Nat) (sl t te n : Nat) (hl : Lst L K N I R sl t te n) (hn8 : n < 8) (hn : 0 < n) (a ta : Nat) (ha : At L K N a ta 0) (hta : ta % 16 = 2 ∧ 1600 ≤ ta) : MF l yJx4a65c_add_72be8 wsJx4a65c_add_72be8 rm_Jx4a65c_add_72be8 D z e0 L K N I J R [.ref sl, .ref a, .ref (dr R sl 1), .int (nI n)] (fun v L' K' N' I' J' R' => v = none ∧ L' = L ∧ K' = K ∧ N' = N ∧ I' = u2 I sl 2 (nI (n + 1)) ∧ J' = J ∧ R' = u2 R (dr R sl 1) n (some a)) := by
  refine mf_of (own := RJx4a65c) (maxL := 4) (ret := none) (by decide +kernel) rfl rfl (Nat.le_of_ble_eq_true rfl) ?_
  intro pg ev s mi args below meth c hc hr hname
  have hA := hl.1
  have h0 := hl.2.1
  have h7 := hl.2.2.2.2.1
  have hta1 := hta.1
  have hB := (hl.2.2.2.2.2 hn).2.1
  refine x_iload_n (j := 3) hc dJx4a65c_add_72be8_0 rfl rfl ?_
  refine x_aload_n (j := 2) hc dJx4a65c_add_72be8_1 rfl rfl ?_
  refine x_alenO hc hB (by omega) dJx4a65c_add_72be8_2 ?_
  refine x_icmp_ne (tgt := 11) hc dJx4a65c_add_72be8_3 (by decide) (fun _ => ?_) (fun q9 => absurd q9 (fun h => by have := (nI_eq (a := n) (b := 10) (by omega) (by decide)).mp h; omega))
  refine x_aload_n (j := 2) hc dJx4a65c_add_72be8_11 rfl rfl ?_
  refine x_iload_n (j := 3) hc dJx4a65c_add_72be8_12 rfl rfl ?_
  refine x_aload_n (j := 1) hc dJx4a65c_add_72be8_13 rfl rfl ?_
  refine x_aast hc hB (by omega) ha (by omega) (by decide) rfl (show n < 10 by omega) dJx4a65c_add_72be8_14 ?_
  refine x_aload_n (j := 0) hc dJx4a65c_add_72be8_15 rfl rfl ?_
  refine x_iload_n (j := 3) hc dJx4a65c_add_72be8_16 rfl rfl ?_
  refine x_iconst (v := 1) hc dJx4a65c_add_72be8_17 (by decide) ?_
  refine x_iadd hc dJx4a65c_add_72be8_18 ?_
  refine x_vali (nI_1 n) ?_
  refine x_putI (C := RJx4a65c) (T := TJx4a65c) (NN := 3) (ci := 0) (ref := "java/util/ArrayList") hc 2 in_Jx4a65c_add_72be8_0 rfl (by decide) lf_Jx4a65c_add_72be8_48 (fun _ h9 => h9) tyJx4a65c tyJx4a65c_ok nmJx4a65c hA (by omega) (by decide) rfl rfl pd_Jx4a65c_2 dJx4a65c_add_72be8_19 ?_
  exact x_vretF hc hr (by decide) (by decide) dJx4a65c_add_72be8_22 (⟨rfl, rfl, rfl, rfl, rfl, rfl, rfl⟩)
/-- the list sl has taken a at its end -/
def AddP (L : List Nat) (K N : Nat → Nat) (I : Nat → Nat → Int32) (J : Nat → Nat → Int64) (R : Nat → Nat → Option Nat) (sl t te n a : Nat) (L' : List Nat) (K' N' : Nat → Nat) (I' : Nat → Nat → Int32) (J' : Nat → Nat → Int64) (R' : Nat → Nat → Option Nat) : Prop :=
  Lst L' K' N' I' R' sl t te (n + 1) ∧ (∀ i, i < n → shA R' sl i = shA R sl i) ∧ shA R' sl n = a ∧ Ext L K N I J R L' K' N' I' J' R' (fun b => K b = t ∨ K b = te)
theorem addB {L : List Nat} {K N : Nat → Nat} {I : Nat → Nat → Int32} {J : Nat → Nat → Int64} {R : Nat → Nat → Option Nat} {sl t te n a ta : Nat} {x : Int32} (hl : Lst L K N I R sl t te n) (hn8 : n < 8) (hn : 0 < n) (ha : At L K N a ta 0) (hta : ta % 16 = 2 ∧ 1600 ≤ ta) :
    AddP L K N I J R sl t te n a L K N (u2 (u2 I sl 0 x) sl 2 (nI (n + 1))) J (u2 R (dr R sl 1) n (some a)) := by
  obtain ⟨g1, g2, g3, g4, g5, g6⟩ := hl
  obtain ⟨k1, k2, k3⟩ := g6 hn
  have hne : sl ≠ dr R sl 1 := g1.ne k2 (by omega)
  have e1 : dr (u2 R (dr R sl 1) n (some a)) sl 1 = dr R sl 1 := by
    show ((u2 R (dr R sl 1) n (some a)) sl 1).getD 0 = (R sl 1).getD 0
    rw [u2_a hne]
  have es : ∀ i, i ≠ n → shA (u2 R (dr R sl 1) n (some a)) sl i = shA R sl i := fun i hi => by
    show dr _ (dr _ sl 1) i = dr R (dr R sl 1) i
    rw [e1]
    show ((u2 R (dr R sl 1) n (some a)) (dr R sl 1) i).getD 0 = (R (dr R sl 1) i).getD 0
    rw [u2_k hi]
  have en : shA (u2 R (dr R sl 1) n (some a)) sl n = a := by
    show dr _ (dr _ sl 1) n = a
    rw [e1]
    exact dr_of u2_s
  refine ⟨⟨g1, g2, u2_s, hn8, g5, fun _ => ⟨?_, ?_, fun i hi => ?_⟩⟩, fun i hi => es i (Nat.ne_of_lt hi), en, fun b hb => ⟨hb, rfl, rfl, fun hP => ⟨?_, rfl, ?_⟩⟩⟩
  · rw [e1, u2_a hne]
    exact k1
  · rw [e1]
    exact k2
  · by_cases hi2 : i = n
    · subst hi2
      rw [en, e1, u2_s]
      exact ⟨rfl, by rw [ha.2.1]; exact ha, by rw [ha.2.1]; exact hta.1, by rw [ha.2.1]; exact hta.2⟩
    · rw [es i hi2, e1, u2_k hi2]
      exact k3 i (by omega)
  · have n1 : b ≠ sl := fun e => hP (Or.inl (by rw [e]; exact g1.2.1))
    exact funext fun j => by rw [u2_a n1, u2_a n1]
  · have n1 : b ≠ dr R sl 1 := fun e => hP (Or.inr (by rw [e]; exact k2.2.1))
    exact funext fun j => by rw [u2_a n1]
theorem addA {L : List Nat} {K N : Nat → Nat} {I : Nat → Nat → Int32} {J : Nat → Nat → Int64} {R : Nat → Nat → Option Nat} {L' : List Nat} {K' N' : Nat → Nat} {J' : Nat → Nat → Int64} {I1 : Nat → Nat → Int32} {R1 : Nat → Nat → Option Nat} {sl t te a ta q : Nat} {x : Int32} (hl : Lst L K N I R sl t te 0) (ha : At L K N a ta 0) (hta : ta % 16 = 2 ∧ 1600 ≤ ta) (hN : NewC L K N (u2 I sl 0 x) J R q te 10 L' K' N' I1 J' R1) :
    AddP L K N I J R sl t te 0 a L' K' N' (u2 I1 sl 2 (0 + 1)) J' (u2 (u2 R1 sl 1 (some q)) q 0 (some a)) := by
  obtain ⟨g1, g2, g3, g4, g5, g6⟩ := hl
  obtain ⟨hq, hqA, -, -, -, hE⟩ := hN
  have hsl := hE.cell g1
  have haN := hE.cell ha
  have hne : sl ≠ q := hsl.ne hqA (by omega)
  have r1 : (u2 (u2 R1 sl 1 (some q)) q 0 (some a)) sl 1 = some q := (u2_a hne).trans u2_s
  have d1 := dr_of r1
  have r2 : (u2 (u2 R1 sl 1 (some q)) q 0 (some a)) q 0 = some a := u2_s
  have es : shA (u2 (u2 R1 sl 1 (some q)) q 0 (some a)) sl 0 = a := by
    show dr _ (dr _ sl 1) 0 = a
    rw [d1]
    exact dr_of r2
  refine ⟨⟨hsl, g2, u2_s, by decide, g5, fun _ => ⟨by rw [d1]; exact r1, by rw [d1]; exact hqA, fun i hi => ?_⟩⟩, fun i hi => absurd hi (Nat.not_lt_zero i), es, fun b hb => ?_⟩
  · have h0 : i = 0 := by omega
    subst h0
    rw [es, d1]
    exact ⟨r2, by rw [haN.2.1]; exact haN, by rw [haN.2.1]; exact hta.1, by rw [haN.2.1]; exact hta.2⟩
  · obtain ⟨b1, b2, b3, b4⟩ := hE b hb
    refine ⟨b1, b2, b3, fun hP => ?_⟩
    obtain ⟨c1, c2, c3⟩ := b4 (fun h => h)
    have n1 : b ≠ sl := fun e => hP (Or.inl (by rw [e]; exact g1.2.1))
    have n2 : b ≠ q := fun e => hq (e ▸ hb)
    refine ⟨?_, c2, ?_⟩
    · rw [show u2 I1 sl 2 (0 + 1) b = I1 b from funext fun j => u2_a n1, c1]
      exact funext fun j => u2_a n1
    · rw [show u2 (u2 R1 sl 1 (some q)) q 0 (some a) b = R1 b from funext fun j => by rw [u2_a n2, u2_a n1], c3]
theorem Lst.sh {L : List Nat} {K N : Nat → Nat} {I : Nat → Nat → Int32} {J : Nat → Nat → Int64} {R : Nat → Nat → Option Nat} {L' : List Nat} {K' N' : Nat → Nat} {I' : Nat → Nat → Int32} {J' : Nat → Nat → Int64} {R' : Nat → Nat → Option Nat} {P : Nat → Prop} {sl t te n : Nat} (g : Lst L K N I R sl t te n) (h : Ext L K N I J R L' K' N' I' J' R' P) (hn : ∀ a, a ∈ L → (K a = t ∨ K a = te) → ¬ P a) {i : Nat} (hi : i < n) : shA R' sl i = shA R sl i := by
  obtain ⟨g1, g2, g3, g4, g5, g6⟩ := g
  obtain ⟨k1, k2, k3⟩ := g6 (Nat.lt_of_le_of_lt (Nat.zero_le i) hi)
  show dr R' (dr R' sl 1) i = dr R (dr R sl 1) i
  rw [h.ref g1.1 (hn sl g1.1 (Or.inl g1.2.1)), h.ref k2.1 (hn _ k2.1 (Or.inr k2.2.1))]
theorem Lst.s0 {L : List Nat} {K N : Nat → Nat} {I : Nat → Nat → Int32} {R : Nat → Nat → Option Nat} {sl t te n : Nat} {x : Int32} (hl : Lst L K N I R sl t te n) : Lst L K N (u2 I sl 0 x) R sl t te n := ⟨hl.1, hl.2.1, (u2_k (by decide)).trans hl.2.2.1, hl.2.2.2⟩
abbrev rm_Jx4a65c_add_9ea2d : Room := { frames := 4, cells := 1, slots := 10, locals := 82 }
set_option maxHeartbeats 4000000 in
set_option maxRecDepth 100000 in
theorem c_listAdd (l : Launch) (D : va_G) (z e0 : Nat) (L : List Nat) (K N : Nat → Nat) (I : Nat → Nat → Int32) (J : Nat → Nat → Int64) (R : Nat → Nat → Option Nat) (sl t te n : Nat) (hl : Lst L K N I R sl t te n) (hn8 : n < 8) (hr0 : n = 0 → R sl 1 = some e0) (a ta : Nat) (ha : At L K N a ta 0) (hta : ta % 16 = 2 ∧ 1600 ≤ ta) : MF l yJx4a65c_add_9ea2d wsJx4a65c_add_9ea2d rm_Jx4a65c_add_9ea2d D z e0 L K N I J R [.ref sl, .ref a] (fun v L' K' N' I' J' R' => v = some (.int 1) ∧ AddP L K N I J R sl t te n a L' K' N' I' J' R') := by
  refine mf_of (own := RJx4a65c) (maxL := 2) (ret := (some .boolean)) (by decide +kernel) rfl rfl (Nat.le_of_ble_eq_true rfl) ?_
  intro pg ev s mi args below meth c hc hr hname
  have hA := hl.1
  have h0 := hl.2.1
  have h7 := hl.2.2.2.2.1
  have hta1 := hta.1
  rcases Nat.eq_zero_or_pos n with hz | hp
  · subst hz
    have hrr := hr0 rfl
    refine x_aload_n (j := 0) hc dJx4a65c_add_9ea2d_0 rfl rfl ?_
    refine x_dup hc dJx4a65c_add_9ea2d_1 rfl ?_
    refine x_getI (C := RJx4a65c) (T := TJx4a65c) (NN := 3) (ci := 0) (ref := "java/util/ArrayList") hc 0 in_Jx4a65c_add_9ea2d_0 rfl (by decide) lf_Jx4a65c_add_9ea2d_63 (fun x9 h9 => u_same (hc.w (.sameField "java/util/ArrayList" "java/util/AbstractList" "modCount" "I") ls_Jx4a65c_add_9ea2d_63) x9 h9) hA (by omega) (by decide) rfl dJx4a65c_add_9ea2d_2 ?_
    refine x_iconst (v := 1) hc dJx4a65c_add_9ea2d_5 (by decide) ?_
    refine x_iadd hc dJx4a65c_add_9ea2d_6 ?_
    refine x_putI (C := RJx4a65c) (T := TJx4a65c) (NN := 3) (ci := 0) (ref := "java/util/ArrayList") hc 0 in_Jx4a65c_add_9ea2d_0 rfl (by decide) lf_Jx4a65c_add_9ea2d_63 (fun x9 h9 => u_same (hc.w (.sameField "java/util/ArrayList" "java/util/AbstractList" "modCount" "I") ls_Jx4a65c_add_9ea2d_63) x9 h9) tyJx4a65c tyJx4a65c_ok nmJx4a65c hA (by omega) (by decide) rfl rfl pd_Jx4a65c_0 dJx4a65c_add_9ea2d_7 ?_
    refine x_aload_n (j := 0) hc dJx4a65c_add_9ea2d_10 rfl rfl ?_
    refine x_aload_n (j := 1) hc dJx4a65c_add_9ea2d_11 rfl rfl ?_
    refine x_aload_n (j := 0) hc dJx4a65c_add_9ea2d_12 rfl rfl ?_
    refine x_getR (C := RJx4a65c) (T := TJx4a65c) (NN := 3) (ci := 0) (ref := "java/util/ArrayList") hc 1 in_Jx4a65c_add_9ea2d_0 rfl (by decide) lf_Jx4a65c_add_9ea2d_9 (fun _ h9 => h9) hA (by omega) (by decide) rfl hrr dJx4a65c_add_9ea2d_13 ?_
    refine x_aload_n (j := 0) hc dJx4a65c_add_9ea2d_16 rfl rfl ?_
    refine x_getI (C := RJx4a65c) (T := TJx4a65c) (NN := 3) (ci := 0) (ref := "java/util/ArrayList") hc 2 in_Jx4a65c_add_9ea2d_0 rfl (by decide) lf_Jx4a65c_add_9ea2d_48 (fun _ h9 => h9) hA (by omega) (by decide) rfl dJx4a65c_add_9ea2d_17 ?_
    refine x_vali ((u2_k (by decide)).trans hl.2.2.1) ?_
    refine x_callVF (C := RJx4a65c) (T := TJx4a65c) (NN := 3) (ci := 0) (As := [.ref a, .ref e0, .int 0]) (st := []) hc hA (by omega) (by decide) rfl (c_add3A l D z e0 L K N (u2 I sl 0 ((I sl 0) + 1)) J R sl t te hA h0 h7 hrr ((u2_k (by decide)).trans hl.2.2.1) a ta ha hta) gJx4a65c_add_9ea2d_Jx4a65c_add_72be8 rfl hdV_Jx4a65c_add_72be8 ⟨Nat.le_of_ble_eq_true rfl, Nat.le_of_ble_eq_true rfl⟩ rfl rfl ⟨Nat.le_of_ble_eq_true rfl, Nat.le_of_ble_eq_true rfl⟩ (Nat.le_of_ble_eq_true rfl) dJx4a65c_add_9ea2d_20 (fun v9 L9 K9 N9 I9 J9 R9 hz9 => ?_)
    obtain ⟨rfl, q, R1, I1, n1, rfl, rfl⟩ := hz9
    refine x_iconst (v := 1) hc dJx4a65c_add_9ea2d_23 (by decide) ?_
    exact x_zretF hc hr rfl (by decide) (by decide) dJx4a65c_add_9ea2d_24 (⟨rfl, addA hl ha hta n1⟩)
  · have hrr := (hl.2.2.2.2.2 hp).1
    refine x_aload_n (j := 0) hc dJx4a65c_add_9ea2d_0 rfl rfl ?_
    refine x_dup hc dJx4a65c_add_9ea2d_1 rfl ?_
    refine x_getI (C := RJx4a65c) (T := TJx4a65c) (NN := 3) (ci := 0) (ref := "java/util/ArrayList") hc 0 in_Jx4a65c_add_9ea2d_0 rfl (by decide) lf_Jx4a65c_add_9ea2d_63 (fun x9 h9 => u_same (hc.w (.sameField "java/util/ArrayList" "java/util/AbstractList" "modCount" "I") ls_Jx4a65c_add_9ea2d_63) x9 h9) hA (by omega) (by decide) rfl dJx4a65c_add_9ea2d_2 ?_
    refine x_iconst (v := 1) hc dJx4a65c_add_9ea2d_5 (by decide) ?_
    refine x_iadd hc dJx4a65c_add_9ea2d_6 ?_
    refine x_putI (C := RJx4a65c) (T := TJx4a65c) (NN := 3) (ci := 0) (ref := "java/util/ArrayList") hc 0 in_Jx4a65c_add_9ea2d_0 rfl (by decide) lf_Jx4a65c_add_9ea2d_63 (fun x9 h9 => u_same (hc.w (.sameField "java/util/ArrayList" "java/util/AbstractList" "modCount" "I") ls_Jx4a65c_add_9ea2d_63) x9 h9) tyJx4a65c tyJx4a65c_ok nmJx4a65c hA (by omega) (by decide) rfl rfl pd_Jx4a65c_0 dJx4a65c_add_9ea2d_7 ?_
    refine x_aload_n (j := 0) hc dJx4a65c_add_9ea2d_10 rfl rfl ?_
    refine x_aload_n (j := 1) hc dJx4a65c_add_9ea2d_11 rfl rfl ?_
    refine x_aload_n (j := 0) hc dJx4a65c_add_9ea2d_12 rfl rfl ?_
    refine x_getR (C := RJx4a65c) (T := TJx4a65c) (NN := 3) (ci := 0) (ref := "java/util/ArrayList") hc 1 in_Jx4a65c_add_9ea2d_0 rfl (by decide) lf_Jx4a65c_add_9ea2d_9 (fun _ h9 => h9) hA (by omega) (by decide) rfl hrr dJx4a65c_add_9ea2d_13 ?_
    refine x_aload_n (j := 0) hc dJx4a65c_add_9ea2d_16 rfl rfl ?_
    refine x_getI (C := RJx4a65c) (T := TJx4a65c) (NN := 3) (ci := 0) (ref := "java/util/ArrayList") hc 2 in_Jx4a65c_add_9ea2d_0 rfl (by decide) lf_Jx4a65c_add_9ea2d_48 (fun _ h9 => h9) hA (by omega) (by decide) rfl dJx4a65c_add_9ea2d_17 ?_
    refine x_vali ((u2_k (by decide)).trans hl.2.2.1) ?_
    refine x_callVF (C := RJx4a65c) (T := TJx4a65c) (NN := 3) (ci := 0) (As := [.ref a, .ref (dr R sl 1), .int (nI n)]) (st := []) hc hA (by omega) (by decide) rfl (c_add3B l D z e0 L K N (u2 I sl 0 ((I sl 0) + 1)) J R sl t te n hl.s0 hn8 hp a ta ha hta) gJx4a65c_add_9ea2d_Jx4a65c_add_72be8 rfl hdV_Jx4a65c_add_72be8 ⟨Nat.le_of_ble_eq_true rfl, Nat.le_of_ble_eq_true rfl⟩ rfl rfl ⟨Nat.le_of_ble_eq_true rfl, Nat.le_of_ble_eq_true rfl⟩ (Nat.le_of_ble_eq_true rfl) dJx4a65c_add_9ea2d_20 (fun v9 L9 K9 N9 I9 J9 R9 hz9 => ?_)
    obtain ⟨rfl, hL9, hK9, hN9, hI9, hJ9, hR9⟩ := hz9
    replace hL9 := hL9.symm
    subst hL9
    replace hK9 := hK9.symm
    subst hK9
    replace hN9 := hN9.symm
    subst hN9
    replace hI9 := hI9.symm
    subst hI9
    replace hJ9 := hJ9.symm
    subst hJ9
    replace hR9 := hR9.symm
    subst hR9
    refine x_iconst (v := 1) hc dJx4a65c_add_9ea2d_23 (by decide) ?_
    exact x_zretF hc hr rfl (by decide) (by decide) dJx4a65c_add_9ea2d_24 (⟨rfl, addB hl hn8 hp ha hta⟩)
abbrev rm_X2_requireRoom : Room := { frames := 6, cells := 0, slots := 0, locals := 87 }
set_option maxHeartbeats 4000000 in
set_option maxRecDepth 100000 in
theorem c_reqRoom (l : Launch) (D : va_G) (z e0 : Nat) (L : List Nat) (K N : Nat → Nat) (I : Nat → Nat → Int32) (J : Nat → Nat → Int64) (R : Nat → Nat → Option Nat) (x now n : Nat) (nn : Nat → Nat) (hx : Cls L K N I R x now n nn) (k : Nat) (hk : k < 2) (ka g : Int32) (h1 : n < 8) (h2 : ka = 1 → (netN (fun i => shV I (shA R (dr R (dr R x k) 3) i)) (nn k) + g ≤ 10000)) : MG l yX2_requireRoom wsX2_requireRoom rm_X2_requireRoom D z e0 L K N I J R [.ref x, .ref (dr R x k), .int ka, .int g] (fun v I' J' => v = none ∧ I' = I ∧ J' = J) := by
  refine mg_of (own := RX2) (maxL := 4) (ret := none) (by decide +kernel) rfl rfl (Nat.le_of_ble_eq_true rfl) ?_
  intro pg ev s mi args below meth c hc hr
  refine x_aload_n (j := 0) hc dX2_requireRoom_0 rfl rfl ?_
  refine x_getR (C := RX2) (T := TX2) (NN := 5) (ci := 3) (ref := "NetPoints") hc 2 in_X2_requireRoom_3 rfl (by decide) lf_X2_requireRoom_22 (fun _ h9 => h9) hx.1 (by omega) (by decide) rfl hx.2.2.1 dX2_requireRoom_1 ?_
  refine x_callV (C := RJx4a65c) (T := TJx4a65c) (NN := 3) (ci := 0) (As := []) (st := []) hc hx.2.2.2.1.1 (by omega) (by decide) rfl (c_size l D z e0 L K N I J R (dr R x 2) 16 n hx.2.2.2.1.1 (by omega) hx.2.2.2.1.2.2.1) gX2_requireRoom_Jx4a65c_size_8abf5 rfl hdV_Jx4a65c_size_8abf5 ⟨Nat.le_of_ble_eq_true rfl, Nat.le_of_ble_eq_true rfl⟩ rfl rfl ⟨Nat.le_of_ble_eq_true rfl, Nat.le_of_ble_eq_true rfl⟩ (Nat.le_of_ble_eq_true rfl) dX2_requireRoom_4 (fun v9 I9 J9 hz9 => ?_)
  obtain ⟨rfl, hI9, hJ9⟩ := hz9
  replace hI9 := hI9.symm
  subst hI9
  replace hJ9 := hJ9.symm
  subst hJ9
  refine x_bipush (v := 8) hc dX2_requireRoom_7 (by decide) ?_
  refine x_icmp_lt (tgt := 22) hc dX2_requireRoom_9 (by decide) (fun _ => ?_) (fun q9 => absurd (show nI n < nI 8 from nI_lt h1 (by decide)) q9)
  refine x_iload_n (j := 2) hc dX2_requireRoom_22 rfl rfl ?_
  refine x_iconst (v := 1) hc dX2_requireRoom_23 (by decide) ?_
  refine x_icmp_ne (tgt := 49) hc dX2_requireRoom_24 (by decide) (fun q1 => ?_) (fun q1 => ?_)
  · exact x_vret hc hr (by decide) (by decide) dX2_requireRoom_49 (⟨rfl, rfl, rfl⟩)
  · refine x_aload_n (j := 1) hc dX2_requireRoom_27 rfl rfl ?_
    refine x_callV (C := RX0) (T := TX0) (NN := 15) (ci := 1) (As := []) (st := []) hc ((hx.2.1 k hk).2.1.1) (by omega) (by decide) rfl (c_netRates l D z e0 L K N I J R (k + 1) (dr R x k) (nn k) (hx.2.1 k hk).2.1 (hx.2.1 k hk).2.2) gX2_requireRoom_X0_netRatesGiven rfl hdV_X0_netRatesGiven ⟨Nat.le_of_ble_eq_true rfl, Nat.le_of_ble_eq_true rfl⟩ rfl rfl ⟨Nat.le_of_ble_eq_true rfl, Nat.le_of_ble_eq_true rfl⟩ (Nat.le_of_ble_eq_true rfl) dX2_requireRoom_28 (fun v9 I9 J9 hz9 => ?_)
    obtain ⟨rfl, hI9, hJ9⟩ := hz9
    replace hI9 := hI9.symm
    subst hI9
    replace hJ9 := hJ9.symm
    subst hJ9
    refine x_iload_n (j := 3) hc dX2_requireRoom_31 rfl rfl ?_
    refine x_iadd hc dX2_requireRoom_32 ?_
    refine x_sipush (v := 10000) hc dX2_requireRoom_33 (by decide) ?_
    refine x_icmp_le (tgt := 49) hc dX2_requireRoom_36 (by decide) (fun _ => ?_) (fun q9 => absurd (h2 q1) q9)
    exact x_vret hc hr (by decide) (by decide) dX2_requireRoom_49 (⟨rfl, rfl, rfl⟩)
def mostR (ka : Int32) : Int32 := if ka = 0 then 1000 else 10000
theorem Ext.sh {L : List Nat} {K N : Nat → Nat} {I : Nat → Nat → Int32} {J : Nat → Nat → Int64} {R : Nat → Nat → Option Nat} {q : Nat} {a b c d f : Int32} {v : Option Nat} : Ext L K N I J R L K N (u2 (u2 (u2 (u2 (u2 I q 1 a) q 2 b) q 3 c) q 4 d) q 5 f) J (u2 R q 0 v) (fun x => x = q) := fun x hx => ⟨hx, rfl, rfl, fun hn => ⟨funext fun j => by rw [u2_a hn, u2_a hn, u2_a hn, u2_a hn, u2_a hn], rfl, funext fun j => u2_a hn⟩⟩
abbrev rm_X2_add : Room := { frames := 7, cells := 9, slots := 63, locals := 110 }
set_option maxHeartbeats 4000000 in
set_option maxRecDepth 100000 in
theorem c_add (l : Launch) (D : va_G) (z e0 : Nat) (L : List Nat) (K N : Nat → Nat) (I : Nat → Nat → Int32) (J : Nat → Nat → Int64) (R : Nat → Nat → Option Nat) (x now n : Nat) (nn : Nat → Nat) (hx : Cls L K N I R x now n nn) (k : Nat) (hk : k < 2) (ka li fi se : Int32) (h1 : 0 ≤ ka ∧ ka ≤ 3) (h2 : 0 ≤ li ∧ li ≤ 10000000) (h3 : 0 ≤ fi ∧ fi ≤ mostR ka) (h4 : 0 ≤ se ∧ se ≤ mostR ka) (h5 : n < 8) (h6 : ka = 1 → (netN (fun i => shV I (shA R (dr R (dr R x k) 3) i)) (nn k) + mx fi se ≤ 10000)) (hk8 : nn k < 8) (hz1 : n = 0 → R (dr R x 2) 1 = some e0) (hz2 : nn k = 0 → R (dr R (dr R x k) 3) 1 = some e0) : MF l yX2_add wsX2_add rm_X2_add D z e0 L K N I J R [.ref x, .int (nI k), .int ka, .int li, .int fi, .int se] (fun v L' K' N' I' J' R' => v = some (.int (nI n)) ∧ ∃ q, q ∉ L ∧ At L' K' N' q (1602 + 16 * n) 0 ∧ R' q 0 = some (dr R x k) ∧ (∀ j, 0 < j → j < 6 → I' q j = if j = 1 then nI (nn k) else if j = 2 then ka else if j = 3 then li else if j = 4 then fi else se) ∧ J' q 6 = 0 ∧ Lst L' K' N' I' R' (dr R (dr R x k) 3) (320 * (k + 1) + 224) (320 * (k + 1) + 279) (nn k + 1) ∧ (∀ i, i < nn k → shA R' (dr R (dr R x k) 3) i = shA R (dr R (dr R x k) 3) i) ∧ shA R' (dr R (dr R x k) 3) (nn k) = q ∧ Lst L' K' N' I' R' (dr R x 2) 16 39 (n + 1) ∧ (∀ i, i < n → shA R' (dr R x 2) i = shA R (dr R x 2) i) ∧ shA R' (dr R x 2) n = q ∧ Ext L K N I J R L' K' N' I' J' R' (fun b => K b = 16 ∨ K b = 39 ∨ K b = 320 * (k + 1) + 224 ∨ K b = 320 * (k + 1) + 279)) := by
  refine mf_of (own := RX2) (maxL := 9) (ret := (some .int)) (by decide +kernel) rfl rfl (Nat.le_of_ble_eq_true rfl) ?_
  intro pg ev s mi args below meth c hc hr hname
  obtain ⟨rk, hP, hSL⟩ := hx.2.1 k hk
  have rP3 := hP.2.2.2.2.2.2.2.2.1
  have hP0 := hP.1
  have rx2 := hx.2.2.1
  have hAL := hx.2.2.2.1
  have hX := hx.1
  refine x_iload_n (j := 1) hc dX2_add_0 rfl rfl ?_
  refine x_callS (As := [.int (nI k)]) (st := []) hc (c_reqPic l D z e0 L K N I J R k hk) gX2_add_X2_requirePicture rfl hdS_X2_requirePicture ⟨Nat.le_of_ble_eq_true rfl, Nat.le_of_ble_eq_true rfl⟩ rfl rfl ⟨Nat.le_of_ble_eq_true rfl, Nat.le_of_ble_eq_true rfl⟩ (Nat.le_of_ble_eq_true rfl) dX2_add_1 (fun v9 I9 J9 hz9 => ?_)
  obtain ⟨rfl, hI9, hJ9⟩ := hz9
  replace hI9 := hI9.symm
  subst hI9
  replace hJ9 := hJ9.symm
  subst hJ9
  refine x_iload_n (j := 2) hc dX2_add_4 rfl rfl ?_
  refine x_iconst (v := 0) hc dX2_add_5 (by decide) ?_
  refine x_iconst (v := 3) hc dX2_add_6 (by decide) ?_
  refine x_callS (As := [.int ka, .int 0, .int 3]) (st := []) hc (c_reqRange l D z e0 L K N I J R ka 0 3 h1.1 h1.2) gX2_add_X2_requireRange rfl hdS_X2_requireRange ⟨Nat.le_of_ble_eq_true rfl, Nat.le_of_ble_eq_true rfl⟩ rfl rfl ⟨Nat.le_of_ble_eq_true rfl, Nat.le_of_ble_eq_true rfl⟩ (Nat.le_of_ble_eq_true rfl) dX2_add_7 (fun v9 I9 J9 hz9 => ?_)
  obtain ⟨rfl, hI9, hJ9⟩ := hz9
  replace hI9 := hI9.symm
  subst hI9
  replace hJ9 := hJ9.symm
  subst hJ9
  refine x_iload_n (j := 3) hc dX2_add_10 rfl rfl ?_
  refine x_iconst (v := 0) hc dX2_add_11 (by decide) ?_
  refine x_ldc hc dX2_add_12 lc_X2_add_62 ?_
  refine x_callS (As := [.int li, .int 0, .int 10000000]) (st := []) hc (c_reqRange l D z e0 L K N I J R li 0 10000000 h2.1 h2.2) gX2_add_X2_requireRange rfl hdS_X2_requireRange ⟨Nat.le_of_ble_eq_true rfl, Nat.le_of_ble_eq_true rfl⟩ rfl rfl ⟨Nat.le_of_ble_eq_true rfl, Nat.le_of_ble_eq_true rfl⟩ (Nat.le_of_ble_eq_true rfl) dX2_add_14 (fun v9 I9 J9 hz9 => ?_)
  obtain ⟨rfl, hI9, hJ9⟩ := hz9
  replace hI9 := hI9.symm
  subst hI9
  replace hJ9 := hJ9.symm
  subst hJ9
  have htail : XW pg l ev rm_X2_add s mi args below meth c D z 9 L K N I J R 0 0 (MQ below (QF D z (fun v L' K' N' I' J' R' => v = some (.int (nI n)) ∧ ∃ q, q ∉ L ∧ At L' K' N' q (1602 + 16 * n) 0 ∧ R' q 0 = some (dr R x k) ∧ (∀ j, 0 < j → j < 6 → I' q j = if j = 1 then nI (nn k) else if j = 2 then ka else if j = 3 then li else if j = 4 then fi else se) ∧ J' q 6 = 0 ∧ Lst L' K' N' I' R' (dr R (dr R x k) 3) (320 * (k + 1) + 224) (320 * (k + 1) + 279) (nn k + 1) ∧ (∀ i, i < nn k → shA R' (dr R (dr R x k) 3) i = shA R (dr R (dr R x k) 3) i) ∧ shA R' (dr R (dr R x k) 3) (nn k) = q ∧ Lst L' K' N' I' R' (dr R x 2) 16 39 (n + 1) ∧ (∀ i, i < n → shA R' (dr R x 2) i = shA R (dr R x 2) i) ∧ shA R' (dr R x 2) n = q ∧ Ext L K N I J R L' K' N' I' J' R' (fun b => K b = 16 ∨ K b = 39 ∨ K b = 320 * (k + 1) + 224 ∨ K b = 320 * (k + 1) + 279))) args s (rm_X2_add).cells (rm_X2_add).slots (fun q => z ≤ q)) 30 [(0, .ref x), (1, .int (nI k)), (2, .int ka), (3, .int li), (4, .int fi), (5, .int se)] [.int (mostR ka)] := by
    refine x_istore (lv' := [(6, .int (mostR ka)), (0, .ref x), (1, .int (nI k)), (2, .int ka), (3, .int li), (4, .int fi), (5, .int se)]) hc dX2_add_30 (by decide) rfl ?_
    refine x_iload (j := 5) hc dX2_add_32 rfl ?_
    refine x_iconst (v := 0) hc dX2_add_34 (by decide) ?_
    refine x_iload (j := 0) hc dX2_add_35 rfl ?_
    refine x_callS (As := [.int fi, .int 0, .int (mostR ka)]) (st := []) hc (c_reqRange l D z e0 L K N I J R fi 0 (mostR ka) h3.1 h3.2) gX2_add_X2_requireRange rfl hdS_X2_requireRange ⟨Nat.le_of_ble_eq_true rfl, Nat.le_of_ble_eq_true rfl⟩ rfl rfl ⟨Nat.le_of_ble_eq_true rfl, Nat.le_of_ble_eq_true rfl⟩ (Nat.le_of_ble_eq_true rfl) dX2_add_37 (fun v9 I9 J9 hz9 => ?_)
    obtain ⟨rfl, hI9, hJ9⟩ := hz9
    replace hI9 := hI9.symm
    subst hI9
    replace hJ9 := hJ9.symm
    subst hJ9
    refine x_iload (j := 6) hc dX2_add_40 rfl ?_
    refine x_iconst (v := 0) hc dX2_add_42 (by decide) ?_
    refine x_iload (j := 0) hc dX2_add_43 rfl ?_
    refine x_callS (As := [.int se, .int 0, .int (mostR ka)]) (st := []) hc (c_reqRange l D z e0 L K N I J R se 0 (mostR ka) h4.1 h4.2) gX2_add_X2_requireRange rfl hdS_X2_requireRange ⟨Nat.le_of_ble_eq_true rfl, Nat.le_of_ble_eq_true rfl⟩ rfl rfl ⟨Nat.le_of_ble_eq_true rfl, Nat.le_of_ble_eq_true rfl⟩ (Nat.le_of_ble_eq_true rfl) dX2_add_45 (fun v9 I9 J9 hz9 => ?_)
    obtain ⟨rfl, hI9, hJ9⟩ := hz9
    replace hI9 := hI9.symm
    subst hI9
    replace hJ9 := hJ9.symm
    subst hJ9
    refine x_aload_n (j := 1) hc dX2_add_48 rfl rfl ?_
    refine x_iload_n (j := 2) hc dX2_add_49 rfl rfl ?_
    refine x_callV (C := RX2) (T := TX2) (NN := 5) (ci := 3) (As := [.int (nI k)]) (st := []) hc hx.1 (by omega) (by decide) rfl (c_picOf l D z e0 L K N I J R x k hx.1 hk (hx.2.1 k hk).1) gX2_add_X2_pictureOf rfl hdV_X2_pictureOf ⟨Nat.le_of_ble_eq_true rfl, Nat.le_of_ble_eq_true rfl⟩ rfl rfl ⟨Nat.le_of_ble_eq_true rfl, Nat.le_of_ble_eq_true rfl⟩ (Nat.le_of_ble_eq_true rfl) dX2_add_50 (fun v9 I9 J9 hz9 => ?_)
    obtain ⟨rfl, hI9, hJ9⟩ := hz9
    replace hI9 := hI9.symm
    subst hI9
    replace hJ9 := hJ9.symm
    subst hJ9
    refine x_astore (lv' := [(7, .ref (dr R x k)), (6, .int (mostR ka)), (0, .ref x), (1, .int (nI k)), (2, .int ka), (3, .int li), (4, .int fi), (5, .int se)]) hc dX2_add_53 (by decide) rfl ?_
    refine x_aload_n (j := 2) hc dX2_add_55 rfl rfl ?_
    refine x_aload (j := 0) hc dX2_add_56 rfl ?_
    refine x_iload_n (j := 4) hc dX2_add_58 rfl rfl ?_
    refine x_iload (j := 6) hc dX2_add_59 rfl ?_
    refine x_iload (j := 7) hc dX2_add_61 rfl ?_
    refine x_mmax hc lml_X2_add_63 lst_X2_add_63 lini_X2_add_Math lcd_X2_add_63 (Nat.le_of_ble_eq_true rfl) (Nat.le_of_ble_eq_true rfl) (Nat.le_of_ble_eq_true rfl) (Nat.le_of_ble_eq_true rfl) dX2_add_63 ?_
    refine x_callV (C := RX2) (T := TX2) (NN := 5) (ci := 3) (As := [.ref (dr R x k), .int ka, .int (if fi < se then se else fi)]) (st := []) hc hx.1 (by omega) (by decide) rfl (c_reqRoom l D z e0 L K N I J R x now n nn hx k hk ka (if fi < se then se else fi) h5 h6) gX2_add_X2_requireRoom rfl hdV_X2_requireRoom ⟨Nat.le_of_ble_eq_true rfl, Nat.le_of_ble_eq_true rfl⟩ rfl rfl ⟨Nat.le_of_ble_eq_true rfl, Nat.le_of_ble_eq_true rfl⟩ (Nat.le_of_ble_eq_true rfl) dX2_add_66 (fun v9 I9 J9 hz9 => ?_)
    obtain ⟨rfl, hI9, hJ9⟩ := hz9
    replace hI9 := hI9.symm
    subst hI9
    replace hJ9 := hJ9.symm
    subst hJ9
    refine x_new (C := RX1) (T := TX1) (NN := 7) (ci := 2) hc (1602 + 16 * n) tyX1 tyX1_ok in_X2_add_2 rfl lcl_X2_add_73 lins_X2_add_2 lini_X2_add_2 (by omega) (by decide) dfvX1 ⟨Nat.le_of_ble_eq_true rfl, Nat.le_of_ble_eq_true rfl⟩ dX2_add_69 (fun q L1 K1 N1 I1 J1 R1 n1 => ?_)
    have E1 := n1.ext
    replace rP3 := (congrFun ((E1).r hP0.1 (fun h => h)) 3).trans rP3
    replace rx2 := (congrFun ((E1).r hX.1 (fun h => h)) 2).trans rx2
    have ez1 : n = 0 → R1 (dr R x 2) 1 = some e0 := fun h => (congrFun (E1.r hAL.1.1 (fun h => h)) 1).trans (hz1 h)
    have ez2 : nn k = 0 → R1 (dr R (dr R x k) 3) 1 = some e0 := fun h => (congrFun (E1.r hSL.1.1 (fun h => h)) 1).trans (hz2 h)
    have o2 : ∀ i, i < nn k → shA R1 (dr R (dr R x k) 3) i = shA R (dr R (dr R x k) 3) i := fun i hi => hSL.sh E1 (fun _ _ _ h => h) hi
    have om : ∀ i, i < n → shA R1 (dr R x 2) i = shA R (dr R x 2) i := fun i hi => hAL.sh E1 (fun _ _ _ h => h) hi
    replace hSL := hSL.ext E1 (fun _ _ _ h => h)
    replace hAL := hAL.ext E1 (fun _ _ _ h => h)
    replace hP0 := E1.cell hP0
    replace hX := E1.cell hX
    have hq := n1.2.1
    refine x_dup hc dX2_add_72 rfl ?_
    refine x_aload (j := 0) hc dX2_add_73 rfl ?_
    refine x_aload (j := 0) hc dX2_add_75 rfl ?_
    refine x_getR (C := RX0) (T := TX0) (NN := 15) (ci := 1) (ref := "NetPoints$Picture") hc 3 in_X2_add_1 rfl (by decide) lf_X2_add_75 (fun _ h9 => h9) hP0 (by omega) (by decide) rfl rP3 dX2_add_77 ?_
    refine x_callV (C := RJx4a65c) (T := TJx4a65c) (NN := 3) (ci := 0) (As := []) (st := [.ref (dr R x k), .ref q, .ref q]) hc hSL.1 (by omega) (by decide) rfl (c_size l D z e0 L1 K1 N1 I1 J1 R1 (dr R (dr R x k) 3) (320 * (k + 1) + 224) (nn k) hSL.1 (by omega) hSL.2.2.1) gX2_add_Jx4a65c_size_8abf5 rfl hdV_Jx4a65c_size_8abf5 ⟨Nat.le_of_ble_eq_true rfl, Nat.le_of_ble_eq_true rfl⟩ rfl rfl ⟨Nat.le_of_ble_eq_true rfl, Nat.le_of_ble_eq_true rfl⟩ (Nat.le_of_ble_eq_true rfl) dX2_add_80 (fun v9 I9 J9 hz9 => ?_)
    obtain ⟨rfl, hI9, hJ9⟩ := hz9
    replace hI9 := hI9.symm
    subst hI9
    replace hJ9 := hJ9.symm
    subst hJ9
    refine x_iload_n (j := 4) hc dX2_add_83 rfl rfl ?_
    refine x_iload_n (j := 5) hc dX2_add_84 rfl rfl ?_
    refine x_iload (j := 6) hc dX2_add_85 rfl ?_
    refine x_iload (j := 7) hc dX2_add_87 rfl ?_
    refine x_callIF (b := q) (As := [.ref (dr R x k), .int (nI (nn k)), .int ka, .int li, .int fi, .int se]) (st := [.ref q]) hc (c_shInit l D z e0 L1 K1 N1 I1 J1 R1 q (1602 + 16 * n) hq (by omega) (dr R x k) (nI (nn k)) ka li fi se) gX2_add_X1_init rfl hdS_X1_init ⟨Nat.le_of_ble_eq_true rfl, Nat.le_of_ble_eq_true rfl⟩ rfl lini_X2_add_X1_init lml_X2_add_82 lin_X2_add_X1_init rfl rfl ⟨Nat.le_of_ble_eq_true rfl, Nat.le_of_ble_eq_true rfl⟩ (Nat.le_of_ble_eq_true rfl) dX2_add_89 (fun v9 L9 K9 N9 I9 J9 R9 hz9 => ?_)
    obtain ⟨rfl, hL9, hK9, hN9, hI9, hJ9, hR9⟩ := hz9
    replace hL9 := hL9.symm
    subst hL9
    replace hK9 := hK9.symm
    subst hK9
    replace hN9 := hN9.symm
    subst hN9
    replace hI9 := hI9.symm
    subst hI9
    replace hJ9 := hJ9.symm
    subst hJ9
    replace hR9 := hR9.symm
    subst hR9
    have E2 : Ext L1 K1 N1 I1 J1 R1 L1 K1 N1 (u2 (u2 (u2 (u2 (u2 I1 q 1 (nI (nn k))) q 2 ka) q 3 li) q 4 fi) q 5 se) J1 (u2 R1 q 0 (some (dr R x k))) (fun x => x = q) := Ext.sh
    have vq : ∀ j, 0 < j → j < 6 → (u2 (u2 (u2 (u2 (u2 I1 q 1 (nI (nn k))) q 2 ka) q 3 li) q 4 fi) q 5 se) q j = if j = 1 then nI (nn k) else if j = 2 then ka else if j = 3 then li else if j = 4 then fi else se := fun j g1 g2 => by rcases (show j = 1 ∨ j = 2 ∨ j = 3 ∨ j = 4 ∨ j = 5 by omega) with rfl | rfl | rfl | rfl | rfl <;> simp [u2]
    have rq : (u2 R1 q 0 (some (dr R x k))) q 0 = some (dr R x k) := u2_s
    have jq : J1 q 6 = 0 := congrFun n1.2.2.2.1 6
    replace rP3 := (congrFun ((E2).r hP0.1 (hP0.ne hq (by omega))) 3).trans rP3
    replace rx2 := (congrFun ((E2).r hX.1 (hX.ne hq (by omega))) 2).trans rx2
    replace ez1 := fun h => (congrFun (E2.r hAL.1.1 (hAL.1.ne hq (by omega))) 1).trans (ez1 h)
    replace ez2 := fun h => (congrFun (E2.r hSL.1.1 (hSL.1.ne hq (by omega))) 1).trans (ez2 h)
    have hqK : ∀ a, a ∈ L1 → (K1 a < 1600) → ¬ a = q := fun a _ h e => by rw [e, hq.2.1] at h; omega
    replace o2 := fun i hi => (hSL.sh E2 (fun a ha h => hqK a ha (by omega)) hi).trans (o2 i hi)
    replace om := fun i hi => (hAL.sh E2 (fun a ha h => hqK a ha (by omega)) hi).trans (om i hi)
    replace hSL := hSL.ext E2 (fun a ha h => hqK a ha (by omega))
    replace hAL := hAL.ext E2 (fun a ha h => hqK a ha (by omega))
    have E12 := E1.trans E2 (P3 := fun _ => False) (fun _ _ h => h) (fun a ha e => n1.1 (e ▸ ha))
    generalize hI2 : (u2 (u2 (u2 (u2 (u2 I1 q 1 (nI (nn k))) q 2 ka) q 3 li) q 4 fi) q 5 se) = I2 at *
    generalize hR2 : (u2 R1 q 0 (some (dr R x k))) = R2 at *
    clear hI2 hR2
    refine x_astore (lv' := [(8, .ref q), (7, .ref (dr R x k)), (6, .int (mostR ka)), (0, .ref x), (1, .int (nI k)), (2, .int ka), (3, .int li), (4, .int fi), (5, .int se)]) hc dX2_add_92 (by decide) rfl ?_
    refine x_aload (j := 1) hc dX2_add_94 rfl ?_
    refine x_getR (C := RX0) (T := TX0) (NN := 15) (ci := 1) (ref := "NetPoints$Picture") hc 3 in_X2_add_1 rfl (by decide) lf_X2_add_75 (fun _ h9 => h9) hP0 (by omega) (by decide) rfl rP3 dX2_add_96 ?_
    refine x_aload (j := 0) hc dX2_add_99 rfl ?_
    refine x_callVF (C := RJx4a65c) (T := TJx4a65c) (NN := 3) (ci := 0) (As := [.ref q]) (st := []) hc hSL.1 (by omega) (by decide) rfl (c_listAdd l D z e0 L1 K1 N1 I2 J1 R2 (dr R (dr R x k) 3) (320 * (k + 1) + 224) (320 * (k + 1) + 279) (nn k) hSL hk8 ez2 q (1602 + 16 * n) hq ⟨by omega, by omega⟩) gX2_add_Jx4a65c_add_9ea2d rfl hdV_Jx4a65c_add_9ea2d ⟨Nat.le_of_ble_eq_true rfl, Nat.le_of_ble_eq_true rfl⟩ rfl rfl ⟨Nat.le_of_ble_eq_true rfl, Nat.le_of_ble_eq_true rfl⟩ (Nat.le_of_ble_eq_true rfl) dX2_add_101 (fun v9 L9 K9 N9 I9 J9 R9 hz9 => ?_)
    obtain ⟨rfl, A1⟩ := hz9
    have E3 := A1.2.2.2
    replace rx2 := (congrFun (E3.r hX.1 (fun e => by rw [hX.2.1] at e; omega)) 2).trans rx2
    replace ez1 := fun h => (congrFun (E3.r hAL.1.1 (fun e => by rw [hAL.1.2.1] at e; omega)) 1).trans (ez1 h)
    replace om := fun i hi => (hAL.sh E3 (fun a ha h e => by omega) hi).trans (om i hi)
    replace hAL := hAL.ext E3 (fun a ha h e => by omega)
    replace hX := E3.cell hX
    replace rq := (congrFun (E3.r hq.1 (fun e => by rw [hq.2.1] at e; omega)) 0).trans rq
    replace jq := (congrFun (E3.j hq.1 (fun e => by rw [hq.2.1] at e; omega)) 6).trans jq
    replace vq := fun j g1 g2 => (congrFun (E3.i hq.1 (fun e => by rw [hq.2.1] at e; omega)) j).trans (vq j g1 g2)
    replace hq := E3.cell hq
    obtain ⟨s1, s2, s3, -⟩ := A1
    have E4 := E12.trans E3 (P3 := fun b => K b = 16 ∨ K b = 39 ∨ K b = 320 * (k + 1) + 224 ∨ K b = 320 * (k + 1) + 279) (fun _ _ h => h.elim) (fun a ha h => by rw [(E12 a ha).2.1] at h; omega)
    clear E12 E1 E2 E3
    refine x_pop hc dX2_add_104 rfl ?_
    refine x_aload_n (j := 3) hc dX2_add_105 rfl rfl ?_
    refine x_getR (C := RX2) (T := TX2) (NN := 5) (ci := 3) (ref := "NetPoints") hc 2 in_X2_add_3 rfl (by decide) lf_X2_add_22 (fun _ h9 => h9) hX (by omega) (by decide) rfl rx2 dX2_add_106 ?_
    refine x_aload (j := 0) hc dX2_add_109 rfl ?_
    refine x_callVF (C := RJx4a65c) (T := TJx4a65c) (NN := 3) (ci := 0) (As := [.ref q]) (st := []) hc hAL.1 (by omega) (by decide) rfl (c_listAdd l D z e0 L9 K9 N9 I9 J9 R9 (dr R x 2) 16 39 n hAL h5 ez1 q (1602 + 16 * n) hq ⟨by omega, by omega⟩) gX2_add_Jx4a65c_add_9ea2d rfl hdV_Jx4a65c_add_9ea2d ⟨Nat.le_of_ble_eq_true rfl, Nat.le_of_ble_eq_true rfl⟩ rfl rfl ⟨Nat.le_of_ble_eq_true rfl, Nat.le_of_ble_eq_true rfl⟩ (Nat.le_of_ble_eq_true rfl) dX2_add_111 (fun v9 L9 K9 N9 I9 J9 R9 hz9 => ?_)
    obtain ⟨rfl, A2⟩ := hz9
    have E5 := A2.2.2.2
    replace rx2 := (congrFun (E5.r hX.1 (fun e => by rw [hX.2.1] at e; omega)) 2).trans rx2
    replace rq := (congrFun (E5.r hq.1 (fun e => by rw [hq.2.1] at e; omega)) 0).trans rq
    replace jq := (congrFun (E5.j hq.1 (fun e => by rw [hq.2.1] at e; omega)) 6).trans jq
    replace vq := fun j g1 g2 => (congrFun (E5.i hq.1 (fun e => by rw [hq.2.1] at e; omega)) j).trans (vq j g1 g2)
    have s4 : ∀ i, shA _ (dr R (dr R x k) 3) i = shA _ (dr R (dr R x k) 3) i := fun i => (congrArg (fun b => dr _ b i) (E5.ref s1.1.1 (k := 1) (fun e => by rw [s1.1.2.1] at e; omega))).trans (E5.ref (s1.2.2.2.2.2 (Nat.succ_pos _)).2.1.1 (fun e => by rw [(s1.2.2.2.2.2 (Nat.succ_pos _)).2.1.2.1] at e; omega))
    replace s1 := s1.ext E5 (fun a ha h e => by omega)
    replace hX := E5.cell hX
    replace hq := E5.cell hq
    obtain ⟨m1, m2, m3, -⟩ := A2
    have E6 := E4.trans E5 (P3 := fun b => K b = 16 ∨ K b = 39 ∨ K b = 320 * (k + 1) + 224 ∨ K b = 320 * (k + 1) + 279) (fun _ _ h => h) (fun a ha h => by rw [(E4 a ha).2.1] at h; omega)
    refine x_pop hc dX2_add_114 rfl ?_
    refine x_aload_n (j := 3) hc dX2_add_115 rfl rfl ?_
    refine x_getR (C := RX2) (T := TX2) (NN := 5) (ci := 3) (ref := "NetPoints") hc 2 in_X2_add_3 rfl (by decide) lf_X2_add_22 (fun _ h9 => h9) hX (by omega) (by decide) rfl rx2 dX2_add_116 ?_
    refine x_callV (C := RJx4a65c) (T := TJx4a65c) (NN := 3) (ci := 0) (As := []) (st := []) hc m1.1 (by omega) (by decide) rfl (c_size l D z e0 L9 K9 N9 I9 J9 R9 (dr R x 2) 16 (n + 1) m1.1 (by decide) m1.2.2.1) gX2_add_Jx4a65c_size_8abf5 rfl hdV_Jx4a65c_size_8abf5 ⟨Nat.le_of_ble_eq_true rfl, Nat.le_of_ble_eq_true rfl⟩ rfl rfl ⟨Nat.le_of_ble_eq_true rfl, Nat.le_of_ble_eq_true rfl⟩ (Nat.le_of_ble_eq_true rfl) dX2_add_119 (fun v9 I9 J9 hz9 => ?_)
    obtain ⟨rfl, hI9, hJ9⟩ := hz9
    replace hI9 := hI9.symm
    subst hI9
    replace hJ9 := hJ9.symm
    subst hJ9
    refine x_iconst (v := 1) hc dX2_add_122 (by decide) ?_
    refine x_isub hc dX2_add_123 ?_
    refine x_vali (nI_pred n) ?_
    exact x_iretF hc hr (by decide) (by decide) dX2_add_124 (⟨rfl, q, n1.1, hq, rq, vq, jq, s1, fun i hi => (s4 i).trans ((s2 i hi).trans (o2 i hi)), (s4 (nn k)).trans s3, m1, fun i hi => (m2 i hi).trans (om i hi), m3, E6⟩)
  refine x_iload_n (j := 2) hc dX2_add_17 rfl rfl ?_
  refine x_if_ne (tgt := 27) hc dX2_add_18 (by decide) (fun q1 => ?_) (fun q1 => ?_)
  · refine x_sipush (v := 10000) hc dX2_add_27 (by decide) ?_
    refine x_vali (show (10000 : Int32) = mostR ka from (if_neg q1).symm) ?_
    exact htail
  · refine x_sipush (v := 1000) hc dX2_add_21 (by decide) ?_
    refine x_goto (tgt := 30) hc dX2_add_24 (by decide) ?_
    refine x_vali (show (1000 : Int32) = mostR ka from (if_pos q1).symm) ?_
    exact htail
