/-! Methods with a table of their own. -/
section LW
variable {l : Launch} {D : va_G} {z e0 : Nat} {L : List Nat} {K N : Nat → Nat} {I : Nat → Nat → Int32} {J : Nat → Nat → Int64} {R : Nat → Nat → Option Nat} {cc : ByteArray} {own : String}
theorem mgW_of {y : MethodName} {ws ws' : List Cond} {rm : Room} {maxL : Nat} {ret : Option FieldType} {hh : List (Nat × Nat × Nat × Nat)} {av : List Value} {post : Option Value → (Nat → Nat → Int32) → (Nat → Nat → Int64) → Prop} (hy : plainName y.cls = true) (hw : ws = Cond.codeWith y cc maxL ret hh :: ws') (hown : y.cls = own) (hlen : (lg_sl av).length ≤ maxL)
    (body : ∀ (p : Program) (e : Env) (s : State) (m : MethodId) (args : Array Value) (below : List Frame) (meth : Method) (c : Code), CT p l s m args meth c D z e0 cc maxL own ws → meth.sig.returnType = ret → c.exceptionTable.toList = tableOf hh → XW p l e rm s m args below meth c D z maxL L K N I J R 0 0 (MQ below (QG D z L K N R post) args s rm.cells rm.slots (fun q => z ≤ q)) 0 (lv_args 0 av) []) : MG l y ws rm D z e0 L K N I J R av post := by
  refine va_MetW (cc := cc) (maxL := maxL) (ret := ret) (hh := hh) hy hw ?_
  intro p e s m args below meth c s₁ B hml hv
  obtain ⟨rfl, hev, hz, hP, hD⟩ := hv
  have hts := atoms_spec (ws := ws) B.pre
  have ho : s.vm.findClass own = some m.cls := by rw [← hown]; exact findClass_of_methodNamed B.named
  rw [lg_entry_eq]
  exact body p e s m _ below meth c ⟨⟨B.exec, B.bytes, hml, ho, hts⟩, hev, hz, B.notSynchronized⟩ B.returns (vx_table (x := y) B (hts _ (by rw [hw]; exact List.mem_cons_self))) s.heap [] _ hP hD va_S.rf (lv_entry av hlen)
theorem mfW_of {y : MethodName} {ws ws' : List Cond} {rm : Room} {maxL : Nat} {ret : Option FieldType} {hh : List (Nat × Nat × Nat × Nat)} {av : List Value} {post : Option Value → List Nat → (Nat → Nat) → (Nat → Nat) → (Nat → Nat → Int32) → (Nat → Nat → Int64) → (Nat → Nat → Option Nat) → Prop} (hy : plainName y.cls = true) (hw : ws = Cond.codeWith y cc maxL ret hh :: ws') (hown : y.cls = own) (hlen : (lg_sl av).length ≤ maxL)
    (body : ∀ (p : Program) (e : Env) (s : State) (m : MethodId) (args : Array Value) (below : List Frame) (meth : Method) (c : Code), CT p l s m args meth c D z e0 cc maxL own ws → meth.sig.returnType = ret → c.exceptionTable.toList = tableOf hh → XW p l e rm s m args below meth c D z maxL L K N I J R 0 0 (MQ below (QF D z post) args s rm.cells rm.slots (fun q => z ≤ q)) 0 (lv_args 0 av) []) : MF l y ws rm D z e0 L K N I J R av post := by
  refine va_MetW (cc := cc) (maxL := maxL) (ret := ret) (hh := hh) hy hw ?_
  intro p e s m args below meth c s₁ B hml hv
  obtain ⟨rfl, hev, hz, hP, hD⟩ := hv
  have hts := atoms_spec (ws := ws) B.pre
  have ho : s.vm.findClass own = some m.cls := by rw [← hown]; exact findClass_of_methodNamed B.named
  rw [lg_entry_eq]
  exact body p e s m _ below meth c ⟨⟨B.exec, B.bytes, hml, ho, hts⟩, hev, hz, B.notSynchronized⟩ B.returns (vx_table (x := y) B (hts _ (by rw [hw]; exact List.mem_cons_self))) s.heap [] _ hP hD va_S.rf (lv_entry av hlen)
end LW
section LX
variable {p : Program} {l : Launch} {e : Env} {R0 : Room} {s : State} {m : MethodId} {args : Array Value} {below : List Frame} {meth : Method} {c : Code} {D : va_G} {z e0 nL : Nat} {own : String} {Ts : List Cond} {cc : ByteArray} {L : List Nat} {K N : Nat → Nat} {I : Nat → Nat → Int32} {J : Nat → Nat → Int64} {R : Nat → Nat → Option Nat} {cells slots : Nat} {Q : State → Prop} {pc : Nat} {lv : List (Nat × Value)} {st : List Value}
theorem xx_catch (hc : CT p l s m args meth c D z e0 cc nL own Ts) {E : String} (pre : List ExceptionTableEntry) (x : ExceptionTableEntry) (suf : List ExceptionTableEntry) (hsplit : c.exceptionTable.toList = pre ++ x :: suf) (hpass : ∀ y ∈ pre, y.catchType ≠ 0 ∧ ∃ nm : String, Cond.classLink own y.catchType nm ∈ Ts ∧ va_Nc E nm s) (hx : covers x pc = true) (h0 : x.catchType ≠ 0) (hlink : Cond.classLink own x.catchType E ∈ Ts) (hcast : va_Nw (.castable E E) s)
    (k : ∀ q, XW p l e R0 s m args below meth c D z nL L K N I J R cells slots Q x.handlerPc lv [.ref q]) : XX p l e R0 s m args below meth c D z nL L K N I J R cells slots Q E pc lv st := by
  intro H locs ls ce q h1 h2 h3 h4 h5 h6 h7
  refine vx_catch hc.o pre x suf hsplit (fun y hy => Or.inr ?_) hx h0 (hc.w _ hlink) (va_Nw.use rfl hcast) h5 h6 h7 (k q H locs ls h1 h2 h3 h4)
  obtain ⟨g0, nm, g1, g2⟩ := hpass y hy
  exact ⟨g0, nm, hc.w _ g1, g2⟩
end LX
abbrev rm_L_setRates : Room := { frames := 8, cells := 4, slots := 24, locals := 129 }
set_option maxHeartbeats 4000000 in
set_option maxRecDepth 100000 in
theorem w_setRates (l : Launch) (D : va_G) (z e0 : Nat) (L : List Nat) (K N : Nat → Nat) (I : Nat → Nat → Int32) (J : Nat → Nat → Int64) (R : Nat → Nat → Option Nat) (x  : Nat) (p0 p1 p2 p3 : Int32) (hX : At L K N x 3 0) (post : Option Value → (Nat → Nat → Int32) → (Nat → Nat → Int64) → Prop) (hM : MG l yX2_setRates wsX2_setRates rm_X2_setRates D z e0 L K N I J R [.ref x, .int p0, .int p1, .int p2, .int p3] post) (hV : ∀ v I' J', post v I' J' → v = none) : MG l yL_setRates wsL_setRates rm_L_setRates D z e0 L K N I J R [.ref x, .int p0, .int p1, .int p2, .int p3] (fun v I' J' => v = some (.int 0) ∧ post none I' J') := by
  refine mgW_of (own := RL) (maxL := 6) (ret := (some .int)) (hh := [(0, 9, 12, 13), (0, 9, 16, 15)]) (by decide +kernel) rfl rfl (Nat.le_of_ble_eq_true rfl) ?_
  intro pg ev s mi args below meth c hc hr htab
  refine x_aload_n (j := 0) hc dL_setRates_0 rfl rfl ?_
  refine x_iload_n (j := 1) hc dL_setRates_1 rfl rfl ?_
  refine x_iload_n (j := 2) hc dL_setRates_2 rfl rfl ?_
  refine x_iload_n (j := 3) hc dL_setRates_3 rfl rfl ?_
  refine x_iload (j := 4) hc dL_setRates_4 rfl ?_
  refine x_callV (C := RX2) (T := TX2) (NN := 5) (ci := 3) (As := [.int p0, .int p1, .int p2, .int p3]) (st := []) hc hX (by omega) (by decide) rfl hM gL_setRates_X2_setRates rfl hdV_X2_setRates ⟨Nat.le_of_ble_eq_true rfl, Nat.le_of_ble_eq_true rfl⟩ rfl rfl ⟨Nat.le_of_ble_eq_true rfl, Nat.le_of_ble_eq_true rfl⟩ (Nat.le_of_ble_eq_true rfl) dL_setRates_6 (fun v9 I9 J9 hz9 => ?_)
  have hV9 := hV _ _ _ hz9
  subst hV9
  refine x_goto (tgt := 20) hc dL_setRates_9 (by decide) ?_
  refine x_iconst (v := 0) hc dL_setRates_20 (by decide) ?_
  exact x_iret hc hr (by decide) (by decide) dL_setRates_21 (⟨rfl, hz9⟩)
set_option maxHeartbeats 4000000 in
set_option maxRecDepth 100000 in
theorem w_setRates_1 (l : Launch) (D : va_G) (z e0 : Nat) (L : List Nat) (K N : Nat → Nat) (I : Nat → Nat → Int32) (J : Nat → Nat → Int64) (R : Nat → Nat → Option Nat) (x  : Nat) (p0 p1 p2 p3 : Int32) (hX : At L K N x 3 0) (post : (Nat → Nat → Int32) → (Nat → Nat → Int64) → Prop) (hM : MX l yX2_setRates wsX2_setRates rm_X2_setRates D z e0 L K N I J R [.ref x, .int p0, .int p1, .int p2, .int p3] "java/lang/IndexOutOfBoundsException" post) : MG l yL_setRates wsL_setRates rm_L_setRates D z e0 L K N I J R [.ref x, .int p0, .int p1, .int p2, .int p3] (fun v I' J' => v = some (.int 1) ∧ post I' J') := by
  refine mgW_of (own := RL) (maxL := 6) (ret := (some .int)) (hh := [(0, 9, 12, 13), (0, 9, 16, 15)]) (by decide +kernel) rfl rfl (Nat.le_of_ble_eq_true rfl) ?_
  intro pg ev s mi args below meth c hc hr htab
  refine x_aload_n (j := 0) hc dL_setRates_0 rfl rfl ?_
  refine x_iload_n (j := 1) hc dL_setRates_1 rfl rfl ?_
  refine x_iload_n (j := 2) hc dL_setRates_2 rfl rfl ?_
  refine x_iload_n (j := 3) hc dL_setRates_3 rfl rfl ?_
  refine x_iload (j := 4) hc dL_setRates_4 rfl ?_
  refine x_callVX (C := RX2) (T := TX2) (NN := 5) (ci := 3) (As := [.int p0, .int p1, .int p2, .int p3]) (st := []) hc hX (by omega) (by decide) rfl hM gL_setRates_X2_setRates rfl hdV_X2_setRates ⟨Nat.le_of_ble_eq_true rfl, Nat.le_of_ble_eq_true rfl⟩ rfl rfl ⟨Nat.le_of_ble_eq_true rfl, Nat.le_of_ble_eq_true rfl⟩ (Nat.le_of_ble_eq_true rfl) dL_setRates_6 ?_
  intro I9 J9 hz9
  refine xx_catch hc [] ⟨0, 9, 12, 13⟩ [⟨0, 9, 16, 15⟩] htab (fun y hy => by cases hy) rfl (by decide) lcl_L_setRates_13 hc.ev.2.2.2.2.2.2.1 (fun q => ?_)
  refine x_astore (lv' := [(5, .ref q), (0, .ref x), (1, .int p0), (2, .int p1), (3, .int p2), (4, .int p3)]) hc dL_setRates_12 (by decide) rfl ?_
  refine x_iconst (v := 1) hc dL_setRates_14 (by decide) ?_
  exact x_iret hc hr (by decide) (by decide) dL_setRates_15 (⟨rfl, hz9⟩)
set_option maxHeartbeats 4000000 in
set_option maxRecDepth 100000 in
theorem w_setRates_2 (l : Launch) (D : va_G) (z e0 : Nat) (L : List Nat) (K N : Nat → Nat) (I : Nat → Nat → Int32) (J : Nat → Nat → Int64) (R : Nat → Nat → Option Nat) (x  : Nat) (p0 p1 p2 p3 : Int32) (hX : At L K N x 3 0) (post : (Nat → Nat → Int32) → (Nat → Nat → Int64) → Prop) (hM : MX l yX2_setRates wsX2_setRates rm_X2_setRates D z e0 L K N I J R [.ref x, .int p0, .int p1, .int p2, .int p3] "java/lang/IllegalArgumentException" post) : MG l yL_setRates wsL_setRates rm_L_setRates D z e0 L K N I J R [.ref x, .int p0, .int p1, .int p2, .int p3] (fun v I' J' => v = some (.int 2) ∧ post I' J') := by
  refine mgW_of (own := RL) (maxL := 6) (ret := (some .int)) (hh := [(0, 9, 12, 13), (0, 9, 16, 15)]) (by decide +kernel) rfl rfl (Nat.le_of_ble_eq_true rfl) ?_
  intro pg ev s mi args below meth c hc hr htab
  refine x_aload_n (j := 0) hc dL_setRates_0 rfl rfl ?_
  refine x_iload_n (j := 1) hc dL_setRates_1 rfl rfl ?_
  refine x_iload_n (j := 2) hc dL_setRates_2 rfl rfl ?_
  refine x_iload_n (j := 3) hc dL_setRates_3 rfl rfl ?_
  refine x_iload (j := 4) hc dL_setRates_4 rfl ?_
  refine x_callVX (C := RX2) (T := TX2) (NN := 5) (ci := 3) (As := [.int p0, .int p1, .int p2, .int p3]) (st := []) hc hX (by omega) (by decide) rfl hM gL_setRates_X2_setRates rfl hdV_X2_setRates ⟨Nat.le_of_ble_eq_true rfl, Nat.le_of_ble_eq_true rfl⟩ rfl rfl ⟨Nat.le_of_ble_eq_true rfl, Nat.le_of_ble_eq_true rfl⟩ (Nat.le_of_ble_eq_true rfl) dL_setRates_6 ?_
  intro I9 J9 hz9
  refine xx_catch hc [⟨0, 9, 12, 13⟩] ⟨0, 9, 16, 15⟩ [] htab (fun y hy => by cases List.mem_singleton.mp hy; exact ⟨by decide, _, lcl_L_setRates_13, hc.ev.2.2.2.2.2.2.2.2.2.1⟩) rfl (by decide) lcl_L_setRates_15 hc.ev.2.2.2.2.2.2.2.1 (fun q => ?_)
  refine x_astore (lv' := [(5, .ref q), (0, .ref x), (1, .int p0), (2, .int p1), (3, .int p2), (4, .int p3)]) hc dL_setRates_16 (by decide) rfl ?_
  refine x_iconst (v := 2) hc dL_setRates_18 (by decide) ?_
  exact x_iret hc hr (by decide) (by decide) dL_setRates_19 (⟨rfl, hz9⟩)
abbrev rm_L_setFee : Room := { frames := 8, cells := 3, slots := 18, locals := 129 }
set_option maxHeartbeats 4000000 in
set_option maxRecDepth 100000 in
theorem w_setFee (l : Launch) (D : va_G) (z e0 : Nat) (L : List Nat) (K N : Nat → Nat) (I : Nat → Nat → Int32) (J : Nat → Nat → Int64) (R : Nat → Nat → Option Nat) (x ou : Nat) (p0 p1 p2 : Int32) (hX : At L K N x 3 0) (hO : At L K N ou 70 1) (post : Option Value → (Nat → Nat → Int32) → (Nat → Nat → Int64) → Prop) (hM : MG l yX2_setFee wsX2_setFee rm_X2_setFee D z e0 L K N I J R [.ref x, .int p0, .int p1, .int p2] post) (hV : ∀ v I' J', post v I' J' → ∃ V, v = some (.int V)) : MG l yL_setFee wsL_setFee rm_L_setFee D z e0 L K N I J R [.ref x, .int p0, .int p1, .int p2, .ref ou] (fun v I' J' => v = some (.int 0) ∧ ∃ V J1, post (some (.int V)) I' J1 ∧ J' = u2 J1 ou 0 (Int32.toInt64 V)) := by
  refine mgW_of (own := RL) (maxL := 6) (ret := (some .int)) (hh := [(0, 12, 15, 13), (0, 12, 19, 15)]) (by decide +kernel) rfl rfl (Nat.le_of_ble_eq_true rfl) ?_
  intro pg ev s mi args below meth c hc hr htab
  refine x_aload (j := 4) hc dL_setFee_0 rfl ?_
  refine x_iconst (v := 0) hc dL_setFee_2 (by decide) ?_
  refine x_aload_n (j := 0) hc dL_setFee_3 rfl rfl ?_
  refine x_iload_n (j := 1) hc dL_setFee_4 rfl rfl ?_
  refine x_iload_n (j := 2) hc dL_setFee_5 rfl rfl ?_
  refine x_iload_n (j := 3) hc dL_setFee_6 rfl rfl ?_
  refine x_callV (C := RX2) (T := TX2) (NN := 5) (ci := 3) (As := [.int p0, .int p1, .int p2]) (st := [.int 0, .ref ou]) hc hX (by omega) (by decide) rfl hM gL_setFee_X2_setFee rfl hdV_X2_setFee ⟨Nat.le_of_ble_eq_true rfl, Nat.le_of_ble_eq_true rfl⟩ rfl rfl ⟨Nat.le_of_ble_eq_true rfl, Nat.le_of_ble_eq_true rfl⟩ (Nat.le_of_ble_eq_true rfl) dL_setFee_7 (fun v9 I9 J9 hz9 => ?_)
  obtain ⟨V, hV9⟩ := hV _ _ _ hz9
  subst hV9
  refine x_i2l hc dL_setFee_10 ?_
  refine x_last hc hO (by decide) rfl (by decide) (by omega) dL_setFee_11 ?_
  refine x_goto (tgt := 23) hc dL_setFee_12 (by decide) ?_
  refine x_iconst (v := 0) hc dL_setFee_23 (by decide) ?_
  exact x_iret hc hr (by decide) (by decide) dL_setFee_24 (⟨rfl, V, J9, hz9, rfl⟩)
set_option maxHeartbeats 4000000 in
set_option maxRecDepth 100000 in
theorem w_setFee_1 (l : Launch) (D : va_G) (z e0 : Nat) (L : List Nat) (K N : Nat → Nat) (I : Nat → Nat → Int32) (J : Nat → Nat → Int64) (R : Nat → Nat → Option Nat) (x ou : Nat) (p0 p1 p2 : Int32) (hX : At L K N x 3 0) (hO : At L K N ou 70 1) (post : (Nat → Nat → Int32) → (Nat → Nat → Int64) → Prop) (hM : MX l yX2_setFee wsX2_setFee rm_X2_setFee D z e0 L K N I J R [.ref x, .int p0, .int p1, .int p2] "java/lang/IndexOutOfBoundsException" post) : MG l yL_setFee wsL_setFee rm_L_setFee D z e0 L K N I J R [.ref x, .int p0, .int p1, .int p2, .ref ou] (fun v I' J' => v = some (.int 1) ∧ post I' J') := by
  refine mgW_of (own := RL) (maxL := 6) (ret := (some .int)) (hh := [(0, 12, 15, 13), (0, 12, 19, 15)]) (by decide +kernel) rfl rfl (Nat.le_of_ble_eq_true rfl) ?_
  intro pg ev s mi args below meth c hc hr htab
  refine x_aload (j := 4) hc dL_setFee_0 rfl ?_
  refine x_iconst (v := 0) hc dL_setFee_2 (by decide) ?_
  refine x_aload_n (j := 0) hc dL_setFee_3 rfl rfl ?_
  refine x_iload_n (j := 1) hc dL_setFee_4 rfl rfl ?_
  refine x_iload_n (j := 2) hc dL_setFee_5 rfl rfl ?_
  refine x_iload_n (j := 3) hc dL_setFee_6 rfl rfl ?_
  refine x_callVX (C := RX2) (T := TX2) (NN := 5) (ci := 3) (As := [.int p0, .int p1, .int p2]) (st := [.int 0, .ref ou]) hc hX (by omega) (by decide) rfl hM gL_setFee_X2_setFee rfl hdV_X2_setFee ⟨Nat.le_of_ble_eq_true rfl, Nat.le_of_ble_eq_true rfl⟩ rfl rfl ⟨Nat.le_of_ble_eq_true rfl, Nat.le_of_ble_eq_true rfl⟩ (Nat.le_of_ble_eq_true rfl) dL_setFee_7 ?_
  intro I9 J9 hz9
  refine xx_catch hc [] ⟨0, 12, 15, 13⟩ [⟨0, 12, 19, 15⟩] htab (fun y hy => by cases hy) rfl (by decide) lcl_L_setFee_13 hc.ev.2.2.2.2.2.2.1 (fun q => ?_)
  refine x_astore (lv' := [(5, .ref q), (0, .ref x), (1, .int p0), (2, .int p1), (3, .int p2), (4, .ref ou)]) hc dL_setFee_15 (by decide) rfl ?_
  refine x_iconst (v := 1) hc dL_setFee_17 (by decide) ?_
  exact x_iret hc hr (by decide) (by decide) dL_setFee_18 (⟨rfl, hz9⟩)
set_option maxHeartbeats 4000000 in
set_option maxRecDepth 100000 in
theorem w_setFee_2 (l : Launch) (D : va_G) (z e0 : Nat) (L : List Nat) (K N : Nat → Nat) (I : Nat → Nat → Int32) (J : Nat → Nat → Int64) (R : Nat → Nat → Option Nat) (x ou : Nat) (p0 p1 p2 : Int32) (hX : At L K N x 3 0) (hO : At L K N ou 70 1) (post : (Nat → Nat → Int32) → (Nat → Nat → Int64) → Prop) (hM : MX l yX2_setFee wsX2_setFee rm_X2_setFee D z e0 L K N I J R [.ref x, .int p0, .int p1, .int p2] "java/lang/IllegalArgumentException" post) : MG l yL_setFee wsL_setFee rm_L_setFee D z e0 L K N I J R [.ref x, .int p0, .int p1, .int p2, .ref ou] (fun v I' J' => v = some (.int 2) ∧ post I' J') := by
  refine mgW_of (own := RL) (maxL := 6) (ret := (some .int)) (hh := [(0, 12, 15, 13), (0, 12, 19, 15)]) (by decide +kernel) rfl rfl (Nat.le_of_ble_eq_true rfl) ?_
  intro pg ev s mi args below meth c hc hr htab
  refine x_aload (j := 4) hc dL_setFee_0 rfl ?_
  refine x_iconst (v := 0) hc dL_setFee_2 (by decide) ?_
  refine x_aload_n (j := 0) hc dL_setFee_3 rfl rfl ?_
  refine x_iload_n (j := 1) hc dL_setFee_4 rfl rfl ?_
  refine x_iload_n (j := 2) hc dL_setFee_5 rfl rfl ?_
  refine x_iload_n (j := 3) hc dL_setFee_6 rfl rfl ?_
  refine x_callVX (C := RX2) (T := TX2) (NN := 5) (ci := 3) (As := [.int p0, .int p1, .int p2]) (st := [.int 0, .ref ou]) hc hX (by omega) (by decide) rfl hM gL_setFee_X2_setFee rfl hdV_X2_setFee ⟨Nat.le_of_ble_eq_true rfl, Nat.le_of_ble_eq_true rfl⟩ rfl rfl ⟨Nat.le_of_ble_eq_true rfl, Nat.le_of_ble_eq_true rfl⟩ (Nat.le_of_ble_eq_true rfl) dL_setFee_7 ?_
  intro I9 J9 hz9
  refine xx_catch hc [⟨0, 12, 15, 13⟩] ⟨0, 12, 19, 15⟩ [] htab (fun y hy => by cases List.mem_singleton.mp hy; exact ⟨by decide, _, lcl_L_setFee_13, hc.ev.2.2.2.2.2.2.2.2.2.1⟩) rfl (by decide) lcl_L_setFee_15 hc.ev.2.2.2.2.2.2.2.1 (fun q => ?_)
  refine x_astore (lv' := [(5, .ref q), (0, .ref x), (1, .int p0), (2, .int p1), (3, .int p2), (4, .ref ou)]) hc dL_setFee_19 (by decide) rfl ?_
  refine x_iconst (v := 2) hc dL_setFee_21 (by decide) ?_
  exact x_iret hc hr (by decide) (by decide) dL_setFee_22 (⟨rfl, hz9⟩)
abbrev rm_L_add : Room := { frames := 8, cells := 9, slots := 63, locals := 138 }
set_option maxHeartbeats 4000000 in
set_option maxRecDepth 100000 in
theorem w_add (l : Launch) (D : va_G) (z e0 : Nat) (L : List Nat) (K N : Nat → Nat) (I : Nat → Nat → Int32) (J : Nat → Nat → Int64) (R : Nat → Nat → Option Nat) (x ou : Nat) (p0 p1 p2 p3 p4 : Int32) (hX : At L K N x 3 0) (hO : At L K N ou 70 1) (post : Option Value → List Nat → (Nat → Nat) → (Nat → Nat) → (Nat → Nat → Int32) → (Nat → Nat → Int64) → (Nat → Nat → Option Nat) → Prop) (hM : MF l yX2_add wsX2_add rm_X2_add D z e0 L K N I J R [.ref x, .int p0, .int p1, .int p2, .int p3, .int p4] post) (hV : ∀ v L' K' N' I' J' R', post v L' K' N' I' J' R' → (∃ V, v = some (.int V)) ∧ At L' K' N' ou 70 1) : MF l yL_add wsL_add rm_L_add D z e0 L K N I J R [.ref x, .int p0, .int p1, .int p2, .int p3, .int p4, .ref ou] (fun v L' K' N' I' J' R' => v = some (.int 0) ∧ ∃ V J1, post (some (.int V)) L' K' N' I' J1 R' ∧ J' = u2 J1 ou 0 (Int32.toInt64 V)) := by
  refine mfW_of (own := RL) (maxL := 8) (ret := (some .int)) (hh := [(0, 16, 19, 13), (0, 16, 23, 15), (0, 16, 27, 25)]) (by decide +kernel) rfl rfl (Nat.le_of_ble_eq_true rfl) ?_
  intro pg ev s mi args below meth c hc hr htab
  refine x_aload (j := 6) hc dL_add_0 rfl ?_
  refine x_iconst (v := 0) hc dL_add_2 (by decide) ?_
  refine x_aload_n (j := 0) hc dL_add_3 rfl rfl ?_
  refine x_iload_n (j := 1) hc dL_add_4 rfl rfl ?_
  refine x_iload_n (j := 2) hc dL_add_5 rfl rfl ?_
  refine x_iload_n (j := 3) hc dL_add_6 rfl rfl ?_
  refine x_iload (j := 4) hc dL_add_7 rfl ?_
  refine x_iload (j := 5) hc dL_add_9 rfl ?_
  refine x_callVF (C := RX2) (T := TX2) (NN := 5) (ci := 3) (As := [.int p0, .int p1, .int p2, .int p3, .int p4]) (st := [.int 0, .ref ou]) hc hX (by omega) (by decide) rfl hM gL_add_X2_add rfl hdV_X2_add ⟨Nat.le_of_ble_eq_true rfl, Nat.le_of_ble_eq_true rfl⟩ rfl rfl ⟨Nat.le_of_ble_eq_true rfl, Nat.le_of_ble_eq_true rfl⟩ (Nat.le_of_ble_eq_true rfl) dL_add_11 (fun v9 L9 K9 N9 I9 J9 R9 hz9 => ?_)
  obtain ⟨⟨V, hV9⟩, hO9⟩ := hV _ _ _ _ _ _ _ hz9
  subst hV9
  refine x_i2l hc dL_add_14 ?_
  refine x_last hc hO9 (by decide) rfl (by decide) (by omega) dL_add_15 ?_
  refine x_goto (tgt := 31) hc dL_add_16 (by decide) ?_
  refine x_iconst (v := 0) hc dL_add_31 (by decide) ?_
  exact x_iretF hc hr (by decide) (by decide) dL_add_32 (⟨rfl, V, J9, hz9, rfl⟩)
set_option maxHeartbeats 4000000 in
set_option maxRecDepth 100000 in
theorem w_add_1 (l : Launch) (D : va_G) (z e0 : Nat) (L : List Nat) (K N : Nat → Nat) (I : Nat → Nat → Int32) (J : Nat → Nat → Int64) (R : Nat → Nat → Option Nat) (x ou : Nat) (p0 p1 p2 p3 p4 : Int32) (hX : At L K N x 3 0) (hO : At L K N ou 70 1) (post : (Nat → Nat → Int32) → (Nat → Nat → Int64) → Prop) (hM : MX l yX2_add wsX2_add rm_X2_add D z e0 L K N I J R [.ref x, .int p0, .int p1, .int p2, .int p3, .int p4] "java/lang/IndexOutOfBoundsException" post) : MF l yL_add wsL_add rm_L_add D z e0 L K N I J R [.ref x, .int p0, .int p1, .int p2, .int p3, .int p4, .ref ou] (fun v L' K' N' I' J' R' => v = some (.int 1) ∧ post I' J' ∧ L' = L ∧ K' = K ∧ N' = N ∧ R' = R) := by
  refine mfW_of (own := RL) (maxL := 8) (ret := (some .int)) (hh := [(0, 16, 19, 13), (0, 16, 23, 15), (0, 16, 27, 25)]) (by decide +kernel) rfl rfl (Nat.le_of_ble_eq_true rfl) ?_
  intro pg ev s mi args below meth c hc hr htab
  refine x_aload (j := 6) hc dL_add_0 rfl ?_
  refine x_iconst (v := 0) hc dL_add_2 (by decide) ?_
  refine x_aload_n (j := 0) hc dL_add_3 rfl rfl ?_
  refine x_iload_n (j := 1) hc dL_add_4 rfl rfl ?_
  refine x_iload_n (j := 2) hc dL_add_5 rfl rfl ?_
  refine x_iload_n (j := 3) hc dL_add_6 rfl rfl ?_
  refine x_iload (j := 4) hc dL_add_7 rfl ?_
  refine x_iload (j := 5) hc dL_add_9 rfl ?_
  refine x_callVX (C := RX2) (T := TX2) (NN := 5) (ci := 3) (As := [.int p0, .int p1, .int p2, .int p3, .int p4]) (st := [.int 0, .ref ou]) hc hX (by omega) (by decide) rfl hM gL_add_X2_add rfl hdV_X2_add ⟨Nat.le_of_ble_eq_true rfl, Nat.le_of_ble_eq_true rfl⟩ rfl rfl ⟨Nat.le_of_ble_eq_true rfl, Nat.le_of_ble_eq_true rfl⟩ (Nat.le_of_ble_eq_true rfl) dL_add_11 ?_
  intro I9 J9 hz9
  refine xx_catch hc [] ⟨0, 16, 19, 13⟩ [⟨0, 16, 23, 15⟩, ⟨0, 16, 27, 25⟩] htab (fun y hy => by cases hy) rfl (by decide) lcl_L_add_13 hc.ev.2.2.2.2.2.2.1 (fun q => ?_)
  refine x_astore (lv' := [(7, .ref q), (0, .ref x), (1, .int p0), (2, .int p1), (3, .int p2), (4, .int p3), (5, .int p4), (6, .ref ou)]) hc dL_add_19 (by decide) rfl ?_
  refine x_iconst (v := 1) hc dL_add_21 (by decide) ?_
  exact x_iretF hc hr (by decide) (by decide) dL_add_22 (⟨rfl, hz9, rfl, rfl, rfl, rfl⟩)
set_option maxHeartbeats 4000000 in
set_option maxRecDepth 100000 in
theorem w_add_2 (l : Launch) (D : va_G) (z e0 : Nat) (L : List Nat) (K N : Nat → Nat) (I : Nat → Nat → Int32) (J : Nat → Nat → Int64) (R : Nat → Nat → Option Nat) (x ou : Nat) (p0 p1 p2 p3 p4 : Int32) (hX : At L K N x 3 0) (hO : At L K N ou 70 1) (post : (Nat → Nat → Int32) → (Nat → Nat → Int64) → Prop) (hM : MX l yX2_add wsX2_add rm_X2_add D z e0 L K N I J R [.ref x, .int p0, .int p1, .int p2, .int p3, .int p4] "java/lang/IllegalArgumentException" post) : MF l yL_add wsL_add rm_L_add D z e0 L K N I J R [.ref x, .int p0, .int p1, .int p2, .int p3, .int p4, .ref ou] (fun v L' K' N' I' J' R' => v = some (.int 2) ∧ post I' J' ∧ L' = L ∧ K' = K ∧ N' = N ∧ R' = R) := by
  refine mfW_of (own := RL) (maxL := 8) (ret := (some .int)) (hh := [(0, 16, 19, 13), (0, 16, 23, 15), (0, 16, 27, 25)]) (by decide +kernel) rfl rfl (Nat.le_of_ble_eq_true rfl) ?_
  intro pg ev s mi args below meth c hc hr htab
  refine x_aload (j := 6) hc dL_add_0 rfl ?_
  refine x_iconst (v := 0) hc dL_add_2 (by decide) ?_
  refine x_aload_n (j := 0) hc dL_add_3 rfl rfl ?_
  refine x_iload_n (j := 1) hc dL_add_4 rfl rfl ?_
  refine x_iload_n (j := 2) hc dL_add_5 rfl rfl ?_
  refine x_iload_n (j := 3) hc dL_add_6 rfl rfl ?_
  refine x_iload (j := 4) hc dL_add_7 rfl ?_
  refine x_iload (j := 5) hc dL_add_9 rfl ?_
  refine x_callVX (C := RX2) (T := TX2) (NN := 5) (ci := 3) (As := [.int p0, .int p1, .int p2, .int p3, .int p4]) (st := [.int 0, .ref ou]) hc hX (by omega) (by decide) rfl hM gL_add_X2_add rfl hdV_X2_add ⟨Nat.le_of_ble_eq_true rfl, Nat.le_of_ble_eq_true rfl⟩ rfl rfl ⟨Nat.le_of_ble_eq_true rfl, Nat.le_of_ble_eq_true rfl⟩ (Nat.le_of_ble_eq_true rfl) dL_add_11 ?_
  intro I9 J9 hz9
  refine xx_catch hc [⟨0, 16, 19, 13⟩] ⟨0, 16, 23, 15⟩ [⟨0, 16, 27, 25⟩] htab (fun y hy => by cases List.mem_singleton.mp hy; exact ⟨by decide, _, lcl_L_add_13, hc.ev.2.2.2.2.2.2.2.2.2.1⟩) rfl (by decide) lcl_L_add_15 hc.ev.2.2.2.2.2.2.2.1 (fun q => ?_)
  refine x_astore (lv' := [(7, .ref q), (0, .ref x), (1, .int p0), (2, .int p1), (3, .int p2), (4, .int p3), (5, .int p4), (6, .ref ou)]) hc dL_add_23 (by decide) rfl ?_
  refine x_iconst (v := 2) hc dL_add_25 (by decide) ?_
  exact x_iretF hc hr (by decide) (by decide) dL_add_26 (⟨rfl, hz9, rfl, rfl, rfl, rfl⟩)
set_option maxHeartbeats 4000000 in
set_option maxRecDepth 100000 in
theorem w_add_3 (l : Launch) (D : va_G) (z e0 : Nat) (L : List Nat) (K N : Nat → Nat) (I : Nat → Nat → Int32) (J : Nat → Nat → Int64) (R : Nat → Nat → Option Nat) (x ou : Nat) (p0 p1 p2 p3 p4 : Int32) (hX : At L K N x 3 0) (hO : At L K N ou 70 1) (post : (Nat → Nat → Int32) → (Nat → Nat → Int64) → Prop) (hM : MX l yX2_add wsX2_add rm_X2_add D z e0 L K N I J R [.ref x, .int p0, .int p1, .int p2, .int p3, .int p4] "java/lang/IllegalStateException" post) : MF l yL_add wsL_add rm_L_add D z e0 L K N I J R [.ref x, .int p0, .int p1, .int p2, .int p3, .int p4, .ref ou] (fun v L' K' N' I' J' R' => v = some (.int 3) ∧ post I' J' ∧ L' = L ∧ K' = K ∧ N' = N ∧ R' = R) := by
  refine mfW_of (own := RL) (maxL := 8) (ret := (some .int)) (hh := [(0, 16, 19, 13), (0, 16, 23, 15), (0, 16, 27, 25)]) (by decide +kernel) rfl rfl (Nat.le_of_ble_eq_true rfl) ?_
  intro pg ev s mi args below meth c hc hr htab
  refine x_aload (j := 6) hc dL_add_0 rfl ?_
  refine x_iconst (v := 0) hc dL_add_2 (by decide) ?_
  refine x_aload_n (j := 0) hc dL_add_3 rfl rfl ?_
  refine x_iload_n (j := 1) hc dL_add_4 rfl rfl ?_
  refine x_iload_n (j := 2) hc dL_add_5 rfl rfl ?_
  refine x_iload_n (j := 3) hc dL_add_6 rfl rfl ?_
  refine x_iload (j := 4) hc dL_add_7 rfl ?_
  refine x_iload (j := 5) hc dL_add_9 rfl ?_
  refine x_callVX (C := RX2) (T := TX2) (NN := 5) (ci := 3) (As := [.int p0, .int p1, .int p2, .int p3, .int p4]) (st := [.int 0, .ref ou]) hc hX (by omega) (by decide) rfl hM gL_add_X2_add rfl hdV_X2_add ⟨Nat.le_of_ble_eq_true rfl, Nat.le_of_ble_eq_true rfl⟩ rfl rfl ⟨Nat.le_of_ble_eq_true rfl, Nat.le_of_ble_eq_true rfl⟩ (Nat.le_of_ble_eq_true rfl) dL_add_11 ?_
  intro I9 J9 hz9
  refine xx_catch hc [⟨0, 16, 19, 13⟩, ⟨0, 16, 23, 15⟩] ⟨0, 16, 27, 25⟩ [] htab (fun y hy => (List.mem_cons.mp hy).elim (fun e9 => by rw [e9]; exact ⟨by decide, _, lcl_L_add_13, hc.ev.2.2.2.2.2.2.2.2.2.2.1⟩) (fun h9 => by rw [List.mem_singleton.mp h9]; exact ⟨by decide, _, lcl_L_add_15, hc.ev.2.2.2.2.2.2.2.2.2.2.2.1⟩)) rfl (by decide) lcl_L_add_25 hc.ev.2.2.2.2.2.2.2.2.1 (fun q => ?_)
  refine x_astore (lv' := [(7, .ref q), (0, .ref x), (1, .int p0), (2, .int p1), (3, .int p2), (4, .int p3), (5, .int p4), (6, .ref ou)]) hc dL_add_27 (by decide) rfl ?_
  refine x_iconst (v := 3) hc dL_add_29 (by decide) ?_
  exact x_iretF hc hr (by decide) (by decide) dL_add_30 (⟨rfl, hz9, rfl, rfl, rfl, rfl⟩)
abbrev rm_L_receive : Room := { frames := 8, cells := 3, slots := 18, locals := 128 }
set_option maxHeartbeats 4000000 in
set_option maxRecDepth 100000 in
theorem w_receive (l : Launch) (D : va_G) (z e0 : Nat) (L : List Nat) (K N : Nat → Nat) (I : Nat → Nat → Int32) (J : Nat → Nat → Int64) (R : Nat → Nat → Option Nat) (x ou : Nat) (p0 p1 p2 : Int32) (hX : At L K N x 3 0) (hO : At L K N ou 70 1) (post : Option Value → (Nat → Nat → Int32) → (Nat → Nat → Int64) → Prop) (hM : MG l yX2_receive wsX2_receive rm_X2_receive D z e0 L K N I J R [.ref x, .int p0, .int p1, .int p2] post) (hV : ∀ v I' J', post v I' J' → ∃ V, v = some (.int V)) : MG l yL_receive wsL_receive rm_L_receive D z e0 L K N I J R [.ref x, .int p0, .int p1, .int p2, .ref ou] (fun v I' J' => v = some (.int 0) ∧ ∃ V J1, post (some (.int V)) I' J1 ∧ J' = u2 J1 ou 0 (Int32.toInt64 V)) := by
  refine mgW_of (own := RL) (maxL := 6) (ret := (some .int)) (hh := [(0, 12, 15, 13), (0, 12, 19, 15)]) (by decide +kernel) rfl rfl (Nat.le_of_ble_eq_true rfl) ?_
  intro pg ev s mi args below meth c hc hr htab
  refine x_aload (j := 4) hc dL_receive_0 rfl ?_
  refine x_iconst (v := 0) hc dL_receive_2 (by decide) ?_
  refine x_aload_n (j := 0) hc dL_receive_3 rfl rfl ?_
  refine x_iload_n (j := 1) hc dL_receive_4 rfl rfl ?_
  refine x_iload_n (j := 2) hc dL_receive_5 rfl rfl ?_
  refine x_iload_n (j := 3) hc dL_receive_6 rfl rfl ?_
  refine x_callV (C := RX2) (T := TX2) (NN := 5) (ci := 3) (As := [.int p0, .int p1, .int p2]) (st := [.int 0, .ref ou]) hc hX (by omega) (by decide) rfl hM gL_receive_X2_receive rfl hdV_X2_receive ⟨Nat.le_of_ble_eq_true rfl, Nat.le_of_ble_eq_true rfl⟩ rfl rfl ⟨Nat.le_of_ble_eq_true rfl, Nat.le_of_ble_eq_true rfl⟩ (Nat.le_of_ble_eq_true rfl) dL_receive_7 (fun v9 I9 J9 hz9 => ?_)
  obtain ⟨V, hV9⟩ := hV _ _ _ hz9
  subst hV9
  refine x_i2l hc dL_receive_10 ?_
  refine x_last hc hO (by decide) rfl (by decide) (by omega) dL_receive_11 ?_
  refine x_goto (tgt := 23) hc dL_receive_12 (by decide) ?_
  refine x_iconst (v := 0) hc dL_receive_23 (by decide) ?_
  exact x_iret hc hr (by decide) (by decide) dL_receive_24 (⟨rfl, V, J9, hz9, rfl⟩)
set_option maxHeartbeats 4000000 in
set_option maxRecDepth 100000 in
theorem w_receive_1 (l : Launch) (D : va_G) (z e0 : Nat) (L : List Nat) (K N : Nat → Nat) (I : Nat → Nat → Int32) (J : Nat → Nat → Int64) (R : Nat → Nat → Option Nat) (x ou : Nat) (p0 p1 p2 : Int32) (hX : At L K N x 3 0) (hO : At L K N ou 70 1) (post : (Nat → Nat → Int32) → (Nat → Nat → Int64) → Prop) (hM : MX l yX2_receive wsX2_receive rm_X2_receive D z e0 L K N I J R [.ref x, .int p0, .int p1, .int p2] "java/lang/IndexOutOfBoundsException" post) : MG l yL_receive wsL_receive rm_L_receive D z e0 L K N I J R [.ref x, .int p0, .int p1, .int p2, .ref ou] (fun v I' J' => v = some (.int 1) ∧ post I' J') := by
  refine mgW_of (own := RL) (maxL := 6) (ret := (some .int)) (hh := [(0, 12, 15, 13), (0, 12, 19, 15)]) (by decide +kernel) rfl rfl (Nat.le_of_ble_eq_true rfl) ?_
  intro pg ev s mi args below meth c hc hr htab
  refine x_aload (j := 4) hc dL_receive_0 rfl ?_
  refine x_iconst (v := 0) hc dL_receive_2 (by decide) ?_
  refine x_aload_n (j := 0) hc dL_receive_3 rfl rfl ?_
  refine x_iload_n (j := 1) hc dL_receive_4 rfl rfl ?_
  refine x_iload_n (j := 2) hc dL_receive_5 rfl rfl ?_
  refine x_iload_n (j := 3) hc dL_receive_6 rfl rfl ?_
  refine x_callVX (C := RX2) (T := TX2) (NN := 5) (ci := 3) (As := [.int p0, .int p1, .int p2]) (st := [.int 0, .ref ou]) hc hX (by omega) (by decide) rfl hM gL_receive_X2_receive rfl hdV_X2_receive ⟨Nat.le_of_ble_eq_true rfl, Nat.le_of_ble_eq_true rfl⟩ rfl rfl ⟨Nat.le_of_ble_eq_true rfl, Nat.le_of_ble_eq_true rfl⟩ (Nat.le_of_ble_eq_true rfl) dL_receive_7 ?_
  intro I9 J9 hz9
  refine xx_catch hc [] ⟨0, 12, 15, 13⟩ [⟨0, 12, 19, 15⟩] htab (fun y hy => by cases hy) rfl (by decide) lcl_L_receive_13 hc.ev.2.2.2.2.2.2.1 (fun q => ?_)
  refine x_astore (lv' := [(5, .ref q), (0, .ref x), (1, .int p0), (2, .int p1), (3, .int p2), (4, .ref ou)]) hc dL_receive_15 (by decide) rfl ?_
  refine x_iconst (v := 1) hc dL_receive_17 (by decide) ?_
  exact x_iret hc hr (by decide) (by decide) dL_receive_18 (⟨rfl, hz9⟩)
set_option maxHeartbeats 4000000 in
set_option maxRecDepth 100000 in
theorem w_receive_2 (l : Launch) (D : va_G) (z e0 : Nat) (L : List Nat) (K N : Nat → Nat) (I : Nat → Nat → Int32) (J : Nat → Nat → Int64) (R : Nat → Nat → Option Nat) (x ou : Nat) (p0 p1 p2 : Int32) (hX : At L K N x 3 0) (hO : At L K N ou 70 1) (post : (Nat → Nat → Int32) → (Nat → Nat → Int64) → Prop) (hM : MX l yX2_receive wsX2_receive rm_X2_receive D z e0 L K N I J R [.ref x, .int p0, .int p1, .int p2] "java/lang/IllegalArgumentException" post) : MG l yL_receive wsL_receive rm_L_receive D z e0 L K N I J R [.ref x, .int p0, .int p1, .int p2, .ref ou] (fun v I' J' => v = some (.int 2) ∧ post I' J') := by
  refine mgW_of (own := RL) (maxL := 6) (ret := (some .int)) (hh := [(0, 12, 15, 13), (0, 12, 19, 15)]) (by decide +kernel) rfl rfl (Nat.le_of_ble_eq_true rfl) ?_
  intro pg ev s mi args below meth c hc hr htab
  refine x_aload (j := 4) hc dL_receive_0 rfl ?_
  refine x_iconst (v := 0) hc dL_receive_2 (by decide) ?_
  refine x_aload_n (j := 0) hc dL_receive_3 rfl rfl ?_
  refine x_iload_n (j := 1) hc dL_receive_4 rfl rfl ?_
  refine x_iload_n (j := 2) hc dL_receive_5 rfl rfl ?_
  refine x_iload_n (j := 3) hc dL_receive_6 rfl rfl ?_
  refine x_callVX (C := RX2) (T := TX2) (NN := 5) (ci := 3) (As := [.int p0, .int p1, .int p2]) (st := [.int 0, .ref ou]) hc hX (by omega) (by decide) rfl hM gL_receive_X2_receive rfl hdV_X2_receive ⟨Nat.le_of_ble_eq_true rfl, Nat.le_of_ble_eq_true rfl⟩ rfl rfl ⟨Nat.le_of_ble_eq_true rfl, Nat.le_of_ble_eq_true rfl⟩ (Nat.le_of_ble_eq_true rfl) dL_receive_7 ?_
  intro I9 J9 hz9
  refine xx_catch hc [⟨0, 12, 15, 13⟩] ⟨0, 12, 19, 15⟩ [] htab (fun y hy => by cases List.mem_singleton.mp hy; exact ⟨by decide, _, lcl_L_receive_13, hc.ev.2.2.2.2.2.2.2.2.2.1⟩) rfl (by decide) lcl_L_receive_15 hc.ev.2.2.2.2.2.2.2.1 (fun q => ?_)
  refine x_astore (lv' := [(5, .ref q), (0, .ref x), (1, .int p0), (2, .int p1), (3, .int p2), (4, .ref ou)]) hc dL_receive_19 (by decide) rfl ?_
  refine x_iconst (v := 2) hc dL_receive_21 (by decide) ?_
  exact x_iret hc hr (by decide) (by decide) dL_receive_22 (⟨rfl, hz9⟩)
abbrev rm_L_spend : Room := { frames := 8, cells := 2, slots := 12, locals := 127 }
set_option maxHeartbeats 4000000 in
set_option maxRecDepth 100000 in
theorem w_spend (l : Launch) (D : va_G) (z e0 : Nat) (L : List Nat) (K N : Nat → Nat) (I : Nat → Nat → Int32) (J : Nat → Nat → Int64) (R : Nat → Nat → Option Nat) (x ou : Nat) (p0 p1 : Int32) (hX : At L K N x 3 0) (hO : At L K N ou 70 1) (post : Option Value → (Nat → Nat → Int32) → (Nat → Nat → Int64) → Prop) (hM : MG l yX2_spend wsX2_spend rm_X2_spend D z e0 L K N I J R [.ref x, .int p0, .int p1] post) (hV : ∀ v I' J', post v I' J' → ∃ V, v = some (.int V)) : MG l yL_spend wsL_spend rm_L_spend D z e0 L K N I J R [.ref x, .int p0, .int p1, .ref ou] (fun v I' J' => v = some (.int 0) ∧ ∃ V J1, post (some (.int V)) I' J1 ∧ J' = u2 J1 ou 0 (Int32.toInt64 V)) := by
  refine mgW_of (own := RL) (maxL := 5) (ret := (some .int)) (hh := [(0, 10, 13, 13), (0, 10, 17, 15)]) (by decide +kernel) rfl rfl (Nat.le_of_ble_eq_true rfl) ?_
  intro pg ev s mi args below meth c hc hr htab
  refine x_aload_n (j := 3) hc dL_spend_0 rfl rfl ?_
  refine x_iconst (v := 0) hc dL_spend_1 (by decide) ?_
  refine x_aload_n (j := 0) hc dL_spend_2 rfl rfl ?_
  refine x_iload_n (j := 1) hc dL_spend_3 rfl rfl ?_
  refine x_iload_n (j := 2) hc dL_spend_4 rfl rfl ?_
  refine x_callV (C := RX2) (T := TX2) (NN := 5) (ci := 3) (As := [.int p0, .int p1]) (st := [.int 0, .ref ou]) hc hX (by omega) (by decide) rfl hM gL_spend_X2_spend rfl hdV_X2_spend ⟨Nat.le_of_ble_eq_true rfl, Nat.le_of_ble_eq_true rfl⟩ rfl rfl ⟨Nat.le_of_ble_eq_true rfl, Nat.le_of_ble_eq_true rfl⟩ (Nat.le_of_ble_eq_true rfl) dL_spend_5 (fun v9 I9 J9 hz9 => ?_)
  obtain ⟨V, hV9⟩ := hV _ _ _ hz9
  subst hV9
  refine x_i2l hc dL_spend_8 ?_
  refine x_last hc hO (by decide) rfl (by decide) (by omega) dL_spend_9 ?_
  refine x_goto (tgt := 21) hc dL_spend_10 (by decide) ?_
  refine x_iconst (v := 0) hc dL_spend_21 (by decide) ?_
  exact x_iret hc hr (by decide) (by decide) dL_spend_22 (⟨rfl, V, J9, hz9, rfl⟩)
set_option maxHeartbeats 4000000 in
set_option maxRecDepth 100000 in
theorem w_spend_1 (l : Launch) (D : va_G) (z e0 : Nat) (L : List Nat) (K N : Nat → Nat) (I : Nat → Nat → Int32) (J : Nat → Nat → Int64) (R : Nat → Nat → Option Nat) (x ou : Nat) (p0 p1 : Int32) (hX : At L K N x 3 0) (hO : At L K N ou 70 1) (post : (Nat → Nat → Int32) → (Nat → Nat → Int64) → Prop) (hM : MX l yX2_spend wsX2_spend rm_X2_spend D z e0 L K N I J R [.ref x, .int p0, .int p1] "java/lang/IndexOutOfBoundsException" post) : MG l yL_spend wsL_spend rm_L_spend D z e0 L K N I J R [.ref x, .int p0, .int p1, .ref ou] (fun v I' J' => v = some (.int 1) ∧ post I' J') := by
  refine mgW_of (own := RL) (maxL := 5) (ret := (some .int)) (hh := [(0, 10, 13, 13), (0, 10, 17, 15)]) (by decide +kernel) rfl rfl (Nat.le_of_ble_eq_true rfl) ?_
  intro pg ev s mi args below meth c hc hr htab
  refine x_aload_n (j := 3) hc dL_spend_0 rfl rfl ?_
  refine x_iconst (v := 0) hc dL_spend_1 (by decide) ?_
  refine x_aload_n (j := 0) hc dL_spend_2 rfl rfl ?_
  refine x_iload_n (j := 1) hc dL_spend_3 rfl rfl ?_
  refine x_iload_n (j := 2) hc dL_spend_4 rfl rfl ?_
  refine x_callVX (C := RX2) (T := TX2) (NN := 5) (ci := 3) (As := [.int p0, .int p1]) (st := [.int 0, .ref ou]) hc hX (by omega) (by decide) rfl hM gL_spend_X2_spend rfl hdV_X2_spend ⟨Nat.le_of_ble_eq_true rfl, Nat.le_of_ble_eq_true rfl⟩ rfl rfl ⟨Nat.le_of_ble_eq_true rfl, Nat.le_of_ble_eq_true rfl⟩ (Nat.le_of_ble_eq_true rfl) dL_spend_5 ?_
  intro I9 J9 hz9
  refine xx_catch hc [] ⟨0, 10, 13, 13⟩ [⟨0, 10, 17, 15⟩] htab (fun y hy => by cases hy) rfl (by decide) lcl_L_spend_13 hc.ev.2.2.2.2.2.2.1 (fun q => ?_)
  refine x_astore (lv' := [(4, .ref q), (0, .ref x), (1, .int p0), (2, .int p1), (3, .ref ou)]) hc dL_spend_13 (by decide) rfl ?_
  refine x_iconst (v := 1) hc dL_spend_15 (by decide) ?_
  exact x_iret hc hr (by decide) (by decide) dL_spend_16 (⟨rfl, hz9⟩)
set_option maxHeartbeats 4000000 in
set_option maxRecDepth 100000 in
theorem w_spend_2 (l : Launch) (D : va_G) (z e0 : Nat) (L : List Nat) (K N : Nat → Nat) (I : Nat → Nat → Int32) (J : Nat → Nat → Int64) (R : Nat → Nat → Option Nat) (x ou : Nat) (p0 p1 : Int32) (hX : At L K N x 3 0) (hO : At L K N ou 70 1) (post : (Nat → Nat → Int32) → (Nat → Nat → Int64) → Prop) (hM : MX l yX2_spend wsX2_spend rm_X2_spend D z e0 L K N I J R [.ref x, .int p0, .int p1] "java/lang/IllegalArgumentException" post) : MG l yL_spend wsL_spend rm_L_spend D z e0 L K N I J R [.ref x, .int p0, .int p1, .ref ou] (fun v I' J' => v = some (.int 2) ∧ post I' J') := by
  refine mgW_of (own := RL) (maxL := 5) (ret := (some .int)) (hh := [(0, 10, 13, 13), (0, 10, 17, 15)]) (by decide +kernel) rfl rfl (Nat.le_of_ble_eq_true rfl) ?_
  intro pg ev s mi args below meth c hc hr htab
  refine x_aload_n (j := 3) hc dL_spend_0 rfl rfl ?_
  refine x_iconst (v := 0) hc dL_spend_1 (by decide) ?_
  refine x_aload_n (j := 0) hc dL_spend_2 rfl rfl ?_
  refine x_iload_n (j := 1) hc dL_spend_3 rfl rfl ?_
  refine x_iload_n (j := 2) hc dL_spend_4 rfl rfl ?_
  refine x_callVX (C := RX2) (T := TX2) (NN := 5) (ci := 3) (As := [.int p0, .int p1]) (st := [.int 0, .ref ou]) hc hX (by omega) (by decide) rfl hM gL_spend_X2_spend rfl hdV_X2_spend ⟨Nat.le_of_ble_eq_true rfl, Nat.le_of_ble_eq_true rfl⟩ rfl rfl ⟨Nat.le_of_ble_eq_true rfl, Nat.le_of_ble_eq_true rfl⟩ (Nat.le_of_ble_eq_true rfl) dL_spend_5 ?_
  intro I9 J9 hz9
  refine xx_catch hc [⟨0, 10, 13, 13⟩] ⟨0, 10, 17, 15⟩ [] htab (fun y hy => by cases List.mem_singleton.mp hy; exact ⟨by decide, _, lcl_L_spend_13, hc.ev.2.2.2.2.2.2.2.2.2.1⟩) rfl (by decide) lcl_L_spend_15 hc.ev.2.2.2.2.2.2.2.1 (fun q => ?_)
  refine x_astore (lv' := [(4, .ref q), (0, .ref x), (1, .int p0), (2, .int p1), (3, .ref ou)]) hc dL_spend_17 (by decide) rfl ?_
  refine x_iconst (v := 2) hc dL_spend_19 (by decide) ?_
  exact x_iret hc hr (by decide) (by decide) dL_spend_20 (⟨rfl, hz9⟩)
abbrev rm_L_audit : Room := { frames := 8, cells := 4, slots := 24, locals := 130 }
set_option maxHeartbeats 4000000 in
set_option maxRecDepth 100000 in
theorem w_audit (l : Launch) (D : va_G) (z e0 : Nat) (L : List Nat) (K N : Nat → Nat) (I : Nat → Nat → Int32) (J : Nat → Nat → Int64) (R : Nat → Nat → Option Nat) (x ou : Nat) (p0 p1 p2 p3 : Int32) (hX : At L K N x 3 0) (hO : At L K N ou 70 1) (post : Option Value → (Nat → Nat → Int32) → (Nat → Nat → Int64) → Prop) (hM : MG l yX2_audit wsX2_audit rm_X2_audit D z e0 L K N I J R [.ref x, .int p0, .int p1, .int p2, .int p3] post) (hV : ∀ v I' J', post v I' J' → ∃ V, v = some (.int V)) : MG l yL_audit wsL_audit rm_L_audit D z e0 L K N I J R [.ref x, .int p0, .int p1, .int p2, .int p3, .ref ou] (fun v I' J' => v = some (.int 0) ∧ ∃ V J1, post (some (.int V)) I' J1 ∧ J' = u2 J1 ou 0 (Int32.toInt64 V)) := by
  refine mgW_of (own := RL) (maxL := 7) (ret := (some .int)) (hh := [(0, 14, 17, 13), (0, 14, 21, 15), (0, 14, 25, 25)]) (by decide +kernel) rfl rfl (Nat.le_of_ble_eq_true rfl) ?_
  intro pg ev s mi args below meth c hc hr htab
  refine x_aload (j := 5) hc dL_audit_0 rfl ?_
  refine x_iconst (v := 0) hc dL_audit_2 (by decide) ?_
  refine x_aload_n (j := 0) hc dL_audit_3 rfl rfl ?_
  refine x_iload_n (j := 1) hc dL_audit_4 rfl rfl ?_
  refine x_iload_n (j := 2) hc dL_audit_5 rfl rfl ?_
  refine x_iload_n (j := 3) hc dL_audit_6 rfl rfl ?_
  refine x_iload (j := 4) hc dL_audit_7 rfl ?_
  refine x_callV (C := RX2) (T := TX2) (NN := 5) (ci := 3) (As := [.int p0, .int p1, .int p2, .int p3]) (st := [.int 0, .ref ou]) hc hX (by omega) (by decide) rfl hM gL_audit_X2_audit rfl hdV_X2_audit ⟨Nat.le_of_ble_eq_true rfl, Nat.le_of_ble_eq_true rfl⟩ rfl rfl ⟨Nat.le_of_ble_eq_true rfl, Nat.le_of_ble_eq_true rfl⟩ (Nat.le_of_ble_eq_true rfl) dL_audit_9 (fun v9 I9 J9 hz9 => ?_)
  obtain ⟨V, hV9⟩ := hV _ _ _ hz9
  subst hV9
  refine x_i2l hc dL_audit_12 ?_
  refine x_last hc hO (by decide) rfl (by decide) (by omega) dL_audit_13 ?_
  refine x_goto (tgt := 29) hc dL_audit_14 (by decide) ?_
  refine x_iconst (v := 0) hc dL_audit_29 (by decide) ?_
  exact x_iret hc hr (by decide) (by decide) dL_audit_30 (⟨rfl, V, J9, hz9, rfl⟩)
set_option maxHeartbeats 4000000 in
set_option maxRecDepth 100000 in
theorem w_audit_1 (l : Launch) (D : va_G) (z e0 : Nat) (L : List Nat) (K N : Nat → Nat) (I : Nat → Nat → Int32) (J : Nat → Nat → Int64) (R : Nat → Nat → Option Nat) (x ou : Nat) (p0 p1 p2 p3 : Int32) (hX : At L K N x 3 0) (hO : At L K N ou 70 1) (post : (Nat → Nat → Int32) → (Nat → Nat → Int64) → Prop) (hM : MX l yX2_audit wsX2_audit rm_X2_audit D z e0 L K N I J R [.ref x, .int p0, .int p1, .int p2, .int p3] "java/lang/IndexOutOfBoundsException" post) : MG l yL_audit wsL_audit rm_L_audit D z e0 L K N I J R [.ref x, .int p0, .int p1, .int p2, .int p3, .ref ou] (fun v I' J' => v = some (.int 1) ∧ post I' J') := by
  refine mgW_of (own := RL) (maxL := 7) (ret := (some .int)) (hh := [(0, 14, 17, 13), (0, 14, 21, 15), (0, 14, 25, 25)]) (by decide +kernel) rfl rfl (Nat.le_of_ble_eq_true rfl) ?_
  intro pg ev s mi args below meth c hc hr htab
  refine x_aload (j := 5) hc dL_audit_0 rfl ?_
  refine x_iconst (v := 0) hc dL_audit_2 (by decide) ?_
  refine x_aload_n (j := 0) hc dL_audit_3 rfl rfl ?_
  refine x_iload_n (j := 1) hc dL_audit_4 rfl rfl ?_
  refine x_iload_n (j := 2) hc dL_audit_5 rfl rfl ?_
  refine x_iload_n (j := 3) hc dL_audit_6 rfl rfl ?_
  refine x_iload (j := 4) hc dL_audit_7 rfl ?_
  refine x_callVX (C := RX2) (T := TX2) (NN := 5) (ci := 3) (As := [.int p0, .int p1, .int p2, .int p3]) (st := [.int 0, .ref ou]) hc hX (by omega) (by decide) rfl hM gL_audit_X2_audit rfl hdV_X2_audit ⟨Nat.le_of_ble_eq_true rfl, Nat.le_of_ble_eq_true rfl⟩ rfl rfl ⟨Nat.le_of_ble_eq_true rfl, Nat.le_of_ble_eq_true rfl⟩ (Nat.le_of_ble_eq_true rfl) dL_audit_9 ?_
  intro I9 J9 hz9
  refine xx_catch hc [] ⟨0, 14, 17, 13⟩ [⟨0, 14, 21, 15⟩, ⟨0, 14, 25, 25⟩] htab (fun y hy => by cases hy) rfl (by decide) lcl_L_audit_13 hc.ev.2.2.2.2.2.2.1 (fun q => ?_)
  refine x_astore (lv' := [(6, .ref q), (0, .ref x), (1, .int p0), (2, .int p1), (3, .int p2), (4, .int p3), (5, .ref ou)]) hc dL_audit_17 (by decide) rfl ?_
  refine x_iconst (v := 1) hc dL_audit_19 (by decide) ?_
  exact x_iret hc hr (by decide) (by decide) dL_audit_20 (⟨rfl, hz9⟩)
set_option maxHeartbeats 4000000 in
set_option maxRecDepth 100000 in
theorem w_audit_2 (l : Launch) (D : va_G) (z e0 : Nat) (L : List Nat) (K N : Nat → Nat) (I : Nat → Nat → Int32) (J : Nat → Nat → Int64) (R : Nat → Nat → Option Nat) (x ou : Nat) (p0 p1 p2 p3 : Int32) (hX : At L K N x 3 0) (hO : At L K N ou 70 1) (post : (Nat → Nat → Int32) → (Nat → Nat → Int64) → Prop) (hM : MX l yX2_audit wsX2_audit rm_X2_audit D z e0 L K N I J R [.ref x, .int p0, .int p1, .int p2, .int p3] "java/lang/IllegalArgumentException" post) : MG l yL_audit wsL_audit rm_L_audit D z e0 L K N I J R [.ref x, .int p0, .int p1, .int p2, .int p3, .ref ou] (fun v I' J' => v = some (.int 2) ∧ post I' J') := by
  refine mgW_of (own := RL) (maxL := 7) (ret := (some .int)) (hh := [(0, 14, 17, 13), (0, 14, 21, 15), (0, 14, 25, 25)]) (by decide +kernel) rfl rfl (Nat.le_of_ble_eq_true rfl) ?_
  intro pg ev s mi args below meth c hc hr htab
  refine x_aload (j := 5) hc dL_audit_0 rfl ?_
  refine x_iconst (v := 0) hc dL_audit_2 (by decide) ?_
  refine x_aload_n (j := 0) hc dL_audit_3 rfl rfl ?_
  refine x_iload_n (j := 1) hc dL_audit_4 rfl rfl ?_
  refine x_iload_n (j := 2) hc dL_audit_5 rfl rfl ?_
  refine x_iload_n (j := 3) hc dL_audit_6 rfl rfl ?_
  refine x_iload (j := 4) hc dL_audit_7 rfl ?_
  refine x_callVX (C := RX2) (T := TX2) (NN := 5) (ci := 3) (As := [.int p0, .int p1, .int p2, .int p3]) (st := [.int 0, .ref ou]) hc hX (by omega) (by decide) rfl hM gL_audit_X2_audit rfl hdV_X2_audit ⟨Nat.le_of_ble_eq_true rfl, Nat.le_of_ble_eq_true rfl⟩ rfl rfl ⟨Nat.le_of_ble_eq_true rfl, Nat.le_of_ble_eq_true rfl⟩ (Nat.le_of_ble_eq_true rfl) dL_audit_9 ?_
  intro I9 J9 hz9
  refine xx_catch hc [⟨0, 14, 17, 13⟩] ⟨0, 14, 21, 15⟩ [⟨0, 14, 25, 25⟩] htab (fun y hy => by cases List.mem_singleton.mp hy; exact ⟨by decide, _, lcl_L_audit_13, hc.ev.2.2.2.2.2.2.2.2.2.1⟩) rfl (by decide) lcl_L_audit_15 hc.ev.2.2.2.2.2.2.2.1 (fun q => ?_)
  refine x_astore (lv' := [(6, .ref q), (0, .ref x), (1, .int p0), (2, .int p1), (3, .int p2), (4, .int p3), (5, .ref ou)]) hc dL_audit_21 (by decide) rfl ?_
  refine x_iconst (v := 2) hc dL_audit_23 (by decide) ?_
  exact x_iret hc hr (by decide) (by decide) dL_audit_24 (⟨rfl, hz9⟩)
set_option maxHeartbeats 4000000 in
set_option maxRecDepth 100000 in
theorem w_audit_3 (l : Launch) (D : va_G) (z e0 : Nat) (L : List Nat) (K N : Nat → Nat) (I : Nat → Nat → Int32) (J : Nat → Nat → Int64) (R : Nat → Nat → Option Nat) (x ou : Nat) (p0 p1 p2 p3 : Int32) (hX : At L K N x 3 0) (hO : At L K N ou 70 1) (post : (Nat → Nat → Int32) → (Nat → Nat → Int64) → Prop) (hM : MX l yX2_audit wsX2_audit rm_X2_audit D z e0 L K N I J R [.ref x, .int p0, .int p1, .int p2, .int p3] "java/lang/IllegalStateException" post) : MG l yL_audit wsL_audit rm_L_audit D z e0 L K N I J R [.ref x, .int p0, .int p1, .int p2, .int p3, .ref ou] (fun v I' J' => v = some (.int 3) ∧ post I' J') := by
  refine mgW_of (own := RL) (maxL := 7) (ret := (some .int)) (hh := [(0, 14, 17, 13), (0, 14, 21, 15), (0, 14, 25, 25)]) (by decide +kernel) rfl rfl (Nat.le_of_ble_eq_true rfl) ?_
  intro pg ev s mi args below meth c hc hr htab
  refine x_aload (j := 5) hc dL_audit_0 rfl ?_
  refine x_iconst (v := 0) hc dL_audit_2 (by decide) ?_
  refine x_aload_n (j := 0) hc dL_audit_3 rfl rfl ?_
  refine x_iload_n (j := 1) hc dL_audit_4 rfl rfl ?_
  refine x_iload_n (j := 2) hc dL_audit_5 rfl rfl ?_
  refine x_iload_n (j := 3) hc dL_audit_6 rfl rfl ?_
  refine x_iload (j := 4) hc dL_audit_7 rfl ?_
  refine x_callVX (C := RX2) (T := TX2) (NN := 5) (ci := 3) (As := [.int p0, .int p1, .int p2, .int p3]) (st := [.int 0, .ref ou]) hc hX (by omega) (by decide) rfl hM gL_audit_X2_audit rfl hdV_X2_audit ⟨Nat.le_of_ble_eq_true rfl, Nat.le_of_ble_eq_true rfl⟩ rfl rfl ⟨Nat.le_of_ble_eq_true rfl, Nat.le_of_ble_eq_true rfl⟩ (Nat.le_of_ble_eq_true rfl) dL_audit_9 ?_
  intro I9 J9 hz9
  refine xx_catch hc [⟨0, 14, 17, 13⟩, ⟨0, 14, 21, 15⟩] ⟨0, 14, 25, 25⟩ [] htab (fun y hy => (List.mem_cons.mp hy).elim (fun e9 => by rw [e9]; exact ⟨by decide, _, lcl_L_audit_13, hc.ev.2.2.2.2.2.2.2.2.2.2.1⟩) (fun h9 => by rw [List.mem_singleton.mp h9]; exact ⟨by decide, _, lcl_L_audit_15, hc.ev.2.2.2.2.2.2.2.2.2.2.2.1⟩)) rfl (by decide) lcl_L_audit_25 hc.ev.2.2.2.2.2.2.2.2.1 (fun q => ?_)
  refine x_astore (lv' := [(6, .ref q), (0, .ref x), (1, .int p0), (2, .int p1), (3, .int p2), (4, .int p3), (5, .ref ou)]) hc dL_audit_25 (by decide) rfl ?_
  refine x_iconst (v := 3) hc dL_audit_27 (by decide) ?_
  exact x_iret hc hr (by decide) (by decide) dL_audit_28 (⟨rfl, hz9⟩)
abbrev rm_L_closeYear : Room := { frames := 7, cells := 1, slots := 6, locals := 102 }
set_option maxHeartbeats 4000000 in
set_option maxRecDepth 100000 in
theorem w_closeYear (l : Launch) (D : va_G) (z e0 : Nat) (L : List Nat) (K N : Nat → Nat) (I : Nat → Nat → Int32) (J : Nat → Nat → Int64) (R : Nat → Nat → Option Nat) (x ou : Nat) (hX : At L K N x 3 0) (hO : At L K N ou 70 1) (post : Option Value → (Nat → Nat → Int32) → (Nat → Nat → Int64) → Prop) (hM : MG l yX2_closeYear wsX2_closeYear rm_X2_closeYear D z e0 L K N I J R [.ref x] post) (hV : ∀ v I' J', post v I' J' → ∃ V, v = some (.int V)) : MG l yL_closeYear wsL_closeYear rm_L_closeYear D z e0 L K N I J R [.ref x, .ref ou] (fun v I' J' => v = some (.int 0) ∧ ∃ V J1, post (some (.int V)) I' J1 ∧ J' = u2 J1 ou 0 (Int32.toInt64 V)) := by
  refine mgW_of (own := RL) (maxL := 3) (ret := (some .int)) (hh := [(0, 8, 11, 25)]) (by decide +kernel) rfl rfl (Nat.le_of_ble_eq_true rfl) ?_
  intro pg ev s mi args below meth c hc hr htab
  refine x_aload_n (j := 1) hc dL_closeYear_0 rfl rfl ?_
  refine x_iconst (v := 0) hc dL_closeYear_1 (by decide) ?_
  refine x_aload_n (j := 0) hc dL_closeYear_2 rfl rfl ?_
  refine x_callV (C := RX2) (T := TX2) (NN := 5) (ci := 3) (As := []) (st := [.int 0, .ref ou]) hc hX (by omega) (by decide) rfl hM gL_closeYear_X2_closeYear rfl hdV_X2_closeYear ⟨Nat.le_of_ble_eq_true rfl, Nat.le_of_ble_eq_true rfl⟩ rfl rfl ⟨Nat.le_of_ble_eq_true rfl, Nat.le_of_ble_eq_true rfl⟩ (Nat.le_of_ble_eq_true rfl) dL_closeYear_3 (fun v9 I9 J9 hz9 => ?_)
  obtain ⟨V, hV9⟩ := hV _ _ _ hz9
  subst hV9
  refine x_i2l hc dL_closeYear_6 ?_
  refine x_last hc hO (by decide) rfl (by decide) (by omega) dL_closeYear_7 ?_
  refine x_goto (tgt := 14) hc dL_closeYear_8 (by decide) ?_
  refine x_iconst (v := 0) hc dL_closeYear_14 (by decide) ?_
  exact x_iret hc hr (by decide) (by decide) dL_closeYear_15 (⟨rfl, V, J9, hz9, rfl⟩)
set_option maxHeartbeats 4000000 in
set_option maxRecDepth 100000 in
theorem w_closeYear_1 (l : Launch) (D : va_G) (z e0 : Nat) (L : List Nat) (K N : Nat → Nat) (I : Nat → Nat → Int32) (J : Nat → Nat → Int64) (R : Nat → Nat → Option Nat) (x ou : Nat) (hX : At L K N x 3 0) (hO : At L K N ou 70 1) (post : (Nat → Nat → Int32) → (Nat → Nat → Int64) → Prop) (hM : MX l yX2_closeYear wsX2_closeYear rm_X2_closeYear D z e0 L K N I J R [.ref x] "java/lang/IllegalStateException" post) : MG l yL_closeYear wsL_closeYear rm_L_closeYear D z e0 L K N I J R [.ref x, .ref ou] (fun v I' J' => v = some (.int 1) ∧ post I' J') := by
  refine mgW_of (own := RL) (maxL := 3) (ret := (some .int)) (hh := [(0, 8, 11, 25)]) (by decide +kernel) rfl rfl (Nat.le_of_ble_eq_true rfl) ?_
  intro pg ev s mi args below meth c hc hr htab
  refine x_aload_n (j := 1) hc dL_closeYear_0 rfl rfl ?_
  refine x_iconst (v := 0) hc dL_closeYear_1 (by decide) ?_
  refine x_aload_n (j := 0) hc dL_closeYear_2 rfl rfl ?_
  refine x_callVX (C := RX2) (T := TX2) (NN := 5) (ci := 3) (As := []) (st := [.int 0, .ref ou]) hc hX (by omega) (by decide) rfl hM gL_closeYear_X2_closeYear rfl hdV_X2_closeYear ⟨Nat.le_of_ble_eq_true rfl, Nat.le_of_ble_eq_true rfl⟩ rfl rfl ⟨Nat.le_of_ble_eq_true rfl, Nat.le_of_ble_eq_true rfl⟩ (Nat.le_of_ble_eq_true rfl) dL_closeYear_3 ?_
  intro I9 J9 hz9
  refine xx_catch hc [] ⟨0, 8, 11, 25⟩ [] htab (fun y hy => by cases hy) rfl (by decide) lcl_L_closeYear_25 hc.ev.2.2.2.2.2.2.2.2.1 (fun q => ?_)
  refine x_astore_n (lv' := [(2, .ref q), (0, .ref x), (1, .ref ou)]) hc dL_closeYear_11 rfl (by decide) rfl ?_
  refine x_iconst (v := 1) hc dL_closeYear_12 (by decide) ?_
  exact x_iret hc hr (by decide) (by decide) dL_closeYear_13 (⟨rfl, hz9⟩)
abbrev rm_L_pay : Room := { frames := 8, cells := 2, slots := 12, locals := 189 }
set_option maxHeartbeats 4000000 in
set_option maxRecDepth 100000 in
theorem w_pay (l : Launch) (D : va_G) (z e0 : Nat) (L : List Nat) (K N : Nat → Nat) (I : Nat → Nat → Int32) (J : Nat → Nat → Int64) (R : Nat → Nat → Option Nat) (x ou : Nat) (p0 : Int32) (hX : At L K N x 3 0) (hO : At L K N ou 70 1) (post : Option Value → (Nat → Nat → Int32) → (Nat → Nat → Int64) → Prop) (hM : MG l yX2_pay wsX2_pay rm_X2_pay D z e0 L K N I J R [.ref x, .int p0] post) (hV : ∀ v I' J', post v I' J' → ∃ V, v = some (.int V)) : MG l yL_pay wsL_pay rm_L_pay D z e0 L K N I J R [.ref x, .int p0, .ref ou] (fun v I' J' => v = some (.int 0) ∧ ∃ V J1, post (some (.int V)) I' J1 ∧ J' = u2 J1 ou 0 (Int32.toInt64 V)) := by
  refine mgW_of (own := RL) (maxL := 4) (ret := (some .int)) (hh := [(0, 9, 12, 13), (0, 9, 15, 25)]) (by decide +kernel) rfl rfl (Nat.le_of_ble_eq_true rfl) ?_
  intro pg ev s mi args below meth c hc hr htab
  refine x_aload_n (j := 2) hc dL_pay_0 rfl rfl ?_
  refine x_iconst (v := 0) hc dL_pay_1 (by decide) ?_
  refine x_aload_n (j := 0) hc dL_pay_2 rfl rfl ?_
  refine x_iload_n (j := 1) hc dL_pay_3 rfl rfl ?_
  refine x_callV (C := RX2) (T := TX2) (NN := 5) (ci := 3) (As := [.int p0]) (st := [.int 0, .ref ou]) hc hX (by omega) (by decide) rfl hM gL_pay_X2_pay rfl hdV_X2_pay ⟨Nat.le_of_ble_eq_true rfl, Nat.le_of_ble_eq_true rfl⟩ rfl rfl ⟨Nat.le_of_ble_eq_true rfl, Nat.le_of_ble_eq_true rfl⟩ (Nat.le_of_ble_eq_true rfl) dL_pay_4 (fun v9 I9 J9 hz9 => ?_)
  obtain ⟨V, hV9⟩ := hV _ _ _ hz9
  subst hV9
  refine x_i2l hc dL_pay_7 ?_
  refine x_last hc hO (by decide) rfl (by decide) (by omega) dL_pay_8 ?_
  refine x_goto (tgt := 18) hc dL_pay_9 (by decide) ?_
  refine x_iconst (v := 0) hc dL_pay_18 (by decide) ?_
  exact x_iret hc hr (by decide) (by decide) dL_pay_19 (⟨rfl, V, J9, hz9, rfl⟩)
set_option maxHeartbeats 4000000 in
set_option maxRecDepth 100000 in
theorem w_pay_1 (l : Launch) (D : va_G) (z e0 : Nat) (L : List Nat) (K N : Nat → Nat) (I : Nat → Nat → Int32) (J : Nat → Nat → Int64) (R : Nat → Nat → Option Nat) (x ou : Nat) (p0 : Int32) (hX : At L K N x 3 0) (hO : At L K N ou 70 1) (post : (Nat → Nat → Int32) → (Nat → Nat → Int64) → Prop) (hM : MX l yX2_pay wsX2_pay rm_X2_pay D z e0 L K N I J R [.ref x, .int p0] "java/lang/IndexOutOfBoundsException" post) : MG l yL_pay wsL_pay rm_L_pay D z e0 L K N I J R [.ref x, .int p0, .ref ou] (fun v I' J' => v = some (.int 1) ∧ post I' J') := by
  refine mgW_of (own := RL) (maxL := 4) (ret := (some .int)) (hh := [(0, 9, 12, 13), (0, 9, 15, 25)]) (by decide +kernel) rfl rfl (Nat.le_of_ble_eq_true rfl) ?_
  intro pg ev s mi args below meth c hc hr htab
  refine x_aload_n (j := 2) hc dL_pay_0 rfl rfl ?_
  refine x_iconst (v := 0) hc dL_pay_1 (by decide) ?_
  refine x_aload_n (j := 0) hc dL_pay_2 rfl rfl ?_
  refine x_iload_n (j := 1) hc dL_pay_3 rfl rfl ?_
  refine x_callVX (C := RX2) (T := TX2) (NN := 5) (ci := 3) (As := [.int p0]) (st := [.int 0, .ref ou]) hc hX (by omega) (by decide) rfl hM gL_pay_X2_pay rfl hdV_X2_pay ⟨Nat.le_of_ble_eq_true rfl, Nat.le_of_ble_eq_true rfl⟩ rfl rfl ⟨Nat.le_of_ble_eq_true rfl, Nat.le_of_ble_eq_true rfl⟩ (Nat.le_of_ble_eq_true rfl) dL_pay_4 ?_
  intro I9 J9 hz9
  refine xx_catch hc [] ⟨0, 9, 12, 13⟩ [⟨0, 9, 15, 25⟩] htab (fun y hy => by cases hy) rfl (by decide) lcl_L_pay_13 hc.ev.2.2.2.2.2.2.1 (fun q => ?_)
  refine x_astore_n (lv' := [(3, .ref q), (0, .ref x), (1, .int p0), (2, .ref ou)]) hc dL_pay_12 rfl (by decide) rfl ?_
  refine x_iconst (v := 1) hc dL_pay_13 (by decide) ?_
  exact x_iret hc hr (by decide) (by decide) dL_pay_14 (⟨rfl, hz9⟩)
set_option maxHeartbeats 4000000 in
set_option maxRecDepth 100000 in
theorem w_pay_2 (l : Launch) (D : va_G) (z e0 : Nat) (L : List Nat) (K N : Nat → Nat) (I : Nat → Nat → Int32) (J : Nat → Nat → Int64) (R : Nat → Nat → Option Nat) (x ou : Nat) (p0 : Int32) (hX : At L K N x 3 0) (hO : At L K N ou 70 1) (post : (Nat → Nat → Int32) → (Nat → Nat → Int64) → Prop) (hM : MX l yX2_pay wsX2_pay rm_X2_pay D z e0 L K N I J R [.ref x, .int p0] "java/lang/IllegalStateException" post) : MG l yL_pay wsL_pay rm_L_pay D z e0 L K N I J R [.ref x, .int p0, .ref ou] (fun v I' J' => v = some (.int 2) ∧ post I' J') := by
  refine mgW_of (own := RL) (maxL := 4) (ret := (some .int)) (hh := [(0, 9, 12, 13), (0, 9, 15, 25)]) (by decide +kernel) rfl rfl (Nat.le_of_ble_eq_true rfl) ?_
  intro pg ev s mi args below meth c hc hr htab
  refine x_aload_n (j := 2) hc dL_pay_0 rfl rfl ?_
  refine x_iconst (v := 0) hc dL_pay_1 (by decide) ?_
  refine x_aload_n (j := 0) hc dL_pay_2 rfl rfl ?_
  refine x_iload_n (j := 1) hc dL_pay_3 rfl rfl ?_
  refine x_callVX (C := RX2) (T := TX2) (NN := 5) (ci := 3) (As := [.int p0]) (st := [.int 0, .ref ou]) hc hX (by omega) (by decide) rfl hM gL_pay_X2_pay rfl hdV_X2_pay ⟨Nat.le_of_ble_eq_true rfl, Nat.le_of_ble_eq_true rfl⟩ rfl rfl ⟨Nat.le_of_ble_eq_true rfl, Nat.le_of_ble_eq_true rfl⟩ (Nat.le_of_ble_eq_true rfl) dL_pay_4 ?_
  intro I9 J9 hz9
  refine xx_catch hc [⟨0, 9, 12, 13⟩] ⟨0, 9, 15, 25⟩ [] htab (fun y hy => by cases List.mem_singleton.mp hy; exact ⟨by decide, _, lcl_L_pay_13, hc.ev.2.2.2.2.2.2.2.2.2.2.1⟩) rfl (by decide) lcl_L_pay_25 hc.ev.2.2.2.2.2.2.2.2.1 (fun q => ?_)
  refine x_astore_n (lv' := [(3, .ref q), (0, .ref x), (1, .int p0), (2, .ref ou)]) hc dL_pay_15 rfl (by decide) rfl ?_
  refine x_iconst (v := 2) hc dL_pay_16 (by decide) ?_
  exact x_iret hc hr (by decide) (by decide) dL_pay_17 (⟨rfl, hz9⟩)
abbrev rm_L_gross : Room := { frames := 8, cells := 1, slots := 6, locals := 165 }
set_option maxHeartbeats 4000000 in
set_option maxRecDepth 100000 in
theorem w_gross (l : Launch) (D : va_G) (z e0 : Nat) (L : List Nat) (K N : Nat → Nat) (I : Nat → Nat → Int32) (J : Nat → Nat → Int64) (R : Nat → Nat → Option Nat) (x ou : Nat) (p0 : Int32) (hX : At L K N x 3 0) (hO : At L K N ou 70 1) (post : Option Value → (Nat → Nat → Int32) → (Nat → Nat → Int64) → Prop) (hM : MG l yX2_gross wsX2_gross rm_X2_gross D z e0 L K N I J R [.ref x, .int p0] post) (hV : ∀ v I' J', post v I' J' → ∃ V, v = some (.int V)) : MG l yL_gross wsL_gross rm_L_gross D z e0 L K N I J R [.ref x, .int p0, .ref ou] (fun v I' J' => v = some (.int 0) ∧ ∃ V J1, post (some (.int V)) I' J1 ∧ J' = u2 J1 ou 0 (Int32.toInt64 V)) := by
  refine mgW_of (own := RL) (maxL := 4) (ret := (some .int)) (hh := [(0, 9, 12, 13)]) (by decide +kernel) rfl rfl (Nat.le_of_ble_eq_true rfl) ?_
  intro pg ev s mi args below meth c hc hr htab
  refine x_aload_n (j := 2) hc dL_gross_0 rfl rfl ?_
  refine x_iconst (v := 0) hc dL_gross_1 (by decide) ?_
  refine x_aload_n (j := 0) hc dL_gross_2 rfl rfl ?_
  refine x_iload_n (j := 1) hc dL_gross_3 rfl rfl ?_
  refine x_callV (C := RX2) (T := TX2) (NN := 5) (ci := 3) (As := [.int p0]) (st := [.int 0, .ref ou]) hc hX (by omega) (by decide) rfl hM gL_gross_X2_gross rfl hdV_X2_gross ⟨Nat.le_of_ble_eq_true rfl, Nat.le_of_ble_eq_true rfl⟩ rfl rfl ⟨Nat.le_of_ble_eq_true rfl, Nat.le_of_ble_eq_true rfl⟩ (Nat.le_of_ble_eq_true rfl) dL_gross_4 (fun v9 I9 J9 hz9 => ?_)
  obtain ⟨V, hV9⟩ := hV _ _ _ hz9
  subst hV9
  refine x_i2l hc dL_gross_7 ?_
  refine x_last hc hO (by decide) rfl (by decide) (by omega) dL_gross_8 ?_
  refine x_goto (tgt := 15) hc dL_gross_9 (by decide) ?_
  refine x_iconst (v := 0) hc dL_gross_15 (by decide) ?_
  exact x_iret hc hr (by decide) (by decide) dL_gross_16 (⟨rfl, V, J9, hz9, rfl⟩)
set_option maxHeartbeats 4000000 in
set_option maxRecDepth 100000 in
theorem w_gross_1 (l : Launch) (D : va_G) (z e0 : Nat) (L : List Nat) (K N : Nat → Nat) (I : Nat → Nat → Int32) (J : Nat → Nat → Int64) (R : Nat → Nat → Option Nat) (x ou : Nat) (p0 : Int32) (hX : At L K N x 3 0) (hO : At L K N ou 70 1) (post : (Nat → Nat → Int32) → (Nat → Nat → Int64) → Prop) (hM : MX l yX2_gross wsX2_gross rm_X2_gross D z e0 L K N I J R [.ref x, .int p0] "java/lang/IndexOutOfBoundsException" post) : MG l yL_gross wsL_gross rm_L_gross D z e0 L K N I J R [.ref x, .int p0, .ref ou] (fun v I' J' => v = some (.int 1) ∧ post I' J') := by
  refine mgW_of (own := RL) (maxL := 4) (ret := (some .int)) (hh := [(0, 9, 12, 13)]) (by decide +kernel) rfl rfl (Nat.le_of_ble_eq_true rfl) ?_
  intro pg ev s mi args below meth c hc hr htab
  refine x_aload_n (j := 2) hc dL_gross_0 rfl rfl ?_
  refine x_iconst (v := 0) hc dL_gross_1 (by decide) ?_
  refine x_aload_n (j := 0) hc dL_gross_2 rfl rfl ?_
  refine x_iload_n (j := 1) hc dL_gross_3 rfl rfl ?_
  refine x_callVX (C := RX2) (T := TX2) (NN := 5) (ci := 3) (As := [.int p0]) (st := [.int 0, .ref ou]) hc hX (by omega) (by decide) rfl hM gL_gross_X2_gross rfl hdV_X2_gross ⟨Nat.le_of_ble_eq_true rfl, Nat.le_of_ble_eq_true rfl⟩ rfl rfl ⟨Nat.le_of_ble_eq_true rfl, Nat.le_of_ble_eq_true rfl⟩ (Nat.le_of_ble_eq_true rfl) dL_gross_4 ?_
  intro I9 J9 hz9
  refine xx_catch hc [] ⟨0, 9, 12, 13⟩ [] htab (fun y hy => by cases hy) rfl (by decide) lcl_L_gross_13 hc.ev.2.2.2.2.2.2.1 (fun q => ?_)
  refine x_astore_n (lv' := [(3, .ref q), (0, .ref x), (1, .int p0), (2, .ref ou)]) hc dL_gross_12 rfl (by decide) rfl ?_
  refine x_iconst (v := 1) hc dL_gross_13 (by decide) ?_
  exact x_iret hc hr (by decide) (by decide) dL_gross_14 (⟨rfl, hz9⟩)
abbrev rm_L_adjusted : Room := { frames := 8, cells := 1, slots := 6, locals := 165 }
set_option maxHeartbeats 4000000 in
set_option maxRecDepth 100000 in
theorem w_adjusted (l : Launch) (D : va_G) (z e0 : Nat) (L : List Nat) (K N : Nat → Nat) (I : Nat → Nat → Int32) (J : Nat → Nat → Int64) (R : Nat → Nat → Option Nat) (x ou : Nat) (p0 : Int32) (hX : At L K N x 3 0) (hO : At L K N ou 70 1) (post : Option Value → (Nat → Nat → Int32) → (Nat → Nat → Int64) → Prop) (hM : MG l yX2_adjusted wsX2_adjusted rm_X2_adjusted D z e0 L K N I J R [.ref x, .int p0] post) (hV : ∀ v I' J', post v I' J' → ∃ V, v = some (.int V)) : MG l yL_adjusted wsL_adjusted rm_L_adjusted D z e0 L K N I J R [.ref x, .int p0, .ref ou] (fun v I' J' => v = some (.int 0) ∧ ∃ V J1, post (some (.int V)) I' J1 ∧ J' = u2 J1 ou 0 (Int32.toInt64 V)) := by
  refine mgW_of (own := RL) (maxL := 4) (ret := (some .int)) (hh := [(0, 9, 12, 13)]) (by decide +kernel) rfl rfl (Nat.le_of_ble_eq_true rfl) ?_
  intro pg ev s mi args below meth c hc hr htab
  refine x_aload_n (j := 2) hc dL_adjusted_0 rfl rfl ?_
  refine x_iconst (v := 0) hc dL_adjusted_1 (by decide) ?_
  refine x_aload_n (j := 0) hc dL_adjusted_2 rfl rfl ?_
  refine x_iload_n (j := 1) hc dL_adjusted_3 rfl rfl ?_
  refine x_callV (C := RX2) (T := TX2) (NN := 5) (ci := 3) (As := [.int p0]) (st := [.int 0, .ref ou]) hc hX (by omega) (by decide) rfl hM gL_adjusted_X2_adjusted rfl hdV_X2_adjusted ⟨Nat.le_of_ble_eq_true rfl, Nat.le_of_ble_eq_true rfl⟩ rfl rfl ⟨Nat.le_of_ble_eq_true rfl, Nat.le_of_ble_eq_true rfl⟩ (Nat.le_of_ble_eq_true rfl) dL_adjusted_4 (fun v9 I9 J9 hz9 => ?_)
  obtain ⟨V, hV9⟩ := hV _ _ _ hz9
  subst hV9
  refine x_i2l hc dL_adjusted_7 ?_
  refine x_last hc hO (by decide) rfl (by decide) (by omega) dL_adjusted_8 ?_
  refine x_goto (tgt := 15) hc dL_adjusted_9 (by decide) ?_
  refine x_iconst (v := 0) hc dL_adjusted_15 (by decide) ?_
  exact x_iret hc hr (by decide) (by decide) dL_adjusted_16 (⟨rfl, V, J9, hz9, rfl⟩)
set_option maxHeartbeats 4000000 in
set_option maxRecDepth 100000 in
theorem w_adjusted_1 (l : Launch) (D : va_G) (z e0 : Nat) (L : List Nat) (K N : Nat → Nat) (I : Nat → Nat → Int32) (J : Nat → Nat → Int64) (R : Nat → Nat → Option Nat) (x ou : Nat) (p0 : Int32) (hX : At L K N x 3 0) (hO : At L K N ou 70 1) (post : (Nat → Nat → Int32) → (Nat → Nat → Int64) → Prop) (hM : MX l yX2_adjusted wsX2_adjusted rm_X2_adjusted D z e0 L K N I J R [.ref x, .int p0] "java/lang/IndexOutOfBoundsException" post) : MG l yL_adjusted wsL_adjusted rm_L_adjusted D z e0 L K N I J R [.ref x, .int p0, .ref ou] (fun v I' J' => v = some (.int 1) ∧ post I' J') := by
  refine mgW_of (own := RL) (maxL := 4) (ret := (some .int)) (hh := [(0, 9, 12, 13)]) (by decide +kernel) rfl rfl (Nat.le_of_ble_eq_true rfl) ?_
  intro pg ev s mi args below meth c hc hr htab
  refine x_aload_n (j := 2) hc dL_adjusted_0 rfl rfl ?_
  refine x_iconst (v := 0) hc dL_adjusted_1 (by decide) ?_
  refine x_aload_n (j := 0) hc dL_adjusted_2 rfl rfl ?_
  refine x_iload_n (j := 1) hc dL_adjusted_3 rfl rfl ?_
  refine x_callVX (C := RX2) (T := TX2) (NN := 5) (ci := 3) (As := [.int p0]) (st := [.int 0, .ref ou]) hc hX (by omega) (by decide) rfl hM gL_adjusted_X2_adjusted rfl hdV_X2_adjusted ⟨Nat.le_of_ble_eq_true rfl, Nat.le_of_ble_eq_true rfl⟩ rfl rfl ⟨Nat.le_of_ble_eq_true rfl, Nat.le_of_ble_eq_true rfl⟩ (Nat.le_of_ble_eq_true rfl) dL_adjusted_4 ?_
  intro I9 J9 hz9
  refine xx_catch hc [] ⟨0, 9, 12, 13⟩ [] htab (fun y hy => by cases hy) rfl (by decide) lcl_L_adjusted_13 hc.ev.2.2.2.2.2.2.1 (fun q => ?_)
  refine x_astore_n (lv' := [(3, .ref q), (0, .ref x), (1, .int p0), (2, .ref ou)]) hc dL_adjusted_12 rfl (by decide) rfl ?_
  refine x_iconst (v := 1) hc dL_adjusted_13 (by decide) ?_
  exact x_iret hc hr (by decide) (by decide) dL_adjusted_14 (⟨rfl, hz9⟩)
abbrev rm_L_fees : Room := { frames := 8, cells := 1, slots := 6, locals := 165 }
set_option maxHeartbeats 4000000 in
set_option maxRecDepth 100000 in
theorem w_fees (l : Launch) (D : va_G) (z e0 : Nat) (L : List Nat) (K N : Nat → Nat) (I : Nat → Nat → Int32) (J : Nat → Nat → Int64) (R : Nat → Nat → Option Nat) (x ou : Nat) (p0 : Int32) (hX : At L K N x 3 0) (hO : At L K N ou 70 1) (post : Option Value → (Nat → Nat → Int32) → (Nat → Nat → Int64) → Prop) (hM : MG l yX2_fees wsX2_fees rm_X2_fees D z e0 L K N I J R [.ref x, .int p0] post) (hV : ∀ v I' J', post v I' J' → ∃ V, v = some (.int V)) : MG l yL_fees wsL_fees rm_L_fees D z e0 L K N I J R [.ref x, .int p0, .ref ou] (fun v I' J' => v = some (.int 0) ∧ ∃ V J1, post (some (.int V)) I' J1 ∧ J' = u2 J1 ou 0 (Int32.toInt64 V)) := by
  refine mgW_of (own := RL) (maxL := 4) (ret := (some .int)) (hh := [(0, 9, 12, 13)]) (by decide +kernel) rfl rfl (Nat.le_of_ble_eq_true rfl) ?_
  intro pg ev s mi args below meth c hc hr htab
  refine x_aload_n (j := 2) hc dL_fees_0 rfl rfl ?_
  refine x_iconst (v := 0) hc dL_fees_1 (by decide) ?_
  refine x_aload_n (j := 0) hc dL_fees_2 rfl rfl ?_
  refine x_iload_n (j := 1) hc dL_fees_3 rfl rfl ?_
  refine x_callV (C := RX2) (T := TX2) (NN := 5) (ci := 3) (As := [.int p0]) (st := [.int 0, .ref ou]) hc hX (by omega) (by decide) rfl hM gL_fees_X2_fees rfl hdV_X2_fees ⟨Nat.le_of_ble_eq_true rfl, Nat.le_of_ble_eq_true rfl⟩ rfl rfl ⟨Nat.le_of_ble_eq_true rfl, Nat.le_of_ble_eq_true rfl⟩ (Nat.le_of_ble_eq_true rfl) dL_fees_4 (fun v9 I9 J9 hz9 => ?_)
  obtain ⟨V, hV9⟩ := hV _ _ _ hz9
  subst hV9
  refine x_i2l hc dL_fees_7 ?_
  refine x_last hc hO (by decide) rfl (by decide) (by omega) dL_fees_8 ?_
  refine x_goto (tgt := 15) hc dL_fees_9 (by decide) ?_
  refine x_iconst (v := 0) hc dL_fees_15 (by decide) ?_
  exact x_iret hc hr (by decide) (by decide) dL_fees_16 (⟨rfl, V, J9, hz9, rfl⟩)
set_option maxHeartbeats 4000000 in
set_option maxRecDepth 100000 in
theorem w_fees_1 (l : Launch) (D : va_G) (z e0 : Nat) (L : List Nat) (K N : Nat → Nat) (I : Nat → Nat → Int32) (J : Nat → Nat → Int64) (R : Nat → Nat → Option Nat) (x ou : Nat) (p0 : Int32) (hX : At L K N x 3 0) (hO : At L K N ou 70 1) (post : (Nat → Nat → Int32) → (Nat → Nat → Int64) → Prop) (hM : MX l yX2_fees wsX2_fees rm_X2_fees D z e0 L K N I J R [.ref x, .int p0] "java/lang/IndexOutOfBoundsException" post) : MG l yL_fees wsL_fees rm_L_fees D z e0 L K N I J R [.ref x, .int p0, .ref ou] (fun v I' J' => v = some (.int 1) ∧ post I' J') := by
  refine mgW_of (own := RL) (maxL := 4) (ret := (some .int)) (hh := [(0, 9, 12, 13)]) (by decide +kernel) rfl rfl (Nat.le_of_ble_eq_true rfl) ?_
  intro pg ev s mi args below meth c hc hr htab
  refine x_aload_n (j := 2) hc dL_fees_0 rfl rfl ?_
  refine x_iconst (v := 0) hc dL_fees_1 (by decide) ?_
  refine x_aload_n (j := 0) hc dL_fees_2 rfl rfl ?_
  refine x_iload_n (j := 1) hc dL_fees_3 rfl rfl ?_
  refine x_callVX (C := RX2) (T := TX2) (NN := 5) (ci := 3) (As := [.int p0]) (st := [.int 0, .ref ou]) hc hX (by omega) (by decide) rfl hM gL_fees_X2_fees rfl hdV_X2_fees ⟨Nat.le_of_ble_eq_true rfl, Nat.le_of_ble_eq_true rfl⟩ rfl rfl ⟨Nat.le_of_ble_eq_true rfl, Nat.le_of_ble_eq_true rfl⟩ (Nat.le_of_ble_eq_true rfl) dL_fees_4 ?_
  intro I9 J9 hz9
  refine xx_catch hc [] ⟨0, 9, 12, 13⟩ [] htab (fun y hy => by cases hy) rfl (by decide) lcl_L_fees_13 hc.ev.2.2.2.2.2.2.1 (fun q => ?_)
  refine x_astore_n (lv' := [(3, .ref q), (0, .ref x), (1, .int p0), (2, .ref ou)]) hc dL_fees_12 rfl (by decide) rfl ?_
  refine x_iconst (v := 1) hc dL_fees_13 (by decide) ?_
  exact x_iret hc hr (by decide) (by decide) dL_fees_14 (⟨rfl, hz9⟩)
abbrev rm_L_balance : Room := { frames := 8, cells := 2, slots := 12, locals := 166 }
set_option maxHeartbeats 4000000 in
set_option maxRecDepth 100000 in
theorem w_balance (l : Launch) (D : va_G) (z e0 : Nat) (L : List Nat) (K N : Nat → Nat) (I : Nat → Nat → Int32) (J : Nat → Nat → Int64) (R : Nat → Nat → Option Nat) (x ou : Nat) (p0 p1 : Int32) (hX : At L K N x 3 0) (hO : At L K N ou 70 1) (post : Option Value → (Nat → Nat → Int32) → (Nat → Nat → Int64) → Prop) (hM : MG l yX2_balance wsX2_balance rm_X2_balance D z e0 L K N I J R [.ref x, .int p0, .int p1] post) (hV : ∀ v I' J', post v I' J' → ∃ V, v = some (.int V)) : MG l yL_balance wsL_balance rm_L_balance D z e0 L K N I J R [.ref x, .int p0, .int p1, .ref ou] (fun v I' J' => v = some (.int 0) ∧ ∃ V J1, post (some (.int V)) I' J1 ∧ J' = u2 J1 ou 0 (Int32.toInt64 V)) := by
  refine mgW_of (own := RL) (maxL := 5) (ret := (some .int)) (hh := [(0, 10, 13, 13), (0, 10, 17, 15)]) (by decide +kernel) rfl rfl (Nat.le_of_ble_eq_true rfl) ?_
  intro pg ev s mi args below meth c hc hr htab
  refine x_aload_n (j := 3) hc dL_balance_0 rfl rfl ?_
  refine x_iconst (v := 0) hc dL_balance_1 (by decide) ?_
  refine x_aload_n (j := 0) hc dL_balance_2 rfl rfl ?_
  refine x_iload_n (j := 1) hc dL_balance_3 rfl rfl ?_
  refine x_iload_n (j := 2) hc dL_balance_4 rfl rfl ?_
  refine x_callV (C := RX2) (T := TX2) (NN := 5) (ci := 3) (As := [.int p0, .int p1]) (st := [.int 0, .ref ou]) hc hX (by omega) (by decide) rfl hM gL_balance_X2_balance rfl hdV_X2_balance ⟨Nat.le_of_ble_eq_true rfl, Nat.le_of_ble_eq_true rfl⟩ rfl rfl ⟨Nat.le_of_ble_eq_true rfl, Nat.le_of_ble_eq_true rfl⟩ (Nat.le_of_ble_eq_true rfl) dL_balance_5 (fun v9 I9 J9 hz9 => ?_)
  obtain ⟨V, hV9⟩ := hV _ _ _ hz9
  subst hV9
  refine x_i2l hc dL_balance_8 ?_
  refine x_last hc hO (by decide) rfl (by decide) (by omega) dL_balance_9 ?_
  refine x_goto (tgt := 21) hc dL_balance_10 (by decide) ?_
  refine x_iconst (v := 0) hc dL_balance_21 (by decide) ?_
  exact x_iret hc hr (by decide) (by decide) dL_balance_22 (⟨rfl, V, J9, hz9, rfl⟩)
set_option maxHeartbeats 4000000 in
set_option maxRecDepth 100000 in
theorem w_balance_1 (l : Launch) (D : va_G) (z e0 : Nat) (L : List Nat) (K N : Nat → Nat) (I : Nat → Nat → Int32) (J : Nat → Nat → Int64) (R : Nat → Nat → Option Nat) (x ou : Nat) (p0 p1 : Int32) (hX : At L K N x 3 0) (hO : At L K N ou 70 1) (post : (Nat → Nat → Int32) → (Nat → Nat → Int64) → Prop) (hM : MX l yX2_balance wsX2_balance rm_X2_balance D z e0 L K N I J R [.ref x, .int p0, .int p1] "java/lang/IndexOutOfBoundsException" post) : MG l yL_balance wsL_balance rm_L_balance D z e0 L K N I J R [.ref x, .int p0, .int p1, .ref ou] (fun v I' J' => v = some (.int 1) ∧ post I' J') := by
  refine mgW_of (own := RL) (maxL := 5) (ret := (some .int)) (hh := [(0, 10, 13, 13), (0, 10, 17, 15)]) (by decide +kernel) rfl rfl (Nat.le_of_ble_eq_true rfl) ?_
  intro pg ev s mi args below meth c hc hr htab
  refine x_aload_n (j := 3) hc dL_balance_0 rfl rfl ?_
  refine x_iconst (v := 0) hc dL_balance_1 (by decide) ?_
  refine x_aload_n (j := 0) hc dL_balance_2 rfl rfl ?_
  refine x_iload_n (j := 1) hc dL_balance_3 rfl rfl ?_
  refine x_iload_n (j := 2) hc dL_balance_4 rfl rfl ?_
  refine x_callVX (C := RX2) (T := TX2) (NN := 5) (ci := 3) (As := [.int p0, .int p1]) (st := [.int 0, .ref ou]) hc hX (by omega) (by decide) rfl hM gL_balance_X2_balance rfl hdV_X2_balance ⟨Nat.le_of_ble_eq_true rfl, Nat.le_of_ble_eq_true rfl⟩ rfl rfl ⟨Nat.le_of_ble_eq_true rfl, Nat.le_of_ble_eq_true rfl⟩ (Nat.le_of_ble_eq_true rfl) dL_balance_5 ?_
  intro I9 J9 hz9
  refine xx_catch hc [] ⟨0, 10, 13, 13⟩ [⟨0, 10, 17, 15⟩] htab (fun y hy => by cases hy) rfl (by decide) lcl_L_balance_13 hc.ev.2.2.2.2.2.2.1 (fun q => ?_)
  refine x_astore (lv' := [(4, .ref q), (0, .ref x), (1, .int p0), (2, .int p1), (3, .ref ou)]) hc dL_balance_13 (by decide) rfl ?_
  refine x_iconst (v := 1) hc dL_balance_15 (by decide) ?_
  exact x_iret hc hr (by decide) (by decide) dL_balance_16 (⟨rfl, hz9⟩)
set_option maxHeartbeats 4000000 in
set_option maxRecDepth 100000 in
theorem w_balance_2 (l : Launch) (D : va_G) (z e0 : Nat) (L : List Nat) (K N : Nat → Nat) (I : Nat → Nat → Int32) (J : Nat → Nat → Int64) (R : Nat → Nat → Option Nat) (x ou : Nat) (p0 p1 : Int32) (hX : At L K N x 3 0) (hO : At L K N ou 70 1) (post : (Nat → Nat → Int32) → (Nat → Nat → Int64) → Prop) (hM : MX l yX2_balance wsX2_balance rm_X2_balance D z e0 L K N I J R [.ref x, .int p0, .int p1] "java/lang/IllegalArgumentException" post) : MG l yL_balance wsL_balance rm_L_balance D z e0 L K N I J R [.ref x, .int p0, .int p1, .ref ou] (fun v I' J' => v = some (.int 2) ∧ post I' J') := by
  refine mgW_of (own := RL) (maxL := 5) (ret := (some .int)) (hh := [(0, 10, 13, 13), (0, 10, 17, 15)]) (by decide +kernel) rfl rfl (Nat.le_of_ble_eq_true rfl) ?_
  intro pg ev s mi args below meth c hc hr htab
  refine x_aload_n (j := 3) hc dL_balance_0 rfl rfl ?_
  refine x_iconst (v := 0) hc dL_balance_1 (by decide) ?_
  refine x_aload_n (j := 0) hc dL_balance_2 rfl rfl ?_
  refine x_iload_n (j := 1) hc dL_balance_3 rfl rfl ?_
  refine x_iload_n (j := 2) hc dL_balance_4 rfl rfl ?_
  refine x_callVX (C := RX2) (T := TX2) (NN := 5) (ci := 3) (As := [.int p0, .int p1]) (st := [.int 0, .ref ou]) hc hX (by omega) (by decide) rfl hM gL_balance_X2_balance rfl hdV_X2_balance ⟨Nat.le_of_ble_eq_true rfl, Nat.le_of_ble_eq_true rfl⟩ rfl rfl ⟨Nat.le_of_ble_eq_true rfl, Nat.le_of_ble_eq_true rfl⟩ (Nat.le_of_ble_eq_true rfl) dL_balance_5 ?_
  intro I9 J9 hz9
  refine xx_catch hc [⟨0, 10, 13, 13⟩] ⟨0, 10, 17, 15⟩ [] htab (fun y hy => by cases List.mem_singleton.mp hy; exact ⟨by decide, _, lcl_L_balance_13, hc.ev.2.2.2.2.2.2.2.2.2.1⟩) rfl (by decide) lcl_L_balance_15 hc.ev.2.2.2.2.2.2.2.1 (fun q => ?_)
  refine x_astore (lv' := [(4, .ref q), (0, .ref x), (1, .int p0), (2, .int p1), (3, .ref ou)]) hc dL_balance_17 (by decide) rfl ?_
  refine x_iconst (v := 2) hc dL_balance_19 (by decide) ?_
  exact x_iret hc hr (by decide) (by decide) dL_balance_20 (⟨rfl, hz9⟩)
abbrev rm_L_profit : Room := { frames := 8, cells := 2, slots := 12, locals := 166 }
set_option maxHeartbeats 4000000 in
set_option maxRecDepth 100000 in
theorem w_profit (l : Launch) (D : va_G) (z e0 : Nat) (L : List Nat) (K N : Nat → Nat) (I : Nat → Nat → Int32) (J : Nat → Nat → Int64) (R : Nat → Nat → Option Nat) (x ou : Nat) (p0 p1 : Int32) (hX : At L K N x 3 0) (hO : At L K N ou 70 1) (post : Option Value → (Nat → Nat → Int32) → (Nat → Nat → Int64) → Prop) (hM : MG l yX2_profit wsX2_profit rm_X2_profit D z e0 L K N I J R [.ref x, .int p0, .int p1] post) (hV : ∀ v I' J', post v I' J' → ∃ V, v = some (.int V)) : MG l yL_profit wsL_profit rm_L_profit D z e0 L K N I J R [.ref x, .int p0, .int p1, .ref ou] (fun v I' J' => v = some (.int 0) ∧ ∃ V J1, post (some (.int V)) I' J1 ∧ J' = u2 J1 ou 0 (Int32.toInt64 V)) := by
  refine mgW_of (own := RL) (maxL := 5) (ret := (some .int)) (hh := [(0, 10, 13, 13), (0, 10, 17, 15)]) (by decide +kernel) rfl rfl (Nat.le_of_ble_eq_true rfl) ?_
  intro pg ev s mi args below meth c hc hr htab
  refine x_aload_n (j := 3) hc dL_profit_0 rfl rfl ?_
  refine x_iconst (v := 0) hc dL_profit_1 (by decide) ?_
  refine x_aload_n (j := 0) hc dL_profit_2 rfl rfl ?_
  refine x_iload_n (j := 1) hc dL_profit_3 rfl rfl ?_
  refine x_iload_n (j := 2) hc dL_profit_4 rfl rfl ?_
  refine x_callV (C := RX2) (T := TX2) (NN := 5) (ci := 3) (As := [.int p0, .int p1]) (st := [.int 0, .ref ou]) hc hX (by omega) (by decide) rfl hM gL_profit_X2_profit rfl hdV_X2_profit ⟨Nat.le_of_ble_eq_true rfl, Nat.le_of_ble_eq_true rfl⟩ rfl rfl ⟨Nat.le_of_ble_eq_true rfl, Nat.le_of_ble_eq_true rfl⟩ (Nat.le_of_ble_eq_true rfl) dL_profit_5 (fun v9 I9 J9 hz9 => ?_)
  obtain ⟨V, hV9⟩ := hV _ _ _ hz9
  subst hV9
  refine x_i2l hc dL_profit_8 ?_
  refine x_last hc hO (by decide) rfl (by decide) (by omega) dL_profit_9 ?_
  refine x_goto (tgt := 21) hc dL_profit_10 (by decide) ?_
  refine x_iconst (v := 0) hc dL_profit_21 (by decide) ?_
  exact x_iret hc hr (by decide) (by decide) dL_profit_22 (⟨rfl, V, J9, hz9, rfl⟩)
set_option maxHeartbeats 4000000 in
set_option maxRecDepth 100000 in
theorem w_profit_1 (l : Launch) (D : va_G) (z e0 : Nat) (L : List Nat) (K N : Nat → Nat) (I : Nat → Nat → Int32) (J : Nat → Nat → Int64) (R : Nat → Nat → Option Nat) (x ou : Nat) (p0 p1 : Int32) (hX : At L K N x 3 0) (hO : At L K N ou 70 1) (post : (Nat → Nat → Int32) → (Nat → Nat → Int64) → Prop) (hM : MX l yX2_profit wsX2_profit rm_X2_profit D z e0 L K N I J R [.ref x, .int p0, .int p1] "java/lang/IndexOutOfBoundsException" post) : MG l yL_profit wsL_profit rm_L_profit D z e0 L K N I J R [.ref x, .int p0, .int p1, .ref ou] (fun v I' J' => v = some (.int 1) ∧ post I' J') := by
  refine mgW_of (own := RL) (maxL := 5) (ret := (some .int)) (hh := [(0, 10, 13, 13), (0, 10, 17, 15)]) (by decide +kernel) rfl rfl (Nat.le_of_ble_eq_true rfl) ?_
  intro pg ev s mi args below meth c hc hr htab
  refine x_aload_n (j := 3) hc dL_profit_0 rfl rfl ?_
  refine x_iconst (v := 0) hc dL_profit_1 (by decide) ?_
  refine x_aload_n (j := 0) hc dL_profit_2 rfl rfl ?_
  refine x_iload_n (j := 1) hc dL_profit_3 rfl rfl ?_
  refine x_iload_n (j := 2) hc dL_profit_4 rfl rfl ?_
  refine x_callVX (C := RX2) (T := TX2) (NN := 5) (ci := 3) (As := [.int p0, .int p1]) (st := [.int 0, .ref ou]) hc hX (by omega) (by decide) rfl hM gL_profit_X2_profit rfl hdV_X2_profit ⟨Nat.le_of_ble_eq_true rfl, Nat.le_of_ble_eq_true rfl⟩ rfl rfl ⟨Nat.le_of_ble_eq_true rfl, Nat.le_of_ble_eq_true rfl⟩ (Nat.le_of_ble_eq_true rfl) dL_profit_5 ?_
  intro I9 J9 hz9
  refine xx_catch hc [] ⟨0, 10, 13, 13⟩ [⟨0, 10, 17, 15⟩] htab (fun y hy => by cases hy) rfl (by decide) lcl_L_profit_13 hc.ev.2.2.2.2.2.2.1 (fun q => ?_)
  refine x_astore (lv' := [(4, .ref q), (0, .ref x), (1, .int p0), (2, .int p1), (3, .ref ou)]) hc dL_profit_13 (by decide) rfl ?_
  refine x_iconst (v := 1) hc dL_profit_15 (by decide) ?_
  exact x_iret hc hr (by decide) (by decide) dL_profit_16 (⟨rfl, hz9⟩)
set_option maxHeartbeats 4000000 in
set_option maxRecDepth 100000 in
theorem w_profit_2 (l : Launch) (D : va_G) (z e0 : Nat) (L : List Nat) (K N : Nat → Nat) (I : Nat → Nat → Int32) (J : Nat → Nat → Int64) (R : Nat → Nat → Option Nat) (x ou : Nat) (p0 p1 : Int32) (hX : At L K N x 3 0) (hO : At L K N ou 70 1) (post : (Nat → Nat → Int32) → (Nat → Nat → Int64) → Prop) (hM : MX l yX2_profit wsX2_profit rm_X2_profit D z e0 L K N I J R [.ref x, .int p0, .int p1] "java/lang/IllegalArgumentException" post) : MG l yL_profit wsL_profit rm_L_profit D z e0 L K N I J R [.ref x, .int p0, .int p1, .ref ou] (fun v I' J' => v = some (.int 2) ∧ post I' J') := by
  refine mgW_of (own := RL) (maxL := 5) (ret := (some .int)) (hh := [(0, 10, 13, 13), (0, 10, 17, 15)]) (by decide +kernel) rfl rfl (Nat.le_of_ble_eq_true rfl) ?_
  intro pg ev s mi args below meth c hc hr htab
  refine x_aload_n (j := 3) hc dL_profit_0 rfl rfl ?_
  refine x_iconst (v := 0) hc dL_profit_1 (by decide) ?_
  refine x_aload_n (j := 0) hc dL_profit_2 rfl rfl ?_
  refine x_iload_n (j := 1) hc dL_profit_3 rfl rfl ?_
  refine x_iload_n (j := 2) hc dL_profit_4 rfl rfl ?_
  refine x_callVX (C := RX2) (T := TX2) (NN := 5) (ci := 3) (As := [.int p0, .int p1]) (st := [.int 0, .ref ou]) hc hX (by omega) (by decide) rfl hM gL_profit_X2_profit rfl hdV_X2_profit ⟨Nat.le_of_ble_eq_true rfl, Nat.le_of_ble_eq_true rfl⟩ rfl rfl ⟨Nat.le_of_ble_eq_true rfl, Nat.le_of_ble_eq_true rfl⟩ (Nat.le_of_ble_eq_true rfl) dL_profit_5 ?_
  intro I9 J9 hz9
  refine xx_catch hc [⟨0, 10, 13, 13⟩] ⟨0, 10, 17, 15⟩ [] htab (fun y hy => by cases List.mem_singleton.mp hy; exact ⟨by decide, _, lcl_L_profit_13, hc.ev.2.2.2.2.2.2.2.2.2.1⟩) rfl (by decide) lcl_L_profit_15 hc.ev.2.2.2.2.2.2.2.1 (fun q => ?_)
  refine x_astore (lv' := [(4, .ref q), (0, .ref x), (1, .int p0), (2, .int p1), (3, .ref ou)]) hc dL_profit_17 (by decide) rfl ?_
  refine x_iconst (v := 2) hc dL_profit_19 (by decide) ?_
  exact x_iret hc hr (by decide) (by decide) dL_profit_20 (⟨rfl, hz9⟩)
abbrev rm_L_pool : Room := { frames := 8, cells := 1, slots := 6, locals := 165 }
set_option maxHeartbeats 4000000 in
set_option maxRecDepth 100000 in
theorem w_pool (l : Launch) (D : va_G) (z e0 : Nat) (L : List Nat) (K N : Nat → Nat) (I : Nat → Nat → Int32) (J : Nat → Nat → Int64) (R : Nat → Nat → Option Nat) (x ou : Nat) (p0 : Int32) (hX : At L K N x 3 0) (hO : At L K N ou 70 1) (post : Option Value → (Nat → Nat → Int32) → (Nat → Nat → Int64) → Prop) (hM : MG l yX2_pool wsX2_pool rm_X2_pool D z e0 L K N I J R [.ref x, .int p0] post) (hV : ∀ v I' J', post v I' J' → ∃ V, v = some (.int V)) : MG l yL_pool wsL_pool rm_L_pool D z e0 L K N I J R [.ref x, .int p0, .ref ou] (fun v I' J' => v = some (.int 0) ∧ ∃ V J1, post (some (.int V)) I' J1 ∧ J' = u2 J1 ou 0 (Int32.toInt64 V)) := by
  refine mgW_of (own := RL) (maxL := 4) (ret := (some .int)) (hh := [(0, 9, 12, 13)]) (by decide +kernel) rfl rfl (Nat.le_of_ble_eq_true rfl) ?_
  intro pg ev s mi args below meth c hc hr htab
  refine x_aload_n (j := 2) hc dL_pool_0 rfl rfl ?_
  refine x_iconst (v := 0) hc dL_pool_1 (by decide) ?_
  refine x_aload_n (j := 0) hc dL_pool_2 rfl rfl ?_
  refine x_iload_n (j := 1) hc dL_pool_3 rfl rfl ?_
  refine x_callV (C := RX2) (T := TX2) (NN := 5) (ci := 3) (As := [.int p0]) (st := [.int 0, .ref ou]) hc hX (by omega) (by decide) rfl hM gL_pool_X2_pool rfl hdV_X2_pool ⟨Nat.le_of_ble_eq_true rfl, Nat.le_of_ble_eq_true rfl⟩ rfl rfl ⟨Nat.le_of_ble_eq_true rfl, Nat.le_of_ble_eq_true rfl⟩ (Nat.le_of_ble_eq_true rfl) dL_pool_4 (fun v9 I9 J9 hz9 => ?_)
  obtain ⟨V, hV9⟩ := hV _ _ _ hz9
  subst hV9
  refine x_i2l hc dL_pool_7 ?_
  refine x_last hc hO (by decide) rfl (by decide) (by omega) dL_pool_8 ?_
  refine x_goto (tgt := 15) hc dL_pool_9 (by decide) ?_
  refine x_iconst (v := 0) hc dL_pool_15 (by decide) ?_
  exact x_iret hc hr (by decide) (by decide) dL_pool_16 (⟨rfl, V, J9, hz9, rfl⟩)
set_option maxHeartbeats 4000000 in
set_option maxRecDepth 100000 in
theorem w_pool_1 (l : Launch) (D : va_G) (z e0 : Nat) (L : List Nat) (K N : Nat → Nat) (I : Nat → Nat → Int32) (J : Nat → Nat → Int64) (R : Nat → Nat → Option Nat) (x ou : Nat) (p0 : Int32) (hX : At L K N x 3 0) (hO : At L K N ou 70 1) (post : (Nat → Nat → Int32) → (Nat → Nat → Int64) → Prop) (hM : MX l yX2_pool wsX2_pool rm_X2_pool D z e0 L K N I J R [.ref x, .int p0] "java/lang/IndexOutOfBoundsException" post) : MG l yL_pool wsL_pool rm_L_pool D z e0 L K N I J R [.ref x, .int p0, .ref ou] (fun v I' J' => v = some (.int 1) ∧ post I' J') := by
  refine mgW_of (own := RL) (maxL := 4) (ret := (some .int)) (hh := [(0, 9, 12, 13)]) (by decide +kernel) rfl rfl (Nat.le_of_ble_eq_true rfl) ?_
  intro pg ev s mi args below meth c hc hr htab
  refine x_aload_n (j := 2) hc dL_pool_0 rfl rfl ?_
  refine x_iconst (v := 0) hc dL_pool_1 (by decide) ?_
  refine x_aload_n (j := 0) hc dL_pool_2 rfl rfl ?_
  refine x_iload_n (j := 1) hc dL_pool_3 rfl rfl ?_
  refine x_callVX (C := RX2) (T := TX2) (NN := 5) (ci := 3) (As := [.int p0]) (st := [.int 0, .ref ou]) hc hX (by omega) (by decide) rfl hM gL_pool_X2_pool rfl hdV_X2_pool ⟨Nat.le_of_ble_eq_true rfl, Nat.le_of_ble_eq_true rfl⟩ rfl rfl ⟨Nat.le_of_ble_eq_true rfl, Nat.le_of_ble_eq_true rfl⟩ (Nat.le_of_ble_eq_true rfl) dL_pool_4 ?_
  intro I9 J9 hz9
  refine xx_catch hc [] ⟨0, 9, 12, 13⟩ [] htab (fun y hy => by cases hy) rfl (by decide) lcl_L_pool_13 hc.ev.2.2.2.2.2.2.1 (fun q => ?_)
  refine x_astore_n (lv' := [(3, .ref q), (0, .ref x), (1, .int p0), (2, .ref ou)]) hc dL_pool_12 rfl (by decide) rfl ?_
  refine x_iconst (v := 1) hc dL_pool_13 (by decide) ?_
  exact x_iret hc hr (by decide) (by decide) dL_pool_14 (⟨rfl, hz9⟩)
abbrev rm_L_sum : Room := { frames := 8, cells := 1, slots := 6, locals := 186 }
set_option maxHeartbeats 4000000 in
set_option maxRecDepth 100000 in
theorem w_sum (l : Launch) (D : va_G) (z e0 : Nat) (L : List Nat) (K N : Nat → Nat) (I : Nat → Nat → Int32) (J : Nat → Nat → Int64) (R : Nat → Nat → Option Nat) (x ou : Nat) (p0 : Int32) (hX : At L K N x 3 0) (hO : At L K N ou 70 1) (post : Option Value → (Nat → Nat → Int32) → (Nat → Nat → Int64) → Prop) (hM : MG l yX2_sum wsX2_sum rm_X2_sum D z e0 L K N I J R [.ref x, .int p0] post) (hV : ∀ v I' J', post v I' J' → ∃ V, v = some (.int V)) : MG l yL_sum wsL_sum rm_L_sum D z e0 L K N I J R [.ref x, .int p0, .ref ou] (fun v I' J' => v = some (.int 0) ∧ ∃ V J1, post (some (.int V)) I' J1 ∧ J' = u2 J1 ou 0 (Int32.toInt64 V)) := by
  refine mgW_of (own := RL) (maxL := 4) (ret := (some .int)) (hh := [(0, 9, 12, 13)]) (by decide +kernel) rfl rfl (Nat.le_of_ble_eq_true rfl) ?_
  intro pg ev s mi args below meth c hc hr htab
  refine x_aload_n (j := 2) hc dL_sum_0 rfl rfl ?_
  refine x_iconst (v := 0) hc dL_sum_1 (by decide) ?_
  refine x_aload_n (j := 0) hc dL_sum_2 rfl rfl ?_
  refine x_iload_n (j := 1) hc dL_sum_3 rfl rfl ?_
  refine x_callV (C := RX2) (T := TX2) (NN := 5) (ci := 3) (As := [.int p0]) (st := [.int 0, .ref ou]) hc hX (by omega) (by decide) rfl hM gL_sum_X2_sum rfl hdV_X2_sum ⟨Nat.le_of_ble_eq_true rfl, Nat.le_of_ble_eq_true rfl⟩ rfl rfl ⟨Nat.le_of_ble_eq_true rfl, Nat.le_of_ble_eq_true rfl⟩ (Nat.le_of_ble_eq_true rfl) dL_sum_4 (fun v9 I9 J9 hz9 => ?_)
  obtain ⟨V, hV9⟩ := hV _ _ _ hz9
  subst hV9
  refine x_i2l hc dL_sum_7 ?_
  refine x_last hc hO (by decide) rfl (by decide) (by omega) dL_sum_8 ?_
  refine x_goto (tgt := 15) hc dL_sum_9 (by decide) ?_
  refine x_iconst (v := 0) hc dL_sum_15 (by decide) ?_
  exact x_iret hc hr (by decide) (by decide) dL_sum_16 (⟨rfl, V, J9, hz9, rfl⟩)
set_option maxHeartbeats 4000000 in
set_option maxRecDepth 100000 in
theorem w_sum_1 (l : Launch) (D : va_G) (z e0 : Nat) (L : List Nat) (K N : Nat → Nat) (I : Nat → Nat → Int32) (J : Nat → Nat → Int64) (R : Nat → Nat → Option Nat) (x ou : Nat) (p0 : Int32) (hX : At L K N x 3 0) (hO : At L K N ou 70 1) (post : (Nat → Nat → Int32) → (Nat → Nat → Int64) → Prop) (hM : MX l yX2_sum wsX2_sum rm_X2_sum D z e0 L K N I J R [.ref x, .int p0] "java/lang/IndexOutOfBoundsException" post) : MG l yL_sum wsL_sum rm_L_sum D z e0 L K N I J R [.ref x, .int p0, .ref ou] (fun v I' J' => v = some (.int 1) ∧ post I' J') := by
  refine mgW_of (own := RL) (maxL := 4) (ret := (some .int)) (hh := [(0, 9, 12, 13)]) (by decide +kernel) rfl rfl (Nat.le_of_ble_eq_true rfl) ?_
  intro pg ev s mi args below meth c hc hr htab
  refine x_aload_n (j := 2) hc dL_sum_0 rfl rfl ?_
  refine x_iconst (v := 0) hc dL_sum_1 (by decide) ?_
  refine x_aload_n (j := 0) hc dL_sum_2 rfl rfl ?_
  refine x_iload_n (j := 1) hc dL_sum_3 rfl rfl ?_
  refine x_callVX (C := RX2) (T := TX2) (NN := 5) (ci := 3) (As := [.int p0]) (st := [.int 0, .ref ou]) hc hX (by omega) (by decide) rfl hM gL_sum_X2_sum rfl hdV_X2_sum ⟨Nat.le_of_ble_eq_true rfl, Nat.le_of_ble_eq_true rfl⟩ rfl rfl ⟨Nat.le_of_ble_eq_true rfl, Nat.le_of_ble_eq_true rfl⟩ (Nat.le_of_ble_eq_true rfl) dL_sum_4 ?_
  intro I9 J9 hz9
  refine xx_catch hc [] ⟨0, 9, 12, 13⟩ [] htab (fun y hy => by cases hy) rfl (by decide) lcl_L_sum_13 hc.ev.2.2.2.2.2.2.1 (fun q => ?_)
  refine x_astore_n (lv' := [(3, .ref q), (0, .ref x), (1, .int p0), (2, .ref ou)]) hc dL_sum_12 rfl (by decide) rfl ?_
  refine x_iconst (v := 1) hc dL_sum_13 (by decide) ?_
  exact x_iret hc hr (by decide) (by decide) dL_sum_14 (⟨rfl, hz9⟩)
abbrev rm_L_paid : Room := { frames := 8, cells := 1, slots := 6, locals := 124 }
set_option maxHeartbeats 4000000 in
set_option maxRecDepth 100000 in
theorem w_paid (l : Launch) (D : va_G) (z e0 : Nat) (L : List Nat) (K N : Nat → Nat) (I : Nat → Nat → Int32) (J : Nat → Nat → Int64) (R : Nat → Nat → Option Nat) (x ou : Nat) (p0 : Int32) (hX : At L K N x 3 0) (hO : At L K N ou 70 1) (post : Option Value → (Nat → Nat → Int32) → (Nat → Nat → Int64) → Prop) (hM : MG l yX2_paid wsX2_paid rm_X2_paid D z e0 L K N I J R [.ref x, .int p0] post) (hV : ∀ v I' J', post v I' J' → ∃ V, v = some (.int V)) : MG l yL_paid wsL_paid rm_L_paid D z e0 L K N I J R [.ref x, .int p0, .ref ou] (fun v I' J' => v = some (.int 0) ∧ ∃ V J1, post (some (.int V)) I' J1 ∧ J' = u2 J1 ou 0 (Int32.toInt64 V)) := by
  refine mgW_of (own := RL) (maxL := 4) (ret := (some .int)) (hh := [(0, 9, 12, 13)]) (by decide +kernel) rfl rfl (Nat.le_of_ble_eq_true rfl) ?_
  intro pg ev s mi args below meth c hc hr htab
  refine x_aload_n (j := 2) hc dL_paid_0 rfl rfl ?_
  refine x_iconst (v := 0) hc dL_paid_1 (by decide) ?_
  refine x_aload_n (j := 0) hc dL_paid_2 rfl rfl ?_
  refine x_iload_n (j := 1) hc dL_paid_3 rfl rfl ?_
  refine x_callV (C := RX2) (T := TX2) (NN := 5) (ci := 3) (As := [.int p0]) (st := [.int 0, .ref ou]) hc hX (by omega) (by decide) rfl hM gL_paid_X2_paid rfl hdV_X2_paid ⟨Nat.le_of_ble_eq_true rfl, Nat.le_of_ble_eq_true rfl⟩ rfl rfl ⟨Nat.le_of_ble_eq_true rfl, Nat.le_of_ble_eq_true rfl⟩ (Nat.le_of_ble_eq_true rfl) dL_paid_4 (fun v9 I9 J9 hz9 => ?_)
  obtain ⟨V, hV9⟩ := hV _ _ _ hz9
  subst hV9
  refine x_i2l hc dL_paid_7 ?_
  refine x_last hc hO (by decide) rfl (by decide) (by omega) dL_paid_8 ?_
  refine x_goto (tgt := 15) hc dL_paid_9 (by decide) ?_
  refine x_iconst (v := 0) hc dL_paid_15 (by decide) ?_
  exact x_iret hc hr (by decide) (by decide) dL_paid_16 (⟨rfl, V, J9, hz9, rfl⟩)
set_option maxHeartbeats 4000000 in
set_option maxRecDepth 100000 in
theorem w_paid_1 (l : Launch) (D : va_G) (z e0 : Nat) (L : List Nat) (K N : Nat → Nat) (I : Nat → Nat → Int32) (J : Nat → Nat → Int64) (R : Nat → Nat → Option Nat) (x ou : Nat) (p0 : Int32) (hX : At L K N x 3 0) (hO : At L K N ou 70 1) (post : (Nat → Nat → Int32) → (Nat → Nat → Int64) → Prop) (hM : MX l yX2_paid wsX2_paid rm_X2_paid D z e0 L K N I J R [.ref x, .int p0] "java/lang/IndexOutOfBoundsException" post) : MG l yL_paid wsL_paid rm_L_paid D z e0 L K N I J R [.ref x, .int p0, .ref ou] (fun v I' J' => v = some (.int 1) ∧ post I' J') := by
  refine mgW_of (own := RL) (maxL := 4) (ret := (some .int)) (hh := [(0, 9, 12, 13)]) (by decide +kernel) rfl rfl (Nat.le_of_ble_eq_true rfl) ?_
  intro pg ev s mi args below meth c hc hr htab
  refine x_aload_n (j := 2) hc dL_paid_0 rfl rfl ?_
  refine x_iconst (v := 0) hc dL_paid_1 (by decide) ?_
  refine x_aload_n (j := 0) hc dL_paid_2 rfl rfl ?_
  refine x_iload_n (j := 1) hc dL_paid_3 rfl rfl ?_
  refine x_callVX (C := RX2) (T := TX2) (NN := 5) (ci := 3) (As := [.int p0]) (st := [.int 0, .ref ou]) hc hX (by omega) (by decide) rfl hM gL_paid_X2_paid rfl hdV_X2_paid ⟨Nat.le_of_ble_eq_true rfl, Nat.le_of_ble_eq_true rfl⟩ rfl rfl ⟨Nat.le_of_ble_eq_true rfl, Nat.le_of_ble_eq_true rfl⟩ (Nat.le_of_ble_eq_true rfl) dL_paid_4 ?_
  intro I9 J9 hz9
  refine xx_catch hc [] ⟨0, 9, 12, 13⟩ [] htab (fun y hy => by cases hy) rfl (by decide) lcl_L_paid_13 hc.ev.2.2.2.2.2.2.1 (fun q => ?_)
  refine x_astore_n (lv' := [(3, .ref q), (0, .ref x), (1, .int p0), (2, .ref ou)]) hc dL_paid_12 rfl (by decide) rfl ?_
  refine x_iconst (v := 1) hc dL_paid_13 (by decide) ?_
  exact x_iret hc hr (by decide) (by decide) dL_paid_14 (⟨rfl, hz9⟩)
abbrev rm_L_owed : Room := { frames := 8, cells := 1, slots := 6, locals := 187 }
set_option maxHeartbeats 4000000 in
set_option maxRecDepth 100000 in
theorem w_owed (l : Launch) (D : va_G) (z e0 : Nat) (L : List Nat) (K N : Nat → Nat) (I : Nat → Nat → Int32) (J : Nat → Nat → Int64) (R : Nat → Nat → Option Nat) (x ou : Nat) (p0 : Int32) (hX : At L K N x 3 0) (hO : At L K N ou 70 1) (post : Option Value → (Nat → Nat → Int32) → (Nat → Nat → Int64) → Prop) (hM : MG l yX2_owed wsX2_owed rm_X2_owed D z e0 L K N I J R [.ref x, .int p0] post) (hV : ∀ v I' J', post v I' J' → ∃ V, v = some (.int V)) : MG l yL_owed wsL_owed rm_L_owed D z e0 L K N I J R [.ref x, .int p0, .ref ou] (fun v I' J' => v = some (.int 0) ∧ ∃ V J1, post (some (.int V)) I' J1 ∧ J' = u2 J1 ou 0 (Int32.toInt64 V)) := by
  refine mgW_of (own := RL) (maxL := 4) (ret := (some .int)) (hh := [(0, 9, 12, 13)]) (by decide +kernel) rfl rfl (Nat.le_of_ble_eq_true rfl) ?_
  intro pg ev s mi args below meth c hc hr htab
  refine x_aload_n (j := 2) hc dL_owed_0 rfl rfl ?_
  refine x_iconst (v := 0) hc dL_owed_1 (by decide) ?_
  refine x_aload_n (j := 0) hc dL_owed_2 rfl rfl ?_
  refine x_iload_n (j := 1) hc dL_owed_3 rfl rfl ?_
  refine x_callV (C := RX2) (T := TX2) (NN := 5) (ci := 3) (As := [.int p0]) (st := [.int 0, .ref ou]) hc hX (by omega) (by decide) rfl hM gL_owed_X2_owed rfl hdV_X2_owed ⟨Nat.le_of_ble_eq_true rfl, Nat.le_of_ble_eq_true rfl⟩ rfl rfl ⟨Nat.le_of_ble_eq_true rfl, Nat.le_of_ble_eq_true rfl⟩ (Nat.le_of_ble_eq_true rfl) dL_owed_4 (fun v9 I9 J9 hz9 => ?_)
  obtain ⟨V, hV9⟩ := hV _ _ _ hz9
  subst hV9
  refine x_i2l hc dL_owed_7 ?_
  refine x_last hc hO (by decide) rfl (by decide) (by omega) dL_owed_8 ?_
  refine x_goto (tgt := 15) hc dL_owed_9 (by decide) ?_
  refine x_iconst (v := 0) hc dL_owed_15 (by decide) ?_
  exact x_iret hc hr (by decide) (by decide) dL_owed_16 (⟨rfl, V, J9, hz9, rfl⟩)
set_option maxHeartbeats 4000000 in
set_option maxRecDepth 100000 in
theorem w_owed_1 (l : Launch) (D : va_G) (z e0 : Nat) (L : List Nat) (K N : Nat → Nat) (I : Nat → Nat → Int32) (J : Nat → Nat → Int64) (R : Nat → Nat → Option Nat) (x ou : Nat) (p0 : Int32) (hX : At L K N x 3 0) (hO : At L K N ou 70 1) (post : (Nat → Nat → Int32) → (Nat → Nat → Int64) → Prop) (hM : MX l yX2_owed wsX2_owed rm_X2_owed D z e0 L K N I J R [.ref x, .int p0] "java/lang/IndexOutOfBoundsException" post) : MG l yL_owed wsL_owed rm_L_owed D z e0 L K N I J R [.ref x, .int p0, .ref ou] (fun v I' J' => v = some (.int 1) ∧ post I' J') := by
  refine mgW_of (own := RL) (maxL := 4) (ret := (some .int)) (hh := [(0, 9, 12, 13)]) (by decide +kernel) rfl rfl (Nat.le_of_ble_eq_true rfl) ?_
  intro pg ev s mi args below meth c hc hr htab
  refine x_aload_n (j := 2) hc dL_owed_0 rfl rfl ?_
  refine x_iconst (v := 0) hc dL_owed_1 (by decide) ?_
  refine x_aload_n (j := 0) hc dL_owed_2 rfl rfl ?_
  refine x_iload_n (j := 1) hc dL_owed_3 rfl rfl ?_
  refine x_callVX (C := RX2) (T := TX2) (NN := 5) (ci := 3) (As := [.int p0]) (st := [.int 0, .ref ou]) hc hX (by omega) (by decide) rfl hM gL_owed_X2_owed rfl hdV_X2_owed ⟨Nat.le_of_ble_eq_true rfl, Nat.le_of_ble_eq_true rfl⟩ rfl rfl ⟨Nat.le_of_ble_eq_true rfl, Nat.le_of_ble_eq_true rfl⟩ (Nat.le_of_ble_eq_true rfl) dL_owed_4 ?_
  intro I9 J9 hz9
  refine xx_catch hc [] ⟨0, 9, 12, 13⟩ [] htab (fun y hy => by cases hy) rfl (by decide) lcl_L_owed_13 hc.ev.2.2.2.2.2.2.1 (fun q => ?_)
  refine x_astore_n (lv' := [(3, .ref q), (0, .ref x), (1, .int p0), (2, .ref ou)]) hc dL_owed_12 rfl (by decide) rfl ?_
  refine x_iconst (v := 1) hc dL_owed_13 (by decide) ?_
  exact x_iret hc hr (by decide) (by decide) dL_owed_14 (⟨rfl, hz9⟩)
