/-! THE CLAIM OUT OF ONE WALK OF THE LAW'S BODY. Your part is whole_start (and what it stands on); all else here is the same for every law, but numbers. -/
def R_law : String := "NetPointsLaw"
def lw_P (b : Addr) (xs : List Int32) (args : Array Value) (s : State) : Prop := args = #[.ref b] ∧ s.IntsAt b xs ∧ xs.length ≤ 260 ∧ (Jvm.Cond.and given_1 narrow_1).before args s = true
def lw_Q (_ : Array Value) (s : State) (o : Outcome) (t : State) : Prop := o = .returned (some (.int 1)) ∧ Framed s o t [] 600086 7301442
def lw_Z (below : List Frame) (a : Array Value) (s : State) : State → Prop := fun t => ∃ o, t.status = .running ∧ Ended t below o ∧ lw_Q a s o t
/-- the law's own end, with 1 on the stack, nothing written that was there before, its room as the claim has it -/
theorem lw_ret {p : Program} {l : Launch} {e : Env} {s : State} {m : MethodId} {below : List Frame} {meth : Method} {c : Code} {b : Nat} (hx : p.tables.exec = Jvm.exec) (hb : c.code = code) (hr : meth.sig.returnType = ret) (hlocks : meth.locks = false) {pc : Nat} {H : Heap} {ls : Array Slot} (hdg : decode code pc = .ok (.ireturn, 1)) : W p l e room_1 s m #[Value.ref b] below meth c H [] 600086 7301442 (lw_Z below #[Value.ref b] s) (F0 m pc ls [.int 1]) := by
  intro T hT X
  obtain ⟨fs, hret, hrun, hended, hW, hframe⟩ := X.leave (v := some (.int 1)) (hlocks := hlocks) (fun h => by rw [hr] at h; cases h)
  have hmeth' : T.vm.method? m = some meth := X.method'
  refine ⟨T.setFrames fs, ?_, .returned (some (.int 1)), hrun, hended, rfl, ⟨_, rfl⟩, hW, hframe⟩
  jvm_step X.here [X.here.top, hx, hb, hdg, hmeth', hr, ret, narrow_b1]
  (try refine ⟨rfl, ?_⟩); (try refine ⟨rfl, ?_⟩)
  first | (intro acts; rw [hret _ acts rfl rfl rfl]) | rw [hret _ _ rfl rfl rfl]
  exact Steps.refl _
/-- what holds at the law's entry: the machine, the code, the tables' words (any of lw_tbl by 'hts w (by decide +kernel)'), the script of L ints xs at the cell b, what the Statement gives of the start (any of its parts by flat_of_before) -/
def lw_At (p : Program) (s : State) (m : MethodId) (meth : Method) (c : Code) (b L : Nat) (xs : Nat → Int32) : Prop :=
  p.tables.exec = Jvm.exec ∧ c.code = code ∧ meth.sig.returnType = ret ∧ c.maxLocals = 14 ∧ s.vm.findClass R_law = some m.cls ∧ (∀ w ∈ lw_tbl, w.before #[Value.ref b] s = true) ∧ va_X b L xs s s.heap ∧ b < s.heap.size ∧ meth.locks = false ∧ (Jvm.Cond.and given_1 narrow_1).before #[Value.ref b] s = true
/-! The first state. -/
theorem crel0 {L : List Nat} {K N : Nat → Nat} {I : Nat → Nat → Int32} {J : Nat → Nat → Int64} {R : Nat → Nat → Option Nat} {e0 x : Nat} (hC : Cls L K N I R x 0 0 (fun _ => 0)) (hP : ∀ k, k < 2 → PNew L K N I J R e0 (k + 1) (dr R x k)) (hR : R (dr R x 2) 1 = some e0) (h3 : I x 3 = 0) : CRel e0 L K N I J R x 0 0 (fun _ => 0) (fun _ => (0, 0, 0)) (fun _ _ _ => 0) (fun _ _ => 0) (fun _ _ => 0) 0 (fun _ => (0, 0, 0, 0)) (fun _ => 0) := by
  refine ⟨hC, h3, fun k hk => ?_, fun j hj => absurd hj (Nat.not_lt_zero j), fun _ => hR, fun k hk _ => (hP k hk).2.2.1⟩
  obtain ⟨h1, h2, h4, h5, h6, h7, h8, h9⟩ := hP k hk
  rw [h6, h7, h8]
  exact ⟨rfl, fun y w hy hw => by rw [h5 y hy], fun _ _ => rfl, fun _ _ => rfl⟩
theorem vl0 : VL 0 0 (fun _ => 0) (fun _ => (0, 0, 0)) (fun _ _ _ => 0) (fun _ _ => 0) (fun _ _ => 0) 0 (fun _ => (0, 0, 0, 0)) (fun _ => 0) 0 0 := by
  have r0 : Rat (0 : Int32) := ⟨by decide, by decide⟩
  have z0 : 0 ≤ (0 : Int32).toInt := by decide
  have z9 : (0 : Int32).toInt ≤ 2000 := by decide
  have z1 : (0 : Int32).toInt ≤ 150000 * ((0 : Nat) : Int) := by decide
  have z2 : sumI (fun _ _ => 0) 10 ≤ 200000 * ((0 : Nat) : Int) := by decide
  exact ⟨by decide, by decide, Or.inl rfl, fun k hk => ⟨r0, r0, z0, z9⟩, fun k w hk hw => r0, fun k hk => ⟨fun y w hy hw => z0, z2⟩, fun k y hk hy => ⟨z0, z1⟩, fun j hj => absurd hj (Nat.not_lt_zero j), fun j hj => absurd hj (Nat.not_lt_zero j)⟩
theorem x_lawret {p : Program} {l : Launch} {e : Env} {s : State} {m : MethodId} {below : List Frame} {meth : Method} {c : Code} {b : Nat} {D : va_G} {L : List Nat} {K N : Nat → Nat} {I : Nat → Nat → Int32} {J : Nat → Nat → Int64} {R : Nat → Nat → Option Nat} {cells slots pc : Nat} {lv : List (Nat × Value)} (hx : p.tables.exec = Jvm.exec) (hb : c.code = code) (hr : meth.sig.returnType = ret) (hlocks : meth.locks = false) (h1 : cells ≤ 600086) (h2 : slots ≤ 7301442) (hdg : decode code pc = .ok (.ireturn, 1)) :
    XW p l e room_1 s m #[Value.ref b] below meth c D s.heap.size 14 L K N I J R cells slots (lw_Z below #[Value.ref b] s) pc lv [.int 1] := by
  intro H locs ls g1 g2 g3 g4
  exact va_forget (fun q hq => g3.2.2 q hq) (W.widen h1 h2 (lw_ret hx hb hr hlocks hdg))
set_option maxHeartbeats 4000000 in
set_option maxRecDepth 100000 in
theorem law_loop {pg : Program} {l : Launch} {ev : Env} {s : State} {mi : MethodId} {below : List Frame} {meth : Method} {c : Code} {b Ln : Nat} {xs : Nat → Int32} {D : va_G} {e0 x ka pa ma na ea ga : Nat} (hc : CT pg l s mi #[Value.ref b] meth c D s.heap.size e0 cL_law 14 RL wsL_law) (hr : meth.sig.returnType = ret) (hXs : va_X b Ln xs s s.heap) (hbl : b < s.heap.size) (hLn : Ln ≤ 260) : ∀ (d st : Nat) (L : List Nat) (K N : Nat → Nat) (I : Nat → Nat → Int32) (J : Nat → Nat → Int64) (R : Nat → Nat → Option Nat) (now n : Nat) (pic : Nat → Nat) (tm : Nat → TM) (rc : Nat → Nat → Nat → Int32) (fe co : Nat → Nat → Int32) (cr : Int32) (sv : Nat → Shr) (pd : Nat → Int32), st + d = 18 → LW e0 x ka pa ma na ea ga st st L K N I J R now n pic tm rc fe co cr sv pd → XW pg l ev room_1 s mi #[Value.ref b] below meth c D s.heap.size 14 L K N I J R (44 + 9 * st) (259 + 63 * st) (lw_Z below #[Value.ref b] s) 47 [(9, .int (nI st)), (8, .int cr), (7, .ref ga), (6, .ref ea), (5, .ref na), (4, .ref ma), (3, .ref pa), (2, .ref ka), (1, .ref x), (0, .ref b)] [] := by
  have hbz := hbl
  intro d
  induction d with
  | zero =>
    intro st L K N I J R now n pic tm rc fe co cr sv pd hd H
    refine x_iload (j := 0) hc dL_law_47 rfl ?_
    refine x_bipush (v := 18) hc dL_law_49 (by decide) ?_
    refine x_icmp_ge (tgt := 470) hc dL_law_51 (by decide) (fun _ => ?_) (fun q9 => absurd (show nI 18 ≤ nI st from nI_le (by omega) (by omega)) q9)
    refine x_iconst (v := 1) hc dL_law_470 (by decide) ?_
    exact x_lawret hc.x hc.b hr hc.2.2.2 (by omega) (by omega) dL_law_471
  | succ d ih =>
    intro st L K N I J R now n pic tm rc fe co cr sv pd hd H
    refine x_iload (j := 0) hc dL_law_47 rfl ?_
    refine x_bipush (v := 18) hc dL_law_49 (by decide) ?_
    refine x_icmp_ge (tgt := 470) hc dL_law_51 (by decide) (fun q9 => absurd q9 (show ¬ nI 18 ≤ nI st from nI_ge (by omega) (by decide))) (fun _ => ?_)
    have hcs : 44 + 9 * st + 9 ≤ room_1.cells ∧ 259 + 63 * st + 63 ≤ room_1.slots := ⟨show _ ≤ 600086 by omega, show _ ≤ 7301442 by omega⟩
    refine law_a (xv := 0) (yv := 0) hc hXs hbl hbz hLn H (by omega) hcs (fun L K N I J R n pic sv pd xv yv H => ?_)
    refine law_b hc H (by omega) hcs (fun I J tm rc co H => ?_)
    refine law_c1 hc H (by omega) hcs (fun I J cr H => ?_)
    refine law_c2 hc H (by omega) hcs (fun I J fe H => ?_)
    refine law_d hc H (by omega) hcs (fun I J now H => ?_)
    refine law_e hc H (by omega) hcs (fun I J pd H => ?_)
    refine x_iinc (j := 2) (v := nI (st + 1)) (lv' := [(9, .int (nI (st + 1))), (11, .int yv), (10, .int xv), (8, .int cr), (7, .ref ga), (6, .ref ea), (5, .ref na), (4, .ref ma), (3, .ref pa), (2, .ref ka), (1, .ref x), (0, .ref b)]) hc dL_law_464 rfl (nI_1 st) (by decide) rfl ?_
    refine x_goto (tgt := 47) hc dL_law_467 (by decide) ?_
    refine x_sub [0, 3, 4, 5, 6, 7, 8, 9, 10, 11] rfl ?_
    refine x_widen (show 44 + 9 * st + 9 ≤ 44 + 9 * (st + 1) by omega) (show 259 + 63 * st + 63 ≤ 259 + 63 * (st + 1) by omega) ?_
    exact ih (st + 1) _ _ _ _ _ _ _ _ _ _ _ _ _ _ _ _ (by omega) H
set_option maxHeartbeats 4000000 in
set_option maxRecDepth 100000 in
theorem law_main {pg : Program} {l : Launch} {ev : Env} {s : State} {mi : MethodId} {below : List Frame} {meth : Method} {c : Code} {b Ln : Nat} {xs : Nat → Int32} {D : va_G} {e0 : Nat} (hc : CT pg l s mi #[Value.ref b] meth c D s.heap.size e0 cL_law 14 RL wsL_law) (hr : meth.sig.returnType = ret) (hXs : va_X b Ln xs s s.heap) (hbl : b < s.heap.size) (hLn : Ln ≤ 260) : XW pg l ev room_1 s mi #[Value.ref b] below meth c D s.heap.size 14 ([] : List Nat) (fun _ => (0 : Nat)) (fun _ => (0 : Nat)) (fun _ _ => (0 : Int32)) (fun _ _ => (0 : Int64)) (fun _ _ => (none : Option Nat)) 0 0 (lw_Z below #[Value.ref b] s) 0 [(0, .ref b)] [] := by
  refine x_new (C := RX2) (T := TX2) (NN := 5) (ci := 3) hc (3) tyX2 tyX2_ok inlX2 rfl lcl_L_law_9 lins_L_law_3 lini_L_law_3 (by decide) (by decide) dfvX2 ⟨Nat.le_of_ble_eq_true rfl, Nat.le_of_ble_eq_true rfl⟩ dL_law_0 (fun x L1 K1 N1 I1 J1 R1 n1 => ?_)
  refine x_dup hc dL_law_3 rfl ?_
  refine x_callIF (b := x) (As := []) (st := [.ref x]) hc (c_netInit l D s.heap.size e0 L1 K1 N1 I1 J1 R1 x n1.2.1) gL_law_X2_init rfl hdS_X2_init ⟨Nat.le_of_ble_eq_true rfl, Nat.le_of_ble_eq_true rfl⟩ rfl lini_L_law_X2_init lml_L_law_50 lin_L_law_X2_init rfl rfl ⟨Nat.le_of_ble_eq_true rfl, Nat.le_of_ble_eq_true rfl⟩ (Nat.le_of_ble_eq_true rfl) dL_law_4 (fun v9 L9 K9 N9 I9 J9 R9 hz9 => ?_)
  obtain ⟨rfl, hCls, hPN, hRe, hI3, hE2⟩ := hz9
  have C0 := crel0 (J := J9) hCls hPN hRe hI3
  refine x_astore_n (lv' := [(1, .ref x), (0, .ref b)]) hc dL_law_7 rfl (by decide) rfl ?_
  refine x_bipush (v := 8) hc dL_law_8 (by decide) ?_
  refine x_newaI hc (965) (n0 := 8) larr_L_law_int (by omega) (by decide) (by decide) ⟨Nat.le_of_ble_eq_true rfl, Nat.le_of_ble_eq_true rfl⟩ dL_law_10 (fun ka L11 K11 N11 I11 J11 R11 n11 => ?_)
  replace C0 := C0.ext n11.ext (fun _ _ _ _ _ h => h)
  have hka := n11.2.1
  refine x_astore_n (lv' := [(2, .ref ka), (1, .ref x), (0, .ref b)]) hc dL_law_12 rfl (by decide) rfl ?_
  refine x_bipush (v := 8) hc dL_law_13 (by decide) ?_
  refine x_newaI hc (981) (n0 := 8) larr_L_law_int (by omega) (by decide) (by decide) ⟨Nat.le_of_ble_eq_true rfl, Nat.le_of_ble_eq_true rfl⟩ dL_law_15 (fun pa L12 K12 N12 I12 J12 R12 n12 => ?_)
  replace C0 := C0.ext n12.ext (fun _ _ _ _ _ h => h)
  replace hka := n12.ext.cell hka
  have hpa := n12.2.1
  refine x_astore_n (lv' := [(3, .ref pa), (2, .ref ka), (1, .ref x), (0, .ref b)]) hc dL_law_17 rfl (by decide) rfl ?_
  refine x_bipush (v := 8) hc dL_law_18 (by decide) ?_
  refine x_newaI hc (997) (n0 := 8) larr_L_law_int (by omega) (by decide) (by decide) ⟨Nat.le_of_ble_eq_true rfl, Nat.le_of_ble_eq_true rfl⟩ dL_law_20 (fun ma L13 K13 N13 I13 J13 R13 n13 => ?_)
  replace C0 := C0.ext n13.ext (fun _ _ _ _ _ h => h)
  replace hka := n13.ext.cell hka
  replace hpa := n13.ext.cell hpa
  have hma := n13.2.1
  refine x_astore (lv' := [(4, .ref ma), (3, .ref pa), (2, .ref ka), (1, .ref x), (0, .ref b)]) hc dL_law_22 (by decide) rfl ?_
  refine x_iconst (v := 1) hc dL_law_24 (by decide) ?_
  refine x_newaI hc (1013) (n0 := 1) larr_L_law_int (by omega) (by decide) (by decide) ⟨Nat.le_of_ble_eq_true rfl, Nat.le_of_ble_eq_true rfl⟩ dL_law_25 (fun na L14 K14 N14 I14 J14 R14 n14 => ?_)
  replace C0 := C0.ext n14.ext (fun _ _ _ _ _ h => h)
  replace hka := n14.ext.cell hka
  replace hpa := n14.ext.cell hpa
  replace hma := n14.ext.cell hma
  have hna := n14.2.1
  have ina := n14.2.2.1
  refine x_astore (lv' := [(5, .ref na), (4, .ref ma), (3, .ref pa), (2, .ref ka), (1, .ref x), (0, .ref b)]) hc dL_law_27 (by decide) rfl ?_
  refine x_bipush (v := 8) hc dL_law_29 (by decide) ?_
  refine x_newaI hc (1029) (n0 := 8) larr_L_law_int (by omega) (by decide) (by decide) ⟨Nat.le_of_ble_eq_true rfl, Nat.le_of_ble_eq_true rfl⟩ dL_law_31 (fun ea L15 K15 N15 I15 J15 R15 n15 => ?_)
  replace C0 := C0.ext n15.ext (fun _ _ _ _ _ h => h)
  replace hka := n15.ext.cell hka
  replace hpa := n15.ext.cell hpa
  replace hma := n15.ext.cell hma
  replace ina := (n15.ext.i hna.1 (fun h => h)).trans ina
  replace hna := n15.ext.cell hna
  have hea := n15.2.1
  have iea := n15.2.2.1
  refine x_astore (lv' := [(6, .ref ea), (5, .ref na), (4, .ref ma), (3, .ref pa), (2, .ref ka), (1, .ref x), (0, .ref b)]) hc dL_law_33 (by decide) rfl ?_
  refine x_bipush (v := 8) hc dL_law_35 (by decide) ?_
  refine x_newaI hc (1045) (n0 := 8) larr_L_law_int (by omega) (by decide) (by decide) ⟨Nat.le_of_ble_eq_true rfl, Nat.le_of_ble_eq_true rfl⟩ dL_law_37 (fun ga L16 K16 N16 I16 J16 R16 n16 => ?_)
  replace C0 := C0.ext n16.ext (fun _ _ _ _ _ h => h)
  replace hka := n16.ext.cell hka
  replace hpa := n16.ext.cell hpa
  replace hma := n16.ext.cell hma
  replace ina := (n16.ext.i hna.1 (fun h => h)).trans ina
  replace hna := n16.ext.cell hna
  replace iea := (n16.ext.i hea.1 (fun h => h)).trans iea
  replace hea := n16.ext.cell hea
  have hga := n16.2.1
  refine x_astore (lv' := [(7, .ref ga), (6, .ref ea), (5, .ref na), (4, .ref ma), (3, .ref pa), (2, .ref ka), (1, .ref x), (0, .ref b)]) hc dL_law_39 (by decide) rfl ?_
  refine x_iconst (v := 0) hc dL_law_41 (by decide) ?_
  refine x_istore (lv' := [(8, .int 0), (7, .ref ga), (6, .ref ea), (5, .ref na), (4, .ref ma), (3, .ref pa), (2, .ref ka), (1, .ref x), (0, .ref b)]) hc dL_law_42 (by decide) rfl ?_
  refine x_iconst (v := 0) hc dL_law_44 (by decide) ?_
  refine x_istore (lv' := [(9, .int 0), (8, .int 0), (7, .ref ga), (6, .ref ea), (5, .ref na), (4, .ref ma), (3, .ref pa), (2, .ref ka), (1, .ref x), (0, .ref b)]) hc dL_law_45 (by decide) rfl ?_
  have H : LW e0 x ka pa ma na ea ga 0 0 L16 K16 N16 I16 J16 R16 0 0 (fun _ => 0) (fun _ => (0, 0, 0)) (fun _ _ _ => 0) (fun _ _ => 0) (fun _ _ => 0) 0 (fun _ => (0, 0, 0, 0)) (fun _ => 0) := ⟨C0, vl0, ⟨hka, hpa, hma, hna, hea, hga⟩, by rw [ina]; rfl, fun j hj => absurd hj (Nat.not_lt_zero j), fun j _ _ => by rw [iea]⟩
  refine x_sub [0, 1, 2, 3, 4, 5, 6, 7, 8, 9] rfl ?_
  exact law_loop hc hr hXs hbl hLn 18 0 _ _ _ _ _ _ _ _ _ _ _ _ _ _ _ _ (by omega) H
theorem whole_start {p : Program} {e : Env} {s : State} {m : MethodId} {below : List Frame} {meth : Method} {c : Code} (l : Launch) (hflags : l.flags = flags0) {b L : Nat} {xs : Nat → Int32} (hL : L ≤ 260) (C0 : lw_At p s m meth c b L xs) : W p l e room_1 s m #[Value.ref b] below meth c s.heap [] 0 0 (lw_Z below #[Value.ref b] s) (entryFrame m ([Value.ref b] : List Value).toArray 14) := by
  obtain ⟨hx, hb, hret, hml, hown, hts, hX, hbl, hlk, hgv⟩ := C0
  obtain ⟨D, e0, hev⟩ := law_ev hts hgv
  have hc : CT p l s m #[Value.ref b] meth c D s.heap.size e0 cL_law 14 RL wsL_law := ⟨⟨hx, hb, hml, hown, fun w hw => hts w (wsL_law_in w hw)⟩, hev, Nat.le_refl _, hlk⟩
  rw [lg_entry_eq]
  exact law_main hc hret hX hbl hL s.heap [] _ (fun k q hq => by simp [wd, va_pl] at hq) ⟨fun i j p q hi hj _ => by simp [wd, va_pl] at hi, fun k q hq => by simp [wd, va_pl] at hq⟩ va_S.rf (lv_entry [Value.ref b] (Nat.le_of_ble_eq_true rfl))
set_option maxHeartbeats 4000000 in
theorem lw_walk (l : Launch) (hflags : l.flags = flags0) (b : Addr) (xs : List Int32) : MetFree l x (headSpec (Jvm.Cond.code x code maxLocals ret :: tables_1) room_1) (lw_P b xs) (fun _ _ _ _ _ => True) lw_Q := by
  refine MetFree.of_bodyS (code := code) (maxLocals := maxLocals) (ret := ret) (by decide) ?_ ?_
  · intro args s m h hn
    obtain ⟨meth, c, h1, h2, h3, h4, h5, h6, -, -⟩ := Cond.code_spec hn (atoms_spec (ws := Jvm.Cond.code x code maxLocals ret :: tables_1) h _ List.mem_cons_self)
    exact ⟨meth, c, h1, h2, h3, h4, h5, h6⟩
  · intro p e s m args below meth c s₁ B hml0 hP _
    obtain ⟨rfl, hx, hbd, hgv⟩ := hP
    obtain ⟨scr, harrAt, hlist, hof, hsmall⟩ := hx
    obtain ⟨hcb, hkn, -, -⟩ := State.arrayAt?_spec harrAt
    have hown : s.vm.findClass R_law = some m.cls := findClass_of_methodNamed B.named
    have hts0 : ∀ c ∈ (Jvm.Cond.code x code maxLocals ret :: tables_1), c.before #[Value.ref b] s = true := atoms_spec (ws := Jvm.Cond.code x code maxLocals ret :: tables_1) B.pre
    have hts : ∀ w ∈ lw_tbl, w.before #[Value.ref b] s = true := k2_hts_sels lw_privs (fun w hw => hts0 w (List.mem_cons_of_mem _ hw)) lw_privs_ok
    have hml : c.maxLocals = 14 := B.maxLocals_eq (hts0 _ List.mem_cons_self)
    have X₀ : Stand p l e room_1 s m #[Value.ref b] below meth c s₁ [] 0 0 := Stand.of_body B
    have hh0 : s₁.heap = s.heap := by rw [B.state]; rfl
    have hsz : scr.slots.size = xs.length := by rw [← Array.length_toList, hlist, List.length_map]
    have hval : ∀ j : Nat, j < xs.length → scr.slots[j]? = some (.int (xs.getD j 0)) := fun j hj => by
      rw [← Array.getElem?_toList, hlist]
      simp [hj]
    have hbl : b < s.heap.size := (Array.getElem?_eq_some_iff.mp hcb).1
    have hX : va_X b xs.length (fun j => xs.getD j 0) s s.heap := ⟨scr, hcb, hof, hkn, hsz, hval⟩
    have K : W p l e room_1 s m #[Value.ref b] below meth c s₁.heap [] 0 0 (lw_Z below #[Value.ref b] s) (entryFrame m ([Value.ref b] : List Value).toArray 14) := by
      rw [hh0]
      exact whole_start l hflags hbd ⟨B.exec, B.bytes, B.returns, hml, hown, hts, hX, hbl, B.notSynchronized, hgv⟩
    obtain ⟨t, a1, o, b1, b2, b3⟩ := K s₁ rfl X₀
    exact ⟨t, o, a1, b1, b2, b3⟩
theorem lw_pre_spec {args : Array Value} {s : State} (h : (Jvm.Cond.and given_1 narrow_1).before args s = true) (hr : rest_1_c.before args s = true) : ∃ (b : Addr) (xs : List Int32), lw_P b xs args s := by
  have hs := flat_of_before _ h
  have hq := flat_of_before _ hr
  have hc : (Cond.count 1).before args s = true := hs _ (by decide +kernel)
  have harr : (Cond.arrayOf (.arg 0) .int).before args s = true := hs _ (by decide +kernel)
  have hle : (Cond.le (.length (.arg 0)) (.int 260)).before args s = true := hs _ (by decide +kernel)
  have hlen : (Cond.isInt (.length (.arg 0))).before args s = true := hq _ (by decide +kernel)
  have hall : (Cond.all (.arg 0) (.isInt (.elem (.arg 0) (.index 0)))).before args s = true := hq _ (by decide +kernel)
  obtain ⟨b, xs, hb, hx⟩ := State.ints_of_pre rfl harr hlen hall
  have hsm : xs.length < 2 ^ 31 := hx.choose_spec.2.2.2
  have hev : (Term.length (.arg 0)).eval args s none [] s = some (.int xs.length.toInt32) := hx.length_eval hb
  have hv := Cond.le_ints hev (show (Term.int 260).eval args s none [] s = some (.int 260) from rfl)
  have hd : xs.length.toInt32 ≤ 260 := by
    simpa [Cond.before, Cond.holds, hv] using hle
  have hN : xs.length ≤ 260 := (Int32.ofNat_le_ofNat hsm (by decide)).mp (show Int32.ofNat xs.length ≤ Int32.ofNat 260 from hd)
  exact ⟨b, xs, Cond.one_arg hc (show args[0]? = some (.ref b) from hb), hx, hN, h⟩
theorem lw_comes (l : Launch) (hflags : l.flags = flags0) : Comes l x (Jvm.Cond.code x code maxLocals ret :: tables_1) room_1 (fun tb e args s => Calls_1 tb e args s ∧ rest_1 tb e args s ∧ Pre_1 tb e args s)
    (fun _ _ args s o t => lw_Q args s o t) := by
  intro p e ha hc hk s m args below hf hfit hheap happ hpre
  obtain ⟨b, xs, hP⟩ := lw_pre_spec hpre.2.2 hpre.2.1
  obtain ⟨k, o, h1, h2, h3, hQ⟩ := lw_walk l hflags b xs p e ha hc hk s m args below hf ((Spec.applies_iff_loose hf).mp happ).1 hP trivial
  exact ⟨k, o, h1, h2, h3, hQ⟩
theorem lw_frame {s t : State} {o : Outcome} {args : Array Value} (h : Framed s o t [] 600086 7301442) :
    Framed s o t (fieldLocs frame_1_writes args s ++ arrayLocs frame_1_arrays args s ++ staticLocs frame_1_statics s) 600086 7301442 := h
theorem lw_limb (L : Cond) (hL : ∀ (args : Array Value) (s t : State), L.after args s (.returned (some (.int 1))) t = true) :
    ArmFor flags0 classFile x code maxLocals ret World_1 tables_1 room_1 Calls_1 rest_1 Pre_1
      (fun tb e a s o t => postC L tb e a s o t ∧ Framed s o t (fieldLocs frame_1_writes a s ++ arrayLocs frame_1_arrays a s ++ staticLocs frame_1_statics s) 600086 7301442) := by
  intro l hflags _ _ p e ha hc hk s m args below hf hfit hheap happ hpre
  obtain ⟨k, o, h1, h2, h3, rfl, hF⟩ := lw_comes l hflags p e ha hc hk s m args below hf hfit hheap happ hpre
  exact ⟨k, _, h1, h2, h3, hL args s _, lw_frame hF⟩
theorem i_vc : Claimed_1_1 ∧ Claimed_1_2 := ⟨lw_limb limb_1_1 (fun args s t => by simp [limb_1_1, Cond.after, Cond.holds, Cond.value]), lw_limb limb_1_2 (fun args s t => Cond.after_iff.mpr (by
  first | (rw [show limb_1_2 = Cond.eq .result (.int 1) from rfl, Cond.eq_ints (x := 1) (y := 1) rfl rfl]; simp; done) | (simp [limb_1_2, Cond.value, Term.eval]; done)))⟩

