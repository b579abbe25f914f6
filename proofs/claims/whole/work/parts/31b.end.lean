/-! THE CLAIM OUT OF ONE WALK OF THE LAW'S BODY. Your part is whole_start (and what it stands on); all else here is the same for every law, but numbers. -/
def R_law : String := "NetPointsLaw"
def lw_P (b : Addr) (xs : List Int32) (args : Array Value) (s : State) : Prop := args = #[.ref b] ∧ s.IntsAt b xs ∧ xs.length ≤ 3072 ∧ (Jvm.Cond.and given_1 narrow_1).before args s = true
def lw_Q (_ : Array Value) (s : State) (o : Outcome) (t : State) : Prop := o = .returned (some (.int 1)) ∧ Framed s o t [] 601024 7293033
def lw_Z (below : List Frame) (a : Array Value) (s : State) : State → Prop := fun t => ∃ o, t.status = .running ∧ Ended t below o ∧ lw_Q a s o t
/-- the law's own end, with 1 on the stack, nothing written that was there before, its room as the claim has it -/
theorem lw_ret {p : Program} {l : Launch} {e : Env} {s : State} {m : MethodId} {below : List Frame} {meth : Method} {c : Code} {b : Nat} (hx : p.tables.exec = Jvm.exec) (hb : c.code = code) (hr : meth.sig.returnType = ret) (hlocks : meth.locks = false) {pc : Nat} {H : Heap} {ls : Array Slot} (hdg : decode code pc = .ok (.ireturn, 1)) : W p l e room_1 s m #[Value.ref b] below meth c H [] 601024 7293033 (lw_Z below #[Value.ref b] s) (F0 m pc ls [.int 1]) := by
  intro T hT X
  obtain ⟨fs, hret, hrun, hended, hW, hframe⟩ := X.leave (v := some (.int 1)) (hlocks := hlocks) (fun h => by rw [hr] at h; cases h)
  have hmeth' : T.vm.method? m = some meth := X.method'
  refine ⟨T.setFrames fs, ?_, .returned (some (.int 1)), hrun, hended, rfl, ⟨_, rfl⟩, hW, hframe⟩
  jvm_step X.here [X.here.top, hx, hb, hdg, hmeth', hr, ret, narrow_b1]
  (try refine ⟨rfl, ?_⟩); (try refine ⟨rfl, ?_⟩)
  first | (intro acts; rw [hret _ acts rfl rfl rfl]) | rw [hret _ _ rfl rfl rfl]
  exact Steps.refl _
/-- what holds at the law's entry: the machine, the code, the tables' words (any of lw_tbl by 'hts w (by decide +kernel)'), the script of L ints xs at the cell b, what the Statement gives of the start (any of its parts by flat_of_before) -/
def lw_At (p : Program) (s : State) (m : MethodId) (meth : Method) (c : Code) (b L : Nat) (xs : Nat → Int32) : Prop :=
  p.tables.exec = Jvm.exec ∧ c.code = code ∧ meth.sig.returnType = ret ∧ c.maxLocals = 7 ∧ s.vm.findClass R_law = some m.cls ∧ (∀ w ∈ lw_tbl, w.before #[Value.ref b] s = true) ∧ va_X b L xs s s.heap ∧ b < s.heap.size ∧ meth.locks = false ∧ (Jvm.Cond.and given_1 narrow_1).before #[Value.ref b] s = true
/-! The first state of both. -/
theorem crel0 {L : List Nat} {K N : Nat → Nat} {I : Nat → Nat → Int32} {J : Nat → Nat → Int64} {R : Nat → Nat → Option Nat} {e0 x : Nat} (hC : Cls L K N I R x 0 0 (fun _ => 0)) (hP : ∀ k, k < 2 → PNew L K N I J R e0 (k + 1) (dr R x k)) (hR : R (dr R x 2) 1 = some e0) (h3 : I x 3 = 0) : CRel e0 L K N I J R x 0 0 (fun _ => 0) (fun _ => (0, 0, 0)) (fun _ _ _ => 0) (fun _ _ => 0) (fun _ _ => 0) 0 (fun _ => (0, 0, 0, 0)) (fun _ => 0) := by
  refine ⟨hC, h3, fun k hk => ?_, fun j hj => absurd hj (Nat.not_lt_zero j), fun _ => hR, fun k hk _ => (hP k hk).2.2.1⟩
  obtain ⟨h1, h2, h4, h5, h6, h7, h8, h9⟩ := hP k hk
  rw [h6, h7, h8]
  exact ⟨rfl, fun y w hy hw => by rw [h5 y hy], fun _ _ => rfl, fun _ _ => rfl⟩
theorem mrel0 {L : List Nat} {K N : Nat → Nat} {I : Nat → Nat → Int32} {R : Nat → Nat → Option Nat} {m : Nat} (h : Mdl L K N R m) (hz : ∀ q ∈ mtab, I (dr R m q.1) = fun _ => 0) (hm : I m = fun _ => 0) : MRel L K N I R m 0 0 (fun _ => 0) (fun _ => (0, 0, 0)) (fun _ _ _ => 0) (fun _ _ => 0) (fun _ _ => 0) 0 (fun _ => (0, 0, 0, 0)) (fun _ => 0) := by
  have z0 := hz (0, 965, 80) (by decide)
  have z1 := hz (1, 981, 20) (by decide)
  have z2 := hz (2, 997, 8) (by decide)
  have z3 := hz (3, 1013, 2) (by decide)
  have z4 := hz (4, 1029, 2) (by decide)
  have z5 := hz (5, 1045, 2) (by decide)
  have z13 := hz (13, 1141, 8) (by decide)
  refine ⟨h, by rw [hm]; rfl, by rw [hm]; rfl, by rw [hm], fun k hk => ?_, fun j hj => absurd hj (Nat.not_lt_zero j), fun j _ => congrFun z13 j⟩
  exact ⟨by rw [show I (dr R m 3) k = 0 from congrFun z3 k, show I (dr R m 4) k = 0 from congrFun z4 k, show I (dr R m 5) k = 0 from congrFun z5 k], fun y w _ _ => congrFun z0 _, fun w _ => congrFun z2 _, fun y _ => congrFun z1 _⟩
theorem val0 : Val 0 0 (fun _ => 0) (fun _ => (0, 0, 0)) (fun _ _ _ => 0) (fun _ _ => 0) (fun _ _ => 0) 0 (fun _ => (0, 0, 0, 0)) (fun _ => 0) 0 := by
  have r0 : Rat (0 : Int32) := ⟨by decide, by decide⟩
  have z0 : 0 ≤ (0 : Int32).toInt := by decide
  have z1 : (0 : Int32).toInt ≤ 200000 * ((0 : Nat) : Int) := by decide
  have z2 : sumI (fun _ _ => 0) 10 ≤ 1000000 * ((0 : Nat) : Int) := by decide
  exact ⟨by decide, by decide, Or.inl rfl, fun k hk => ⟨r0, r0, r0⟩, fun k w hk hw => r0, fun k hk => ⟨fun y w hy hw => z0, z2⟩, fun k y hk hy => ⟨z0, z1⟩, fun j hj => absurd hj (Nat.not_lt_zero j), fun j hj => absurd hj (Nat.not_lt_zero j)⟩
theorem x_lawret {p : Program} {l : Launch} {e : Env} {s : State} {m : MethodId} {below : List Frame} {meth : Method} {c : Code} {b : Nat} {D : va_G} {L : List Nat} {K N : Nat → Nat} {I : Nat → Nat → Int32} {J : Nat → Nat → Int64} {R : Nat → Nat → Option Nat} {cells slots pc : Nat} {lv : List (Nat × Value)} (hx : p.tables.exec = Jvm.exec) (hb : c.code = code) (hr : meth.sig.returnType = ret) (hlocks : meth.locks = false) (h1 : cells ≤ 601024) (h2 : slots ≤ 7293033) (hdg : decode code pc = .ok (.ireturn, 1)) :
    XW p l e room_1 s m #[Value.ref b] below meth c D s.heap.size 7 L K N I J R cells slots (lw_Z below #[Value.ref b] s) pc lv [.int 1] := by
  intro H locs ls g1 g2 g3 g4
  exact va_forget (fun q hq => g3.2.2 q hq) (W.widen h1 h2 (lw_ret hx hb hr hlocks hdg))
theorem more6 {i Ln : Nat} (h : i + 6 ≤ Ln) (hL : Ln ≤ 3072) : ¬ nI i > nI Ln - 6 := by
  show ¬ nI Ln - 6 < nI i
  have h3 := pk_sub_toInt (a := Ln) (b := 6) (by omega) (by decide)
  have e : (nI Ln - 6).toInt = (Ln : Int) - 6 := h3
  rw [Int32.lt_iff_toInt_lt, e, nI_toInt (by omega)]
  omega
theorem less6 {i Ln : Nat} (h : ¬ i + 6 ≤ Ln) (hL : Ln ≤ 3072) (hi : i ≤ 3078) : nI i > nI Ln - 6 := by
  show nI Ln - 6 < nI i
  have h3 := pk_sub_toInt (a := Ln) (b := 6) (by omega) (by decide)
  have e : (nI Ln - 6).toInt = (Ln : Int) - 6 := h3
  rw [Int32.lt_iff_toInt_lt, e, nI_toInt (by omega)]
  omega
theorem REL.up {e0 x m ou st : Nat} {L : List Nat} {K N : Nat → Nat} {I : Nat → Nat → Int32} {J : Nat → Nat → Int64} {R : Nat → Nat → Option Nat} (h : REL e0 x m ou st L K N I J R) : REL e0 x m ou (st + 1) L K N I J R := by
  obtain ⟨now, n, pic, tm, rc, fe, co, cr, sv, pd, C, M, V, hO⟩ := h
  exact ⟨now, n, pic, tm, rc, fe, co, cr, sv, pd, C, M, V.up, hO⟩
set_option maxHeartbeats 4000000 in
set_option maxRecDepth 100000 in
theorem law_loop {p : Program} {l : Launch} {e : Env} {s : State} {m0 : MethodId} {below : List Frame} {meth : Method} {c : Code} {b Ln : Nat} {xs : Nat → Int32} {D : va_G} {e0 x m ou : Nat} (hc : CT p l s m0 #[Value.ref b] meth c D s.heap.size e0 cL_law 7 RL wsL_law) (hr : meth.sig.returnType = ret) (hXs : va_X b Ln xs s s.heap) (hbl : b < s.heap.size) (hLn : Ln ≤ 3072) (hfl : l.stackTraces = false) : ∀ (d st : Nat) (L : List Nat) (K N : Nat → Nat) (I : Nat → Nat → Int32) (J : Nat → Nat → Int64) (R : Nat → Nat → Option Nat), Ln < 6 * st + 6 * d → 6 * st ≤ 3078 → REL e0 x m ou st L K N I J R → XW p l e room_1 s m0 #[Value.ref b] below meth c D s.heap.size 7 L K N I J R (55 + 10 * st) (442 + 70 * st) (lw_Z below #[Value.ref b] s) 23 [(4, .int (nI (6 * st))), (3, .ref ou), (2, .ref m), (1, .ref x), (0, .ref b)] [] := by
  have hbz := hbl
  intro d
  induction d with
  | zero =>
    intro st L K N I J R hd h6 hR
    refine x_iload (j := 0) hc dL_law_23 rfl ?_
    refine x_aload_n (j := 4) hc dL_law_25 rfl rfl ?_
    refine x_slen hc hXs hbl hbz dL_law_26 ?_
    refine x_bipush (v := 6) hc dL_law_27 (by decide) ?_
    refine x_isub hc dL_law_29 ?_
    refine x_icmp_gt (tgt := 1333) hc dL_law_30 (by decide) (fun _ => ?_) (fun q9 => absurd (less6 (show ¬ 6 * st + 6 ≤ Ln by omega) hLn (by omega)) q9)
    refine x_iconst (v := 1) hc dL_law_1333 (by decide) ?_
    exact x_lawret hc.x hc.b hr hc.2.2.2 (by omega) (by omega) dL_law_1334
  | succ d ih =>
    intro st L K N I J R hd h6 hR
    by_cases hm : 6 * st + 6 ≤ Ln
    · have kont : ∀ (L : List Nat) (K N : Nat → Nat) (I : Nat → Nat → Int32) (J : Nat → Nat → Int64) (R : Nat → Nat → Option Nat), REL e0 x m ou (st + 1) L K N I J R → XW p l e room_1 s m0 #[Value.ref b] below meth c D s.heap.size 7 L K N I J R (55 + 10 * st + 10) (442 + 70 * st + 70) (lw_Z below #[Value.ref b] s) 1327 [(4, .int (nI (6 * st))), (3, .ref ou), (2, .ref m), (1, .ref x), (0, .ref b)] [] := by
        intro L K N I J R hR2
        refine x_iinc (j := 0) (v := nI (6 * st + 6)) (lv' := [(4, .int (nI (6 * st + 6))), (3, .ref ou), (2, .ref m), (1, .ref x), (0, .ref b)]) hc dL_law_1327 rfl (nI_add (6 * st) 6) (by decide) rfl ?_
        refine x_goto (tgt := 23) hc dL_law_1330 (by decide) ?_
        refine x_widen (show 55 + 10 * st + 10 ≤ 55 + 10 * (st + 1) by omega) (show 442 + 70 * st + 70 ≤ 442 + 70 * (st + 1) by omega) ?_
        exact ih (st + 1) L K N I J R (by omega) (by omega) hR2
      have hcs : 55 + 10 * st + 10 ≤ room_1.cells ∧ 442 + 70 * st + 70 ≤ room_1.slots := ⟨show _ ≤ 601024 by omega, show _ ≤ 7293033 by omega⟩
      refine x_iload (j := 0) hc dL_law_23 rfl ?_
      refine x_aload_n (j := 4) hc dL_law_25 rfl rfl ?_
      refine x_slen hc hXs hbl hbz dL_law_26 ?_
      refine x_bipush (v := 6) hc dL_law_27 (by decide) ?_
      refine x_isub hc dL_law_29 ?_
      refine x_icmp_gt (tgt := 1333) hc dL_law_30 (by decide) (fun q9 => absurd q9 (more6 hm hLn)) (fun _ => ?_)
      refine x_aload_n (j := 4) hc dL_law_33 rfl rfl ?_
      refine x_iload (j := 0) hc dL_law_34 rfl ?_
      refine x_sld hc hXs hbl hbz rfl (show 6 * st < Ln by omega) hLn dL_law_36 ?_
      refine x_bipush (v := 31) hc dL_law_37 (by decide) ?_
      refine x_iand hc dL_law_39 ?_
      by_cases hv : 0 ≤ ((xs (6 * st)) &&& 31).toInt ∧ ((xs (6 * st)) &&& 31).toInt ≤ 19
      · obtain ⟨t, ht⟩ : ∃ t : Nat, ((xs (6 * st)) &&& 31).toInt = (t : Int) := ⟨((xs (6 * st)) &&& 31).toInt.toNat, by omega⟩
        have ht19 : t ≤ 19 := by omega
        rcases (show t = 0 ∨ t = 1 ∨ t = 2 ∨ t = 3 ∨ t = 4 ∨ t = 5 ∨ t = 6 ∨ t = 7 ∨ t = 8 ∨ t = 9 ∨ t = 10 ∨ t = 11 ∨ t = 12 ∨ t = 13 ∨ t = 14 ∨ t = 15 ∨ t = 16 ∨ t = 17 ∨ t = 18 ∨ t = 19 by omega) with rfl | rfl | rfl | rfl | rfl | rfl | rfl | rfl | rfl | rfl | rfl | rfl | rfl | rfl | rfl | rfl | rfl | rfl | rfl | rfl
        · exact x_tableIn (off := 96) (tgt := 136) hc dL_law_40 (by rw [ht]; decide) (by rw [ht]; decide) (by rw [ht]; rfl) (by decide) (law_c0 hc hXs hbl hbz hLn hfl (by omega) hR hm hcs kont)
        · exact x_tableIn (off := 168) (tgt := 208) hc dL_law_40 (by rw [ht]; decide) (by rw [ht]; decide) (by rw [ht]; rfl) (by decide) (law_c1 hc hXs hbl hbz hLn hfl (by omega) hR hm hcs kont)
        · exact x_tableIn (off := 248) (tgt := 288) hc dL_law_40 (by rw [ht]; decide) (by rw [ht]; decide) (by rw [ht]; rfl) (by decide) (law_c2 hc hXs hbl hbz hLn hfl (by omega) hR hm hcs kont)
        · exact x_tableIn (off := 289) (tgt := 329) hc dL_law_40 (by rw [ht]; decide) (by rw [ht]; decide) (by rw [ht]; rfl) (by decide) (law_c3 hc hXs hbl hbz hLn hfl (by omega) hR hm hcs kont)
        · exact x_tableIn (off := 393) (tgt := 433) hc dL_law_40 (by rw [ht]; decide) (by rw [ht]; decide) (by rw [ht]; rfl) (by decide) (law_c4 hc hXs hbl hbz hLn hfl (by omega) hR hm hcs kont)
        · exact x_tableIn (off := 473) (tgt := 513) hc dL_law_40 (by rw [ht]; decide) (by rw [ht]; decide) (by rw [ht]; rfl) (by decide) (law_c5 hc hXs hbl hbz hLn hfl (by omega) hR hm hcs kont)
        · exact x_tableIn (off := 541) (tgt := 581) hc dL_law_40 (by rw [ht]; decide) (by rw [ht]; decide) (by rw [ht]; rfl) (by decide) (law_c6 hc hXs hbl hbz hLn hfl (by omega) hR hm hcs kont)
        · exact x_tableIn (off := 633) (tgt := 673) hc dL_law_40 (by rw [ht]; decide) (by rw [ht]; decide) (by rw [ht]; rfl) (by decide) (law_c7 hc hXs hbl hbz hLn hfl (by omega) hR hm hcs kont)
        · exact x_tableIn (off := 677) (tgt := 717) hc dL_law_40 (by rw [ht]; decide) (by rw [ht]; decide) (by rw [ht]; rfl) (by decide) (law_c8 hc hXs hbl hbz hLn hfl (by omega) hR hm hcs kont)
        · exact x_tableIn (off := 733) (tgt := 773) hc dL_law_40 (by rw [ht]; decide) (by rw [ht]; decide) (by rw [ht]; rfl) (by decide) (law_c9 hc hXs hbl hbz hLn hfl (by omega) hR hm hcs kont)
        · exact x_tableIn (off := 746) (tgt := 786) hc dL_law_40 (by rw [ht]; decide) (by rw [ht]; decide) (by rw [ht]; rfl) (by decide) (law_c10 hc hXs hbl hbz hLn hfl (by omega) hR hm hcs kont)
        · exact x_tableIn (off := 802) (tgt := 842) hc dL_law_40 (by rw [ht]; decide) (by rw [ht]; decide) (by rw [ht]; rfl) (by decide) (law_c11 hc hXs hbl hbz hLn hfl (by omega) hR hm hcs kont)
        · exact x_tableIn (off := 858) (tgt := 898) hc dL_law_40 (by rw [ht]; decide) (by rw [ht]; decide) (by rw [ht]; rfl) (by decide) (law_c12 hc hXs hbl hbz hLn hfl (by omega) hR hm hcs kont)
        · exact x_tableIn (off := 914) (tgt := 954) hc dL_law_40 (by rw [ht]; decide) (by rw [ht]; decide) (by rw [ht]; rfl) (by decide) (law_c13 hc hXs hbl hbz hLn hfl (by omega) hR hm hcs kont)
        · exact x_tableIn (off := 982) (tgt := 1022) hc dL_law_40 (by rw [ht]; decide) (by rw [ht]; decide) (by rw [ht]; rfl) (by decide) (law_c14 hc hXs hbl hbz hLn hfl (by omega) hR hm hcs kont)
        · exact x_tableIn (off := 1050) (tgt := 1090) hc dL_law_40 (by rw [ht]; decide) (by rw [ht]; decide) (by rw [ht]; rfl) (by decide) (law_c15 hc hXs hbl hbz hLn hfl (by omega) hR hm hcs kont)
        · exact x_tableIn (off := 1106) (tgt := 1146) hc dL_law_40 (by rw [ht]; decide) (by rw [ht]; decide) (by rw [ht]; rfl) (by decide) (law_c16 hc hXs hbl hbz hLn hfl (by omega) hR hm hcs kont)
        · exact x_tableIn (off := 1119) (tgt := 1159) hc dL_law_40 (by rw [ht]; decide) (by rw [ht]; decide) (by rw [ht]; rfl) (by decide) (law_c17 hc hXs hbl hbz hLn hfl (by omega) hR hm hcs kont)
        · exact x_tableIn (off := 1175) (tgt := 1215) hc dL_law_40 (by rw [ht]; decide) (by rw [ht]; decide) (by rw [ht]; rfl) (by decide) (law_c18 hc hXs hbl hbz hLn hfl (by omega) hR hm hcs kont)
        · exact x_tableIn (off := 1231) (tgt := 1271) hc dL_law_40 (by rw [ht]; decide) (by rw [ht]; decide) (by rw [ht]; rfl) (by decide) (law_c19 hc hXs hbl hbz hLn hfl (by omega) hR hm hcs kont)
      · refine x_tableOut (tgt := 1327) hc dL_law_40 (by omega) (by decide) ?_
        refine x_widen (show 55 + 10 * st ≤ 55 + 10 * st + 10 by omega) (show 442 + 70 * st ≤ 442 + 70 * st + 70 by omega) ?_
        exact kont L K N I J R hR.up
    · refine x_iload (j := 0) hc dL_law_23 rfl ?_
      refine x_aload_n (j := 4) hc dL_law_25 rfl rfl ?_
      refine x_slen hc hXs hbl hbz dL_law_26 ?_
      refine x_bipush (v := 6) hc dL_law_27 (by decide) ?_
      refine x_isub hc dL_law_29 ?_
      refine x_icmp_gt (tgt := 1333) hc dL_law_30 (by decide) (fun _ => ?_) (fun q9 => absurd (less6 hm hLn (by omega)) q9)
      refine x_iconst (v := 1) hc dL_law_1333 (by decide) ?_
      exact x_lawret hc.x hc.b hr hc.2.2.2 (by omega) (by omega) dL_law_1334
set_option maxHeartbeats 4000000 in
set_option maxRecDepth 100000 in
theorem law_main {p : Program} {l : Launch} {e : Env} {s : State} {m0 : MethodId} {below : List Frame} {meth : Method} {c : Code} {b Ln : Nat} {xs : Nat → Int32} {D : va_G} {e0 : Nat} (hc : CT p l s m0 #[Value.ref b] meth c D s.heap.size e0 cL_law 7 RL wsL_law) (hr : meth.sig.returnType = ret) (hXs : va_X b Ln xs s s.heap) (hbl : b < s.heap.size) (hLn : Ln ≤ 3072) (hfl : l.stackTraces = false) : XW p l e room_1 s m0 #[Value.ref b] below meth c D s.heap.size 7 ([] : List Nat) (fun _ => (0 : Nat)) (fun _ => (0 : Nat)) (fun _ _ => (0 : Int32)) (fun _ _ => (0 : Int64)) (fun _ _ => (none : Option Nat)) (0) (0) (lw_Z below #[Value.ref b] s) 0 [(0, .ref b)] [] := by
  refine x_new (C := RX2) (T := TX2) (NN := 5) (ci := 3) hc (3) tyX2 tyX2_ok inlX2 rfl lcl_L_law_8 lins_L_law_3 lini_L_law_3 (by decide) (by decide) dfvX2 ⟨Nat.le_of_ble_eq_true rfl, Nat.le_of_ble_eq_true rfl⟩ dL_law_0 (fun x L1 K1 N1 I1 J1 R1 n1 => ?_)
  refine x_dup hc dL_law_3 rfl ?_
  refine x_callIF (b := x) (As := []) (st := [.ref x]) hc (c_netInit l D s.heap.size e0 L1 K1 N1 I1 J1 R1 x n1.2.1) gL_law_X2_init rfl hdS_X2_init ⟨Nat.le_of_ble_eq_true rfl, Nat.le_of_ble_eq_true rfl⟩ rfl lini_L_law_X2_init lml_L_law_73 lin_L_law_X2_init rfl rfl ⟨Nat.le_of_ble_eq_true rfl, Nat.le_of_ble_eq_true rfl⟩ (Nat.le_of_ble_eq_true rfl) dL_law_4 (fun v9 L9 K9 N9 I9 J9 R9 hz9 => ?_)
  obtain ⟨rfl, hCls, hPN, hRe, hI3, hE2⟩ := hz9
  have C0 := crel0 (J := J9) hCls hPN hRe hI3
  refine x_astore_n (lv' := [(1, .ref x), (0, .ref b)]) hc dL_law_7 rfl (by decide) rfl ?_
  refine x_new (C := RX3) (T := TX3) (NN := 19) (ci := 4) hc (52) tyX3 tyX3_ok inlX3 rfl lcl_L_law_74 lins_L_law_4 lini_L_law_4 (by decide) (by decide) dfvX3 ⟨Nat.le_of_ble_eq_true rfl, Nat.le_of_ble_eq_true rfl⟩ dL_law_8 (fun m L3 K3 N3 I3 J3 R3 n3 => ?_)
  replace C0 := C0.ext n3.ext (fun _ _ _ _ _ h => h)
  refine x_dup hc dL_law_11 rfl ?_
  refine x_callIF (b := m) (As := []) (st := [.ref m]) hc (m_init l D s.heap.size e0 L3 K3 N3 I3 J3 R3 m n3.2.1) gL_law_X3_init rfl hdS_X3_init ⟨Nat.le_of_ble_eq_true rfl, Nat.le_of_ble_eq_true rfl⟩ rfl lini_L_law_X3_init lml_L_law_76 lin_L_law_X3_init rfl rfl ⟨Nat.le_of_ble_eq_true rfl, Nat.le_of_ble_eq_true rfl⟩ (Nat.le_of_ble_eq_true rfl) dL_law_12 (fun v8 L8 K8 N8 I8 J8 R8 hz8 => ?_)
  obtain ⟨rfl, hMd, hMz, hMi, hE4⟩ := hz8
  replace C0 := C0.ext hE4 (fun a _ _ h52 _ e => h52 (by rw [e]; exact n3.2.1.2.1))
  have M0 := mrel0 hMd hMz (hMi.trans n3.2.2.1)
  refine x_astore_n (lv' := [(2, .ref m), (1, .ref x), (0, .ref b)]) hc dL_law_15 rfl (by decide) rfl ?_
  refine x_iconst (v := 1) hc dL_law_16 (by decide) ?_
  refine x_newaJ hc (70) (n0 := 1) larr_L_law_long (by omega) (by decide) (by decide) ⟨Nat.le_of_ble_eq_true rfl, Nat.le_of_ble_eq_true rfl⟩ dL_law_17 (fun ou L5 K5 N5 I5 J5 R5 n5 => ?_)
  replace C0 := C0.ext n5.ext (fun _ _ _ _ _ h => h)
  replace M0 := M0.ext n5.ext (fun _ _ _ h => h)
  have hR : REL e0 x m ou 0 L5 K5 N5 I5 J5 R5 := ⟨0, 0, _, _, _, _, _, _, _, _, C0, M0, val0, n5.2.1⟩
  refine x_astore_n (lv' := [(3, .ref ou), (2, .ref m), (1, .ref x), (0, .ref b)]) hc dL_law_19 rfl (by decide) rfl ?_
  refine x_iconst (v := 0) hc dL_law_20 (by decide) ?_
  refine x_istore (lv' := [(4, .int 0), (3, .ref ou), (2, .ref m), (1, .ref x), (0, .ref b)]) hc dL_law_21 (by decide) rfl ?_
  exact law_loop hc hr hXs hbl hLn hfl (Ln + 1) 0 _ _ _ _ _ _ (by omega) (by omega) hR
theorem whole_start {p : Program} {e : Env} {s : State} {m : MethodId} {below : List Frame} {meth : Method} {c : Code} (l : Launch) (hflags : l.flags = flags0) {b L : Nat} {xs : Nat → Int32} (hL : L ≤ 3072) (C0 : lw_At p s m meth c b L xs) : W p l e room_1 s m #[Value.ref b] below meth c s.heap [] 0 0 (lw_Z below #[Value.ref b] s) (entryFrame m ([Value.ref b] : List Value).toArray 7) := by
  obtain ⟨hx, hb, hret, hml, hown, hts, hX, hbl, hlk, hgv⟩ := C0
  have hfl : l.stackTraces = false := by
    unfold Launch.stackTraces
    rw [hflags]
    decide
  obtain ⟨D, e0, hev⟩ := law_ev hts hgv
  have hc : CT p l s m #[Value.ref b] meth c D s.heap.size e0 cL_law 7 RL wsL_law := ⟨⟨hx, hb, hml, hown, fun w hw => hts w (wsL_law_in w hw)⟩, hev, Nat.le_refl _, hlk⟩
  rw [lg_entry_eq]
  exact law_main hc hret hX hbl hL hfl s.heap [] _ (fun k q hq => by simp [wd, va_pl] at hq) ⟨fun i j p q hi hj _ => by simp [wd, va_pl] at hi, fun k q hq => by simp [wd, va_pl] at hq⟩ va_S.rf (lv_entry [Value.ref b] (Nat.le_of_ble_eq_true rfl))
set_option maxHeartbeats 4000000 in
theorem lw_walk (l : Launch) (hflags : l.flags = flags0) (b : Addr) (xs : List Int32) : MetFree l x (headSpec (Jvm.Cond.code x code maxLocals ret :: tables_1) room_1) (lw_P b xs) (fun _ _ _ _ _ => True) lw_Q := by
  refine MetFree.of_bodyS (code := code) (maxLocals := maxLocals) (ret := ret) (by decide) ?_ ?_
  · intro args s m h hn
    obtain ⟨meth, c, h1, h2, h3, h4, h5, h6, -, -⟩ := Cond.code_spec hn (atoms_spec (ws := Jvm.Cond.code x code maxLocals ret :: tables_1) h _ List.mem_cons_self)
    exact ⟨meth, c, h1, h2, h3, h4, h5, h6⟩
  · intro p e s m args below meth c s₁ B hml0 hP _
    obtain ⟨rfl, hx, hbd, hgv⟩ := hP
    obtain ⟨scr, harrAt, hlist, hof, hsmall⟩ := hx
    obtain ⟨hcb, hkn, -, -⟩ := State.arrayAt?_spec harrAt
    have hown : s.vm.findClass R_law = some m.cls := findClass_of_methodNamed B.named
    have hts0 : ∀ c ∈ (Jvm.Cond.code x code maxLocals ret :: tables_1), c.before #[Value.ref b] s = true := atoms_spec (ws := Jvm.Cond.code x code maxLocals ret :: tables_1) B.pre
    have hts : ∀ w ∈ lw_tbl, w.before #[Value.ref b] s = true := k2_hts_sels lw_privs (fun w hw => hts0 w (List.mem_cons_of_mem _ hw)) lw_privs_ok
    have hml : c.maxLocals = 7 := B.maxLocals_eq (hts0 _ List.mem_cons_self)
    have X₀ : Stand p l e room_1 s m #[Value.ref b] below meth c s₁ [] 0 0 := Stand.of_body B
    have hh0 : s₁.heap = s.heap := by rw [B.state]; rfl
    have hsz : scr.slots.size = xs.length := by rw [← Array.length_toList, hlist, List.length_map]
    have hval : ∀ j : Nat, j < xs.length → scr.slots[j]? = some (.int (xs.getD j 0)) := fun j hj => by
      rw [← Array.getElem?_toList, hlist]
      simp [hj]
    have hbl : b < s.heap.size := (Array.getElem?_eq_some_iff.mp hcb).1
    have hX : va_X b xs.length (fun j => xs.getD j 0) s s.heap := ⟨scr, hcb, hof, hkn, hsz, hval⟩
    have K : W p l e room_1 s m #[Value.ref b] below meth c s₁.heap [] 0 0 (lw_Z below #[Value.ref b] s) (entryFrame m ([Value.ref b] : List Value).toArray 7) := by
      rw [hh0]
      exact whole_start l hflags hbd ⟨B.exec, B.bytes, B.returns, hml, hown, hts, hX, hbl, B.notSynchronized, hgv⟩
    obtain ⟨t, a1, o, b1, b2, b3⟩ := K s₁ rfl X₀
    exact ⟨t, o, a1, b1, b2, b3⟩
theorem lw_pre_spec {args : Array Value} {s : State} (h : (Jvm.Cond.and given_1 narrow_1).before args s = true) (hr : rest_1_c.before args s = true) : ∃ (b : Addr) (xs : List Int32), lw_P b xs args s := by
  have hs := flat_of_before _ h
  have hq := flat_of_before _ hr
  have hc : (Cond.count 1).before args s = true := hs _ (by decide +kernel)
  have harr : (Cond.arrayOf (.arg 0) .int).before args s = true := hs _ (by decide +kernel)
  have hle : (Cond.le (.length (.arg 0)) (.int 3072)).before args s = true := hs _ (by decide +kernel)
  have hlen : (Cond.isInt (.length (.arg 0))).before args s = true := hq _ (by decide +kernel)
  have hall : (Cond.all (.arg 0) (.isInt (.elem (.arg 0) (.index 0)))).before args s = true := hq _ (by decide +kernel)
  obtain ⟨b, xs, hb, hx⟩ := State.ints_of_pre rfl harr hlen hall
  have hsm : xs.length < 2 ^ 31 := hx.choose_spec.2.2.2
  have hev : (Term.length (.arg 0)).eval args s none [] s = some (.int xs.length.toInt32) := hx.length_eval hb
  have hv := Cond.le_ints hev (show (Term.int 3072).eval args s none [] s = some (.int 3072) from rfl)
  have hd : xs.length.toInt32 ≤ 3072 := by
    simpa [Cond.before, Cond.holds, hv] using hle
  have hN : xs.length ≤ 3072 := (Int32.ofNat_le_ofNat hsm (by decide)).mp (show Int32.ofNat xs.length ≤ Int32.ofNat 3072 from hd)
  exact ⟨b, xs, Cond.one_arg hc (show args[0]? = some (.ref b) from hb), hx, hN, h⟩
theorem lw_comes (l : Launch) (hflags : l.flags = flags0) : Comes l x (Jvm.Cond.code x code maxLocals ret :: tables_1) room_1 (fun tb e args s => Calls_1 tb e args s ∧ rest_1 tb e args s ∧ Pre_1 tb e args s)
    (fun _ _ args s o t => lw_Q args s o t) := by
  intro p e ha hc hk s m args below hf hfit hheap happ hpre
  obtain ⟨b, xs, hP⟩ := lw_pre_spec hpre.2.2 hpre.2.1
  obtain ⟨k, o, h1, h2, h3, hQ⟩ := lw_walk l hflags b xs p e ha hc hk s m args below hf ((Spec.applies_iff_loose hf).mp happ).1 hP trivial
  exact ⟨k, o, h1, h2, h3, hQ⟩
theorem lw_frame {s t : State} {o : Outcome} {args : Array Value} (h : Framed s o t [] 601024 7293033) :
    Framed s o t (fieldLocs frame_1_writes args s ++ arrayLocs frame_1_arrays args s ++ staticLocs frame_1_statics s) 601024 7293033 := h
theorem lw_limb (L : Cond) (hL : ∀ (args : Array Value) (s t : State), L.after args s (.returned (some (.int 1))) t = true) :
    ArmFor flags0 classFile x code maxLocals ret World_1 tables_1 room_1 Calls_1 rest_1 Pre_1
      (fun tb e a s o t => postC L tb e a s o t ∧ Framed s o t (fieldLocs frame_1_writes a s ++ arrayLocs frame_1_arrays a s ++ staticLocs frame_1_statics s) 601024 7293033) := by
  intro l hflags _ _ p e ha hc hk s m args below hf hfit hheap happ hpre
  obtain ⟨k, o, h1, h2, h3, rfl, hF⟩ := lw_comes l hflags p e ha hc hk s m args below hf hfit hheap happ hpre
  exact ⟨k, _, h1, h2, h3, hL args s _, lw_frame hF⟩
theorem i_vc : Claimed_1_1 ∧ Claimed_1_2 := ⟨lw_limb limb_1_1 (fun args s t => by simp [limb_1_1, Cond.after, Cond.holds, Cond.value]), lw_limb limb_1_2 (fun args s t => Cond.after_iff.mpr (by
  first | (rw [show limb_1_2 = Cond.eq .result (.int 1) from rfl, Cond.eq_ints (x := 1) (y := 1) rfl rfl]; simp; done) | (simp [limb_1_2, Cond.value, Term.eval]; done)))⟩

