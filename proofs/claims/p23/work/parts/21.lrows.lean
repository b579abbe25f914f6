/-! Rows for the law's own steps: its script, shifts, rests. -/
theorem nI_mul (a b : Nat) : nI a * nI b = nI (a * b) := (Int32.ofNat_mul a b).symm
theorem i32_sub_self (a : Int32) : a - a = 0 := by
  apply Int32.toInt_inj.mp
  rw [Int32.toInt_sub, Int.sub_self]
  rfl
/-- x >>> 1 -/
def usr1 (x : Int32) : Int32 := (x.toUInt32 >>> ((1 : Int32).toUInt32 &&& Int32.toUInt32 31)).toInt32
theorem usr1_nI (x : Int32) : usr1 x = nI (x.toBitVec.toNat / 2) := by
  have h := pk_ushr x 1 1 (by decide)
  have hx := x.toBitVec.isLt
  apply Int32.toBitVec_inj.mp
  apply BitVec.eq_of_toNat_eq
  unfold usr1
  rw [h, pk_tn (by omega)]
theorem at_ok (x : Int32) {n : Int32} {d : Nat} (hn : n = nI d) (h0 : 0 < d) (h1 : d < 2 ^ 31) : ∃ a, a < d ∧ usr1 x - usr1 x / n * n = nI a := by
  have hx := x.toBitVec.isLt
  subst hn
  rw [usr1_nI, pk_rem (by omega) h0 h1]
  exact ⟨_, Nat.mod_lt _ h0, rfl⟩
def PCX (b Ln : Nat) (xs : Nat → Int32) (D : va_G) (z e0 : Nat) (L : List Nat) (K N : Nat → Nat) (I : Nat → Nat → Int32) (J : Nat → Nat → Int64) (R : Nat → Nat → Option Nat) (av : List Value) : Array Value → State → Prop := fun a U => PC D z e0 L K N I J R av a U ∧ va_X b Ln xs U U.heap ∧ b < U.heap.size ∧ b < z
theorem PCX.blind {b Ln : Nat} {xs : Nat → Int32} {D : va_G} {z e0 : Nat} {L : List Nat} {K N : Nat → Nat} {I : Nat → Nat → Int32} {J : Nat → Nat → Int64} {R : Nat → Nat → Option Nat} {av : List Value} : FrameBlind (PCX b Ln xs D z e0 L K N I J R av) := by
  intro a U g mk h
  obtain ⟨h1, h2, h3, h4⟩ := h
  exact ⟨PC.blind a U g mk h1, va_X.moved (u := U) (U := U.calling g mk a) (State.WarmedH.refl U).alike h2, h3, h4⟩
def MGX (b Ln : Nat) (xs : Nat → Int32) (l : Launch) (y : MethodName) (ws : List Cond) (rm : Room) (D : va_G) (z e0 : Nat) (L : List Nat) (K N : Nat → Nat) (I : Nat → Nat → Int32) (J : Nat → Nat → Int64) (R : Nat → Nat → Option Nat) (av : List Value) (post : Option Value → (Nat → Nat → Int32) → (Nat → Nat → Int64) → Prop) : Prop :=
  Met l y ws rm (PCX b Ln xs D z e0 L K N I J R av) (QG D z L K N R post) rm.cells rm.slots (fun q => z ≤ q)
section LV
variable {p : Program} {l : Launch} {e : Env} {R0 : Room} {s : State} {m : MethodId} {args : Array Value} {below : List Frame} {meth : Method} {c : Code} {D : va_G} {z e0 nL : Nat} {own : String} {Ts : List Cond} {cc : ByteArray} {L : List Nat} {K N : Nat → Nat} {I : Nat → Nat → Int32} {J : Nat → Nat → Int64} {R : Nat → Nat → Option Nat} {cells slots : Nat} {Q : State → Prop} {pc : Nat} {lv : List (Nat × Value)} {st stk : List Value}
theorem x_irem (hc : CT p l s m args meth c D z e0 cc nL own Ts) {x y : Int32} (hy : ¬ y = 0) (d : decode cc pc = .ok (.irem, 1)) (k : XW p l e R0 s m args below meth c D z nL L K N I J R cells slots Q (pc + 1) lv (.int (x - x / y * y) :: st)) : XW p l e R0 s m args below meth c D z nL L K N I J R cells slots Q pc lv (.int y :: .int x :: st) := fun H locs ls h1 h2 h3 h4 => lv_irem hc.x hc.b d hy (k H locs ls h1 h2 h3 h4)
theorem x_ishr (hc : CT p l s m args meth c D z e0 cc nL own Ts) {x y : Int32} (d : decode cc pc = .ok (.ishr, 1)) (k : XW p l e R0 s m args below meth c D z nL L K N I J R cells slots Q (pc + 1) lv (.int (x >>> (y &&& 31)) :: st)) : XW p l e R0 s m args below meth c D z nL L K N I J R cells slots Q pc lv (.int y :: .int x :: st) := fun H locs ls h1 h2 h3 h4 => lv_ishr hc.x hc.b d (k H locs ls h1 h2 h3 h4)
theorem x_iushr1 (hc : CT p l s m args meth c D z e0 cc nL own Ts) {x : Int32} (d : decode cc pc = .ok (.iushr, 1)) (k : XW p l e R0 s m args below meth c D z nL L K N I J R cells slots Q (pc + 1) lv (.int (usr1 x) :: st)) : XW p l e R0 s m args below meth c D z nL L K N I J R cells slots Q pc lv (.int 1 :: .int x :: st) := fun H locs ls h1 h2 h3 h4 => lv_iushr hc.x hc.b d rfl (k H locs ls h1 h2 h3 h4)
theorem x_sld (hc : CT p l s m args meth c D z e0 cc nL own Ts) {b Ln n : Nat} {xs : Nat → Int32} {i : Int32} (hX : va_X b Ln xs s s.heap) (hbl : b < s.heap.size) (hbz : b < z) (hi : i = nI n) (hn : n < Ln) (hL : Ln ≤ 260) (d : decode cc pc = .ok (.iaload, 1)) (k : XW p l e R0 s m args below meth c D z nL L K N I J R cells slots Q (pc + 1) lv (.int (xs n) :: st)) : XW p l e R0 s m args below meth c D z nL L K N I J R cells slots Q pc lv (.int i :: .ref b :: st) := by
  intro H locs ls h1 h2 h3 h4
  subst hi
  have hin : vp_in (nI n) Ln := vp_in_nI hn (by omega)
  refine va_sld hc.x hc.b hX hbl (fun h => absurd h (Nat.not_le.mpr hbz)) h3 hin d ?_
  rw [nI_clamp (show n < 2 ^ 31 by omega)]
  exact k H locs ls h1 h2 h3 h4
theorem x_slen (hc : CT p l s m args meth c D z e0 cc nL own Ts) {b Ln : Nat} {xs : Nat → Int32} (hX : va_X b Ln xs s s.heap) (hbl : b < s.heap.size) (hbz : b < z) (d : decode cc pc = .ok (.arraylength, 1)) (k : XW p l e R0 s m args below meth c D z nL L K N I J R cells slots Q (pc + 1) lv (.int (nI Ln) :: st)) : XW p l e R0 s m args below meth c D z nL L K N I J R cells slots Q pc lv (.ref b :: st) := fun H locs ls h1 h2 h3 h4 => va_slen hc.x hc.b hX hbl (fun h => absurd h (Nat.not_le.mpr hbz)) h3 d (k H locs ls h1 h2 h3 h4)
theorem mgx_of {b Ln : Nat} {xs : Nat → Int32} {y : MethodName} {ws ws' : List Cond} {rm : Room} {maxL : Nat} {ret : Option FieldType} {av : List Value} {post : Option Value → (Nat → Nat → Int32) → (Nat → Nat → Int64) → Prop} (hy : plainName y.cls = true) (hw : ws = Cond.code y cc maxL ret :: ws') (hown : y.cls = own) (hlen : (lg_sl av).length ≤ maxL)
    (body : ∀ (p : Program) (e : Env) (s : State) (m : MethodId) (args : Array Value) (below : List Frame) (meth : Method) (c : Code), CT p l s m args meth c D z e0 cc maxL own ws → va_X b Ln xs s s.heap → b < s.heap.size → b < z → meth.sig.returnType = ret → XW p l e rm s m args below meth c D z maxL L K N I J R 0 0 (MQ below (QG D z L K N R post) args s rm.cells rm.slots (fun q => z ≤ q)) 0 (lv_args 0 av) []) : MGX b Ln xs l y ws rm D z e0 L K N I J R av post := by
  refine Met.ofW (cc := cc) (maxL := maxL) (ret := ret) hy hw ?_
  intro p e s m args below meth c s₁ B hml hv
  obtain ⟨⟨rfl, hev, hz, hP, hD⟩, hX, hbl, hbz⟩ := hv
  have hts := atoms_spec (ws := ws) B.pre
  have ho : s.vm.findClass own = some m.cls := by rw [← hown]; exact findClass_of_methodNamed B.named
  rw [lg_entry_eq]
  exact body p e s m _ below meth c ⟨⟨B.exec, B.bytes, hml, ho, hts⟩, hev, hz, B.notSynchronized⟩ hX hbl hbz B.returns s.heap [] _ hP hD va_S.rf (lv_entry av hlen)
theorem x_callSZ (hc : CT p l s m args meth c D z e0 cc nL own Ts) {b Ln : Nat} {xs : Nat → Int32} (hX : va_X b Ln xs s s.heap) (hbl : b < s.heap.size) (hbz : b < z) {index n maxL : Nat} {y : MethodName} {ws ws' : List Cond} {bytes : ByteArray} {ret : Option FieldType} {rm : Room} {As : List Value} {post : Option Value → (Nat → Nat → Int32) → (Nat → Nat → Int64) → Prop} (hM : MGX b Ln xs l y ws rm D z e0 L K N I J R As post) (hT : GoodIn Ts (va_wsS own index y ws)) (hw : ws = Cond.code y bytes maxL ret :: ws') (hd : y.cls ≠ "java/lang/invoke/MethodHandle" ∧ y.cls ≠ "java/lang/invoke/VarHandle" ∧ (parseMethodDescriptor y.desc).map (fun d => d.parameters.length) = some n) (hR : rm.frames + 1 ≤ R0.frames ∧ 8 + (maxL + 11) + rm.locals ≤ R0.locals) (hn : As.length = n) (hst : stk = As.reverse ++ st) (hcs : cells + rm.cells ≤ R0.cells ∧ slots + rm.slots ≤ R0.slots) (hroom : (st.map fun v => v.category).sum ≤ 8) (d : decode cc pc = .ok (.invokestatic index, 3)) (k : ∀ (v : Option Value) (I' : Nat → Nat → Int32) (J' : Nat → Nat → Int64), post v I' J' → XW p l e R0 s m args below meth c D z nL L K N I' J' R (cells + rm.cells) (slots + rm.slots) Q (pc + 3) lv (v.toList ++ st)) : XW p l e R0 s m args below meth c D z nL L K N I J R cells slots Q pc lv stk := by
  intro H locs ls h1 h2 h3 h4
  have hpre : ∀ U : State, U.heap = H → s.WarmedH U.vm → PCX b Ln xs D z e0 L K N I J R As As.toArray U := fun U hU hW => ⟨x_pre hc (av := As) h1 h2 h3 U hU hW, va_X.moved hW.alike (hX.kept (by rw [hU]; exact h3.2.1 b hbl (fun g => absurd g (Nat.not_le.mpr hbz)))), by rw [hU]; exact Nat.lt_of_lt_of_le hbl h3.1, hbz⟩
  have hrun := va_runS (e := e) (meth := meth) (below := below) (locs := locs) (cells := cells) (slots := slots) (g := F0 m pc ls stk) (rest := st) hc.1 hM (va_cwS n hc.w hT hw rfl rfl hd hR) ⟨PCX.blind, hpre⟩ rfl hn h4.1 hst (lv_room hroom) d hcs
  exact x_use hrun h3 h4 k
theorem ge_of {i n : Nat} (h : ¬ nI i ≥ nI n) (hi : i < 2 ^ 31) (hn : n < 2 ^ 31) : i < n := by
  have h2 := (not_congr (nI_leI hn hi)).mp h
  omega
end LV
