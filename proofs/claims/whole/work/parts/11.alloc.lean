/-! Rows that make cells, and those that speak of the JDK's empty array. -/
theorem wd_push {D : va_G} {L : List Nat} {K N : Nat → Nat} {I : Nat → Nat → Int32} {J : Nat → Nat → Int64} {R : Nat → Nat → Option Nat} {q t n : Nat} {i0 : Nat → Int32} {j0 : Nat → Int64} {r0 : Nat → Option Nat} {e : va_E} (hq : q ∉ L) (he : e = ce D (va_up K q t) (va_up N q n) (va_up I q i0) (va_up J q j0) (va_up R q r0) q) : wd D L K N I J R ++ [(q, e)] = wd D (L ++ [q]) (va_up K q t) (va_up N q n) (va_up I q i0) (va_up J q j0) (va_up R q r0) := by
  unfold wd
  rw [va_pl_push hq]
  refine va_pl_congr (fun b => ?_)
  by_cases hb : b = q
  · subst hb
    rw [va_up_self, he]
  · rw [va_up_ne _ _ hb]
    unfold ce
    rw [va_up_ne _ _ hb, va_up_ne _ _ hb, va_up_ne _ _ hb, va_up_ne _ _ hb, va_up_ne _ _ hb]
theorem At.push {L : List Nat} {K N : Nat → Nat} {a t n q t' n' : Nat} (h : At L K N a t n) (hq : q ∉ L) : At (L ++ [q]) (va_up K q t') (va_up N q n') a t n := by
  have hne : a ≠ q := fun e => hq (e ▸ h.1)
  exact ⟨List.mem_append_left _ h.1, by rw [va_up_ne _ _ hne]; exact h.2.1, by rw [va_up_ne _ _ hne]; exact h.2.2⟩
theorem At.new {L : List Nat} {K N : Nat → Nat} {q t n : Nat} : At (L ++ [q]) (va_up K q t) (va_up N q n) q t n := ⟨List.mem_append_right _ (List.mem_singleton.mpr rfl), va_up_self _ _ _, va_up_self _ _ _⟩
theorem At.out {L : List Nat} {K N : Nat → Nat} {a t n q : Nat} (h : At L K N a t n) (hq : q ∉ L) : a ≠ q := fun e => hq (e ▸ h.1)
/-- the old cells are as they were, but for p -/
def Ext (L : List Nat) (K N : Nat → Nat) (I : Nat → Nat → Int32) (J : Nat → Nat → Int64) (R : Nat → Nat → Option Nat) (L' : List Nat) (K' N' : Nat → Nat) (I' : Nat → Nat → Int32) (J' : Nat → Nat → Int64) (R' : Nat → Nat → Option Nat) (p : Nat → Prop) : Prop :=
  ∀ a, a ∈ L → a ∈ L' ∧ K' a = K a ∧ N' a = N a ∧ (¬ p a → I' a = I a ∧ J' a = J a ∧ R' a = R a)
section XA
variable {p : Program} {l : Launch} {e : Env} {R0 : Room} {s : State} {m : MethodId} {args : Array Value} {below : List Frame} {meth : Method} {c : Code} {D : va_G} {z e0 nL : Nat} {own : String} {Ts : List Cond} {cc : ByteArray} {L : List Nat} {K N : Nat → Nat} {I : Nat → Nat → Int32} {J : Nat → Nat → Int64} {R : Nat → Nat → Option Nat} {cells slots : Nat} {Q : State → Prop} {pc : Nat} {lv : List (Nat × Value)} {st : List Value}
theorem x_objInit (hc : CT p l s m args meth c D z e0 cc nL own Ts) {index a : Nat} (hl : Cond.methodLink own index objectInit ∈ Ts) (hi : Cond.instanceMethod objectInit ∈ Ts) (hcd : Cond.code objectInit ⟨#[0xb1]⟩ 1 none ∈ Ts) (hf : 1 ≤ R0.frames) (hlo : (st.map fun v => v.category).sum + 12 ≤ R0.locals) (d : decode cc pc = .ok (.invokespecial index, 3)) (k : XW p l e R0 s m args below meth c D z nL L K N I J R cells slots Q (pc + 3) lv st) : XW p l e R0 s m args below meth c D z nL L K N I J R cells slots Q pc lv (.ref a :: st) := by
  intro H locs ls h1 h2 h3 h4
  refine W.objInit (g := F0 m pc ls (.ref a :: st)) hc.x hc.b hc.o (hc.w _ hl) (hc.w _ hi) (hc.w _ hcd) rfl (h4.1.trans hc.ml.symm) rfl d hf (by show 2 * 0 + _ + 12 ≤ _; omega) ?_
  exact k H locs ls h1 h2 h3 h4
theorem x_new (hc : CT p l s m args meth c D z e0 cc nL own Ts) {C : String} {T : u_T} {NN ci index : Nat} (tag : Nat) (ty0 : Nat → FieldType) (hty : ∀ k, k < NN → parseFieldDescriptor (T k).2.2.1 = some (ty0 k)) (hin : ∀ w ∈ u_ws C T NN, w ∈ Ts) (hcl : vwCl[ci]? = some (C, T, NN)) (hlink : Cond.classLink own index C ∈ Ts) (hinst : Cond.instantiable C NN ∈ Ts) (hini : Cond.initialized C ∈ Ts) (ht : tag % 16 = ci) (h5 : ci < 5)
    (hfs : ∀ j, j < NN → defaultValue (ty0 j) = vp_V (fsl (fun _ => 0) (fun _ => 0) (fun _ => none) (lay ci) 0) j) (hcs : cells + 1 ≤ R0.cells ∧ slots + NN ≤ R0.slots) (d : decode cc pc = .ok (.new index, 3)) (k : ∀ q, q ∉ L → XW p l e R0 s m args below meth c D z nL (L ++ [q]) (va_up K q tag) (va_up N q 0) (va_up I q (fun _ => 0)) (va_up J q (fun _ => 0)) (va_up R q (fun _ => none)) (cells + 1) (slots + NN) Q (pc + 3) lv (.ref q :: st)) : XW p l e R0 s m args below meth c D z nL L K N I J R cells slots Q pc lv st := by
  intro H locs ls h1 h2 h3 h4
  refine va_new hc.x hc.b hc.w hin ty0 hty hc.o (hc.w _ hlink) (hc.w _ hinst) (hc.w _ hini) hc.k h1 h2 h3 hc.z hcl hfs hcs.1 hcs.2 d (fun q H1 g1 g2 g3 => ?_)
  have hq : q ∉ L := va_pl_fresh2 (X := []) g2
  have e : wd D L K N I J R ++ [(q, .inr (ci, fsl (fun _ => 0) (fun _ => 0) (fun _ => none) (lay ci) 0))] = wd D (L ++ [q]) (va_up K q tag) (va_up N q 0) (va_up I q (fun _ => 0)) (va_up J q (fun _ => 0)) (va_up R q (fun _ => none)) := by
    refine wd_push hq ?_
    rw [ce_o (k := ci) (by rw [va_up_self]; exact ht) h5, va_up_self, va_up_self, va_up_self]
  rw [e] at g1 g2
  exact k q hq H1 locs ls g1 g2 g3 h4
theorem x_newaI (hc : CT p l s m args meth c D z e0 cc nL own Ts) (tag : Nat) {n : Int32} {n0 : Nat} (harr : Cond.arrayClass .int ∈ Ts) (ht : tag % 16 = 5) (hn : n = nI n0) (hb : n0 ≤ 1000) (hcs : cells + 1 ≤ R0.cells ∧ slots + n0 ≤ R0.slots) (d : decode cc pc = .ok (.newarray .int, 2)) (k : ∀ q, q ∉ L → XW p l e R0 s m args below meth c D z nL (L ++ [q]) (va_up K q tag) (va_up N q n0) (va_up I q (fun _ => 0)) (va_up J q (fun _ => 0)) (va_up R q (fun _ => none)) (cells + 1) (slots + n0) Q (pc + 2) lv (.ref q :: st)) : XW p l e R0 s m args below meth c D z nL L K N I J R cells slots Q pc lv (.int n :: st) := by
  intro H locs ls h1 h2 h3 h4
  subst hn
  refine va_newa (atype := .int) (ty := .int) (a0 := (n0, .inl (fun _ => 0))) (N' := n0) hc.x hc.b (hc.w _ harr) rfl hc.k h1 h2 h3 hc.z (fun cA => vp_cell_i cA n0 (fun _ => 0)) (nI_pos (by omega)) (nI_clamp (by omega)) (by show n0 * _ ≤ _; simp only [componentBytes]; omega) hcs.1 hcs.2 d (fun q cA H1 g0 g1 g2 g3 => ?_)
  have hq : q ∉ L := va_pl_fresh2 (X := []) g2
  have hcA : cA = D.1 5 := by
    have a1 := (g0.2 4 (cA, .int) rfl).2
    have a2 := (hc.k.2 0 _ rfl).2
    exact Option.some.inj (a1.symm.trans a2)
  subst hcA
  have e : wd D L K N I J R ++ [(q, .inl (D.1 5, (n0, .inl (fun _ => 0))))] = wd D (L ++ [q]) (va_up K q tag) (va_up N q n0) (va_up I q (fun _ => 0)) (va_up J q (fun _ => 0)) (va_up R q (fun _ => none)) := by
    refine wd_push hq ?_
    rw [ce_5 (by rw [va_up_self]; exact ht), va_up_self, va_up_self]
  rw [e] at g1 g2
  exact k q hq H1 locs ls g1 g2 g3 h4
theorem x_newaJ (hc : CT p l s m args meth c D z e0 cc nL own Ts) (tag : Nat) {n : Int32} {n0 : Nat} (harr : Cond.arrayClass .long ∈ Ts) (ht : tag % 16 = 6) (hn : n = nI n0) (hb : n0 ≤ 1000) (hcs : cells + 1 ≤ R0.cells ∧ slots + n0 ≤ R0.slots) (d : decode cc pc = .ok (.newarray .long, 2)) (k : ∀ q, q ∉ L → XW p l e R0 s m args below meth c D z nL (L ++ [q]) (va_up K q tag) (va_up N q n0) (va_up I q (fun _ => 0)) (va_up J q (fun _ => 0)) (va_up R q (fun _ => none)) (cells + 1) (slots + n0) Q (pc + 2) lv (.ref q :: st)) : XW p l e R0 s m args below meth c D z nL L K N I J R cells slots Q pc lv (.int n :: st) := by
  intro H locs ls h1 h2 h3 h4
  subst hn
  refine va_newa (atype := .long) (ty := .long) (a0 := (n0, .inr (.inl (fun _ => 0)))) (N' := n0) hc.x hc.b (hc.w _ harr) rfl hc.k h1 h2 h3 hc.z (fun cA => vp_cell_l cA n0 (fun _ => 0)) (nI_pos (by omega)) (nI_clamp (by omega)) (by show n0 * _ ≤ _; simp only [componentBytes]; omega) hcs.1 hcs.2 d (fun q cA H1 g0 g1 g2 g3 => ?_)
  have hq : q ∉ L := va_pl_fresh2 (X := []) g2
  have hcA : cA = D.1 6 := by
    have a1 := (g0.2 4 (cA, .long) rfl).2
    have a2 := (hc.k.2 1 _ rfl).2
    exact Option.some.inj (a1.symm.trans a2)
  subst hcA
  have e : wd D L K N I J R ++ [(q, .inl (D.1 6, (n0, .inr (.inl (fun _ => 0)))))] = wd D (L ++ [q]) (va_up K q tag) (va_up N q n0) (va_up I q (fun _ => 0)) (va_up J q (fun _ => 0)) (va_up R q (fun _ => none)) := by
    refine wd_push hq ?_
    rw [ce_6 (by rw [va_up_self]; exact ht), va_up_self, va_up_self]
  rw [e] at g1 g2
  exact k q hq H1 locs ls g1 g2 g3 h4
theorem x_newaO (hc : CT p l s m args meth c D z e0 cc nL own Ts) (tag : Nat) {index : Nat} {n : Int32} {n0 : Nat} (hlink : Cond.classLink own index "java/lang/Object" ∈ Ts) (ht : tag % 16 = 7) (hn : n = nI n0) (hb : n0 ≤ 1000) (hcs : cells + 1 ≤ R0.cells ∧ slots + n0 ≤ R0.slots) (d : decode cc pc = .ok (.anewarray index, 3)) (k : ∀ q, q ∉ L → XW p l e R0 s m args below meth c D z nL (L ++ [q]) (va_up K q tag) (va_up N q n0) (va_up I q (fun _ => 0)) (va_up J q (fun _ => 0)) (va_up R q (fun _ => none)) (cells + 1) (slots + n0) Q (pc + 3) lv (.ref q :: st)) : XW p l e R0 s m args below meth c D z nL L K N I J R cells slots Q pc lv (.int n :: st) := by
  intro H locs ls h1 h2 h3 h4
  subst hn
  refine va_newq (N' := n0) hc.x hc.b hc.o (hc.w _ hlink) hc.ev.2.2.2.2.2.2.2.2.2.2.2.2.2.1 hc.k h1 h2 h3 hc.z (nI_pos (by omega)) (nI_clamp (by omega)) (by omega) hcs.1 hcs.2 d (fun q cA H1 g0 g1 g2 g3 => ?_)
  have hq : q ∉ L := va_pl_fresh2 (X := []) g2
  have hcA : cA = D.1 7 := by
    obtain ⟨k1, c1, a1, a2, a3, a4⟩ := (g0.2 4 (cA, .object "java/lang/Object") rfl).2
    obtain ⟨k2, c2, b1, b2, b3, b4⟩ := (hc.k.2 2 _ rfl).2
    exact Option.some.inj (a4.symm.trans b4)
  subst hcA
  have e : wd D L K N I J R ++ [(q, .inl (D.1 7, n0, .inr (.inr (.inr (.inr (fun _ => none))))))] = wd D (L ++ [q]) (va_up K q tag) (va_up N q n0) (va_up I q (fun _ => 0)) (va_up J q (fun _ => 0)) (va_up R q (fun _ => none)) := by
    refine wd_push hq ?_
    rw [ce_7 (by rw [va_up_self]; exact ht), va_up_self, va_up_self]
  rw [e] at g1 g2
  exact k q hq H1 locs ls g1 g2 g3 h4
/-- the JDK's empty array: read, measured, compared -/
theorem x_getsE (hc : CT p l s m args meth c D z e0 cc nL own Ts) {index : Nat} (hlink : Cond.fieldLink own index "java/util/ArrayList" "DEFAULTCAPACITY_EMPTY_ELEMENTDATA" "[Ljava/lang/Object;" ∈ Ts) (d : decode cc pc = .ok (.getstatic index, 3)) (k : XW p l e R0 s m args below meth c D z nL L K N I J R cells slots Q (pc + 3) lv (.ref e0 :: st)) : XW p l e R0 s m args below meth c D z nL L K N I J R cells slots Q pc lv st := fun H locs ls h1 h2 h3 h4 => va_gets hc.x hc.b hc.ev.2.2.2.2.2.2.2.2.2.2.2.2.2.2.1 h3 hc.o (hc.w _ hlink) (fun _ h9 => h9) d (k H locs ls h1 h2 h3 h4)
theorem x_alenE (hc : CT p l s m args meth c D z e0 cc nL own Ts) (d : decode cc pc = .ok (.arraylength, 1)) (k : XW p l e R0 s m args below meth c D z nL L K N I J R cells slots Q (pc + 1) lv (.int 0 :: st)) : XW p l e R0 s m args below meth c D z nL L K N I J R cells slots Q pc lv (.ref e0 :: st) := fun H locs ls h1 h2 h3 h4 => va_tlen hc.x hc.b hc.ev.2.2.2.2.2.2.2.2.2.2.2.2.2.2.2 h3 rfl d (k H locs ls h1 h2 h3 h4)
theorem x_alenO (hc : CT p l s m args meth c D z e0 cc nL own Ts) {a t0 n0 : Nat} (hA : At L K N a t0 n0) (hK : t0 % 16 = 7) (d : decode cc pc = .ok (.arraylength, 1)) (k : XW p l e R0 s m args below meth c D z nL L K N I J R cells slots Q (pc + 1) lv (.int (nI n0) :: st)) : XW p l e R0 s m args below meth c D z nL L K N I J R cells slots Q pc lv (.ref a :: st) := by
  intro H locs ls h1 h2 h3 h4
  obtain ⟨q, hq⟩ := wd_get (D := D) (K := K) (N := N) (I := I) (J := J) (R := R) hA.1
  rw [ce_7 (hA.m hK)] at hq
  exact va_alen hc.x hc.b hc.k h1 q 2 hq rfl (by rw [hA.2.2]; rfl) d (k H locs ls h1 h2 h3 h4)
theorem x_acmpEq (hc : CT p l s m args meth c D z e0 cc nL own Ts) {a : Nat} {off : Int} {tgt : Nat} (d : decode cc pc = .ok (.if_acmp .eq off, 3)) (ht : (pc : Int) + off = (tgt : Int)) (k : XW p l e R0 s m args below meth c D z nL L K N I J R cells slots Q tgt lv st) : XW p l e R0 s m args below meth c D z nL L K N I J R cells slots Q pc lv (.ref a :: .ref a :: st) := fun H locs ls h1 h2 h3 h4 => lv_acmp_eq (rx := some a) (ry := some a) hc.x hc.b d ht (fun _ => k H locs ls h1 h2 h3 h4) (fun q => absurd rfl q)
theorem x_aast (hc : CT p l s m args meth c D z e0 cc nL own Ts) {v a t0 n0 tv n nv : Nat} {i : Int32} (hA : At L K N a t0 n0) (hK : t0 % 16 = 7) (hV : At L K N v tv nv) (hKv : tv % 16 = 2) (hlen : n0 < 2147483648) (hi : i = nI n) (hn : n < n0) (d : decode cc pc = .ok (.aastore, 1)) (k : XW p l e R0 s m args below meth c D z nL L K N I J (u2 R a n (some v)) cells slots Q (pc + 1) lv st) : XW p l e R0 s m args below meth c D z nL L K N I J R cells slots Q pc lv (.ref v :: .int i :: .ref a :: st) := by
  intro H locs ls h1 h2 h3 h4
  subst hi
  have hin : vp_in (nI n) (N a) := by rw [hA.2.2]; exact vp_in_nI hn hlen
  have hcl : (nI n).toNatClampNeg = n := nI_clamp (Nat.lt_trans hn hlen)
  obtain ⟨q, hq⟩ := wd_get (D := D) (K := K) (N := N) (I := I) (J := J) (R := R) hA.1
  obtain ⟨qv, hqv⟩ := wd_get (D := D) (K := K) (N := N) (I := I) (J := J) (R := R) hV.1
  have hq1 := hq
  rw [ce_7 (hA.m hK)] at hq
  rw [ce_o (hV.m hKv) (by decide)] at hqv
  refine va_astqO hc.x hc.b hc.k h1 h2 h3 q 2 qv 2 hq rfl hc.ev.2.2.2.2.2.2.2.2.2.2.2.2.1 hqv rfl hin d (fun H1 locs1 g1 g2 g3 => ?_)
  rw [hcl] at g1 g2
  have hset : (wd D L K N I J R).set q (a, .inl (D.1 7, N a, .inr (.inr (.inr (.inr (va_up (R a) n (some v))))))) = wd D L K N I J (u2 R a n (some v)) := by
    refine wd_set h2 hA.1 hq1 ?_ (fun b hb => ce_cong rfl rfl (u2_row hb))
    rw [ce_7 (hA.m hK)]
    congr 8
    funext j
    by_cases hj : j = n
    · subst hj
      rw [u2_s, va_up_self]
    · rw [u2_k hj, va_up_ne _ _ hj]
  rw [hset] at g1 g2
  exact k H1 locs1 ls g1 g2 g3 h4
end XA
