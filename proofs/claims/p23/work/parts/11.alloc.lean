/-! Rows that make cells, and those that speak of the JDK's empty array. -/
theorem wd_push {D : va_G} {L : List Nat} {K N : Nat → Nat} {I : Nat → Nat → Int32} {J : Nat → Nat → Int64} {R : Nat → Nat → Option Nat} {q t n : Nat} {i0 : Nat → Int32} {j0 : Nat → Int64} {r0 : Nat → Option Nat} {e : va_E} (hq : q ∉ L) (he : e = ce D (va_up K q t) (va_up N q n) (va_up I q i0) (va_up J q j0) (va_up R q r0) q) : wd D L K N I J R ++ [(q, e)] = wd D (L ++ [q]) (va_up K q t) (va_up N q n) (va_up I q i0) (va_up J q j0) (va_up R q r0) := by
  unfold wd
  rw [va_pl_push hq]
  refine va_pl_congr (fun b => ?_)
  by_cases hb : b = q
  · subst hb
    rw [va_up_self, he]
  · rw [va_up_ne _ _ hb]
    unfold ce
    rw [va_up_ne _ _ hb, va_up_ne _ _ hb, va_up_ne _ _ hb, va_up_ne _ _ hb, va_up_ne _ _ hb]
theorem At.push {L : List Nat} {K N : Nat → Nat} {a t n q t' n' : Nat} (h : At L K N a t n) (hq : q ∉ L) : At (L ++ [q]) (va_up K q t') (va_up N q n') a t n := by
  have hne : a ≠ q := fun e => hq (e ▸ h.1)
  exact ⟨List.mem_append_left _ h.1, by rw [va_up_ne _ _ hne]; exact h.2.1, by rw [va_up_ne _ _ hne]; exact h.2.2⟩
theorem At.out {L : List Nat} {K N : Nat → Nat} {a t n q : Nat} (h : At L K N a t n) (hq : q ∉ L) : a ≠ q := fun e => hq (e ▸ h.1)
/-- the old cells are as they were, but for those of which P speaks -/
def Ext (L : List Nat) (K N : Nat → Nat) (I : Nat → Nat → Int32) (J : Nat → Nat → Int64) (R : Nat → Nat → Option Nat) (L' : List Nat) (K' N' : Nat → Nat) (I' : Nat → Nat → Int32) (J' : Nat → Nat → Int64) (R' : Nat → Nat → Option Nat) (P : Nat → Prop) : Prop :=
  ∀ a, a ∈ L → a ∈ L' ∧ K' a = K a ∧ N' a = N a ∧ (¬ P a → I' a = I a ∧ J' a = J a ∧ R' a = R a)
/-- a new cell q of the tag t and the length n, all its slots at their start -/
def NewC (L : List Nat) (K N : Nat → Nat) (I : Nat → Nat → Int32) (J : Nat → Nat → Int64) (R : Nat → Nat → Option Nat) (q t n : Nat) (L' : List Nat) (K' N' : Nat → Nat) (I' : Nat → Nat → Int32) (J' : Nat → Nat → Int64) (R' : Nat → Nat → Option Nat) : Prop :=
  q ∉ L ∧ At L' K' N' q t n ∧ I' q = (fun _ => 0) ∧ J' q = (fun _ => 0) ∧ R' q = (fun _ => none) ∧ Ext L K N I J R L' K' N' I' J' R' (fun _ => False)
section EX
variable {L L' L2 : List Nat} {K N K' N' K2 N2 : Nat → Nat} {I I' I2 : Nat → Nat → Int32} {J J' J2 : Nat → Nat → Int64} {R R' R2 : Nat → Nat → Option Nat} {P : Nat → Prop}
theorem NewC.of {q t n : Nat} (hq : q ∉ L) : NewC L K N I J R q t n (L ++ [q]) (va_up K q t) (va_up N q n) (va_up I q (fun _ => 0)) (va_up J q (fun _ => 0)) (va_up R q (fun _ => none)) := by
  refine ⟨hq, ⟨List.mem_append_right _ (List.mem_singleton.mpr rfl), va_up_self _ _ _, va_up_self _ _ _⟩, va_up_self _ _ _, va_up_self _ _ _, va_up_self _ _ _, fun a ha => ?_⟩
  have hne : a ≠ q := fun e => hq (e ▸ ha)
  exact ⟨List.mem_append_left _ ha, va_up_ne _ _ hne, va_up_ne _ _ hne, fun _ => ⟨va_up_ne _ _ hne, va_up_ne _ _ hne, va_up_ne _ _ hne⟩⟩
theorem Ext.refl : Ext L K N I J R L K N I J R P := fun a ha => ⟨ha, rfl, rfl, fun _ => ⟨rfl, rfl, rfl⟩⟩
theorem Ext.trans (h : Ext L K N I J R L' K' N' I' J' R' P) {P2 P3 : Nat → Prop} (g : Ext L' K' N' I' J' R' L2 K2 N2 I2 J2 R2 P2) (h1 : ∀ a, a ∈ L → P a → P3 a) (h2 : ∀ a, a ∈ L → P2 a → P3 a) : Ext L K N I J R L2 K2 N2 I2 J2 R2 P3 := by
  intro a ha
  obtain ⟨a1, a2, a3, a4⟩ := h a ha
  obtain ⟨b1, b2, b3, b4⟩ := g a a1
  refine ⟨b1, b2.trans a2, b3.trans a3, fun hn => ?_⟩
  obtain ⟨c1, c2, c3⟩ := a4 (fun q => hn (h1 a ha q))
  obtain ⟨d1, d2, d3⟩ := b4 (fun q => hn (h2 a ha q))
  exact ⟨d1.trans c1, d2.trans c2, d3.trans c3⟩
theorem Ext.setI {x : Int32} {b k : Nat} : Ext L K N I J R L K N (u2 I b k x) J R (fun a => a = b) := fun a ha => ⟨ha, rfl, rfl, fun hn => ⟨funext fun j => u2_a hn, rfl, rfl⟩⟩
theorem Ext.setJ {x : Int64} {b k : Nat} : Ext L K N I J R L K N I (u2 J b k x) R (fun a => a = b) := fun a ha => ⟨ha, rfl, rfl, fun hn => ⟨rfl, funext fun j => u2_a hn, rfl⟩⟩
theorem Ext.setR {x : Option Nat} {b k : Nat} : Ext L K N I J R L K N I J (u2 R b k x) (fun a => a = b) := fun a ha => ⟨ha, rfl, rfl, fun hn => ⟨rfl, rfl, funext fun j => u2_a hn⟩⟩
theorem Ext.cell (h : Ext L K N I J R L' K' N' I' J' R' P) {a t n : Nat} (g : At L K N a t n) : At L' K' N' a t n := by
  obtain ⟨h1, h2, h3, -⟩ := h a g.1
  exact ⟨h1, h2.trans g.2.1, h3.trans g.2.2⟩
theorem Ext.i (h : Ext L K N I J R L' K' N' I' J' R' P) {a : Nat} (g : a ∈ L) (hn : ¬ P a) : I' a = I a := ((h a g).2.2.2 hn).1
theorem Ext.j (h : Ext L K N I J R L' K' N' I' J' R' P) {a : Nat} (g : a ∈ L) (hn : ¬ P a) : J' a = J a := ((h a g).2.2.2 hn).2.1
theorem Ext.r (h : Ext L K N I J R L' K' N' I' J' R' P) {a : Nat} (g : a ∈ L) (hn : ¬ P a) : R' a = R a := ((h a g).2.2.2 hn).2.2
theorem NewC.ext {q t n : Nat} (h : NewC L K N I J R q t n L' K' N' I' J' R') : Ext L K N I J R L' K' N' I' J' R' (fun _ => False) := h.2.2.2.2.2
theorem Ext.ref (h : Ext L K N I J R L' K' N' I' J' R' P) {a k : Nat} (g : a ∈ L) (hn : ¬ P a) : dr R' a k = dr R a k := by unfold dr; rw [h.r g hn]
theorem Pic.ext (h : Ext L K N I J R L' K' N' I' J' R' P) {b p : Nat} (g : Pic L K N R b p) (hn : ∀ a, a ∈ L → (K a = 320 * b + 1 ∨ K a = 320 * b + 24) → ¬ P a) : Pic L' K' N' R' b p := by
  obtain ⟨g0, g1, g2, g3, g4, g5, g6, g7, g8, g9, g10, g11, g12⟩ := g
  have e : ∀ k, dr R' p k = dr R p k := fun k => h.ref g0.1 (hn p g0.1 (Or.inl g0.2.1))
  have er : R' p = R p := h.r g0.1 (hn p g0.1 (Or.inl g0.2.1))
  have e2 : R' (dr R p 0) = R (dr R p 0) := h.r g2.1 (hn _ g2.1 (Or.inr g2.2.1))
  have ew : ∀ y, rwA R' p y = rwA R p y := fun y => by
    show dr R' (dr R' p 0) y = dr R (dr R p 0) y
    rw [e, h.ref g2.1 (hn _ g2.1 (Or.inr g2.2.1))]
  refine ⟨h.cell g0, by rw [er, e]; exact g1, by rw [e]; exact h.cell g2, fun y hy => ?_, by rw [er, e]; exact g4, by rw [e]; exact h.cell g5, by rw [er, e]; exact g6, by rw [e]; exact h.cell g7, by rw [er, e]; exact g8, by rw [er, e]; exact g9, by rw [e]; exact h.cell g10, by rw [er, e]; exact g11, by rw [e]; exact h.cell g12⟩
  rw [ew, e, e2]
  exact ⟨(g3 y hy).1, h.cell (g3 y hy).2⟩
theorem Lst.ext (h : Ext L K N I J R L' K' N' I' J' R' P) {sl t te n : Nat} (g : Lst L K N I R sl t te n) (hn : ∀ a, a ∈ L → (K a = t ∨ K a = te) → ¬ P a) : Lst L' K' N' I' R' sl t te n := by
  obtain ⟨g1, g2, g3, g4, g5, g6⟩ := g
  have e : ∀ k, dr R' sl k = dr R sl k := fun k => h.ref g1.1 (hn sl g1.1 (Or.inl g1.2.1))
  have er : R' sl = R sl := h.r g1.1 (hn sl g1.1 (Or.inl g1.2.1))
  refine ⟨h.cell g1, g2, by rw [h.i g1.1 (hn sl g1.1 (Or.inl g1.2.1))]; exact g3, g4, g5, fun h0 => ?_⟩
  obtain ⟨k1, k2, k3⟩ := g6 h0
  have e2 : R' (dr R sl 1) = R (dr R sl 1) := h.r k2.1 (hn _ k2.1 (Or.inr k2.2.1))
  have es : ∀ i, shA R' sl i = shA R sl i := fun i => by
    show dr R' (dr R' sl 1) i = dr R (dr R sl 1) i
    rw [e, h.ref k2.1 (hn _ k2.1 (Or.inr k2.2.1))]
  refine ⟨by rw [er, e]; exact k1, by rw [e]; exact h.cell k2, fun i hi => ?_⟩
  obtain ⟨m1, m2, m3, m4⟩ := k3 i hi
  have hk := (h _ m2.1).2.1
  rw [es, e, e2, hk]
  exact ⟨m1, h.cell m2, m3, m4⟩
end EX
/-- f, but at each of the addresses r 0 .. r (n - 1) what t says -/
def rup {α : Type} (r : Nat → Nat) (t : Nat → α) : Nat → (Nat → α) → Nat → α
  | 0, f => f
  | n + 1, f => va_up (rup r t n f) (r n) (t n)
theorem rup_out {α : Type} {r : Nat → Nat} {t : Nat → α} {f : Nat → α} {a : Nat} : ∀ n : Nat, (∀ i, i < n → r i ≠ a) → rup r t n f a = f a
  | 0, _ => rfl
  | n + 1, h => by
    show va_up (rup r t n f) (r n) (t n) a = f a
    rw [va_up_ne _ _ (Ne.symm (h n (Nat.lt_succ_self n)))]
    exact rup_out n (fun i hi => h i (Nat.lt_succ_of_lt hi))
theorem rup_in {α : Type} {r : Nat → Nat} {t : Nat → α} {f : Nat → α} {i : Nat} : ∀ n : Nat, (∀ i j, i < n → j < n → r i = r j → i = j) → i < n → rup r t n f (r i) = t i
  | 0, _, h => absurd h (Nat.not_lt_zero i)
  | n + 1, hr, h => by
    show va_up (rup r t n f) (r n) (t n) (r i) = t i
    by_cases e : i = n
    · subst e
      exact va_up_self _ _ _
    · rw [va_up_ne _ _ (fun q => e (hr i n h (Nat.lt_succ_self n) q))]
      exact rup_in n (fun a b ha hb => hr a b (Nat.lt_succ_of_lt ha) (Nat.lt_succ_of_lt hb)) (by omega)
section XA
variable {p : Program} {l : Launch} {e : Env} {R0 : Room} {s : State} {m : MethodId} {args : Array Value} {below : List Frame} {meth : Method} {c : Code} {D : va_G} {z e0 nL : Nat} {own : String} {Ts : List Cond} {cc : ByteArray} {L : List Nat} {K N : Nat → Nat} {I : Nat → Nat → Int32} {J : Nat → Nat → Int64} {R : Nat → Nat → Option Nat} {cells slots : Nat} {Q : State → Prop} {pc : Nat} {lv : List (Nat × Value)} {st : List Value}
theorem x_objInit (hc : CT p l s m args meth c D z e0 cc nL own Ts) {index a : Nat} (hl : Cond.methodLink own index objectInit ∈ Ts) (hi : Cond.instanceMethod objectInit ∈ Ts) (hcd : Cond.code objectInit ⟨#[0xb1]⟩ 1 none ∈ Ts) (hf : 1 ≤ R0.frames) (hlo : (st.map fun v => v.category).sum + 12 ≤ R0.locals) (d : decode cc pc = .ok (.invokespecial index, 3)) (k : XW p l e R0 s m args below meth c D z nL L K N I J R cells slots Q (pc + 3) lv st) : XW p l e R0 s m args below meth c D z nL L K N I J R cells slots Q pc lv (.ref a :: st) := by
  intro H locs ls h1 h2 h3 h4
  refine W.objInit (g := F0 m pc ls (.ref a :: st)) hc.x hc.b hc.o (hc.w _ hl) (hc.w _ hi) (hc.w _ hcd) rfl (h4.1.trans hc.ml.symm) rfl d hf (by show 2 * 0 + _ + 12 ≤ _; omega) ?_
  exact k H locs ls h1 h2 h3 h4
theorem x_new (hc : CT p l s m args meth c D z e0 cc nL own Ts) {C : String} {T : u_T} {NN ci index : Nat} (tag : Nat) (ty0 : Nat → FieldType) (hty : ∀ k, k < NN → parseFieldDescriptor (T k).2.2.1 = some (ty0 k)) (hin : ∀ w ∈ u_ws C T NN, w ∈ Ts) (hcl : vwCl[ci]? = some (C, T, NN)) (hlink : Cond.classLink own index C ∈ Ts) (hinst : Cond.instantiable C NN ∈ Ts) (hini : Cond.initialized C ∈ Ts) (ht : tag % 16 = ci) (h5 : ci < 5)
    (hfs : ∀ j, j < NN → defaultValue (ty0 j) = vp_V (fsl (fun _ => 0) (fun _ => 0) (fun _ => none) (lay ci) 0) j) (hcs : cells + 1 ≤ R0.cells ∧ slots + NN ≤ R0.slots) (d : decode cc pc = .ok (.new index, 3)) (k : ∀ q L1 K1 N1 I1 J1 R1, NewC L K N I J R q tag 0 L1 K1 N1 I1 J1 R1 → XW p l e R0 s m args below meth c D z nL L1 K1 N1 I1 J1 R1 (cells + 1) (slots + NN) Q (pc + 3) lv (.ref q :: st)) : XW p l e R0 s m args below meth c D z nL L K N I J R cells slots Q pc lv st := by
  intro H locs ls h1 h2 h3 h4
  refine va_new hc.x hc.b hc.w hin ty0 hty hc.o (hc.w _ hlink) (hc.w _ hinst) (hc.w _ hini) hc.k h1 h2 h3 hc.zz hcl hfs hcs.1 hcs.2 d (fun q H1 g1 g2 g3 => ?_)
  have hq : q ∉ L := va_pl_fresh2 (X := []) g2
  have e : wd D L K N I J R ++ [(q, .inr (ci, fsl (fun _ => 0) (fun _ => 0) (fun _ => none) (lay ci) 0))] = wd D (L ++ [q]) (va_up K q tag) (va_up N q 0) (va_up I q (fun _ => 0)) (va_up J q (fun _ => 0)) (va_up R q (fun _ => none)) := by
    refine wd_push hq ?_
    rw [ce_o (k := ci) (by rw [va_up_self]; exact ht) h5, va_up_self, va_up_self, va_up_self]
  rw [e] at g1 g2
  exact k q _ _ _ _ _ _ (NewC.of hq) H1 locs ls g1 g2 g3 h4
theorem x_newaI (hc : CT p l s m args meth c D z e0 cc nL own Ts) (tag : Nat) {n : Int32} {n0 : Nat} (harr : Cond.arrayClass .int ∈ Ts) (ht : tag % 16 = 5) (hn : n = nI n0) (hb : n0 ≤ 1000) (hcs : cells + 1 ≤ R0.cells ∧ slots + n0 ≤ R0.slots) (d : decode cc pc = .ok (.newarray .int, 2)) (k : ∀ q L1 K1 N1 I1 J1 R1, NewC L K N I J R q tag n0 L1 K1 N1 I1 J1 R1 → XW p l e R0 s m args below meth c D z nL L1 K1 N1 I1 J1 R1 (cells + 1) (slots + n0) Q (pc + 2) lv (.ref q :: st)) : XW p l e R0 s m args below meth c D z nL L K N I J R cells slots Q pc lv (.int n :: st) := by
  intro H locs ls h1 h2 h3 h4
  subst hn
  refine va_newa (atype := .int) (ty := .int) (a0 := (n0, .inl (fun _ => 0))) (N' := n0) hc.x hc.b (hc.w _ harr) rfl hc.k h1 h2 h3 hc.zz (fun cA => vp_cell_i cA n0 (fun _ => 0)) (nI_pos (by omega)) (nI_clamp (by omega)) (by show n0 * _ ≤ _; simp only [componentBytes]; omega) hcs.1 hcs.2 d (fun q cA H1 g0 g1 g2 g3 => ?_)
  have hq : q ∉ L := va_pl_fresh2 (X := []) g2
  have hcA : cA = D.1 5 := by
    have a1 := (g0.2 4 (cA, .int) rfl).2
    have a2 := (hc.k.2 0 _ rfl).2
    exact Option.some.inj (a1.symm.trans a2)
  subst hcA
  have e : wd D L K N I J R ++ [(q, .inl (D.1 5, (n0, .inl (fun _ => 0))))] = wd D (L ++ [q]) (va_up K q tag) (va_up N q n0) (va_up I q (fun _ => 0)) (va_up J q (fun _ => 0)) (va_up R q (fun _ => none)) := by
    refine wd_push hq ?_
    rw [ce_5 (by rw [va_up_self]; exact ht), va_up_self, va_up_self]
  rw [e] at g1 g2
  exact k q _ _ _ _ _ _ (NewC.of hq) H1 locs ls g1 g2 g3 h4
theorem x_newaJ (hc : CT p l s m args meth c D z e0 cc nL own Ts) (tag : Nat) {n : Int32} {n0 : Nat} (harr : Cond.arrayClass .long ∈ Ts) (ht : tag % 16 = 6) (hn : n = nI n0) (hb : n0 ≤ 1000) (hcs : cells + 1 ≤ R0.cells ∧ slots + n0 ≤ R0.slots) (d : decode cc pc = .ok (.newarray .long, 2)) (k : ∀ q L1 K1 N1 I1 J1 R1, NewC L K N I J R q tag n0 L1 K1 N1 I1 J1 R1 → XW p l e R0 s m args below meth c D z nL L1 K1 N1 I1 J1 R1 (cells + 1) (slots + n0) Q (pc + 2) lv (.ref q :: st)) : XW p l e R0 s m args below meth c D z nL L K N I J R cells slots Q pc lv (.int n :: st) := by
  intro H locs ls h1 h2 h3 h4
  subst hn
  refine va_newa (atype := .long) (ty := .long) (a0 := (n0, .inr (.inl (fun _ => 0)))) (N' := n0) hc.x hc.b (hc.w _ harr) rfl hc.k h1 h2 h3 hc.zz (fun cA => vp_cell_l cA n0 (fun _ => 0)) (nI_pos (by omega)) (nI_clamp (by omega)) (by show n0 * _ ≤ _; simp only [componentBytes]; omega) hcs.1 hcs.2 d (fun q cA H1 g0 g1 g2 g3 => ?_)
  have hq : q ∉ L := va_pl_fresh2 (X := []) g2
  have hcA : cA = D.1 6 := by
    have a1 := (g0.2 4 (cA, .long) rfl).2
    have a2 := (hc.k.2 1 _ rfl).2
    exact Option.some.inj (a1.symm.trans a2)
  subst hcA
  have e : wd D L K N I J R ++ [(q, .inl (D.1 6, (n0, .inr (.inl (fun _ => 0)))))] = wd D (L ++ [q]) (va_up K q tag) (va_up N q n0) (va_up I q (fun _ => 0)) (va_up J q (fun _ => 0)) (va_up R q (fun _ => none)) := by
    refine wd_push hq ?_
    rw [ce_6 (by rw [va_up_self]; exact ht), va_up_self, va_up_self]
  rw [e] at g1 g2
  exact k q _ _ _ _ _ _ (NewC.of hq) H1 locs ls g1 g2 g3 h4
theorem x_newaO (hc : CT p l s m args meth c D z e0 cc nL own Ts) (tag : Nat) {index : Nat} {n : Int32} {n0 : Nat} (hlink : Cond.classLink own index "java/lang/Object" ∈ Ts) (ht : tag % 16 = 7) (hn : n = nI n0) (hb : n0 ≤ 1000) (hcs : cells + 1 ≤ R0.cells ∧ slots + n0 ≤ R0.slots) (d : decode cc pc = .ok (.anewarray index, 3)) (k : ∀ q L1 K1 N1 I1 J1 R1, NewC L K N I J R q tag n0 L1 K1 N1 I1 J1 R1 → XW p l e R0 s m args below meth c D z nL L1 K1 N1 I1 J1 R1 (cells + 1) (slots + n0) Q (pc + 3) lv (.ref q :: st)) : XW p l e R0 s m args below meth c D z nL L K N I J R cells slots Q pc lv (.int n :: st) := by
  intro H locs ls h1 h2 h3 h4
  subst hn
  refine va_newq (N' := n0) hc.x hc.b hc.o (hc.w _ hlink) hc.ev.2.2.2.2.2.2.2.2.2.2.2.2.2.1 hc.k h1 h2 h3 hc.zz (nI_pos (by omega)) (nI_clamp (by omega)) (by omega) hcs.1 hcs.2 d (fun q cA H1 g0 g1 g2 g3 => ?_)
  have hq : q ∉ L := va_pl_fresh2 (X := []) g2
  have hcA : cA = D.1 7 := by
    obtain ⟨k1, c1, a1, a2, a3, a4⟩ := (g0.2 4 (cA, .object "java/lang/Object") rfl).2
    obtain ⟨k2, c2, b1, b2, b3, b4⟩ := (hc.k.2 2 _ rfl).2
    exact Option.some.inj (a4.symm.trans b4)
  subst hcA
  have e : wd D L K N I J R ++ [(q, .inl (D.1 7, n0, .inr (.inr (.inr (.inr (fun _ => none))))))] = wd D (L ++ [q]) (va_up K q tag) (va_up N q n0) (va_up I q (fun _ => 0)) (va_up J q (fun _ => 0)) (va_up R q (fun _ => none)) := by
    refine wd_push hq ?_
    rw [ce_7 (by rw [va_up_self]; exact ht), va_up_self, va_up_self]
  rw [e] at g1 g2
  exact k q _ _ _ _ _ _ (NewC.of hq) H1 locs ls g1 g2 g3 h4
theorem x_mna (hc : CT p l s m args meth c D z e0 cc nL own Ts) {index : Nat} (b : Nat) (hlink : Cond.classLink own index "[[I" ∈ Ts) (harr : Cond.arrayClass .int ∈ Ts) (hcs : cells + 11 ≤ R0.cells ∧ slots + 50 ≤ R0.slots) (d : decode cc pc = .ok (.multianewarray index 2, 4))
    (k : ∀ (q : Nat) (r : Nat → Nat) L1 K1 N1 I1 J1 R1, q ∉ L → At L1 K1 N1 q (320 * b + 24) 10 → (∀ i, i < 10 → r i ∉ L ∧ R1 q i = some (r i) ∧ At L1 K1 N1 (r i) (320 * b + 37 + 16 * i) 4 ∧ I1 (r i) = (fun _ => 0)) → Ext L K N I J R L1 K1 N1 I1 J1 R1 (fun _ => False) → XW p l e R0 s m args below meth c D z nL L1 K1 N1 I1 J1 R1 (cells + 11) (slots + 50) Q (pc + 4) lv (.ref q :: st)) : XW p l e R0 s m args below meth c D z nL L K N I J R cells slots Q pc lv (.int 4 :: .int 10 :: st) := by
  intro H locs ls h1 h2 h3 h4
  have hcy : s.vm.findClass (FieldType.array .int).toString = some (D.1 5) := (hc.k.2 0 _ rfl).2
  refine va_mna (X := []) (L := L) (f := ce D K N I J R) (ty := .int) (cy := D.1 5) (N' := 10) (K' := 4) (z := (4, .inl (fun _ => 0))) hc.x hc.b hc.o (hc.w _ hlink) hc.ev.2.2.2.2.2.2.2.2.2.2.2.2.2.2.2.2.1 (hc.w _ harr) hcy hc.k h1 h2 h3 hc.zz (by decide) (by decide) (by decide) (by decide) (by decide) (by decide) (by decide) (by decide) (by decide) hcs.1 hcs.2 (fun cA => ?_) d (fun q r cA H1 hinj hout hK1 g1 g2 g3 => ?_)
  · rw [vp_cell_i]
    exact (arrV_new cA 4 (.int 0))
  have hcA : cA = D.1 8 := by
    exact Option.some.inj ((hK1.2 4 (cA, .array .int) rfl).2.symm.trans (hc.k.2 3 _ rfl).2)
  subst hcA
  have g1' := va_P.swap (a := []) g1
  have g2' := va_D.swap (a := []) g2
  have hq : q ∉ L ++ (List.range 10).map r := va_pl_fresh2 (X := []) g2'
  have hmem : ∀ a, a ∈ (List.range 10).map r → ∃ i, i < 10 ∧ r i = a := fun a ha => by
    obtain ⟨i, hi, e⟩ := List.mem_map.mp ha
    exact ⟨i, List.mem_range.mp hi, e⟩
  have hri : ∀ i, i < 10 → r i ∈ (List.range 10).map r := fun i hi => List.mem_map.mpr ⟨i, List.mem_range.mpr hi, rfl⟩
  have hpl : va_pl (L ++ (List.range 10).map r) (vr_up (ce D K N I J R) ((List.range 10).map r) (.inl (D.1 5, (4, .inl (fun _ => 0))))) = wd D (L ++ (List.range 10).map r) (rup r (fun i => 320 * b + 37 + 16 * i) 10 K) (rup r (fun _ => 4) 10 N) (rup r (fun _ _ => 0) 10 I) (rup r (fun _ _ => 0) 10 J) (rup r (fun _ _ => none) 10 R) := by
    refine va_pl_congr (fun a => ?_)
    by_cases ha : a ∈ (List.range 10).map r
    · rw [vr_up_in ha]
      obtain ⟨i, hi, rfl⟩ := hmem a ha
      rw [ce_5 (by rw [rup_in 10 hinj hi]; omega), rup_in 10 hinj hi, rup_in 10 hinj hi]
    · have hne : ∀ i, i < 10 → r i ≠ a := fun i hi e => ha (e ▸ hri i hi)
      rw [vr_up_ne ha]
      unfold ce
      rw [rup_out 10 hne, rup_out 10 hne, rup_out 10 hne, rup_out 10 hne, rup_out 10 hne]
  rw [List.nil_append] at g1' g2'
  rw [hpl] at g1' g2'
  have e : wd D (L ++ (List.range 10).map r) (rup r (fun i => 320 * b + 37 + 16 * i) 10 K) (rup r (fun _ => 4) 10 N) (rup r (fun _ _ => 0) 10 I) (rup r (fun _ _ => 0) 10 J) (rup r (fun _ _ => none) 10 R) ++ [(q, .inl (D.1 8, 10, .inr (.inr (.inr (.inr (fun i => if i < 10 then some (r i) else none))))))] = wd D ((L ++ (List.range 10).map r) ++ [q]) (va_up (rup r (fun i => 320 * b + 37 + 16 * i) 10 K) q (320 * b + 24)) (va_up (rup r (fun _ => 4) 10 N) q 10) (va_up (rup r (fun _ _ => 0) 10 I) q (fun _ => 0)) (va_up (rup r (fun _ _ => 0) 10 J) q (fun _ => 0)) (va_up (rup r (fun _ _ => none) 10 R) q (fun i => if i < 10 then some (r i) else none)) := by
    refine wd_push hq ?_
    rw [ce_8 (by rw [va_up_self]; omega), va_up_self, va_up_self]
  rw [e] at g1' g2'
  have hqL : q ∉ L := fun h => hq (List.mem_append_left _ h)
  have hrq : ∀ i, i < 10 → r i ≠ q := fun i hi e => hq (e ▸ List.mem_append_right _ (hri i hi))
  refine k q r _ _ _ _ _ _ hqL ⟨List.mem_append_right _ (List.mem_singleton.mpr rfl), va_up_self _ _ _, va_up_self _ _ _⟩ (fun i hi => ⟨hout i hi, ?_, ⟨List.mem_append_left _ (List.mem_append_right _ (hri i hi)), ?_, ?_⟩, ?_⟩) (fun a ha => ?_) H1 locs ls g1' g2' g3 h4
  · rw [va_up_self, if_pos hi]
  · rw [va_up_ne _ _ (hrq i hi), rup_in 10 hinj hi]
  · rw [va_up_ne _ _ (hrq i hi), rup_in 10 hinj hi]
  · rw [va_up_ne _ _ (hrq i hi), rup_in 10 hinj hi]
  · have hne : ∀ i, i < 10 → r i ≠ a := fun i hi e => hout i hi (e ▸ ha)
    have hnq : a ≠ q := fun e => hqL (e ▸ ha)
    refine ⟨List.mem_append_left _ (List.mem_append_left _ ha), ?_, ?_, fun _ => ⟨?_, ?_, ?_⟩⟩ <;> rw [va_up_ne _ _ hnq, rup_out 10 hne]
/-- the JDK's empty array: read, measured, compared -/
theorem x_getsE (hc : CT p l s m args meth c D z e0 cc nL own Ts) {index : Nat} (hlink : Cond.fieldLink own index "java/util/ArrayList" "DEFAULTCAPACITY_EMPTY_ELEMENTDATA" "[Ljava/lang/Object;" ∈ Ts) (d : decode cc pc = .ok (.getstatic index, 3)) (k : XW p l e R0 s m args below meth c D z nL L K N I J R cells slots Q (pc + 3) lv (.ref e0 :: st)) : XW p l e R0 s m args below meth c D z nL L K N I J R cells slots Q pc lv st := fun H locs ls h1 h2 h3 h4 => va_gets hc.x hc.b hc.ev.2.2.2.2.2.2.2.2.2.2.2.2.2.2.1 h3 hc.o (hc.w _ hlink) (fun _ h9 => h9) d (k H locs ls h1 h2 h3 h4)
theorem x_alenE (hc : CT p l s m args meth c D z e0 cc nL own Ts) (d : decode cc pc = .ok (.arraylength, 1)) (k : XW p l e R0 s m args below meth c D z nL L K N I J R cells slots Q (pc + 1) lv (.int 0 :: st)) : XW p l e R0 s m args below meth c D z nL L K N I J R cells slots Q pc lv (.ref e0 :: st) := fun H locs ls h1 h2 h3 h4 => va_tlen hc.x hc.b hc.ev.2.2.2.2.2.2.2.2.2.2.2.2.2.2.2.1 h3 rfl d (k H locs ls h1 h2 h3 h4)
theorem x_alenO (hc : CT p l s m args meth c D z e0 cc nL own Ts) {a t0 n0 : Nat} (hA : At L K N a t0 n0) (hK : t0 % 16 = 7) (d : decode cc pc = .ok (.arraylength, 1)) (k : XW p l e R0 s m args below meth c D z nL L K N I J R cells slots Q (pc + 1) lv (.int (nI n0) :: st)) : XW p l e R0 s m args below meth c D z nL L K N I J R cells slots Q pc lv (.ref a :: st) := by
  intro H locs ls h1 h2 h3 h4
  obtain ⟨q, hq⟩ := wd_get (D := D) (K := K) (N := N) (I := I) (J := J) (R := R) hA.1
  rw [ce_7 (hA.m hK)] at hq
  exact va_alen hc.x hc.b hc.k h1 q 2 hq rfl (by rw [hA.2.2]; rfl) d (k H locs ls h1 h2 h3 h4)
theorem x_acmpEq (hc : CT p l s m args meth c D z e0 cc nL own Ts) {a : Nat} {off : Int} {tgt : Nat} (d : decode cc pc = .ok (.if_acmp .eq off, 3)) (ht : (pc : Int) + off = (tgt : Int)) (k : XW p l e R0 s m args below meth c D z nL L K N I J R cells slots Q tgt lv st) : XW p l e R0 s m args below meth c D z nL L K N I J R cells slots Q pc lv (.ref a :: .ref a :: st) := fun H locs ls h1 h2 h3 h4 => lv_acmp_eq (rx := some a) (ry := some a) hc.x hc.b d ht (fun _ => k H locs ls h1 h2 h3 h4) (fun q => absurd rfl q)
theorem x_aast (hc : CT p l s m args meth c D z e0 cc nL own Ts) {v a t0 n0 tv n nv : Nat} {i : Int32} (hA : At L K N a t0 n0) (hK : t0 % 16 = 7) (hV : At L K N v tv nv) (hKv : tv % 16 = 2) (hlen : n0 < 2147483648) (hi : i = nI n) (hn : n < n0) (d : decode cc pc = .ok (.aastore, 1)) (k : XW p l e R0 s m args below meth c D z nL L K N I J (u2 R a n (some v)) cells slots Q (pc + 1) lv st) : XW p l e R0 s m args below meth c D z nL L K N I J R cells slots Q pc lv (.ref v :: .int i :: .ref a :: st) := by
  intro H locs ls h1 h2 h3 h4
  subst hi
  have hin : vp_in (nI n) (N a) := by rw [hA.2.2]; exact vp_in_nI hn hlen
  have hcl : (nI n).toNatClampNeg = n := nI_clamp (Nat.lt_trans hn hlen)
  obtain ⟨q, hq⟩ := wd_get (D := D) (K := K) (N := N) (I := I) (J := J) (R := R) hA.1
  obtain ⟨qv, hqv⟩ := wd_get (D := D) (K := K) (N := N) (I := I) (J := J) (R := R) hV.1
  have hq1 := hq
  rw [ce_7 (hA.m hK)] at hq
  rw [ce_o (hV.m hKv) (by decide)] at hqv
  refine va_astqO hc.x hc.b hc.k h1 h2 h3 q 2 qv 2 hq rfl hc.ev.2.2.2.2.2.2.2.2.2.2.2.2.1 hqv rfl hin d (fun H1 locs1 g1 g2 g3 => ?_)
  rw [hcl] at g1 g2
  have hset : (wd D L K N I J R).set q (a, .inl (D.1 7, N a, .inr (.inr (.inr (.inr (va_up (R a) n (some v))))))) = wd D L K N I J (u2 R a n (some v)) := by
    refine wd_set h2 hA.1 hq1 ?_ (fun b hb => ce_cong rfl rfl (u2_row hb))
    rw [ce_7 (hA.m hK)]
    congr 8
    funext j
    by_cases hj : j = n
    · subst hj
      rw [u2_s, va_up_self]
    · rw [u2_k hj, va_up_ne _ _ hj]
  rw [hset] at g1 g2
  exact k H1 locs1 ls g1 g2 g3 h4
end XA
