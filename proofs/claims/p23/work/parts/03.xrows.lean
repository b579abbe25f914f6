/-! The world as pooled cells: addresses L, kinds K, lengths N, whole numbers I, long numbers J, references R, each by address and slot. -/
def u2 {α : Type} (f : Nat → Nat → α) (a k : Nat) (x : α) : Nat → Nat → α := fun b j => if b = a ∧ j = k then x else f b j
theorem u2_s {α : Type} {f : Nat → Nat → α} {a k : Nat} {x : α} : u2 f a k x a k = x := if_pos ⟨rfl, rfl⟩
theorem u2_a {α : Type} {f : Nat → Nat → α} {a k : Nat} {x : α} {b j : Nat} (h : b ≠ a) : u2 f a k x b j = f b j := if_neg (fun q => h q.1)
theorem u2_k {α : Type} {f : Nat → Nat → α} {a k : Nat} {x : α} {b j : Nat} (h : j ≠ k) : u2 f a k x b j = f b j := if_neg (fun q => h q.2)
theorem u2_ne {α : Type} {f : Nat → Nat → α} {a k : Nat} {x : α} {b j : Nat} (h : b ≠ a ∨ j ≠ k) : u2 f a k x b j = f b j := if_neg (fun q => h.elim (fun z => z q.1) (fun z => z q.2))
/-- the types of an object's slots by its kind: 0 whole, 1 long, 2 reference -/
def lay (k : Nat) : List Nat := if k = 0 then [0, 2, 0] else if k = 1 then [2, 2, 2, 2, 0, 0, 0, 2, 2, 1, 1, 1, 1, 1, 1] else if k = 2 then [2, 0, 0, 0, 0, 0, 1] else if k = 3 then [2, 2, 2, 0, 0] else [2, 2, 2, 2, 2, 2, 0, 0, 2, 2, 2, 2, 2, 2, 0, 2, 2, 2, 0]
def vv (t : Nat) (i : Int32) (j : Int64) (r : Option Nat) : Value := if t = 0 then .int i else if t = 1 then .long j else va_rf r
def fsl (I : Nat → Int32) (J : Nat → Int64) (R : Nat → Option Nat) : List Nat → Nat → List Value
  | [], _ => []
  | t :: ts, k => vv t (I k) (J k) (R k) :: fsl I J R ts (k + 1)
theorem fsl_at {I : Nat → Int32} {J : Nat → Int64} {R : Nat → Option Nat} : ∀ (ts : List Nat) (n k t : Nat), ts[k]? = some t → (fsl I J R ts n)[k]? = some (vv t (I (n + k)) (J (n + k)) (R (n + k)))
  | [], n, k, t, h => by simp at h
  | a :: ts, n, 0, t, h => by
    simp at h
    subst h
    rfl
  | a :: ts, n, k + 1, t, h => by
    have h1 : ts[k]? = some t := by simpa using h
    have h2 := fsl_at (I := I) (J := J) (R := R) ts (n + 1) k t h1
    rw [show n + (k + 1) = n + 1 + k by omega]
    exact h2
theorem fsl_len {I : Nat → Int32} {J : Nat → Int64} {R : Nat → Option Nat} : ∀ (ts : List Nat) (n : Nat), (fsl I J R ts n).length = ts.length
  | [], n => rfl
  | a :: ts, n => congrArg Nat.succ (fsl_len ts (n + 1))
theorem fsl_ext {I I' : Nat → Int32} {J J' : Nat → Int64} {R R' : Nat → Option Nat} : ∀ (ts : List Nat) (n : Nat), (∀ k, n ≤ k → k < n + ts.length → I k = I' k ∧ J k = J' k ∧ R k = R' k) → fsl I J R ts n = fsl I' J' R' ts n
  | [], n, h => rfl
  | a :: ts, n, h => by
    obtain ⟨h1, h2, h3⟩ := h n (Nat.le_refl n) (by simp)
    show vv a (I n) (J n) (R n) :: fsl I J R ts (n + 1) = vv a (I' n) (J' n) (R' n) :: fsl I' J' R' ts (n + 1)
    rw [h1, h2, h3, fsl_ext ts (n + 1) (fun k g1 g2 => h k (by omega) (by simp only [List.length_cons]; omega))]
theorem fsl_set {I I' : Nat → Int32} {J J' : Nat → Int64} {R R' : Nat → Option Nat} {v : Value} : ∀ (ts : List Nat) (n k t : Nat), ts[k]? = some t → v = vv t (I' (n + k)) (J' (n + k)) (R' (n + k)) → (∀ q, q ≠ n + k → I q = I' q ∧ J q = J' q ∧ R q = R' q) → (fsl I J R ts n).set k v = fsl I' J' R' ts n
  | [], n, k, t, h, e, g => by simp at h
  | a :: ts, n, 0, t, h, e, g => by
    simp at h
    subst h
    subst e
    show _ :: fsl I J R ts (n + 1) = _ :: fsl I' J' R' ts (n + 1)
    rw [fsl_ext ts (n + 1) (fun k g1 g2 => g k (by omega))]
    rfl
  | a :: ts, n, k + 1, t, h, e, g => by
    have h1 : ts[k]? = some t := by simpa using h
    obtain ⟨g1, g2, g3⟩ := g n (by omega)
    show vv a (I n) (J n) (R n) :: (fsl I J R ts (n + 1)).set k v = vv a (I' n) (J' n) (R' n) :: fsl I' J' R' ts (n + 1)
    rw [g1, g2, g3, fsl_set ts (n + 1) k t h1 (by rw [e, show n + (k + 1) = n + 1 + k by omega]) (fun q hq => g q (by omega))]
/-- what lies at an address -/
def ce (D : va_G) (K N : Nat → Nat) (I : Nat → Nat → Int32) (J : Nat → Nat → Int64) (R : Nat → Nat → Option Nat) (a : Nat) : va_E :=
  if K a % 16 < 5 then .inr (K a % 16, fsl (I a) (J a) (R a) (lay (K a % 16)) 0) else if K a % 16 = 5 then .inl (D.1 5, N a, .inl (I a)) else if K a % 16 = 6 then .inl (D.1 6, N a, .inr (.inl (J a))) else if K a % 16 = 7 then .inl (D.1 7, N a, .inr (.inr (.inr (.inr (R a))))) else .inl (D.1 8, N a, .inr (.inr (.inr (.inr (R a)))))
def wd (D : va_G) (L : List Nat) (K N : Nat → Nat) (I : Nat → Nat → Int32) (J : Nat → Nat → Int64) (R : Nat → Nat → Option Nat) : va_W := va_pl L (ce D K N I J R)
def At (L : List Nat) (K N : Nat → Nat) (a t n : Nat) : Prop := a ∈ L ∧ K a = t ∧ N a = n
theorem At.m {L : List Nat} {K N : Nat → Nat} {a t n k : Nat} (h : At L K N a t n) (hk : t % 16 = k) : K a % 16 = k := by rw [h.2.1]; exact hk
theorem At.ne {L L' : List Nat} {K N : Nat → Nat} {a b t u n n' : Nat} (h : At L K N a t n) (g : At L' K N b u n') (hne : t ≠ u) : a ≠ b := fun q => hne (by rw [← h.2.1, ← g.2.1, q])
abbrev xtys (D : va_G) : List (ClassId × FieldType) := [(D.1 5, .int), (D.1 6, .long), (D.1 7, .object "java/lang/Object"), (D.1 8, .array .int)]
theorem ce_o {D : va_G} {K N : Nat → Nat} {I : Nat → Nat → Int32} {J : Nat → Nat → Int64} {R : Nat → Nat → Option Nat} {a k : Nat} (h : K a % 16 = k) (h5 : k < 5) : ce D K N I J R a = .inr (k, fsl (I a) (J a) (R a) (lay k) 0) := by
  unfold ce
  rw [h, if_pos h5]
theorem ce_5 {D : va_G} {K N : Nat → Nat} {I : Nat → Nat → Int32} {J : Nat → Nat → Int64} {R : Nat → Nat → Option Nat} {a : Nat} (h : K a % 16 = 5) : ce D K N I J R a = .inl (D.1 5, N a, .inl (I a)) := by
  unfold ce
  rw [h]
  rfl
theorem ce_6 {D : va_G} {K N : Nat → Nat} {I : Nat → Nat → Int32} {J : Nat → Nat → Int64} {R : Nat → Nat → Option Nat} {a : Nat} (h : K a % 16 = 6) : ce D K N I J R a = .inl (D.1 6, N a, .inr (.inl (J a))) := by
  unfold ce
  rw [h]
  rfl
theorem ce_7 {D : va_G} {K N : Nat → Nat} {I : Nat → Nat → Int32} {J : Nat → Nat → Int64} {R : Nat → Nat → Option Nat} {a : Nat} (h : K a % 16 = 7) : ce D K N I J R a = .inl (D.1 7, N a, .inr (.inr (.inr (.inr (R a))))) := by
  unfold ce
  rw [h]
  rfl
theorem ce_8 {D : va_G} {K N : Nat → Nat} {I : Nat → Nat → Int32} {J : Nat → Nat → Int64} {R : Nat → Nat → Option Nat} {a : Nat} (h : K a % 16 = 8) : ce D K N I J R a = .inl (D.1 8, N a, .inr (.inr (.inr (.inr (R a))))) := by
  unfold ce
  rw [h]
  rfl
theorem wd_get {D : va_G} {L : List Nat} {K N : Nat → Nat} {I : Nat → Nat → Int32} {J : Nat → Nat → Int64} {R : Nat → Nat → Option Nat} {a : Nat} (h : a ∈ L) : ∃ k : Nat, (wd D L K N I J R)[k]? = some (a, ce D K N I J R a) := va_pl_get (X := []) h
theorem wd_set {D : va_G} {L : List Nat} {K N : Nat → Nat} {I I' : Nat → Nat → Int32} {J J' : Nat → Nat → Int64} {R R' : Nat → Nat → Option Nat} {A : Nat → Prop} {a k : Nat} {e : va_E} (hD : va_D A (wd D L K N I J R)) (h : a ∈ L) (hk : (wd D L K N I J R)[k]? = some (a, ce D K N I J R a)) (he : e = ce D K N I' J' R' a) (ho : ∀ b, b ≠ a → ce D K N I J R b = ce D K N I' J' R' b) : (wd D L K N I J R).set k (a, e) = wd D L K N I' J' R' := by
  have h1 := va_pl_set (X := []) (e := e) hD h hk
  refine h1.trans ?_
  refine va_pl_congr (fun b => ?_)
  by_cases hb : b = a
  · subst hb
    rw [va_up_self, he]
  · rw [va_up_ne _ _ hb]
    exact ho b hb
theorem ce_cong {D : va_G} {K N : Nat → Nat} {I I' : Nat → Nat → Int32} {J J' : Nat → Nat → Int64} {R R' : Nat → Nat → Option Nat} {b : Nat} (h1 : I b = I' b) (h2 : J b = J' b) (h3 : R b = R' b) : ce D K N I J R b = ce D K N I' J' R' b := by
  unfold ce
  rw [h1, h2, h3]
theorem u2_row {α : Type} {f : Nat → Nat → α} {a k : Nat} {x : α} {b : Nat} (h : b ≠ a) : f b = u2 f a k x b := funext fun j => (u2_a h).symm
theorem wd_setI {D : va_G} {L : List Nat} {K N : Nat → Nat} {I : Nat → Nat → Int32} {J : Nat → Nat → Int64} {R : Nat → Nat → Option Nat} {A : Nat → Prop} {a q k t : Nat} {x : Int32} (hD : va_D A (wd D L K N I J R)) (h : a ∈ L) (hq : (wd D L K N I J R)[q]? = some (a, ce D K N I J R a)) (hK : K a % 16 = t) (h5 : t < 5) (hk : (lay t)[k]? = some 0) : (wd D L K N I J R).set q (a, .inr (t, (fsl (I a) (J a) (R a) (lay t) 0).set k (.int x))) = wd D L K N (u2 I a k x) J R := by
  refine wd_set hD h hq ?_ (fun b hb => ce_cong (u2_row hb) rfl rfl)
  rw [ce_o hK h5, fsl_set (lay t) 0 k 0 hk (v := .int x) (I' := u2 I a k x a) (J' := J a) (R' := R a) (by rw [Nat.zero_add, u2_s]; rfl) (fun q hq => ⟨(u2_k (by omega)).symm, rfl, rfl⟩)]
theorem wd_setJ {D : va_G} {L : List Nat} {K N : Nat → Nat} {I : Nat → Nat → Int32} {J : Nat → Nat → Int64} {R : Nat → Nat → Option Nat} {A : Nat → Prop} {a q k t : Nat} {x : Int64} (hD : va_D A (wd D L K N I J R)) (h : a ∈ L) (hq : (wd D L K N I J R)[q]? = some (a, ce D K N I J R a)) (hK : K a % 16 = t) (h5 : t < 5) (hk : (lay t)[k]? = some 1) : (wd D L K N I J R).set q (a, .inr (t, (fsl (I a) (J a) (R a) (lay t) 0).set k (.long x))) = wd D L K N I (u2 J a k x) R := by
  refine wd_set hD h hq ?_ (fun b hb => ce_cong rfl (u2_row hb) rfl)
  rw [ce_o hK h5, fsl_set (lay t) 0 k 1 hk (v := .long x) (I' := I a) (J' := u2 J a k x a) (R' := R a) (by rw [Nat.zero_add, u2_s]; rfl) (fun q hq => ⟨rfl, (u2_k (by omega)).symm, rfl⟩)]
theorem wd_setR {D : va_G} {L : List Nat} {K N : Nat → Nat} {I : Nat → Nat → Int32} {J : Nat → Nat → Int64} {R : Nat → Nat → Option Nat} {A : Nat → Prop} {a q k t b : Nat} (hD : va_D A (wd D L K N I J R)) (h : a ∈ L) (hq : (wd D L K N I J R)[q]? = some (a, ce D K N I J R a)) (hK : K a % 16 = t) (h5 : t < 5) (hk : (lay t)[k]? = some 2) : (wd D L K N I J R).set q (a, .inr (t, (fsl (I a) (J a) (R a) (lay t) 0).set k (.ref b))) = wd D L K N I J (u2 R a k (some b)) := by
  refine wd_set hD h hq ?_ (fun b hb => ce_cong rfl rfl (u2_row hb))
  rw [ce_o hK h5, fsl_set (lay t) 0 k 2 hk (v := .ref b) (I' := I a) (J' := J a) (R' := u2 R a k (some b) a) (by rw [Nat.zero_add, u2_s]; rfl) (fun q hq => ⟨rfl, rfl, (u2_k (by omega)).symm⟩)]

/-- the things that every method finds: the tables, the statics of the JDK that lie ahead of z -/
def EV (D : va_G) (z e0 : Nat) (U : State) : Prop :=
  va_K D vwCl (xtys D) U ∧ True ∧ True ∧ True ∧ va_Nw (.methodLinkNest RX2 9 yX0_init RX2) U ∧ va_Nw (.methodLinkNest RX0 89 yX2_part RX2) U ∧
  True ∧ True ∧ True ∧ True ∧ True ∧ True ∧ va_Nw (.castable RX1 "java/lang/Object") U ∧ va_AO "java/lang/Object" U ∧
  va_Z "java/util/ArrayList" "DEFAULTCAPACITY_EMPTY_ELEMENTDATA" "[Ljava/lang/Object;" (.ref e0) (fun q => z ≤ q) U U.heap ∧ va_T (.object "java/lang/Object") e0 0 (fun _ => .null) (fun q => z ≤ q) U U.heap ∧ va_AOA .int U ∧ True
theorem EV.go {D : va_G} {z e0 : Nat} {s U : State} (h : EV D z e0 s) (hW : s.WarmedH U.vm) (hq : ∀ a : Nat, a < s.heap.size → ¬ z ≤ a → U.heap[a]? = s.heap[a]?) : EV D z e0 U := by
  obtain ⟨h1, -, -, -, h5, h6, -, -, -, -, -, -, h13, h14, h15, h16, h17, -⟩ := h
  exact ⟨h1.moved hW.alike, trivial, trivial, trivial, va_Nw.warmM hW h5, va_Nw.warmM hW h6, trivial, trivial, trivial, trivial, trivial, trivial, va_Nw.warmC hW h13, va_AO.moved hW.alike h14, (h15.kept hq).moved hW.alike, (h16.kept hq).moved hW.alike, Jvm.Stand.arrayOver_alikeB hW.alike h17, trivial⟩
theorem EV.call {D : va_G} {z e0 : Nat} {U : State} (h : EV D z e0 U) (g : JFrame) (mk : MethodId) (a : Array Value) : EV D z e0 (U.calling g mk a) := by
  refine h.go (s := U) (U := U.calling g mk a) (State.WarmedH.refl U) (fun _ _ _ => rfl)
/-- a method's start in the world -/
def PC (D : va_G) (z e0 : Nat) (L : List Nat) (K N : Nat → Nat) (I : Nat → Nat → Int32) (J : Nat → Nat → Int64) (R : Nat → Nat → Option Nat) (av : List Value) : Array Value → State → Prop :=
  va_Pc av (fun U => EV D z e0 U ∧ z ≤ U.heap.size ∧ va_P D vwCl (wd D L K N I J R) U.heap ∧ va_D (fun q => z ≤ q) (wd D L K N I J R))
theorem PC.blind {D : va_G} {z e0 : Nat} {L : List Nat} {K N : Nat → Nat} {I : Nat → Nat → Int32} {J : Nat → Nat → Int64} {R : Nat → Nat → Option Nat} {av : List Value} : FrameBlind (PC D z e0 L K N I J R av) := by
  intro a U g mk h
  obtain ⟨h1, h2, h3, h4, h5⟩ := h
  exact ⟨h1, h2.call g mk a, h3, h4, h5⟩
/-- its end: the answer, the world's whole and long numbers -/
def QG (D : va_G) (z : Nat) (L : List Nat) (K N : Nat → Nat) (R : Nat → Nat → Option Nat) (post : Option Value → (Nat → Nat → Int32) → (Nat → Nat → Int64) → Prop) : Array Value → State → Outcome → State → Prop := fun _ st oc t =>
  (∃ (v : Option Value) (I : Nat → Nat → Int32) (J : Nat → Nat → Int64), oc = .returned v ∧ post v I J ∧ va_P D vwCl (wd D L K N I J R) t.heap ∧ va_D (fun q => z ≤ q) (wd D L K N I J R)) ∧ va_F (fun q => z ≤ q) st t
def MG (l : Launch) (y : MethodName) (ws : List Cond) (rm : Room) (D : va_G) (z e0 : Nat) (L : List Nat) (K N : Nat → Nat) (I : Nat → Nat → Int32) (J : Nat → Nat → Int64) (R : Nat → Nat → Option Nat) (av : List Value) (post : Option Value → (Nat → Nat → Int32) → (Nat → Nat → Int64) → Prop) : Prop :=
  Met l y ws rm (PC D z e0 L K N I J R av) (QG D z L K N R post) rm.cells rm.slots (fun q => z ≤ q)
/-- its end, where cells were made -/
def QF (D : va_G) (z : Nat) (post : Option Value → List Nat → (Nat → Nat) → (Nat → Nat) → (Nat → Nat → Int32) → (Nat → Nat → Int64) → (Nat → Nat → Option Nat) → Prop) : Array Value → State → Outcome → State → Prop := fun _ st oc t =>
  (∃ (v : Option Value) (L : List Nat) (K N : Nat → Nat) (I : Nat → Nat → Int32) (J : Nat → Nat → Int64) (R : Nat → Nat → Option Nat), oc = .returned v ∧ post v L K N I J R ∧ va_P D vwCl (wd D L K N I J R) t.heap ∧ va_D (fun q => z ≤ q) (wd D L K N I J R)) ∧ va_F (fun q => z ≤ q) st t
def MF (l : Launch) (y : MethodName) (ws : List Cond) (rm : Room) (D : va_G) (z e0 : Nat) (L : List Nat) (K N : Nat → Nat) (I : Nat → Nat → Int32) (J : Nat → Nat → Int64) (R : Nat → Nat → Option Nat) (av : List Value) (post : Option Value → List Nat → (Nat → Nat) → (Nat → Nat) → (Nat → Nat → Int32) → (Nat → Nat → Int64) → (Nat → Nat → Option Nat) → Prop) : Prop :=
  Met l y ws rm (PC D z e0 L K N I J R av) (QF D z post) rm.cells rm.slots (fun q => z ≤ q)
/-- a throw of E -/
def QX (D : va_G) (z : Nat) (L : List Nat) (K N : Nat → Nat) (R : Nat → Nat → Option Nat) (E : String) (post : (Nat → Nat → Int32) → (Nat → Nat → Int64) → Prop) : String → State → State → Prop := fun E' st t => E' = E ∧ (∃ (I : Nat → Nat → Int32) (J : Nat → Nat → Int64), post I J ∧ va_P D vwCl (wd D L K N I J R) t.heap) ∧ va_F (fun q => z ≤ q) st t
def MX (l : Launch) (y : MethodName) (ws : List Cond) (rm : Room) (D : va_G) (z e0 : Nat) (L : List Nat) (K N : Nat → Nat) (I : Nat → Nat → Int32) (J : Nat → Nat → Int64) (R : Nat → Nat → Option Nat) (av : List Value) (E : String) (post : (Nat → Nat → Int32) → (Nat → Nat → Int64) → Prop) : Prop :=
  vx_Met l y ws rm (PC D z e0 L K N I J R av) (fun _ _ _ _ => False) (QX D z L K N R E post) rm.cells rm.slots (fun q => z ≤ q)
section XR
variable {p : Program} {l : Launch} {e : Env} {R0 : Room} {s : State} {m : MethodId} {args : Array Value} {below : List Frame} {meth : Method} {c : Code} {D : va_G} {z e0 nL : Nat} {own : String} {Ts : List Cond} {cc : ByteArray} {L : List Nat} {K N : Nat → Nat} {I : Nat → Nat → Int32} {J : Nat → Nat → Int64} {R : Nat → Nat → Option Nat} {cells slots : Nat} {Q : State → Prop} {pc : Nat} {lv : List (Nat × Value)} {st : List Value}
/-- what holds all through a method's body -/
def CT (p : Program) (l : Launch) (s : State) (m : MethodId) (args : Array Value) (meth : Method) (c : Code) (D : va_G) (z e0 : Nat) (cc : ByteArray) (nL : Nat) (own : String) (Ts : List Cond) : Prop :=
  (p.tables.exec = Jvm.exec ∧ c.code = cc ∧ c.maxLocals = nL ∧ s.vm.findClass own = some m.cls ∧ ∀ w ∈ Ts, w.before args s = true) ∧ EV D z e0 s ∧ z ≤ s.heap.size ∧ meth.locks = false
theorem CT.x (h : CT p l s m args meth c D z e0 cc nL own Ts) : p.tables.exec = Jvm.exec := h.1.1
theorem CT.b (h : CT p l s m args meth c D z e0 cc nL own Ts) : c.code = cc := h.1.2.1
theorem CT.ml (h : CT p l s m args meth c D z e0 cc nL own Ts) : c.maxLocals = nL := h.1.2.2.1
theorem CT.o (h : CT p l s m args meth c D z e0 cc nL own Ts) : s.vm.findClass own = some m.cls := h.1.2.2.2.1
theorem CT.w (h : CT p l s m args meth c D z e0 cc nL own Ts) : ∀ w ∈ Ts, w.before args s = true := h.1.2.2.2.2
theorem CT.k (h : CT p l s m args meth c D z e0 cc nL own Ts) : va_K D vwCl (xtys D) s := h.2.1.1
theorem CT.ev (h : CT p l s m args meth c D z e0 cc nL own Ts) : EV D z e0 s := h.2.1
theorem CT.zz (h : CT p l s m args meth c D z e0 cc nL own Ts) : ∀ q, s.heap.size ≤ q → (fun q => z ≤ q) q := fun q hq => Nat.le_trans h.2.2.1 hq
/-- from a frame at pc with these locals and this stack, in any heap that holds the world -/
def XW (p : Program) (l : Launch) (e : Env) (R0 : Room) (s : State) (m : MethodId) (args : Array Value) (below : List Frame) (meth : Method) (c : Code) (D : va_G) (z nL : Nat) (L : List Nat) (K N : Nat → Nat) (I : Nat → Nat → Int32) (J : Nat → Nat → Int64) (R : Nat → Nat → Option Nat) (cells slots : Nat) (Q : State → Prop) (pc : Nat) (lv : List (Nat × Value)) (st : List Value) : Prop :=
  ∀ (H : Heap) (locs : List Loc) (ls : Array Slot), va_P D vwCl (wd D L K N I J R) H → va_D (fun q => z ≤ q) (wd D L K N I J R) → va_S (fun q => z ≤ q) s.heap H locs → lv_has ls nL lv → W p l e R0 s m args below meth c H locs cells slots Q (F0 m pc ls st)

theorem x_iconst (hc : CT p l s m args meth c D z e0 cc nL own Ts) {n : Int} {v : Int32} (d : decode cc pc = .ok (.iconst n, 1)) (hv : Int32.ofInt n = v) (k : XW p l e R0 s m args below meth c D z nL L K N I J R cells slots Q (pc + 1) lv (.int v :: st)) : XW p l e R0 s m args below meth c D z nL L K N I J R cells slots Q pc lv (st) := fun H locs ls h1 h2 h3 h4 => lv_iconst hc.x hc.b d hv (k H locs ls h1 h2 h3 h4)
theorem x_bipush (hc : CT p l s m args meth c D z e0 cc nL own Ts) {n : Int} {v : Int32} (d : decode cc pc = .ok (.bipush n, 2)) (hv : (Int8.ofInt n).toInt32 = v) (k : XW p l e R0 s m args below meth c D z nL L K N I J R cells slots Q (pc + 2) lv (.int v :: st)) : XW p l e R0 s m args below meth c D z nL L K N I J R cells slots Q pc lv (st) := fun H locs ls h1 h2 h3 h4 => lv_bipush hc.x hc.b d hv (k H locs ls h1 h2 h3 h4)
theorem x_sipush (hc : CT p l s m args meth c D z e0 cc nL own Ts) {n : Int} {v : Int32} (d : decode cc pc = .ok (.sipush n, 3)) (hv : (Int16.ofInt n).toInt32 = v) (k : XW p l e R0 s m args below meth c D z nL L K N I J R cells slots Q (pc + 3) lv (.int v :: st)) : XW p l e R0 s m args below meth c D z nL L K N I J R cells slots Q pc lv (st) := fun H locs ls h1 h2 h3 h4 => lv_sipush hc.x hc.b d hv (k H locs ls h1 h2 h3 h4)
theorem x_lconst (hc : CT p l s m args meth c D z e0 cc nL own Ts) {n : Fin 2} {v : Int64} (d : decode cc pc = .ok (.lconst n, 1)) (hv : Int64.ofNat (n : Nat) = v) (k : XW p l e R0 s m args below meth c D z nL L K N I J R cells slots Q (pc + 1) lv (.long v :: st)) : XW p l e R0 s m args below meth c D z nL L K N I J R cells slots Q pc lv (st) := fun H locs ls h1 h2 h3 h4 => lv_lconst hc.x hc.b d hv (k H locs ls h1 h2 h3 h4)
theorem x_iload_n (hc : CT p l s m args meth c D z e0 cc nL own Ts) {k0 : Fin 4} {i j : Nat} {x : Int32} (d : decode cc pc = .ok (.iload_n k0, 1)) (hi : (k0 : Nat) = i) (hl : lv[j]? = some (i, .int x)) (k : XW p l e R0 s m args below meth c D z nL L K N I J R cells slots Q (pc + 1) lv (.int x :: st)) : XW p l e R0 s m args below meth c D z nL L K N I J R cells slots Q pc lv (st) := fun H locs ls h1 h2 h3 h4 => lv_iload_n hc.x hc.b d hi (lv_at h4 j hl) (k H locs ls h1 h2 h3 h4)
theorem x_iload (hc : CT p l s m args meth c D z e0 cc nL own Ts) {i j : Nat} {x : Int32} (d : decode cc pc = .ok (.iload i, 2)) (hl : lv[j]? = some (i, .int x)) (k : XW p l e R0 s m args below meth c D z nL L K N I J R cells slots Q (pc + 2) lv (.int x :: st)) : XW p l e R0 s m args below meth c D z nL L K N I J R cells slots Q pc lv (st) := fun H locs ls h1 h2 h3 h4 => lv_iload hc.x hc.b d (lv_at h4 j hl) (k H locs ls h1 h2 h3 h4)
theorem x_istore_n (hc : CT p l s m args meth c D z e0 cc nL own Ts) {k0 : Fin 4} {i : Nat} {x : Int32} {lv' : List (Nat × Value)} (d : decode cc pc = .ok (.istore_n k0, 1)) (hi : (k0 : Nat) = i) (hn : i < nL) (hl : (i, Value.int x) :: lv.filter (fun q => !(q.1 == i) && !(q.1 + 1 == i && q.2.category == 2)) = lv') (k : XW p l e R0 s m args below meth c D z nL L K N I J R cells slots Q (pc + 1) lv' st) : XW p l e R0 s m args below meth c D z nL L K N I J R cells slots Q pc lv (.int x :: st) := fun H locs ls h1 h2 h3 h4 => lv_istore_n hc.x hc.b d hi h4 hn hl (fun ls' h4 => k H locs ls' h1 h2 h3 h4)
theorem x_istore (hc : CT p l s m args meth c D z e0 cc nL own Ts) {i : Nat} {x : Int32} {lv' : List (Nat × Value)} (d : decode cc pc = .ok (.istore i, 2)) (hn : i < nL) (hl : (i, Value.int x) :: lv.filter (fun q => !(q.1 == i) && !(q.1 + 1 == i && q.2.category == 2)) = lv') (k : XW p l e R0 s m args below meth c D z nL L K N I J R cells slots Q (pc + 2) lv' st) : XW p l e R0 s m args below meth c D z nL L K N I J R cells slots Q pc lv (.int x :: st) := fun H locs ls h1 h2 h3 h4 => lv_istore hc.x hc.b d h4 hn hl (fun ls' h4 => k H locs ls' h1 h2 h3 h4)
theorem x_lload_n (hc : CT p l s m args meth c D z e0 cc nL own Ts) {k0 : Fin 4} {i j : Nat} {x : Int64} (d : decode cc pc = .ok (.lload_n k0, 1)) (hi : (k0 : Nat) = i) (hl : lv[j]? = some (i, .long x)) (k : XW p l e R0 s m args below meth c D z nL L K N I J R cells slots Q (pc + 1) lv (.long x :: st)) : XW p l e R0 s m args below meth c D z nL L K N I J R cells slots Q pc lv (st) := fun H locs ls h1 h2 h3 h4 => lv_lload_n hc.x hc.b d hi (lv_at h4 j hl) (k H locs ls h1 h2 h3 h4)
theorem x_lload (hc : CT p l s m args meth c D z e0 cc nL own Ts) {i j : Nat} {x : Int64} (d : decode cc pc = .ok (.lload i, 2)) (hl : lv[j]? = some (i, .long x)) (k : XW p l e R0 s m args below meth c D z nL L K N I J R cells slots Q (pc + 2) lv (.long x :: st)) : XW p l e R0 s m args below meth c D z nL L K N I J R cells slots Q pc lv (st) := fun H locs ls h1 h2 h3 h4 => lv_lload hc.x hc.b d (lv_at h4 j hl) (k H locs ls h1 h2 h3 h4)
theorem x_lstore_n (hc : CT p l s m args meth c D z e0 cc nL own Ts) {k0 : Fin 4} {i : Nat} {x : Int64} {lv' : List (Nat × Value)} (d : decode cc pc = .ok (.lstore_n k0, 1)) (hi : (k0 : Nat) = i) (hn : i + 1 < nL) (hl : (i, Value.long x) :: lv.filter (fun q => !(q.1 == i) && (!(q.1 == i + 1) && !(q.1 + 1 == i && q.2.category == 2))) = lv') (k : XW p l e R0 s m args below meth c D z nL L K N I J R cells slots Q (pc + 1) lv' st) : XW p l e R0 s m args below meth c D z nL L K N I J R cells slots Q pc lv (.long x :: st) := fun H locs ls h1 h2 h3 h4 => lv_lstore_n hc.x hc.b d hi h4 hn hl (fun ls' h4 => k H locs ls' h1 h2 h3 h4)
theorem x_lstore (hc : CT p l s m args meth c D z e0 cc nL own Ts) {i : Nat} {x : Int64} {lv' : List (Nat × Value)} (d : decode cc pc = .ok (.lstore i, 2)) (hn : i + 1 < nL) (hl : (i, Value.long x) :: lv.filter (fun q => !(q.1 == i) && (!(q.1 == i + 1) && !(q.1 + 1 == i && q.2.category == 2))) = lv') (k : XW p l e R0 s m args below meth c D z nL L K N I J R cells slots Q (pc + 2) lv' st) : XW p l e R0 s m args below meth c D z nL L K N I J R cells slots Q pc lv (.long x :: st) := fun H locs ls h1 h2 h3 h4 => lv_lstore hc.x hc.b d h4 hn hl (fun ls' h4 => k H locs ls' h1 h2 h3 h4)
theorem x_aload_n (hc : CT p l s m args meth c D z e0 cc nL own Ts) {k0 : Fin 4} {i j : Nat} {x : Nat} (d : decode cc pc = .ok (.aload_n k0, 1)) (hi : (k0 : Nat) = i) (hl : lv[j]? = some (i, .ref x)) (k : XW p l e R0 s m args below meth c D z nL L K N I J R cells slots Q (pc + 1) lv (.ref x :: st)) : XW p l e R0 s m args below meth c D z nL L K N I J R cells slots Q pc lv (st) := fun H locs ls h1 h2 h3 h4 => lv_aload_n hc.x hc.b d hi (lv_at h4 j hl) (k H locs ls h1 h2 h3 h4)
theorem x_aload (hc : CT p l s m args meth c D z e0 cc nL own Ts) {i j : Nat} {x : Nat} (d : decode cc pc = .ok (.aload i, 2)) (hl : lv[j]? = some (i, .ref x)) (k : XW p l e R0 s m args below meth c D z nL L K N I J R cells slots Q (pc + 2) lv (.ref x :: st)) : XW p l e R0 s m args below meth c D z nL L K N I J R cells slots Q pc lv (st) := fun H locs ls h1 h2 h3 h4 => lv_aload hc.x hc.b d (lv_at h4 j hl) (k H locs ls h1 h2 h3 h4)
theorem x_astore_n (hc : CT p l s m args meth c D z e0 cc nL own Ts) {k0 : Fin 4} {i : Nat} {x : Nat} {lv' : List (Nat × Value)} (d : decode cc pc = .ok (.astore_n k0, 1)) (hi : (k0 : Nat) = i) (hn : i < nL) (hl : (i, Value.ref x) :: lv.filter (fun q => !(q.1 == i) && !(q.1 + 1 == i && q.2.category == 2)) = lv') (k : XW p l e R0 s m args below meth c D z nL L K N I J R cells slots Q (pc + 1) lv' st) : XW p l e R0 s m args below meth c D z nL L K N I J R cells slots Q pc lv (.ref x :: st) := fun H locs ls h1 h2 h3 h4 => lv_astore_n hc.x hc.b d hi h4 hn hl (fun ls' h4 => k H locs ls' h1 h2 h3 h4)
theorem x_astore (hc : CT p l s m args meth c D z e0 cc nL own Ts) {i : Nat} {x : Nat} {lv' : List (Nat × Value)} (d : decode cc pc = .ok (.astore i, 2)) (hn : i < nL) (hl : (i, Value.ref x) :: lv.filter (fun q => !(q.1 == i) && !(q.1 + 1 == i && q.2.category == 2)) = lv') (k : XW p l e R0 s m args below meth c D z nL L K N I J R cells slots Q (pc + 2) lv' st) : XW p l e R0 s m args below meth c D z nL L K N I J R cells slots Q pc lv (.ref x :: st) := fun H locs ls h1 h2 h3 h4 => lv_astore hc.x hc.b d h4 hn hl (fun ls' h4 => k H locs ls' h1 h2 h3 h4)
theorem x_iinc (hc : CT p l s m args meth c D z e0 cc nL own Ts) {i j : Nat} {n : Int} {x v : Int32} {lv' : List (Nat × Value)} (d : decode cc pc = .ok (.iinc i n, 3)) (hk : lv[j]? = some (i, .int x)) (hv : x + Int32.ofInt n = v) (hn : i < nL) (hl : (i, Value.int v) :: lv.filter (fun q => !(q.1 == i) && !(q.1 + 1 == i && q.2.category == 2)) = lv') (k : XW p l e R0 s m args below meth c D z nL L K N I J R cells slots Q (pc + 3) lv' st) : XW p l e R0 s m args below meth c D z nL L K N I J R cells slots Q pc lv st := fun H locs ls h1 h2 h3 h4 => lv_iinc hc.x hc.b d h4 hk hv hn hl (fun ls' h4 => k H locs ls' h1 h2 h3 h4)
theorem x_iadd (hc : CT p l s m args meth c D z e0 cc nL own Ts) {x y : Int32} (d : decode cc pc = .ok (.iadd, 1)) (k : XW p l e R0 s m args below meth c D z nL L K N I J R cells slots Q (pc + 1) lv (.int (x + y) :: st)) : XW p l e R0 s m args below meth c D z nL L K N I J R cells slots Q pc lv (.int y :: .int x :: st) := fun H locs ls h1 h2 h3 h4 => lv_iadd hc.x hc.b d (k H locs ls h1 h2 h3 h4)
theorem x_isub (hc : CT p l s m args meth c D z e0 cc nL own Ts) {x y : Int32} (d : decode cc pc = .ok (.isub, 1)) (k : XW p l e R0 s m args below meth c D z nL L K N I J R cells slots Q (pc + 1) lv (.int (x - y) :: st)) : XW p l e R0 s m args below meth c D z nL L K N I J R cells slots Q pc lv (.int y :: .int x :: st) := fun H locs ls h1 h2 h3 h4 => lv_isub hc.x hc.b d (k H locs ls h1 h2 h3 h4)
theorem x_imul (hc : CT p l s m args meth c D z e0 cc nL own Ts) {x y : Int32} (d : decode cc pc = .ok (.imul, 1)) (k : XW p l e R0 s m args below meth c D z nL L K N I J R cells slots Q (pc + 1) lv (.int (x * y) :: st)) : XW p l e R0 s m args below meth c D z nL L K N I J R cells slots Q pc lv (.int y :: .int x :: st) := fun H locs ls h1 h2 h3 h4 => lv_imul hc.x hc.b d (k H locs ls h1 h2 h3 h4)
theorem x_iand (hc : CT p l s m args meth c D z e0 cc nL own Ts) {x y : Int32} (d : decode cc pc = .ok (.iand, 1)) (k : XW p l e R0 s m args below meth c D z nL L K N I J R cells slots Q (pc + 1) lv (.int (x &&& y) :: st)) : XW p l e R0 s m args below meth c D z nL L K N I J R cells slots Q pc lv (.int y :: .int x :: st) := fun H locs ls h1 h2 h3 h4 => lv_iand hc.x hc.b d (k H locs ls h1 h2 h3 h4)
theorem x_ladd (hc : CT p l s m args meth c D z e0 cc nL own Ts) {x y : Int64} (d : decode cc pc = .ok (.ladd, 1)) (k : XW p l e R0 s m args below meth c D z nL L K N I J R cells slots Q (pc + 1) lv (.long (x + y) :: st)) : XW p l e R0 s m args below meth c D z nL L K N I J R cells slots Q pc lv (.long y :: .long x :: st) := fun H locs ls h1 h2 h3 h4 => lv_ladd hc.x hc.b d (k H locs ls h1 h2 h3 h4)
theorem x_lsub (hc : CT p l s m args meth c D z e0 cc nL own Ts) {x y : Int64} (d : decode cc pc = .ok (.lsub, 1)) (k : XW p l e R0 s m args below meth c D z nL L K N I J R cells slots Q (pc + 1) lv (.long (x - y) :: st)) : XW p l e R0 s m args below meth c D z nL L K N I J R cells slots Q pc lv (.long y :: .long x :: st) := fun H locs ls h1 h2 h3 h4 => lv_lsub hc.x hc.b d (k H locs ls h1 h2 h3 h4)
theorem x_lmul (hc : CT p l s m args meth c D z e0 cc nL own Ts) {x y : Int64} (d : decode cc pc = .ok (.lmul, 1)) (k : XW p l e R0 s m args below meth c D z nL L K N I J R cells slots Q (pc + 1) lv (.long (x * y) :: st)) : XW p l e R0 s m args below meth c D z nL L K N I J R cells slots Q pc lv (.long y :: .long x :: st) := fun H locs ls h1 h2 h3 h4 => lv_lmul hc.x hc.b d (k H locs ls h1 h2 h3 h4)
theorem x_ldiv (hc : CT p l s m args meth c D z e0 cc nL own Ts) {x y : Int64} (d : decode cc pc = .ok (.ldiv, 1)) (hne : ¬ y = 0) (k : XW p l e R0 s m args below meth c D z nL L K N I J R cells slots Q (pc + 1) lv (.long (x / y) :: st)) : XW p l e R0 s m args below meth c D z nL L K N I J R cells slots Q pc lv (.long y :: .long x :: st) := fun H locs ls h1 h2 h3 h4 => lv_ldiv hc.x hc.b d hne (k H locs ls h1 h2 h3 h4)
theorem x_lneg (hc : CT p l s m args meth c D z e0 cc nL own Ts) {x : Int64} (d : decode cc pc = .ok (.lneg, 1)) (k : XW p l e R0 s m args below meth c D z nL L K N I J R cells slots Q (pc + 1) lv (.long (-x) :: st)) : XW p l e R0 s m args below meth c D z nL L K N I J R cells slots Q pc lv (.long x :: st) := fun H locs ls h1 h2 h3 h4 => lv_lneg hc.x hc.b d (k H locs ls h1 h2 h3 h4)
theorem x_i2l (hc : CT p l s m args meth c D z e0 cc nL own Ts) {x : Int32} (d : decode cc pc = .ok (.i2l, 1)) (k : XW p l e R0 s m args below meth c D z nL L K N I J R cells slots Q (pc + 1) lv (.long x.toInt64 :: st)) : XW p l e R0 s m args below meth c D z nL L K N I J R cells slots Q pc lv (.int x :: st) := fun H locs ls h1 h2 h3 h4 => lv_i2l hc.x hc.b d rfl (k H locs ls h1 h2 h3 h4)
theorem x_l2i (hc : CT p l s m args meth c D z e0 cc nL own Ts) {x : Int64} (d : decode cc pc = .ok (.l2i, 1)) (k : XW p l e R0 s m args below meth c D z nL L K N I J R cells slots Q (pc + 1) lv (.int x.toInt32 :: st)) : XW p l e R0 s m args below meth c D z nL L K N I J R cells slots Q pc lv (.long x :: st) := fun H locs ls h1 h2 h3 h4 => lv_l2i hc.x hc.b d rfl (k H locs ls h1 h2 h3 h4)
theorem x_lcmp (hc : CT p l s m args meth c D z e0 cc nL own Ts) {x y : Int64} (d : decode cc pc = .ok (.lcmp, 1)) (k : XW p l e R0 s m args below meth c D z nL L K N I J R cells slots Q (pc + 1) lv (.int (lg_cmp x y) :: st)) : XW p l e R0 s m args below meth c D z nL L K N I J R cells slots Q pc lv (.long y :: .long x :: st) := fun H locs ls h1 h2 h3 h4 => W.lcmp hc.x hc.b d (k H locs ls h1 h2 h3 h4)
theorem x_dup (hc : CT p l s m args meth c D z e0 cc nL own Ts) {v : Value} (d : decode cc pc = .ok (.dup, 1)) (hv : v.category = 1) (k : XW p l e R0 s m args below meth c D z nL L K N I J R cells slots Q (pc + 1) lv (v :: v :: st)) : XW p l e R0 s m args below meth c D z nL L K N I J R cells slots Q pc lv (v :: st) := fun H locs ls h1 h2 h3 h4 => lv_dup hc.x hc.b d hv (k H locs ls h1 h2 h3 h4)
theorem x_pop (hc : CT p l s m args meth c D z e0 cc nL own Ts) {v : Value} (d : decode cc pc = .ok (.pop, 1)) (hv : v.category = 1) (k : XW p l e R0 s m args below meth c D z nL L K N I J R cells slots Q (pc + 1) lv (st)) : XW p l e R0 s m args below meth c D z nL L K N I J R cells slots Q pc lv (v :: st) := fun H locs ls h1 h2 h3 h4 => lv_pop hc.x hc.b d hv (k H locs ls h1 h2 h3 h4)
theorem x_dup_x1 (hc : CT p l s m args meth c D z e0 cc nL own Ts) {v w : Value} (d : decode cc pc = .ok (.dup_x1, 1)) (hv : v.category = 1) (hw : w.category = 1) (k : XW p l e R0 s m args below meth c D z nL L K N I J R cells slots Q (pc + 1) lv (v :: w :: v :: st)) : XW p l e R0 s m args below meth c D z nL L K N I J R cells slots Q pc lv (v :: w :: st) := fun H locs ls h1 h2 h3 h4 => lv_dup_x1 hc.x hc.b d hv hw (k H locs ls h1 h2 h3 h4)
theorem x_dup2 (hc : CT p l s m args meth c D z e0 cc nL own Ts) {v w : Value} (d : decode cc pc = .ok (.dup2, 1)) (hv : v.category = 1) (hw : w.category = 1) (k : XW p l e R0 s m args below meth c D z nL L K N I J R cells slots Q (pc + 1) lv (v :: w :: v :: w :: st)) : XW p l e R0 s m args below meth c D z nL L K N I J R cells slots Q pc lv (v :: w :: st) := fun H locs ls h1 h2 h3 h4 => lv_dup2_11 hc.x hc.b d hv hw (k H locs ls h1 h2 h3 h4)
theorem x_null (hc : CT p l s m args meth c D z e0 cc nL own Ts)  (d : decode cc pc = .ok (.aconst_null, 1)) (k : XW p l e R0 s m args below meth c D z nL L K N I J R cells slots Q (pc + 1) lv (.null :: st)) : XW p l e R0 s m args below meth c D z nL L K N I J R cells slots Q pc lv (st) := fun H locs ls h1 h2 h3 h4 => lv_null hc.x hc.b d (k H locs ls h1 h2 h3 h4)
theorem x_if_eq (hc : CT p l s m args meth c D z e0 cc nL own Ts) {x : Int32} {off : Int} {tgt : Nat} (d : decode cc pc = .ok (.ifCond .eq off, 3)) (ht : (pc : Int) + off = (tgt : Int)) (kt : x = 0 → XW p l e R0 s m args below meth c D z nL L K N I J R cells slots Q tgt lv st) (kf : ¬ x = 0 → XW p l e R0 s m args below meth c D z nL L K N I J R cells slots Q (pc + 3) lv st) : XW p l e R0 s m args below meth c D z nL L K N I J R cells slots Q pc lv (.int x :: st) := fun H locs ls h1 h2 h3 h4 => lv_if_eq hc.x hc.b d ht (fun q => kt q H locs ls h1 h2 h3 h4) (fun q => kf q H locs ls h1 h2 h3 h4)
theorem x_if_ne (hc : CT p l s m args meth c D z e0 cc nL own Ts) {x : Int32} {off : Int} {tgt : Nat} (d : decode cc pc = .ok (.ifCond .ne off, 3)) (ht : (pc : Int) + off = (tgt : Int)) (kt : ¬ x = 0 → XW p l e R0 s m args below meth c D z nL L K N I J R cells slots Q tgt lv st) (kf : x = 0 → XW p l e R0 s m args below meth c D z nL L K N I J R cells slots Q (pc + 3) lv st) : XW p l e R0 s m args below meth c D z nL L K N I J R cells slots Q pc lv (.int x :: st) := fun H locs ls h1 h2 h3 h4 => lv_if_ne hc.x hc.b d ht (fun q => kt q H locs ls h1 h2 h3 h4) (fun q => kf q H locs ls h1 h2 h3 h4)
theorem x_if_lt (hc : CT p l s m args meth c D z e0 cc nL own Ts) {x : Int32} {off : Int} {tgt : Nat} (d : decode cc pc = .ok (.ifCond .lt off, 3)) (ht : (pc : Int) + off = (tgt : Int)) (kt : x < 0 → XW p l e R0 s m args below meth c D z nL L K N I J R cells slots Q tgt lv st) (kf : ¬ x < 0 → XW p l e R0 s m args below meth c D z nL L K N I J R cells slots Q (pc + 3) lv st) : XW p l e R0 s m args below meth c D z nL L K N I J R cells slots Q pc lv (.int x :: st) := fun H locs ls h1 h2 h3 h4 => lv_if_lt hc.x hc.b d ht (fun q => kt q H locs ls h1 h2 h3 h4) (fun q => kf q H locs ls h1 h2 h3 h4)
theorem x_if_ge (hc : CT p l s m args meth c D z e0 cc nL own Ts) {x : Int32} {off : Int} {tgt : Nat} (d : decode cc pc = .ok (.ifCond .ge off, 3)) (ht : (pc : Int) + off = (tgt : Int)) (kt : 0 ≤ x → XW p l e R0 s m args below meth c D z nL L K N I J R cells slots Q tgt lv st) (kf : ¬ 0 ≤ x → XW p l e R0 s m args below meth c D z nL L K N I J R cells slots Q (pc + 3) lv st) : XW p l e R0 s m args below meth c D z nL L K N I J R cells slots Q pc lv (.int x :: st) := fun H locs ls h1 h2 h3 h4 => lv_if_ge hc.x hc.b d ht (fun q => kt q H locs ls h1 h2 h3 h4) (fun q => kf q H locs ls h1 h2 h3 h4)
theorem x_if_gt (hc : CT p l s m args meth c D z e0 cc nL own Ts) {x : Int32} {off : Int} {tgt : Nat} (d : decode cc pc = .ok (.ifCond .gt off, 3)) (ht : (pc : Int) + off = (tgt : Int)) (kt : 0 < x → XW p l e R0 s m args below meth c D z nL L K N I J R cells slots Q tgt lv st) (kf : ¬ 0 < x → XW p l e R0 s m args below meth c D z nL L K N I J R cells slots Q (pc + 3) lv st) : XW p l e R0 s m args below meth c D z nL L K N I J R cells slots Q pc lv (.int x :: st) := fun H locs ls h1 h2 h3 h4 => lv_if_gt hc.x hc.b d ht (fun q => kt q H locs ls h1 h2 h3 h4) (fun q => kf q H locs ls h1 h2 h3 h4)
theorem x_if_le (hc : CT p l s m args meth c D z e0 cc nL own Ts) {x : Int32} {off : Int} {tgt : Nat} (d : decode cc pc = .ok (.ifCond .le off, 3)) (ht : (pc : Int) + off = (tgt : Int)) (kt : x ≤ 0 → XW p l e R0 s m args below meth c D z nL L K N I J R cells slots Q tgt lv st) (kf : ¬ x ≤ 0 → XW p l e R0 s m args below meth c D z nL L K N I J R cells slots Q (pc + 3) lv st) : XW p l e R0 s m args below meth c D z nL L K N I J R cells slots Q pc lv (.int x :: st) := fun H locs ls h1 h2 h3 h4 => lv_if_le hc.x hc.b d ht (fun q => kt q H locs ls h1 h2 h3 h4) (fun q => kf q H locs ls h1 h2 h3 h4)
theorem x_icmp_eq (hc : CT p l s m args meth c D z e0 cc nL own Ts) {x y : Int32} {off : Int} {tgt : Nat} (d : decode cc pc = .ok (.if_icmp .eq off, 3)) (ht : (pc : Int) + off = (tgt : Int)) (kt : x = y → XW p l e R0 s m args below meth c D z nL L K N I J R cells slots Q tgt lv st) (kf : ¬ x = y → XW p l e R0 s m args below meth c D z nL L K N I J R cells slots Q (pc + 3) lv st) : XW p l e R0 s m args below meth c D z nL L K N I J R cells slots Q pc lv (.int y :: .int x :: st) := fun H locs ls h1 h2 h3 h4 => lv_icmp_eq hc.x hc.b d ht (fun q => kt q H locs ls h1 h2 h3 h4) (fun q => kf q H locs ls h1 h2 h3 h4)
theorem x_icmp_ne (hc : CT p l s m args meth c D z e0 cc nL own Ts) {x y : Int32} {off : Int} {tgt : Nat} (d : decode cc pc = .ok (.if_icmp .ne off, 3)) (ht : (pc : Int) + off = (tgt : Int)) (kt : ¬ x = y → XW p l e R0 s m args below meth c D z nL L K N I J R cells slots Q tgt lv st) (kf : x = y → XW p l e R0 s m args below meth c D z nL L K N I J R cells slots Q (pc + 3) lv st) : XW p l e R0 s m args below meth c D z nL L K N I J R cells slots Q pc lv (.int y :: .int x :: st) := fun H locs ls h1 h2 h3 h4 => lv_icmp_ne hc.x hc.b d ht (fun q => kt q H locs ls h1 h2 h3 h4) (fun q => kf q H locs ls h1 h2 h3 h4)
theorem x_icmp_lt (hc : CT p l s m args meth c D z e0 cc nL own Ts) {x y : Int32} {off : Int} {tgt : Nat} (d : decode cc pc = .ok (.if_icmp .lt off, 3)) (ht : (pc : Int) + off = (tgt : Int)) (kt : x < y → XW p l e R0 s m args below meth c D z nL L K N I J R cells slots Q tgt lv st) (kf : ¬ x < y → XW p l e R0 s m args below meth c D z nL L K N I J R cells slots Q (pc + 3) lv st) : XW p l e R0 s m args below meth c D z nL L K N I J R cells slots Q pc lv (.int y :: .int x :: st) := fun H locs ls h1 h2 h3 h4 => lv_icmp_lt hc.x hc.b d ht (fun q => kt q H locs ls h1 h2 h3 h4) (fun q => kf q H locs ls h1 h2 h3 h4)
theorem x_icmp_ge (hc : CT p l s m args meth c D z e0 cc nL own Ts) {x y : Int32} {off : Int} {tgt : Nat} (d : decode cc pc = .ok (.if_icmp .ge off, 3)) (ht : (pc : Int) + off = (tgt : Int)) (kt : y ≤ x → XW p l e R0 s m args below meth c D z nL L K N I J R cells slots Q tgt lv st) (kf : ¬ y ≤ x → XW p l e R0 s m args below meth c D z nL L K N I J R cells slots Q (pc + 3) lv st) : XW p l e R0 s m args below meth c D z nL L K N I J R cells slots Q pc lv (.int y :: .int x :: st) := fun H locs ls h1 h2 h3 h4 => lv_icmp_ge hc.x hc.b d ht (fun q => kt q H locs ls h1 h2 h3 h4) (fun q => kf q H locs ls h1 h2 h3 h4)
theorem x_icmp_gt (hc : CT p l s m args meth c D z e0 cc nL own Ts) {x y : Int32} {off : Int} {tgt : Nat} (d : decode cc pc = .ok (.if_icmp .gt off, 3)) (ht : (pc : Int) + off = (tgt : Int)) (kt : y < x → XW p l e R0 s m args below meth c D z nL L K N I J R cells slots Q tgt lv st) (kf : ¬ y < x → XW p l e R0 s m args below meth c D z nL L K N I J R cells slots Q (pc + 3) lv st) : XW p l e R0 s m args below meth c D z nL L K N I J R cells slots Q pc lv (.int y :: .int x :: st) := fun H locs ls h1 h2 h3 h4 => lv_icmp_gt hc.x hc.b d ht (fun q => kt q H locs ls h1 h2 h3 h4) (fun q => kf q H locs ls h1 h2 h3 h4)
theorem x_icmp_le (hc : CT p l s m args meth c D z e0 cc nL own Ts) {x y : Int32} {off : Int} {tgt : Nat} (d : decode cc pc = .ok (.if_icmp .le off, 3)) (ht : (pc : Int) + off = (tgt : Int)) (kt : x ≤ y → XW p l e R0 s m args below meth c D z nL L K N I J R cells slots Q tgt lv st) (kf : ¬ x ≤ y → XW p l e R0 s m args below meth c D z nL L K N I J R cells slots Q (pc + 3) lv st) : XW p l e R0 s m args below meth c D z nL L K N I J R cells slots Q pc lv (.int y :: .int x :: st) := fun H locs ls h1 h2 h3 h4 => lv_icmp_le hc.x hc.b d ht (fun q => kt q H locs ls h1 h2 h3 h4) (fun q => kf q H locs ls h1 h2 h3 h4)
theorem x_goto (hc : CT p l s m args meth c D z e0 cc nL own Ts) {off : Int} {tgt : Nat} (d : decode cc pc = .ok (.goto off, 3)) (ht : (pc : Int) + off = (tgt : Int)) (k : XW p l e R0 s m args below meth c D z nL L K N I J R cells slots Q tgt lv st) : XW p l e R0 s m args below meth c D z nL L K N I J R cells slots Q pc lv st := fun H locs ls h1 h2 h3 h4 => lv_goto hc.x hc.b d ht (k H locs ls h1 h2 h3 h4)
theorem x_ldc (hc : CT p l s m args meth c D z e0 cc nL own Ts) {index : Nat} {v : Int32} (d : decode cc pc = .ok (.ldc index, 2)) (hw : Jvm.Cond.constant own index v ∈ Ts) (k : XW p l e R0 s m args below meth c D z nL L K N I J R cells slots Q (pc + 2) lv (.int v :: st)) : XW p l e R0 s m args below meth c D z nL L K N I J R cells slots Q pc lv st := fun H locs ls h1 h2 h3 h4 => lv_ldc hc.x hc.b hc.o (hc.w _ hw) d (k H locs ls h1 h2 h3 h4)
theorem x_ldc2 (hc : CT p l s m args meth c D z e0 cc nL own Ts) {index : Nat} {v : Int64} (d : decode cc pc = .ok (.ldc2_w index, 3)) (hw : Jvm.Cond.constantLong own index v ∈ Ts) (k : XW p l e R0 s m args below meth c D z nL L K N I J R cells slots Q (pc + 3) lv (.long v :: st)) : XW p l e R0 s m args below meth c D z nL L K N I J R cells slots Q pc lv st := fun H locs ls h1 h2 h3 h4 => lv_ldc2 hc.x hc.b hc.o (hc.w _ hw) d (k H locs ls h1 h2 h3 h4)
theorem x_tableIn (hc : CT p l s m args meth c D z e0 cc nL own Ts) {dflt lo hi : Int} {offs : Array Int} {len : Nat} {x : Int32} {off : Int} {tgt : Nat} (d : decode cc pc = .ok (.tableswitch dflt lo hi offs, len)) (h1 : ¬ x.toInt < lo) (h2 : ¬ hi < x.toInt) (ho : offs[(x.toInt - lo).toNat]? = some off) (ht : (pc : Int) + off = (tgt : Int)) (k : XW p l e R0 s m args below meth c D z nL L K N I J R cells slots Q tgt lv st) : XW p l e R0 s m args below meth c D z nL L K N I J R cells slots Q pc lv (.int x :: st) := fun H locs ls g1 g2 g3 g4 => lv_tableIn hc.x hc.b d h1 h2 ho ht (k H locs ls g1 g2 g3 g4)
theorem x_tableOut (hc : CT p l s m args meth c D z e0 cc nL own Ts) {dflt lo hi : Int} {offs : Array Int} {len : Nat} {x : Int32} {tgt : Nat} (d : decode cc pc = .ok (.tableswitch dflt lo hi offs, len)) (h : x.toInt < lo ∨ hi < x.toInt) (ht : (pc : Int) + dflt = (tgt : Int)) (k : XW p l e R0 s m args below meth c D z nL L K N I J R cells slots Q tgt lv st) : XW p l e R0 s m args below meth c D z nL L K N I J R cells slots Q pc lv (.int x :: st) := fun H locs ls g1 g2 g3 g4 => lv_tableOut hc.x hc.b d h ht (k H locs ls g1 g2 g3 g4)
theorem x_getI (hc : CT p l s m args meth c D z e0 cc nL own Ts) {C ref : String} {T : u_T} {NN ci index : Nat} {a : Nat} (k0 : Nat) (hin : ∀ w ∈ u_ws C T NN, w ∈ Ts) (hcl : vwCl[ci]? = some (C, T, NN)) (hk : k0 < NN) (hlink : Cond.fieldLink own index ref (T k0).2.1 (T k0).2.2.1 ∈ Ts) (hsame : ∀ x, s.fieldFound? (T k0).1 (T k0).2.1 (T k0).2.2.1 = some x → s.fieldFound? ref (T k0).2.1 (T k0).2.2.1 = some x) {t0 n0 : Nat} (hA : At L K N a t0 n0) (hK : t0 % 16 = ci) (h5 : ci < 5) (ht : (lay ci)[k0]? = some 0) (d : decode cc pc = .ok (.getfield index, 3)) (k : XW p l e R0 s m args below meth c D z nL L K N I J R cells slots Q (pc + 3) lv (.int (I a k0) :: st)) : XW p l e R0 s m args below meth c D z nL L K N I J R cells slots Q pc lv (.ref a :: st) := by
  intro H locs ls h1 h2 h3 h4
  obtain ⟨q, hq⟩ := wd_get (D := D) (K := K) (N := N) (I := I) (J := J) (R := R) hA.1
  rw [ce_o (hA.m hK) h5] at hq
  exact va_get hc.x hc.b hc.w hin hc.o hc.k h1 q hq hcl k0 hk (hc.w _ hlink) hsame ((fsl_at (lay ci) 0 k0 0 ht).trans (by rw [Nat.zero_add]; rfl)) d (k H locs ls h1 h2 h3 h4)
theorem x_getJ (hc : CT p l s m args meth c D z e0 cc nL own Ts) {C ref : String} {T : u_T} {NN ci index : Nat} {a : Nat} (k0 : Nat) (hin : ∀ w ∈ u_ws C T NN, w ∈ Ts) (hcl : vwCl[ci]? = some (C, T, NN)) (hk : k0 < NN) (hlink : Cond.fieldLink own index ref (T k0).2.1 (T k0).2.2.1 ∈ Ts) (hsame : ∀ x, s.fieldFound? (T k0).1 (T k0).2.1 (T k0).2.2.1 = some x → s.fieldFound? ref (T k0).2.1 (T k0).2.2.1 = some x) {t0 n0 : Nat} (hA : At L K N a t0 n0) (hK : t0 % 16 = ci) (h5 : ci < 5) (ht : (lay ci)[k0]? = some 1) (d : decode cc pc = .ok (.getfield index, 3)) (k : XW p l e R0 s m args below meth c D z nL L K N I J R cells slots Q (pc + 3) lv (.long (J a k0) :: st)) : XW p l e R0 s m args below meth c D z nL L K N I J R cells slots Q pc lv (.ref a :: st) := by
  intro H locs ls h1 h2 h3 h4
  obtain ⟨q, hq⟩ := wd_get (D := D) (K := K) (N := N) (I := I) (J := J) (R := R) hA.1
  rw [ce_o (hA.m hK) h5] at hq
  exact va_get hc.x hc.b hc.w hin hc.o hc.k h1 q hq hcl k0 hk (hc.w _ hlink) hsame ((fsl_at (lay ci) 0 k0 1 ht).trans (by rw [Nat.zero_add]; rfl)) d (k H locs ls h1 h2 h3 h4)
theorem x_getR (hc : CT p l s m args meth c D z e0 cc nL own Ts) {b : Nat} {C ref : String} {T : u_T} {NN ci index : Nat} {a : Nat} (k0 : Nat) (hin : ∀ w ∈ u_ws C T NN, w ∈ Ts) (hcl : vwCl[ci]? = some (C, T, NN)) (hk : k0 < NN) (hlink : Cond.fieldLink own index ref (T k0).2.1 (T k0).2.2.1 ∈ Ts) (hsame : ∀ x, s.fieldFound? (T k0).1 (T k0).2.1 (T k0).2.2.1 = some x → s.fieldFound? ref (T k0).2.1 (T k0).2.2.1 = some x) {t0 n0 : Nat} (hA : At L K N a t0 n0) (hK : t0 % 16 = ci) (h5 : ci < 5) (ht : (lay ci)[k0]? = some 2) (hR : R a k0 = some b) (d : decode cc pc = .ok (.getfield index, 3)) (k : XW p l e R0 s m args below meth c D z nL L K N I J R cells slots Q (pc + 3) lv (.ref b :: st)) : XW p l e R0 s m args below meth c D z nL L K N I J R cells slots Q pc lv (.ref a :: st) := by
  intro H locs ls h1 h2 h3 h4
  obtain ⟨q, hq⟩ := wd_get (D := D) (K := K) (N := N) (I := I) (J := J) (R := R) hA.1
  rw [ce_o (hA.m hK) h5] at hq
  exact va_get hc.x hc.b hc.w hin hc.o hc.k h1 q hq hcl k0 hk (hc.w _ hlink) hsame ((fsl_at (lay ci) 0 k0 2 ht).trans (by rw [Nat.zero_add, hR]; rfl)) d (k H locs ls h1 h2 h3 h4)
theorem x_putI (hc : CT p l s m args meth c D z e0 cc nL own Ts) {x : Int32} {C ref : String} {T : u_T} {NN ci index : Nat} {a : Nat} (k0 : Nat) (hin : ∀ w ∈ u_ws C T NN, w ∈ Ts) (hcl : vwCl[ci]? = some (C, T, NN)) (hk : k0 < NN) (hlink : Cond.fieldLink own index ref (T k0).2.1 (T k0).2.2.1 ∈ Ts) (hsame : ∀ x, s.fieldFound? (T k0).1 (T k0).2.1 (T k0).2.2.1 = some x → s.fieldFound? ref (T k0).2.1 (T k0).2.2.1 = some x) (ty0 : Nat → FieldType) (hty : ∀ k, k < NN → parseFieldDescriptor (T k).2.2.1 = some (ty0 k)) (hnm : ∀ a, a < NN → ∀ b, b < NN → a ≠ b → (T a).2.1 ≠ (T b).2.1) {t0 n0 : Nat} (hA : At L K N a t0 n0) (hK : t0 % 16 = ci) (h5 : ci < 5) (ht : (lay ci)[k0]? = some 0) (hfin : (T k0).2.2.2 = false) (hd : parseFieldDescriptor (T k0).2.2.1 = some .int) (d : decode cc pc = .ok (.putfield index, 3)) (k : XW p l e R0 s m args below meth c D z nL L K N (u2 I a k0 x) J R cells slots Q (pc + 3) lv st) : XW p l e R0 s m args below meth c D z nL L K N I J R cells slots Q pc lv (.int x :: .ref a :: st) := by
  intro H locs ls h1 h2 h3 h4
  obtain ⟨q, hq⟩ := wd_get (D := D) (K := K) (N := N) (I := I) (J := J) (R := R) hA.1
  have hq1 := hq
  rw [ce_o (hA.m hK) h5] at hq
  refine va_put hc.x hc.b hc.w hin ty0 hty hnm hc.o hc.k h1 h2 h3 q hq hcl k0 hk (hc.w _ hlink) hsame hfin hd rfl rfl (by rw [fsl_len]; exact (List.getElem?_eq_some_iff.mp ht).1) d (fun H1 locs1 g1 g2 g3 => ?_)
  rw [wd_setI h2 hA.1 hq1 (hA.m hK) h5 ht] at g1 g2
  exact k H1 locs1 ls g1 g2 g3 h4
theorem x_putIF (hc : CT p l s m args meth c D z e0 cc nL own Ts) {x : Int32} {C ref : String} {T : u_T} {NN ci index : Nat} {a : Nat} (k0 : Nat) (hin : ∀ w ∈ u_ws C T NN, w ∈ Ts) (hcl : vwCl[ci]? = some (C, T, NN)) (hk : k0 < NN) (hlink : Cond.fieldLink own index ref (T k0).2.1 (T k0).2.2.1 ∈ Ts) (hsame : ∀ x, s.fieldFound? (T k0).1 (T k0).2.1 (T k0).2.2.1 = some x → s.fieldFound? ref (T k0).2.1 (T k0).2.2.1 = some x) (ty0 : Nat → FieldType) (hty : ∀ k, k < NN → parseFieldDescriptor (T k).2.2.1 = some (ty0 k)) (hnm : ∀ a, a < NN → ∀ b, b < NN → a ≠ b → (T a).2.1 ≠ (T b).2.1) {t0 n0 : Nat} (hA : At L K N a t0 n0) (hK : t0 % 16 = ci) (h5 : ci < 5) (ht : (lay ci)[k0]? = some 0) (hfin : (T k0).2.2.2 = true) (hin2 : meth.name = "<init>") (hdecl : (T k0).1 = own) (hd : parseFieldDescriptor (T k0).2.2.1 = some .int) (d : decode cc pc = .ok (.putfield index, 3)) (k : XW p l e R0 s m args below meth c D z nL L K N (u2 I a k0 x) J R cells slots Q (pc + 3) lv st) : XW p l e R0 s m args below meth c D z nL L K N I J R cells slots Q pc lv (.int x :: .ref a :: st) := by
  intro H locs ls h1 h2 h3 h4
  obtain ⟨q, hq⟩ := wd_get (D := D) (K := K) (N := N) (I := I) (J := J) (R := R) hA.1
  have hq1 := hq
  rw [ce_o (hA.m hK) h5] at hq
  refine va_putF hc.x hc.b hc.w hin ty0 hty hnm hc.o hc.k h1 h2 h3 q hq hcl k0 hk (hc.w _ hlink) hsame hfin hin2 hdecl hd rfl rfl (by rw [fsl_len]; exact (List.getElem?_eq_some_iff.mp ht).1) d (fun H1 locs1 g1 g2 g3 => ?_)
  rw [wd_setI h2 hA.1 hq1 (hA.m hK) h5 ht] at g1 g2
  exact k H1 locs1 ls g1 g2 g3 h4
theorem x_putZ (hc : CT p l s m args meth c D z e0 cc nL own Ts) {x : Int32} {C ref : String} {T : u_T} {NN ci index : Nat} {a : Nat} (k0 : Nat) (hin : ∀ w ∈ u_ws C T NN, w ∈ Ts) (hcl : vwCl[ci]? = some (C, T, NN)) (hk : k0 < NN) (hlink : Cond.fieldLink own index ref (T k0).2.1 (T k0).2.2.1 ∈ Ts) (hsame : ∀ x, s.fieldFound? (T k0).1 (T k0).2.1 (T k0).2.2.1 = some x → s.fieldFound? ref (T k0).2.1 (T k0).2.2.1 = some x) (ty0 : Nat → FieldType) (hty : ∀ k, k < NN → parseFieldDescriptor (T k).2.2.1 = some (ty0 k)) (hnm : ∀ a, a < NN → ∀ b, b < NN → a ≠ b → (T a).2.1 ≠ (T b).2.1) {t0 n0 : Nat} (hA : At L K N a t0 n0) (hK : t0 % 16 = ci) (h5 : ci < 5) (ht : (lay ci)[k0]? = some 0) (hfin : (T k0).2.2.2 = false) (hd : parseFieldDescriptor (T k0).2.2.1 = some .boolean) (hn : narrow .boolean (.int x) = .int x) (hfit : fits .boolean (.int x) = true) (d : decode cc pc = .ok (.putfield index, 3)) (k : XW p l e R0 s m args below meth c D z nL L K N (u2 I a k0 x) J R cells slots Q (pc + 3) lv st) : XW p l e R0 s m args below meth c D z nL L K N I J R cells slots Q pc lv (.int x :: .ref a :: st) := by
  intro H locs ls h1 h2 h3 h4
  obtain ⟨q, hq⟩ := wd_get (D := D) (K := K) (N := N) (I := I) (J := J) (R := R) hA.1
  have hq1 := hq
  rw [ce_o (hA.m hK) h5] at hq
  refine va_put hc.x hc.b hc.w hin ty0 hty hnm hc.o hc.k h1 h2 h3 q hq hcl k0 hk (hc.w _ hlink) hsame hfin hd hn hfit (by rw [fsl_len]; exact (List.getElem?_eq_some_iff.mp ht).1) d (fun H1 locs1 g1 g2 g3 => ?_)
  rw [wd_setI h2 hA.1 hq1 (hA.m hK) h5 ht] at g1 g2
  exact k H1 locs1 ls g1 g2 g3 h4
theorem x_putZF (hc : CT p l s m args meth c D z e0 cc nL own Ts) {x : Int32} {C ref : String} {T : u_T} {NN ci index : Nat} {a : Nat} (k0 : Nat) (hin : ∀ w ∈ u_ws C T NN, w ∈ Ts) (hcl : vwCl[ci]? = some (C, T, NN)) (hk : k0 < NN) (hlink : Cond.fieldLink own index ref (T k0).2.1 (T k0).2.2.1 ∈ Ts) (hsame : ∀ x, s.fieldFound? (T k0).1 (T k0).2.1 (T k0).2.2.1 = some x → s.fieldFound? ref (T k0).2.1 (T k0).2.2.1 = some x) (ty0 : Nat → FieldType) (hty : ∀ k, k < NN → parseFieldDescriptor (T k).2.2.1 = some (ty0 k)) (hnm : ∀ a, a < NN → ∀ b, b < NN → a ≠ b → (T a).2.1 ≠ (T b).2.1) {t0 n0 : Nat} (hA : At L K N a t0 n0) (hK : t0 % 16 = ci) (h5 : ci < 5) (ht : (lay ci)[k0]? = some 0) (hfin : (T k0).2.2.2 = true) (hin2 : meth.name = "<init>") (hdecl : (T k0).1 = own) (hd : parseFieldDescriptor (T k0).2.2.1 = some .boolean) (hn : narrow .boolean (.int x) = .int x) (hfit : fits .boolean (.int x) = true) (d : decode cc pc = .ok (.putfield index, 3)) (k : XW p l e R0 s m args below meth c D z nL L K N (u2 I a k0 x) J R cells slots Q (pc + 3) lv st) : XW p l e R0 s m args below meth c D z nL L K N I J R cells slots Q pc lv (.int x :: .ref a :: st) := by
  intro H locs ls h1 h2 h3 h4
  obtain ⟨q, hq⟩ := wd_get (D := D) (K := K) (N := N) (I := I) (J := J) (R := R) hA.1
  have hq1 := hq
  rw [ce_o (hA.m hK) h5] at hq
  refine va_putF hc.x hc.b hc.w hin ty0 hty hnm hc.o hc.k h1 h2 h3 q hq hcl k0 hk (hc.w _ hlink) hsame hfin hin2 hdecl hd hn hfit (by rw [fsl_len]; exact (List.getElem?_eq_some_iff.mp ht).1) d (fun H1 locs1 g1 g2 g3 => ?_)
  rw [wd_setI h2 hA.1 hq1 (hA.m hK) h5 ht] at g1 g2
  exact k H1 locs1 ls g1 g2 g3 h4
theorem x_putJ (hc : CT p l s m args meth c D z e0 cc nL own Ts) {x : Int64} {C ref : String} {T : u_T} {NN ci index : Nat} {a : Nat} (k0 : Nat) (hin : ∀ w ∈ u_ws C T NN, w ∈ Ts) (hcl : vwCl[ci]? = some (C, T, NN)) (hk : k0 < NN) (hlink : Cond.fieldLink own index ref (T k0).2.1 (T k0).2.2.1 ∈ Ts) (hsame : ∀ x, s.fieldFound? (T k0).1 (T k0).2.1 (T k0).2.2.1 = some x → s.fieldFound? ref (T k0).2.1 (T k0).2.2.1 = some x) (ty0 : Nat → FieldType) (hty : ∀ k, k < NN → parseFieldDescriptor (T k).2.2.1 = some (ty0 k)) (hnm : ∀ a, a < NN → ∀ b, b < NN → a ≠ b → (T a).2.1 ≠ (T b).2.1) {t0 n0 : Nat} (hA : At L K N a t0 n0) (hK : t0 % 16 = ci) (h5 : ci < 5) (ht : (lay ci)[k0]? = some 1) (hfin : (T k0).2.2.2 = false) (hd : parseFieldDescriptor (T k0).2.2.1 = some .long) (d : decode cc pc = .ok (.putfield index, 3)) (k : XW p l e R0 s m args below meth c D z nL L K N I (u2 J a k0 x) R cells slots Q (pc + 3) lv st) : XW p l e R0 s m args below meth c D z nL L K N I J R cells slots Q pc lv (.long x :: .ref a :: st) := by
  intro H locs ls h1 h2 h3 h4
  obtain ⟨q, hq⟩ := wd_get (D := D) (K := K) (N := N) (I := I) (J := J) (R := R) hA.1
  have hq1 := hq
  rw [ce_o (hA.m hK) h5] at hq
  refine va_put hc.x hc.b hc.w hin ty0 hty hnm hc.o hc.k h1 h2 h3 q hq hcl k0 hk (hc.w _ hlink) hsame hfin hd rfl rfl (by rw [fsl_len]; exact (List.getElem?_eq_some_iff.mp ht).1) d (fun H1 locs1 g1 g2 g3 => ?_)
  rw [wd_setJ h2 hA.1 hq1 (hA.m hK) h5 ht] at g1 g2
  exact k H1 locs1 ls g1 g2 g3 h4
theorem x_putJF (hc : CT p l s m args meth c D z e0 cc nL own Ts) {x : Int64} {C ref : String} {T : u_T} {NN ci index : Nat} {a : Nat} (k0 : Nat) (hin : ∀ w ∈ u_ws C T NN, w ∈ Ts) (hcl : vwCl[ci]? = some (C, T, NN)) (hk : k0 < NN) (hlink : Cond.fieldLink own index ref (T k0).2.1 (T k0).2.2.1 ∈ Ts) (hsame : ∀ x, s.fieldFound? (T k0).1 (T k0).2.1 (T k0).2.2.1 = some x → s.fieldFound? ref (T k0).2.1 (T k0).2.2.1 = some x) (ty0 : Nat → FieldType) (hty : ∀ k, k < NN → parseFieldDescriptor (T k).2.2.1 = some (ty0 k)) (hnm : ∀ a, a < NN → ∀ b, b < NN → a ≠ b → (T a).2.1 ≠ (T b).2.1) {t0 n0 : Nat} (hA : At L K N a t0 n0) (hK : t0 % 16 = ci) (h5 : ci < 5) (ht : (lay ci)[k0]? = some 1) (hfin : (T k0).2.2.2 = true) (hin2 : meth.name = "<init>") (hdecl : (T k0).1 = own) (hd : parseFieldDescriptor (T k0).2.2.1 = some .long) (d : decode cc pc = .ok (.putfield index, 3)) (k : XW p l e R0 s m args below meth c D z nL L K N I (u2 J a k0 x) R cells slots Q (pc + 3) lv st) : XW p l e R0 s m args below meth c D z nL L K N I J R cells slots Q pc lv (.long x :: .ref a :: st) := by
  intro H locs ls h1 h2 h3 h4
  obtain ⟨q, hq⟩ := wd_get (D := D) (K := K) (N := N) (I := I) (J := J) (R := R) hA.1
  have hq1 := hq
  rw [ce_o (hA.m hK) h5] at hq
  refine va_putF hc.x hc.b hc.w hin ty0 hty hnm hc.o hc.k h1 h2 h3 q hq hcl k0 hk (hc.w _ hlink) hsame hfin hin2 hdecl hd rfl rfl (by rw [fsl_len]; exact (List.getElem?_eq_some_iff.mp ht).1) d (fun H1 locs1 g1 g2 g3 => ?_)
  rw [wd_setJ h2 hA.1 hq1 (hA.m hK) h5 ht] at g1 g2
  exact k H1 locs1 ls g1 g2 g3 h4
theorem x_putR (hc : CT p l s m args meth c D z e0 cc nL own Ts) {b : Nat} {ty : FieldType} {C ref : String} {T : u_T} {NN ci index : Nat} {a : Nat} (k0 : Nat) (hin : ∀ w ∈ u_ws C T NN, w ∈ Ts) (hcl : vwCl[ci]? = some (C, T, NN)) (hk : k0 < NN) (hlink : Cond.fieldLink own index ref (T k0).2.1 (T k0).2.2.1 ∈ Ts) (hsame : ∀ x, s.fieldFound? (T k0).1 (T k0).2.1 (T k0).2.2.1 = some x → s.fieldFound? ref (T k0).2.1 (T k0).2.2.1 = some x) (ty0 : Nat → FieldType) (hty : ∀ k, k < NN → parseFieldDescriptor (T k).2.2.1 = some (ty0 k)) (hnm : ∀ a, a < NN → ∀ b, b < NN → a ≠ b → (T a).2.1 ≠ (T b).2.1) {t0 n0 : Nat} (hA : At L K N a t0 n0) (hK : t0 % 16 = ci) (h5 : ci < 5) (ht : (lay ci)[k0]? = some 2) (hfin : (T k0).2.2.2 = false) (hd : parseFieldDescriptor (T k0).2.2.1 = some ty) (hn : narrow ty (.ref b) = .ref b) (hfit : fits ty (.ref b) = true) (d : decode cc pc = .ok (.putfield index, 3)) (k : XW p l e R0 s m args below meth c D z nL L K N I J (u2 R a k0 (some b)) cells slots Q (pc + 3) lv st) : XW p l e R0 s m args below meth c D z nL L K N I J R cells slots Q pc lv (.ref b :: .ref a :: st) := by
  intro H locs ls h1 h2 h3 h4
  obtain ⟨q, hq⟩ := wd_get (D := D) (K := K) (N := N) (I := I) (J := J) (R := R) hA.1
  have hq1 := hq
  rw [ce_o (hA.m hK) h5] at hq
  refine va_put hc.x hc.b hc.w hin ty0 hty hnm hc.o hc.k h1 h2 h3 q hq hcl k0 hk (hc.w _ hlink) hsame hfin hd hn hfit (by rw [fsl_len]; exact (List.getElem?_eq_some_iff.mp ht).1) d (fun H1 locs1 g1 g2 g3 => ?_)
  rw [wd_setR h2 hA.1 hq1 (hA.m hK) h5 ht] at g1 g2
  exact k H1 locs1 ls g1 g2 g3 h4
theorem x_putRF (hc : CT p l s m args meth c D z e0 cc nL own Ts) {b : Nat} {ty : FieldType} {C ref : String} {T : u_T} {NN ci index : Nat} {a : Nat} (k0 : Nat) (hin : ∀ w ∈ u_ws C T NN, w ∈ Ts) (hcl : vwCl[ci]? = some (C, T, NN)) (hk : k0 < NN) (hlink : Cond.fieldLink own index ref (T k0).2.1 (T k0).2.2.1 ∈ Ts) (hsame : ∀ x, s.fieldFound? (T k0).1 (T k0).2.1 (T k0).2.2.1 = some x → s.fieldFound? ref (T k0).2.1 (T k0).2.2.1 = some x) (ty0 : Nat → FieldType) (hty : ∀ k, k < NN → parseFieldDescriptor (T k).2.2.1 = some (ty0 k)) (hnm : ∀ a, a < NN → ∀ b, b < NN → a ≠ b → (T a).2.1 ≠ (T b).2.1) {t0 n0 : Nat} (hA : At L K N a t0 n0) (hK : t0 % 16 = ci) (h5 : ci < 5) (ht : (lay ci)[k0]? = some 2) (hfin : (T k0).2.2.2 = true) (hin2 : meth.name = "<init>") (hdecl : (T k0).1 = own) (hd : parseFieldDescriptor (T k0).2.2.1 = some ty) (hn : narrow ty (.ref b) = .ref b) (hfit : fits ty (.ref b) = true) (d : decode cc pc = .ok (.putfield index, 3)) (k : XW p l e R0 s m args below meth c D z nL L K N I J (u2 R a k0 (some b)) cells slots Q (pc + 3) lv st) : XW p l e R0 s m args below meth c D z nL L K N I J R cells slots Q pc lv (.ref b :: .ref a :: st) := by
  intro H locs ls h1 h2 h3 h4
  obtain ⟨q, hq⟩ := wd_get (D := D) (K := K) (N := N) (I := I) (J := J) (R := R) hA.1
  have hq1 := hq
  rw [ce_o (hA.m hK) h5] at hq
  refine va_putF hc.x hc.b hc.w hin ty0 hty hnm hc.o hc.k h1 h2 h3 q hq hcl k0 hk (hc.w _ hlink) hsame hfin hin2 hdecl hd hn hfit (by rw [fsl_len]; exact (List.getElem?_eq_some_iff.mp ht).1) d (fun H1 locs1 g1 g2 g3 => ?_)
  rw [wd_setR h2 hA.1 hq1 (hA.m hK) h5 ht] at g1 g2
  exact k H1 locs1 ls g1 g2 g3 h4
theorem x_iald (hc : CT p l s m args meth c D z e0 cc nL own Ts) {a t0 n0 n : Nat} {i : Int32} (hA : At L K N a t0 n0) (hlen : n0 < 2147483648) (hi : i = nI n) (hn : n < n0) (hK : t0 % 16 = 5) (d : decode cc pc = .ok (.iaload, 1)) (k : XW p l e R0 s m args below meth c D z nL L K N I J R cells slots Q (pc + 1) lv (.int (I a n) :: st)) : XW p l e R0 s m args below meth c D z nL L K N I J R cells slots Q pc lv (.int i :: .ref a :: st) := by
  intro H locs ls h1 h2 h3 h4
  subst hi
  have hin : vp_in (nI n) (N a) := by rw [hA.2.2]; exact vp_in_nI hn hlen
  have hcl : (nI n).toNatClampNeg = n := nI_clamp (Nat.lt_trans hn hlen)
  obtain ⟨q, hq⟩ := wd_get (D := D) (K := K) (N := N) (I := I) (J := J) (R := R) hA.1
  rw [ce_5 (hA.m hK)] at hq
  exact va_iald hc.x hc.b hc.k h1 q 0 hq rfl hin d (by rw [hcl]; exact k H locs ls h1 h2 h3 h4)
theorem x_lald (hc : CT p l s m args meth c D z e0 cc nL own Ts) {a t0 n0 n : Nat} {i : Int32} (hA : At L K N a t0 n0) (hlen : n0 < 2147483648) (hi : i = nI n) (hn : n < n0) (hK : t0 % 16 = 6) (d : decode cc pc = .ok (.laload, 1)) (k : XW p l e R0 s m args below meth c D z nL L K N I J R cells slots Q (pc + 1) lv (.long (J a n) :: st)) : XW p l e R0 s m args below meth c D z nL L K N I J R cells slots Q pc lv (.int i :: .ref a :: st) := by
  intro H locs ls h1 h2 h3 h4
  subst hi
  have hin : vp_in (nI n) (N a) := by rw [hA.2.2]; exact vp_in_nI hn hlen
  have hcl : (nI n).toNatClampNeg = n := nI_clamp (Nat.lt_trans hn hlen)
  obtain ⟨q, hq⟩ := wd_get (D := D) (K := K) (N := N) (I := I) (J := J) (R := R) hA.1
  rw [ce_6 (hA.m hK)] at hq
  exact va_lald hc.x hc.b hc.k h1 q 1 hq rfl hin d (by rw [hcl]; exact k H locs ls h1 h2 h3 h4)
theorem x_aaldO (hc : CT p l s m args meth c D z e0 cc nL own Ts) {b : Nat} {a t0 n0 n : Nat} {i : Int32} (hA : At L K N a t0 n0) (hlen : n0 < 2147483648) (hi : i = nI n) (hn : n < n0) (hK : t0 % 16 = 7) (hR : R a n = some b) (d : decode cc pc = .ok (.aaload, 1)) (k : XW p l e R0 s m args below meth c D z nL L K N I J R cells slots Q (pc + 1) lv (.ref b :: st)) : XW p l e R0 s m args below meth c D z nL L K N I J R cells slots Q pc lv (.int i :: .ref a :: st) := by
  intro H locs ls h1 h2 h3 h4
  subst hi
  have hin : vp_in (nI n) (N a) := by rw [hA.2.2]; exact vp_in_nI hn hlen
  have hcl : (nI n).toNatClampNeg = n := nI_clamp (Nat.lt_trans hn hlen)
  obtain ⟨q, hq⟩ := wd_get (D := D) (K := K) (N := N) (I := I) (J := J) (R := R) hA.1
  rw [ce_7 (hA.m hK)] at hq
  refine va_aldq hc.x hc.b hc.k h1 q 2 hq rfl hin d ?_
  rw [hcl, hR]
  exact k H locs ls h1 h2 h3 h4
theorem x_aaldA (hc : CT p l s m args meth c D z e0 cc nL own Ts) {b : Nat} {a t0 n0 n : Nat} {i : Int32} (hA : At L K N a t0 n0) (hlen : n0 < 2147483648) (hi : i = nI n) (hn : n < n0) (hK : t0 % 16 = 8) (hR : R a n = some b) (d : decode cc pc = .ok (.aaload, 1)) (k : XW p l e R0 s m args below meth c D z nL L K N I J R cells slots Q (pc + 1) lv (.ref b :: st)) : XW p l e R0 s m args below meth c D z nL L K N I J R cells slots Q pc lv (.int i :: .ref a :: st) := by
  intro H locs ls h1 h2 h3 h4
  subst hi
  have hin : vp_in (nI n) (N a) := by rw [hA.2.2]; exact vp_in_nI hn hlen
  have hcl : (nI n).toNatClampNeg = n := nI_clamp (Nat.lt_trans hn hlen)
  obtain ⟨q, hq⟩ := wd_get (D := D) (K := K) (N := N) (I := I) (J := J) (R := R) hA.1
  rw [ce_8 (hA.m hK)] at hq
  have hlt : n < N a := by rw [hA.2.2]; exact hn
  have hcell : H[a]? = some (arrV (D.1 8) (N a) (fun j => va_rf (R a j))) := (h1 q _ hq).trans (congrArg some (vp_cell_q (D.1 8) (N a) (R a)))
  exact W.aald (v := .ref b) (ty := .array .int) hc.x hc.b hcell ((hc.k.2 3 _ rfl).1 (N a) (fun j => va_rf (R a j))) rfl (fun q => by cases q) (by rw [arrV_size]; exact hin) (by rw [hcl, arrV_read _ _ hlt, hR]; rfl) rfl rfl d (k H locs ls h1 h2 h3 h4)
theorem x_iast (hc : CT p l s m args meth c D z e0 cc nL own Ts) {x : Int32} {a t0 n0 n : Nat} {i : Int32} (hA : At L K N a t0 n0) (hlen : n0 < 2147483648) (hi : i = nI n) (hn : n < n0) (hK : t0 % 16 = 5) (d : decode cc pc = .ok (.iastore, 1)) (k : XW p l e R0 s m args below meth c D z nL L K N (u2 I a n x) J R cells slots Q (pc + 1) lv st) : XW p l e R0 s m args below meth c D z nL L K N I J R cells slots Q pc lv (.int x :: .int i :: .ref a :: st) := by
  intro H locs ls h1 h2 h3 h4
  subst hi
  have hin : vp_in (nI n) (N a) := by rw [hA.2.2]; exact vp_in_nI hn hlen
  have hcl : (nI n).toNatClampNeg = n := nI_clamp (Nat.lt_trans hn hlen)
  obtain ⟨q, hq⟩ := wd_get (D := D) (K := K) (N := N) (I := I) (J := J) (R := R) hA.1
  have hq1 := hq
  rw [ce_5 (hA.m hK)] at hq
  refine va_iast hc.x hc.b hc.k h1 h2 h3 q 0 hq rfl hin d (fun H1 locs1 g1 g2 g3 => ?_)
  rw [hcl] at g1 g2
  have hset : (wd D L K N I J R).set q (a, .inl (D.1 5, N a, .inl (upd (I a) n x))) = wd D L K N (u2 I a n x) J R := by
    refine wd_set h2 hA.1 hq1 ?_ (fun b hb => ce_cong (u2_row hb) rfl rfl)
    rw [ce_5 (hA.m hK)]
    congr 4
    funext j
    by_cases hj : j = n
    · subst hj
      rw [u2_s]
      exact if_pos rfl
    · rw [u2_k hj]
      exact if_neg hj
  rw [hset] at g1 g2
  exact k H1 locs1 ls g1 g2 g3 h4
theorem x_last (hc : CT p l s m args meth c D z e0 cc nL own Ts) {x : Int64} {a t0 n0 n : Nat} {i : Int32} (hA : At L K N a t0 n0) (hlen : n0 < 2147483648) (hi : i = nI n) (hn : n < n0) (hK : t0 % 16 = 6) (d : decode cc pc = .ok (.lastore, 1)) (k : XW p l e R0 s m args below meth c D z nL L K N I (u2 J a n x) R cells slots Q (pc + 1) lv st) : XW p l e R0 s m args below meth c D z nL L K N I J R cells slots Q pc lv (.long x :: .int i :: .ref a :: st) := by
  intro H locs ls h1 h2 h3 h4
  subst hi
  have hin : vp_in (nI n) (N a) := by rw [hA.2.2]; exact vp_in_nI hn hlen
  have hcl : (nI n).toNatClampNeg = n := nI_clamp (Nat.lt_trans hn hlen)
  obtain ⟨q, hq⟩ := wd_get (D := D) (K := K) (N := N) (I := I) (J := J) (R := R) hA.1
  have hq1 := hq
  rw [ce_6 (hA.m hK)] at hq
  refine va_last hc.x hc.b hc.k h1 h2 h3 q 1 hq rfl hin d (fun H1 locs1 g1 g2 g3 => ?_)
  rw [hcl] at g1 g2
  have hset : (wd D L K N I J R).set q (a, .inl (D.1 6, N a, .inr (.inl (vp_updL (J a) n x)))) = wd D L K N I (u2 J a n x) R := by
    refine wd_set h2 hA.1 hq1 ?_ (fun b hb => ce_cong rfl (u2_row hb) rfl)
    rw [ce_6 (hA.m hK)]
    congr 5
    funext j
    by_cases hj : j = n
    · subst hj
      rw [u2_s]
      exact if_pos rfl
    · rw [u2_k hj]
      exact if_neg hj
  rw [hset] at g1 g2
  exact k H1 locs1 ls g1 g2 g3 h4
end XR
