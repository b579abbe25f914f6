section
-- ===== PART A: goes FIRST, ahead of the names: the tables' words, and 'selects' of the private methods out of them =====
/-- a private method of a class that the tables say can be made, by its rows of tables_1 -/
def lw_okq (q : MethodName × Nat) : Prop := (q.1.cls ≠ "java/lang/invoke/MethodHandle" ∧ q.1.cls ≠ "java/lang/invoke/VarHandle") ∧ Cond.instantiable q.1.cls q.2 ∈ tables_1 ∧ Cond.privateMethod q.1 ∈ tables_1 ∧ Cond.instanceMethod q.1 ∈ tables_1
theorem lw_p0 : lw_okq (⟨"java/lang/Throwable", "fillInStackTrace", "(I)Ljava/lang/Throwable;"⟩, 6) := ⟨⟨by decide +kernel, by decide +kernel⟩, List.mem_of_getElem? (i := 207) (by decide +kernel), List.mem_of_getElem? (i := 205) (by decide +kernel), List.mem_of_getElem? (i := 206) (by decide +kernel)⟩
theorem lw_p1 : lw_okq (⟨"NetPoints", "pictureOf", "(I)LNetPoints$Picture;"⟩, 5) := ⟨⟨by decide +kernel, by decide +kernel⟩, List.mem_of_getElem? (i := 21) (by decide +kernel), List.mem_of_getElem? (i := 256) (by decide +kernel), List.mem_of_getElem? (i := 257) (by decide +kernel)⟩
theorem lw_p2 : lw_okq (⟨"NetPoints", "requireRoom", "(LNetPoints$Picture;II)V"⟩, 5) := ⟨⟨by decide +kernel, by decide +kernel⟩, List.mem_of_getElem? (i := 21) (by decide +kernel), List.mem_of_getElem? (i := 283) (by decide +kernel), List.mem_of_getElem? (i := 284) (by decide +kernel)⟩
theorem lw_p3 : lw_okq (⟨"java/util/ArrayList", "add", "(Ljava/lang/Object;[Ljava/lang/Object;I)V"⟩, 3) := ⟨⟨by decide +kernel, by decide +kernel⟩, List.mem_of_getElem? (i := 37) (by decide +kernel), List.mem_of_getElem? (i := 363) (by decide +kernel), List.mem_of_getElem? (i := 364) (by decide +kernel)⟩
theorem lw_p4 : lw_okq (⟨"java/util/ArrayList", "grow", "()[Ljava/lang/Object;"⟩, 3) := ⟨⟨by decide +kernel, by decide +kernel⟩, List.mem_of_getElem? (i := 37) (by decide +kernel), List.mem_of_getElem? (i := 367) (by decide +kernel), List.mem_of_getElem? (i := 368) (by decide +kernel)⟩
theorem lw_p5 : lw_okq (⟨"java/util/ArrayList", "grow", "(I)[Ljava/lang/Object;"⟩, 3) := ⟨⟨by decide +kernel, by decide +kernel⟩, List.mem_of_getElem? (i := 37) (by decide +kernel), List.mem_of_getElem? (i := 371) (by decide +kernel), List.mem_of_getElem? (i := 372) (by decide +kernel)⟩
theorem lw_p6 : lw_okq (⟨"NetPoints", "requireOpenToAudit", "(I)V"⟩, 5) := ⟨⟨by decide +kernel, by decide +kernel⟩, List.mem_of_getElem? (i := 21) (by decide +kernel), List.mem_of_getElem? (i := 435) (by decide +kernel), List.mem_of_getElem? (i := 436) (by decide +kernel)⟩
theorem lw_p7 : lw_okq (⟨"NetPoints", "requireSharer", "(I)V"⟩, 5) := ⟨⟨by decide +kernel, by decide +kernel⟩, List.mem_of_getElem? (i := 21) (by decide +kernel), List.mem_of_getElem? (i := 455) (by decide +kernel), List.mem_of_getElem? (i := 456) (by decide +kernel)⟩
theorem lw_p8 : lw_okq (⟨"NetPoints", "drawnSum", "(LNetPoints$Sharer;)J"⟩, 5) := ⟨⟨by decide +kernel, by decide +kernel⟩, List.mem_of_getElem? (i := 21) (by decide +kernel), List.mem_of_getElem? (i := 461) (by decide +kernel), List.mem_of_getElem? (i := 462) (by decide +kernel)⟩
theorem lw_p9 : lw_okq (⟨"NetPoints", "drawBooks", "()V"⟩, 5) := ⟨⟨by decide +kernel, by decide +kernel⟩, List.mem_of_getElem? (i := 21) (by decide +kernel), List.mem_of_getElem? (i := 465) (by decide +kernel), List.mem_of_getElem? (i := 466) (by decide +kernel)⟩
theorem lw_p10 : lw_okq (⟨"NetPoints$Picture", "grossIn", "(I)J"⟩, 15) := ⟨⟨by decide +kernel, by decide +kernel⟩, List.mem_of_getElem? (i := 29) (by decide +kernel), List.mem_of_getElem? (i := 477) (by decide +kernel), List.mem_of_getElem? (i := 478) (by decide +kernel)⟩
theorem lw_p11 : lw_okq (⟨"NetPoints$Picture", "feesIn", "(I)J"⟩, 15) := ⟨⟨by decide +kernel, by decide +kernel⟩, List.mem_of_getElem? (i := 29) (by decide +kernel), List.mem_of_getElem? (i := 485) (by decide +kernel), List.mem_of_getElem? (i := 486) (by decide +kernel)⟩
theorem lw_p12 : lw_okq (⟨"NetPoints$Picture", "sharesThatAreCosts", "()J"⟩, 15) := ⟨⟨by decide +kernel, by decide +kernel⟩, List.mem_of_getElem? (i := 29) (by decide +kernel), List.mem_of_getElem? (i := 489) (by decide +kernel), List.mem_of_getElem? (i := 490) (by decide +kernel)⟩
theorem lw_p13 : lw_okq (⟨"NetPoints$Picture", "profitLeftAt", "(I)J"⟩, 15) := ⟨⟨by decide +kernel, by decide +kernel⟩, List.mem_of_getElem? (i := 29) (by decide +kernel), List.mem_of_getElem? (i := 523) (by decide +kernel), List.mem_of_getElem? (i := 524) (by decide +kernel)⟩
theorem lw_p14 : lw_okq (⟨"NetPointsModel", "fails", "(I)I"⟩, 19) := ⟨⟨by decide +kernel, by decide +kernel⟩, List.mem_of_getElem? (i := 592) (by decide +kernel), List.mem_of_getElem? (i := 670) (by decide +kernel), List.mem_of_getElem? (i := 671) (by decide +kernel)⟩
theorem lw_p15 : lw_okq (⟨"NetPointsModel", "isSharer", "(I)Z"⟩, 19) := ⟨⟨by decide +kernel, by decide +kernel⟩, List.mem_of_getElem? (i := 592) (by decide +kernel), List.mem_of_getElem? (i := 715) (by decide +kernel), List.mem_of_getElem? (i := 716) (by decide +kernel)⟩
def lw_privs_1 : List (MethodName × Nat) := [(⟨"java/lang/Throwable", "fillInStackTrace", "(I)Ljava/lang/Throwable;"⟩, 6), (⟨"NetPoints", "pictureOf", "(I)LNetPoints$Picture;"⟩, 5), (⟨"NetPoints", "requireRoom", "(LNetPoints$Picture;II)V"⟩, 5), (⟨"java/util/ArrayList", "add", "(Ljava/lang/Object;[Ljava/lang/Object;I)V"⟩, 3), (⟨"java/util/ArrayList", "grow", "()[Ljava/lang/Object;"⟩, 3), (⟨"java/util/ArrayList", "grow", "(I)[Ljava/lang/Object;"⟩, 3), (⟨"NetPoints", "requireOpenToAudit", "(I)V"⟩, 5), (⟨"NetPoints", "requireSharer", "(I)V"⟩, 5), (⟨"NetPoints", "drawnSum", "(LNetPoints$Sharer;)J"⟩, 5), (⟨"NetPoints", "drawBooks", "()V"⟩, 5), (⟨"NetPoints$Picture", "grossIn", "(I)J"⟩, 15), (⟨"NetPoints$Picture", "feesIn", "(I)J"⟩, 15), (⟨"NetPoints$Picture", "sharesThatAreCosts", "()J"⟩, 15), (⟨"NetPoints$Picture", "profitLeftAt", "(I)J"⟩, 15), (⟨"NetPointsModel", "fails", "(I)I"⟩, 19), (⟨"NetPointsModel", "isSharer", "(I)Z"⟩, 19)]
theorem lw_r1 : ∀ q ∈ lw_privs_1, lw_okq q := List.forall_mem_cons.mpr ⟨lw_p0, List.forall_mem_cons.mpr ⟨lw_p1, List.forall_mem_cons.mpr ⟨lw_p2, List.forall_mem_cons.mpr ⟨lw_p3, List.forall_mem_cons.mpr ⟨lw_p4, List.forall_mem_cons.mpr ⟨lw_p5, List.forall_mem_cons.mpr ⟨lw_p6, List.forall_mem_cons.mpr ⟨lw_p7, List.forall_mem_cons.mpr ⟨lw_p8, List.forall_mem_cons.mpr ⟨lw_p9, List.forall_mem_cons.mpr ⟨lw_p10, List.forall_mem_cons.mpr ⟨lw_p11, List.forall_mem_cons.mpr ⟨lw_p12, List.forall_mem_cons.mpr ⟨lw_p13, List.forall_mem_cons.mpr ⟨lw_p14, List.forall_mem_cons.mpr ⟨lw_p15, fun _ h => absurd h List.not_mem_nil⟩⟩⟩⟩⟩⟩⟩⟩⟩⟩⟩⟩⟩⟩⟩⟩
theorem lw_p16 : lw_okq (⟨"NetPointsModel", "sumOf", "(I)J"⟩, 19) := ⟨⟨by decide +kernel, by decide +kernel⟩, List.mem_of_getElem? (i := 592) (by decide +kernel), List.mem_of_getElem? (i := 719) (by decide +kernel), List.mem_of_getElem? (i := 720) (by decide +kernel)⟩
theorem lw_p17 : lw_okq (⟨"NetPointsModel", "upTo", "(II)J"⟩, 19) := ⟨⟨by decide +kernel, by decide +kernel⟩, List.mem_of_getElem? (i := 592) (by decide +kernel), List.mem_of_getElem? (i := 723) (by decide +kernel), List.mem_of_getElem? (i := 724) (by decide +kernel)⟩
theorem lw_p18 : lw_okq (⟨"NetPointsModel", "grossOf", "(II)J"⟩, 19) := ⟨⟨by decide +kernel, by decide +kernel⟩, List.mem_of_getElem? (i := 592) (by decide +kernel), List.mem_of_getElem? (i := 727) (by decide +kernel), List.mem_of_getElem? (i := 728) (by decide +kernel)⟩
theorem lw_p19 : lw_okq (⟨"NetPointsModel", "adjustedOf", "(II)J"⟩, 19) := ⟨⟨by decide +kernel, by decide +kernel⟩, List.mem_of_getElem? (i := 592) (by decide +kernel), List.mem_of_getElem? (i := 731) (by decide +kernel), List.mem_of_getElem? (i := 732) (by decide +kernel)⟩
theorem lw_p20 : lw_okq (⟨"NetPointsModel", "parted", "(JI)J"⟩, 19) := ⟨⟨by decide +kernel, by decide +kernel⟩, List.mem_of_getElem? (i := 592) (by decide +kernel), List.mem_of_getElem? (i := 736) (by decide +kernel), List.mem_of_getElem? (i := 737) (by decide +kernel)⟩
theorem lw_p21 : lw_okq (⟨"NetPointsModel", "lay", "()V"⟩, 19) := ⟨⟨by decide +kernel, by decide +kernel⟩, List.mem_of_getElem? (i := 592) (by decide +kernel), List.mem_of_getElem? (i := 741) (by decide +kernel), List.mem_of_getElem? (i := 742) (by decide +kernel)⟩
theorem lw_p22 : lw_okq (⟨"NetPointsModel", "feesOf", "(II)J"⟩, 19) := ⟨⟨by decide +kernel, by decide +kernel⟩, List.mem_of_getElem? (i := 592) (by decide +kernel), List.mem_of_getElem? (i := 745) (by decide +kernel), List.mem_of_getElem? (i := 746) (by decide +kernel)⟩
theorem lw_p23 : lw_okq (⟨"NetPointsModel", "move", "(III)V"⟩, 19) := ⟨⟨by decide +kernel, by decide +kernel⟩, List.mem_of_getElem? (i := 592) (by decide +kernel), List.mem_of_getElem? (i := 749) (by decide +kernel), List.mem_of_getElem? (i := 750) (by decide +kernel)⟩
theorem lw_p24 : lw_okq (⟨"NetPointsModel", "deferred", "(II)J"⟩, 19) := ⟨⟨by decide +kernel, by decide +kernel⟩, List.mem_of_getElem? (i := 592) (by decide +kernel), List.mem_of_getElem? (i := 753) (by decide +kernel), List.mem_of_getElem? (i := 754) (by decide +kernel)⟩
theorem lw_p25 : lw_okq (⟨"NetPointsModel", "isYear", "(II)Z"⟩, 19) := ⟨⟨by decide +kernel, by decide +kernel⟩, List.mem_of_getElem? (i := 592) (by decide +kernel), List.mem_of_getElem? (i := 777) (by decide +kernel), List.mem_of_getElem? (i := 778) (by decide +kernel)⟩
def lw_privs_2 : List (MethodName × Nat) := [(⟨"NetPointsModel", "sumOf", "(I)J"⟩, 19), (⟨"NetPointsModel", "upTo", "(II)J"⟩, 19), (⟨"NetPointsModel", "grossOf", "(II)J"⟩, 19), (⟨"NetPointsModel", "adjustedOf", "(II)J"⟩, 19), (⟨"NetPointsModel", "parted", "(JI)J"⟩, 19), (⟨"NetPointsModel", "lay", "()V"⟩, 19), (⟨"NetPointsModel", "feesOf", "(II)J"⟩, 19), (⟨"NetPointsModel", "move", "(III)V"⟩, 19), (⟨"NetPointsModel", "deferred", "(II)J"⟩, 19), (⟨"NetPointsModel", "isYear", "(II)Z"⟩, 19)]
theorem lw_r2 : ∀ q ∈ lw_privs_2, lw_okq q := List.forall_mem_cons.mpr ⟨lw_p16, List.forall_mem_cons.mpr ⟨lw_p17, List.forall_mem_cons.mpr ⟨lw_p18, List.forall_mem_cons.mpr ⟨lw_p19, List.forall_mem_cons.mpr ⟨lw_p20, List.forall_mem_cons.mpr ⟨lw_p21, List.forall_mem_cons.mpr ⟨lw_p22, List.forall_mem_cons.mpr ⟨lw_p23, List.forall_mem_cons.mpr ⟨lw_p24, List.forall_mem_cons.mpr ⟨lw_p25, fun _ h => absurd h List.not_mem_nil⟩⟩⟩⟩⟩⟩⟩⟩⟩⟩
def lw_privs : List (MethodName × Nat) := lw_privs_1 ++ (lw_privs_2)
def lw_tbl : List Cond := k2_sels lw_privs ++ tables_1
theorem lw_privs_ok : ∀ q ∈ lw_privs, lw_okq q := by
  show ∀ q ∈ lw_privs_1 ++ (lw_privs_2), lw_okq q
  exact List.forall_mem_append.mpr ⟨lw_r1, lw_r2⟩
end
section
/-! ===== BEGIN words of one list among another's, by their places ===== -/
theorem goodIn_r {big : List Cond} (ws : List Cond) (ps : List Nat) (hp : ws = ps.filterMap (fun i => big[i]?)) (h : ws.all goodWord = true) : GoodIn big ws := by
  intro w hw
  have h1 := List.all_eq_true.mp h w hw
  rw [hp] at hw
  obtain ⟨i, -, hi⟩ := List.mem_filterMap.mp hw
  have hm : w ∈ big := by first | exact List.mem_of_getElem? hi | exact List.getElem?_mem hi
  exact ⟨hm, good_of_word h1⟩
theorem goodIn_app {big a b : List Cond} (ha : GoodIn big a) (hb : GoodIn big b) : GoodIn big (a ++ b) := fun w h => (List.mem_append.mp h).elim (ha w) (hb w)
theorem goodIn_ca {big a b : List Cond} {c : Cond} (ha : GoodIn big (c :: a)) (hb : GoodIn big b) : GoodIn big (c :: (a ++ b)) := fun w h => (List.mem_cons.mp h).elim (fun e => ha w (List.mem_cons.mpr (Or.inl e))) (fun h => (List.mem_append.mp h).elim (fun h => ha w (List.mem_cons.mpr (Or.inr h))) (hb w))
theorem goodIn_sub {big ws : List Cond} (hm : ∀ w ∈ ws, w ∈ big) (h : ws.all goodWord = true) : GoodIn big ws := fun w hw => ⟨hm w hw, good_of_word (List.all_eq_true.mp h w hw)⟩
/-! ===== END ===== -/

/-! ===== BEGIN new T[n][m]: the outer array a place, the inner ones among the pooled ===== -/
/-- f, but v at every address of l -/
def vr_up {α : Type} (f : Nat → α) (l : List Nat) (v : α) : Nat → α := fun a => if a ∈ l then v else f a
theorem vr_up_in {α : Type} {f : Nat → α} {l : List Nat} {v : α} {a : Nat} (h : a ∈ l) : vr_up f l v a = v := if_pos h
theorem vr_up_ne {α : Type} {f : Nat → α} {l : List Nat} {v : α} {a : Nat} (h : a ∉ l) : vr_up f l v a = f a := if_neg h
theorem vr_rows {L l : List Nat} {f : Nat → va_E} {e : va_E} (h : ∀ a, a ∈ l → a ∉ L) : va_pl L f ++ l.map (fun a => (a, e)) = va_pl (L ++ l) (vr_up f l e) := by
  unfold va_pl
  rw [List.map_append]
  congr 1
  · apply List.map_congr_left
    intro a ha
    rw [vr_up_ne (fun q => h a q ha)]
  · apply List.map_congr_left
    intro a ha
    rw [vr_up_in ha]
theorem vr_lay {X rows : va_W} {x : Nat × va_E} {pl : va_W} {D : va_G} {cl : List vw_C} {H : Heap} (hP : va_P D cl (((X ++ pl) ++ [x]) ++ rows) H) : va_P D cl ((X ++ [x]) ++ (pl ++ rows)) H := by
  rw [List.append_assoc (X ++ pl)] at hP
  have h := va_P.swap hP
  rw [← List.append_assoc X] at h
  have h2 := va_P.swap h
  rw [List.append_assoc (X ++ [x])] at h2
  exact h2
theorem vr_layD {X rows : va_W} {x : Nat × va_E} {pl : va_W} {A : Nat → Prop} (hD : va_D A (((X ++ pl) ++ [x]) ++ rows)) : va_D A ((X ++ [x]) ++ (pl ++ rows)) := by
  rw [List.append_assoc (X ++ pl)] at hD
  have h := va_D.swap hD
  rw [← List.append_assoc X] at h
  have h2 := va_D.swap h
  rw [List.append_assoc (X ++ [x])] at h2
  exact h2
theorem vr_outer (c : ClassId) (N h0 : Nat) : ∀ i : Nat, Jvm.Free.Multi.outerC c N h0 i = arrV c N (fun j => va_rf (if j < i then some (h0 + 1 + j) else none))
  | 0 => by
    show ({ cls := c, slots := Array.replicate N .null, vm := .none } : Cell) = _
    rw [arrV_new]
    refine congrArg (arrV c N) (funext fun j => ?_)
    simp [va_rf]
  | i + 1 => by
    show (Jvm.Free.Multi.outerC c N h0 i).setSlot i (.ref (h0 + 1 + i)) = _
    rw [vr_outer c N h0 i, arrV_store]
    refine congrArg (arrV c N) (funext fun j => ?_)
    by_cases e : j = i
    · subst e
      simp [updV, va_rf]
    · by_cases h : j < i
      · simp [updV, e, h, Nat.lt_succ_of_lt h]
      · simp [updV, e, h, show ¬ j < i + 1 by omega]
section VGM
variable {p : Program} {l : Launch} {e : Env} {R : Room} {s : State} {m : MethodId} {args : Array Value} {below : List Frame} {meth : Method} {c : Code} {H : Heap} {locs : List Loc} {cells slots : Nat} {Q : State → Prop}
variable {cc : ByteArray} {pc : Nat} {ls : Array Slot} {rest : List Value} {D : va_G} {cl : List vw_C} {A : Nat → Prop} {a : Nat} {tys : List (ClassId × FieldType)} {ws : va_W} {H0 : Heap}
theorem va_mna {X : va_W} {L : List Nat} {f : Nat → va_E} {cc : ByteArray} (hexec : p.tables.exec = Jvm.exec) (hb : c.code = cc) {own : String} {index : Nat} {ty : FieldType} {cy : ClassId} (hown : s.vm.findClass own = some m.cls) (hclink : (Cond.classLink own index ("[" ++ (FieldType.array ty).toString)).before args s = true) (hover : va_AOA ty s) (harr : (Cond.arrayClass ty).before args s = true) (hcy : s.vm.findClass (FieldType.array ty).toString = some cy)
    (hK : va_K D cl tys s) (hP : va_P D cl (X ++ va_pl L f) H) (hD : va_D A (X ++ va_pl L f)) (hS : va_S A H0 H locs) (hA : ∀ q, H0.size ≤ q → A q) {n k : Int32} {N' K' : Nat} {z : vp_A} (hn : ¬ n < 0) (hk : ¬ k < 0) (hN : n.toNatClampNeg = N') (hM : k.toNatClampNeg = K')
    (hb1 : N' * 4 ≤ 536870912) (hb2 : K' * componentBytes ty ≤ 536870912) (hb3 : K' ≤ 536870912) (hdf : fits ty (defaultValue ty) = true) (hdd : (defaultValue ty).isDefault = true) (hcells : cells + (1 + N') ≤ R.cells) (hslots : slots + (N' + N' * K') ≤ R.slots) (hz : ∀ c : ClassId, Jvm.Free.Multi.innerC c K' (defaultValue ty) = vp_cell c z) (hdg : decode cc pc = .ok (.multianewarray index 2, 4))
    (kk : ∀ (q : Nat) (r : Nat → Nat) (cA : ClassId) (H1 : Heap), (∀ i j : Nat, i < N' → j < N' → r i = r j → i = j) → (∀ i : Nat, i < N' → r i ∉ L) → va_K D cl (tys ++ [(cA, .array ty)]) s →
      va_P D cl ((X ++ [(q, .inl (cA, N', .inr (.inr (.inr (.inr (fun i => if i < N' then some (r i) else none))))))]) ++ va_pl (L ++ (List.range N').map r) (vr_up f ((List.range N').map r) (.inl (cy, z)))) H1 → va_D A ((X ++ [(q, .inl (cA, N', .inr (.inr (.inr (.inr (fun i => if i < N' then some (r i) else none))))))]) ++ va_pl (L ++ (List.range N').map r) (vr_up f ((List.range N').map r) (.inl (cy, z)))) → va_S A H0 H1 locs →
      W p l e R s m args below meth c H1 locs (cells + 1 + N') (slots + N' + N' * K') Q (F0 m (pc + 4) ls (.ref q :: rest))) : W p l e R s m args below meth c H locs cells slots Q (F0 m pc ls (.int k :: .int n :: rest)) := by
  subst hN
  subst hM
  intro T hT Xs
  obtain ⟨vm₁, cA, comp, -, fA, fC, hO, -, X', step⟩ := Xs.multianewarray2F hexec hown hclink (va_AOA.use hover) harr (g := F0 m pc ls (.int k :: .int n :: rest)) rfl (by rw [hb]; exact hdg) rfl hn hk hb1 hb2 hb3 hdf hdd hcells hslots
  have ec : some cy = some comp := hcy.symm.trans fC
  cases ec
  generalize hF : Jvm.Free.Multi.fill (T.setVm vm₁) cA cy n.toNatClampNeg k.toNatClampNeg (defaultValue ty) n.toNatClampNeg = F at X' step
  have hTh : (T.setVm vm₁).heap = H := hT
  obtain ⟨f1, f2, -, -⟩ := Jvm.Free.Multi.fill_facts (T.setVm vm₁) cA cy n.toNatClampNeg k.toNatClampNeg (defaultValue ty) n.toNatClampNeg
  rw [hF, hTh] at f1 f2
  have hold : ∀ x : Nat, x < H.size → F.heap[x]? = H[x]? := fun x hx => by
    have := Jvm.Free.Multi.fill_old (T.setVm vm₁) cA cy n.toNatClampNeg k.toNatClampNeg (defaultValue ty) (a := x) (by rw [hTh]; exact hx) n.toNatClampNeg
    rw [hF, hTh] at this
    exact this
  have hrow : ∀ j : Nat, j < n.toNatClampNeg → F.heap[H.size + 1 + j]? = some (vp_cell cy z) := fun j hj => by
    have := Jvm.Free.Multi.fill_inner (T.setVm vm₁) cA cy n.toNatClampNeg k.toNatClampNeg (defaultValue ty) n.toNatClampNeg j hj
    rw [hF, hTh, hz] at this
    exact this
  have hout : Jvm.Free.Multi.outerC cA n.toNatClampNeg H.size n.toNatClampNeg = vp_cell cA (n.toNatClampNeg, .inr (.inr (.inr (.inr (fun i => if i < n.toNatClampNeg then some (H.size + 1 + i) else none))))) := by
    rw [vp_cell_q]
    exact vr_outer cA n.toNatClampNeg H.size n.toNatClampNeg
  rw [hout] at f2
  have hlt : ∀ a, a ∈ L → a < H.size := fun a ha => by
    obtain ⟨k9, hk9⟩ := va_pl_get (X := X) (f := f) ha
    exact (hP k9 _ hk9).lt
  have hnl : ∀ i : Nat, i < n.toNatClampNeg → H.size + 1 + i ∉ L := fun i _ h => by
    have := hlt _ h
    omega
  have hnm : ∀ a, a ∈ (List.range n.toNatClampNeg).map (fun i => H.size + 1 + i) → a ∉ L := fun a ha h => by
    obtain ⟨i, -, rfl⟩ := List.mem_map.mp ha
    have := hlt _ h
    omega
  have hP0 : va_P D cl (X ++ va_pl L f) F.heap := hP.kept (fun k9 x hx => hold x.1 ((hP k9 x hx).lt))
  have hP1 : va_P D cl ((X ++ va_pl L f) ++ [(H.size, .inl (cA, n.toNatClampNeg, .inr (.inr (.inr (.inr (fun i => if i < n.toNatClampNeg then some (H.size + 1 + i) else none))))))]) F.heap := hP0.app (fun k9 x hx => by
    have h0 : k9 < 1 := (List.getElem?_eq_some_iff.mp hx).1
    rw [show k9 = 0 by omega] at hx
    cases hx
    exact f2)
  have hP2 : va_P D cl (((X ++ va_pl L f) ++ [(H.size, .inl (cA, n.toNatClampNeg, .inr (.inr (.inr (.inr (fun i => if i < n.toNatClampNeg then some (H.size + 1 + i) else none))))))]) ++ ((List.range n.toNatClampNeg).map (fun i => H.size + 1 + i)).map (fun a => (a, .inl (cy, z)))) F.heap := hP1.app (fun k9 x hx => by
    obtain ⟨a, ha, rfl⟩ := List.mem_map.mp (List.mem_of_getElem? hx)
    obtain ⟨i, hi, rfl⟩ := List.mem_map.mp ha
    exact hrow i (List.mem_range.mp hi))
  have hD2 : va_D A (((X ++ va_pl L f) ++ [(H.size, .inl (cA, n.toNatClampNeg, .inr (.inr (.inr (.inr (fun i => if i < n.toNatClampNeg then some (H.size + 1 + i) else none))))))]) ++ ((List.range n.toNatClampNeg).map (fun i => H.size + 1 + i)).map (fun a => (a, .inl (cy, z)))) := by
    have hD1 := hD.push (e := .inl (cA, n.toNatClampNeg, .inr (.inr (.inr (.inr (fun i => if i < n.toNatClampNeg then some (H.size + 1 + i) else none)))))) hP rfl (hA _ hS.1)
    generalize hW1 : (X ++ va_pl L f) ++ [(H.size, .inl (cA, n.toNatClampNeg, .inr (.inr (.inr (.inr (fun i => if i < n.toNatClampNeg then some (H.size + 1 + i) else none))))))] = W1 at hD1 hP1 ⊢
    have hle : ∀ (k9 : Nat) (x : Nat × va_E), W1[k9]? = some x → x.1 ≤ H.size := fun k9 x hx => by
      rw [← hW1] at hx
      by_cases hl : k9 < (X ++ va_pl L f).length
      · rw [List.getElem?_append_left hl] at hx
        exact Nat.le_of_lt ((hP k9 x hx).lt)
      · rw [List.getElem?_append_right (by omega)] at hx
        have h0 : k9 - (X ++ va_pl L f).length < 1 := (List.getElem?_eq_some_iff.mp hx).1
        rw [show k9 - (X ++ va_pl L f).length = 0 by omega] at hx
        cases hx
        exact Nat.le_refl _
    have hr : ∀ (k9 : Nat) (x : Nat × va_E), (((List.range n.toNatClampNeg).map (fun i => H.size + 1 + i)).map (fun a => ((a, .inl (cy, z)) : Nat × va_E)))[k9]? = some x → x.1 = H.size + 1 + k9 := fun k9 x hx => by
      rw [List.getElem?_map, List.getElem?_map] at hx
      by_cases h9 : k9 < n.toNatClampNeg
      · rw [List.getElem?_range h9] at hx
        cases hx
        rfl
      · have hn0 : (List.range n.toNatClampNeg)[k9]? = none := List.getElem?_eq_none (by rw [List.length_range]; omega)
        rw [hn0] at hx
        cases hx
    refine ⟨fun i j x y hi hj hxy => ?_, fun k9 x hx => ?_⟩
    · by_cases h1 : i < W1.length <;> by_cases h2 : j < W1.length
      · rw [List.getElem?_append_left h1] at hi
        rw [List.getElem?_append_left h2] at hj
        exact hD1.1 i j x y hi hj hxy
      · rw [List.getElem?_append_left h1] at hi
        rw [List.getElem?_append_right (by omega)] at hj
        have := hle _ _ hi
        have := hr _ _ hj
        omega
      · rw [List.getElem?_append_right (by omega)] at hi
        rw [List.getElem?_append_left h2] at hj
        have := hle _ _ hj
        have := hr _ _ hi
        omega
      · rw [List.getElem?_append_right (by omega)] at hi hj
        have := hr _ _ hi
        have := hr _ _ hj
        omega
    · by_cases h1 : k9 < W1.length
      · rw [List.getElem?_append_left h1] at hx
        exact hD1.2 k9 x hx
      · rw [List.getElem?_append_right (by omega)] at hx
        have := hr _ _ hx
        exact hA _ (by have := hS.1; omega)
  have hAr : ArrOfT s cA (.array ty) := fun N9 z9 => by
    obtain ⟨-, k9, hk9, cm9, hkk9⟩ := (hO 0 0 0).1
    exact ⟨(fun q hq => by cases hq), k9, hk9, cm9, hkk9⟩
  have hK2 : va_K D cl (tys ++ [(cA, .array ty)]) s := ⟨hK.1, fun k9 x hx => by
    by_cases hl : k9 < tys.length
    · rw [List.getElem?_append_left hl] at hx
      exact hK.2 k9 x hx
    · rw [List.getElem?_append_right (by omega)] at hx
      have h0 : k9 - tys.length < 1 := (List.getElem?_eq_some_iff.mp hx).1
      rw [show k9 - tys.length = 0 by omega] at hx
      cases hx
      exact ⟨hAr, fA⟩⟩
  obtain ⟨t, a1, b1⟩ := kk H.size (fun i => H.size + 1 + i) cA F.heap (fun i j _ _ h => by have h9 : H.size + 1 + i = H.size + 1 + j := h; omega) hnl hK2 (by rw [← vr_rows hnm]; exact vr_lay hP2) (by rw [← vr_rows hnm]; exact vr_layD hD2) ⟨by rw [f1]; have := hS.1; omega, fun x h1 h2 => (hold x (Nat.lt_of_lt_of_le h1 hS.1)).trans (hS.2.1 x h1 h2), hS.2.2⟩ F rfl X'
  refine ⟨t, step t ?_, b1⟩
  have e : T.heap.size = H.size := by rw [hT]
  rw [e]
  exact a1
end VGM
/-! ===== END ===== -/

/-! ===== BEGIN exceptions that leave a method, and their catching by the caller (launches without stack traces) ===== -/
section VXA
/-! The laws vx_back, vx_callV, vx_callS, vx_callSW, vx_throw0, vx_throwS follow proofs of the library, with one case more: JvmDerived/Free/Laws.lean (Back.of_free), Shelf42/LK1.lean (callV, callS), Shelf/KitTraced.lean (throwNew0V, throwNewS). -/
/-- where a method has thrown q: the class by its name, the cell, what was written, the world -/
def vx_T (XC : String → State → State → Prop) (st : State) (q : Addr) (t : State) (mc ms : Nat) (free : Addr → Prop) : Prop :=
  ∃ (E : String) (ce : Cell) (L : List Loc), XC E st t ∧ t.heap[q]? = some ce ∧ ce.vm = .none ∧ st.vm.findClass E = some ce.cls ∧ st.WarmedH t.vm ∧ st.sameButNew ({ t with vm := st.vm } : State) L mc ms ∧ ∀ z ∈ L, free z.base
def vx_Q (Qc : Array Value → State → Outcome → State → Prop) (XC : String → State → State → Prop) (mc ms : Nat) (free : Addr → Prop) : Array Value → State → Outcome → State → Prop := fun a st o t =>
  (Qc a st o t ∧ ∃ L, FrameEnd st o t L mc ms ∧ ∀ q ∈ L, free q.base) ∨ ∃ q, o = .threw q ∧ vx_T XC st q t mc ms free
/-- a callee that returns or throws -/
def vx_Met (l : Launch) (y : MethodName) (ws : List Cond) (rm : Room) (Pc : Array Value → State → Prop) (Qc : Array Value → State → Outcome → State → Prop) (XC : String → State → State → Prop) (mc ms : Nat) (free : Addr → Prop) : Prop :=
  MetFree l y (headSpec ws rm) Pc (fun _ _ _ _ _ => True) (vx_Q Qc XC mc ms free)
def vx_Post (XC : String → State → State → Prop) (mc ms : Nat) (free : Addr → Prop) : Pt → Array Value → Addr → Pt → Prop := fun A a q B =>
  ∃ (g : JFrame) (mk : MethodId) (t : State) (L : List Loc) (E : String) (ce : Cell), B.U.heap = t.heap ∧ B.U.vm = t.vm ∧ XC E (A.U.calling g mk a) t ∧ t.heap[q]? = some ce ∧ ce.vm = .none ∧ A.U.vm.findClass E = some ce.cls ∧ B.locs = A.locs ++ L ∧ (∀ z ∈ L, free z.base) ∧ B.cells = A.cells + mc ∧ B.slots = A.slots + ms
def vx_Back (l : Launch) (R : Room) (p : Program) (e : Env) (below : List Frame) (s : State) (sargs : Array Value) (y : MethodName) (len W9 : Nat)
    (Pre : Pt → Array Value → Prop) (Post : Pt → Array Value → Option Value → Pt → Prop) (PostX : Pt → Array Value → Addr → Pt → Prop) : Prop :=
  ∀ (m : MethodId) (meth : Method) (c : Code) (A : Pt) (g : JFrame) (ig : Instr) (mk : MethodId) (a : Array Value),
    Stand p l e R s m sargs below meth c A.U A.locs A.cells A.slots → g.method = m → g.locals.size = c.maxLocals → decode c.code g.pc = .ok (ig, len) →
    2 * g.monitorRoom + (g.stack.map fun v => v.category).sum ≤ W9 → A.U.methodNamed? y = some mk → Pre A a →
    (∃ (v : Option Value) (B : Pt), Stand p l e R s m sargs below meth c B.U B.locs B.cells B.slots ∧ Post A a v B ∧
      Steps p.tables e below (doInvoke e (A.U.setTop g) [] mk a).1 (B.U.setTop { g with pc := g.pc + len, stack := v.toList ++ g.stack })) ∨
    (∃ (q : Addr) (B : Pt), Stand p l e R s m sargs below meth c B.U B.locs B.cells B.slots ∧ PostX A a q B ∧
      Steps p.tables e below (doInvoke e (A.U.setTop g) [] mk a).1 ((B.U.setTop g).pushFrame (.throwing q)))
section Payer
variable {l : Launch} {R : Room} {p : Program} {e : Env} {below : List Frame} {s : State} {sargs : Array Value} {y : MethodName} {len W9 : Nat}
theorem vx_back {ws : List Cond} {rm : Room} {Pc : Array Value → State → Prop} {Qc : Array Value → State → Outcome → State → Prop} {XC : String → State → State → Prop} {mc ms : Nat} {free : Addr → Prop} {bytes : ByteArray} {maxL : Nat} {ret : Option FieldType}
    (hM : vx_Met l y ws rm Pc Qc XC mc ms free) (hblind : FrameBlind Pc) (hrc : rm.cells = mc) (hrs : rm.slots = ms)
    (hframes : rm.frames + 1 ≤ R.frames) (hlocals : W9 + (maxL + 11) + rm.locals ≤ R.locals)
    (hws : ∀ w ∈ ws, ∀ a' U, s.WarmedH U.vm → w.before a' U = true) (hcode : Cond.code y bytes maxL ret ∈ ws) (hinit : ∀ a' U, s.WarmedH U.vm → (Cond.initialized y.cls).before a' U = true) :
    vx_Back l R p e below s sargs y len W9 (PreOf R mc ms Pc) (PostOf Qc mc ms free) (vx_Post XC mc ms free) := by
  intro m meth c A g ig mk a X hg hsize hdg hW hn hp
  have h1 : (headSpec ws rm).pre.before a A.U = true := atoms_intro fun w hw => hws w hw _ _ X.warmed
  have h2 : (Cond.code y bytes maxL ret).before a A.U = true := hws _ hcode _ _ X.warmed
  have h3 : (Cond.initialized y.cls).before a A.U = true := hinit _ _ X.warmed
  have h4 : A.cells + (headSpec ws rm).room.cells ≤ R.cells := by rw [show (headSpec ws rm).room.cells = mc from hrc]; exact hp.1
  have h5 : A.slots + (headSpec ws rm).room.slots ≤ R.slots := by rw [show (headSpec ws rm).room.slots = ms from hrs]; exact hp.2.1
  have hPc : Pc a (A.U.calling g mk a) := hblind _ _ _ _ hp.2.2
  obtain ⟨U, Ls, c0, s0⟩ := A
  dsimp only [Pt.U, Pt.locs, Pt.cells, Pt.slots] at h1 h2 h3 h4 h5 X hn hPc ⊢
  obtain ⟨methY, cY, hmY, hcY, -, hlY, -, -, -, -⟩ := Cond.code_spec hn h2
  obtain ⟨kY, hkY, -⟩ := className_of_methodNamed hn
  have hinitY : kY.init = .initialized := Cond.initialized_spec (findClass_of_methodNamed hn) hkY h3
  have h : At U g.method c below := by rw [hg]; exact X.here
  have hlocals9 : W9 + (maxL + 11) + (headSpec ws rm).room.locals ≤ R.locals := hlocals
  have happ : (headSpec ws rm).appliesLoose y e.platform (U.calling g mk a) = true :=
    Spec.appliesLoose_calling (g := g) h hdg hn hkY hinitY
      (X.room_calling (g := g) (R' := (headSpec ws rm).room) hsize hmY hcY hframes (by rw [hlY]; omega) h4 h5) h1
  obtain ⟨mid, hmid⟩ := h.above
  have hfr : (U.setTop g).frames = (.java g :: mid) ++ below := by rw [State.frames_setTop' g h.top, hmid]; rfl
  obtain ⟨o, s₂, hsteps, -, hend, hq⟩ := Steps.callFree hM p X.admits X.cas X.clock (acts := []) hfr happ hPc trivial
  have hq' : vx_Q Qc XC mc ms free a (U.calling g mk a) o s₂ := hq
  rw [State.frames_setTop' g h.top] at hend
  obtain ⟨g₀, hg0⟩ := Option.isSome_iff_exists.mp h.top
  obtain ⟨r, hr⟩ := State.topJava?_eq_some.mp hg0
  have hr' : (({ U with heap := s₂.heap, slotsUsed := s₂.slotsUsed } : State).setVm s₂.vm).frames = .java g₀ :: r := hr
  rcases hq' with ⟨hqc, L, hfe, hL⟩ | ⟨q, rfl, E, ce, L, hx, hce, hcv, hcl, hW₂, hsm, hL⟩
  · obtain ⟨⟨v, rfl⟩, hW₂, e2, q2, q3, q4, q5, q6⟩ := id hfe
    have e3 : s₂ = ({ (U.calling g mk a).setFrames s₂.frames with heap := s₂.heap, slotsUsed := s₂.slotsUsed } : State).setVm s₂.vm := by
      have : s₂ = ({ s₂ with vm := (U.calling g mk a).vm } : State).setVm s₂.vm := rfl
      rw [e2] at this
      exact this
    obtain ⟨c₂, i₂, len₂, hc₂, hd₂, hf₂⟩ := hend
    have hW' : U.WarmedH s₂.vm := hW₂
    have hcc : c₂ = c := by
      have h1 : s₂.code? g.method = U.code? g.method := by
        rw [State.code?_eq, State.code?_eq, hW'.alike.method?]
      exact Option.some.inj (hc₂.symm.trans (h1.trans h.code))
    subst hcc
    have hlen : len₂ = len := by rw [hdg] at hd₂; cases hd₂; rfl
    subst hlen
    have hs₂ : s₂ = (({ U with heap := s₂.heap, slotsUsed := s₂.slotsUsed } : State).setVm s₂.vm).setTop { g with pc := g.pc + len₂, stack := v.toList ++ g.stack } := by
      refine e3.trans ?_
      rw [hf₂, State.calling_eq h.top, State.setFrames_setFrames, State.setTop_of_frames _ hr', hr]
      rfl
    have hsame : U.sameButNew ({ U with heap := s₂.heap, slotsUsed := s₂.slotsUsed } : State) L mc ms := by
      refine ⟨?_, q2, q3, q4, q5, q6⟩
      obtain ⟨t, ht, -⟩ := State.frames_cons hr
      show ({ U with heap := s₂.heap, slotsUsed := s₂.slotsUsed } : State) = { U.setFrames U.frames with heap := s₂.heap, slotsUsed := s₂.slotsUsed }
      rw [State.setFrames_self ht]
    subst hg
    refine Or.inl ⟨v, ⟨(({ U with heap := s₂.heap, slotsUsed := s₂.slotsUsed } : State).setVm s₂.vm), Ls ++ L, c0 + mc, s0 + ms⟩,
      ⟨X.admits, X.cas, X.clock, X.frames, X.room, X.hears, X.method, X.code, (X.here.setHeapUsed s₂.heap s₂.slotsUsed).setVm hW'.alike, X.tail, State.WarmedH.trans X.warmed hW', X.limits, X.bytes, X.same.trans (hsame.setVm s.vm)⟩,
      ⟨g, mk, s₂, L, rfl, rfl, hqc, rfl, hL, rfl, rfl⟩, ?_⟩
    show Steps p.tables e below _ ((({ U with heap := s₂.heap, slotsUsed := s₂.slotsUsed } : State).setVm s₂.vm).setTop { g with pc := g.pc + len₂, stack := v.toList ++ g.stack })
    rw [← hs₂]
    exact hsteps
  · obtain ⟨e2, q2, q3, q4, q5, q6⟩ := id hsm
    have e3 : s₂ = ({ (U.calling g mk a).setFrames s₂.frames with heap := s₂.heap, slotsUsed := s₂.slotsUsed } : State).setVm s₂.vm := by
      have : s₂ = ({ s₂ with vm := (U.calling g mk a).vm } : State).setVm s₂.vm := rfl
      rw [e2] at this
      exact this
    have hf₂ : s₂.frames = .throwing q :: .java g :: U.frames.tail := hend
    have hW' : U.WarmedH s₂.vm := hW₂
    have hs₂ : s₂ = ((({ U with heap := s₂.heap, slotsUsed := s₂.slotsUsed } : State).setVm s₂.vm).setTop g).pushFrame (.throwing q) := by
      refine e3.trans ?_
      rw [hf₂, State.calling_eq h.top, State.setFrames_setFrames, State.pushFrame, State.frames_setTop _ hr', State.setTop_of_frames _ hr', State.setFrames_setFrames, hr]
      rfl
    have hsame : U.sameButNew ({ U with heap := s₂.heap, slotsUsed := s₂.slotsUsed } : State) L mc ms := by
      refine ⟨?_, q2, q3, q4, q5, q6⟩
      obtain ⟨t, ht, -⟩ := State.frames_cons hr
      show ({ U with heap := s₂.heap, slotsUsed := s₂.slotsUsed } : State) = { U.setFrames U.frames with heap := s₂.heap, slotsUsed := s₂.slotsUsed }
      rw [State.setFrames_self ht]
    subst hg
    refine Or.inr ⟨q, ⟨(({ U with heap := s₂.heap, slotsUsed := s₂.slotsUsed } : State).setVm s₂.vm), Ls ++ L, c0 + mc, s0 + ms⟩,
      ⟨X.admits, X.cas, X.clock, X.frames, X.room, X.hears, X.method, X.code, (X.here.setHeapUsed s₂.heap s₂.slotsUsed).setVm hW'.alike, X.tail, State.WarmedH.trans X.warmed hW', X.limits, X.bytes, X.same.trans (hsame.setVm s.vm)⟩,
      ⟨g, mk, s₂, L, E, ce, rfl, rfl, hx, hce, hcv, hcl, rfl, hL, rfl, rfl⟩, ?_⟩
    show Steps p.tables e below _ (((({ U with heap := s₂.heap, slotsUsed := s₂.slotsUsed } : State).setVm s₂.vm).setTop g).pushFrame (.throwing q))
    rw [← hs₂]
    exact hsteps
end Payer
section Calls
variable {p : Program} {l : Launch} {e : Env} {R : Room} {s : State} {m : MethodId} {args : Array Value} {below : List Frame} {meth : Method} {c : Code} {T : State} {locs : List Loc} {cells slots : Nat}
theorem vx_callV (X : Stand p l e R s m args below meth c T locs cells slots) (hexec : p.tables.exec = Jvm.exec) {own C : String} {index : Nat} {y : MethodName} {bytes : ByteArray} {maxL : Nat} {ret : Option FieldType}
    (hown : s.vm.findClass own = some m.cls) (hlink : (Cond.methodLink own index y).before args s = true) (hinst : (Cond.instanceMethod y).before args s = true) (hsel : (Cond.selects C y y).before args s = true)
    (hcode : (Cond.code y bytes maxL ret).before args s = true) (hy : y.cls ≠ "java/lang/invoke/MethodHandle" ∧ y.cls ≠ "java/lang/invoke/VarHandle")
    {W9 : Nat} {Pre : Pt → Array Value → Prop} {Post : Pt → Array Value → Option Value → Pt → Prop} {PostX : Pt → Array Value → Addr → Pt → Prop} (hK : vx_Back l R p e below s args y 3 W9 Pre Post PostX)
    {b : Addr} {cellB : Cell} (hcell : T.heap[b]? = some cellB) (hobj : cellB.vm.isStatics = false) (hcls : s.vm.findClass C = some cellB.cls)
    {g : JFrame} (hg : g.method = m) (hsize : g.locals.size = c.maxLocals) {argsL rest : List Value} (hlen : ∀ sig, parseMethodDescriptor y.desc = some sig → argsL.length = sig.parameters.length)
    (hstack : g.stack = argsL.reverse ++ .ref b :: rest) (hW : 2 * g.monitorRoom + (rest.map fun v => v.category).sum ≤ W9) (hdg : decode c.code g.pc = .ok (.invokevirtual index, 3))
    (hpre : ∀ vm₁, s.WarmedH vm₁ → Pre ⟨T.setVm vm₁, locs, cells, slots⟩ (Value.ref b :: argsL).toArray) :
    (∃ (v : Option Value) (vm₁ : Vm) (B : Pt), s.WarmedH vm₁ ∧ Stand p l e R s m args below meth c B.U B.locs B.cells B.slots ∧ Post ⟨T.setVm vm₁, locs, cells, slots⟩ (Value.ref b :: argsL).toArray v B ∧
      ∀ target, Steps p.tables e below (B.U.setTop { g with pc := g.pc + 3, stack := v.toList ++ rest }) target → Steps p.tables e below (T.setTop g) target) ∨
    (∃ (q : Addr) (vm₁ : Vm) (B : Pt), s.WarmedH vm₁ ∧ Stand p l e R s m args below meth c B.U B.locs B.cells B.slots ∧ PostX ⟨T.setVm vm₁, locs, cells, slots⟩ (Value.ref b :: argsL).toArray q B ∧
      Steps p.tables e below (T.setTop g) ((B.U.setTop { g with stack := rest }).pushFrame (.throwing q))) := by
  obtain ⟨mk, methM, hnamed, hmethM, hstM, habM⟩ := Cond.instanceMethod_spec hinst
  obtain ⟨methM', cM, hmethM', -, -, -, -, -, -, hsigM⟩ := Cond.code_spec hnamed hcode
  cases hmethM.symm.trans hmethM'
  obtain ⟨c2, r2, m2, q1, q2, q3, q4, kP, hkP, hkPi⟩ := Cond.selects_spec hsel
  cases hcls.symm.trans q1
  cases (State.methodFound?_of_named hnamed hy).symm.trans q2
  cases hnamed.symm.trans q3
  have hselP : selectMethod e.platform s.vm cellB.cls mk = .method mk := by rw [Launch.admits_selectMethod X.admits]; exact q4
  obtain ⟨vm₁, X₁, hstep₁⟩ := X.invokevirtual hexec hown hlink hnamed hmethM hstM hkP hkPi hy (a := b) (cell := cellB) hcell
    (fun z h => by rw [h] at hobj; cases hobj) hselP hmethM habM hkP hkPi (g := g) hg (argsL := argsL) (rest := rest) (hlen _ hsigM) hstack hdg
  rcases hK m meth c ⟨T.setVm vm₁, locs, cells, slots⟩ { g with stack := rest } (.invokevirtual index) mk (Value.ref b :: argsL).toArray X₁ hg hsize hdg hW (X₁.named hnamed) (hpre vm₁ X₁.warmed) with ⟨v, B, X', hpost, hsteps⟩ | ⟨q, B, X', hpost, hsteps⟩
  · exact Or.inl ⟨v, vm₁, B, X₁.warmed, X', hpost, fun target h => hstep₁ _ fun acts => by rw [doInvoke_state]; exact hsteps.trans h⟩
  · exact Or.inr ⟨q, vm₁, B, X₁.warmed, X', hpost, hstep₁ _ fun acts => by rw [doInvoke_state]; exact hsteps⟩
theorem vx_callS (X : Stand p l e R s m args below meth c T locs cells slots) (hexec : p.tables.exec = Jvm.exec) {own : String} {index : Nat} {y : MethodName} {bytes : ByteArray} {maxL : Nat} {ret : Option FieldType}
    (hown : s.vm.findClass own = some m.cls) (hlink : (Cond.methodLink own index y).before args s = true) (hstat : (Cond.static y).before args s = true) (hinit : (Cond.initialized y.cls).before args s = true)
    (hcode : (Cond.code y bytes maxL ret).before args s = true) (hy : y.cls ≠ "java/lang/invoke/MethodHandle" ∧ y.cls ≠ "java/lang/invoke/VarHandle")
    {W9 : Nat} {Pre : Pt → Array Value → Prop} {Post : Pt → Array Value → Option Value → Pt → Prop} {PostX : Pt → Array Value → Addr → Pt → Prop} (hK : vx_Back l R p e below s args y 3 W9 Pre Post PostX)
    {g : JFrame} (hg : g.method = m) (hsize : g.locals.size = c.maxLocals) {argsL rest : List Value} (hlen : ∀ sig, parseMethodDescriptor y.desc = some sig → argsL.length = sig.parameters.length)
    (hstack : g.stack = argsL.reverse ++ rest) (hW : 2 * g.monitorRoom + (rest.map fun v => v.category).sum ≤ W9) (hdg : decode c.code g.pc = .ok (.invokestatic index, 3))
    (hpre : ∀ vm₁, s.WarmedH vm₁ → Pre ⟨T.setVm vm₁, locs, cells, slots⟩ argsL.toArray) :
    (∃ (v : Option Value) (vm₁ : Vm) (B : Pt), s.WarmedH vm₁ ∧ Stand p l e R s m args below meth c B.U B.locs B.cells B.slots ∧ Post ⟨T.setVm vm₁, locs, cells, slots⟩ argsL.toArray v B ∧
      ∀ target, Steps p.tables e below (B.U.setTop { g with pc := g.pc + 3, stack := v.toList ++ rest }) target → Steps p.tables e below (T.setTop g) target) ∨
    (∃ (q : Addr) (vm₁ : Vm) (B : Pt), s.WarmedH vm₁ ∧ Stand p l e R s m args below meth c B.U B.locs B.cells B.slots ∧ PostX ⟨T.setVm vm₁, locs, cells, slots⟩ argsL.toArray q B ∧
      Steps p.tables e below (T.setTop g) ((B.U.setTop { g with stack := rest }).pushFrame (.throwing q))) := by
  obtain ⟨mk, hnamed⟩ := Cond.code_named hcode
  obtain ⟨methM, cM, hmethM, -, -, -, -, -, -, hsigM⟩ := Cond.code_spec hnamed hcode
  have hstatic : methM.isStatic = true := Cond.static_spec hnamed hmethM hstat
  obtain ⟨kP, hkP, -⟩ := className_of_methodNamed hnamed
  have hinitP : kP.init = .initialized := Cond.initialized_spec (findClass_of_methodNamed hnamed) hkP hinit
  obtain ⟨vm₁, X₁, hstep₁⟩ := X.invokestatic hexec hown hlink hnamed hmethM hstatic hkP hinitP hy (g := g) hg (argsL := argsL) (rest := rest) (hlen _ hsigM) hstack hdg
  rcases hK m meth c ⟨T.setVm vm₁, locs, cells, slots⟩ { g with stack := rest } (.invokestatic index) mk argsL.toArray X₁ hg hsize hdg hW (X₁.named hnamed) (hpre vm₁ X₁.warmed) with ⟨v, B, X', hpost, hsteps⟩ | ⟨q, B, X', hpost, hsteps⟩
  · exact Or.inl ⟨v, vm₁, B, X₁.warmed, X', hpost, fun target h => hstep₁ _ fun acts => by rw [doInvoke_state]; exact hsteps.trans h⟩
  · exact Or.inr ⟨q, vm₁, B, X₁.warmed, X', hpost, hstep₁ _ fun acts => by rw [doInvoke_state]; exact hsteps⟩
end Calls
theorem vx_cls {s : State} {T : State} {vm₁ : Vm} {E : String} {k : ClassId} (hW : s.WarmedH vm₁) (h : (T.setVm vm₁).vm.findClass E = some k) : s.vm.findClass E = some k := by
  have h1 : vm₁.findClass E = some k := h
  rw [hW.alike.findClass] at h1
  exact h1
/-- the method's frame g, with q thrown over it -/
def vx_W (p : Program) (l : Launch) (e : Env) (R : Room) (s : State) (m : MethodId) (args : Array Value) (below : List Frame) (meth : Method) (c : Code) (H : Heap) (locs : List Loc) (cells slots : Nat) (Q : State → Prop) (g : JFrame) (q : Addr) : Prop :=
  ∀ T : State, T.heap = H → Stand p l e R s m args below meth c T locs cells slots → ∃ t, Steps p.tables e below ((T.setTop g).pushFrame (.throwing q)) t ∧ Q t
def vx_Run (p : Program) (l : Launch) (e : Env) (R : Room) (s : State) (m : MethodId) (args : Array Value) (below : List Frame) (meth : Method) (c : Code) (H : Heap) (locs : List Loc) (cells slots mc ms : Nat) (g : JFrame) (rest : List Value) (Qa : State → Outcome → State → Prop) (XC : String → State → State → Prop) (free : Addr → Prop) : Prop :=
  ∀ T : State, T.heap = H → Stand p l e R s m args below meth c T locs cells slots →
    (∃ (v : Option Value) (st₀ t T' : State) (L : List Loc), st₀.heap = H ∧ Stand p l e R s m args below meth c T' (locs ++ L) (cells + mc) (slots + ms) ∧ (∀ q ∈ L, free q.base) ∧ T'.heap = t.heap ∧ T'.vm = t.vm ∧ Qa st₀ (.returned v) t ∧
      Goes p e below T g T' { g with pc := g.pc + 3, stack := v.toList ++ rest }) ∨
    (∃ (q : Addr) (st₀ t T' : State) (L : List Loc) (E : String) (ce : Cell), st₀.heap = H ∧ Stand p l e R s m args below meth c T' (locs ++ L) (cells + mc) (slots + ms) ∧ (∀ z ∈ L, free z.base) ∧ T'.heap = t.heap ∧ T'.vm = t.vm ∧ XC E st₀ t ∧ t.heap[q]? = some ce ∧ ce.vm = .none ∧ s.vm.findClass E = some ce.cls ∧
      Steps p.tables e below (T.setTop g) ((T'.setTop { g with stack := rest }).pushFrame (.throwing q)))
def vx_X {S : Type} (px : S → Prop) (B : String → S → State → Prop) (A : Nat → Prop) : String → State → State → Prop := fun E st t => ∃ u : S, px u ∧ B E u t ∧ va_F A st t
section Runs
variable {p : Program} {l : Launch} {e : Env} {R : Room} {s : State} {m : MethodId} {args : Array Value} {below : List Frame} {meth : Method} {c : Code} {H : Heap} {locs : List Loc} {cells slots : Nat}
variable {y : MethodName} {bytes cc : ByteArray} {maxL nL mc ms n index : Nat} {ret : Option FieldType} {ws : List Cond} {rm : Room} {Pc : Array Value → State → Prop} {Qc : Array Value → State → Outcome → State → Prop} {XC : String → State → State → Prop} {free : Addr → Prop} {Ts : List Cond} {own C : String} {b : Addr} {As rest : List Value} {g : JFrame}
theorem vx_callBack (cb : CallB R s args own index y bytes maxL ret ws rm mc ms n) (hM : vx_Met l y ws rm Pc Qc XC mc ms free) (hbl : FrameBlind Pc) : vx_Back l R p e below s args y 3 8 (PreOf R mc ms Pc) (PostOf Qc mc ms free) (vx_Post XC mc ms free) := by
  obtain ⟨hrc, hrs, hfr, hlo, hws, hcw, -, hini, -⟩ := cb
  exact vx_back (bytes := bytes) (maxL := maxL) (ret := ret) hM hbl hrc hrs hfr hlo hws hcw (fun a' U hW => word_at hW (Or.inl (by first | rfl | simp [Cond.onTables, Cond.keeps, Cond.steady])) hini)
theorem vx_runV (S : CallFix p m c cc nL s args Ts own) (hM : vx_Met l y ws rm Pc Qc XC mc ms free) (cw : CallW R s args own C index y bytes maxL ret ws rm mc ms n) (hp : PreV s H C b Pc As)
    (hg : g.method = m) (hn : As.length = n) (hsize : g.locals.size = nL) (hstack : g.stack = As.reverse ++ .ref b :: rest) (hW : 2 * g.monitorRoom + (rest.map fun v => v.category).sum ≤ 8) (hdg : decode cc g.pc = .ok (.invokevirtual index, 3)) (hf : cells + mc ≤ R.cells ∧ slots + ms ≤ R.slots) :
    vx_Run p l e R s m args below meth c H locs cells slots mc ms g rest (Qc (Value.ref b :: As).toArray) XC free := by
  have hK : vx_Back l R p e below s args y 3 8 (PreOf R mc ms Pc) (PostOf Qc mc ms free) (vx_Post XC mc ms free) := vx_callBack cw.1 hM hp.1
  obtain ⟨⟨-, -, -, -, -, -, hcode, -, hy, hlen, hl⟩, hin, hse⟩ := cw
  obtain ⟨hx, hb, hml, ho, -⟩ := S
  obtain ⟨-, ⟨cellB, hcB, hoB, hclB⟩, hPc⟩ := hp
  intro T hT X
  rcases vx_callV X hx (C := C) (bytes := bytes) (maxL := maxL) (ret := ret) ho hl hin hse hcode hy hK (by rw [hT]; exact hcB) hoB hclB hg (hsize.trans hml.symm) (argsL := As) (rest := rest) (fun sig h => hn.trans (hlen sig h)) hstack hW (by rw [hb]; exact hdg)
    (fun vm₁ hW₁ => ⟨hf.1, hf.2, hPc (T.setVm vm₁) hT hW₁⟩) with ⟨v, vm₁, ⟨U', l2, c2, s2⟩, hW₁, X', ⟨g', mk, t, L, e1, e2, hq, h1, hL, h2, h3⟩, st⟩ | ⟨q, vm₁, ⟨U', l2, c2, s2⟩, hW₁, X', ⟨g', mk, t, L, E, ce, e1, e2, hq, hce, hcv, hcl, h1, hL, h2, h3⟩, st⟩
  · dsimp only [Pt.U, Pt.locs, Pt.cells, Pt.slots] at X' e1 e2 h1 h2 h3 st
    subst h1; subst h2; subst h3
    exact Or.inl ⟨v, (T.setVm vm₁).calling g' mk (Value.ref b :: As).toArray, t, U', L, hT, X', hL, e1, e2, hq, st⟩
  · dsimp only [Pt.U, Pt.locs, Pt.cells, Pt.slots] at X' e1 e2 h1 h2 h3 st hcl
    subst h1; subst h2; subst h3
    exact Or.inr ⟨q, (T.setVm vm₁).calling g' mk (Value.ref b :: As).toArray, t, U', L, E, ce, hT, X', hL, e1, e2, hq, hce, hcv, vx_cls hW₁ hcl, st⟩
theorem vx_runS (S : CallFix p m c cc nL s args Ts own) (hM : vx_Met l y ws rm Pc Qc XC mc ms free) (cw : CallB R s args own index y bytes maxL ret ws rm mc ms n ∧ (Cond.static y).before args s = true) (hp : PreS s H Pc As)
    (hg : g.method = m) (hn : As.length = n) (hsize : g.locals.size = nL) (hstack : g.stack = As.reverse ++ rest) (hW : 2 * g.monitorRoom + (rest.map fun v => v.category).sum ≤ 8) (hdg : decode cc g.pc = .ok (.invokestatic index, 3)) (hf : cells + mc ≤ R.cells ∧ slots + ms ≤ R.slots) :
    vx_Run p l e R s m args below meth c H locs cells slots mc ms g rest (Qc As.toArray) XC free := by
  have hK : vx_Back l R p e below s args y 3 8 (PreOf R mc ms Pc) (PostOf Qc mc ms free) (vx_Post XC mc ms free) := vx_callBack cw.1 hM hp.1
  obtain ⟨⟨-, -, -, -, -, -, hcode, hini, hy, hlen, hl⟩, hstt⟩ := cw
  obtain ⟨hx, hb, hml, ho, -⟩ := S
  intro T hT X
  rcases vx_callS X hx (bytes := bytes) (maxL := maxL) (ret := ret) ho hl hstt hini hcode hy hK hg (hsize.trans hml.symm) (argsL := As) (rest := rest) (fun sig h => hn.trans (hlen sig h)) hstack hW (by rw [hb]; exact hdg)
    (fun vm₁ hW₁ => ⟨hf.1, hf.2, hp.2 (T.setVm vm₁) hT hW₁⟩) with ⟨v, vm₁, ⟨U', l2, c2, s2⟩, hW₁, X', ⟨g', mk, t, L, e1, e2, hq, h1, hL, h2, h3⟩, st⟩ | ⟨q, vm₁, ⟨U', l2, c2, s2⟩, hW₁, X', ⟨g', mk, t, L, E, ce, e1, e2, hq, hce, hcv, hcl, h1, hL, h2, h3⟩, st⟩
  · dsimp only [Pt.U, Pt.locs, Pt.cells, Pt.slots] at X' e1 e2 h1 h2 h3 st
    subst h1; subst h2; subst h3
    exact Or.inl ⟨v, (T.setVm vm₁).calling g' mk As.toArray, t, U', L, hT, X', hL, e1, e2, hq, st⟩
  · dsimp only [Pt.U, Pt.locs, Pt.cells, Pt.slots] at X' e1 e2 h1 h2 h3 st hcl
    subst h1; subst h2; subst h3
    exact Or.inr ⟨q, (T.setVm vm₁).calling g' mk As.toArray, t, U', L, E, ce, hT, X', hL, e1, e2, hq, hce, hcv, vx_cls hW₁ hcl, st⟩
end Runs
section Rows
variable {p : Program} {l : Launch} {e : Env} {R : Room} {s : State} {m : MethodId} {args : Array Value} {below : List Frame} {meth : Method} {c : Code} {H : Heap} {locs : List Loc} {cells slots : Nat} {Q : State → Prop}
variable {mc ms : Nat} {free : Addr → Prop} {A0 A1 : Nat → Prop} {H0 : Heap} {a : Array Value} {pc : Nat} {ls : Array Slot} {st0 rest : List Value}
theorem vx_keep {st₀ t T' : State} {L : List Loc} (h0 : st₀.heap = H) (e1 : T'.heap = t.heap) (hS : va_S A0 H0 H locs) (hA : ∀ q, q < H.size → A1 q → A0 q) (hf : ∀ q, free q → A0 q) (hL : ∀ q ∈ L, free q.base) (hF : va_F A1 st₀ t) :
    H.size ≤ T'.heap.size ∧ (∀ q : Nat, q < H.size → ¬ A1 q → T'.heap[q]? = H[q]?) ∧ va_S A0 H0 T'.heap (locs ++ L) := by
  obtain ⟨hz, hk⟩ := hF
  rw [h0] at hz hk
  exact ⟨by rw [e1]; exact hz, fun q h1 h2 => by rw [e1]; exact hk q h1 h2,
    ⟨Nat.le_trans hS.1 (by rw [e1]; exact hz), fun q h1 h2 => by rw [e1, hk q (Nat.lt_of_lt_of_le h1 hS.1) (fun z => h2 (hA q (Nat.lt_of_lt_of_le h1 hS.1) z))]; exact hS.2.1 q h1 h2, fun q hq => by
      rcases List.mem_append.mp hq with h | h
      · exact hS.2.2 q h
      · exact hf _ (hL q h)⟩⟩
theorem vx_calli {S SX : Type} {post : Int32 → S → Prop} {px : SX → Prop} {B : S → State → Prop} {BX : String → SX → State → Prop} {AX : Nat → Prop} (hr : vx_Run p l e R s m args below meth c H locs cells slots mc ms (F0 m pc ls st0) rest (va_Qi post B A1 a) (vx_X px BX AX) free) (hS : va_S A0 H0 H locs) (hA : ∀ q, q < H.size → A1 q → A0 q) (hf : ∀ q, free q → A0 q) (hAX : ∀ q, q < H.size → AX q → A0 q)
    (kx : ∀ (E : String) (ce : Cell) (q9 : Addr) (u : SX) (t : State) (H1 : Heap) (locs1 : List Loc), t.heap = H1 → s.vm.Alike t.vm → px u → BX E u t → H.size ≤ H1.size → (∀ q : Nat, q < H.size → ¬ AX q → H1[q]? = H[q]?) → va_S A0 H0 H1 locs1 → H1[q9]? = some ce → ce.vm = .none → s.vm.findClass E = some ce.cls → vx_W p l e R s m args below meth c H1 locs1 (cells + mc) (slots + ms) Q (F0 m pc ls rest) q9)
    (kk : ∀ (r : Int32) (u : S) (t : State) (H1 : Heap) (locs1 : List Loc), t.heap = H1 → s.vm.Alike t.vm → post r u → B u t → H.size ≤ H1.size → (∀ q : Nat, q < H.size → ¬ A1 q → H1[q]? = H[q]?) → va_S A0 H0 H1 locs1 → W p l e R s m args below meth c H1 locs1 (cells + mc) (slots + ms) Q (F0 m (pc + 3) ls (.int r :: rest))) : W p l e R s m args below meth c H locs cells slots Q (F0 m pc ls st0) := by
  intro T hT X
  rcases hr T hT X with ⟨v, st₀, t, T', L, h0, X', hL, e1, e2, ⟨⟨r, u, hv, hp, hb⟩, hF⟩, st⟩ | ⟨q, st₀, t, T', L, E, ce, h0, X', hL, e1, e2, ⟨u, hp, hb, hF⟩, hce, hcv, hcl, st⟩
  · cases hv
    obtain ⟨k1, k2, k3⟩ := vx_keep h0 e1 hS hA hf hL hF
    obtain ⟨t2, a1, b1⟩ := kk r u t T'.heap (locs ++ L) e1.symm (by rw [← e2]; exact X'.warmed.alike) hp hb k1 k2 k3 T' rfl X'
    exact ⟨t2, st t2 a1, b1⟩
  · obtain ⟨k1, k2, k3⟩ := vx_keep h0 e1 hS hAX hf hL hF
    obtain ⟨t2, a1, b1⟩ := kx E ce q u t T'.heap (locs ++ L) e1.symm (by rw [← e2]; exact X'.warmed.alike) hp hb k1 k2 k3 (by rw [e1]; exact hce) hcv hcl T' rfl X'
    exact ⟨t2, st.trans a1, b1⟩
theorem vx_calll {S SX : Type} {post : Int64 → S → Prop} {px : SX → Prop} {B : S → State → Prop} {BX : String → SX → State → Prop} {AX : Nat → Prop} (hr : vx_Run p l e R s m args below meth c H locs cells slots mc ms (F0 m pc ls st0) rest (va_Ql post B A1 a) (vx_X px BX AX) free) (hS : va_S A0 H0 H locs) (hA : ∀ q, q < H.size → A1 q → A0 q) (hf : ∀ q, free q → A0 q) (hAX : ∀ q, q < H.size → AX q → A0 q)
    (kx : ∀ (E : String) (ce : Cell) (q9 : Addr) (u : SX) (t : State) (H1 : Heap) (locs1 : List Loc), t.heap = H1 → s.vm.Alike t.vm → px u → BX E u t → H.size ≤ H1.size → (∀ q : Nat, q < H.size → ¬ AX q → H1[q]? = H[q]?) → va_S A0 H0 H1 locs1 → H1[q9]? = some ce → ce.vm = .none → s.vm.findClass E = some ce.cls → vx_W p l e R s m args below meth c H1 locs1 (cells + mc) (slots + ms) Q (F0 m pc ls rest) q9)
    (kk : ∀ (r : Int64) (u : S) (t : State) (H1 : Heap) (locs1 : List Loc), t.heap = H1 → s.vm.Alike t.vm → post r u → B u t → H.size ≤ H1.size → (∀ q : Nat, q < H.size → ¬ A1 q → H1[q]? = H[q]?) → va_S A0 H0 H1 locs1 → W p l e R s m args below meth c H1 locs1 (cells + mc) (slots + ms) Q (F0 m (pc + 3) ls (.long r :: rest))) : W p l e R s m args below meth c H locs cells slots Q (F0 m pc ls st0) := by
  intro T hT X
  rcases hr T hT X with ⟨v, st₀, t, T', L, h0, X', hL, e1, e2, ⟨⟨r, u, hv, hp, hb⟩, hF⟩, st⟩ | ⟨q, st₀, t, T', L, E, ce, h0, X', hL, e1, e2, ⟨u, hp, hb, hF⟩, hce, hcv, hcl, st⟩
  · cases hv
    obtain ⟨k1, k2, k3⟩ := vx_keep h0 e1 hS hA hf hL hF
    obtain ⟨t2, a1, b1⟩ := kk r u t T'.heap (locs ++ L) e1.symm (by rw [← e2]; exact X'.warmed.alike) hp hb k1 k2 k3 T' rfl X'
    exact ⟨t2, st t2 a1, b1⟩
  · obtain ⟨k1, k2, k3⟩ := vx_keep h0 e1 hS hAX hf hL hF
    obtain ⟨t2, a1, b1⟩ := kx E ce q u t T'.heap (locs ++ L) e1.symm (by rw [← e2]; exact X'.warmed.alike) hp hb k1 k2 k3 (by rw [e1]; exact hce) hcv hcl T' rfl X'
    exact ⟨t2, st.trans a1, b1⟩
theorem vx_callf {S SX : Type} {post : UInt32 → S → Prop} {px : SX → Prop} {B : S → State → Prop} {BX : String → SX → State → Prop} {AX : Nat → Prop} (hr : vx_Run p l e R s m args below meth c H locs cells slots mc ms (F0 m pc ls st0) rest (va_Qf post B A1 a) (vx_X px BX AX) free) (hS : va_S A0 H0 H locs) (hA : ∀ q, q < H.size → A1 q → A0 q) (hf : ∀ q, free q → A0 q) (hAX : ∀ q, q < H.size → AX q → A0 q)
    (kx : ∀ (E : String) (ce : Cell) (q9 : Addr) (u : SX) (t : State) (H1 : Heap) (locs1 : List Loc), t.heap = H1 → s.vm.Alike t.vm → px u → BX E u t → H.size ≤ H1.size → (∀ q : Nat, q < H.size → ¬ AX q → H1[q]? = H[q]?) → va_S A0 H0 H1 locs1 → H1[q9]? = some ce → ce.vm = .none → s.vm.findClass E = some ce.cls → vx_W p l e R s m args below meth c H1 locs1 (cells + mc) (slots + ms) Q (F0 m pc ls rest) q9)
    (kk : ∀ (r : UInt32) (u : S) (t : State) (H1 : Heap) (locs1 : List Loc), t.heap = H1 → s.vm.Alike t.vm → post r u → B u t → H.size ≤ H1.size → (∀ q : Nat, q < H.size → ¬ A1 q → H1[q]? = H[q]?) → va_S A0 H0 H1 locs1 → W p l e R s m args below meth c H1 locs1 (cells + mc) (slots + ms) Q (F0 m (pc + 3) ls (.float r :: rest))) : W p l e R s m args below meth c H locs cells slots Q (F0 m pc ls st0) := by
  intro T hT X
  rcases hr T hT X with ⟨v, st₀, t, T', L, h0, X', hL, e1, e2, ⟨⟨r, u, hv, hp, hb⟩, hF⟩, st⟩ | ⟨q, st₀, t, T', L, E, ce, h0, X', hL, e1, e2, ⟨u, hp, hb, hF⟩, hce, hcv, hcl, st⟩
  · cases hv
    obtain ⟨k1, k2, k3⟩ := vx_keep h0 e1 hS hA hf hL hF
    obtain ⟨t2, a1, b1⟩ := kk r u t T'.heap (locs ++ L) e1.symm (by rw [← e2]; exact X'.warmed.alike) hp hb k1 k2 k3 T' rfl X'
    exact ⟨t2, st t2 a1, b1⟩
  · obtain ⟨k1, k2, k3⟩ := vx_keep h0 e1 hS hAX hf hL hF
    obtain ⟨t2, a1, b1⟩ := kx E ce q u t T'.heap (locs ++ L) e1.symm (by rw [← e2]; exact X'.warmed.alike) hp hb k1 k2 k3 (by rw [e1]; exact hce) hcv hcl T' rfl X'
    exact ⟨t2, st.trans a1, b1⟩
theorem vx_calld {S SX : Type} {post : UInt64 → S → Prop} {px : SX → Prop} {B : S → State → Prop} {BX : String → SX → State → Prop} {AX : Nat → Prop} (hr : vx_Run p l e R s m args below meth c H locs cells slots mc ms (F0 m pc ls st0) rest (va_Qd post B A1 a) (vx_X px BX AX) free) (hS : va_S A0 H0 H locs) (hA : ∀ q, q < H.size → A1 q → A0 q) (hf : ∀ q, free q → A0 q) (hAX : ∀ q, q < H.size → AX q → A0 q)
    (kx : ∀ (E : String) (ce : Cell) (q9 : Addr) (u : SX) (t : State) (H1 : Heap) (locs1 : List Loc), t.heap = H1 → s.vm.Alike t.vm → px u → BX E u t → H.size ≤ H1.size → (∀ q : Nat, q < H.size → ¬ AX q → H1[q]? = H[q]?) → va_S A0 H0 H1 locs1 → H1[q9]? = some ce → ce.vm = .none → s.vm.findClass E = some ce.cls → vx_W p l e R s m args below meth c H1 locs1 (cells + mc) (slots + ms) Q (F0 m pc ls rest) q9)
    (kk : ∀ (r : UInt64) (u : S) (t : State) (H1 : Heap) (locs1 : List Loc), t.heap = H1 → s.vm.Alike t.vm → post r u → B u t → H.size ≤ H1.size → (∀ q : Nat, q < H.size → ¬ A1 q → H1[q]? = H[q]?) → va_S A0 H0 H1 locs1 → W p l e R s m args below meth c H1 locs1 (cells + mc) (slots + ms) Q (F0 m (pc + 3) ls (.double r :: rest))) : W p l e R s m args below meth c H locs cells slots Q (F0 m pc ls st0) := by
  intro T hT X
  rcases hr T hT X with ⟨v, st₀, t, T', L, h0, X', hL, e1, e2, ⟨⟨r, u, hv, hp, hb⟩, hF⟩, st⟩ | ⟨q, st₀, t, T', L, E, ce, h0, X', hL, e1, e2, ⟨u, hp, hb, hF⟩, hce, hcv, hcl, st⟩
  · cases hv
    obtain ⟨k1, k2, k3⟩ := vx_keep h0 e1 hS hA hf hL hF
    obtain ⟨t2, a1, b1⟩ := kk r u t T'.heap (locs ++ L) e1.symm (by rw [← e2]; exact X'.warmed.alike) hp hb k1 k2 k3 T' rfl X'
    exact ⟨t2, st t2 a1, b1⟩
  · obtain ⟨k1, k2, k3⟩ := vx_keep h0 e1 hS hAX hf hL hF
    obtain ⟨t2, a1, b1⟩ := kx E ce q u t T'.heap (locs ++ L) e1.symm (by rw [← e2]; exact X'.warmed.alike) hp hb k1 k2 k3 (by rw [e1]; exact hce) hcv hcl T' rfl X'
    exact ⟨t2, st.trans a1, b1⟩
theorem vx_callv {S SX : Type} {post : S → Prop} {px : SX → Prop} {B : S → State → Prop} {BX : String → SX → State → Prop} {AX : Nat → Prop} (hr : vx_Run p l e R s m args below meth c H locs cells slots mc ms (F0 m pc ls st0) rest (va_Qv post B A1 a) (vx_X px BX AX) free) (hS : va_S A0 H0 H locs) (hA : ∀ q, q < H.size → A1 q → A0 q) (hf : ∀ q, free q → A0 q) (hAX : ∀ q, q < H.size → AX q → A0 q)
    (kx : ∀ (E : String) (ce : Cell) (q9 : Addr) (u : SX) (t : State) (H1 : Heap) (locs1 : List Loc), t.heap = H1 → s.vm.Alike t.vm → px u → BX E u t → H.size ≤ H1.size → (∀ q : Nat, q < H.size → ¬ AX q → H1[q]? = H[q]?) → va_S A0 H0 H1 locs1 → H1[q9]? = some ce → ce.vm = .none → s.vm.findClass E = some ce.cls → vx_W p l e R s m args below meth c H1 locs1 (cells + mc) (slots + ms) Q (F0 m pc ls rest) q9)
    (kk : ∀ (u : S) (t : State) (H1 : Heap) (locs1 : List Loc), t.heap = H1 → s.vm.Alike t.vm → post u → B u t → H.size ≤ H1.size → (∀ q : Nat, q < H.size → ¬ A1 q → H1[q]? = H[q]?) → va_S A0 H0 H1 locs1 → W p l e R s m args below meth c H1 locs1 (cells + mc) (slots + ms) Q (F0 m (pc + 3) ls (rest))) : W p l e R s m args below meth c H locs cells slots Q (F0 m pc ls st0) := by
  intro T hT X
  rcases hr T hT X with ⟨v, st₀, t, T', L, h0, X', hL, e1, e2, ⟨⟨u, hv, hp, hb⟩, hF⟩, st⟩ | ⟨q, st₀, t, T', L, E, ce, h0, X', hL, e1, e2, ⟨u, hp, hb, hF⟩, hce, hcv, hcl, st⟩
  · cases hv
    obtain ⟨k1, k2, k3⟩ := vx_keep h0 e1 hS hA hf hL hF
    obtain ⟨t2, a1, b1⟩ := kk u t T'.heap (locs ++ L) e1.symm (by rw [← e2]; exact X'.warmed.alike) hp hb k1 k2 k3 T' rfl X'
    exact ⟨t2, st t2 a1, b1⟩
  · obtain ⟨k1, k2, k3⟩ := vx_keep h0 e1 hS hAX hf hL hF
    obtain ⟨t2, a1, b1⟩ := kx E ce q u t T'.heap (locs ++ L) e1.symm (by rw [← e2]; exact X'.warmed.alike) hp hb k1 k2 k3 (by rw [e1]; exact hce) hcv hcl T' rfl X'
    exact ⟨t2, st.trans a1, b1⟩
/-- caught by the row x of this method's table; the rows ahead don't take it -/
theorem vx_catch {own name : String} {E : String} {ce : Cell} {q : Addr} (hown : s.vm.findClass own = some m.cls) (pre : List ExceptionTableEntry) (x : ExceptionTableEntry) (suf : List ExceptionTableEntry) (hsplit : c.exceptionTable.toList = pre ++ x :: suf)
    (hpass : ∀ z ∈ pre, covers z pc = false ∨ (z.catchType ≠ 0 ∧ ∃ nm : String, (Cond.classLink own z.catchType nm).before args s = true ∧ va_Nc E nm s)) (hx : covers x pc = true) (h0 : x.catchType ≠ 0)
    (hlink : (Cond.classLink own x.catchType name).before args s = true) (hcast : (Cond.castable E name).before args s = true) (hcell : H[q]? = some ce) (hv : ce.vm = .none) (hcl : s.vm.findClass E = some ce.cls)
    (kk : W p l e R s m args below meth c H locs cells slots Q (F0 m x.handlerPc ls [.ref q])) : vx_W p l e R s m args below meth c H locs cells slots Q (F0 m pc ls rest) q := by
  intro T hT X
  have hpl : e.platform.magicAccessors = ({} : Platform).magicAccessors := by rw [X.admits.platform]
  obtain ⟨c3, c4, hc3, hc4, hasg⟩ := Cond.castable_spec hcast
  cases Option.some.inj (hc3.symm.trans hcl)
  obtain ⟨c5, hc5, hcl5⟩ := Cond.classLink_spec hown hlink e.platform hpl
  cases Option.some.inj (hc4.symm.trans hc5)
  obtain ⟨vm', X', st⟩ := X.thenCaughtThrough q (g := F0 m pc ls rest) rfl (Steps.refl _) (by rw [hT]; exact hcell) (by rw [hv]; rfl) (by obtain ⟨k9, h9, -⟩ := Vm.findClass_spec hcl; exact ⟨k9, h9⟩) pre x suf hsplit
    (fun z hz => by
      rcases hpass z hz with h | ⟨hz0, nm, hl1, hn1⟩
      · exact Or.inl h
      · obtain ⟨c6, hc6, hcl6⟩ := Cond.classLink_spec hown hl1 e.platform hpl
        obtain ⟨a8, b8, h1, h2, h3⟩ := hn1
        cases Option.some.inj (h1.symm.trans hcl)
        cases Option.some.inj (h2.symm.trans hc6)
        exact Or.inr ⟨hz0, _, hcl6, h3⟩) hx (Or.inr ⟨h0, c4, hcl5, hasg⟩)
  obtain ⟨t, a1, b1⟩ := kk (T.setVm vm') hT X'
  exact ⟨t, st.trans a1, b1⟩
end Rows
section Ends
variable {p : Program} {l : Launch} {e : Env} {R : Room} {s : State} {m : MethodId} {args : Array Value} {below : List Frame} {meth : Method} {c : Code} {H : Heap} {locs : List Loc} {cells slots : Nat} {Q : State → Prop}
variable {mc ms : Nat} {free : Addr → Prop} {A0 A1 : Nat → Prop} {H0 : Heap} {a : Array Value} {ls : Array Slot} {st0 rest : List Value}
variable {Qc : Array Value → State → Outcome → State → Prop} {XC : String → State → State → Prop}
/-- what a body that may throw owes at its end -/
def vx_MQ (below : List Frame) (Qc : Array Value → State → Outcome → State → Prop) (XC : String → State → State → Prop) (a : Array Value) (s : State) (mc ms : Nat) (free : Addr → Prop) : State → Prop := fun t =>
  ∃ o, t.status = .running ∧ Ended t below o ∧ vx_Q Qc XC mc ms free a s o t
theorem vx_ret {g : JFrame} {mc ms : Nat} (k : W p l e R s m args below meth c H locs cells slots (MQ below Qc args s mc ms free) g) : W p l e R s m args below meth c H locs cells slots (vx_MQ below Qc XC args s mc ms free) g := by
  intro T hT X
  obtain ⟨t, a1, o, b1, b2, b3, b4⟩ := k T hT X
  exact ⟨t, a1, o, b1, b2, Or.inl ⟨b3, b4⟩⟩
/-- not caught here: it goes on to the caller -/
theorem vx_widen {g : JFrame} {q : Addr} {k n : Nat} (h1 : cells ≤ k) (h2 : slots ≤ n) (kk : vx_W p l e R s m args below meth c H locs k n Q g q) : vx_W p l e R s m args below meth c H locs cells slots Q g q := fun T hT X => kk T hT (stand_widen X h1 h2)
theorem vx_out {pc : Nat} {E : String} {ce : Cell} {q : Addr} {mc ms : Nat} (hout : ∀ x ∈ c.exceptionTable.toList, covers x pc = false) (hlocks : meth.locks = false) (hcell : H[q]? = some ce) (hv : ce.vm = .none) (hcl : s.vm.findClass E = some ce.cls)
    (hx : ∀ t : State, t.heap = H → s.vm.Alike t.vm → XC E s t) (hf : ∀ z ∈ locs, free z.base) (hc : cells ≤ mc) (hs : slots ≤ ms) :
    vx_W p l e R s m args below meth c H locs cells slots (vx_MQ below Qc XC args s mc ms free) (F0 m pc ls rest) q := by
  intro T hT X
  obtain ⟨st1, hrun, hend, hW, hsm⟩ := X.leaveThrown q (g := F0 m pc ls rest) rfl rfl rfl hout hlocks
  have hcell9 : (T.setFrames (.throwing q :: below)).heap[q]? = some ce := by
    show T.heap[q]? = some ce
    rw [hT]; exact hcell
  exact ⟨_, st1, .threw q, hrun, hend, Or.inr ⟨q, rfl, E, ce, locs, hx _ hT hW.alike, hcell9, hv, hcl, hW, hsm.mono hc hs, hf⟩⟩
theorem vx_frame {U : State} {k n : Nat} (h : s.sameButNew ({ U with vm := s.vm } : State) locs k n) : s.heap.size ≤ U.heap.size ∧ ∀ q : Nat, q < s.heap.size → (∀ z ∈ locs, z.base ≠ q) → U.heap[q]? = s.heap[q]? := by
  obtain ⟨-, h2, -, -, -, h6⟩ := h
  refine ⟨h2, fun q hq hz => ?_⟩
  obtain ⟨c9, e1, e2, e3, e4⟩ := h6 q _ (Array.getElem?_eq_getElem hq)
  have hs : c9.slots = (s.heap[q]).slots := Array.ext_getElem? fun i => e4 i fun hm => hz _ hm rfl
  have h9 : c9 = s.heap[q] := by
    rw [hs] at e2
    exact e2
  have e5 : U.heap[q]? = some c9 := e1
  rw [e5, h9, Array.getElem?_eq_getElem hq]
/-- the words of a throw but the four that speak of the heap -/
def vx_no (w : Cond) : Bool := decide (w ≠ .isRef (.static Bundle.tN "UNASSIGNED_STACK" Bundle.steD)) && decide (w ≠ .isRef (.static Bundle.tN "SUPPRESSED_SENTINEL" Bundle.listD)) && decide (w ≠ .laysStatic Bundle.tN "UNASSIGNED_STACK" Bundle.steD) && decide (w ≠ .laysStatic Bundle.tN "SUPPRESSED_SENTINEL" Bundle.listD)
def vx_at0 (own : String) (ic : Nat) (X : String) (names : List String) : List Cond := (Bundle.ownAtoms0 own ic X names).filter vx_no
def vx_atS (own : String) (ic : Nat) (X : String) (names : List String) : List Cond := (Bundle.ownAtoms own ic X names).filter vx_no
/-- a word that the tables alone decide, or a good one -/
def vx_ot (w : Cond) : Bool := w.onTables || goodWord w
theorem vx_ot_at {args a' : Array Value} {s U : State} {w : Cond} (hW : s.WarmedH U.vm) (hvm : s.vm = U.vm) (hg : vx_ot w = true) (h : w.before args s = true) : w.before a' U = true := by
  simp only [vx_ot, Bool.or_eq_true] at hg
  rcases hg with hg | hg
  · exact va_tabs hg hvm h
  · exact word_at hW (good_of_word hg) h
/-- a list's words: the good ones out of the method's own list, the others by premises of their own -/
theorem vx_hat {args : Array Value} {s : State} {L B : List Cond} (h1 : ∀ w ∈ L.filter goodWord, w.before args s = true) (h2 : ∀ w ∈ L.filter (fun w => !goodWord w), w ∈ B) (h3 : ∀ w ∈ B, w.before args s = true) : ∀ w ∈ L, w.before args s = true := by
  intro w hw
  by_cases g : goodWord w = true
  · exact h1 w (List.mem_filter.mpr ⟨hw, g⟩)
  · refine h3 w (h2 w (List.mem_filter.mpr ⟨hw, ?_⟩))
    show (!goodWord w) = true
    cases hgw : goodWord w
    · rfl
    · exact absurd hgw g
theorem vx_c {args : Array Value} {s : State} {w : Cond} {B : List Cond} (h : w.before args s = true) (t : ∀ w ∈ B, w.before args s = true) : ∀ w' ∈ w :: B, w'.before args s = true := fun w' h' => (List.mem_cons.mp h').elim (fun e => by rw [e]; exact h) (t w')
theorem vx_n {args : Array Value} {s : State} : ∀ w ∈ ([] : List Cond), w.before args s = true := fun _ h => nomatch h
theorem vx_own {args : Array Value} {s : State} {L : List Cond} (h1 : ∀ w ∈ L.filter vx_no, w.before args s = true)
    (hU : (Cond.isRef (.static Bundle.tN "UNASSIGNED_STACK" Bundle.steD)).before args s = true) (hN : (Cond.isRef (.static Bundle.tN "SUPPRESSED_SENTINEL" Bundle.listD)).before args s = true)
    (lU : (Cond.laysStatic Bundle.tN "UNASSIGNED_STACK" Bundle.steD).before args s = true) (lN : (Cond.laysStatic Bundle.tN "SUPPRESSED_SENTINEL" Bundle.listD).before args s = true) : ∀ w ∈ L, w.before args s = true := by
  intro w hw
  by_cases e1 : w = .isRef (.static Bundle.tN "UNASSIGNED_STACK" Bundle.steD)
  · rw [e1]; exact hU
  · by_cases e2 : w = .isRef (.static Bundle.tN "SUPPRESSED_SENTINEL" Bundle.listD)
    · rw [e2]; exact hN
    · by_cases e3 : w = .laysStatic Bundle.tN "UNASSIGNED_STACK" Bundle.steD
      · rw [e3]; exact lU
      · by_cases e4 : w = .laysStatic Bundle.tN "SUPPRESSED_SENTINEL" Bundle.listD
        · rw [e4]; exact lN
        · exact h1 w (List.mem_filter.mpr ⟨hw, by unfold vx_no; rw [decide_eq_true e1, decide_eq_true e2, decide_eq_true e3, decide_eq_true e4]; rfl⟩)
/-- where a static field lies, its class's statics cell in H -/
def vx_L (C n d : String) (A : Nat → Prop) (U : State) (H : Heap) : Prop := ∃ (c : ClassId) (k : Class) (i : Nat) (f : Field) (a : Nat) (cell : Cell), U.vm.findClass C = some c ∧ U.fieldFound? C n d = some (c, k, i, f) ∧ f.isStatic = true ∧ k.statics = some a ∧ H[a]? = some cell ∧ cell.vm.isStatics = true ∧ cell.cls = c ∧ f.slot < cell.slots.size ∧ k.staticTypes[f.slot]? = some f.type ∧ ¬ A a
theorem vx_L.moved {C n d : String} {A : Nat → Prop} {u U : State} {H : Heap} (hvm : u.vm.Alike U.vm) (h : vx_L C n d A u H) : vx_L C n d A U H := by
  obtain ⟨c, k, i, f, a, cell, h1, h2, h3, h4, h5, h6, h7, h8, h9, h10⟩ := h
  obtain ⟨k', hi', he⟩ := State.fieldFound?_setVm hvm h2
  exact ⟨c, k', i, f, a, cell, by rw [hvm.findClass]; exact h1, hi', h3, by rw [he]; exact h4, h5, h6, h7, h8, by rw [he]; exact h9, h10⟩
theorem vx_L.kept {C n d : String} {A : Nat → Prop} {U : State} {H H1 : Heap} (h : vx_L C n d A U H) (hq : ∀ a : Nat, a < H.size → ¬ A a → H1[a]? = H[a]?) : vx_L C n d A U H1 := by
  obtain ⟨c, k, i, f, a, cell, h1, h2, h3, h4, h5, h6, h7, h8, h9, h10⟩ := h
  exact ⟨c, k, i, f, a, cell, h1, h2, h3, h4, by rw [hq a (Array.getElem?_eq_some_iff.mp h5).1 h10]; exact h5, h6, h7, h8, h9, h10⟩
theorem vx_L.narrow {C n d : String} {A B : Nat → Prop} {U : State} {H : Heap} (h : vx_L C n d A U H) (hAB : ∀ q, B q → A q) : vx_L C n d B U H := by
  obtain ⟨c, k, i, f, a, cell, h1, h2, h3, h4, h5, h6, h7, h8, h9, h10⟩ := h
  exact ⟨c, k, i, f, a, cell, h1, h2, h3, h4, h5, h6, h7, h8, h9, fun z => h10 (hAB _ z)⟩
theorem vx_L.word {C n d : String} {A : Nat → Prop} {s : State} {args : Array Value} (h : vx_L C n d A s s.heap) : (Cond.laysStatic C n d).before args s = true := by
  obtain ⟨c, k, i, f, a, cell, h1, h2, h3, h4, h5, h6, h7, h8, h9, -⟩ := h
  show (Cond.laysStatic C n d).holds args s none s [] = true
  exact Cond.laysStatic_of h1 h2 h3 h4 h5 h6 h7 h8 h9
/-- .. and what it holds: null or some reference -/
def vx_Zq (C n d : String) (A : Nat → Prop) (U : State) (H : Heap) : Prop := va_Zq C n d A U H ∧ vx_L C n d A U H
theorem vx_Zq.moved {C n d : String} {A : Nat → Prop} {u U : State} {H : Heap} (hvm : u.vm.Alike U.vm) (h : vx_Zq C n d A u H) : vx_Zq C n d A U H := ⟨va_Zq.moved hvm h.1, vx_L.moved hvm h.2⟩
theorem vx_Zq.kept {C n d : String} {A : Nat → Prop} {U : State} {H H1 : Heap} (h : vx_Zq C n d A U H) (hq : ∀ a : Nat, a < H.size → ¬ A a → H1[a]? = H[a]?) : vx_Zq C n d A U H1 := ⟨va_Zq.kept h.1 hq, vx_L.kept h.2 hq⟩
theorem vx_Zq.narrow {C n d : String} {A B : Nat → Prop} {U : State} {H : Heap} (h : vx_Zq C n d A U H) (hAB : ∀ q, B q → A q) : vx_Zq C n d B U H := ⟨va_Zq.narrow h.1 hAB, vx_L.narrow h.2 hAB⟩
theorem vx_Zqof {args : Array Value} {s : State} {C n d : String} {A : Nat → Prop} (hl : (Cond.laysStatic C n d).before args s = true) (hini : (Cond.initialized C).before args s = true) (h : (Cond.isRef (.static C n d)).before args s = true) (hA : ∀ a : Nat, a < s.heap.size → ¬ A a) : vx_Zq C n d A s s.heap := by
  refine ⟨va_Zqof hl hini h hA, ?_⟩
  obtain ⟨c, k, i, f, a, cell, h1, h2, h3, h4, h5, h6, h7, h8, h9⟩ := Cond.laysStatic_spec hl
  exact ⟨c, k, i, f, a, cell, h1, h2, h3, h4, h5, h6, h7, h8, h9, hA a (Array.getElem?_eq_some_iff.mp h5).1⟩
theorem vx_isRef {C n d : String} {v : Value} {A : Nat → Prop} {s : State} {args : Array Value} (h : va_Z C n d v A s s.heap) (hv : v.isRef = true) : (Cond.isRef (.static C n d)).before args s = true := by
  obtain ⟨cf, kf, fi, f, a, cell, h1, h2, h3, h4, h5, h6, h7, -⟩ := h
  have he : (Term.static C n d).eval args s none [] s = some v := by
    simp [Term.eval, State.fieldNamed?, h1, h2, h4, h5, h6, h7]
  simp only [Cond.before, Cond.holds, Cond.value, he]
  cases v <;> simp_all [Value.isRef]
theorem vx_isRefq {C n d : String} {A : Nat → Prop} {s : State} {args : Array Value} (h : va_Zq C n d A s s.heap) : (Cond.isRef (.static C n d)).before args s = true := by
  rcases h with h | ⟨t, h⟩
  · exact vx_isRef h rfl
  · exact vx_isRef h rfl
/-- the same frame, seen from here: as if the method were called anew in this heap -/
theorem vx_rebase {T : State} (X : Stand p l e R s m args below meth c T locs cells slots) {R' : Room} (hf : R'.frames ≤ R.frames) (hl : R'.locals ≤ R.locals) (hc : cells + R'.cells ≤ R.cells) (hs : slots + R'.slots ≤ R.slots) :
    Stand p l e R' ((T.setVm s.vm).setFrames (.invoking m args :: below)) m args below meth c T [] 0 0 := by
  have htop : (T.setVm s.vm).topJava?.isSome := X.here.top
  have hF : ((T.setVm s.vm).setFrames (.invoking m args :: below)).frames = .invoking m args :: below := State.frames_setFrames _ (State.cur_lt_of_top htop)
  obtain ⟨g₀, hg0⟩ := Option.isSome_iff_exists.mp htop
  obtain ⟨r, hr⟩ := State.topJava?_eq_some.mp hg0
  have hl9 : e.platform.stackLimits (T.setVm s.vm).me = e.platform.stackLimits s.me := X.limits
  have hb9 : (T.setVm s.vm).me.stackBytes = s.me.stackBytes := X.bytes
  refine ⟨X.admits, X.cas, X.clock, hF, ?_, X.hears, X.method, X.code, X.here, X.tail, X.warmed, ?_, ?_, ?_⟩
  · have h := X.room
    have hU : ((T.setVm s.vm).setFrames (.invoking m args :: below)).localsInUse = s.localsInUse := by
      rw [State.localsInUse_invoking hF (meth := meth) (c := c) X.method X.code, State.localsInUse_invoking X.frames X.method X.code]
    simp only [State.hasRoom, Bool.and_eq_true, decide_eq_true_eq] at h ⊢
    obtain ⟨⟨⟨⟨h1, h2, h3, h4, h5, h6⟩, h7⟩, h8⟩, h9⟩ := h
    rw [X.frames, List.length_cons] at h2 h3
    have q1 := X.heapSize
    have q2 := X.used
    simp only [hF, hU, List.length_cons, State.stackLimits_setFrames, State.stackBytes_setFrames, hl9, hb9]
    refine ⟨⟨⟨⟨by omega, by omega, by omega, by omega, by omega, h6⟩, ?_⟩, ?_⟩, X.book⟩
    · show T.heap.size + R'.cells ≤ e.platform.maxCells
      omega
    · show T.slotsUsed + R'.slots ≤ e.platform.maxSlots
      omega
  · rw [State.stackLimits_setFrames]; rfl
  · rw [State.stackBytes_setFrames]; rfl
  · refine ⟨?_, Nat.le_refl _, Nat.le_refl _, ?_, ?_, fun a c9 h9 => ⟨c9, h9, rfl, rfl, fun _ _ => rfl⟩⟩
    · obtain ⟨t, ht, -⟩ := State.frames_cons hr
      show T.setVm s.vm = { ((T.setVm s.vm).setFrames (.invoking m args :: below)).setFrames (T.setVm s.vm).frames with heap := T.heap, slotsUsed := T.slotsUsed }
      rw [State.setFrames_setFrames, State.setFrames_self ht]
      rfl
    · show T.slotsUsed = T.slotsUsed + ((T.heap.toList.drop T.heap.size).map (·.slots.size)).sum
      rw [List.drop_eq_nil_of_le (Nat.le_of_eq Array.length_toList)]
      rfl
    · show ((T.heap.toList.drop T.heap.size).map (·.slots.size)).sum ≤ 0
      rw [List.drop_eq_nil_of_le (Nat.le_of_eq Array.length_toList)]
      exact Nat.le_refl _
/-- 'throw new E()': new; dup; invokespecial; athrow -/
theorem vx_throw0 {cc : ByteArray} {pc : Nat} (hexec : p.tables.exec = Jvm.exec) (hb : c.code = cc) (hl : l.stackTraces = false) {own cls : String} {names : List String} {ik ic mc ms : Nat} {A : Nat → Prop}
    (hown : s.vm.findClass own = some m.cls) (hcls : Bundle.fit cls = true) (hnames : ∀ n ∈ names, Bundle.fit n = true)
    (hk : (Cond.classLink own ik cls).before args s = true) (hini : (Cond.initialized cls).before args s = true) (hat : ∀ w ∈ vx_at0 own ic cls names, w.before args s = true)
    (hgood : ∀ w ∈ Cond.classLink own ik cls :: Cond.initialized cls :: vx_at0 own ic cls names, vx_ot w = true)
    (hU : vx_Zq Bundle.tN "UNASSIGNED_STACK" Bundle.steD A s s.heap) (hN : vx_Zq Bundle.tN "SUPPRESSED_SENTINEL" Bundle.listD A s s.heap) (hS : va_S A s.heap H locs) (hsize : ls.size = c.maxLocals)
    (d0 : decode cc pc = .ok (.new ik, 3)) (d3 : decode cc (pc + 3) = .ok (.dup, 1)) (d4 : decode cc (pc + 4) = .ok (.invokespecial ic, 3)) (d7 : decode cc (pc + 7) = .ok (.athrow, 1))
    (hout : ∀ x ∈ c.exceptionTable.toList, covers x (pc + 7) = false)
    (hRframes : names.length + 3 < R.frames) (hRlocals : (rest.map fun v => v.category).sum + (13 * (names.length + 1) + 42) ≤ R.locals) (hRcells : cells + 1 ≤ R.cells) (hRslots : slots + 6 ≤ R.slots) (hlocks : meth.locks = false)
    (hx : ∀ t : State, s.vm.Alike t.vm → H.size ≤ t.heap.size → (∀ q : Nat, q < H.size → t.heap[q]? = H[q]?) → XC cls s t)
    (hf : ∀ z ∈ locs, free z.base) (hc : cells + 1 ≤ mc) (hs : slots + 6 ≤ ms) :
    W p l e R s m args below meth c H locs cells slots (vx_MQ below Qc XC args s mc ms free) (F0 m pc ls rest) := by
  intro T hT X
  have htr : e.platform.stackTraces = false := (show e.platform.stackTraces = l.stackTraces by rw [X.admits.platform]).trans hl
  have Y := vx_rebase X (R' := { frames := R.frames, locals := R.locals, cells := 1, slots := 6 }) (Nat.le_refl _) (Nat.le_refl _) hRcells hRslots
  obtain ⟨s', hA⟩ : ∃ z, z = (T.setVm s.vm).setFrames (.invoking m args :: below) := ⟨_, rfl⟩
  rw [← hA] at Y
  have hvm : s'.vm = s.vm := by rw [hA]; rfl
  have hhp : s'.heap = H := by rw [hA]; exact hT
  have hW0 : s.WarmedH s'.vm := by rw [hvm]; exact State.WarmedH.refl s
  have hat' : ∀ w ∈ vx_at0 own ic cls names, w.before args s' = true := fun w hw => vx_ot_at hW0 hvm.symm (hgood w (List.mem_cons_of_mem _ (List.mem_cons_of_mem _ hw))) (hat w hw)
  have hk' : (Cond.classLink own ik cls).before args s' = true := vx_ot_at hW0 hvm.symm (hgood _ List.mem_cons_self) hk
  have hini' : (Cond.initialized cls).before args s' = true := vx_ot_at hW0 hvm.symm (hgood _ (List.mem_cons_of_mem _ List.mem_cons_self)) hini
  have hU' : vx_Zq Bundle.tN "UNASSIGNED_STACK" Bundle.steD A s' s'.heap := by rw [hhp]; exact vx_Zq.moved hW0.alike (hU.kept hS.2.1)
  have hN' : vx_Zq Bundle.tN "SUPPRESSED_SENTINEL" Bundle.listD A s' s'.heap := by rw [hhp]; exact vx_Zq.moved hW0.alike (hN.kept hS.2.1)
  have h : ∀ w ∈ Bundle.ownAtoms0 own ic cls names, w.before args s' = true := vx_own hat' (vx_isRefq hU'.1) (vx_isRefq hN'.1) hU'.2.word hN'.2.word
  have hown' : s'.vm.findClass own = some m.cls := by rw [hvm]; exact hown
  have hins : (Cond.instantiable cls 6).before args s' = true := h _ (by simp [Bundle.ownAtoms0])
  obtain ⟨vm₁, cX, kX, hfX, hkX, -, -, X₁, st1⟩ := Y.newCold hexec (own := own) (C := cls) (index := ik) (n := 6) hown' hk' hins hini'
    (g := F0 m pc ls rest) rfl (by rw [hb]; exact d0) (Nat.le_refl _) (Nat.le_refl _)
  generalize hT1 : (T.setVm vm₁).pushCell { cls := cX, slots := kX.instanceTypes.map defaultValue, vm := .none } = T1 at X₁ st1
  have hcat : (Value.ref T.heap.size).category = 1 := rfl
  have hcellA : T1.heap[T.heap.size]? = some (freshCell cX kX) := by rw [← hT1]; exact State.heap_pushCell_size _ _
  have d3' : decode c.code (pc + 3) = .ok (.dup, 1) := by rw [hb]; exact d3
  obtain ⟨U, hsteps, hrun, hend, hW, hsame, ce, hce, hO⟩ := X₁.ctorThrow0 hexec htr (own := own) (cls := cls) (names := names) (ic := ic) hown' hcls hnames h (fun x hx => nomatch hx) hfX hkX hcellA (by rw [hhp, hT]; exact Nat.le_refl _)
    (g := { method := m, pc := pc + 4, locals := ls, stack := .ref T.heap.size :: .ref T.heap.size :: rest, locked := none }) rfl hsize rfl rfl (rest := rest) rfl
    (by rw [hb]; exact d4) (by rw [hb]; exact d7) hout hRframes (by simp only [List.map_cons, List.sum_cons, hcat]; omega) hlocks
  obtain ⟨f1, f2⟩ := vx_frame hsame
  rw [hhp] at f1 f2
  have hWs : s.WarmedH U.vm := State.WarmedH.trans hW0 hW
  have hcl : s.vm.findClass cls = some ce.cls := by
    have h9 := hO.cls
    rw [hvm] at h9
    exact h9
  have hall : s.sameButNew ({ U with vm := s.vm } : State) locs mc ms := by
    subst hA
    obtain ⟨e1, e2⟩ := hsame
    rw [State.setFrames_setFrames] at e1
    have h2 : (T.setVm s.vm).sameButNew ({ U with vm := s.vm } : State) [] (0 + 1) (0 + 6) := ⟨e1, e2⟩
    have h3 := X.same.trans h2
    rw [List.append_nil] at h3
    exact h3.mono hc hs
  refine ⟨U, ?_, .threw T.heap.size, hrun, hend, Or.inr ⟨T.heap.size, rfl, cls, ce, locs, hx U hWs.alike f1 (fun q hq => f2 q hq (fun z hz => nomatch hz)), hce, hO.vm, hcl, hWs, hall, hf⟩⟩
  refine st1 _ ?_
  show Steps p.tables e below (T1.setTop { method := m, pc := pc + 3, locals := ls, stack := .ref T.heap.size :: rest, locked := none }) _
  jvm_step X₁.here [X₁.here.top, hexec, d3', Value.category]
  exact hsteps
/-- 'throw new E("text")': new; dup; ldc; invokespecial; athrow -/
theorem vx_throwS {cc : ByteArray} {pc : Nat} (hexec : p.tables.exec = Jvm.exec) (hb : c.code = cc) (hl : l.stackTraces = false) {own cls text : String} {names : List String} {ik is ic mc ms sa : Nat} {A : Nat → Prop}
    (hown : s.vm.findClass own = some m.cls) (hcls : Bundle.fit cls = true) (hnames : ∀ n ∈ names, Bundle.fit n = true)
    (hk : (Cond.classLink own ik cls).before args s = true) (hini : (Cond.initialized cls).before args s = true) (hstr : vk_R own is text sa s) (hat : ∀ w ∈ vx_atS own ic cls names, w.before args s = true)
    (hgood : ∀ w ∈ Cond.classLink own ik cls :: Cond.initialized cls :: vx_atS own ic cls names, vx_ot w = true)
    (hU : vx_Zq Bundle.tN "UNASSIGNED_STACK" Bundle.steD A s s.heap) (hN : vx_Zq Bundle.tN "SUPPRESSED_SENTINEL" Bundle.listD A s s.heap) (hS : va_S A s.heap H locs) (hsize : ls.size = c.maxLocals)
    (d0 : decode cc pc = .ok (.new ik, 3)) (d3 : decode cc (pc + 3) = .ok (.dup, 1)) (d4 : decode cc (pc + 4) = .ok (.ldc is, 2)) (d6 : decode cc (pc + 6) = .ok (.invokespecial ic, 3)) (d9 : decode cc (pc + 9) = .ok (.athrow, 1))
    (hout : ∀ x ∈ c.exceptionTable.toList, covers x (pc + 9) = false)
    (hRframes : names.length + 3 < R.frames) (hRlocals : (rest.map fun v => v.category).sum + (13 * (names.length + 1) + 43) ≤ R.locals) (hRcells : cells + 1 ≤ R.cells) (hRslots : slots + 6 ≤ R.slots) (hlocks : meth.locks = false)
    (hx : ∀ t : State, s.vm.Alike t.vm → H.size ≤ t.heap.size → (∀ q : Nat, q < H.size → t.heap[q]? = H[q]?) → XC cls s t)
    (hf : ∀ z ∈ locs, free z.base) (hc : cells + 1 ≤ mc) (hs : slots + 6 ≤ ms) :
    W p l e R s m args below meth c H locs cells slots (vx_MQ below Qc XC args s mc ms free) (F0 m pc ls rest) := by
  intro T hT X
  have htr : e.platform.stackTraces = false := (show e.platform.stackTraces = l.stackTraces by rw [X.admits.platform]).trans hl
  have Y := vx_rebase X (R' := { frames := R.frames, locals := R.locals, cells := 1, slots := 6 }) (Nat.le_refl _) (Nat.le_refl _) hRcells hRslots
  obtain ⟨s', hA⟩ : ∃ z, z = (T.setVm s.vm).setFrames (.invoking m args :: below) := ⟨_, rfl⟩
  rw [← hA] at Y
  have hvm : s'.vm = s.vm := by rw [hA]; rfl
  have hhp : s'.heap = H := by rw [hA]; exact hT
  have hW0 : s.WarmedH s'.vm := by rw [hvm]; exact State.WarmedH.refl s
  have hat' : ∀ w ∈ vx_atS own ic cls names, w.before args s' = true := fun w hw => vx_ot_at hW0 hvm.symm (hgood w (List.mem_cons_of_mem _ (List.mem_cons_of_mem _ hw))) (hat w hw)
  have hk' : (Cond.classLink own ik cls).before args s' = true := vx_ot_at hW0 hvm.symm (hgood _ List.mem_cons_self) hk
  have hini' : (Cond.initialized cls).before args s' = true := vx_ot_at hW0 hvm.symm (hgood _ (List.mem_cons_of_mem _ List.mem_cons_self)) hini
  have hU' : vx_Zq Bundle.tN "UNASSIGNED_STACK" Bundle.steD A s' s'.heap := by rw [hhp]; exact vx_Zq.moved hW0.alike (hU.kept hS.2.1)
  have hN' : vx_Zq Bundle.tN "SUPPRESSED_SENTINEL" Bundle.listD A s' s'.heap := by rw [hhp]; exact vx_Zq.moved hW0.alike (hN.kept hS.2.1)
  have h : ∀ w ∈ Bundle.ownAtoms own ic cls names, w.before args s' = true := vx_own hat' (vx_isRefq hU'.1) (vx_isRefq hN'.1) hU'.2.word hN'.2.word
  have hown' : s'.vm.findClass own = some m.cls := by rw [hvm]; exact hown
  have hins : (Cond.instantiable cls 6).before args s' = true := h _ (by simp [Bundle.ownAtoms])
  obtain ⟨vm₁, cX, kX, hfX, hkX, -, -, X₁, st1⟩ := Y.newCold hexec (own := own) (C := cls) (index := ik) (n := 6) hown' hk' hins hini'
    (g := F0 m pc ls rest) rfl (by rw [hb]; exact d0) (Nat.le_refl _) (Nat.le_refl _)
  generalize hT1 : (T.setVm vm₁).pushCell { cls := cX, slots := kX.instanceTypes.map defaultValue, vm := .none } = T1 at X₁ st1
  have hcat : (Value.ref T.heap.size).category = 1 := rfl
  have hcellA : T1.heap[T.heap.size]? = some (freshCell cX kX) := by rw [← hT1]; exact State.heap_pushCell_size _ _
  have d3' : decode c.code (pc + 3) = .ok (.dup, 1) := by rw [hb]; exact d3
  have d4' : decode c.code (pc + 4) = .ok (.ldc is, 2) := by rw [hb]; exact d4
  have hstr' : vk_R own is text sa s' := vk_R.warm hW0 hstr
  obtain ⟨U, hsteps, hrun, hend, hW, hsame, ce, hce, hO⟩ := X₁.ctorThrowS hexec htr (own := own) (cls := cls) (names := names) (ic := ic) hown' hcls hnames h (fun x hx => nomatch hx) hfX hkX hcellA (by rw [hhp, hT]; exact Nat.le_refl _) (msg := .ref sa) rfl
    (g := { method := m, pc := pc + 6, locals := ls, stack := .ref sa :: .ref T.heap.size :: .ref T.heap.size :: rest, locked := none }) rfl hsize rfl rfl (rest := rest) rfl
    (by rw [hb]; exact d6) (by rw [hb]; exact d9) hout hRframes (by simp only [List.map_cons, List.sum_cons, hcat]; omega) hlocks
  obtain ⟨f1, f2⟩ := vx_frame hsame
  rw [hhp] at f1 f2
  have hWs : s.WarmedH U.vm := State.WarmedH.trans hW0 hW
  have hcl : s.vm.findClass cls = some ce.cls := by
    have h9 := hO.cls
    rw [hvm] at h9
    exact h9
  have hall : s.sameButNew ({ U with vm := s.vm } : State) locs mc ms := by
    subst hA
    obtain ⟨e1, e2⟩ := hsame
    rw [State.setFrames_setFrames] at e1
    have h2 : (T.setVm s.vm).sameButNew ({ U with vm := s.vm } : State) [] (0 + 1) (0 + 6) := ⟨e1, e2⟩
    have h3 := X.same.trans h2
    rw [List.append_nil] at h3
    exact h3.mono hc hs
  refine ⟨U, ?_, .threw T.heap.size, hrun, hend, Or.inr ⟨T.heap.size, rfl, cls, ce, locs, hx U hWs.alike f1 (fun q hq => f2 q hq (fun z hz => nomatch hz)), hce, hO.vm, hcl, hWs, hall, hf⟩⟩
  refine st1 _ ?_
  show Steps p.tables e below (T1.setTop { method := m, pc := pc + 3, locals := ls, stack := .ref T.heap.size :: rest, locked := none }) _
  jvm_step X₁.here [X₁.here.top, hexec, d3', Value.category]
  exact X₁.ldcString hexec (own := own) (text := text) (index := is) (a := sa) hown' hstr'.1 hstr'.2
    (g := { method := m, pc := pc + 4, locals := ls, stack := .ref T.heap.size :: .ref T.heap.size :: rest, locked := none }) rfl d4' _ hsteps
/-- 'throw new E("text")', the text by a wide index -/
theorem vx_throwSW {cc : ByteArray} {pc : Nat} (hexec : p.tables.exec = Jvm.exec) (hb : c.code = cc) (hl : l.stackTraces = false) {own cls text : String} {names : List String} {ik is ic mc ms sa : Nat} {A : Nat → Prop}
    (hown : s.vm.findClass own = some m.cls) (hcls : Bundle.fit cls = true) (hnames : ∀ n ∈ names, Bundle.fit n = true)
    (hk : (Cond.classLink own ik cls).before args s = true) (hini : (Cond.initialized cls).before args s = true) (hstr : vk_R own is text sa s) (hat : ∀ w ∈ vx_atS own ic cls names, w.before args s = true)
    (hgood : ∀ w ∈ Cond.classLink own ik cls :: Cond.initialized cls :: vx_atS own ic cls names, vx_ot w = true)
    (hU : vx_Zq Bundle.tN "UNASSIGNED_STACK" Bundle.steD A s s.heap) (hN : vx_Zq Bundle.tN "SUPPRESSED_SENTINEL" Bundle.listD A s s.heap) (hS : va_S A s.heap H locs) (hsize : ls.size = c.maxLocals)
    (d0 : decode cc pc = .ok (.new ik, 3)) (d3 : decode cc (pc + 3) = .ok (.dup, 1)) (d4 : decode cc (pc + 4) = .ok (.ldc_w is, 3)) (d7 : decode cc (pc + 7) = .ok (.invokespecial ic, 3)) (d10 : decode cc (pc + 10) = .ok (.athrow, 1))
    (hout : ∀ x ∈ c.exceptionTable.toList, covers x (pc + 10) = false)
    (hRframes : names.length + 3 < R.frames) (hRlocals : (rest.map fun v => v.category).sum + (13 * (names.length + 1) + 43) ≤ R.locals) (hRcells : cells + 1 ≤ R.cells) (hRslots : slots + 6 ≤ R.slots) (hlocks : meth.locks = false)
    (hx : ∀ t : State, s.vm.Alike t.vm → H.size ≤ t.heap.size → (∀ q : Nat, q < H.size → t.heap[q]? = H[q]?) → XC cls s t)
    (hf : ∀ z ∈ locs, free z.base) (hc : cells + 1 ≤ mc) (hs : slots + 6 ≤ ms) :
    W p l e R s m args below meth c H locs cells slots (vx_MQ below Qc XC args s mc ms free) (F0 m pc ls rest) := by
  intro T hT X
  have htr : e.platform.stackTraces = false := (show e.platform.stackTraces = l.stackTraces by rw [X.admits.platform]).trans hl
  have Y := vx_rebase X (R' := { frames := R.frames, locals := R.locals, cells := 1, slots := 6 }) (Nat.le_refl _) (Nat.le_refl _) hRcells hRslots
  obtain ⟨s', hA⟩ : ∃ z, z = (T.setVm s.vm).setFrames (.invoking m args :: below) := ⟨_, rfl⟩
  rw [← hA] at Y
  have hvm : s'.vm = s.vm := by rw [hA]; rfl
  have hhp : s'.heap = H := by rw [hA]; exact hT
  have hW0 : s.WarmedH s'.vm := by rw [hvm]; exact State.WarmedH.refl s
  have hat' : ∀ w ∈ vx_atS own ic cls names, w.before args s' = true := fun w hw => vx_ot_at hW0 hvm.symm (hgood w (List.mem_cons_of_mem _ (List.mem_cons_of_mem _ hw))) (hat w hw)
  have hk' : (Cond.classLink own ik cls).before args s' = true := vx_ot_at hW0 hvm.symm (hgood _ List.mem_cons_self) hk
  have hini' : (Cond.initialized cls).before args s' = true := vx_ot_at hW0 hvm.symm (hgood _ (List.mem_cons_of_mem _ List.mem_cons_self)) hini
  have hU' : vx_Zq Bundle.tN "UNASSIGNED_STACK" Bundle.steD A s' s'.heap := by rw [hhp]; exact vx_Zq.moved hW0.alike (hU.kept hS.2.1)
  have hN' : vx_Zq Bundle.tN "SUPPRESSED_SENTINEL" Bundle.listD A s' s'.heap := by rw [hhp]; exact vx_Zq.moved hW0.alike (hN.kept hS.2.1)
  have h : ∀ w ∈ Bundle.ownAtoms own ic cls names, w.before args s' = true := vx_own hat' (vx_isRefq hU'.1) (vx_isRefq hN'.1) hU'.2.word hN'.2.word
  have hown' : s'.vm.findClass own = some m.cls := by rw [hvm]; exact hown
  have hins : (Cond.instantiable cls 6).before args s' = true := h _ (by simp [Bundle.ownAtoms])
  obtain ⟨vm₁, cX, kX, hfX, hkX, -, -, X₁, st1⟩ := Y.newCold hexec (own := own) (C := cls) (index := ik) (n := 6) hown' hk' hins hini'
    (g := F0 m pc ls rest) rfl (by rw [hb]; exact d0) (Nat.le_refl _) (Nat.le_refl _)
  generalize hT1 : (T.setVm vm₁).pushCell { cls := cX, slots := kX.instanceTypes.map defaultValue, vm := .none } = T1 at X₁ st1
  have hcat : (Value.ref T.heap.size).category = 1 := rfl
  have hcellA : T1.heap[T.heap.size]? = some (freshCell cX kX) := by rw [← hT1]; exact State.heap_pushCell_size _ _
  have d3' : decode c.code (pc + 3) = .ok (.dup, 1) := by rw [hb]; exact d3
  have d4' : decode c.code (pc + 4) = .ok (.ldc_w is, 3) := by rw [hb]; exact d4
  have hstr' : vk_R own is text sa s' := vk_R.warm hW0 hstr
  obtain ⟨U, hsteps, hrun, hend, hW, hsame, ce, hce, hO⟩ := X₁.ctorThrowS hexec htr (own := own) (cls := cls) (names := names) (ic := ic) hown' hcls hnames h (fun x hx => nomatch hx) hfX hkX hcellA (by rw [hhp, hT]; exact Nat.le_refl _) (msg := .ref sa) rfl
    (g := { method := m, pc := pc + 7, locals := ls, stack := .ref sa :: .ref T.heap.size :: .ref T.heap.size :: rest, locked := none }) rfl hsize rfl rfl (rest := rest) rfl
    (by rw [hb]; exact d7) (by rw [hb]; exact d10) hout hRframes (by simp only [List.map_cons, List.sum_cons, hcat]; omega) hlocks
  obtain ⟨f1, f2⟩ := vx_frame hsame
  rw [hhp] at f1 f2
  have hWs : s.WarmedH U.vm := State.WarmedH.trans hW0 hW
  have hcl : s.vm.findClass cls = some ce.cls := by
    have h9 := hO.cls
    rw [hvm] at h9
    exact h9
  have hall : s.sameButNew ({ U with vm := s.vm } : State) locs mc ms := by
    subst hA
    obtain ⟨e1, e2⟩ := hsame
    rw [State.setFrames_setFrames] at e1
    have h2 : (T.setVm s.vm).sameButNew ({ U with vm := s.vm } : State) [] (0 + 1) (0 + 6) := ⟨e1, e2⟩
    have h3 := X.same.trans h2
    rw [List.append_nil] at h3
    exact h3.mono hc hs
  refine ⟨U, ?_, .threw T.heap.size, hrun, hend, Or.inr ⟨T.heap.size, rfl, cls, ce, locs, hx U hWs.alike f1 (fun q hq => f2 q hq (fun z hz => nomatch hz)), hce, hO.vm, hcl, hWs, hall, hf⟩⟩
  refine st1 _ ?_
  show Steps p.tables e below (T1.setTop { method := m, pc := pc + 3, locals := ls, stack := .ref T.heap.size :: rest, locked := none }) _
  jvm_step X₁.here [X₁.here.top, hexec, d3', Value.category]
  exact X₁.ldcStringW hexec (own := own) (text := text) (index := is) (a := sa) hown' hstr'.1 hstr'.2
    (g := { method := m, pc := pc + 4, locals := ls, stack := .ref T.heap.size :: .ref T.heap.size :: rest, locked := none }) rfl d4' _ hsteps
end Ends
section Bodies
variable {l : Launch}
theorem vx_ofW {y : MethodName} {ws ws' : List Cond} {rm : Room} {Pc : Array Value → State → Prop} {Qc : Array Value → State → Outcome → State → Prop} {XC : String → State → State → Prop} {mc ms : Nat} {free : Addr → Prop} {cc : ByteArray} {maxL : Nat} {ret : Option FieldType}
    (hy : plainName y.cls = true) (hw : ws = Cond.code y cc maxL ret :: ws')
    (body : ∀ p e s m args below meth c s₁, BodyLoose p l y (headSpec ws rm) cc maxL ret e s m args below meth c s₁ → c.maxLocals = maxL → (∀ x ∈ c.exceptionTable.toList, False) → Pc args s →
      W p l e (headSpec ws rm).room s m args below meth c s.heap [] 0 0 (vx_MQ below Qc XC args s mc ms free) (entryFrame m args maxL)) : vx_Met l y ws rm Pc Qc XC mc ms free := by
  refine MetFree.of_bodyS (code := cc) (maxLocals := maxL) (ret := ret) hy ?_ ?_
  · intro args s m h hn
    obtain ⟨meth, c, h1, h2, h3, h4, h5, h6, -, -⟩ := Cond.code_spec hn (atoms_spec (ws := ws) h _ (by rw [hw]; exact List.mem_cons_self))
    exact ⟨meth, c, h1, h2, h3, h4, h5, h6⟩
  · intro p e s m args below meth c s₁ B hml hP _
    have hh0 : s₁.heap = s.heap := by rw [B.state]; rfl
    have ht : ∀ x ∈ c.exceptionTable.toList, False := by
      obtain ⟨meth9, c9, h1, h2, -, -, -, -, h7, -⟩ := Cond.code_spec B.named (atoms_spec (ws := ws) B.pre _ (by rw [hw]; exact List.mem_cons_self))
      cases Option.some.inj (h1.symm.trans B.method)
      cases Option.some.inj (h2.symm.trans (Stand.of_body B).code)
      intro x hx
      rw [Array.isEmpty_iff.mp h7] at hx
      cases hx
    obtain ⟨t, a1, o, b1, b2, b3⟩ := body p e s m args below meth c s₁ B hml ht hP s₁ hh0 (Stand.of_body B)
    exact ⟨t, o, a1, b1, b2, b3⟩
/-- the table of a body with handlers -/
theorem vx_table {p : Program} {x y : MethodName} {S : Spec} {cc bytes : ByteArray} {maxL maxL' : Nat} {ret ret' : Option FieldType} {e : Env} {s s₁ : State} {m : MethodId} {args : Array Value} {below : List Frame} {meth : Method} {c : Code} {hh : List (Nat × Nat × Nat × Nat)}
    (B : BodyLoose p l y S cc maxL ret e s m args below meth c s₁) (h : (Cond.codeWith y bytes maxL' ret' hh).before args s = true) : c.exceptionTable.toList = tableOf hh := by
  obtain ⟨m9, meth9, c9, hn9, h1, h2, -, -, h6, -⟩ := Cond.codeWith_spec h
  cases Option.some.inj (hn9.symm.trans B.named)
  cases Option.some.inj (h1.symm.trans B.method)
  cases Option.some.inj (h2.symm.trans (Stand.of_body B).code)
  rw [← h6, table_eq]
end Bodies
end VXA
/-! ===== END ===== -/
/-! ===== BEGIN a static call of a method with an exception table ===== -/
section VXS
variable {p : Program} {l : Launch} {e : Env} {R : Room} {s : State} {m : MethodId} {args : Array Value} {below : List Frame} {meth : Method} {c : Code} {T : State} {H : Heap} {locs : List Loc} {cells slots : Nat}
abbrev vx_CSW (R : Room) (s : State) (args : Array Value) (own : String) (index : Nat) (y : MethodName) (bytes : ByteArray) (maxL : Nat) (ret : Option FieldType) (hh : List (Nat × Nat × Nat × Nat)) (ws : List Cond) (rm : Room) (mc ms n : Nat) : Prop :=
  (rm.cells = mc ∧ rm.slots = ms ∧ rm.frames + 1 ≤ R.frames ∧ 8 + (maxL + 11) + rm.locals ≤ R.locals ∧ (∀ w ∈ ws, ∀ (a' : Array Value) (U : State), s.WarmedH U.vm → w.before a' U = true) ∧ Cond.codeWith y bytes maxL ret hh ∈ ws) ∧
  (Cond.codeWith y bytes maxL ret hh).before args s = true ∧ (Cond.initialized y.cls).before args s = true ∧ (y.cls ≠ "java/lang/invoke/MethodHandle" ∧ y.cls ≠ "java/lang/invoke/VarHandle") ∧
  (∀ sig, parseMethodDescriptor y.desc = some sig → n = sig.parameters.length) ∧ (Cond.methodLink own index y).before args s = true ∧ (Cond.static y).before args s = true
theorem vx_cwSW {own : String} {index maxL mc ms : Nat} {y : MethodName} {bytes : ByteArray} {ret : Option FieldType} {hh : List (Nat × Nat × Nat × Nat)} {Ts ws ws' : List Cond} {rm : Room} (n : Nat) (ht : ∀ w ∈ Ts, w.before args s = true) (hT : GoodIn Ts (va_wsS own index y ws)) (hw : ws = Cond.codeWith y bytes maxL ret hh :: ws') (hrc : rm.cells = mc) (hrs : rm.slots = ms)
    (hd : y.cls ≠ "java/lang/invoke/MethodHandle" ∧ y.cls ≠ "java/lang/invoke/VarHandle" ∧ (parseMethodDescriptor y.desc).map (fun d => d.parameters.length) = some n) (hR : rm.frames + 1 ≤ R.frames ∧ 8 + (maxL + 11) + rm.locals ≤ R.locals) :
    vx_CSW R s args own index y bytes maxL ret hh ws rm mc ms n := by
  have ok : ∀ w ∈ va_wsS own index y ws, w.before args s = true := fun w h => ht w (hT w h).1
  have hG : GoodIn Ts ws := fun w h => hT w (by unfold va_wsS; exact List.mem_append_right _ h)
  have hc : Cond.codeWith y bytes maxL ret hh ∈ ws := by rw [hw]; exact List.mem_cons_self
  refine ⟨⟨hrc, hrs, hR.1, hR.2, pay_in ht hG, hc⟩, ht _ (hG _ hc).1, ok _ (by simp [va_wsS]), ⟨hd.1, hd.2.1⟩, fun sig h => ?_, ok _ (by simp [va_wsS]), ok _ (by simp [va_wsS])⟩
  have h2 := hd.2.2
  rw [h] at h2
  exact (Option.some.inj h2).symm
theorem vx_callSW (X : Stand p l e R s m args below meth c T locs cells slots) (hexec : p.tables.exec = Jvm.exec) {own : String} {index : Nat} {y : MethodName} {bytes : ByteArray} {maxL : Nat} {ret : Option FieldType} {hh : List (Nat × Nat × Nat × Nat)}
    (hown : s.vm.findClass own = some m.cls) (hlink : (Cond.methodLink own index y).before args s = true) (hstat : (Cond.static y).before args s = true) (hinit : (Cond.initialized y.cls).before args s = true)
    (hcode : (Cond.codeWith y bytes maxL ret hh).before args s = true) (hy : y.cls ≠ "java/lang/invoke/MethodHandle" ∧ y.cls ≠ "java/lang/invoke/VarHandle")
    {W9 : Nat} {Pre : Pt → Array Value → Prop} {Post : Pt → Array Value → Option Value → Pt → Prop} (hK : Back l R p e below s args y 3 W9 Pre Post)
    {g : JFrame} (hg : g.method = m) (hsize : g.locals.size = c.maxLocals) {argsL rest : List Value} (hlen : ∀ sig, parseMethodDescriptor y.desc = some sig → argsL.length = sig.parameters.length)
    (hstack : g.stack = argsL.reverse ++ rest) (hW : 2 * g.monitorRoom + (rest.map fun v => v.category).sum ≤ W9) (hdg : decode c.code g.pc = .ok (.invokestatic index, 3))
    (hpre : ∀ vm₁, s.WarmedH vm₁ → Pre ⟨T.setVm vm₁, locs, cells, slots⟩ argsL.toArray) :
    ∃ (v : Option Value) (vm₁ : Vm) (B : Pt), s.WarmedH vm₁ ∧ Stand p l e R s m args below meth c B.U B.locs B.cells B.slots ∧ Post ⟨T.setVm vm₁, locs, cells, slots⟩ argsL.toArray v B ∧
      ∀ target, Steps p.tables e below (B.U.setTop { g with pc := g.pc + 3, stack := v.toList ++ rest }) target → Steps p.tables e below (T.setTop g) target := by
  obtain ⟨mk, methM, cM, hnamed, hmethM, -, -, -, -, -, -, hsigM⟩ := Cond.codeWith_spec hcode
  have hstatic : methM.isStatic = true := Cond.static_spec hnamed hmethM hstat
  obtain ⟨kP, hkP, -⟩ := className_of_methodNamed hnamed
  have hinitP : kP.init = .initialized := Cond.initialized_spec (findClass_of_methodNamed hnamed) hkP hinit
  obtain ⟨vm₁, X₁, hstep₁⟩ := X.invokestatic hexec hown hlink hnamed hmethM hstatic hkP hinitP hy (g := g) hg (argsL := argsL) (rest := rest) (hlen _ hsigM) hstack hdg
  obtain ⟨v, B, X', hpost, hsteps⟩ := hK m meth c ⟨T.setVm vm₁, locs, cells, slots⟩ { g with stack := rest } (.invokestatic index) mk argsL.toArray X₁ hg hsize hdg hW (X₁.named hnamed) (hpre vm₁ X₁.warmed)
  exact ⟨v, vm₁, B, X₁.warmed, X', hpost, fun target h => hstep₁ _ fun acts => by rw [doInvoke_state]; exact hsteps.trans h⟩
theorem vx_runSW {y : MethodName} {bytes cc : ByteArray} {maxL nL mc ms n index : Nat} {ret : Option FieldType} {hh : List (Nat × Nat × Nat × Nat)} {ws : List Cond} {rm : Room} {Pc : Array Value → State → Prop} {Qc : Array Value → State → Outcome → State → Prop} {free : Addr → Prop} {Ts : List Cond} {own : String} {As rest : List Value} {g : JFrame}
    (S : CallFix p m c cc nL s args Ts own) (hM : Met l y ws rm Pc Qc mc ms free) (cw : vx_CSW R s args own index y bytes maxL ret hh ws rm mc ms n) (hp : PreS s H Pc As)
    (hg : g.method = m) (hn : As.length = n) (hsize : g.locals.size = nL) (hstack : g.stack = As.reverse ++ rest) (hW : 2 * g.monitorRoom + (rest.map fun v => v.category).sum ≤ 8) (hdg : decode cc g.pc = .ok (.invokestatic index, 3)) (hf : cells + mc ≤ R.cells ∧ slots + ms ≤ R.slots) :
    va_Run p l e R s m args below meth c H locs cells slots mc ms g rest (Qc As.toArray) (free) := by
  obtain ⟨⟨hrc, hrs, hfr, hlo, hws, hcw⟩, hcode, hini, hy, hlen, hl, hstt⟩ := cw
  have hK : Back l R p e below s args y 3 8 (PreOf R mc ms Pc) (PostOf Qc mc ms free) := va_backW (hh := hh) (bytes := bytes) (maxL := maxL) (ret := ret) hM hp.1 hrc hrs hfr hlo hws hcw (fun a' U hW => word_at hW (Or.inl (by first | rfl | simp [Cond.onTables, Cond.keeps, Cond.steady])) hini)
  obtain ⟨hx, hb, hml, ho, -⟩ := S
  intro T hT X
  obtain ⟨v, vm₁, ⟨U', l2, c2, s2⟩, hW₁, X', ⟨g', mk, t, L, e1, e2, hq, h1, hL, h2, h3⟩, st⟩ := vx_callSW X hx (hh := hh) (bytes := bytes) (maxL := maxL) (ret := ret) ho hl hstt hini hcode hy hK hg (hsize.trans hml.symm) (argsL := As) (rest := rest) (fun sig h => hn.trans (hlen sig h)) hstack hW (by rw [hb]; exact hdg)
    (fun vm₁ hW₁ => ⟨hf.1, hf.2, hp.2 (T.setVm vm₁) hT hW₁⟩)
  dsimp only [Pt.U, Pt.locs, Pt.cells, Pt.slots] at X' e1 e2 h1 h2 h3 st
  subst h1; subst h2; subst h3
  exact ⟨v, (T.setVm vm₁).calling g' mk As.toArray, t, U', L, hT, X', hL, e1, e2, hq, st⟩
/-- not caught here, past rows that name other classes: it goes on to the caller -/
theorem vx_outP {p : Program} {l : Launch} {e : Env} {R : Room} {s : State} {m : MethodId} {args : Array Value} {below : List Frame} {meth : Method} {c : Code} {H : Heap} {locs : List Loc} {cells slots : Nat} {free : Addr → Prop} {ls : Array Slot} {rest : List Value} {Qc : Array Value → State → Outcome → State → Prop} {XC : String → State → State → Prop}
    {pc : Nat} {own E : String} {ce : Cell} {q : Addr} {mc ms : Nat} (hown : s.vm.findClass own = some m.cls) (hlocks : meth.locks = false)
    (hpass : ∀ z ∈ c.exceptionTable.toList, covers z pc = false ∨ (z.catchType ≠ 0 ∧ ∃ nm : String, (Cond.classLink own z.catchType nm).before args s = true ∧ va_Nc E nm s)) (hcell : H[q]? = some ce) (hv : ce.vm = .none) (hcl : s.vm.findClass E = some ce.cls)
    (hx : ∀ t : State, t.heap = H → s.vm.Alike t.vm → XC E s t) (hf : ∀ z ∈ locs, free z.base) (hc : cells ≤ mc) (hs : slots ≤ ms) :
    vx_W p l e R s m args below meth c H locs cells slots (vx_MQ below Qc XC args s mc ms free) (F0 m pc ls rest) q := by
  intro T hT X
  have hpl : e.platform.magicAccessors = ({} : Platform).magicAccessors := by rw [X.admits.platform]
  obtain ⟨vm', hW', X', st⟩ := X.outThrough hlocks q (g := F0 m pc ls rest) rfl rfl rfl (cell := ce) (by rw [hT]; exact hcell) (by rw [hv]; rfl)
    (by obtain ⟨k9, h9, -⟩ := Vm.findClass_spec hcl; exact ⟨k9, h9⟩) (fun z hz => by
      rcases hpass z hz with h | ⟨hz0, nm, hl1, hn1⟩
      · exact Or.inl h
      · obtain ⟨c6, hc6, hcl6⟩ := Cond.classLink_spec hown hl1 e.platform hpl
        obtain ⟨a8, b8, h1, h2, h3⟩ := hn1
        cases Option.some.inj (h1.symm.trans hcl)
        cases Option.some.inj (h2.symm.trans hc6)
        exact Or.inr ⟨hz0, _, hcl6, h3⟩)
  obtain ⟨g₀, hfr⟩ := X'.frames_eq
  have hcell9 : ((T.setVm vm').setFrames (.throwing q :: below)).heap[q]? = some ce := by
    show T.heap[q]? = some ce
    rw [hT]; exact hcell
  have hend : Ended ((T.setVm vm').setFrames (.throwing q :: below)) below (.threw q) := State.frames_setFrames _ (State.cur_lt_of_frames hfr)
  refine ⟨(T.setVm vm').setFrames (.throwing q :: below), ?_, .threw q, X'.here.running, hend, Or.inr ⟨q, rfl, E, ce, locs, hx _ hT (X'.ends _).1.alike, hcell9, hv, hcl, (X'.ends _).1, (X'.ends _).2.mono hc hs, hf⟩⟩
  rw [X.pushThrowing_eq]
  exact st
/-- a thing of a world lies in the heap -/
theorem vx_lt {D : va_G} {cl : List vw_C} {ws : va_W} {H1 : Heap} (h : va_P D cl ws H1) {k : Nat} {q : Nat × va_E} (hk : ws[k]? = some q) : q.1 < H1.size := (h k q hk).lt
end VXS
/-! ===== END ===== -/
/-! ===== BEGIN methods with a table of their own: called by a name, returning or throwing ===== -/
section VXH
/-! vx_backW, vx_callVX, vx_callSX, vx_callVW, vx_runVW, vx_runVX, vx_runSX, vx_ofWH follow the same proofs as their sisters above (Free/Laws.lean, Shelf42/LK1.lean); vx_outP calls Shelf42/NT130.lean (outThrough). -/
section
variable {l : Launch} {R : Room} {p : Program} {e : Env} {below : List Frame} {s : State} {sargs : Array Value} {y : MethodName} {len W9 : Nat}
theorem vx_backW {ws : List Cond} {rm : Room} {Pc : Array Value → State → Prop} {Qc : Array Value → State → Outcome → State → Prop} {XC : String → State → State → Prop} {mc ms : Nat} {free : Addr → Prop} {bytes : ByteArray} {maxL : Nat} {ret : Option FieldType} {hh : List (Nat × Nat × Nat × Nat)}
    (hM : vx_Met l y ws rm Pc Qc XC mc ms free) (hblind : FrameBlind Pc) (hrc : rm.cells = mc) (hrs : rm.slots = ms)
    (hframes : rm.frames + 1 ≤ R.frames) (hlocals : W9 + (maxL + 11) + rm.locals ≤ R.locals)
    (hws : ∀ w ∈ ws, ∀ a' U, s.WarmedH U.vm → w.before a' U = true) (hcode : Cond.codeWith y bytes maxL ret hh ∈ ws) (hinit : ∀ a' U, s.WarmedH U.vm → (Cond.initialized y.cls).before a' U = true) :
    vx_Back l R p e below s sargs y len W9 (PreOf R mc ms Pc) (PostOf Qc mc ms free) (vx_Post XC mc ms free) := by
  intro m meth c A g ig mk a X hg hsize hdg hW hn hp
  have h1 : (headSpec ws rm).pre.before a A.U = true := atoms_intro fun w hw => hws w hw _ _ X.warmed
  have h2 : (Cond.codeWith y bytes maxL ret hh).before a A.U = true := hws _ hcode _ _ X.warmed
  have h3 : (Cond.initialized y.cls).before a A.U = true := hinit _ _ X.warmed
  have h4 : A.cells + (headSpec ws rm).room.cells ≤ R.cells := by rw [show (headSpec ws rm).room.cells = mc from hrc]; exact hp.1
  have h5 : A.slots + (headSpec ws rm).room.slots ≤ R.slots := by rw [show (headSpec ws rm).room.slots = ms from hrs]; exact hp.2.1
  have hPc : Pc a (A.U.calling g mk a) := hblind _ _ _ _ hp.2.2
  obtain ⟨U, Ls, c0, s0⟩ := A
  dsimp only [Pt.U, Pt.locs, Pt.cells, Pt.slots] at h1 h2 h3 h4 h5 X hn hPc ⊢
  obtain ⟨m9, methY, cY, hn9, hmY, hcY, -, hlY, -⟩ := Cond.codeWith_spec h2
  cases Option.some.inj (hn9.symm.trans hn)
  obtain ⟨kY, hkY, -⟩ := className_of_methodNamed hn
  have hinitY : kY.init = .initialized := Cond.initialized_spec (findClass_of_methodNamed hn) hkY h3
  have h : At U g.method c below := by rw [hg]; exact X.here
  have hlocals9 : W9 + (maxL + 11) + (headSpec ws rm).room.locals ≤ R.locals := hlocals
  have happ : (headSpec ws rm).appliesLoose y e.platform (U.calling g mk a) = true :=
    Spec.appliesLoose_calling (g := g) h hdg hn hkY hinitY
      (X.room_calling (g := g) (R' := (headSpec ws rm).room) hsize hmY hcY hframes (by rw [hlY]; omega) h4 h5) h1
  obtain ⟨mid, hmid⟩ := h.above
  have hfr : (U.setTop g).frames = (.java g :: mid) ++ below := by rw [State.frames_setTop' g h.top, hmid]; rfl
  obtain ⟨o, s₂, hsteps, -, hend, hq⟩ := Steps.callFree hM p X.admits X.cas X.clock (acts := []) hfr happ hPc trivial
  have hq' : vx_Q Qc XC mc ms free a (U.calling g mk a) o s₂ := hq
  rw [State.frames_setTop' g h.top] at hend
  obtain ⟨g₀, hg0⟩ := Option.isSome_iff_exists.mp h.top
  obtain ⟨r, hr⟩ := State.topJava?_eq_some.mp hg0
  have hr' : (({ U with heap := s₂.heap, slotsUsed := s₂.slotsUsed } : State).setVm s₂.vm).frames = .java g₀ :: r := hr
  rcases hq' with ⟨hqc, L, hfe, hL⟩ | ⟨q, rfl, E, ce, L, hx, hce, hcv, hcl, hW₂, hsm, hL⟩
  · obtain ⟨⟨v, rfl⟩, hW₂, e2, q2, q3, q4, q5, q6⟩ := id hfe
    have e3 : s₂ = ({ (U.calling g mk a).setFrames s₂.frames with heap := s₂.heap, slotsUsed := s₂.slotsUsed } : State).setVm s₂.vm := by
      have : s₂ = ({ s₂ with vm := (U.calling g mk a).vm } : State).setVm s₂.vm := rfl
      rw [e2] at this
      exact this
    obtain ⟨c₂, i₂, len₂, hc₂, hd₂, hf₂⟩ := hend
    have hW' : U.WarmedH s₂.vm := hW₂
    have hcc : c₂ = c := by
      have h1 : s₂.code? g.method = U.code? g.method := by
        rw [State.code?_eq, State.code?_eq, hW'.alike.method?]
      exact Option.some.inj (hc₂.symm.trans (h1.trans h.code))
    subst hcc
    have hlen : len₂ = len := by rw [hdg] at hd₂; cases hd₂; rfl
    subst hlen
    have hs₂ : s₂ = (({ U with heap := s₂.heap, slotsUsed := s₂.slotsUsed } : State).setVm s₂.vm).setTop { g with pc := g.pc + len₂, stack := v.toList ++ g.stack } := by
      refine e3.trans ?_
      rw [hf₂, State.calling_eq h.top, State.setFrames_setFrames, State.setTop_of_frames _ hr', hr]
      rfl
    have hsame : U.sameButNew ({ U with heap := s₂.heap, slotsUsed := s₂.slotsUsed } : State) L mc ms := by
      refine ⟨?_, q2, q3, q4, q5, q6⟩
      obtain ⟨t, ht, -⟩ := State.frames_cons hr
      show ({ U with heap := s₂.heap, slotsUsed := s₂.slotsUsed } : State) = { U.setFrames U.frames with heap := s₂.heap, slotsUsed := s₂.slotsUsed }
      rw [State.setFrames_self ht]
    subst hg
    refine Or.inl ⟨v, ⟨(({ U with heap := s₂.heap, slotsUsed := s₂.slotsUsed } : State).setVm s₂.vm), Ls ++ L, c0 + mc, s0 + ms⟩,
      ⟨X.admits, X.cas, X.clock, X.frames, X.room, X.hears, X.method, X.code, (X.here.setHeapUsed s₂.heap s₂.slotsUsed).setVm hW'.alike, X.tail, State.WarmedH.trans X.warmed hW', X.limits, X.bytes, X.same.trans (hsame.setVm s.vm)⟩,
      ⟨g, mk, s₂, L, rfl, rfl, hqc, rfl, hL, rfl, rfl⟩, ?_⟩
    show Steps p.tables e below _ ((({ U with heap := s₂.heap, slotsUsed := s₂.slotsUsed } : State).setVm s₂.vm).setTop { g with pc := g.pc + len₂, stack := v.toList ++ g.stack })
    rw [← hs₂]
    exact hsteps
  · obtain ⟨e2, q2, q3, q4, q5, q6⟩ := id hsm
    have e3 : s₂ = ({ (U.calling g mk a).setFrames s₂.frames with heap := s₂.heap, slotsUsed := s₂.slotsUsed } : State).setVm s₂.vm := by
      have : s₂ = ({ s₂ with vm := (U.calling g mk a).vm } : State).setVm s₂.vm := rfl
      rw [e2] at this
      exact this
    have hf₂ : s₂.frames = .throwing q :: .java g :: U.frames.tail := hend
    have hW' : U.WarmedH s₂.vm := hW₂
    have hs₂ : s₂ = ((({ U with heap := s₂.heap, slotsUsed := s₂.slotsUsed } : State).setVm s₂.vm).setTop g).pushFrame (.throwing q) := by
      refine e3.trans ?_
      rw [hf₂, State.calling_eq h.top, State.setFrames_setFrames, State.pushFrame, State.frames_setTop _ hr', State.setTop_of_frames _ hr', State.setFrames_setFrames, hr]
      rfl
    have hsame : U.sameButNew ({ U with heap := s₂.heap, slotsUsed := s₂.slotsUsed } : State) L mc ms := by
      refine ⟨?_, q2, q3, q4, q5, q6⟩
      obtain ⟨t, ht, -⟩ := State.frames_cons hr
      show ({ U with heap := s₂.heap, slotsUsed := s₂.slotsUsed } : State) = { U.setFrames U.frames with heap := s₂.heap, slotsUsed := s₂.slotsUsed }
      rw [State.setFrames_self ht]
    subst hg
    refine Or.inr ⟨q, ⟨(({ U with heap := s₂.heap, slotsUsed := s₂.slotsUsed } : State).setVm s₂.vm), Ls ++ L, c0 + mc, s0 + ms⟩,
      ⟨X.admits, X.cas, X.clock, X.frames, X.room, X.hears, X.method, X.code, (X.here.setHeapUsed s₂.heap s₂.slotsUsed).setVm hW'.alike, X.tail, State.WarmedH.trans X.warmed hW', X.limits, X.bytes, X.same.trans (hsame.setVm s.vm)⟩,
      ⟨g, mk, s₂, L, E, ce, rfl, rfl, hx, hce, hcv, hcl, rfl, hL, rfl, rfl⟩, ?_⟩
    show Steps p.tables e below _ (((({ U with heap := s₂.heap, slotsUsed := s₂.slotsUsed } : State).setVm s₂.vm).setTop g).pushFrame (.throwing q))
    rw [← hs₂]
    exact hsteps
end
variable {p : Program} {l : Launch} {e : Env} {R : Room} {s : State} {m : MethodId} {args : Array Value} {below : List Frame} {meth : Method} {c : Code} {T : State} {H : Heap} {locs : List Loc} {cells slots : Nat}
theorem vx_callVX (X : Stand p l e R s m args below meth c T locs cells slots) (hexec : p.tables.exec = Jvm.exec) {own C : String} {index : Nat} {y : MethodName} {bytes : ByteArray} {maxL : Nat} {ret : Option FieldType} {hh : List (Nat × Nat × Nat × Nat)}
    (hown : s.vm.findClass own = some m.cls) (hlink : (Cond.methodLink own index y).before args s = true) (hinst : (Cond.instanceMethod y).before args s = true) (hsel : (Cond.selects C y y).before args s = true)
    (hcode : (Cond.codeWith y bytes maxL ret hh).before args s = true) (hy : y.cls ≠ "java/lang/invoke/MethodHandle" ∧ y.cls ≠ "java/lang/invoke/VarHandle")
    {W9 : Nat} {Pre : Pt → Array Value → Prop} {Post : Pt → Array Value → Option Value → Pt → Prop} {PostX : Pt → Array Value → Addr → Pt → Prop} (hK : vx_Back l R p e below s args y 3 W9 Pre Post PostX)
    {b : Addr} {cellB : Cell} (hcell : T.heap[b]? = some cellB) (hobj : cellB.vm.isStatics = false) (hcls : s.vm.findClass C = some cellB.cls)
    {g : JFrame} (hg : g.method = m) (hsize : g.locals.size = c.maxLocals) {argsL rest : List Value} (hlen : ∀ sig, parseMethodDescriptor y.desc = some sig → argsL.length = sig.parameters.length)
    (hstack : g.stack = argsL.reverse ++ .ref b :: rest) (hW : 2 * g.monitorRoom + (rest.map fun v => v.category).sum ≤ W9) (hdg : decode c.code g.pc = .ok (.invokevirtual index, 3))
    (hpre : ∀ vm₁, s.WarmedH vm₁ → Pre ⟨T.setVm vm₁, locs, cells, slots⟩ (Value.ref b :: argsL).toArray) :
    (∃ (v : Option Value) (vm₁ : Vm) (B : Pt), s.WarmedH vm₁ ∧ Stand p l e R s m args below meth c B.U B.locs B.cells B.slots ∧ Post ⟨T.setVm vm₁, locs, cells, slots⟩ (Value.ref b :: argsL).toArray v B ∧
      ∀ target, Steps p.tables e below (B.U.setTop { g with pc := g.pc + 3, stack := v.toList ++ rest }) target → Steps p.tables e below (T.setTop g) target) ∨
    (∃ (q : Addr) (vm₁ : Vm) (B : Pt), s.WarmedH vm₁ ∧ Stand p l e R s m args below meth c B.U B.locs B.cells B.slots ∧ PostX ⟨T.setVm vm₁, locs, cells, slots⟩ (Value.ref b :: argsL).toArray q B ∧
      Steps p.tables e below (T.setTop g) ((B.U.setTop { g with stack := rest }).pushFrame (.throwing q))) := by
  obtain ⟨mk, methM, hnamed, hmethM, hstM, habM⟩ := Cond.instanceMethod_spec hinst
  obtain ⟨m8, methM', cM, hn8, hmethM', -, -, -, -, -, -, hsigM⟩ := Cond.codeWith_spec hcode
  cases Option.some.inj (hn8.symm.trans hnamed)
  cases hmethM.symm.trans hmethM'
  obtain ⟨c2, r2, m2, q1, q2, q3, q4, kP, hkP, hkPi⟩ := Cond.selects_spec hsel
  cases hcls.symm.trans q1
  cases (State.methodFound?_of_named hnamed hy).symm.trans q2
  cases hnamed.symm.trans q3
  have hselP : selectMethod e.platform s.vm cellB.cls mk = .method mk := by rw [Launch.admits_selectMethod X.admits]; exact q4
  obtain ⟨vm₁, X₁, hstep₁⟩ := X.invokevirtual hexec hown hlink hnamed hmethM hstM hkP hkPi hy (a := b) (cell := cellB) hcell
    (fun z h => by rw [h] at hobj; cases hobj) hselP hmethM habM hkP hkPi (g := g) hg (argsL := argsL) (rest := rest) (hlen _ hsigM) hstack hdg
  rcases hK m meth c ⟨T.setVm vm₁, locs, cells, slots⟩ { g with stack := rest } (.invokevirtual index) mk (Value.ref b :: argsL).toArray X₁ hg hsize hdg hW (X₁.named hnamed) (hpre vm₁ X₁.warmed) with ⟨v, B, X', hpost, hsteps⟩ | ⟨q, B, X', hpost, hsteps⟩
  · exact Or.inl ⟨v, vm₁, B, X₁.warmed, X', hpost, fun target h => hstep₁ _ fun acts => by rw [doInvoke_state]; exact hsteps.trans h⟩
  · exact Or.inr ⟨q, vm₁, B, X₁.warmed, X', hpost, hstep₁ _ fun acts => by rw [doInvoke_state]; exact hsteps⟩
theorem vx_callSX (X : Stand p l e R s m args below meth c T locs cells slots) (hexec : p.tables.exec = Jvm.exec) {own : String} {index : Nat} {y : MethodName} {bytes : ByteArray} {maxL : Nat} {ret : Option FieldType} {hh : List (Nat × Nat × Nat × Nat)}
    (hown : s.vm.findClass own = some m.cls) (hlink : (Cond.methodLink own index y).before args s = true) (hstat : (Cond.static y).before args s = true) (hinit : (Cond.initialized y.cls).before args s = true)
    (hcode : (Cond.codeWith y bytes maxL ret hh).before args s = true) (hy : y.cls ≠ "java/lang/invoke/MethodHandle" ∧ y.cls ≠ "java/lang/invoke/VarHandle")
    {W9 : Nat} {Pre : Pt → Array Value → Prop} {Post : Pt → Array Value → Option Value → Pt → Prop} {PostX : Pt → Array Value → Addr → Pt → Prop} (hK : vx_Back l R p e below s args y 3 W9 Pre Post PostX)
    {g : JFrame} (hg : g.method = m) (hsize : g.locals.size = c.maxLocals) {argsL rest : List Value} (hlen : ∀ sig, parseMethodDescriptor y.desc = some sig → argsL.length = sig.parameters.length)
    (hstack : g.stack = argsL.reverse ++ rest) (hW : 2 * g.monitorRoom + (rest.map fun v => v.category).sum ≤ W9) (hdg : decode c.code g.pc = .ok (.invokestatic index, 3))
    (hpre : ∀ vm₁, s.WarmedH vm₁ → Pre ⟨T.setVm vm₁, locs, cells, slots⟩ argsL.toArray) :
    (∃ (v : Option Value) (vm₁ : Vm) (B : Pt), s.WarmedH vm₁ ∧ Stand p l e R s m args below meth c B.U B.locs B.cells B.slots ∧ Post ⟨T.setVm vm₁, locs, cells, slots⟩ argsL.toArray v B ∧
      ∀ target, Steps p.tables e below (B.U.setTop { g with pc := g.pc + 3, stack := v.toList ++ rest }) target → Steps p.tables e below (T.setTop g) target) ∨
    (∃ (q : Addr) (vm₁ : Vm) (B : Pt), s.WarmedH vm₁ ∧ Stand p l e R s m args below meth c B.U B.locs B.cells B.slots ∧ PostX ⟨T.setVm vm₁, locs, cells, slots⟩ argsL.toArray q B ∧
      Steps p.tables e below (T.setTop g) ((B.U.setTop { g with stack := rest }).pushFrame (.throwing q))) := by
  obtain ⟨mk, methM, cM, hnamed, hmethM, -, -, -, -, -, -, hsigM⟩ := Cond.codeWith_spec hcode
  have hstatic : methM.isStatic = true := Cond.static_spec hnamed hmethM hstat
  obtain ⟨kP, hkP, -⟩ := className_of_methodNamed hnamed
  have hinitP : kP.init = .initialized := Cond.initialized_spec (findClass_of_methodNamed hnamed) hkP hinit
  obtain ⟨vm₁, X₁, hstep₁⟩ := X.invokestatic hexec hown hlink hnamed hmethM hstatic hkP hinitP hy (g := g) hg (argsL := argsL) (rest := rest) (hlen _ hsigM) hstack hdg
  rcases hK m meth c ⟨T.setVm vm₁, locs, cells, slots⟩ { g with stack := rest } (.invokestatic index) mk argsL.toArray X₁ hg hsize hdg hW (X₁.named hnamed) (hpre vm₁ X₁.warmed) with ⟨v, B, X', hpost, hsteps⟩ | ⟨q, B, X', hpost, hsteps⟩
  · exact Or.inl ⟨v, vm₁, B, X₁.warmed, X', hpost, fun target h => hstep₁ _ fun acts => by rw [doInvoke_state]; exact hsteps.trans h⟩
  · exact Or.inr ⟨q, vm₁, B, X₁.warmed, X', hpost, hstep₁ _ fun acts => by rw [doInvoke_state]; exact hsteps⟩
theorem vx_callVW (X : Stand p l e R s m args below meth c T locs cells slots) (hexec : p.tables.exec = Jvm.exec) {own C : String} {index : Nat} {y : MethodName} {bytes : ByteArray} {maxL : Nat} {ret : Option FieldType} {hh : List (Nat × Nat × Nat × Nat)}
    (hown : s.vm.findClass own = some m.cls) (hlink : (Cond.methodLink own index y).before args s = true) (hinst : (Cond.instanceMethod y).before args s = true) (hsel : (Cond.selects C y y).before args s = true)
    (hcode : (Cond.codeWith y bytes maxL ret hh).before args s = true) (hy : y.cls ≠ "java/lang/invoke/MethodHandle" ∧ y.cls ≠ "java/lang/invoke/VarHandle")
    {W9 : Nat} {Pre : Pt → Array Value → Prop} {Post : Pt → Array Value → Option Value → Pt → Prop} (hK : Back l R p e below s args y 3 W9 Pre Post)
    {b : Addr} {cellB : Cell} (hcell : T.heap[b]? = some cellB) (hobj : cellB.vm.isStatics = false) (hcls : s.vm.findClass C = some cellB.cls)
    {g : JFrame} (hg : g.method = m) (hsize : g.locals.size = c.maxLocals) {argsL rest : List Value} (hlen : ∀ sig, parseMethodDescriptor y.desc = some sig → argsL.length = sig.parameters.length)
    (hstack : g.stack = argsL.reverse ++ .ref b :: rest) (hW : 2 * g.monitorRoom + (rest.map fun v => v.category).sum ≤ W9) (hdg : decode c.code g.pc = .ok (.invokevirtual index, 3))
    (hpre : ∀ vm₁, s.WarmedH vm₁ → Pre ⟨T.setVm vm₁, locs, cells, slots⟩ (Value.ref b :: argsL).toArray) :
    ∃ (v : Option Value) (vm₁ : Vm) (B : Pt), s.WarmedH vm₁ ∧ Stand p l e R s m args below meth c B.U B.locs B.cells B.slots ∧ Post ⟨T.setVm vm₁, locs, cells, slots⟩ (Value.ref b :: argsL).toArray v B ∧
      ∀ target, Steps p.tables e below (B.U.setTop { g with pc := g.pc + 3, stack := v.toList ++ rest }) target → Steps p.tables e below (T.setTop g) target := by
  obtain ⟨mk, methM, hnamed, hmethM, hstM, habM⟩ := Cond.instanceMethod_spec hinst
  obtain ⟨m8, methM', cM, hn8, hmethM', -, -, -, -, -, -, hsigM⟩ := Cond.codeWith_spec hcode
  cases Option.some.inj (hn8.symm.trans hnamed)
  cases hmethM.symm.trans hmethM'
  obtain ⟨c2, r2, m2, q1, q2, q3, q4, kP, hkP, hkPi⟩ := Cond.selects_spec hsel
  cases hcls.symm.trans q1
  cases (State.methodFound?_of_named hnamed hy).symm.trans q2
  cases hnamed.symm.trans q3
  have hselP : selectMethod e.platform s.vm cellB.cls mk = .method mk := by rw [Launch.admits_selectMethod X.admits]; exact q4
  obtain ⟨vm₁, X₁, hstep₁⟩ := X.invokevirtual hexec hown hlink hnamed hmethM hstM hkP hkPi hy (a := b) (cell := cellB) hcell
    (fun z h => by rw [h] at hobj; cases hobj) hselP hmethM habM hkP hkPi (g := g) hg (argsL := argsL) (rest := rest) (hlen _ hsigM) hstack hdg
  obtain ⟨v, B, X', hpost, hsteps⟩ := hK m meth c ⟨T.setVm vm₁, locs, cells, slots⟩ { g with stack := rest } (.invokevirtual index) mk (Value.ref b :: argsL).toArray X₁ hg hsize hdg hW (X₁.named hnamed) (hpre vm₁ X₁.warmed)
  exact ⟨v, vm₁, B, X₁.warmed, X', hpost, fun target h => hstep₁ _ fun acts => by rw [doInvoke_state]; exact hsteps.trans h⟩
abbrev vx_CVW (R : Room) (s : State) (args : Array Value) (own C : String) (index : Nat) (y : MethodName) (bytes : ByteArray) (maxL : Nat) (ret : Option FieldType) (hh : List (Nat × Nat × Nat × Nat)) (ws : List Cond) (rm : Room) (mc ms n : Nat) : Prop :=
  (rm.cells = mc ∧ rm.slots = ms ∧ rm.frames + 1 ≤ R.frames ∧ 8 + (maxL + 11) + rm.locals ≤ R.locals ∧ (∀ w ∈ ws, ∀ (a' : Array Value) (U : State), s.WarmedH U.vm → w.before a' U = true) ∧ Cond.codeWith y bytes maxL ret hh ∈ ws) ∧
  (Cond.codeWith y bytes maxL ret hh).before args s = true ∧ (Cond.initialized y.cls).before args s = true ∧ (y.cls ≠ "java/lang/invoke/MethodHandle" ∧ y.cls ≠ "java/lang/invoke/VarHandle") ∧
  (∀ sig, parseMethodDescriptor y.desc = some sig → n = sig.parameters.length) ∧ (Cond.methodLink own index y).before args s = true ∧ (Cond.instanceMethod y).before args s = true ∧ (Cond.selects C y y).before args s = true
theorem vx_cwVW {own C : String} {index maxL mc ms : Nat} {y : MethodName} {bytes : ByteArray} {ret : Option FieldType} {hh : List (Nat × Nat × Nat × Nat)} {Ts ws ws' : List Cond} {rm : Room} (n : Nat) (ht : ∀ w ∈ Ts, w.before args s = true) (hT : GoodIn Ts (wsV own index C y ws)) (hw : ws = Cond.codeWith y bytes maxL ret hh :: ws') (hrc : rm.cells = mc) (hrs : rm.slots = ms)
    (hd : y.cls = C ∧ y.cls ≠ "java/lang/invoke/MethodHandle" ∧ y.cls ≠ "java/lang/invoke/VarHandle" ∧ (parseMethodDescriptor y.desc).map (fun d => d.parameters.length) = some n) (hR : rm.frames + 1 ≤ R.frames ∧ 8 + (maxL + 11) + rm.locals ≤ R.locals) :
    vx_CVW R s args own C index y bytes maxL ret hh ws rm mc ms n := by
  obtain ⟨hC, hd⟩ := hd
  subst hC
  have ok : ∀ w ∈ wsV own index y.cls y ws, w.before args s = true := fun w h => ht w (hT w h).1
  have hG : GoodIn Ts ws := fun w h => hT w (by unfold wsV; exact List.mem_append_right _ h)
  have hc : Cond.codeWith y bytes maxL ret hh ∈ ws := by rw [hw]; exact List.mem_cons_self
  refine ⟨⟨hrc, hrs, hR.1, hR.2, pay_in ht hG, hc⟩, ht _ (hG _ hc).1, ok _ (by simp [wsV]), ⟨hd.1, hd.2.1⟩, fun sig h => ?_, ok _ (by simp [wsV]), ok _ (by simp [wsV]), ok _ (by simp [wsV])⟩
  have h2 := hd.2.2
  rw [h] at h2
  exact (Option.some.inj h2).symm
theorem vx_runVW {y : MethodName} {bytes cc : ByteArray} {maxL nL mc ms n index : Nat} {ret : Option FieldType} {hh : List (Nat × Nat × Nat × Nat)} {ws : List Cond} {rm : Room} {Pc : Array Value → State → Prop} {Qc : Array Value → State → Outcome → State → Prop} {free : Addr → Prop} {Ts : List Cond} {own C : String} {b : Addr} {As rest : List Value} {g : JFrame}
    (S : CallFix p m c cc nL s args Ts own) (hM : Met l y ws rm Pc Qc mc ms free) (cw : vx_CVW R s args own C index y bytes maxL ret hh ws rm mc ms n) (hp : PreV s H C b Pc As)
    (hg : g.method = m) (hn : As.length = n) (hsize : g.locals.size = nL) (hstack : g.stack = As.reverse ++ .ref b :: rest) (hW : 2 * g.monitorRoom + (rest.map fun v => v.category).sum ≤ 8) (hdg : decode cc g.pc = .ok (.invokevirtual index, 3)) (hf : cells + mc ≤ R.cells ∧ slots + ms ≤ R.slots) :
    va_Run p l e R s m args below meth c H locs cells slots mc ms g rest (Qc (Value.ref b :: As).toArray) free := by
  obtain ⟨⟨hrc, hrs, hfr, hlo, hws, hcw⟩, hcode, hini, hy, hlen, hl, hin, hse⟩ := cw
  have hK : Back l R p e below s args y 3 8 (PreOf R mc ms Pc) (PostOf Qc mc ms free) := va_backW (hh := hh) (bytes := bytes) (maxL := maxL) (ret := ret) hM hp.1 hrc hrs hfr hlo hws hcw (fun a' U hW => word_at hW (Or.inl (by first | rfl | simp [Cond.onTables, Cond.keeps, Cond.steady])) hini)
  obtain ⟨hx, hb, hml, ho, -⟩ := S
  obtain ⟨-, ⟨cellB, hcB, hoB, hclB⟩, hPc⟩ := hp
  intro T hT X
  obtain ⟨v, vm₁, ⟨U', l2, c2, s2⟩, hW₁, X', ⟨g', mk, t, L, e1, e2, hq, h1, hL, h2, h3⟩, st⟩ := vx_callVW X hx (C := C) (hh := hh) (bytes := bytes) (maxL := maxL) (ret := ret) ho hl hin hse hcode hy hK (by rw [hT]; exact hcB) hoB hclB hg (hsize.trans hml.symm) (argsL := As) (rest := rest) (fun sig h => hn.trans (hlen sig h)) hstack hW (by rw [hb]; exact hdg)
    (fun vm₁ hW₁ => ⟨hf.1, hf.2, hPc (T.setVm vm₁) hT hW₁⟩)
  dsimp only [Pt.U, Pt.locs, Pt.cells, Pt.slots] at X' e1 e2 h1 h2 h3 st
  subst h1; subst h2; subst h3
  exact ⟨v, (T.setVm vm₁).calling g' mk (Value.ref b :: As).toArray, t, U', L, hT, X', hL, e1, e2, hq, st⟩
section
variable {y : MethodName} {bytes cc : ByteArray} {maxL nL mc ms n index : Nat} {ret : Option FieldType} {ws : List Cond} {rm : Room} {Pc : Array Value → State → Prop} {Qc : Array Value → State → Outcome → State → Prop} {XC : String → State → State → Prop} {free : Addr → Prop} {Ts : List Cond} {own C : String} {b : Addr} {As rest : List Value} {g : JFrame}
theorem vx_runVX {hh : List (Nat × Nat × Nat × Nat)} (S : CallFix p m c cc nL s args Ts own) (hM : vx_Met l y ws rm Pc Qc XC mc ms free) (cw : vx_CVW R s args own C index y bytes maxL ret hh ws rm mc ms n) (hp : PreV s H C b Pc As)
    (hg : g.method = m) (hn : As.length = n) (hsize : g.locals.size = nL) (hstack : g.stack = As.reverse ++ .ref b :: rest) (hW : 2 * g.monitorRoom + (rest.map fun v => v.category).sum ≤ 8) (hdg : decode cc g.pc = .ok (.invokevirtual index, 3)) (hf : cells + mc ≤ R.cells ∧ slots + ms ≤ R.slots) :
    vx_Run p l e R s m args below meth c H locs cells slots mc ms g rest (Qc (Value.ref b :: As).toArray) XC free := by
  obtain ⟨⟨hrc, hrs, hfr, hlo, hws, hcw⟩, hcode, hini, hy, hlen, hl, hin, hse⟩ := cw
  have hK : vx_Back l R p e below s args y 3 8 (PreOf R mc ms Pc) (PostOf Qc mc ms free) (vx_Post XC mc ms free) := vx_backW (hh := hh) (bytes := bytes) (maxL := maxL) (ret := ret) hM hp.1 hrc hrs hfr hlo hws hcw (fun a' U hW => word_at hW (Or.inl (by first | rfl | simp [Cond.onTables, Cond.keeps, Cond.steady])) hini)
  obtain ⟨hx, hb, hml, ho, -⟩ := S
  obtain ⟨-, ⟨cellB, hcB, hoB, hclB⟩, hPc⟩ := hp
  intro T hT X
  rcases vx_callVX X hx (C := C) (hh := hh) (bytes := bytes) (maxL := maxL) (ret := ret) ho hl hin hse hcode hy hK (by rw [hT]; exact hcB) hoB hclB hg (hsize.trans hml.symm) (argsL := As) (rest := rest) (fun sig h => hn.trans (hlen sig h)) hstack hW (by rw [hb]; exact hdg)
    (fun vm₁ hW₁ => ⟨hf.1, hf.2, hPc (T.setVm vm₁) hT hW₁⟩) with ⟨v, vm₁, ⟨U', l2, c2, s2⟩, hW₁, X', ⟨g', mk, t, L, e1, e2, hq, h1, hL, h2, h3⟩, st⟩ | ⟨q, vm₁, ⟨U', l2, c2, s2⟩, hW₁, X', ⟨g', mk, t, L, E, ce, e1, e2, hq, hce, hcv, hcl, h1, hL, h2, h3⟩, st⟩
  · dsimp only [Pt.U, Pt.locs, Pt.cells, Pt.slots] at X' e1 e2 h1 h2 h3 st
    subst h1; subst h2; subst h3
    exact Or.inl ⟨v, (T.setVm vm₁).calling g' mk (Value.ref b :: As).toArray, t, U', L, hT, X', hL, e1, e2, hq, st⟩
  · dsimp only [Pt.U, Pt.locs, Pt.cells, Pt.slots] at X' e1 e2 h1 h2 h3 st hcl
    subst h1; subst h2; subst h3
    exact Or.inr ⟨q, (T.setVm vm₁).calling g' mk (Value.ref b :: As).toArray, t, U', L, E, ce, hT, X', hL, e1, e2, hq, hce, hcv, vx_cls hW₁ hcl, st⟩
theorem vx_runSX {hh : List (Nat × Nat × Nat × Nat)} (S : CallFix p m c cc nL s args Ts own) (hM : vx_Met l y ws rm Pc Qc XC mc ms free) (cw : vx_CSW R s args own index y bytes maxL ret hh ws rm mc ms n) (hp : PreS s H Pc As)
    (hg : g.method = m) (hn : As.length = n) (hsize : g.locals.size = nL) (hstack : g.stack = As.reverse ++ rest) (hW : 2 * g.monitorRoom + (rest.map fun v => v.category).sum ≤ 8) (hdg : decode cc g.pc = .ok (.invokestatic index, 3)) (hf : cells + mc ≤ R.cells ∧ slots + ms ≤ R.slots) :
    vx_Run p l e R s m args below meth c H locs cells slots mc ms g rest (Qc As.toArray) XC free := by
  obtain ⟨⟨hrc, hrs, hfr, hlo, hws, hcw⟩, hcode, hini, hy, hlen, hl, hstt⟩ := cw
  have hK : vx_Back l R p e below s args y 3 8 (PreOf R mc ms Pc) (PostOf Qc mc ms free) (vx_Post XC mc ms free) := vx_backW (hh := hh) (bytes := bytes) (maxL := maxL) (ret := ret) hM hp.1 hrc hrs hfr hlo hws hcw (fun a' U hW => word_at hW (Or.inl (by first | rfl | simp [Cond.onTables, Cond.keeps, Cond.steady])) hini)
  obtain ⟨hx, hb, hml, ho, -⟩ := S
  intro T hT X
  rcases vx_callSX X hx (hh := hh) (bytes := bytes) (maxL := maxL) (ret := ret) ho hl hstt hini hcode hy hK hg (hsize.trans hml.symm) (argsL := As) (rest := rest) (fun sig h => hn.trans (hlen sig h)) hstack hW (by rw [hb]; exact hdg)
    (fun vm₁ hW₁ => ⟨hf.1, hf.2, hp.2 (T.setVm vm₁) hT hW₁⟩) with ⟨v, vm₁, ⟨U', l2, c2, s2⟩, hW₁, X', ⟨g', mk, t, L, e1, e2, hq, h1, hL, h2, h3⟩, st⟩ | ⟨q, vm₁, ⟨U', l2, c2, s2⟩, hW₁, X', ⟨g', mk, t, L, E, ce, e1, e2, hq, hce, hcv, hcl, h1, hL, h2, h3⟩, st⟩
  · dsimp only [Pt.U, Pt.locs, Pt.cells, Pt.slots] at X' e1 e2 h1 h2 h3 st
    subst h1; subst h2; subst h3
    exact Or.inl ⟨v, (T.setVm vm₁).calling g' mk As.toArray, t, U', L, hT, X', hL, e1, e2, hq, st⟩
  · dsimp only [Pt.U, Pt.locs, Pt.cells, Pt.slots] at X' e1 e2 h1 h2 h3 st hcl
    subst h1; subst h2; subst h3
    exact Or.inr ⟨q, (T.setVm vm₁).calling g' mk As.toArray, t, U', L, E, ce, hT, X', hL, e1, e2, hq, hce, hcv, vx_cls hW₁ hcl, st⟩
end
end VXH
theorem vx_ofWH {l : Launch} {y : MethodName} {ws ws' : List Cond} {rm : Room} {Pc : Array Value → State → Prop} {Qc : Array Value → State → Outcome → State → Prop} {XC : String → State → State → Prop} {mc ms : Nat} {free : Addr → Prop} {cc : ByteArray} {maxL : Nat} {ret : Option FieldType} {hh : List (Nat × Nat × Nat × Nat)}
    (hy : plainName y.cls = true) (hw : ws = Cond.codeWith y cc maxL ret hh :: ws')
    (body : ∀ p e s m args below meth c s₁, BodyLoose p l y (headSpec ws rm) cc maxL ret e s m args below meth c s₁ → c.maxLocals = maxL → Pc args s →
      W p l e (headSpec ws rm).room s m args below meth c s.heap [] 0 0 (vx_MQ below Qc XC args s mc ms free) (entryFrame m args maxL)) : vx_Met l y ws rm Pc Qc XC mc ms free := by
  refine MetFree.of_bodyS (code := cc) (maxLocals := maxL) (ret := ret) hy ?_ ?_
  · intro args s m h hn
    obtain ⟨m9, meth, c, hn9, h1, h2, h3, h4, -, h5, h6, -⟩ := Cond.codeWith_spec (atoms_spec (ws := ws) h _ (by rw [hw]; exact List.mem_cons_self))
    cases hn.symm.trans hn9
    exact ⟨meth, c, h1, h2, h3, h4, h5, h6⟩
  · intro p e s m args below meth c s₁ B hml hP _
    have hh0 : s₁.heap = s.heap := by rw [B.state]; rfl
    obtain ⟨t, a1, o, b1, b2, b3⟩ := body p e s m args below meth c s₁ B hml hP s₁ hh0 (Stand.of_body B)
    exact ⟨t, o, a1, b1, b2, b3⟩
/-! ===== END ===== -/

/-! ===== BEGIN printed: names, fields, word lists, decode rows ===== -/
def RX0 : String := "NetPoints$Picture"
def TX0 : u_T := fun k => match k with
  | 0 => ("NetPoints$Picture", "receipts", "[[I", true)
  | 1 => ("NetPoints$Picture", "costs", "[I", true)
  | 2 => ("NetPoints$Picture", "feeRates", "[I", true)
  | 3 => ("NetPoints$Picture", "sharers", "Ljava/util/ArrayList;", true)
  | 4 => ("NetPoints$Picture", "topRate", "I", false)
  | 5 => ("NetPoints$Picture", "overheadRate", "I", false)
  | 6 => ("NetPoints$Picture", "interestRate", "I", false)
  | 7 => ("NetPoints$Picture", "balances", "[J", true)
  | 8 => ("NetPoints$Picture", "profits", "[J", true)
  | 9 => ("NetPoints$Picture", "grossSoFar", "J", false)
  | 10 => ("NetPoints$Picture", "adjustedSoFar", "J", false)
  | 11 => ("NetPoints$Picture", "feesSoFar", "J", false)
  | 12 => ("NetPoints$Picture", "sharesSoFar", "J", false)
  | 13 => ("NetPoints$Picture", "balanceSoFar", "J", false)
  | _ => ("NetPoints$Picture", "profitSoFar", "J", false)
def tyX0 : Nat → FieldType := fun k => match k with
  | 0 => .array (.array .int)
  | 1 => .array .int
  | 2 => .array .int
  | 3 => .object "java/util/ArrayList"
  | 4 => .int
  | 5 => .int
  | 6 => .int
  | 7 => .array .long
  | 8 => .array .long
  | 9 => .long
  | 10 => .long
  | 11 => .long
  | 12 => .long
  | 13 => .long
  | _ => .long
abbrev wsX00 : List Cond := u_ws RX0 TX0 15
theorem nmX0 : ∀ a, a < 15 → ∀ b, b < 15 → a ≠ b → (TX0 a).2.1 ≠ (TX0 b).2.1 := by decide +kernel
theorem tyX0_ok : ∀ k, k < 15 → parseFieldDescriptor (TX0 k).2.2.1 = some (tyX0 k) := by decide +kernel
abbrev cX0_init : ByteArray := prog_2_method_1_code
def yX0_init : MethodName := ⟨RX0, "<init>", "()V"⟩
abbrev cX0_netRatesGiven : ByteArray := prog_2_method_2_code
def yX0_netRatesGiven : MethodName := ⟨RX0, "netRatesGiven", "()I"⟩
abbrev cX0_startBooks : ByteArray := prog_2_method_3_code
def yX0_startBooks : MethodName := ⟨RX0, "startBooks", "()V"⟩
abbrev cX0_recoup : ByteArray := prog_2_method_4_code
def yX0_recoup : MethodName := ⟨RX0, "recoup", "(I)J"⟩
abbrev cX0_moveGain : ByteArray := prog_2_method_5_code
def yX0_moveGain : MethodName := ⟨RX0, "moveGain", "(JLNetPoints$Picture;)V"⟩
abbrev cX0_finishYear : ByteArray := prog_2_method_6_code
def yX0_finishYear : MethodName := ⟨RX0, "finishYear", "(I)V"⟩
abbrev cX0_sumDrawn : ByteArray := prog_2_method_7_code
def yX0_sumDrawn : MethodName := ⟨RX0, "sumDrawn", "(LNetPoints$Sharer;)J"⟩
abbrev cX0_poolDrawn : ByteArray := prog_2_method_8_code
def yX0_poolDrawn : MethodName := ⟨RX0, "poolDrawn", "()J"⟩
abbrev cX0_grossIn : ByteArray := prog_2_method_9_code
def yX0_grossIn : MethodName := ⟨RX0, "grossIn", "(I)J"⟩
abbrev cX0_feesIn : ByteArray := prog_2_method_10_code
def yX0_feesIn : MethodName := ⟨RX0, "feesIn", "(I)J"⟩
abbrev cX0_sharesThatAreCosts : ByteArray := prog_2_method_11_code
def yX0_sharesThatAreCosts : MethodName := ⟨RX0, "sharesThatAreCosts", "()J"⟩
abbrev cX0_profitLeftAt : ByteArray := prog_2_method_12_code
def yX0_profitLeftAt : MethodName := ⟨RX0, "profitLeftAt", "(I)J"⟩
def RX1 : String := "NetPoints$Sharer"
def TX1 : u_T := fun k => match k with
  | 0 => ("NetPoints$Sharer", "picture", "LNetPoints$Picture;", true)
  | 1 => ("NetPoints$Sharer", "turn", "I", true)
  | 2 => ("NetPoints$Sharer", "kind", "I", true)
  | 3 => ("NetPoints$Sharer", "limit", "I", true)
  | 4 => ("NetPoints$Sharer", "first", "I", true)
  | 5 => ("NetPoints$Sharer", "second", "I", true)
  | _ => ("NetPoints$Sharer", "paidSoFar", "J", false)
def tyX1 : Nat → FieldType := fun k => match k with
  | 0 => .object "NetPoints$Picture"
  | 1 => .int
  | 2 => .int
  | 3 => .int
  | 4 => .int
  | 5 => .int
  | _ => .long
abbrev wsX10 : List Cond := u_ws RX1 TX1 7
theorem nmX1 : ∀ a, a < 7 → ∀ b, b < 7 → a ≠ b → (TX1 a).2.1 ≠ (TX1 b).2.1 := by decide +kernel
theorem tyX1_ok : ∀ k, k < 7 → parseFieldDescriptor (TX1 k).2.2.1 = some (tyX1 k) := by decide +kernel
abbrev cX1_init : ByteArray := prog_3_method_1_code
def yX1_init : MethodName := ⟨RX1, "<init>", "(LNetPoints$Picture;IIIII)V"⟩
abbrev cX1_shareOf : ByteArray := prog_3_method_2_code
def yX1_shareOf : MethodName := ⟨RX1, "shareOf", "(J)J"⟩
abbrev cX1_bonusAt : ByteArray := prog_3_method_3_code
def yX1_bonusAt : MethodName := ⟨RX1, "bonusAt", "(J)J"⟩
def RX2 : String := "NetPoints"
def TX2 : u_T := fun k => match k with
  | 0 => ("NetPoints", "picture0", "LNetPoints$Picture;", true)
  | 1 => ("NetPoints", "picture1", "LNetPoints$Picture;", true)
  | 2 => ("NetPoints", "allSharers", "Ljava/util/ArrayList;", true)
  | 3 => ("NetPoints", "crossed", "Z", false)
  | _ => ("NetPoints", "yearOfNow", "I", false)
def tyX2 : Nat → FieldType := fun k => match k with
  | 0 => .object "NetPoints$Picture"
  | 1 => .object "NetPoints$Picture"
  | 2 => .object "java/util/ArrayList"
  | 3 => .boolean
  | _ => .int
abbrev wsX20 : List Cond := u_ws RX2 TX2 5
theorem nmX2 : ∀ a, a < 5 → ∀ b, b < 5 → a ≠ b → (TX2 a).2.1 ≠ (TX2 b).2.1 := by decide +kernel
theorem tyX2_ok : ∀ k, k < 5 → parseFieldDescriptor (TX2 k).2.2.1 = some (tyX2 k) := by decide +kernel
abbrev cX2_init : ByteArray := prog_1_method_1_code
def yX2_init : MethodName := ⟨RX2, "<init>", "()V"⟩
abbrev cX2_setRates : ByteArray := prog_1_method_2_code
def yX2_setRates : MethodName := ⟨RX2, "setRates", "(IIII)V"⟩
abbrev cX2_setFee : ByteArray := prog_1_method_3_code
def yX2_setFee : MethodName := ⟨RX2, "setFee", "(III)I"⟩
abbrev cX2_setCrossed : ByteArray := prog_1_method_4_code
def yX2_setCrossed : MethodName := ⟨RX2, "setCrossed", "(Z)Z"⟩
abbrev cX2_add : ByteArray := prog_1_method_5_code
def yX2_add : MethodName := ⟨RX2, "add", "(IIIII)I"⟩
abbrev cX2_receive : ByteArray := prog_1_method_6_code
def yX2_receive : MethodName := ⟨RX2, "receive", "(III)I"⟩
abbrev cX2_spend : ByteArray := prog_1_method_7_code
def yX2_spend : MethodName := ⟨RX2, "spend", "(II)I"⟩
abbrev cX2_audit : ByteArray := prog_1_method_8_code
def yX2_audit : MethodName := ⟨RX2, "audit", "(IIII)I"⟩
abbrev cX2_closeYear : ByteArray := prog_1_method_9_code
def yX2_closeYear : MethodName := ⟨RX2, "closeYear", "()I"⟩
abbrev cX2_pay : ByteArray := prog_1_method_10_code
def yX2_pay : MethodName := ⟨RX2, "pay", "(I)I"⟩
abbrev cX2_year : ByteArray := prog_1_method_11_code
def yX2_year : MethodName := ⟨RX2, "year", "()I"⟩
abbrev cX2_gross : ByteArray := prog_1_method_12_code
def yX2_gross : MethodName := ⟨RX2, "gross", "(I)I"⟩
abbrev cX2_adjusted : ByteArray := prog_1_method_13_code
def yX2_adjusted : MethodName := ⟨RX2, "adjusted", "(I)I"⟩
abbrev cX2_fees : ByteArray := prog_1_method_14_code
def yX2_fees : MethodName := ⟨RX2, "fees", "(I)I"⟩
abbrev cX2_balance : ByteArray := prog_1_method_15_code
def yX2_balance : MethodName := ⟨RX2, "balance", "(II)I"⟩
abbrev cX2_profit : ByteArray := prog_1_method_16_code
def yX2_profit : MethodName := ⟨RX2, "profit", "(II)I"⟩
abbrev cX2_pool : ByteArray := prog_1_method_17_code
def yX2_pool : MethodName := ⟨RX2, "pool", "(I)I"⟩
abbrev cX2_sharers : ByteArray := prog_1_method_18_code
def yX2_sharers : MethodName := ⟨RX2, "sharers", "()I"⟩
abbrev cX2_sum : ByteArray := prog_1_method_19_code
def yX2_sum : MethodName := ⟨RX2, "sum", "(I)I"⟩
abbrev cX2_paid : ByteArray := prog_1_method_20_code
def yX2_paid : MethodName := ⟨RX2, "paid", "(I)I"⟩
abbrev cX2_owed : ByteArray := prog_1_method_21_code
def yX2_owed : MethodName := ⟨RX2, "owed", "(I)I"⟩
abbrev cX2_requirePicture : ByteArray := prog_1_method_22_code
def yX2_requirePicture : MethodName := ⟨RX2, "requirePicture", "(I)V"⟩
abbrev cX2_requireWindow : ByteArray := prog_1_method_23_code
def yX2_requireWindow : MethodName := ⟨RX2, "requireWindow", "(I)V"⟩
abbrev cX2_requireRange : ByteArray := prog_1_method_24_code
def yX2_requireRange : MethodName := ⟨RX2, "requireRange", "(III)V"⟩
abbrev cX2_requireSharer : ByteArray := prog_1_method_25_code
def yX2_requireSharer : MethodName := ⟨RX2, "requireSharer", "(I)V"⟩
abbrev cX2_requireRoom : ByteArray := prog_1_method_26_code
def yX2_requireRoom : MethodName := ⟨RX2, "requireRoom", "(LNetPoints$Picture;II)V"⟩
abbrev cX2_requireOpenToAudit : ByteArray := prog_1_method_27_code
def yX2_requireOpenToAudit : MethodName := ⟨RX2, "requireOpenToAudit", "(I)V"⟩
abbrev cX2_pictureOf : ByteArray := prog_1_method_28_code
def yX2_pictureOf : MethodName := ⟨RX2, "pictureOf", "(I)LNetPoints$Picture;"⟩
abbrev cX2_drawnSum : ByteArray := prog_1_method_29_code
def yX2_drawnSum : MethodName := ⟨RX2, "drawnSum", "(LNetPoints$Sharer;)J"⟩
abbrev cX2_drawBooks : ByteArray := prog_1_method_30_code
def yX2_drawBooks : MethodName := ⟨RX2, "drawBooks", "()V"⟩
abbrev cX2_part : ByteArray := prog_1_method_31_code
def yX2_part : MethodName := ⟨RX2, "part", "(JI)J"⟩
def RX3 : String := "NetPointsModel"
def TX3 : u_T := fun k => match k with
  | 0 => ("NetPointsModel", "receipts", "[I", true)
  | 1 => ("NetPointsModel", "costs", "[I", true)
  | 2 => ("NetPointsModel", "feeRates", "[I", true)
  | 3 => ("NetPointsModel", "tops", "[I", true)
  | 4 => ("NetPointsModel", "overheads", "[I", true)
  | 5 => ("NetPointsModel", "interests", "[I", true)
  | 6 => ("NetPointsModel", "crossed", "Z", false)
  | 7 => ("NetPointsModel", "now", "I", false)
  | 8 => ("NetPointsModel", "pictures", "[I", true)
  | 9 => ("NetPointsModel", "kinds", "[I", true)
  | 10 => ("NetPointsModel", "limits", "[I", true)
  | 11 => ("NetPointsModel", "firsts", "[I", true)
  | 12 => ("NetPointsModel", "seconds", "[I", true)
  | 13 => ("NetPointsModel", "paidTo", "[I", true)
  | 14 => ("NetPointsModel", "many", "I", false)
  | 15 => ("NetPointsModel", "balances", "[J", true)
  | 16 => ("NetPointsModel", "profits", "[J", true)
  | 17 => ("NetPointsModel", "gained", "[J", true)
  | _ => ("NetPointsModel", "thrown", "I", false)
def tyX3 : Nat → FieldType := fun k => match k with
  | 0 => .array .int
  | 1 => .array .int
  | 2 => .array .int
  | 3 => .array .int
  | 4 => .array .int
  | 5 => .array .int
  | 6 => .boolean
  | 7 => .int
  | 8 => .array .int
  | 9 => .array .int
  | 10 => .array .int
  | 11 => .array .int
  | 12 => .array .int
  | 13 => .array .int
  | 14 => .int
  | 15 => .array .long
  | 16 => .array .long
  | 17 => .array .long
  | _ => .int
abbrev wsX30 : List Cond := u_ws RX3 TX3 19
theorem nmX3 : ∀ a, a < 19 → ∀ b, b < 19 → a ≠ b → (TX3 a).2.1 ≠ (TX3 b).2.1 := by decide +kernel
theorem tyX3_ok : ∀ k, k < 19 → parseFieldDescriptor (TX3 k).2.2.1 = some (tyX3 k) := by decide +kernel
abbrev cX3_init : ByteArray := prog_5_method_1_code
def yX3_init : MethodName := ⟨RX3, "<init>", "()V"⟩
abbrev cX3_thrown : ByteArray := prog_5_method_2_code
def yX3_thrown : MethodName := ⟨RX3, "thrown", "()I"⟩
abbrev cX3_fails : ByteArray := prog_5_method_3_code
def yX3_fails : MethodName := ⟨RX3, "fails", "(I)I"⟩
abbrev cX3_in : ByteArray := prog_5_method_4_code
def yX3_in : MethodName := ⟨RX3, "in", "(III)Z"⟩
abbrev cX3_isPicture : ByteArray := prog_5_method_5_code
def yX3_isPicture : MethodName := ⟨RX3, "isPicture", "(I)Z"⟩
abbrev cX3_isWindow : ByteArray := prog_5_method_6_code
def yX3_isWindow : MethodName := ⟨RX3, "isWindow", "(II)Z"⟩
abbrev cX3_at : ByteArray := prog_5_method_7_code
def yX3_at : MethodName := ⟨RX3, "at", "(III)I"⟩
abbrev cX3_setRates : ByteArray := prog_5_method_8_code
def yX3_setRates : MethodName := ⟨RX3, "setRates", "(IIII)V"⟩
abbrev cX3_setFee : ByteArray := prog_5_method_9_code
def yX3_setFee : MethodName := ⟨RX3, "setFee", "(III)I"⟩
abbrev cX3_setCrossed : ByteArray := prog_5_method_10_code
def yX3_setCrossed : MethodName := ⟨RX3, "setCrossed", "(Z)Z"⟩
abbrev cX3_add : ByteArray := prog_5_method_11_code
def yX3_add : MethodName := ⟨RX3, "add", "(IIIII)I"⟩
abbrev cX3_receive : ByteArray := prog_5_method_12_code
def yX3_receive : MethodName := ⟨RX3, "receive", "(III)I"⟩
abbrev cX3_spend : ByteArray := prog_5_method_13_code
def yX3_spend : MethodName := ⟨RX3, "spend", "(II)I"⟩
abbrev cX3_audit : ByteArray := prog_5_method_14_code
def yX3_audit : MethodName := ⟨RX3, "audit", "(IIII)I"⟩
abbrev cX3_closeYear : ByteArray := prog_5_method_15_code
def yX3_closeYear : MethodName := ⟨RX3, "closeYear", "()I"⟩
abbrev cX3_grossOf : ByteArray := prog_5_method_16_code
def yX3_grossOf : MethodName := ⟨RX3, "grossOf", "(II)J"⟩
abbrev cX3_adjustedOf : ByteArray := prog_5_method_17_code
def yX3_adjustedOf : MethodName := ⟨RX3, "adjustedOf", "(II)J"⟩
abbrev cX3_feesOf : ByteArray := prog_5_method_18_code
def yX3_feesOf : MethodName := ⟨RX3, "feesOf", "(II)J"⟩
abbrev cX3_parted : ByteArray := prog_5_method_19_code
def yX3_parted : MethodName := ⟨RX3, "parted", "(JI)J"⟩
abbrev cX3_upTo : ByteArray := prog_5_method_20_code
def yX3_upTo : MethodName := ⟨RX3, "upTo", "(II)J"⟩
abbrev cX3_move : ByteArray := prog_5_method_21_code
def yX3_move : MethodName := ⟨RX3, "move", "(III)V"⟩
abbrev cX3_lay : ByteArray := prog_5_method_22_code
def yX3_lay : MethodName := ⟨RX3, "lay", "()V"⟩
abbrev cX3_deferred : ByteArray := prog_5_method_23_code
def yX3_deferred : MethodName := ⟨RX3, "deferred", "(II)J"⟩
abbrev cX3_sumOf : ByteArray := prog_5_method_24_code
def yX3_sumOf : MethodName := ⟨RX3, "sumOf", "(I)J"⟩
abbrev cX3_isSharer : ByteArray := prog_5_method_25_code
def yX3_isSharer : MethodName := ⟨RX3, "isSharer", "(I)Z"⟩
abbrev cX3_pay : ByteArray := prog_5_method_26_code
def yX3_pay : MethodName := ⟨RX3, "pay", "(I)I"⟩
abbrev cX3_year : ByteArray := prog_5_method_27_code
def yX3_year : MethodName := ⟨RX3, "year", "()I"⟩
abbrev cX3_gross : ByteArray := prog_5_method_28_code
def yX3_gross : MethodName := ⟨RX3, "gross", "(I)I"⟩
abbrev cX3_adjusted : ByteArray := prog_5_method_29_code
def yX3_adjusted : MethodName := ⟨RX3, "adjusted", "(I)I"⟩
abbrev cX3_fees : ByteArray := prog_5_method_30_code
def yX3_fees : MethodName := ⟨RX3, "fees", "(I)I"⟩
abbrev cX3_isYear : ByteArray := prog_5_method_31_code
def yX3_isYear : MethodName := ⟨RX3, "isYear", "(II)Z"⟩
abbrev cX3_balance : ByteArray := prog_5_method_32_code
def yX3_balance : MethodName := ⟨RX3, "balance", "(II)I"⟩
abbrev cX3_profit : ByteArray := prog_5_method_33_code
def yX3_profit : MethodName := ⟨RX3, "profit", "(II)I"⟩
abbrev cX3_pool : ByteArray := prog_5_method_34_code
def yX3_pool : MethodName := ⟨RX3, "pool", "(I)I"⟩
abbrev cX3_sharers : ByteArray := prog_5_method_35_code
def yX3_sharers : MethodName := ⟨RX3, "sharers", "()I"⟩
abbrev cX3_sum : ByteArray := prog_5_method_36_code
def yX3_sum : MethodName := ⟨RX3, "sum", "(I)I"⟩
abbrev cX3_paid : ByteArray := prog_5_method_37_code
def yX3_paid : MethodName := ⟨RX3, "paid", "(I)I"⟩
abbrev cX3_owed : ByteArray := prog_5_method_38_code
def yX3_owed : MethodName := ⟨RX3, "owed", "(I)I"⟩
def RJx145de : String := "java/io/Serializable"
def TJx145de : u_T := fun k => match k with
  | _ => ("", "", "", false)
def tyJx145de : Nat → FieldType := fun k => match k with
  | _ => .int
abbrev wsJx145de0 : List Cond := u_ws RJx145de TJx145de 0
theorem nmJx145de : ∀ a, a < 0 → ∀ b, b < 0 → a ≠ b → (TJx145de a).2.1 ≠ (TJx145de b).2.1 := by decide +kernel
theorem tyJx145de_ok : ∀ k, k < 0 → parseFieldDescriptor (TJx145de k).2.2.1 = some (tyJx145de k) := by decide +kernel
def RJx8e188 : String := "java/lang/Cloneable"
def TJx8e188 : u_T := fun k => match k with
  | _ => ("", "", "", false)
def tyJx8e188 : Nat → FieldType := fun k => match k with
  | _ => .int
abbrev wsJx8e1880 : List Cond := u_ws RJx8e188 TJx8e188 0
theorem nmJx8e188 : ∀ a, a < 0 → ∀ b, b < 0 → a ≠ b → (TJx8e188 a).2.1 ≠ (TJx8e188 b).2.1 := by decide +kernel
theorem tyJx8e188_ok : ∀ k, k < 0 → parseFieldDescriptor (TJx8e188 k).2.2.1 = some (tyJx8e188 k) := by decide +kernel
def RJxab1ab : String := "java/lang/Iterable"
def TJxab1ab : u_T := fun k => match k with
  | _ => ("", "", "", false)
def tyJxab1ab : Nat → FieldType := fun k => match k with
  | _ => .int
abbrev wsJxab1ab0 : List Cond := u_ws RJxab1ab TJxab1ab 0
theorem nmJxab1ab : ∀ a, a < 0 → ∀ b, b < 0 → a ≠ b → (TJxab1ab a).2.1 ≠ (TJxab1ab b).2.1 := by decide +kernel
theorem tyJxab1ab_ok : ∀ k, k < 0 → parseFieldDescriptor (TJxab1ab k).2.2.1 = some (tyJxab1ab k) := by decide +kernel
def RJ9 : String := "java/lang/Math"
def TJ9 : u_T := fun k => match k with
  | _ => ("", "", "", false)
def tyJ9 : Nat → FieldType := fun k => match k with
  | _ => .int
abbrev wsJ90 : List Cond := u_ws RJ9 TJ9 0
theorem nmJ9 : ∀ a, a < 0 → ∀ b, b < 0 → a ≠ b → (TJ9 a).2.1 ≠ (TJ9 b).2.1 := by decide +kernel
theorem tyJ9_ok : ∀ k, k < 0 → parseFieldDescriptor (TJ9 k).2.2.1 = some (tyJ9 k) := by decide +kernel
abbrev cJ9_max_7cf53 : ByteArray := prog_13_method_65_code
def yJ9_max_7cf53 : MethodName := ⟨RJ9, "max", "(II)I"⟩
abbrev cJ9_min_7cf53 : ByteArray := prog_13_method_69_code
def yJ9_min_7cf53 : MethodName := ⟨RJ9, "min", "(II)I"⟩
abbrev cJ9_min_f86c9 : ByteArray := prog_13_method_70_code
def yJ9_min_f86c9 : MethodName := ⟨RJ9, "min", "(JJ)J"⟩
def RJ0 : String := "java/lang/String"
def TJ0 : u_T := fun k => match k with
  | _ => ("", "", "", false)
def tyJ0 : Nat → FieldType := fun k => match k with
  | _ => .int
abbrev wsJ00 : List Cond := u_ws RJ0 TJ0 0
theorem nmJ0 : ∀ a, a < 0 → ∀ b, b < 0 → a ≠ b → (TJ0 a).2.1 ≠ (TJ0 b).2.1 := by decide +kernel
theorem tyJ0_ok : ∀ k, k < 0 → parseFieldDescriptor (TJ0 k).2.2.1 = some (tyJ0 k) := by decide +kernel
def RJ10 : String := "java/lang/System"
def TJ10 : u_T := fun k => match k with
  | _ => ("", "", "", false)
def tyJ10 : Nat → FieldType := fun k => match k with
  | _ => .int
abbrev wsJ100 : List Cond := u_ws RJ10 TJ10 0
theorem nmJ10 : ∀ a, a < 0 → ∀ b, b < 0 → a ≠ b → (TJ10 a).2.1 ≠ (TJ10 b).2.1 := by decide +kernel
theorem tyJ10_ok : ∀ k, k < 0 → parseFieldDescriptor (TJ10 k).2.2.1 = some (tyJ10 k) := by decide +kernel
def RJxa1e45 : String := "java/util/AbstractCollection"
def TJxa1e45 : u_T := fun k => match k with
  | _ => ("", "", "", false)
def tyJxa1e45 : Nat → FieldType := fun k => match k with
  | _ => .int
abbrev wsJxa1e450 : List Cond := u_ws RJxa1e45 TJxa1e45 0
theorem nmJxa1e45 : ∀ a, a < 0 → ∀ b, b < 0 → a ≠ b → (TJxa1e45 a).2.1 ≠ (TJxa1e45 b).2.1 := by decide +kernel
theorem tyJxa1e45_ok : ∀ k, k < 0 → parseFieldDescriptor (TJxa1e45 k).2.2.1 = some (tyJxa1e45 k) := by decide +kernel
abbrev cJxa1e45_init_da8c8 : ByteArray := prog_18_method_1_code
def yJxa1e45_init_da8c8 : MethodName := ⟨RJxa1e45, "<init>", "()V"⟩
def RJxc12de : String := "java/util/AbstractList"
def TJxc12de : u_T := fun k => match k with
  | _ => ("", "", "", false)
def tyJxc12de : Nat → FieldType := fun k => match k with
  | _ => .int
abbrev wsJxc12de0 : List Cond := u_ws RJxc12de TJxc12de 0
theorem nmJxc12de : ∀ a, a < 0 → ∀ b, b < 0 → a ≠ b → (TJxc12de a).2.1 ≠ (TJxc12de b).2.1 := by decide +kernel
theorem tyJxc12de_ok : ∀ k, k < 0 → parseFieldDescriptor (TJxc12de k).2.2.1 = some (tyJxc12de k) := by decide +kernel
abbrev cJxc12de_init_da8c8 : ByteArray := prog_19_method_1_code
def yJxc12de_init_da8c8 : MethodName := ⟨RJxc12de, "<init>", "()V"⟩
def RJx4a65c : String := "java/util/ArrayList"
def TJx4a65c : u_T := fun k => match k with
  | 0 => ("java/util/AbstractList", "modCount", "I", false)
  | 1 => ("java/util/ArrayList", "elementData", "[Ljava/lang/Object;", false)
  | _ => ("java/util/ArrayList", "size", "I", false)
def tyJx4a65c : Nat → FieldType := fun k => match k with
  | 0 => .int
  | 1 => .array (.object "java/lang/Object")
  | _ => .int
abbrev wsJx4a65c0 : List Cond := u_ws RJx4a65c TJx4a65c 3
theorem nmJx4a65c : ∀ a, a < 3 → ∀ b, b < 3 → a ≠ b → (TJx4a65c a).2.1 ≠ (TJx4a65c b).2.1 := by decide +kernel
theorem tyJx4a65c_ok : ∀ k, k < 3 → parseFieldDescriptor (TJx4a65c k).2.2.1 = some (tyJx4a65c k) := by decide +kernel
abbrev cJx4a65c_init_da8c8 : ByteArray := prog_20_method_2_code
def yJx4a65c_init_da8c8 : MethodName := ⟨RJx4a65c, "<init>", "()V"⟩
abbrev cJx4a65c_grow_92f84 : ByteArray := prog_20_method_6_code
def yJx4a65c_grow_92f84 : MethodName := ⟨RJx4a65c, "grow", "(I)[Ljava/lang/Object;"⟩
abbrev cJx4a65c_grow_d5877 : ByteArray := prog_20_method_7_code
def yJx4a65c_grow_d5877 : MethodName := ⟨RJx4a65c, "grow", "()[Ljava/lang/Object;"⟩
abbrev cJx4a65c_size_8abf5 : ByteArray := prog_20_method_8_code
def yJx4a65c_size_8abf5 : MethodName := ⟨RJx4a65c, "size", "()I"⟩
abbrev cJx4a65c_elementData_915e3 : ByteArray := prog_20_method_18_code
def yJx4a65c_elementData_915e3 : MethodName := ⟨RJx4a65c, "elementData", "(I)Ljava/lang/Object;"⟩
abbrev cJx4a65c_get_915e3 : ByteArray := prog_20_method_20_code
def yJx4a65c_get_915e3 : MethodName := ⟨RJx4a65c, "get", "(I)Ljava/lang/Object;"⟩
abbrev cJx4a65c_add_72be8 : ByteArray := prog_20_method_24_code
def yJx4a65c_add_72be8 : MethodName := ⟨RJx4a65c, "add", "(Ljava/lang/Object;[Ljava/lang/Object;I)V"⟩
abbrev cJx4a65c_add_9ea2d : ByteArray := prog_20_method_25_code
def yJx4a65c_add_9ea2d : MethodName := ⟨RJx4a65c, "add", "(Ljava/lang/Object;)Z"⟩
def RJ7 : String := "java/util/Arrays"
def TJ7 : u_T := fun k => match k with
  | _ => ("", "", "", false)
def tyJ7 : Nat → FieldType := fun k => match k with
  | _ => .int
abbrev wsJ70 : List Cond := u_ws RJ7 TJ7 0
theorem nmJ7 : ∀ a, a < 0 → ∀ b, b < 0 → a ≠ b → (TJ7 a).2.1 ≠ (TJ7 b).2.1 := by decide +kernel
theorem tyJ7_ok : ∀ k, k < 0 → parseFieldDescriptor (TJ7 k).2.2.1 = some (tyJ7 k) := by decide +kernel
abbrev cJ7_copyOf_1904c : ByteArray := prog_21_method_119_code
def yJ7_copyOf_1904c : MethodName := ⟨RJ7, "copyOf", "([Ljava/lang/Object;I)[Ljava/lang/Object;"⟩
abbrev cJ7_copyOf_6403c : ByteArray := prog_21_method_120_code
def yJ7_copyOf_6403c : MethodName := ⟨RJ7, "copyOf", "([Ljava/lang/Object;ILjava/lang/Class;)[Ljava/lang/Object;"⟩
def RJx5ef63 : String := "java/util/Collection"
def TJx5ef63 : u_T := fun k => match k with
  | _ => ("", "", "", false)
def tyJx5ef63 : Nat → FieldType := fun k => match k with
  | _ => .int
abbrev wsJx5ef630 : List Cond := u_ws RJx5ef63 TJx5ef63 0
theorem nmJx5ef63 : ∀ a, a < 0 → ∀ b, b < 0 → a ≠ b → (TJx5ef63 a).2.1 ≠ (TJx5ef63 b).2.1 := by decide +kernel
theorem tyJx5ef63_ok : ∀ k, k < 0 → parseFieldDescriptor (TJx5ef63 k).2.2.1 = some (tyJx5ef63 k) := by decide +kernel
def RJxbd725 : String := "java/util/List"
def TJxbd725 : u_T := fun k => match k with
  | _ => ("", "", "", false)
def tyJxbd725 : Nat → FieldType := fun k => match k with
  | _ => .int
abbrev wsJxbd7250 : List Cond := u_ws RJxbd725 TJxbd725 0
theorem nmJxbd725 : ∀ a, a < 0 → ∀ b, b < 0 → a ≠ b → (TJxbd725 a).2.1 ≠ (TJxbd725 b).2.1 := by decide +kernel
theorem tyJxbd725_ok : ∀ k, k < 0 → parseFieldDescriptor (TJxbd725 k).2.2.1 = some (tyJxbd725 k) := by decide +kernel
def RJ15 : String := "java/util/Objects"
def TJ15 : u_T := fun k => match k with
  | _ => ("", "", "", false)
def tyJ15 : Nat → FieldType := fun k => match k with
  | _ => .int
abbrev wsJ150 : List Cond := u_ws RJ15 TJ15 0
theorem nmJ15 : ∀ a, a < 0 → ∀ b, b < 0 → a ≠ b → (TJ15 a).2.1 ≠ (TJ15 b).2.1 := by decide +kernel
theorem tyJ15_ok : ∀ k, k < 0 → parseFieldDescriptor (TJ15 k).2.2.1 = some (tyJ15 k) := by decide +kernel
abbrev cJ15_checkIndex_7cf53 : ByteArray := prog_24_method_17_code
def yJ15_checkIndex_7cf53 : MethodName := ⟨RJ15, "checkIndex", "(II)I"⟩
def RJxf0a74 : String := "java/util/RandomAccess"
def TJxf0a74 : u_T := fun k => match k with
  | _ => ("", "", "", false)
def tyJxf0a74 : Nat → FieldType := fun k => match k with
  | _ => .int
abbrev wsJxf0a740 : List Cond := u_ws RJxf0a74 TJxf0a74 0
theorem nmJxf0a74 : ∀ a, a < 0 → ∀ b, b < 0 → a ≠ b → (TJxf0a74 a).2.1 ≠ (TJxf0a74 b).2.1 := by decide +kernel
theorem tyJxf0a74_ok : ∀ k, k < 0 → parseFieldDescriptor (TJxf0a74 k).2.2.1 = some (tyJxf0a74 k) := by decide +kernel
def RJxa66e6 : String := "java/util/SequencedCollection"
def TJxa66e6 : u_T := fun k => match k with
  | _ => ("", "", "", false)
def tyJxa66e6 : Nat → FieldType := fun k => match k with
  | _ => .int
abbrev wsJxa66e60 : List Cond := u_ws RJxa66e6 TJxa66e6 0
theorem nmJxa66e6 : ∀ a, a < 0 → ∀ b, b < 0 → a ≠ b → (TJxa66e6 a).2.1 ≠ (TJxa66e6 b).2.1 := by decide +kernel
theorem tyJxa66e6_ok : ∀ k, k < 0 → parseFieldDescriptor (TJxa66e6 k).2.2.1 = some (tyJxa66e6 k) := by decide +kernel
def RJ8 : String := "jdk/internal/util/ArraysSupport"
def TJ8 : u_T := fun k => match k with
  | _ => ("", "", "", false)
def tyJ8 : Nat → FieldType := fun k => match k with
  | _ => .int
abbrev wsJ80 : List Cond := u_ws RJ8 TJ8 0
theorem nmJ8 : ∀ a, a < 0 → ∀ b, b < 0 → a ≠ b → (TJ8 a).2.1 ≠ (TJ8 b).2.1 := by decide +kernel
theorem tyJ8_ok : ∀ k, k < 0 → parseFieldDescriptor (TJ8 k).2.2.1 = some (tyJ8 k) := by decide +kernel
abbrev cJ8_newLength_cabcc : ByteArray := prog_27_method_27_code
def yJ8_newLength_cabcc : MethodName := ⟨RJ8, "newLength", "(III)I"⟩
abbrev cJ8_hugeLength_7cf53 : ByteArray := prog_27_method_28_code
def yJ8_hugeLength_7cf53 : MethodName := ⟨RJ8, "hugeLength", "(II)I"⟩
def RJ3 : String := "jdk/internal/util/Preconditions"
def TJ3 : u_T := fun k => match k with
  | _ => ("", "", "", false)
def tyJ3 : Nat → FieldType := fun k => match k with
  | _ => .int
abbrev wsJ30 : List Cond := u_ws RJ3 TJ3 0
theorem nmJ3 : ∀ a, a < 0 → ∀ b, b < 0 → a ≠ b → (TJ3 a).2.1 ≠ (TJ3 b).2.1 := by decide +kernel
theorem tyJ3_ok : ∀ k, k < 0 → parseFieldDescriptor (TJ3 k).2.2.1 = some (tyJ3 k) := by decide +kernel
abbrev cJ3_checkIndex_8e157 : ByteArray := prog_28_method_11_code
def yJ3_checkIndex_8e157 : MethodName := ⟨RJ3, "checkIndex", "(IILjava/util/function/BiFunction;)I"⟩
def RL : String := "NetPointsLaw"
abbrev cL_setRates : ByteArray := method_3_code
def yL_setRates : MethodName := ⟨RL, "setRates", "(LNetPoints;IIII)I"⟩
abbrev cL_setFee : ByteArray := method_4_code
def yL_setFee : MethodName := ⟨RL, "setFee", "(LNetPoints;III[J)I"⟩
abbrev cL_add : ByteArray := method_5_code
def yL_add : MethodName := ⟨RL, "add", "(LNetPoints;IIIII[J)I"⟩
abbrev cL_receive : ByteArray := method_6_code
def yL_receive : MethodName := ⟨RL, "receive", "(LNetPoints;III[J)I"⟩
abbrev cL_spend : ByteArray := method_7_code
def yL_spend : MethodName := ⟨RL, "spend", "(LNetPoints;II[J)I"⟩
abbrev cL_audit : ByteArray := method_8_code
def yL_audit : MethodName := ⟨RL, "audit", "(LNetPoints;IIII[J)I"⟩
abbrev cL_closeYear : ByteArray := method_9_code
def yL_closeYear : MethodName := ⟨RL, "closeYear", "(LNetPoints;[J)I"⟩
abbrev cL_pay : ByteArray := method_10_code
def yL_pay : MethodName := ⟨RL, "pay", "(LNetPoints;I[J)I"⟩
abbrev cL_gross : ByteArray := method_11_code
def yL_gross : MethodName := ⟨RL, "gross", "(LNetPoints;I[J)I"⟩
abbrev cL_adjusted : ByteArray := method_12_code
def yL_adjusted : MethodName := ⟨RL, "adjusted", "(LNetPoints;I[J)I"⟩
abbrev cL_fees : ByteArray := method_13_code
def yL_fees : MethodName := ⟨RL, "fees", "(LNetPoints;I[J)I"⟩
abbrev cL_balance : ByteArray := method_14_code
def yL_balance : MethodName := ⟨RL, "balance", "(LNetPoints;II[J)I"⟩
abbrev cL_profit : ByteArray := method_15_code
def yL_profit : MethodName := ⟨RL, "profit", "(LNetPoints;II[J)I"⟩
abbrev cL_pool : ByteArray := method_16_code
def yL_pool : MethodName := ⟨RL, "pool", "(LNetPoints;I[J)I"⟩
abbrev cL_sum : ByteArray := method_17_code
def yL_sum : MethodName := ⟨RL, "sum", "(LNetPoints;I[J)I"⟩
abbrev cL_paid : ByteArray := method_18_code
def yL_paid : MethodName := ⟨RL, "paid", "(LNetPoints;I[J)I"⟩
abbrev cL_owed : ByteArray := method_19_code
def yL_owed : MethodName := ⟨RL, "owed", "(LNetPoints;I[J)I"⟩
abbrev cL_law : ByteArray := code
def yL_law : MethodName := ⟨RL, "law", "([I)Z"⟩
def wsJxa1e45_init_da8c8 : List Cond := .code yJxa1e45_init_da8c8 cJxa1e45_init_da8c8 1 none :: ([.methodLink RJxa1e45 1 objectInit, .instanceMethod objectInit, .code objectInit ⟨#[0xb1]⟩ 1 none])
def wsJxc12de_init_da8c8 : List Cond := .code yJxc12de_init_da8c8 cJxc12de_init_da8c8 1 none :: ([.fieldLink RJxc12de 7 "java/util/AbstractList" "modCount" "I", .methodLink RJxc12de 1 yJxa1e45_init_da8c8, .instanceMethod yJxa1e45_init_da8c8, .initialized RJxa1e45, .code yJxa1e45_init_da8c8 cJxa1e45_init_da8c8 1 none, .methodLink RJxa1e45 1 objectInit, .instanceMethod objectInit, .code objectInit ⟨#[0xb1]⟩ 1 none] ++ wsJx4a65c0)
def wsJx4a65c_init_da8c8 : List Cond := .code yJx4a65c_init_da8c8 cJx4a65c_init_da8c8 1 none :: ([.fieldLink RJx4a65c 39 "java/util/ArrayList" "DEFAULTCAPACITY_EMPTY_ELEMENTDATA" "[Ljava/lang/Object;", .fieldLink RJx4a65c 9 "java/util/ArrayList" "elementData" "[Ljava/lang/Object;", .methodLink RJx4a65c 1 yJxc12de_init_da8c8, .instanceMethod yJxc12de_init_da8c8, .initialized RJxc12de, .code yJxc12de_init_da8c8 cJxc12de_init_da8c8 1 none, .fieldLink RJxc12de 7 "java/util/AbstractList" "modCount" "I", .methodLink RJxc12de 1 yJxa1e45_init_da8c8, .instanceMethod yJxa1e45_init_da8c8, .initialized RJxa1e45, .code yJxa1e45_init_da8c8 cJxa1e45_init_da8c8 1 none, .methodLink RJxa1e45 1 objectInit, .instanceMethod objectInit, .code objectInit ⟨#[0xb1]⟩ 1 none] ++ wsJx4a65c0)
def wsX0_init_r1 : List Cond := [Cond.methodLink RX0 3 objectInit, Cond.instanceMethod objectInit, Cond.code objectInit ⟨#[0xb1]⟩ 1 none, Cond.classLink RX0 9 "[[I", Cond.arrayClass .int, Cond.fieldLink RX0 11 "NetPoints$Picture" "receipts" "[[I", Cond.fieldLink RX0 16 "NetPoints$Picture" "costs" "[I", Cond.fieldLink RX0 20 "NetPoints$Picture" "feeRates" "[I", Cond.classLink RX0 23 RJx4a65c, Cond.instantiable RJx4a65c 3, Cond.initialized RJx4a65c, Cond.fieldLink RX0 26 "NetPoints$Picture" "sharers" "Ljava/util/ArrayList;", Cond.arrayClass .long, Cond.fieldLink RX0 30 "NetPoints$Picture" "balances" "[J", Cond.fieldLink RX0 34 "NetPoints$Picture" "profits" "[J", Cond.methodLink RX0 25 yJx4a65c_init_da8c8, Cond.instanceMethod yJx4a65c_init_da8c8, Cond.code yJx4a65c_init_da8c8 cJx4a65c_init_da8c8 1 none, Cond.fieldLink RJx4a65c 39 "java/util/ArrayList" "DEFAULTCAPACITY_EMPTY_ELEMENTDATA" "[Ljava/lang/Object;", Cond.fieldLink RJx4a65c 9 "java/util/ArrayList" "elementData" "[Ljava/lang/Object;", Cond.methodLink RJx4a65c 1 yJxc12de_init_da8c8, Cond.instanceMethod yJxc12de_init_da8c8, Cond.initialized RJxc12de, Cond.code yJxc12de_init_da8c8 cJxc12de_init_da8c8 1 none]
def wsX0_init_r2 : List Cond := [Cond.fieldLink RJxc12de 7 "java/util/AbstractList" "modCount" "I", Cond.methodLink RJxc12de 1 yJxa1e45_init_da8c8, Cond.instanceMethod yJxa1e45_init_da8c8, Cond.initialized RJxa1e45, Cond.code yJxa1e45_init_da8c8 cJxa1e45_init_da8c8 1 none, Cond.methodLink RJxa1e45 1 objectInit]
def wsX0_init : List Cond := .code yX0_init cX0_init 1 none :: ((wsX0_init_r1 ++ wsX0_init_r2) ++ wsX00 ++ wsJx4a65c0)
def wsJx4a65c_size_8abf5 : List Cond := .code yJx4a65c_size_8abf5 cJx4a65c_size_8abf5 1 (some .int) :: ([.fieldLink RJx4a65c 48 "java/util/ArrayList" "size" "I"] ++ wsJx4a65c0)
def wsJ3_checkIndex_8e157 : List Cond := .code yJ3_checkIndex_8e157 cJ3_checkIndex_8e157 3 (some .int) :: ([])
def wsJ15_checkIndex_7cf53 : List Cond := .code yJ15_checkIndex_7cf53 cJ15_checkIndex_7cf53 2 (some .int) :: ([.methodLink RJ15 105 yJ3_checkIndex_8e157, .static yJ3_checkIndex_8e157, .initialized RJ3, .code yJ3_checkIndex_8e157 cJ3_checkIndex_8e157 3 (some .int)])
def wsJx4a65c_elementData_915e3 : List Cond := .code yJx4a65c_elementData_915e3 cJx4a65c_elementData_915e3 2 (some (.object "java/lang/Object")) :: ([.fieldLink RJx4a65c 9 "java/util/ArrayList" "elementData" "[Ljava/lang/Object;"] ++ wsJx4a65c0)
def wsJx4a65c_get_915e3 : List Cond := .code yJx4a65c_get_915e3 cJx4a65c_get_915e3 2 (some (.object "java/lang/Object")) :: ([.fieldLink RJx4a65c 48 "java/util/ArrayList" "size" "I", .methodLink RJx4a65c 118 yJ15_checkIndex_7cf53, .static yJ15_checkIndex_7cf53, .initialized RJ15, .code yJ15_checkIndex_7cf53 cJ15_checkIndex_7cf53 2 (some .int), .methodLink RJ15 105 yJ3_checkIndex_8e157, .static yJ3_checkIndex_8e157, .initialized RJ3, .code yJ3_checkIndex_8e157 cJ3_checkIndex_8e157 3 (some .int), .methodLink RJx4a65c 123 yJx4a65c_elementData_915e3, .instanceMethod yJx4a65c_elementData_915e3, .selects RJx4a65c yJx4a65c_elementData_915e3 yJx4a65c_elementData_915e3, .initialized RJx4a65c, .code yJx4a65c_elementData_915e3 cJx4a65c_elementData_915e3 2 (some (.object "java/lang/Object")), .fieldLink RJx4a65c 9 "java/util/ArrayList" "elementData" "[Ljava/lang/Object;"] ++ wsJx4a65c0)
def wsX0_netRatesGiven_r1 : List Cond := [Cond.fieldLink RX0 26 "NetPoints$Picture" "sharers" "Ljava/util/ArrayList;", Cond.classLink RX0 45 "NetPoints$Sharer", Cond.fieldLink RX0 47 "NetPoints$Sharer" "kind" "I", Cond.fieldLink RX0 51 "NetPoints$Sharer" "first" "I", Cond.fieldLink RX0 54 "NetPoints$Sharer" "second" "I", Cond.methodLink RX0 57 Lib.Math.max.name, Cond.static Lib.Math.max.name, Cond.initialized "java/lang/Math", Cond.code Lib.Math.max.name Lib.Math.max.code 2 (some .int), Cond.methodLink RX0 37 yJx4a65c_size_8abf5, Cond.instanceMethod yJx4a65c_size_8abf5, Cond.selects RJx4a65c yJx4a65c_size_8abf5 yJx4a65c_size_8abf5, Cond.initialized RJx4a65c, Cond.code yJx4a65c_size_8abf5 cJx4a65c_size_8abf5 1 (some .int), Cond.fieldLink RJx4a65c 48 "java/util/ArrayList" "size" "I", Cond.methodLink RX0 41 yJx4a65c_get_915e3, Cond.instanceMethod yJx4a65c_get_915e3, Cond.selects RJx4a65c yJx4a65c_get_915e3 yJx4a65c_get_915e3, Cond.code yJx4a65c_get_915e3 cJx4a65c_get_915e3 2 (some (.object "java/lang/Object")), Cond.methodLink RJx4a65c 118 yJ15_checkIndex_7cf53, Cond.static yJ15_checkIndex_7cf53, Cond.initialized RJ15, Cond.code yJ15_checkIndex_7cf53 cJ15_checkIndex_7cf53 2 (some .int), Cond.methodLink RJ15 105 yJ3_checkIndex_8e157]
def wsX0_netRatesGiven_r2 : List Cond := [Cond.static yJ3_checkIndex_8e157, Cond.initialized RJ3, Cond.code yJ3_checkIndex_8e157 cJ3_checkIndex_8e157 3 (some .int), Cond.methodLink RJx4a65c 123 yJx4a65c_elementData_915e3, Cond.instanceMethod yJx4a65c_elementData_915e3, Cond.selects RJx4a65c yJx4a65c_elementData_915e3 yJx4a65c_elementData_915e3, Cond.code yJx4a65c_elementData_915e3 cJx4a65c_elementData_915e3 2 (some (.object "java/lang/Object")), Cond.fieldLink RJx4a65c 9 "java/util/ArrayList" "elementData" "[Ljava/lang/Object;"]
def wsX0_netRatesGiven : List Cond := .code yX0_netRatesGiven cX0_netRatesGiven 4 (some .int) :: ((wsX0_netRatesGiven_r1 ++ wsX0_netRatesGiven_r2) ++ wsX00 ++ wsX10 ++ wsJx4a65c0)
def wsX0_startBooks : List Cond := .code yX0_startBooks cX0_startBooks 1 none :: ([.fieldLink RX0 63 "NetPoints$Picture" "grossSoFar" "J", .fieldLink RX0 67 "NetPoints$Picture" "adjustedSoFar" "J", .fieldLink RX0 70 "NetPoints$Picture" "feesSoFar" "J", .fieldLink RX0 73 "NetPoints$Picture" "sharesSoFar" "J", .fieldLink RX0 76 "NetPoints$Picture" "balanceSoFar" "J", .fieldLink RX0 79 "NetPoints$Picture" "profitSoFar" "J"] ++ wsX00)
def wsX0_grossIn : List Cond := .code yX0_grossIn cX0_grossIn 5 (some .long) :: ([.fieldLink RX0 11 "NetPoints$Picture" "receipts" "[[I"] ++ wsX00)
def wsX2_part : List Cond := .code yX2_part cX2_part 3 (some .long) :: ([.constantLong RX2 191 (10000)])
def wsX0_feesIn : List Cond := .code yX0_feesIn cX0_feesIn 5 (some .long) :: ([.fieldLink RX0 11 "NetPoints$Picture" "receipts" "[[I", .fieldLink RX0 20 "NetPoints$Picture" "feeRates" "[I", .static yX2_part, .initialized RX2, .code yX2_part cX2_part 3 (some .long), .constantLong RX2 191 (10000)] ++ wsX00)
def wsX1_shareOf : List Cond := .code yX1_shareOf cX1_shareOf 7 (some .long) :: ([.fieldLink RX1 22 "NetPoints$Sharer" "limit" "I", .methodLink RX1 31 Lib.MathLoose.min_long.x, .static Lib.MathLoose.min_long.x, .initialized "java/lang/Math", .code Lib.MathLoose.min_long.x Lib.MathLoose.min_long.code 4 (some .long), .fieldLink RX1 25 "NetPoints$Sharer" "first" "I", .fieldLink RX1 28 "NetPoints$Sharer" "second" "I", .constantLong RX1 37 (10000)] ++ wsX10)
def wsX1_bonusAt : List Cond := .code yX1_bonusAt cX1_bonusAt 3 (some .long) :: ([.fieldLink RX1 22 "NetPoints$Sharer" "limit" "I", .fieldLink RX1 25 "NetPoints$Sharer" "first" "I", .constantLong RX1 39 (100)] ++ wsX10)
def wsX0_sharesThatAreCosts_r1 : List Cond := [Cond.fieldLink RX0 26 "NetPoints$Picture" "sharers" "Ljava/util/ArrayList;", Cond.classLink RX0 45 "NetPoints$Sharer", Cond.fieldLink RX0 47 "NetPoints$Sharer" "kind" "I", Cond.fieldLink RX0 67 "NetPoints$Picture" "adjustedSoFar" "J", Cond.fieldLink RX0 63 "NetPoints$Picture" "grossSoFar" "J", Cond.methodLink RX0 37 yJx4a65c_size_8abf5, Cond.instanceMethod yJx4a65c_size_8abf5, Cond.selects RJx4a65c yJx4a65c_size_8abf5 yJx4a65c_size_8abf5, Cond.initialized RJx4a65c, Cond.code yJx4a65c_size_8abf5 cJx4a65c_size_8abf5 1 (some .int), Cond.fieldLink RJx4a65c 48 "java/util/ArrayList" "size" "I", Cond.methodLink RX0 41 yJx4a65c_get_915e3, Cond.instanceMethod yJx4a65c_get_915e3, Cond.selects RJx4a65c yJx4a65c_get_915e3 yJx4a65c_get_915e3, Cond.code yJx4a65c_get_915e3 cJx4a65c_get_915e3 2 (some (.object "java/lang/Object")), Cond.methodLink RJx4a65c 118 yJ15_checkIndex_7cf53, Cond.static yJ15_checkIndex_7cf53, Cond.initialized RJ15, Cond.code yJ15_checkIndex_7cf53 cJ15_checkIndex_7cf53 2 (some .int), Cond.methodLink RJ15 105 yJ3_checkIndex_8e157, Cond.static yJ3_checkIndex_8e157, Cond.initialized RJ3, Cond.code yJ3_checkIndex_8e157 cJ3_checkIndex_8e157 3 (some .int), Cond.methodLink RJx4a65c 123 yJx4a65c_elementData_915e3]
def wsX0_sharesThatAreCosts_r2 : List Cond := [Cond.instanceMethod yJx4a65c_elementData_915e3, Cond.selects RJx4a65c yJx4a65c_elementData_915e3 yJx4a65c_elementData_915e3, Cond.code yJx4a65c_elementData_915e3 cJx4a65c_elementData_915e3 2 (some (.object "java/lang/Object")), Cond.fieldLink RJx4a65c 9 "java/util/ArrayList" "elementData" "[Ljava/lang/Object;", Cond.methodLink RX0 110 yX1_shareOf, Cond.instanceMethod yX1_shareOf, Cond.selects RX1 yX1_shareOf yX1_shareOf, Cond.initialized RX1, Cond.code yX1_shareOf cX1_shareOf 7 (some .long), Cond.fieldLink RX1 22 "NetPoints$Sharer" "limit" "I", Cond.methodLink RX1 31 Lib.MathLoose.min_long.x, Cond.static Lib.MathLoose.min_long.x, Cond.initialized "java/lang/Math", Cond.code Lib.MathLoose.min_long.x Lib.MathLoose.min_long.code 4 (some .long), Cond.fieldLink RX1 25 "NetPoints$Sharer" "first" "I", Cond.fieldLink RX1 28 "NetPoints$Sharer" "second" "I", Cond.constantLong RX1 37 (10000), Cond.methodLink RX0 126 yX1_bonusAt, Cond.instanceMethod yX1_bonusAt, Cond.selects RX1 yX1_bonusAt yX1_bonusAt, Cond.code yX1_bonusAt cX1_bonusAt 3 (some .long), Cond.constantLong RX1 39 (100)]
def wsX0_sharesThatAreCosts : List Cond := .code yX0_sharesThatAreCosts cX0_sharesThatAreCosts 5 (some .long) :: ((wsX0_sharesThatAreCosts_r1 ++ wsX0_sharesThatAreCosts_r2) ++ wsX00 ++ wsX10 ++ wsJx4a65c0)
def wsX0_recoup_r1 : List Cond := [Cond.fieldLink RX0 86 "NetPoints$Picture" "topRate" "I", Cond.fieldLink RX0 63 "NetPoints$Picture" "grossSoFar" "J", Cond.fieldLink RX0 67 "NetPoints$Picture" "adjustedSoFar" "J", Cond.fieldLink RX0 70 "NetPoints$Picture" "feesSoFar" "J", Cond.fieldLink RX0 76 "NetPoints$Picture" "balanceSoFar" "J", Cond.fieldLink RX0 16 "NetPoints$Picture" "costs" "[I", Cond.fieldLink RX0 100 "NetPoints$Picture" "overheadRate" "I", Cond.fieldLink RX0 73 "NetPoints$Picture" "sharesSoFar" "J", Cond.fieldLink RX0 79 "NetPoints$Picture" "profitSoFar" "J", Cond.methodLink RX0 82 yX0_grossIn, Cond.instanceMethod yX0_grossIn, Cond.selects RX0 yX0_grossIn yX0_grossIn, Cond.initialized RX0, Cond.code yX0_grossIn cX0_grossIn 5 (some .long), Cond.fieldLink RX0 11 "NetPoints$Picture" "receipts" "[[I", Cond.static yX2_part, Cond.initialized RX2, Cond.code yX2_part cX2_part 3 (some .long), Cond.constantLong RX2 191 (10000), Cond.methodLink RX0 93 yX0_feesIn, Cond.instanceMethod yX0_feesIn, Cond.selects RX0 yX0_feesIn yX0_feesIn, Cond.code yX0_feesIn cX0_feesIn 5 (some .long), Cond.fieldLink RX0 20 "NetPoints$Picture" "feeRates" "[I"]
def wsX0_recoup_r2 : List Cond := [Cond.methodLink RX0 96 yX0_sharesThatAreCosts, Cond.instanceMethod yX0_sharesThatAreCosts, Cond.selects RX0 yX0_sharesThatAreCosts yX0_sharesThatAreCosts, Cond.code yX0_sharesThatAreCosts cX0_sharesThatAreCosts 5 (some .long), Cond.fieldLink RX0 26 "NetPoints$Picture" "sharers" "Ljava/util/ArrayList;", Cond.classLink RX0 45 "NetPoints$Sharer", Cond.fieldLink RX0 47 "NetPoints$Sharer" "kind" "I", Cond.methodLink RX0 37 yJx4a65c_size_8abf5, Cond.instanceMethod yJx4a65c_size_8abf5, Cond.selects RJx4a65c yJx4a65c_size_8abf5 yJx4a65c_size_8abf5, Cond.initialized RJx4a65c, Cond.code yJx4a65c_size_8abf5 cJx4a65c_size_8abf5 1 (some .int), Cond.fieldLink RJx4a65c 48 "java/util/ArrayList" "size" "I", Cond.methodLink RX0 41 yJx4a65c_get_915e3, Cond.instanceMethod yJx4a65c_get_915e3, Cond.selects RJx4a65c yJx4a65c_get_915e3 yJx4a65c_get_915e3, Cond.code yJx4a65c_get_915e3 cJx4a65c_get_915e3 2 (some (.object "java/lang/Object")), Cond.methodLink RJx4a65c 118 yJ15_checkIndex_7cf53, Cond.static yJ15_checkIndex_7cf53, Cond.initialized RJ15, Cond.code yJ15_checkIndex_7cf53 cJ15_checkIndex_7cf53 2 (some .int), Cond.methodLink RJ15 105 yJ3_checkIndex_8e157, Cond.static yJ3_checkIndex_8e157, Cond.initialized RJ3]
def wsX0_recoup_r3 : List Cond := [Cond.code yJ3_checkIndex_8e157 cJ3_checkIndex_8e157 3 (some .int), Cond.methodLink RJx4a65c 123 yJx4a65c_elementData_915e3, Cond.instanceMethod yJx4a65c_elementData_915e3, Cond.selects RJx4a65c yJx4a65c_elementData_915e3 yJx4a65c_elementData_915e3, Cond.code yJx4a65c_elementData_915e3 cJx4a65c_elementData_915e3 2 (some (.object "java/lang/Object")), Cond.fieldLink RJx4a65c 9 "java/util/ArrayList" "elementData" "[Ljava/lang/Object;", Cond.methodLink RX0 110 yX1_shareOf, Cond.instanceMethod yX1_shareOf, Cond.selects RX1 yX1_shareOf yX1_shareOf, Cond.initialized RX1, Cond.code yX1_shareOf cX1_shareOf 7 (some .long), Cond.fieldLink RX1 22 "NetPoints$Sharer" "limit" "I", Cond.methodLink RX1 31 Lib.MathLoose.min_long.x, Cond.static Lib.MathLoose.min_long.x, Cond.initialized "java/lang/Math", Cond.code Lib.MathLoose.min_long.x Lib.MathLoose.min_long.code 4 (some .long), Cond.fieldLink RX1 25 "NetPoints$Sharer" "first" "I", Cond.fieldLink RX1 28 "NetPoints$Sharer" "second" "I", Cond.constantLong RX1 37 (10000), Cond.methodLink RX0 126 yX1_bonusAt, Cond.instanceMethod yX1_bonusAt, Cond.selects RX1 yX1_bonusAt yX1_bonusAt, Cond.code yX1_bonusAt cX1_bonusAt 3 (some .long), Cond.constantLong RX1 39 (100)]
def wsX0_recoup : List Cond := .code yX0_recoup cX0_recoup 12 (some .long) :: ((wsX0_recoup_r1 ++ (wsX0_recoup_r2 ++ wsX0_recoup_r3)) ++ wsX00 ++ wsX10 ++ wsJx4a65c0)
def wsX0_moveGain : List Cond := .code yX0_moveGain cX0_moveGain 6 none :: ([.fieldLink RX0 76 "NetPoints$Picture" "balanceSoFar" "J", .methodLink RX0 103 Lib.MathLoose.min_long.x, .static Lib.MathLoose.min_long.x, .initialized "java/lang/Math", .code Lib.MathLoose.min_long.x Lib.MathLoose.min_long.code 4 (some .long), .fieldLink RX0 79 "NetPoints$Picture" "profitSoFar" "J"] ++ wsX00)
def wsX0_finishYear : List Cond := .code yX0_finishYear cX0_finishYear 2 none :: ([.fieldLink RX0 76 "NetPoints$Picture" "balanceSoFar" "J", .fieldLink RX0 107 "NetPoints$Picture" "interestRate" "I", .fieldLink RX0 30 "NetPoints$Picture" "balances" "[J", .fieldLink RX0 34 "NetPoints$Picture" "profits" "[J", .fieldLink RX0 79 "NetPoints$Picture" "profitSoFar" "J", .static yX2_part, .initialized RX2, .code yX2_part cX2_part 3 (some .long), .constantLong RX2 191 (10000)] ++ wsX00)
def wsX0_profitLeftAt_r1 : List Cond := [Cond.fieldLink RX0 79 "NetPoints$Picture" "profitSoFar" "J", Cond.fieldLink RX0 26 "NetPoints$Picture" "sharers" "Ljava/util/ArrayList;", Cond.classLink RX0 45 "NetPoints$Sharer", Cond.fieldLink RX0 47 "NetPoints$Sharer" "kind" "I", Cond.fieldLink RX0 117 "NetPoints$Sharer" "limit" "I", Cond.methodLink RX0 103 Lib.MathLoose.min_long.x, Cond.static Lib.MathLoose.min_long.x, Cond.initialized "java/lang/Math", Cond.code Lib.MathLoose.min_long.x Lib.MathLoose.min_long.code 4 (some .long), Cond.methodLink RX0 37 yJx4a65c_size_8abf5, Cond.instanceMethod yJx4a65c_size_8abf5, Cond.selects RJx4a65c yJx4a65c_size_8abf5 yJx4a65c_size_8abf5, Cond.initialized RJx4a65c, Cond.code yJx4a65c_size_8abf5 cJx4a65c_size_8abf5 1 (some .int), Cond.fieldLink RJx4a65c 48 "java/util/ArrayList" "size" "I", Cond.methodLink RX0 41 yJx4a65c_get_915e3, Cond.instanceMethod yJx4a65c_get_915e3, Cond.selects RJx4a65c yJx4a65c_get_915e3 yJx4a65c_get_915e3, Cond.code yJx4a65c_get_915e3 cJx4a65c_get_915e3 2 (some (.object "java/lang/Object")), Cond.methodLink RJx4a65c 118 yJ15_checkIndex_7cf53, Cond.static yJ15_checkIndex_7cf53, Cond.initialized RJ15, Cond.code yJ15_checkIndex_7cf53 cJ15_checkIndex_7cf53 2 (some .int), Cond.methodLink RJ15 105 yJ3_checkIndex_8e157]
def wsX0_profitLeftAt_r2 : List Cond := [Cond.static yJ3_checkIndex_8e157, Cond.initialized RJ3, Cond.code yJ3_checkIndex_8e157 cJ3_checkIndex_8e157 3 (some .int), Cond.methodLink RJx4a65c 123 yJx4a65c_elementData_915e3, Cond.instanceMethod yJx4a65c_elementData_915e3, Cond.selects RJx4a65c yJx4a65c_elementData_915e3 yJx4a65c_elementData_915e3, Cond.code yJx4a65c_elementData_915e3 cJx4a65c_elementData_915e3 2 (some (.object "java/lang/Object")), Cond.fieldLink RJx4a65c 9 "java/util/ArrayList" "elementData" "[Ljava/lang/Object;"]
def wsX0_profitLeftAt : List Cond := .code yX0_profitLeftAt cX0_profitLeftAt 6 (some .long) :: ((wsX0_profitLeftAt_r1 ++ wsX0_profitLeftAt_r2) ++ wsX00 ++ wsX10 ++ wsJx4a65c0)
def wsX0_poolDrawn_r1 : List Cond := [Cond.fieldLink RX0 26 "NetPoints$Picture" "sharers" "Ljava/util/ArrayList;", Cond.methodLink RX0 37 yJx4a65c_size_8abf5, Cond.instanceMethod yJx4a65c_size_8abf5, Cond.selects RJx4a65c yJx4a65c_size_8abf5 yJx4a65c_size_8abf5, Cond.initialized RJx4a65c, Cond.code yJx4a65c_size_8abf5 cJx4a65c_size_8abf5 1 (some .int), Cond.fieldLink RJx4a65c 48 "java/util/ArrayList" "size" "I", Cond.methodLink RX0 123 yX0_profitLeftAt, Cond.instanceMethod yX0_profitLeftAt, Cond.selects RX0 yX0_profitLeftAt yX0_profitLeftAt, Cond.initialized RX0, Cond.code yX0_profitLeftAt cX0_profitLeftAt 6 (some .long), Cond.fieldLink RX0 79 "NetPoints$Picture" "profitSoFar" "J", Cond.classLink RX0 45 "NetPoints$Sharer", Cond.fieldLink RX0 47 "NetPoints$Sharer" "kind" "I", Cond.fieldLink RX0 117 "NetPoints$Sharer" "limit" "I", Cond.methodLink RX0 103 Lib.MathLoose.min_long.x, Cond.static Lib.MathLoose.min_long.x, Cond.initialized "java/lang/Math", Cond.code Lib.MathLoose.min_long.x Lib.MathLoose.min_long.code 4 (some .long), Cond.methodLink RX0 41 yJx4a65c_get_915e3, Cond.instanceMethod yJx4a65c_get_915e3, Cond.selects RJx4a65c yJx4a65c_get_915e3 yJx4a65c_get_915e3, Cond.code yJx4a65c_get_915e3 cJx4a65c_get_915e3 2 (some (.object "java/lang/Object"))]
def wsX0_poolDrawn_r2 : List Cond := [Cond.methodLink RJx4a65c 118 yJ15_checkIndex_7cf53, Cond.static yJ15_checkIndex_7cf53, Cond.initialized RJ15, Cond.code yJ15_checkIndex_7cf53 cJ15_checkIndex_7cf53 2 (some .int), Cond.methodLink RJ15 105 yJ3_checkIndex_8e157, Cond.static yJ3_checkIndex_8e157, Cond.initialized RJ3, Cond.code yJ3_checkIndex_8e157 cJ3_checkIndex_8e157 3 (some .int), Cond.methodLink RJx4a65c 123 yJx4a65c_elementData_915e3, Cond.instanceMethod yJx4a65c_elementData_915e3, Cond.selects RJx4a65c yJx4a65c_elementData_915e3 yJx4a65c_elementData_915e3, Cond.code yJx4a65c_elementData_915e3 cJx4a65c_elementData_915e3 2 (some (.object "java/lang/Object")), Cond.fieldLink RJx4a65c 9 "java/util/ArrayList" "elementData" "[Ljava/lang/Object;"]
def wsX0_poolDrawn : List Cond := .code yX0_poolDrawn cX0_poolDrawn 1 (some .long) :: ((wsX0_poolDrawn_r1 ++ wsX0_poolDrawn_r2) ++ wsX00 ++ wsJx4a65c0 ++ wsX10)
def wsX0_sumDrawn_r1 : List Cond := [Cond.fieldLink RX0 47 "NetPoints$Sharer" "kind" "I", Cond.fieldLink RX0 67 "NetPoints$Picture" "adjustedSoFar" "J", Cond.fieldLink RX0 117 "NetPoints$Sharer" "limit" "I", Cond.fieldLink RX0 120 "NetPoints$Sharer" "turn" "I", Cond.methodLink RX0 103 Lib.MathLoose.min_long.x, Cond.static Lib.MathLoose.min_long.x, Cond.initialized "java/lang/Math", Cond.code Lib.MathLoose.min_long.x Lib.MathLoose.min_long.code 4 (some .long), Cond.fieldLink RX0 63 "NetPoints$Picture" "grossSoFar" "J", Cond.methodLink RX0 110 yX1_shareOf, Cond.instanceMethod yX1_shareOf, Cond.selects RX1 yX1_shareOf yX1_shareOf, Cond.initialized RX1, Cond.code yX1_shareOf cX1_shareOf 7 (some .long), Cond.fieldLink RX1 22 "NetPoints$Sharer" "limit" "I", Cond.methodLink RX1 31 Lib.MathLoose.min_long.x, Cond.fieldLink RX1 25 "NetPoints$Sharer" "first" "I", Cond.fieldLink RX1 28 "NetPoints$Sharer" "second" "I", Cond.constantLong RX1 37 (10000), Cond.methodLink RX0 114 yX0_poolDrawn, Cond.instanceMethod yX0_poolDrawn, Cond.selects RX0 yX0_poolDrawn yX0_poolDrawn, Cond.initialized RX0, Cond.code yX0_poolDrawn cX0_poolDrawn 1 (some .long)]
def wsX0_sumDrawn_r2 : List Cond := [Cond.fieldLink RX0 26 "NetPoints$Picture" "sharers" "Ljava/util/ArrayList;", Cond.methodLink RX0 37 yJx4a65c_size_8abf5, Cond.instanceMethod yJx4a65c_size_8abf5, Cond.selects RJx4a65c yJx4a65c_size_8abf5 yJx4a65c_size_8abf5, Cond.initialized RJx4a65c, Cond.code yJx4a65c_size_8abf5 cJx4a65c_size_8abf5 1 (some .int), Cond.fieldLink RJx4a65c 48 "java/util/ArrayList" "size" "I", Cond.methodLink RX0 123 yX0_profitLeftAt, Cond.instanceMethod yX0_profitLeftAt, Cond.selects RX0 yX0_profitLeftAt yX0_profitLeftAt, Cond.code yX0_profitLeftAt cX0_profitLeftAt 6 (some .long), Cond.fieldLink RX0 79 "NetPoints$Picture" "profitSoFar" "J", Cond.classLink RX0 45 "NetPoints$Sharer", Cond.methodLink RX0 41 yJx4a65c_get_915e3, Cond.instanceMethod yJx4a65c_get_915e3, Cond.selects RJx4a65c yJx4a65c_get_915e3 yJx4a65c_get_915e3, Cond.code yJx4a65c_get_915e3 cJx4a65c_get_915e3 2 (some (.object "java/lang/Object")), Cond.methodLink RJx4a65c 118 yJ15_checkIndex_7cf53, Cond.static yJ15_checkIndex_7cf53, Cond.initialized RJ15, Cond.code yJ15_checkIndex_7cf53 cJ15_checkIndex_7cf53 2 (some .int), Cond.methodLink RJ15 105 yJ3_checkIndex_8e157, Cond.static yJ3_checkIndex_8e157, Cond.initialized RJ3]
def wsX0_sumDrawn_r3 : List Cond := [Cond.code yJ3_checkIndex_8e157 cJ3_checkIndex_8e157 3 (some .int), Cond.methodLink RJx4a65c 123 yJx4a65c_elementData_915e3, Cond.instanceMethod yJx4a65c_elementData_915e3, Cond.selects RJx4a65c yJx4a65c_elementData_915e3 yJx4a65c_elementData_915e3, Cond.code yJx4a65c_elementData_915e3 cJx4a65c_elementData_915e3 2 (some (.object "java/lang/Object")), Cond.fieldLink RJx4a65c 9 "java/util/ArrayList" "elementData" "[Ljava/lang/Object;", Cond.methodLink RX0 126 yX1_bonusAt, Cond.instanceMethod yX1_bonusAt, Cond.selects RX1 yX1_bonusAt yX1_bonusAt, Cond.code yX1_bonusAt cX1_bonusAt 3 (some .long), Cond.constantLong RX1 39 (100)]
def wsX0_sumDrawn : List Cond := .code yX0_sumDrawn cX0_sumDrawn 2 (some .long) :: ((wsX0_sumDrawn_r1 ++ (wsX0_sumDrawn_r2 ++ wsX0_sumDrawn_r3)) ++ wsX10 ++ wsX00 ++ wsJx4a65c0)
def wsX1_init : List Cond := .code yX1_init cX1_init 7 none :: ([.methodLink RX1 3 objectInit, .instanceMethod objectInit, .code objectInit ⟨#[0xb1]⟩ 1 none, .fieldLink RX1 9 "NetPoints$Sharer" "picture" "LNetPoints$Picture;", .fieldLink RX1 15 "NetPoints$Sharer" "turn" "I", .fieldLink RX1 19 "NetPoints$Sharer" "kind" "I", .fieldLink RX1 22 "NetPoints$Sharer" "limit" "I", .fieldLink RX1 25 "NetPoints$Sharer" "first" "I", .fieldLink RX1 28 "NetPoints$Sharer" "second" "I"] ++ wsX10)
def wsX2_init_r1 : List Cond := [Cond.methodLink RX2 1 objectInit, Cond.instanceMethod objectInit, Cond.code objectInit ⟨#[0xb1]⟩ 1 none, Cond.classLink RX2 7 RX0, Cond.instantiable RX0 15, Cond.initialized RX0, Cond.fieldLink RX2 10 "NetPoints" "picture0" "LNetPoints$Picture;", Cond.fieldLink RX2 16 "NetPoints" "picture1" "LNetPoints$Picture;", Cond.classLink RX2 19 RJx4a65c, Cond.instantiable RJx4a65c 3, Cond.initialized RJx4a65c, Cond.fieldLink RX2 22 "NetPoints" "allSharers" "Ljava/util/ArrayList;", Cond.fieldLink RX2 26 "NetPoints" "crossed" "Z", Cond.fieldLink RX2 30 "NetPoints" "yearOfNow" "I", Cond.instanceMethod yX0_init, Cond.code yX0_init cX0_init 1 none, Cond.methodLink RX0 3 objectInit, Cond.classLink RX0 9 "[[I", Cond.arrayClass .int, Cond.fieldLink RX0 11 "NetPoints$Picture" "receipts" "[[I", Cond.fieldLink RX0 16 "NetPoints$Picture" "costs" "[I", Cond.fieldLink RX0 20 "NetPoints$Picture" "feeRates" "[I", Cond.classLink RX0 23 RJx4a65c, Cond.fieldLink RX0 26 "NetPoints$Picture" "sharers" "Ljava/util/ArrayList;"]
def wsX2_init_r2 : List Cond := [Cond.arrayClass .long, Cond.fieldLink RX0 30 "NetPoints$Picture" "balances" "[J", Cond.fieldLink RX0 34 "NetPoints$Picture" "profits" "[J", Cond.methodLink RX0 25 yJx4a65c_init_da8c8, Cond.instanceMethod yJx4a65c_init_da8c8, Cond.code yJx4a65c_init_da8c8 cJx4a65c_init_da8c8 1 none, Cond.fieldLink RJx4a65c 39 "java/util/ArrayList" "DEFAULTCAPACITY_EMPTY_ELEMENTDATA" "[Ljava/lang/Object;", Cond.fieldLink RJx4a65c 9 "java/util/ArrayList" "elementData" "[Ljava/lang/Object;", Cond.methodLink RJx4a65c 1 yJxc12de_init_da8c8, Cond.instanceMethod yJxc12de_init_da8c8, Cond.initialized RJxc12de, Cond.code yJxc12de_init_da8c8 cJxc12de_init_da8c8 1 none, Cond.fieldLink RJxc12de 7 "java/util/AbstractList" "modCount" "I", Cond.methodLink RJxc12de 1 yJxa1e45_init_da8c8, Cond.instanceMethod yJxa1e45_init_da8c8, Cond.initialized RJxa1e45, Cond.code yJxa1e45_init_da8c8 cJxa1e45_init_da8c8 1 none, Cond.methodLink RJxa1e45 1 objectInit, Cond.methodLink RX2 21 yJx4a65c_init_da8c8]
def wsX2_init : List Cond := .code yX2_init cX2_init 1 none :: ((wsX2_init_r1 ++ wsX2_init_r2) ++ wsX00 ++ wsX20 ++ wsJx4a65c0)
def wsX2_requirePicture : List Cond := .code yX2_requirePicture cX2_requirePicture 1 none :: ([.classLink RX2 148 "java/lang/IndexOutOfBoundsException", .initialized "java/lang/IndexOutOfBoundsException"] ++ (vx_atS RX2 152 "java/lang/IndexOutOfBoundsException" ["java/lang/RuntimeException", "java/lang/Exception"]).filter goodWord)
def wsX2_requireRange : List Cond := .code yX2_requireRange cX2_requireRange 3 none :: ([.classLink RX2 155 "java/lang/IllegalArgumentException", .initialized "java/lang/IllegalArgumentException"] ++ (vx_atS RX2 159 "java/lang/IllegalArgumentException" ["java/lang/RuntimeException", "java/lang/Exception"]).filter goodWord)
def wsX2_pictureOf : List Cond := .code yX2_pictureOf cX2_pictureOf 2 (some (.object "NetPoints$Picture")) :: ([.fieldLink RX2 10 "NetPoints" "picture0" "LNetPoints$Picture;", .fieldLink RX2 16 "NetPoints" "picture1" "LNetPoints$Picture;"] ++ wsX20)
def wsX2_setRates : List Cond := .code yX2_setRates cX2_setRates 6 none :: ([.fieldLink RX2 46 "NetPoints$Picture" "topRate" "I", .fieldLink RX2 49 "NetPoints$Picture" "overheadRate" "I", .fieldLink RX2 52 "NetPoints$Picture" "interestRate" "I", .methodLink RX2 34 yX2_requirePicture, .static yX2_requirePicture, .initialized RX2, .code yX2_requirePicture cX2_requirePicture 1 none, .classLink RX2 148 "java/lang/IndexOutOfBoundsException", .initialized "java/lang/IndexOutOfBoundsException", .methodLink RX2 38 yX2_requireRange, .static yX2_requireRange, .code yX2_requireRange cX2_requireRange 3 none, .classLink RX2 155 "java/lang/IllegalArgumentException", .initialized "java/lang/IllegalArgumentException", .methodLink RX2 42 yX2_pictureOf, .instanceMethod yX2_pictureOf, .selects RX2 yX2_pictureOf yX2_pictureOf, .code yX2_pictureOf cX2_pictureOf 2 (some (.object "NetPoints$Picture")), .fieldLink RX2 10 "NetPoints" "picture0" "LNetPoints$Picture;", .fieldLink RX2 16 "NetPoints" "picture1" "LNetPoints$Picture;"] ++ wsX00 ++ wsX20 ++ (vx_atS RX2 152 "java/lang/IndexOutOfBoundsException" ["java/lang/RuntimeException", "java/lang/Exception"]).filter goodWord ++ (vx_atS RX2 159 "java/lang/IllegalArgumentException" ["java/lang/RuntimeException", "java/lang/Exception"]).filter goodWord)
def wsX2_requireWindow : List Cond := .code yX2_requireWindow cX2_requireWindow 1 none :: ([.classLink RX2 148 "java/lang/IndexOutOfBoundsException", .initialized "java/lang/IndexOutOfBoundsException"] ++ (vx_atS RX2 152 "java/lang/IndexOutOfBoundsException" ["java/lang/RuntimeException", "java/lang/Exception"]).filter goodWord)
def wsX2_setFee : List Cond := .code yX2_setFee cX2_setFee 6 (some .int) :: ([.fieldLink RX2 58 "NetPoints$Picture" "feeRates" "[I", .methodLink RX2 34 yX2_requirePicture, .static yX2_requirePicture, .initialized RX2, .code yX2_requirePicture cX2_requirePicture 1 none, .classLink RX2 148 "java/lang/IndexOutOfBoundsException", .initialized "java/lang/IndexOutOfBoundsException", .methodLink RX2 55 yX2_requireWindow, .static yX2_requireWindow, .code yX2_requireWindow cX2_requireWindow 1 none, .methodLink RX2 38 yX2_requireRange, .static yX2_requireRange, .code yX2_requireRange cX2_requireRange 3 none, .classLink RX2 155 "java/lang/IllegalArgumentException", .initialized "java/lang/IllegalArgumentException", .methodLink RX2 42 yX2_pictureOf, .instanceMethod yX2_pictureOf, .selects RX2 yX2_pictureOf yX2_pictureOf, .code yX2_pictureOf cX2_pictureOf 2 (some (.object "NetPoints$Picture")), .fieldLink RX2 10 "NetPoints" "picture0" "LNetPoints$Picture;", .fieldLink RX2 16 "NetPoints" "picture1" "LNetPoints$Picture;"] ++ wsX00 ++ wsX20 ++ (vx_atS RX2 152 "java/lang/IndexOutOfBoundsException" ["java/lang/RuntimeException", "java/lang/Exception"]).filter goodWord ++ (vx_atS RX2 159 "java/lang/IllegalArgumentException" ["java/lang/RuntimeException", "java/lang/Exception"]).filter goodWord)
def wsX2_setCrossed : List Cond := .code yX2_setCrossed cX2_setCrossed 3 (some .boolean) :: ([.fieldLink RX2 26 "NetPoints" "crossed" "Z"] ++ wsX20)
def wsX2_requireRoom_r1 : List Cond := [Cond.classLink RX2 101 "java/lang/IllegalStateException", Cond.initialized "java/lang/IllegalStateException", Cond.fieldLink RX2 22 "NetPoints" "allSharers" "Ljava/util/ArrayList;", Cond.methodLink RX2 78 yJx4a65c_size_8abf5, Cond.instanceMethod yJx4a65c_size_8abf5, Cond.selects RJx4a65c yJx4a65c_size_8abf5 yJx4a65c_size_8abf5, Cond.initialized RJx4a65c, Cond.code yJx4a65c_size_8abf5 cJx4a65c_size_8abf5 1 (some .int), Cond.fieldLink RJx4a65c 48 "java/util/ArrayList" "size" "I", Cond.methodLink RX2 164 yX0_netRatesGiven, Cond.instanceMethod yX0_netRatesGiven, Cond.selects RX0 yX0_netRatesGiven yX0_netRatesGiven, Cond.initialized RX0, Cond.code yX0_netRatesGiven cX0_netRatesGiven 4 (some .int), Cond.fieldLink RX0 26 "NetPoints$Picture" "sharers" "Ljava/util/ArrayList;", Cond.classLink RX0 45 "NetPoints$Sharer", Cond.fieldLink RX0 47 "NetPoints$Sharer" "kind" "I", Cond.fieldLink RX0 51 "NetPoints$Sharer" "first" "I", Cond.fieldLink RX0 54 "NetPoints$Sharer" "second" "I", Cond.methodLink RX0 57 Lib.Math.max.name, Cond.static Lib.Math.max.name, Cond.initialized "java/lang/Math", Cond.code Lib.Math.max.name Lib.Math.max.code 2 (some .int), Cond.methodLink RX0 37 yJx4a65c_size_8abf5]
def wsX2_requireRoom_r2 : List Cond := [Cond.methodLink RX0 41 yJx4a65c_get_915e3, Cond.instanceMethod yJx4a65c_get_915e3, Cond.selects RJx4a65c yJx4a65c_get_915e3 yJx4a65c_get_915e3, Cond.code yJx4a65c_get_915e3 cJx4a65c_get_915e3 2 (some (.object "java/lang/Object")), Cond.methodLink RJx4a65c 118 yJ15_checkIndex_7cf53, Cond.static yJ15_checkIndex_7cf53, Cond.initialized RJ15, Cond.code yJ15_checkIndex_7cf53 cJ15_checkIndex_7cf53 2 (some .int), Cond.methodLink RJ15 105 yJ3_checkIndex_8e157, Cond.static yJ3_checkIndex_8e157, Cond.initialized RJ3, Cond.code yJ3_checkIndex_8e157 cJ3_checkIndex_8e157 3 (some .int), Cond.methodLink RJx4a65c 123 yJx4a65c_elementData_915e3, Cond.instanceMethod yJx4a65c_elementData_915e3, Cond.selects RJx4a65c yJx4a65c_elementData_915e3 yJx4a65c_elementData_915e3, Cond.code yJx4a65c_elementData_915e3 cJx4a65c_elementData_915e3 2 (some (.object "java/lang/Object")), Cond.fieldLink RJx4a65c 9 "java/util/ArrayList" "elementData" "[Ljava/lang/Object;"]
def wsX2_requireRoom : List Cond := .code yX2_requireRoom cX2_requireRoom 4 none :: ((wsX2_requireRoom_r1 ++ wsX2_requireRoom_r2) ++ wsX20 ++ wsJx4a65c0 ++ wsX00 ++ wsX10 ++ (vx_atS RX2 105 "java/lang/IllegalStateException" ["java/lang/RuntimeException", "java/lang/Exception"]).filter goodWord)
def wsJ8_hugeLength_7cf53 : List Cond := .code yJ8_hugeLength_7cf53 cJ8_hugeLength_7cf53 3 (some .int) :: ([.constant RJ8 200 (2147483639)])
def wsJ8_newLength_cabcc : List Cond := .code yJ8_newLength_cabcc cJ8_newLength_cabcc 4 (some .int) :: ([.methodLink RJ8 194 Lib.Math.max.name, .static Lib.Math.max.name, .initialized "java/lang/Math", .code Lib.Math.max.name Lib.Math.max.code 2 (some .int), .constant RJ8 200 (2147483639), .methodLink RJ8 201 yJ8_hugeLength_7cf53, .static yJ8_hugeLength_7cf53, .initialized RJ8, .code yJ8_hugeLength_7cf53 cJ8_hugeLength_7cf53 3 (some .int)])
def wsJ7_copyOf_6403c : List Cond := .code yJ7_copyOf_6403c cJ7_copyOf_6403c 4 (some (.array (.object "java/lang/Object"))) :: ([.classLink RJ7 110 "[Ljava/lang/Object;", .classLink RJ7 2 "java/lang/Object", .methodLink RJ7 304 Lib.Math.min.name, .static Lib.Math.min.name, .initialized "java/lang/Math", .code Lib.Math.min.name Lib.Math.min.code 2 (some .int), .methodLink RJ7 150 arraycopyName, .native arraycopyName, .static arraycopyName, .initialized "java/lang/System"])
def wsJ7_copyOf_1904c : List Cond := .code yJ7_copyOf_1904c cJ7_copyOf_1904c 2 (some (.array (.object "java/lang/Object"))) :: ([.methodLink RJ7 86 ⟨"java/lang/Object", "getClass", "()Ljava/lang/Class;"⟩, .selects "[Ljava/lang/Object;" ⟨"java/lang/Object", "getClass", "()Ljava/lang/Class;"⟩ ⟨"java/lang/Object", "getClass", "()Ljava/lang/Class;"⟩, .instanceMethod ⟨"java/lang/Object", "getClass", "()Ljava/lang/Class;"⟩, .native ⟨"java/lang/Object", "getClass", "()Ljava/lang/Class;"⟩, .methodLink RJ7 300 yJ7_copyOf_6403c, .static yJ7_copyOf_6403c, .initialized RJ7, .code yJ7_copyOf_6403c cJ7_copyOf_6403c 4 (some (.array (.object "java/lang/Object"))), .classLink RJ7 110 "[Ljava/lang/Object;", .classLink RJ7 2 "java/lang/Object", .methodLink RJ7 304 Lib.Math.min.name, .static Lib.Math.min.name, .initialized "java/lang/Math", .code Lib.Math.min.name Lib.Math.min.code 2 (some .int), .methodLink RJ7 150 arraycopyName, .native arraycopyName, .static arraycopyName, .initialized "java/lang/System"])
def wsJx4a65c_grow_92f84_r1 : List Cond := [Cond.fieldLink RJx4a65c 9 "java/util/ArrayList" "elementData" "[Ljava/lang/Object;", Cond.fieldLink RJx4a65c 39 "java/util/ArrayList" "DEFAULTCAPACITY_EMPTY_ELEMENTDATA" "[Ljava/lang/Object;", Cond.methodLink RJx4a65c 79 Lib.Math.max.name, Cond.static Lib.Math.max.name, Cond.initialized "java/lang/Math", Cond.code Lib.Math.max.name Lib.Math.max.code 2 (some .int), Cond.classLink RJx4a65c 7 "java/lang/Object", Cond.methodLink RJx4a65c 73 yJ8_newLength_cabcc, Cond.static yJ8_newLength_cabcc, Cond.initialized RJ8, Cond.code yJ8_newLength_cabcc cJ8_newLength_cabcc 4 (some .int), Cond.methodLink RJ8 194 Lib.Math.max.name, Cond.constant RJ8 200 (2147483639), Cond.methodLink RJ8 201 yJ8_hugeLength_7cf53, Cond.static yJ8_hugeLength_7cf53, Cond.code yJ8_hugeLength_7cf53 cJ8_hugeLength_7cf53 3 (some .int), Cond.methodLink RJx4a65c 66 yJ7_copyOf_1904c, Cond.static yJ7_copyOf_1904c, Cond.initialized RJ7, Cond.code yJ7_copyOf_1904c cJ7_copyOf_1904c 2 (some (.array (.object "java/lang/Object"))), Cond.methodLink RJ7 86 ⟨"java/lang/Object", "getClass", "()Ljava/lang/Class;"⟩, Cond.selects "[Ljava/lang/Object;" ⟨"java/lang/Object", "getClass", "()Ljava/lang/Class;"⟩ ⟨"java/lang/Object", "getClass", "()Ljava/lang/Class;"⟩, Cond.instanceMethod ⟨"java/lang/Object", "getClass", "()Ljava/lang/Class;"⟩, Cond.native ⟨"java/lang/Object", "getClass", "()Ljava/lang/Class;"⟩]
def wsJx4a65c_grow_92f84_r2 : List Cond := [Cond.methodLink RJ7 300 yJ7_copyOf_6403c, Cond.static yJ7_copyOf_6403c, Cond.code yJ7_copyOf_6403c cJ7_copyOf_6403c 4 (some (.array (.object "java/lang/Object"))), Cond.classLink RJ7 110 "[Ljava/lang/Object;", Cond.classLink RJ7 2 "java/lang/Object", Cond.methodLink RJ7 304 Lib.Math.min.name, Cond.static Lib.Math.min.name, Cond.code Lib.Math.min.name Lib.Math.min.code 2 (some .int), Cond.methodLink RJ7 150 arraycopyName, Cond.native arraycopyName, Cond.static arraycopyName, Cond.initialized "java/lang/System"]
def wsJx4a65c_grow_92f84 : List Cond := .code yJx4a65c_grow_92f84 cJx4a65c_grow_92f84 4 (some (.array (.object "java/lang/Object"))) :: ((wsJx4a65c_grow_92f84_r1 ++ wsJx4a65c_grow_92f84_r2) ++ wsJx4a65c0)
def wsJx4a65c_grow_d5877_r1 : List Cond := [Cond.fieldLink RJx4a65c 48 "java/util/ArrayList" "size" "I", Cond.methodLink RJx4a65c 69 yJx4a65c_grow_92f84, Cond.instanceMethod yJx4a65c_grow_92f84, Cond.selects RJx4a65c yJx4a65c_grow_92f84 yJx4a65c_grow_92f84, Cond.initialized RJx4a65c, Cond.code yJx4a65c_grow_92f84 cJx4a65c_grow_92f84 4 (some (.array (.object "java/lang/Object"))), Cond.fieldLink RJx4a65c 9 "java/util/ArrayList" "elementData" "[Ljava/lang/Object;", Cond.fieldLink RJx4a65c 39 "java/util/ArrayList" "DEFAULTCAPACITY_EMPTY_ELEMENTDATA" "[Ljava/lang/Object;", Cond.methodLink RJx4a65c 79 Lib.Math.max.name, Cond.static Lib.Math.max.name, Cond.initialized "java/lang/Math", Cond.code Lib.Math.max.name Lib.Math.max.code 2 (some .int), Cond.classLink RJx4a65c 7 "java/lang/Object", Cond.methodLink RJx4a65c 73 yJ8_newLength_cabcc, Cond.static yJ8_newLength_cabcc, Cond.initialized RJ8, Cond.code yJ8_newLength_cabcc cJ8_newLength_cabcc 4 (some .int), Cond.methodLink RJ8 194 Lib.Math.max.name, Cond.constant RJ8 200 (2147483639), Cond.methodLink RJ8 201 yJ8_hugeLength_7cf53, Cond.static yJ8_hugeLength_7cf53, Cond.code yJ8_hugeLength_7cf53 cJ8_hugeLength_7cf53 3 (some .int), Cond.methodLink RJx4a65c 66 yJ7_copyOf_1904c, Cond.static yJ7_copyOf_1904c]
def wsJx4a65c_grow_d5877_r2 : List Cond := [Cond.initialized RJ7, Cond.code yJ7_copyOf_1904c cJ7_copyOf_1904c 2 (some (.array (.object "java/lang/Object"))), Cond.methodLink RJ7 86 ⟨"java/lang/Object", "getClass", "()Ljava/lang/Class;"⟩, Cond.selects "[Ljava/lang/Object;" ⟨"java/lang/Object", "getClass", "()Ljava/lang/Class;"⟩ ⟨"java/lang/Object", "getClass", "()Ljava/lang/Class;"⟩, Cond.instanceMethod ⟨"java/lang/Object", "getClass", "()Ljava/lang/Class;"⟩, Cond.native ⟨"java/lang/Object", "getClass", "()Ljava/lang/Class;"⟩, Cond.methodLink RJ7 300 yJ7_copyOf_6403c, Cond.static yJ7_copyOf_6403c, Cond.code yJ7_copyOf_6403c cJ7_copyOf_6403c 4 (some (.array (.object "java/lang/Object"))), Cond.classLink RJ7 110 "[Ljava/lang/Object;", Cond.classLink RJ7 2 "java/lang/Object", Cond.methodLink RJ7 304 Lib.Math.min.name, Cond.static Lib.Math.min.name, Cond.code Lib.Math.min.name Lib.Math.min.code 2 (some .int), Cond.methodLink RJ7 150 arraycopyName, Cond.native arraycopyName, Cond.static arraycopyName, Cond.initialized "java/lang/System"]
def wsJx4a65c_grow_d5877 : List Cond := .code yJx4a65c_grow_d5877 cJx4a65c_grow_d5877 1 (some (.array (.object "java/lang/Object"))) :: ((wsJx4a65c_grow_d5877_r1 ++ wsJx4a65c_grow_d5877_r2) ++ wsJx4a65c0)
def wsJx4a65c_add_72be8_r1 : List Cond := [Cond.fieldLink RJx4a65c 48 "java/util/ArrayList" "size" "I", Cond.methodLink RJx4a65c 129 yJx4a65c_grow_d5877, Cond.instanceMethod yJx4a65c_grow_d5877, Cond.selects RJx4a65c yJx4a65c_grow_d5877 yJx4a65c_grow_d5877, Cond.initialized RJx4a65c, Cond.code yJx4a65c_grow_d5877 cJx4a65c_grow_d5877 1 (some (.array (.object "java/lang/Object"))), Cond.methodLink RJx4a65c 69 yJx4a65c_grow_92f84, Cond.instanceMethod yJx4a65c_grow_92f84, Cond.selects RJx4a65c yJx4a65c_grow_92f84 yJx4a65c_grow_92f84, Cond.code yJx4a65c_grow_92f84 cJx4a65c_grow_92f84 4 (some (.array (.object "java/lang/Object"))), Cond.fieldLink RJx4a65c 9 "java/util/ArrayList" "elementData" "[Ljava/lang/Object;", Cond.fieldLink RJx4a65c 39 "java/util/ArrayList" "DEFAULTCAPACITY_EMPTY_ELEMENTDATA" "[Ljava/lang/Object;", Cond.methodLink RJx4a65c 79 Lib.Math.max.name, Cond.static Lib.Math.max.name, Cond.initialized "java/lang/Math", Cond.code Lib.Math.max.name Lib.Math.max.code 2 (some .int), Cond.classLink RJx4a65c 7 "java/lang/Object", Cond.methodLink RJx4a65c 73 yJ8_newLength_cabcc, Cond.static yJ8_newLength_cabcc, Cond.initialized RJ8, Cond.code yJ8_newLength_cabcc cJ8_newLength_cabcc 4 (some .int), Cond.methodLink RJ8 194 Lib.Math.max.name, Cond.constant RJ8 200 (2147483639), Cond.methodLink RJ8 201 yJ8_hugeLength_7cf53]
def wsJx4a65c_add_72be8_r2 : List Cond := [Cond.static yJ8_hugeLength_7cf53, Cond.code yJ8_hugeLength_7cf53 cJ8_hugeLength_7cf53 3 (some .int), Cond.methodLink RJx4a65c 66 yJ7_copyOf_1904c, Cond.static yJ7_copyOf_1904c, Cond.initialized RJ7, Cond.code yJ7_copyOf_1904c cJ7_copyOf_1904c 2 (some (.array (.object "java/lang/Object"))), Cond.methodLink RJ7 86 ⟨"java/lang/Object", "getClass", "()Ljava/lang/Class;"⟩, Cond.selects "[Ljava/lang/Object;" ⟨"java/lang/Object", "getClass", "()Ljava/lang/Class;"⟩ ⟨"java/lang/Object", "getClass", "()Ljava/lang/Class;"⟩, Cond.instanceMethod ⟨"java/lang/Object", "getClass", "()Ljava/lang/Class;"⟩, Cond.native ⟨"java/lang/Object", "getClass", "()Ljava/lang/Class;"⟩, Cond.methodLink RJ7 300 yJ7_copyOf_6403c, Cond.static yJ7_copyOf_6403c, Cond.code yJ7_copyOf_6403c cJ7_copyOf_6403c 4 (some (.array (.object "java/lang/Object"))), Cond.classLink RJ7 110 "[Ljava/lang/Object;", Cond.classLink RJ7 2 "java/lang/Object", Cond.methodLink RJ7 304 Lib.Math.min.name, Cond.static Lib.Math.min.name, Cond.code Lib.Math.min.name Lib.Math.min.code 2 (some .int), Cond.methodLink RJ7 150 arraycopyName, Cond.native arraycopyName, Cond.static arraycopyName, Cond.initialized "java/lang/System"]
def wsJx4a65c_add_72be8 : List Cond := .code yJx4a65c_add_72be8 cJx4a65c_add_72be8 4 none :: ((wsJx4a65c_add_72be8_r1 ++ wsJx4a65c_add_72be8_r2) ++ wsJx4a65c0)
def wsJx4a65c_add_9ea2d_r1 : List Cond := [Cond.fieldLink RJx4a65c 63 "java/util/ArrayList" "modCount" "I", Cond.sameField "java/util/ArrayList" "java/util/AbstractList" "modCount" "I", Cond.fieldLink RJx4a65c 9 "java/util/ArrayList" "elementData" "[Ljava/lang/Object;", Cond.fieldLink RJx4a65c 48 "java/util/ArrayList" "size" "I", Cond.methodLink RJx4a65c 131 yJx4a65c_add_72be8, Cond.instanceMethod yJx4a65c_add_72be8, Cond.selects RJx4a65c yJx4a65c_add_72be8 yJx4a65c_add_72be8, Cond.initialized RJx4a65c, Cond.code yJx4a65c_add_72be8 cJx4a65c_add_72be8 4 none, Cond.methodLink RJx4a65c 129 yJx4a65c_grow_d5877, Cond.instanceMethod yJx4a65c_grow_d5877, Cond.selects RJx4a65c yJx4a65c_grow_d5877 yJx4a65c_grow_d5877, Cond.code yJx4a65c_grow_d5877 cJx4a65c_grow_d5877 1 (some (.array (.object "java/lang/Object"))), Cond.methodLink RJx4a65c 69 yJx4a65c_grow_92f84, Cond.instanceMethod yJx4a65c_grow_92f84, Cond.selects RJx4a65c yJx4a65c_grow_92f84 yJx4a65c_grow_92f84, Cond.code yJx4a65c_grow_92f84 cJx4a65c_grow_92f84 4 (some (.array (.object "java/lang/Object"))), Cond.fieldLink RJx4a65c 39 "java/util/ArrayList" "DEFAULTCAPACITY_EMPTY_ELEMENTDATA" "[Ljava/lang/Object;", Cond.methodLink RJx4a65c 79 Lib.Math.max.name, Cond.static Lib.Math.max.name, Cond.initialized "java/lang/Math", Cond.code Lib.Math.max.name Lib.Math.max.code 2 (some .int), Cond.classLink RJx4a65c 7 "java/lang/Object", Cond.methodLink RJx4a65c 73 yJ8_newLength_cabcc]
def wsJx4a65c_add_9ea2d_r2 : List Cond := [Cond.static yJ8_newLength_cabcc, Cond.initialized RJ8, Cond.code yJ8_newLength_cabcc cJ8_newLength_cabcc 4 (some .int), Cond.methodLink RJ8 194 Lib.Math.max.name, Cond.constant RJ8 200 (2147483639), Cond.methodLink RJ8 201 yJ8_hugeLength_7cf53, Cond.static yJ8_hugeLength_7cf53, Cond.code yJ8_hugeLength_7cf53 cJ8_hugeLength_7cf53 3 (some .int), Cond.methodLink RJx4a65c 66 yJ7_copyOf_1904c, Cond.static yJ7_copyOf_1904c, Cond.initialized RJ7, Cond.code yJ7_copyOf_1904c cJ7_copyOf_1904c 2 (some (.array (.object "java/lang/Object"))), Cond.methodLink RJ7 86 ⟨"java/lang/Object", "getClass", "()Ljava/lang/Class;"⟩, Cond.selects "[Ljava/lang/Object;" ⟨"java/lang/Object", "getClass", "()Ljava/lang/Class;"⟩ ⟨"java/lang/Object", "getClass", "()Ljava/lang/Class;"⟩, Cond.instanceMethod ⟨"java/lang/Object", "getClass", "()Ljava/lang/Class;"⟩, Cond.native ⟨"java/lang/Object", "getClass", "()Ljava/lang/Class;"⟩, Cond.methodLink RJ7 300 yJ7_copyOf_6403c, Cond.static yJ7_copyOf_6403c, Cond.code yJ7_copyOf_6403c cJ7_copyOf_6403c 4 (some (.array (.object "java/lang/Object"))), Cond.classLink RJ7 110 "[Ljava/lang/Object;", Cond.classLink RJ7 2 "java/lang/Object", Cond.methodLink RJ7 304 Lib.Math.min.name, Cond.static Lib.Math.min.name, Cond.code Lib.Math.min.name Lib.Math.min.code 2 (some .int)]
def wsJx4a65c_add_9ea2d_r3 : List Cond := [Cond.methodLink RJ7 150 arraycopyName, Cond.native arraycopyName, Cond.static arraycopyName, Cond.initialized "java/lang/System"]
def wsJx4a65c_add_9ea2d : List Cond := .code yJx4a65c_add_9ea2d cJx4a65c_add_9ea2d 2 (some .boolean) :: ((wsJx4a65c_add_9ea2d_r1 ++ (wsJx4a65c_add_9ea2d_r2 ++ wsJx4a65c_add_9ea2d_r3)) ++ wsJx4a65c0)
def wsX2_add_r1 : List Cond := [Cond.constant RX2 62 (10000000), Cond.methodLink RX2 63 Lib.Math.max.name, Cond.static Lib.Math.max.name, Cond.initialized "java/lang/Math", Cond.code Lib.Math.max.name Lib.Math.max.code 2 (some .int), Cond.classLink RX2 73 RX1, Cond.instantiable RX1 7, Cond.initialized RX1, Cond.fieldLink RX2 75 "NetPoints$Picture" "sharers" "Ljava/util/ArrayList;", Cond.fieldLink RX2 22 "NetPoints" "allSharers" "Ljava/util/ArrayList;", Cond.methodLink RX2 34 yX2_requirePicture, Cond.static yX2_requirePicture, Cond.initialized RX2, Cond.code yX2_requirePicture cX2_requirePicture 1 none, Cond.classLink RX2 148 "java/lang/IndexOutOfBoundsException", Cond.initialized "java/lang/IndexOutOfBoundsException", Cond.methodLink RX2 38 yX2_requireRange, Cond.static yX2_requireRange, Cond.code yX2_requireRange cX2_requireRange 3 none, Cond.classLink RX2 155 "java/lang/IllegalArgumentException", Cond.initialized "java/lang/IllegalArgumentException", Cond.methodLink RX2 42 yX2_pictureOf, Cond.instanceMethod yX2_pictureOf, Cond.selects RX2 yX2_pictureOf yX2_pictureOf]
def wsX2_add_r2 : List Cond := [Cond.code yX2_pictureOf cX2_pictureOf 2 (some (.object "NetPoints$Picture")), Cond.fieldLink RX2 10 "NetPoints" "picture0" "LNetPoints$Picture;", Cond.fieldLink RX2 16 "NetPoints" "picture1" "LNetPoints$Picture;", Cond.methodLink RX2 69 yX2_requireRoom, Cond.instanceMethod yX2_requireRoom, Cond.selects RX2 yX2_requireRoom yX2_requireRoom, Cond.code yX2_requireRoom cX2_requireRoom 4 none, Cond.classLink RX2 101 "java/lang/IllegalStateException", Cond.initialized "java/lang/IllegalStateException", Cond.methodLink RX2 78 yJx4a65c_size_8abf5, Cond.instanceMethod yJx4a65c_size_8abf5, Cond.selects RJx4a65c yJx4a65c_size_8abf5 yJx4a65c_size_8abf5, Cond.initialized RJx4a65c, Cond.code yJx4a65c_size_8abf5 cJx4a65c_size_8abf5 1 (some .int), Cond.fieldLink RJx4a65c 48 "java/util/ArrayList" "size" "I", Cond.methodLink RX2 164 yX0_netRatesGiven, Cond.instanceMethod yX0_netRatesGiven, Cond.selects RX0 yX0_netRatesGiven yX0_netRatesGiven, Cond.initialized RX0, Cond.code yX0_netRatesGiven cX0_netRatesGiven 4 (some .int), Cond.fieldLink RX0 26 "NetPoints$Picture" "sharers" "Ljava/util/ArrayList;", Cond.classLink RX0 45 "NetPoints$Sharer", Cond.fieldLink RX0 47 "NetPoints$Sharer" "kind" "I", Cond.fieldLink RX0 51 "NetPoints$Sharer" "first" "I"]
def wsX2_add_r3 : List Cond := [Cond.fieldLink RX0 54 "NetPoints$Sharer" "second" "I", Cond.methodLink RX0 57 Lib.Math.max.name, Cond.methodLink RX0 37 yJx4a65c_size_8abf5, Cond.methodLink RX0 41 yJx4a65c_get_915e3, Cond.instanceMethod yJx4a65c_get_915e3, Cond.selects RJx4a65c yJx4a65c_get_915e3 yJx4a65c_get_915e3, Cond.code yJx4a65c_get_915e3 cJx4a65c_get_915e3 2 (some (.object "java/lang/Object")), Cond.methodLink RJx4a65c 118 yJ15_checkIndex_7cf53, Cond.static yJ15_checkIndex_7cf53, Cond.initialized RJ15, Cond.code yJ15_checkIndex_7cf53 cJ15_checkIndex_7cf53 2 (some .int), Cond.methodLink RJ15 105 yJ3_checkIndex_8e157, Cond.static yJ3_checkIndex_8e157, Cond.initialized RJ3, Cond.code yJ3_checkIndex_8e157 cJ3_checkIndex_8e157 3 (some .int), Cond.methodLink RJx4a65c 123 yJx4a65c_elementData_915e3, Cond.instanceMethod yJx4a65c_elementData_915e3, Cond.selects RJx4a65c yJx4a65c_elementData_915e3 yJx4a65c_elementData_915e3, Cond.code yJx4a65c_elementData_915e3 cJx4a65c_elementData_915e3 2 (some (.object "java/lang/Object")), Cond.fieldLink RJx4a65c 9 "java/util/ArrayList" "elementData" "[Ljava/lang/Object;", Cond.methodLink RX2 82 yX1_init, Cond.instanceMethod yX1_init, Cond.code yX1_init cX1_init 7 none, Cond.methodLink RX1 3 objectInit]
def wsX2_add_r4 : List Cond := [Cond.instanceMethod objectInit, Cond.code objectInit ⟨#[0xb1]⟩ 1 none, Cond.fieldLink RX1 9 "NetPoints$Sharer" "picture" "LNetPoints$Picture;", Cond.fieldLink RX1 15 "NetPoints$Sharer" "turn" "I", Cond.fieldLink RX1 19 "NetPoints$Sharer" "kind" "I", Cond.fieldLink RX1 22 "NetPoints$Sharer" "limit" "I", Cond.fieldLink RX1 25 "NetPoints$Sharer" "first" "I", Cond.fieldLink RX1 28 "NetPoints$Sharer" "second" "I", Cond.methodLink RX2 85 yJx4a65c_add_9ea2d, Cond.instanceMethod yJx4a65c_add_9ea2d, Cond.selects RJx4a65c yJx4a65c_add_9ea2d yJx4a65c_add_9ea2d, Cond.code yJx4a65c_add_9ea2d cJx4a65c_add_9ea2d 2 (some .boolean), Cond.fieldLink RJx4a65c 63 "java/util/ArrayList" "modCount" "I", Cond.sameField "java/util/ArrayList" "java/util/AbstractList" "modCount" "I", Cond.methodLink RJx4a65c 131 yJx4a65c_add_72be8, Cond.instanceMethod yJx4a65c_add_72be8, Cond.selects RJx4a65c yJx4a65c_add_72be8 yJx4a65c_add_72be8, Cond.code yJx4a65c_add_72be8 cJx4a65c_add_72be8 4 none, Cond.methodLink RJx4a65c 129 yJx4a65c_grow_d5877, Cond.instanceMethod yJx4a65c_grow_d5877, Cond.selects RJx4a65c yJx4a65c_grow_d5877 yJx4a65c_grow_d5877, Cond.code yJx4a65c_grow_d5877 cJx4a65c_grow_d5877 1 (some (.array (.object "java/lang/Object"))), Cond.methodLink RJx4a65c 69 yJx4a65c_grow_92f84, Cond.instanceMethod yJx4a65c_grow_92f84]
def wsX2_add_r5 : List Cond := [Cond.selects RJx4a65c yJx4a65c_grow_92f84 yJx4a65c_grow_92f84, Cond.code yJx4a65c_grow_92f84 cJx4a65c_grow_92f84 4 (some (.array (.object "java/lang/Object"))), Cond.fieldLink RJx4a65c 39 "java/util/ArrayList" "DEFAULTCAPACITY_EMPTY_ELEMENTDATA" "[Ljava/lang/Object;", Cond.methodLink RJx4a65c 79 Lib.Math.max.name, Cond.classLink RJx4a65c 7 "java/lang/Object", Cond.methodLink RJx4a65c 73 yJ8_newLength_cabcc, Cond.static yJ8_newLength_cabcc, Cond.initialized RJ8, Cond.code yJ8_newLength_cabcc cJ8_newLength_cabcc 4 (some .int), Cond.methodLink RJ8 194 Lib.Math.max.name, Cond.constant RJ8 200 (2147483639), Cond.methodLink RJ8 201 yJ8_hugeLength_7cf53, Cond.static yJ8_hugeLength_7cf53, Cond.code yJ8_hugeLength_7cf53 cJ8_hugeLength_7cf53 3 (some .int), Cond.methodLink RJx4a65c 66 yJ7_copyOf_1904c, Cond.static yJ7_copyOf_1904c, Cond.initialized RJ7, Cond.code yJ7_copyOf_1904c cJ7_copyOf_1904c 2 (some (.array (.object "java/lang/Object"))), Cond.methodLink RJ7 86 ⟨"java/lang/Object", "getClass", "()Ljava/lang/Class;"⟩, Cond.selects "[Ljava/lang/Object;" ⟨"java/lang/Object", "getClass", "()Ljava/lang/Class;"⟩ ⟨"java/lang/Object", "getClass", "()Ljava/lang/Class;"⟩, Cond.instanceMethod ⟨"java/lang/Object", "getClass", "()Ljava/lang/Class;"⟩, Cond.native ⟨"java/lang/Object", "getClass", "()Ljava/lang/Class;"⟩, Cond.methodLink RJ7 300 yJ7_copyOf_6403c, Cond.static yJ7_copyOf_6403c]
def wsX2_add_r6 : List Cond := [Cond.code yJ7_copyOf_6403c cJ7_copyOf_6403c 4 (some (.array (.object "java/lang/Object"))), Cond.classLink RJ7 110 "[Ljava/lang/Object;", Cond.classLink RJ7 2 "java/lang/Object", Cond.methodLink RJ7 304 Lib.Math.min.name, Cond.static Lib.Math.min.name, Cond.code Lib.Math.min.name Lib.Math.min.code 2 (some .int), Cond.methodLink RJ7 150 arraycopyName, Cond.native arraycopyName, Cond.static arraycopyName, Cond.initialized "java/lang/System"]
def wsX2_add : List Cond := .code yX2_add cX2_add 9 (some .int) :: ((wsX2_add_r1 ++ (wsX2_add_r2 ++ (wsX2_add_r3 ++ (wsX2_add_r4 ++ (wsX2_add_r5 ++ wsX2_add_r6))))) ++ wsX10 ++ wsX00 ++ wsX20 ++ wsJx4a65c0 ++ (vx_atS RX2 152 "java/lang/IndexOutOfBoundsException" ["java/lang/RuntimeException", "java/lang/Exception"]).filter goodWord ++ (vx_atS RX2 159 "java/lang/IllegalArgumentException" ["java/lang/RuntimeException", "java/lang/Exception"]).filter goodWord ++ (vx_atS RX2 105 "java/lang/IllegalStateException" ["java/lang/RuntimeException", "java/lang/Exception"]).filter goodWord)
def wsX2_receive : List Cond := .code yX2_receive cX2_receive 5 (some .int) :: ([.constant RX2 89 (200000), .fieldLink RX2 90 "NetPoints$Picture" "receipts" "[[I", .fieldLink RX2 30 "NetPoints" "yearOfNow" "I", .methodLink RX2 34 yX2_requirePicture, .static yX2_requirePicture, .initialized RX2, .code yX2_requirePicture cX2_requirePicture 1 none, .classLink RX2 148 "java/lang/IndexOutOfBoundsException", .initialized "java/lang/IndexOutOfBoundsException", .methodLink RX2 55 yX2_requireWindow, .static yX2_requireWindow, .code yX2_requireWindow cX2_requireWindow 1 none, .methodLink RX2 38 yX2_requireRange, .static yX2_requireRange, .code yX2_requireRange cX2_requireRange 3 none, .classLink RX2 155 "java/lang/IllegalArgumentException", .initialized "java/lang/IllegalArgumentException", .methodLink RX2 42 yX2_pictureOf, .instanceMethod yX2_pictureOf, .selects RX2 yX2_pictureOf yX2_pictureOf, .code yX2_pictureOf cX2_pictureOf 2 (some (.object "NetPoints$Picture")), .fieldLink RX2 10 "NetPoints" "picture0" "LNetPoints$Picture;", .fieldLink RX2 16 "NetPoints" "picture1" "LNetPoints$Picture;"] ++ wsX00 ++ wsX20 ++ (vx_atS RX2 152 "java/lang/IndexOutOfBoundsException" ["java/lang/RuntimeException", "java/lang/Exception"]).filter goodWord ++ (vx_atS RX2 159 "java/lang/IllegalArgumentException" ["java/lang/RuntimeException", "java/lang/Exception"]).filter goodWord)
def wsX2_spend : List Cond := .code yX2_spend cX2_spend 4 (some .int) :: ([.constant RX2 89 (200000), .fieldLink RX2 94 "NetPoints$Picture" "costs" "[I", .fieldLink RX2 30 "NetPoints" "yearOfNow" "I", .methodLink RX2 34 yX2_requirePicture, .static yX2_requirePicture, .initialized RX2, .code yX2_requirePicture cX2_requirePicture 1 none, .classLink RX2 148 "java/lang/IndexOutOfBoundsException", .initialized "java/lang/IndexOutOfBoundsException", .methodLink RX2 38 yX2_requireRange, .static yX2_requireRange, .code yX2_requireRange cX2_requireRange 3 none, .classLink RX2 155 "java/lang/IllegalArgumentException", .initialized "java/lang/IllegalArgumentException", .methodLink RX2 42 yX2_pictureOf, .instanceMethod yX2_pictureOf, .selects RX2 yX2_pictureOf yX2_pictureOf, .code yX2_pictureOf cX2_pictureOf 2 (some (.object "NetPoints$Picture")), .fieldLink RX2 10 "NetPoints" "picture0" "LNetPoints$Picture;", .fieldLink RX2 16 "NetPoints" "picture1" "LNetPoints$Picture;"] ++ wsX00 ++ wsX20 ++ (vx_atS RX2 152 "java/lang/IndexOutOfBoundsException" ["java/lang/RuntimeException", "java/lang/Exception"]).filter goodWord ++ (vx_atS RX2 159 "java/lang/IllegalArgumentException" ["java/lang/RuntimeException", "java/lang/Exception"]).filter goodWord)
def wsX2_requireOpenToAudit : List Cond := .code yX2_requireOpenToAudit cX2_requireOpenToAudit 2 none :: ([.classLink RX2 101 "java/lang/IllegalStateException", .initialized "java/lang/IllegalStateException", .fieldLink RX2 30 "NetPoints" "yearOfNow" "I"] ++ wsX20 ++ (vx_atS RX2 105 "java/lang/IllegalStateException" ["java/lang/RuntimeException", "java/lang/Exception"]).filter goodWord)
def wsX2_audit_r1 : List Cond := [Cond.constant RX2 97 (1000000), Cond.fieldLink RX2 90 "NetPoints$Picture" "receipts" "[[I", Cond.methodLink RX2 34 yX2_requirePicture, Cond.static yX2_requirePicture, Cond.initialized RX2, Cond.code yX2_requirePicture cX2_requirePicture 1 none, Cond.classLink RX2 148 "java/lang/IndexOutOfBoundsException", Cond.initialized "java/lang/IndexOutOfBoundsException", Cond.methodLink RX2 55 yX2_requireWindow, Cond.static yX2_requireWindow, Cond.code yX2_requireWindow cX2_requireWindow 1 none, Cond.methodLink RX2 38 yX2_requireRange, Cond.static yX2_requireRange, Cond.code yX2_requireRange cX2_requireRange 3 none, Cond.classLink RX2 155 "java/lang/IllegalArgumentException", Cond.initialized "java/lang/IllegalArgumentException", Cond.methodLink RX2 98 yX2_requireOpenToAudit, Cond.instanceMethod yX2_requireOpenToAudit, Cond.selects RX2 yX2_requireOpenToAudit yX2_requireOpenToAudit, Cond.code yX2_requireOpenToAudit cX2_requireOpenToAudit 2 none, Cond.classLink RX2 101 "java/lang/IllegalStateException", Cond.initialized "java/lang/IllegalStateException", Cond.fieldLink RX2 30 "NetPoints" "yearOfNow" "I", Cond.methodLink RX2 42 yX2_pictureOf]
def wsX2_audit_r2 : List Cond := [Cond.instanceMethod yX2_pictureOf, Cond.selects RX2 yX2_pictureOf yX2_pictureOf, Cond.code yX2_pictureOf cX2_pictureOf 2 (some (.object "NetPoints$Picture")), Cond.fieldLink RX2 10 "NetPoints" "picture0" "LNetPoints$Picture;", Cond.fieldLink RX2 16 "NetPoints" "picture1" "LNetPoints$Picture;"]
def wsX2_audit : List Cond := .code yX2_audit cX2_audit 7 (some .int) :: ((wsX2_audit_r1 ++ wsX2_audit_r2) ++ wsX00 ++ wsX20 ++ (vx_atS RX2 152 "java/lang/IndexOutOfBoundsException" ["java/lang/RuntimeException", "java/lang/Exception"]).filter goodWord ++ (vx_atS RX2 159 "java/lang/IllegalArgumentException" ["java/lang/RuntimeException", "java/lang/Exception"]).filter goodWord ++ (vx_atS RX2 105 "java/lang/IllegalStateException" ["java/lang/RuntimeException", "java/lang/Exception"]).filter goodWord)
def wsX2_closeYear : List Cond := .code yX2_closeYear cX2_closeYear 1 (some .int) :: ([.classLink RX2 101 "java/lang/IllegalStateException", .initialized "java/lang/IllegalStateException", .fieldLink RX2 30 "NetPoints" "yearOfNow" "I"] ++ wsX20 ++ (vx_atS RX2 105 "java/lang/IllegalStateException" ["java/lang/RuntimeException", "java/lang/Exception"]).filter goodWord)
def wsX2_requireSharer : List Cond := .code yX2_requireSharer cX2_requireSharer 2 none :: ([.classLink RX2 148 "java/lang/IndexOutOfBoundsException", .initialized "java/lang/IndexOutOfBoundsException", .fieldLink RX2 22 "NetPoints" "allSharers" "Ljava/util/ArrayList;", .methodLink RX2 78 yJx4a65c_size_8abf5, .instanceMethod yJx4a65c_size_8abf5, .selects RJx4a65c yJx4a65c_size_8abf5 yJx4a65c_size_8abf5, .initialized RJx4a65c, .code yJx4a65c_size_8abf5 cJx4a65c_size_8abf5 1 (some .int), .fieldLink RJx4a65c 48 "java/util/ArrayList" "size" "I"] ++ wsX20 ++ wsJx4a65c0 ++ (vx_atS RX2 152 "java/lang/IndexOutOfBoundsException" ["java/lang/RuntimeException", "java/lang/Exception"]).filter goodWord)
def wsX2_drawBooks_r1 : List Cond := [Cond.fieldLink RX2 10 "NetPoints" "picture0" "LNetPoints$Picture;", Cond.fieldLink RX2 16 "NetPoints" "picture1" "LNetPoints$Picture;", Cond.fieldLink RX2 30 "NetPoints" "yearOfNow" "I", Cond.fieldLink RX2 26 "NetPoints" "crossed" "Z", Cond.methodLink RX2 177 yX0_startBooks, Cond.instanceMethod yX0_startBooks, Cond.selects RX0 yX0_startBooks yX0_startBooks, Cond.initialized RX0, Cond.code yX0_startBooks cX0_startBooks 1 none, Cond.fieldLink RX0 63 "NetPoints$Picture" "grossSoFar" "J", Cond.fieldLink RX0 67 "NetPoints$Picture" "adjustedSoFar" "J", Cond.fieldLink RX0 70 "NetPoints$Picture" "feesSoFar" "J", Cond.fieldLink RX0 73 "NetPoints$Picture" "sharesSoFar" "J", Cond.fieldLink RX0 76 "NetPoints$Picture" "balanceSoFar" "J", Cond.fieldLink RX0 79 "NetPoints$Picture" "profitSoFar" "J", Cond.methodLink RX2 180 yX0_recoup, Cond.instanceMethod yX0_recoup, Cond.selects RX0 yX0_recoup yX0_recoup, Cond.code yX0_recoup cX0_recoup 12 (some .long), Cond.fieldLink RX0 86 "NetPoints$Picture" "topRate" "I", Cond.fieldLink RX0 16 "NetPoints$Picture" "costs" "[I", Cond.fieldLink RX0 100 "NetPoints$Picture" "overheadRate" "I", Cond.methodLink RX0 82 yX0_grossIn, Cond.instanceMethod yX0_grossIn]
def wsX2_drawBooks_r2 : List Cond := [Cond.selects RX0 yX0_grossIn yX0_grossIn, Cond.code yX0_grossIn cX0_grossIn 5 (some .long), Cond.fieldLink RX0 11 "NetPoints$Picture" "receipts" "[[I", Cond.static yX2_part, Cond.initialized RX2, Cond.code yX2_part cX2_part 3 (some .long), Cond.constantLong RX2 191 (10000), Cond.methodLink RX0 93 yX0_feesIn, Cond.instanceMethod yX0_feesIn, Cond.selects RX0 yX0_feesIn yX0_feesIn, Cond.code yX0_feesIn cX0_feesIn 5 (some .long), Cond.fieldLink RX0 20 "NetPoints$Picture" "feeRates" "[I", Cond.methodLink RX0 96 yX0_sharesThatAreCosts, Cond.instanceMethod yX0_sharesThatAreCosts, Cond.selects RX0 yX0_sharesThatAreCosts yX0_sharesThatAreCosts, Cond.code yX0_sharesThatAreCosts cX0_sharesThatAreCosts 5 (some .long), Cond.fieldLink RX0 26 "NetPoints$Picture" "sharers" "Ljava/util/ArrayList;", Cond.classLink RX0 45 "NetPoints$Sharer", Cond.fieldLink RX0 47 "NetPoints$Sharer" "kind" "I", Cond.methodLink RX0 37 yJx4a65c_size_8abf5, Cond.instanceMethod yJx4a65c_size_8abf5, Cond.selects RJx4a65c yJx4a65c_size_8abf5 yJx4a65c_size_8abf5, Cond.initialized RJx4a65c, Cond.code yJx4a65c_size_8abf5 cJx4a65c_size_8abf5 1 (some .int)]
def wsX2_drawBooks_r3 : List Cond := [Cond.fieldLink RJx4a65c 48 "java/util/ArrayList" "size" "I", Cond.methodLink RX0 41 yJx4a65c_get_915e3, Cond.instanceMethod yJx4a65c_get_915e3, Cond.selects RJx4a65c yJx4a65c_get_915e3 yJx4a65c_get_915e3, Cond.code yJx4a65c_get_915e3 cJx4a65c_get_915e3 2 (some (.object "java/lang/Object")), Cond.methodLink RJx4a65c 118 yJ15_checkIndex_7cf53, Cond.static yJ15_checkIndex_7cf53, Cond.initialized RJ15, Cond.code yJ15_checkIndex_7cf53 cJ15_checkIndex_7cf53 2 (some .int), Cond.methodLink RJ15 105 yJ3_checkIndex_8e157, Cond.static yJ3_checkIndex_8e157, Cond.initialized RJ3, Cond.code yJ3_checkIndex_8e157 cJ3_checkIndex_8e157 3 (some .int), Cond.methodLink RJx4a65c 123 yJx4a65c_elementData_915e3, Cond.instanceMethod yJx4a65c_elementData_915e3, Cond.selects RJx4a65c yJx4a65c_elementData_915e3 yJx4a65c_elementData_915e3, Cond.code yJx4a65c_elementData_915e3 cJx4a65c_elementData_915e3 2 (some (.object "java/lang/Object")), Cond.fieldLink RJx4a65c 9 "java/util/ArrayList" "elementData" "[Ljava/lang/Object;", Cond.methodLink RX0 110 yX1_shareOf, Cond.instanceMethod yX1_shareOf, Cond.selects RX1 yX1_shareOf yX1_shareOf, Cond.initialized RX1, Cond.code yX1_shareOf cX1_shareOf 7 (some .long), Cond.fieldLink RX1 22 "NetPoints$Sharer" "limit" "I"]
def wsX2_drawBooks_r4 : List Cond := [Cond.methodLink RX1 31 Lib.MathLoose.min_long.x, Cond.static Lib.MathLoose.min_long.x, Cond.initialized "java/lang/Math", Cond.code Lib.MathLoose.min_long.x Lib.MathLoose.min_long.code 4 (some .long), Cond.fieldLink RX1 25 "NetPoints$Sharer" "first" "I", Cond.fieldLink RX1 28 "NetPoints$Sharer" "second" "I", Cond.constantLong RX1 37 (10000), Cond.methodLink RX0 126 yX1_bonusAt, Cond.instanceMethod yX1_bonusAt, Cond.selects RX1 yX1_bonusAt yX1_bonusAt, Cond.code yX1_bonusAt cX1_bonusAt 3 (some .long), Cond.constantLong RX1 39 (100), Cond.methodLink RX2 184 yX0_moveGain, Cond.instanceMethod yX0_moveGain, Cond.selects RX0 yX0_moveGain yX0_moveGain, Cond.code yX0_moveGain cX0_moveGain 6 none, Cond.methodLink RX0 103 Lib.MathLoose.min_long.x, Cond.methodLink RX2 188 yX0_finishYear, Cond.instanceMethod yX0_finishYear, Cond.selects RX0 yX0_finishYear yX0_finishYear, Cond.code yX0_finishYear cX0_finishYear 2 none, Cond.fieldLink RX0 107 "NetPoints$Picture" "interestRate" "I", Cond.fieldLink RX0 30 "NetPoints$Picture" "balances" "[J", Cond.fieldLink RX0 34 "NetPoints$Picture" "profits" "[J"]
def wsX2_drawBooks : List Cond := .code yX2_drawBooks cX2_drawBooks 6 none :: ((wsX2_drawBooks_r1 ++ (wsX2_drawBooks_r2 ++ (wsX2_drawBooks_r3 ++ wsX2_drawBooks_r4))) ++ wsX20 ++ wsX00 ++ wsX10 ++ wsJx4a65c0)
def wsX2_drawnSum_r1 : List Cond := [Cond.fieldLink RX2 171 "NetPoints$Sharer" "picture" "LNetPoints$Picture;", Cond.methodLink RX2 125 yX2_drawBooks, Cond.instanceMethod yX2_drawBooks, Cond.selects RX2 yX2_drawBooks yX2_drawBooks, Cond.initialized RX2, Cond.code yX2_drawBooks cX2_drawBooks 6 none, Cond.fieldLink RX2 10 "NetPoints" "picture0" "LNetPoints$Picture;", Cond.fieldLink RX2 16 "NetPoints" "picture1" "LNetPoints$Picture;", Cond.fieldLink RX2 30 "NetPoints" "yearOfNow" "I", Cond.fieldLink RX2 26 "NetPoints" "crossed" "Z", Cond.methodLink RX2 177 yX0_startBooks, Cond.instanceMethod yX0_startBooks, Cond.selects RX0 yX0_startBooks yX0_startBooks, Cond.initialized RX0, Cond.code yX0_startBooks cX0_startBooks 1 none, Cond.fieldLink RX0 63 "NetPoints$Picture" "grossSoFar" "J", Cond.fieldLink RX0 67 "NetPoints$Picture" "adjustedSoFar" "J", Cond.fieldLink RX0 70 "NetPoints$Picture" "feesSoFar" "J", Cond.fieldLink RX0 73 "NetPoints$Picture" "sharesSoFar" "J", Cond.fieldLink RX0 76 "NetPoints$Picture" "balanceSoFar" "J", Cond.fieldLink RX0 79 "NetPoints$Picture" "profitSoFar" "J", Cond.methodLink RX2 180 yX0_recoup, Cond.instanceMethod yX0_recoup, Cond.selects RX0 yX0_recoup yX0_recoup]
def wsX2_drawnSum_r2 : List Cond := [Cond.code yX0_recoup cX0_recoup 12 (some .long), Cond.fieldLink RX0 86 "NetPoints$Picture" "topRate" "I", Cond.fieldLink RX0 16 "NetPoints$Picture" "costs" "[I", Cond.fieldLink RX0 100 "NetPoints$Picture" "overheadRate" "I", Cond.methodLink RX0 82 yX0_grossIn, Cond.instanceMethod yX0_grossIn, Cond.selects RX0 yX0_grossIn yX0_grossIn, Cond.code yX0_grossIn cX0_grossIn 5 (some .long), Cond.fieldLink RX0 11 "NetPoints$Picture" "receipts" "[[I", Cond.static yX2_part, Cond.code yX2_part cX2_part 3 (some .long), Cond.constantLong RX2 191 (10000), Cond.methodLink RX0 93 yX0_feesIn, Cond.instanceMethod yX0_feesIn, Cond.selects RX0 yX0_feesIn yX0_feesIn, Cond.code yX0_feesIn cX0_feesIn 5 (some .long), Cond.fieldLink RX0 20 "NetPoints$Picture" "feeRates" "[I", Cond.methodLink RX0 96 yX0_sharesThatAreCosts, Cond.instanceMethod yX0_sharesThatAreCosts, Cond.selects RX0 yX0_sharesThatAreCosts yX0_sharesThatAreCosts, Cond.code yX0_sharesThatAreCosts cX0_sharesThatAreCosts 5 (some .long), Cond.fieldLink RX0 26 "NetPoints$Picture" "sharers" "Ljava/util/ArrayList;", Cond.classLink RX0 45 "NetPoints$Sharer", Cond.fieldLink RX0 47 "NetPoints$Sharer" "kind" "I"]
def wsX2_drawnSum_r3 : List Cond := [Cond.methodLink RX0 37 yJx4a65c_size_8abf5, Cond.instanceMethod yJx4a65c_size_8abf5, Cond.selects RJx4a65c yJx4a65c_size_8abf5 yJx4a65c_size_8abf5, Cond.initialized RJx4a65c, Cond.code yJx4a65c_size_8abf5 cJx4a65c_size_8abf5 1 (some .int), Cond.fieldLink RJx4a65c 48 "java/util/ArrayList" "size" "I", Cond.methodLink RX0 41 yJx4a65c_get_915e3, Cond.instanceMethod yJx4a65c_get_915e3, Cond.selects RJx4a65c yJx4a65c_get_915e3 yJx4a65c_get_915e3, Cond.code yJx4a65c_get_915e3 cJx4a65c_get_915e3 2 (some (.object "java/lang/Object")), Cond.methodLink RJx4a65c 118 yJ15_checkIndex_7cf53, Cond.static yJ15_checkIndex_7cf53, Cond.initialized RJ15, Cond.code yJ15_checkIndex_7cf53 cJ15_checkIndex_7cf53 2 (some .int), Cond.methodLink RJ15 105 yJ3_checkIndex_8e157, Cond.static yJ3_checkIndex_8e157, Cond.initialized RJ3, Cond.code yJ3_checkIndex_8e157 cJ3_checkIndex_8e157 3 (some .int), Cond.methodLink RJx4a65c 123 yJx4a65c_elementData_915e3, Cond.instanceMethod yJx4a65c_elementData_915e3, Cond.selects RJx4a65c yJx4a65c_elementData_915e3 yJx4a65c_elementData_915e3, Cond.code yJx4a65c_elementData_915e3 cJx4a65c_elementData_915e3 2 (some (.object "java/lang/Object")), Cond.fieldLink RJx4a65c 9 "java/util/ArrayList" "elementData" "[Ljava/lang/Object;", Cond.methodLink RX0 110 yX1_shareOf]
def wsX2_drawnSum_r4 : List Cond := [Cond.instanceMethod yX1_shareOf, Cond.selects RX1 yX1_shareOf yX1_shareOf, Cond.initialized RX1, Cond.code yX1_shareOf cX1_shareOf 7 (some .long), Cond.fieldLink RX1 22 "NetPoints$Sharer" "limit" "I", Cond.methodLink RX1 31 Lib.MathLoose.min_long.x, Cond.static Lib.MathLoose.min_long.x, Cond.initialized "java/lang/Math", Cond.code Lib.MathLoose.min_long.x Lib.MathLoose.min_long.code 4 (some .long), Cond.fieldLink RX1 25 "NetPoints$Sharer" "first" "I", Cond.fieldLink RX1 28 "NetPoints$Sharer" "second" "I", Cond.constantLong RX1 37 (10000), Cond.methodLink RX0 126 yX1_bonusAt, Cond.instanceMethod yX1_bonusAt, Cond.selects RX1 yX1_bonusAt yX1_bonusAt, Cond.code yX1_bonusAt cX1_bonusAt 3 (some .long), Cond.constantLong RX1 39 (100), Cond.methodLink RX2 184 yX0_moveGain, Cond.instanceMethod yX0_moveGain, Cond.selects RX0 yX0_moveGain yX0_moveGain, Cond.code yX0_moveGain cX0_moveGain 6 none, Cond.methodLink RX0 103 Lib.MathLoose.min_long.x, Cond.methodLink RX2 188 yX0_finishYear, Cond.instanceMethod yX0_finishYear]
def wsX2_drawnSum_r5 : List Cond := [Cond.selects RX0 yX0_finishYear yX0_finishYear, Cond.code yX0_finishYear cX0_finishYear 2 none, Cond.fieldLink RX0 107 "NetPoints$Picture" "interestRate" "I", Cond.fieldLink RX0 30 "NetPoints$Picture" "balances" "[J", Cond.fieldLink RX0 34 "NetPoints$Picture" "profits" "[J", Cond.methodLink RX2 174 yX0_sumDrawn, Cond.instanceMethod yX0_sumDrawn, Cond.selects RX0 yX0_sumDrawn yX0_sumDrawn, Cond.code yX0_sumDrawn cX0_sumDrawn 2 (some .long), Cond.fieldLink RX0 117 "NetPoints$Sharer" "limit" "I", Cond.fieldLink RX0 120 "NetPoints$Sharer" "turn" "I", Cond.methodLink RX0 114 yX0_poolDrawn, Cond.instanceMethod yX0_poolDrawn, Cond.selects RX0 yX0_poolDrawn yX0_poolDrawn, Cond.code yX0_poolDrawn cX0_poolDrawn 1 (some .long), Cond.methodLink RX0 123 yX0_profitLeftAt, Cond.instanceMethod yX0_profitLeftAt, Cond.selects RX0 yX0_profitLeftAt yX0_profitLeftAt, Cond.code yX0_profitLeftAt cX0_profitLeftAt 6 (some .long)]
def wsX2_drawnSum : List Cond := .code yX2_drawnSum cX2_drawnSum 2 (some .long) :: ((wsX2_drawnSum_r1 ++ (wsX2_drawnSum_r2 ++ (wsX2_drawnSum_r3 ++ (wsX2_drawnSum_r4 ++ wsX2_drawnSum_r5)))) ++ wsX10 ++ wsX20 ++ wsX00 ++ wsJx4a65c0)
def wsX2_pay_r1 : List Cond := [Cond.classLink RX2 101 "java/lang/IllegalStateException", Cond.initialized "java/lang/IllegalStateException", Cond.fieldLink RX2 22 "NetPoints" "allSharers" "Ljava/util/ArrayList;", Cond.classLink RX2 73 "NetPoints$Sharer", Cond.fieldLink RX2 119 "NetPoints$Sharer" "paidSoFar" "J", Cond.methodLink RX2 108 yX2_requireSharer, Cond.instanceMethod yX2_requireSharer, Cond.selects RX2 yX2_requireSharer yX2_requireSharer, Cond.initialized RX2, Cond.code yX2_requireSharer cX2_requireSharer 2 none, Cond.classLink RX2 148 "java/lang/IndexOutOfBoundsException", Cond.initialized "java/lang/IndexOutOfBoundsException", Cond.methodLink RX2 78 yJx4a65c_size_8abf5, Cond.instanceMethod yJx4a65c_size_8abf5, Cond.selects RJx4a65c yJx4a65c_size_8abf5 yJx4a65c_size_8abf5, Cond.initialized RJx4a65c, Cond.code yJx4a65c_size_8abf5 cJx4a65c_size_8abf5 1 (some .int), Cond.fieldLink RJx4a65c 48 "java/util/ArrayList" "size" "I", Cond.methodLink RX2 111 yJx4a65c_get_915e3, Cond.instanceMethod yJx4a65c_get_915e3, Cond.selects RJx4a65c yJx4a65c_get_915e3 yJx4a65c_get_915e3, Cond.code yJx4a65c_get_915e3 cJx4a65c_get_915e3 2 (some (.object "java/lang/Object")), Cond.methodLink RJx4a65c 118 yJ15_checkIndex_7cf53, Cond.static yJ15_checkIndex_7cf53]
def wsX2_pay_r2 : List Cond := [Cond.initialized RJ15, Cond.code yJ15_checkIndex_7cf53 cJ15_checkIndex_7cf53 2 (some .int), Cond.methodLink RJ15 105 yJ3_checkIndex_8e157, Cond.static yJ3_checkIndex_8e157, Cond.initialized RJ3, Cond.code yJ3_checkIndex_8e157 cJ3_checkIndex_8e157 3 (some .int), Cond.methodLink RJx4a65c 123 yJx4a65c_elementData_915e3, Cond.instanceMethod yJx4a65c_elementData_915e3, Cond.selects RJx4a65c yJx4a65c_elementData_915e3 yJx4a65c_elementData_915e3, Cond.code yJx4a65c_elementData_915e3 cJx4a65c_elementData_915e3 2 (some (.object "java/lang/Object")), Cond.fieldLink RJx4a65c 9 "java/util/ArrayList" "elementData" "[Ljava/lang/Object;", Cond.methodLink RX2 115 yX2_drawnSum, Cond.instanceMethod yX2_drawnSum, Cond.selects RX2 yX2_drawnSum yX2_drawnSum, Cond.code yX2_drawnSum cX2_drawnSum 2 (some .long), Cond.fieldLink RX2 171 "NetPoints$Sharer" "picture" "LNetPoints$Picture;", Cond.methodLink RX2 125 yX2_drawBooks, Cond.instanceMethod yX2_drawBooks, Cond.selects RX2 yX2_drawBooks yX2_drawBooks, Cond.code yX2_drawBooks cX2_drawBooks 6 none, Cond.fieldLink RX2 10 "NetPoints" "picture0" "LNetPoints$Picture;", Cond.fieldLink RX2 16 "NetPoints" "picture1" "LNetPoints$Picture;", Cond.fieldLink RX2 30 "NetPoints" "yearOfNow" "I", Cond.fieldLink RX2 26 "NetPoints" "crossed" "Z"]
def wsX2_pay_r3 : List Cond := [Cond.methodLink RX2 177 yX0_startBooks, Cond.instanceMethod yX0_startBooks, Cond.selects RX0 yX0_startBooks yX0_startBooks, Cond.initialized RX0, Cond.code yX0_startBooks cX0_startBooks 1 none, Cond.fieldLink RX0 63 "NetPoints$Picture" "grossSoFar" "J", Cond.fieldLink RX0 67 "NetPoints$Picture" "adjustedSoFar" "J", Cond.fieldLink RX0 70 "NetPoints$Picture" "feesSoFar" "J", Cond.fieldLink RX0 73 "NetPoints$Picture" "sharesSoFar" "J", Cond.fieldLink RX0 76 "NetPoints$Picture" "balanceSoFar" "J", Cond.fieldLink RX0 79 "NetPoints$Picture" "profitSoFar" "J", Cond.methodLink RX2 180 yX0_recoup, Cond.instanceMethod yX0_recoup, Cond.selects RX0 yX0_recoup yX0_recoup, Cond.code yX0_recoup cX0_recoup 12 (some .long), Cond.fieldLink RX0 86 "NetPoints$Picture" "topRate" "I", Cond.fieldLink RX0 16 "NetPoints$Picture" "costs" "[I", Cond.fieldLink RX0 100 "NetPoints$Picture" "overheadRate" "I", Cond.methodLink RX0 82 yX0_grossIn, Cond.instanceMethod yX0_grossIn, Cond.selects RX0 yX0_grossIn yX0_grossIn, Cond.code yX0_grossIn cX0_grossIn 5 (some .long), Cond.fieldLink RX0 11 "NetPoints$Picture" "receipts" "[[I", Cond.static yX2_part]
def wsX2_pay_r4 : List Cond := [Cond.code yX2_part cX2_part 3 (some .long), Cond.constantLong RX2 191 (10000), Cond.methodLink RX0 93 yX0_feesIn, Cond.instanceMethod yX0_feesIn, Cond.selects RX0 yX0_feesIn yX0_feesIn, Cond.code yX0_feesIn cX0_feesIn 5 (some .long), Cond.fieldLink RX0 20 "NetPoints$Picture" "feeRates" "[I", Cond.methodLink RX0 96 yX0_sharesThatAreCosts, Cond.instanceMethod yX0_sharesThatAreCosts, Cond.selects RX0 yX0_sharesThatAreCosts yX0_sharesThatAreCosts, Cond.code yX0_sharesThatAreCosts cX0_sharesThatAreCosts 5 (some .long), Cond.fieldLink RX0 26 "NetPoints$Picture" "sharers" "Ljava/util/ArrayList;", Cond.classLink RX0 45 "NetPoints$Sharer", Cond.fieldLink RX0 47 "NetPoints$Sharer" "kind" "I", Cond.methodLink RX0 37 yJx4a65c_size_8abf5, Cond.methodLink RX0 41 yJx4a65c_get_915e3, Cond.methodLink RX0 110 yX1_shareOf, Cond.instanceMethod yX1_shareOf, Cond.selects RX1 yX1_shareOf yX1_shareOf, Cond.initialized RX1, Cond.code yX1_shareOf cX1_shareOf 7 (some .long), Cond.fieldLink RX1 22 "NetPoints$Sharer" "limit" "I", Cond.methodLink RX1 31 Lib.MathLoose.min_long.x, Cond.static Lib.MathLoose.min_long.x]
def wsX2_pay_r5 : List Cond := [Cond.initialized "java/lang/Math", Cond.code Lib.MathLoose.min_long.x Lib.MathLoose.min_long.code 4 (some .long), Cond.fieldLink RX1 25 "NetPoints$Sharer" "first" "I", Cond.fieldLink RX1 28 "NetPoints$Sharer" "second" "I", Cond.constantLong RX1 37 (10000), Cond.methodLink RX0 126 yX1_bonusAt, Cond.instanceMethod yX1_bonusAt, Cond.selects RX1 yX1_bonusAt yX1_bonusAt, Cond.code yX1_bonusAt cX1_bonusAt 3 (some .long), Cond.constantLong RX1 39 (100), Cond.methodLink RX2 184 yX0_moveGain, Cond.instanceMethod yX0_moveGain, Cond.selects RX0 yX0_moveGain yX0_moveGain, Cond.code yX0_moveGain cX0_moveGain 6 none, Cond.methodLink RX0 103 Lib.MathLoose.min_long.x, Cond.methodLink RX2 188 yX0_finishYear, Cond.instanceMethod yX0_finishYear, Cond.selects RX0 yX0_finishYear yX0_finishYear, Cond.code yX0_finishYear cX0_finishYear 2 none, Cond.fieldLink RX0 107 "NetPoints$Picture" "interestRate" "I", Cond.fieldLink RX0 30 "NetPoints$Picture" "balances" "[J", Cond.fieldLink RX0 34 "NetPoints$Picture" "profits" "[J", Cond.methodLink RX2 174 yX0_sumDrawn, Cond.instanceMethod yX0_sumDrawn]
def wsX2_pay_r6 : List Cond := [Cond.selects RX0 yX0_sumDrawn yX0_sumDrawn, Cond.code yX0_sumDrawn cX0_sumDrawn 2 (some .long), Cond.fieldLink RX0 117 "NetPoints$Sharer" "limit" "I", Cond.fieldLink RX0 120 "NetPoints$Sharer" "turn" "I", Cond.methodLink RX0 114 yX0_poolDrawn, Cond.instanceMethod yX0_poolDrawn, Cond.selects RX0 yX0_poolDrawn yX0_poolDrawn, Cond.code yX0_poolDrawn cX0_poolDrawn 1 (some .long), Cond.methodLink RX0 123 yX0_profitLeftAt, Cond.instanceMethod yX0_profitLeftAt, Cond.selects RX0 yX0_profitLeftAt yX0_profitLeftAt, Cond.code yX0_profitLeftAt cX0_profitLeftAt 6 (some .long)]
def wsX2_pay : List Cond := .code yX2_pay cX2_pay 5 (some .int) :: ((wsX2_pay_r1 ++ (wsX2_pay_r2 ++ (wsX2_pay_r3 ++ (wsX2_pay_r4 ++ (wsX2_pay_r5 ++ wsX2_pay_r6))))) ++ wsX20 ++ wsX10 ++ wsJx4a65c0 ++ wsX00 ++ (vx_atS RX2 105 "java/lang/IllegalStateException" ["java/lang/RuntimeException", "java/lang/Exception"]).filter goodWord ++ (vx_atS RX2 152 "java/lang/IndexOutOfBoundsException" ["java/lang/RuntimeException", "java/lang/Exception"]).filter goodWord)
def wsX2_year : List Cond := .code yX2_year cX2_year 1 (some .int) :: ([.fieldLink RX2 30 "NetPoints" "yearOfNow" "I"] ++ wsX20)
def wsX2_gross_r1 : List Cond := [Cond.fieldLink RX2 128 "NetPoints$Picture" "grossSoFar" "J", Cond.methodLink RX2 34 yX2_requirePicture, Cond.static yX2_requirePicture, Cond.initialized RX2, Cond.code yX2_requirePicture cX2_requirePicture 1 none, Cond.classLink RX2 148 "java/lang/IndexOutOfBoundsException", Cond.initialized "java/lang/IndexOutOfBoundsException", Cond.methodLink RX2 125 yX2_drawBooks, Cond.instanceMethod yX2_drawBooks, Cond.selects RX2 yX2_drawBooks yX2_drawBooks, Cond.code yX2_drawBooks cX2_drawBooks 6 none, Cond.fieldLink RX2 10 "NetPoints" "picture0" "LNetPoints$Picture;", Cond.fieldLink RX2 16 "NetPoints" "picture1" "LNetPoints$Picture;", Cond.fieldLink RX2 30 "NetPoints" "yearOfNow" "I", Cond.fieldLink RX2 26 "NetPoints" "crossed" "Z", Cond.methodLink RX2 177 yX0_startBooks, Cond.instanceMethod yX0_startBooks, Cond.selects RX0 yX0_startBooks yX0_startBooks, Cond.initialized RX0, Cond.code yX0_startBooks cX0_startBooks 1 none, Cond.fieldLink RX0 63 "NetPoints$Picture" "grossSoFar" "J", Cond.fieldLink RX0 67 "NetPoints$Picture" "adjustedSoFar" "J", Cond.fieldLink RX0 70 "NetPoints$Picture" "feesSoFar" "J", Cond.fieldLink RX0 73 "NetPoints$Picture" "sharesSoFar" "J"]
def wsX2_gross_r2 : List Cond := [Cond.fieldLink RX0 76 "NetPoints$Picture" "balanceSoFar" "J", Cond.fieldLink RX0 79 "NetPoints$Picture" "profitSoFar" "J", Cond.methodLink RX2 180 yX0_recoup, Cond.instanceMethod yX0_recoup, Cond.selects RX0 yX0_recoup yX0_recoup, Cond.code yX0_recoup cX0_recoup 12 (some .long), Cond.fieldLink RX0 86 "NetPoints$Picture" "topRate" "I", Cond.fieldLink RX0 16 "NetPoints$Picture" "costs" "[I", Cond.fieldLink RX0 100 "NetPoints$Picture" "overheadRate" "I", Cond.methodLink RX0 82 yX0_grossIn, Cond.instanceMethod yX0_grossIn, Cond.selects RX0 yX0_grossIn yX0_grossIn, Cond.code yX0_grossIn cX0_grossIn 5 (some .long), Cond.fieldLink RX0 11 "NetPoints$Picture" "receipts" "[[I", Cond.static yX2_part, Cond.code yX2_part cX2_part 3 (some .long), Cond.constantLong RX2 191 (10000), Cond.methodLink RX0 93 yX0_feesIn, Cond.instanceMethod yX0_feesIn, Cond.selects RX0 yX0_feesIn yX0_feesIn, Cond.code yX0_feesIn cX0_feesIn 5 (some .long), Cond.fieldLink RX0 20 "NetPoints$Picture" "feeRates" "[I", Cond.methodLink RX0 96 yX0_sharesThatAreCosts, Cond.instanceMethod yX0_sharesThatAreCosts]
def wsX2_gross_r3 : List Cond := [Cond.selects RX0 yX0_sharesThatAreCosts yX0_sharesThatAreCosts, Cond.code yX0_sharesThatAreCosts cX0_sharesThatAreCosts 5 (some .long), Cond.fieldLink RX0 26 "NetPoints$Picture" "sharers" "Ljava/util/ArrayList;", Cond.classLink RX0 45 "NetPoints$Sharer", Cond.fieldLink RX0 47 "NetPoints$Sharer" "kind" "I", Cond.methodLink RX0 37 yJx4a65c_size_8abf5, Cond.instanceMethod yJx4a65c_size_8abf5, Cond.selects RJx4a65c yJx4a65c_size_8abf5 yJx4a65c_size_8abf5, Cond.initialized RJx4a65c, Cond.code yJx4a65c_size_8abf5 cJx4a65c_size_8abf5 1 (some .int), Cond.fieldLink RJx4a65c 48 "java/util/ArrayList" "size" "I", Cond.methodLink RX0 41 yJx4a65c_get_915e3, Cond.instanceMethod yJx4a65c_get_915e3, Cond.selects RJx4a65c yJx4a65c_get_915e3 yJx4a65c_get_915e3, Cond.code yJx4a65c_get_915e3 cJx4a65c_get_915e3 2 (some (.object "java/lang/Object")), Cond.methodLink RJx4a65c 118 yJ15_checkIndex_7cf53, Cond.static yJ15_checkIndex_7cf53, Cond.initialized RJ15, Cond.code yJ15_checkIndex_7cf53 cJ15_checkIndex_7cf53 2 (some .int), Cond.methodLink RJ15 105 yJ3_checkIndex_8e157, Cond.static yJ3_checkIndex_8e157, Cond.initialized RJ3, Cond.code yJ3_checkIndex_8e157 cJ3_checkIndex_8e157 3 (some .int), Cond.methodLink RJx4a65c 123 yJx4a65c_elementData_915e3]
def wsX2_gross_r4 : List Cond := [Cond.instanceMethod yJx4a65c_elementData_915e3, Cond.selects RJx4a65c yJx4a65c_elementData_915e3 yJx4a65c_elementData_915e3, Cond.code yJx4a65c_elementData_915e3 cJx4a65c_elementData_915e3 2 (some (.object "java/lang/Object")), Cond.fieldLink RJx4a65c 9 "java/util/ArrayList" "elementData" "[Ljava/lang/Object;", Cond.methodLink RX0 110 yX1_shareOf, Cond.instanceMethod yX1_shareOf, Cond.selects RX1 yX1_shareOf yX1_shareOf, Cond.initialized RX1, Cond.code yX1_shareOf cX1_shareOf 7 (some .long), Cond.fieldLink RX1 22 "NetPoints$Sharer" "limit" "I", Cond.methodLink RX1 31 Lib.MathLoose.min_long.x, Cond.static Lib.MathLoose.min_long.x, Cond.initialized "java/lang/Math", Cond.code Lib.MathLoose.min_long.x Lib.MathLoose.min_long.code 4 (some .long), Cond.fieldLink RX1 25 "NetPoints$Sharer" "first" "I", Cond.fieldLink RX1 28 "NetPoints$Sharer" "second" "I", Cond.constantLong RX1 37 (10000), Cond.methodLink RX0 126 yX1_bonusAt, Cond.instanceMethod yX1_bonusAt, Cond.selects RX1 yX1_bonusAt yX1_bonusAt, Cond.code yX1_bonusAt cX1_bonusAt 3 (some .long), Cond.constantLong RX1 39 (100), Cond.methodLink RX2 184 yX0_moveGain, Cond.instanceMethod yX0_moveGain]
def wsX2_gross_r5 : List Cond := [Cond.selects RX0 yX0_moveGain yX0_moveGain, Cond.code yX0_moveGain cX0_moveGain 6 none, Cond.methodLink RX0 103 Lib.MathLoose.min_long.x, Cond.methodLink RX2 188 yX0_finishYear, Cond.instanceMethod yX0_finishYear, Cond.selects RX0 yX0_finishYear yX0_finishYear, Cond.code yX0_finishYear cX0_finishYear 2 none, Cond.fieldLink RX0 107 "NetPoints$Picture" "interestRate" "I", Cond.fieldLink RX0 30 "NetPoints$Picture" "balances" "[J", Cond.fieldLink RX0 34 "NetPoints$Picture" "profits" "[J", Cond.methodLink RX2 42 yX2_pictureOf, Cond.instanceMethod yX2_pictureOf, Cond.selects RX2 yX2_pictureOf yX2_pictureOf, Cond.code yX2_pictureOf cX2_pictureOf 2 (some (.object "NetPoints$Picture"))]
def wsX2_gross : List Cond := .code yX2_gross cX2_gross 2 (some .int) :: ((wsX2_gross_r1 ++ (wsX2_gross_r2 ++ (wsX2_gross_r3 ++ (wsX2_gross_r4 ++ wsX2_gross_r5)))) ++ wsX00 ++ wsX20 ++ wsX10 ++ wsJx4a65c0 ++ (vx_atS RX2 152 "java/lang/IndexOutOfBoundsException" ["java/lang/RuntimeException", "java/lang/Exception"]).filter goodWord)
def wsX2_adjusted_r1 : List Cond := [Cond.fieldLink RX2 131 "NetPoints$Picture" "adjustedSoFar" "J", Cond.methodLink RX2 34 yX2_requirePicture, Cond.static yX2_requirePicture, Cond.initialized RX2, Cond.code yX2_requirePicture cX2_requirePicture 1 none, Cond.classLink RX2 148 "java/lang/IndexOutOfBoundsException", Cond.initialized "java/lang/IndexOutOfBoundsException", Cond.methodLink RX2 125 yX2_drawBooks, Cond.instanceMethod yX2_drawBooks, Cond.selects RX2 yX2_drawBooks yX2_drawBooks, Cond.code yX2_drawBooks cX2_drawBooks 6 none, Cond.fieldLink RX2 10 "NetPoints" "picture0" "LNetPoints$Picture;", Cond.fieldLink RX2 16 "NetPoints" "picture1" "LNetPoints$Picture;", Cond.fieldLink RX2 30 "NetPoints" "yearOfNow" "I", Cond.fieldLink RX2 26 "NetPoints" "crossed" "Z", Cond.methodLink RX2 177 yX0_startBooks, Cond.instanceMethod yX0_startBooks, Cond.selects RX0 yX0_startBooks yX0_startBooks, Cond.initialized RX0, Cond.code yX0_startBooks cX0_startBooks 1 none, Cond.fieldLink RX0 63 "NetPoints$Picture" "grossSoFar" "J", Cond.fieldLink RX0 67 "NetPoints$Picture" "adjustedSoFar" "J", Cond.fieldLink RX0 70 "NetPoints$Picture" "feesSoFar" "J", Cond.fieldLink RX0 73 "NetPoints$Picture" "sharesSoFar" "J"]
def wsX2_adjusted_r2 : List Cond := [Cond.fieldLink RX0 76 "NetPoints$Picture" "balanceSoFar" "J", Cond.fieldLink RX0 79 "NetPoints$Picture" "profitSoFar" "J", Cond.methodLink RX2 180 yX0_recoup, Cond.instanceMethod yX0_recoup, Cond.selects RX0 yX0_recoup yX0_recoup, Cond.code yX0_recoup cX0_recoup 12 (some .long), Cond.fieldLink RX0 86 "NetPoints$Picture" "topRate" "I", Cond.fieldLink RX0 16 "NetPoints$Picture" "costs" "[I", Cond.fieldLink RX0 100 "NetPoints$Picture" "overheadRate" "I", Cond.methodLink RX0 82 yX0_grossIn, Cond.instanceMethod yX0_grossIn, Cond.selects RX0 yX0_grossIn yX0_grossIn, Cond.code yX0_grossIn cX0_grossIn 5 (some .long), Cond.fieldLink RX0 11 "NetPoints$Picture" "receipts" "[[I", Cond.static yX2_part, Cond.code yX2_part cX2_part 3 (some .long), Cond.constantLong RX2 191 (10000), Cond.methodLink RX0 93 yX0_feesIn, Cond.instanceMethod yX0_feesIn, Cond.selects RX0 yX0_feesIn yX0_feesIn, Cond.code yX0_feesIn cX0_feesIn 5 (some .long), Cond.fieldLink RX0 20 "NetPoints$Picture" "feeRates" "[I", Cond.methodLink RX0 96 yX0_sharesThatAreCosts, Cond.instanceMethod yX0_sharesThatAreCosts]
def wsX2_adjusted_r3 : List Cond := [Cond.selects RX0 yX0_sharesThatAreCosts yX0_sharesThatAreCosts, Cond.code yX0_sharesThatAreCosts cX0_sharesThatAreCosts 5 (some .long), Cond.fieldLink RX0 26 "NetPoints$Picture" "sharers" "Ljava/util/ArrayList;", Cond.classLink RX0 45 "NetPoints$Sharer", Cond.fieldLink RX0 47 "NetPoints$Sharer" "kind" "I", Cond.methodLink RX0 37 yJx4a65c_size_8abf5, Cond.instanceMethod yJx4a65c_size_8abf5, Cond.selects RJx4a65c yJx4a65c_size_8abf5 yJx4a65c_size_8abf5, Cond.initialized RJx4a65c, Cond.code yJx4a65c_size_8abf5 cJx4a65c_size_8abf5 1 (some .int), Cond.fieldLink RJx4a65c 48 "java/util/ArrayList" "size" "I", Cond.methodLink RX0 41 yJx4a65c_get_915e3, Cond.instanceMethod yJx4a65c_get_915e3, Cond.selects RJx4a65c yJx4a65c_get_915e3 yJx4a65c_get_915e3, Cond.code yJx4a65c_get_915e3 cJx4a65c_get_915e3 2 (some (.object "java/lang/Object")), Cond.methodLink RJx4a65c 118 yJ15_checkIndex_7cf53, Cond.static yJ15_checkIndex_7cf53, Cond.initialized RJ15, Cond.code yJ15_checkIndex_7cf53 cJ15_checkIndex_7cf53 2 (some .int), Cond.methodLink RJ15 105 yJ3_checkIndex_8e157, Cond.static yJ3_checkIndex_8e157, Cond.initialized RJ3, Cond.code yJ3_checkIndex_8e157 cJ3_checkIndex_8e157 3 (some .int), Cond.methodLink RJx4a65c 123 yJx4a65c_elementData_915e3]
def wsX2_adjusted_r4 : List Cond := [Cond.instanceMethod yJx4a65c_elementData_915e3, Cond.selects RJx4a65c yJx4a65c_elementData_915e3 yJx4a65c_elementData_915e3, Cond.code yJx4a65c_elementData_915e3 cJx4a65c_elementData_915e3 2 (some (.object "java/lang/Object")), Cond.fieldLink RJx4a65c 9 "java/util/ArrayList" "elementData" "[Ljava/lang/Object;", Cond.methodLink RX0 110 yX1_shareOf, Cond.instanceMethod yX1_shareOf, Cond.selects RX1 yX1_shareOf yX1_shareOf, Cond.initialized RX1, Cond.code yX1_shareOf cX1_shareOf 7 (some .long), Cond.fieldLink RX1 22 "NetPoints$Sharer" "limit" "I", Cond.methodLink RX1 31 Lib.MathLoose.min_long.x, Cond.static Lib.MathLoose.min_long.x, Cond.initialized "java/lang/Math", Cond.code Lib.MathLoose.min_long.x Lib.MathLoose.min_long.code 4 (some .long), Cond.fieldLink RX1 25 "NetPoints$Sharer" "first" "I", Cond.fieldLink RX1 28 "NetPoints$Sharer" "second" "I", Cond.constantLong RX1 37 (10000), Cond.methodLink RX0 126 yX1_bonusAt, Cond.instanceMethod yX1_bonusAt, Cond.selects RX1 yX1_bonusAt yX1_bonusAt, Cond.code yX1_bonusAt cX1_bonusAt 3 (some .long), Cond.constantLong RX1 39 (100), Cond.methodLink RX2 184 yX0_moveGain, Cond.instanceMethod yX0_moveGain]
def wsX2_adjusted_r5 : List Cond := [Cond.selects RX0 yX0_moveGain yX0_moveGain, Cond.code yX0_moveGain cX0_moveGain 6 none, Cond.methodLink RX0 103 Lib.MathLoose.min_long.x, Cond.methodLink RX2 188 yX0_finishYear, Cond.instanceMethod yX0_finishYear, Cond.selects RX0 yX0_finishYear yX0_finishYear, Cond.code yX0_finishYear cX0_finishYear 2 none, Cond.fieldLink RX0 107 "NetPoints$Picture" "interestRate" "I", Cond.fieldLink RX0 30 "NetPoints$Picture" "balances" "[J", Cond.fieldLink RX0 34 "NetPoints$Picture" "profits" "[J", Cond.methodLink RX2 42 yX2_pictureOf, Cond.instanceMethod yX2_pictureOf, Cond.selects RX2 yX2_pictureOf yX2_pictureOf, Cond.code yX2_pictureOf cX2_pictureOf 2 (some (.object "NetPoints$Picture"))]
def wsX2_adjusted : List Cond := .code yX2_adjusted cX2_adjusted 2 (some .int) :: ((wsX2_adjusted_r1 ++ (wsX2_adjusted_r2 ++ (wsX2_adjusted_r3 ++ (wsX2_adjusted_r4 ++ wsX2_adjusted_r5)))) ++ wsX00 ++ wsX20 ++ wsX10 ++ wsJx4a65c0 ++ (vx_atS RX2 152 "java/lang/IndexOutOfBoundsException" ["java/lang/RuntimeException", "java/lang/Exception"]).filter goodWord)
def wsX2_fees_r1 : List Cond := [Cond.fieldLink RX2 134 "NetPoints$Picture" "feesSoFar" "J", Cond.methodLink RX2 34 yX2_requirePicture, Cond.static yX2_requirePicture, Cond.initialized RX2, Cond.code yX2_requirePicture cX2_requirePicture 1 none, Cond.classLink RX2 148 "java/lang/IndexOutOfBoundsException", Cond.initialized "java/lang/IndexOutOfBoundsException", Cond.methodLink RX2 125 yX2_drawBooks, Cond.instanceMethod yX2_drawBooks, Cond.selects RX2 yX2_drawBooks yX2_drawBooks, Cond.code yX2_drawBooks cX2_drawBooks 6 none, Cond.fieldLink RX2 10 "NetPoints" "picture0" "LNetPoints$Picture;", Cond.fieldLink RX2 16 "NetPoints" "picture1" "LNetPoints$Picture;", Cond.fieldLink RX2 30 "NetPoints" "yearOfNow" "I", Cond.fieldLink RX2 26 "NetPoints" "crossed" "Z", Cond.methodLink RX2 177 yX0_startBooks, Cond.instanceMethod yX0_startBooks, Cond.selects RX0 yX0_startBooks yX0_startBooks, Cond.initialized RX0, Cond.code yX0_startBooks cX0_startBooks 1 none, Cond.fieldLink RX0 63 "NetPoints$Picture" "grossSoFar" "J", Cond.fieldLink RX0 67 "NetPoints$Picture" "adjustedSoFar" "J", Cond.fieldLink RX0 70 "NetPoints$Picture" "feesSoFar" "J", Cond.fieldLink RX0 73 "NetPoints$Picture" "sharesSoFar" "J"]
def wsX2_fees_r2 : List Cond := [Cond.fieldLink RX0 76 "NetPoints$Picture" "balanceSoFar" "J", Cond.fieldLink RX0 79 "NetPoints$Picture" "profitSoFar" "J", Cond.methodLink RX2 180 yX0_recoup, Cond.instanceMethod yX0_recoup, Cond.selects RX0 yX0_recoup yX0_recoup, Cond.code yX0_recoup cX0_recoup 12 (some .long), Cond.fieldLink RX0 86 "NetPoints$Picture" "topRate" "I", Cond.fieldLink RX0 16 "NetPoints$Picture" "costs" "[I", Cond.fieldLink RX0 100 "NetPoints$Picture" "overheadRate" "I", Cond.methodLink RX0 82 yX0_grossIn, Cond.instanceMethod yX0_grossIn, Cond.selects RX0 yX0_grossIn yX0_grossIn, Cond.code yX0_grossIn cX0_grossIn 5 (some .long), Cond.fieldLink RX0 11 "NetPoints$Picture" "receipts" "[[I", Cond.static yX2_part, Cond.code yX2_part cX2_part 3 (some .long), Cond.constantLong RX2 191 (10000), Cond.methodLink RX0 93 yX0_feesIn, Cond.instanceMethod yX0_feesIn, Cond.selects RX0 yX0_feesIn yX0_feesIn, Cond.code yX0_feesIn cX0_feesIn 5 (some .long), Cond.fieldLink RX0 20 "NetPoints$Picture" "feeRates" "[I", Cond.methodLink RX0 96 yX0_sharesThatAreCosts, Cond.instanceMethod yX0_sharesThatAreCosts]
def wsX2_fees_r3 : List Cond := [Cond.selects RX0 yX0_sharesThatAreCosts yX0_sharesThatAreCosts, Cond.code yX0_sharesThatAreCosts cX0_sharesThatAreCosts 5 (some .long), Cond.fieldLink RX0 26 "NetPoints$Picture" "sharers" "Ljava/util/ArrayList;", Cond.classLink RX0 45 "NetPoints$Sharer", Cond.fieldLink RX0 47 "NetPoints$Sharer" "kind" "I", Cond.methodLink RX0 37 yJx4a65c_size_8abf5, Cond.instanceMethod yJx4a65c_size_8abf5, Cond.selects RJx4a65c yJx4a65c_size_8abf5 yJx4a65c_size_8abf5, Cond.initialized RJx4a65c, Cond.code yJx4a65c_size_8abf5 cJx4a65c_size_8abf5 1 (some .int), Cond.fieldLink RJx4a65c 48 "java/util/ArrayList" "size" "I", Cond.methodLink RX0 41 yJx4a65c_get_915e3, Cond.instanceMethod yJx4a65c_get_915e3, Cond.selects RJx4a65c yJx4a65c_get_915e3 yJx4a65c_get_915e3, Cond.code yJx4a65c_get_915e3 cJx4a65c_get_915e3 2 (some (.object "java/lang/Object")), Cond.methodLink RJx4a65c 118 yJ15_checkIndex_7cf53, Cond.static yJ15_checkIndex_7cf53, Cond.initialized RJ15, Cond.code yJ15_checkIndex_7cf53 cJ15_checkIndex_7cf53 2 (some .int), Cond.methodLink RJ15 105 yJ3_checkIndex_8e157, Cond.static yJ3_checkIndex_8e157, Cond.initialized RJ3, Cond.code yJ3_checkIndex_8e157 cJ3_checkIndex_8e157 3 (some .int), Cond.methodLink RJx4a65c 123 yJx4a65c_elementData_915e3]
def wsX2_fees_r4 : List Cond := [Cond.instanceMethod yJx4a65c_elementData_915e3, Cond.selects RJx4a65c yJx4a65c_elementData_915e3 yJx4a65c_elementData_915e3, Cond.code yJx4a65c_elementData_915e3 cJx4a65c_elementData_915e3 2 (some (.object "java/lang/Object")), Cond.fieldLink RJx4a65c 9 "java/util/ArrayList" "elementData" "[Ljava/lang/Object;", Cond.methodLink RX0 110 yX1_shareOf, Cond.instanceMethod yX1_shareOf, Cond.selects RX1 yX1_shareOf yX1_shareOf, Cond.initialized RX1, Cond.code yX1_shareOf cX1_shareOf 7 (some .long), Cond.fieldLink RX1 22 "NetPoints$Sharer" "limit" "I", Cond.methodLink RX1 31 Lib.MathLoose.min_long.x, Cond.static Lib.MathLoose.min_long.x, Cond.initialized "java/lang/Math", Cond.code Lib.MathLoose.min_long.x Lib.MathLoose.min_long.code 4 (some .long), Cond.fieldLink RX1 25 "NetPoints$Sharer" "first" "I", Cond.fieldLink RX1 28 "NetPoints$Sharer" "second" "I", Cond.constantLong RX1 37 (10000), Cond.methodLink RX0 126 yX1_bonusAt, Cond.instanceMethod yX1_bonusAt, Cond.selects RX1 yX1_bonusAt yX1_bonusAt, Cond.code yX1_bonusAt cX1_bonusAt 3 (some .long), Cond.constantLong RX1 39 (100), Cond.methodLink RX2 184 yX0_moveGain, Cond.instanceMethod yX0_moveGain]
def wsX2_fees_r5 : List Cond := [Cond.selects RX0 yX0_moveGain yX0_moveGain, Cond.code yX0_moveGain cX0_moveGain 6 none, Cond.methodLink RX0 103 Lib.MathLoose.min_long.x, Cond.methodLink RX2 188 yX0_finishYear, Cond.instanceMethod yX0_finishYear, Cond.selects RX0 yX0_finishYear yX0_finishYear, Cond.code yX0_finishYear cX0_finishYear 2 none, Cond.fieldLink RX0 107 "NetPoints$Picture" "interestRate" "I", Cond.fieldLink RX0 30 "NetPoints$Picture" "balances" "[J", Cond.fieldLink RX0 34 "NetPoints$Picture" "profits" "[J", Cond.methodLink RX2 42 yX2_pictureOf, Cond.instanceMethod yX2_pictureOf, Cond.selects RX2 yX2_pictureOf yX2_pictureOf, Cond.code yX2_pictureOf cX2_pictureOf 2 (some (.object "NetPoints$Picture"))]
def wsX2_fees : List Cond := .code yX2_fees cX2_fees 2 (some .int) :: ((wsX2_fees_r1 ++ (wsX2_fees_r2 ++ (wsX2_fees_r3 ++ (wsX2_fees_r4 ++ wsX2_fees_r5)))) ++ wsX00 ++ wsX20 ++ wsX10 ++ wsJx4a65c0 ++ (vx_atS RX2 152 "java/lang/IndexOutOfBoundsException" ["java/lang/RuntimeException", "java/lang/Exception"]).filter goodWord)
def wsX2_balance_r1 : List Cond := [Cond.fieldLink RX2 30 "NetPoints" "yearOfNow" "I", Cond.fieldLink RX2 137 "NetPoints$Picture" "balances" "[J", Cond.methodLink RX2 34 yX2_requirePicture, Cond.static yX2_requirePicture, Cond.initialized RX2, Cond.code yX2_requirePicture cX2_requirePicture 1 none, Cond.classLink RX2 148 "java/lang/IndexOutOfBoundsException", Cond.initialized "java/lang/IndexOutOfBoundsException", Cond.methodLink RX2 38 yX2_requireRange, Cond.static yX2_requireRange, Cond.code yX2_requireRange cX2_requireRange 3 none, Cond.classLink RX2 155 "java/lang/IllegalArgumentException", Cond.initialized "java/lang/IllegalArgumentException", Cond.methodLink RX2 125 yX2_drawBooks, Cond.instanceMethod yX2_drawBooks, Cond.selects RX2 yX2_drawBooks yX2_drawBooks, Cond.code yX2_drawBooks cX2_drawBooks 6 none, Cond.fieldLink RX2 10 "NetPoints" "picture0" "LNetPoints$Picture;", Cond.fieldLink RX2 16 "NetPoints" "picture1" "LNetPoints$Picture;", Cond.fieldLink RX2 26 "NetPoints" "crossed" "Z", Cond.methodLink RX2 177 yX0_startBooks, Cond.instanceMethod yX0_startBooks, Cond.selects RX0 yX0_startBooks yX0_startBooks, Cond.initialized RX0]
def wsX2_balance_r2 : List Cond := [Cond.code yX0_startBooks cX0_startBooks 1 none, Cond.fieldLink RX0 63 "NetPoints$Picture" "grossSoFar" "J", Cond.fieldLink RX0 67 "NetPoints$Picture" "adjustedSoFar" "J", Cond.fieldLink RX0 70 "NetPoints$Picture" "feesSoFar" "J", Cond.fieldLink RX0 73 "NetPoints$Picture" "sharesSoFar" "J", Cond.fieldLink RX0 76 "NetPoints$Picture" "balanceSoFar" "J", Cond.fieldLink RX0 79 "NetPoints$Picture" "profitSoFar" "J", Cond.methodLink RX2 180 yX0_recoup, Cond.instanceMethod yX0_recoup, Cond.selects RX0 yX0_recoup yX0_recoup, Cond.code yX0_recoup cX0_recoup 12 (some .long), Cond.fieldLink RX0 86 "NetPoints$Picture" "topRate" "I", Cond.fieldLink RX0 16 "NetPoints$Picture" "costs" "[I", Cond.fieldLink RX0 100 "NetPoints$Picture" "overheadRate" "I", Cond.methodLink RX0 82 yX0_grossIn, Cond.instanceMethod yX0_grossIn, Cond.selects RX0 yX0_grossIn yX0_grossIn, Cond.code yX0_grossIn cX0_grossIn 5 (some .long), Cond.fieldLink RX0 11 "NetPoints$Picture" "receipts" "[[I", Cond.static yX2_part, Cond.code yX2_part cX2_part 3 (some .long), Cond.constantLong RX2 191 (10000), Cond.methodLink RX0 93 yX0_feesIn, Cond.instanceMethod yX0_feesIn]
def wsX2_balance_r3 : List Cond := [Cond.selects RX0 yX0_feesIn yX0_feesIn, Cond.code yX0_feesIn cX0_feesIn 5 (some .long), Cond.fieldLink RX0 20 "NetPoints$Picture" "feeRates" "[I", Cond.methodLink RX0 96 yX0_sharesThatAreCosts, Cond.instanceMethod yX0_sharesThatAreCosts, Cond.selects RX0 yX0_sharesThatAreCosts yX0_sharesThatAreCosts, Cond.code yX0_sharesThatAreCosts cX0_sharesThatAreCosts 5 (some .long), Cond.fieldLink RX0 26 "NetPoints$Picture" "sharers" "Ljava/util/ArrayList;", Cond.classLink RX0 45 "NetPoints$Sharer", Cond.fieldLink RX0 47 "NetPoints$Sharer" "kind" "I", Cond.methodLink RX0 37 yJx4a65c_size_8abf5, Cond.instanceMethod yJx4a65c_size_8abf5, Cond.selects RJx4a65c yJx4a65c_size_8abf5 yJx4a65c_size_8abf5, Cond.initialized RJx4a65c, Cond.code yJx4a65c_size_8abf5 cJx4a65c_size_8abf5 1 (some .int), Cond.fieldLink RJx4a65c 48 "java/util/ArrayList" "size" "I", Cond.methodLink RX0 41 yJx4a65c_get_915e3, Cond.instanceMethod yJx4a65c_get_915e3, Cond.selects RJx4a65c yJx4a65c_get_915e3 yJx4a65c_get_915e3, Cond.code yJx4a65c_get_915e3 cJx4a65c_get_915e3 2 (some (.object "java/lang/Object")), Cond.methodLink RJx4a65c 118 yJ15_checkIndex_7cf53, Cond.static yJ15_checkIndex_7cf53, Cond.initialized RJ15, Cond.code yJ15_checkIndex_7cf53 cJ15_checkIndex_7cf53 2 (some .int)]
def wsX2_balance_r4 : List Cond := [Cond.methodLink RJ15 105 yJ3_checkIndex_8e157, Cond.static yJ3_checkIndex_8e157, Cond.initialized RJ3, Cond.code yJ3_checkIndex_8e157 cJ3_checkIndex_8e157 3 (some .int), Cond.methodLink RJx4a65c 123 yJx4a65c_elementData_915e3, Cond.instanceMethod yJx4a65c_elementData_915e3, Cond.selects RJx4a65c yJx4a65c_elementData_915e3 yJx4a65c_elementData_915e3, Cond.code yJx4a65c_elementData_915e3 cJx4a65c_elementData_915e3 2 (some (.object "java/lang/Object")), Cond.fieldLink RJx4a65c 9 "java/util/ArrayList" "elementData" "[Ljava/lang/Object;", Cond.methodLink RX0 110 yX1_shareOf, Cond.instanceMethod yX1_shareOf, Cond.selects RX1 yX1_shareOf yX1_shareOf, Cond.initialized RX1, Cond.code yX1_shareOf cX1_shareOf 7 (some .long), Cond.fieldLink RX1 22 "NetPoints$Sharer" "limit" "I", Cond.methodLink RX1 31 Lib.MathLoose.min_long.x, Cond.static Lib.MathLoose.min_long.x, Cond.initialized "java/lang/Math", Cond.code Lib.MathLoose.min_long.x Lib.MathLoose.min_long.code 4 (some .long), Cond.fieldLink RX1 25 "NetPoints$Sharer" "first" "I", Cond.fieldLink RX1 28 "NetPoints$Sharer" "second" "I", Cond.constantLong RX1 37 (10000), Cond.methodLink RX0 126 yX1_bonusAt, Cond.instanceMethod yX1_bonusAt]
def wsX2_balance_r5 : List Cond := [Cond.selects RX1 yX1_bonusAt yX1_bonusAt, Cond.code yX1_bonusAt cX1_bonusAt 3 (some .long), Cond.constantLong RX1 39 (100), Cond.methodLink RX2 184 yX0_moveGain, Cond.instanceMethod yX0_moveGain, Cond.selects RX0 yX0_moveGain yX0_moveGain, Cond.code yX0_moveGain cX0_moveGain 6 none, Cond.methodLink RX0 103 Lib.MathLoose.min_long.x, Cond.methodLink RX2 188 yX0_finishYear, Cond.instanceMethod yX0_finishYear, Cond.selects RX0 yX0_finishYear yX0_finishYear, Cond.code yX0_finishYear cX0_finishYear 2 none, Cond.fieldLink RX0 107 "NetPoints$Picture" "interestRate" "I", Cond.fieldLink RX0 30 "NetPoints$Picture" "balances" "[J", Cond.fieldLink RX0 34 "NetPoints$Picture" "profits" "[J", Cond.methodLink RX2 42 yX2_pictureOf, Cond.instanceMethod yX2_pictureOf, Cond.selects RX2 yX2_pictureOf yX2_pictureOf, Cond.code yX2_pictureOf cX2_pictureOf 2 (some (.object "NetPoints$Picture"))]
def wsX2_balance : List Cond := .code yX2_balance cX2_balance 3 (some .int) :: ((wsX2_balance_r1 ++ (wsX2_balance_r2 ++ (wsX2_balance_r3 ++ (wsX2_balance_r4 ++ wsX2_balance_r5)))) ++ wsX20 ++ wsX00 ++ wsX10 ++ wsJx4a65c0 ++ (vx_atS RX2 152 "java/lang/IndexOutOfBoundsException" ["java/lang/RuntimeException", "java/lang/Exception"]).filter goodWord ++ (vx_atS RX2 159 "java/lang/IllegalArgumentException" ["java/lang/RuntimeException", "java/lang/Exception"]).filter goodWord)
def wsX2_profit_r1 : List Cond := [Cond.fieldLink RX2 30 "NetPoints" "yearOfNow" "I", Cond.fieldLink RX2 141 "NetPoints$Picture" "profits" "[J", Cond.methodLink RX2 34 yX2_requirePicture, Cond.static yX2_requirePicture, Cond.initialized RX2, Cond.code yX2_requirePicture cX2_requirePicture 1 none, Cond.classLink RX2 148 "java/lang/IndexOutOfBoundsException", Cond.initialized "java/lang/IndexOutOfBoundsException", Cond.methodLink RX2 38 yX2_requireRange, Cond.static yX2_requireRange, Cond.code yX2_requireRange cX2_requireRange 3 none, Cond.classLink RX2 155 "java/lang/IllegalArgumentException", Cond.initialized "java/lang/IllegalArgumentException", Cond.methodLink RX2 125 yX2_drawBooks, Cond.instanceMethod yX2_drawBooks, Cond.selects RX2 yX2_drawBooks yX2_drawBooks, Cond.code yX2_drawBooks cX2_drawBooks 6 none, Cond.fieldLink RX2 10 "NetPoints" "picture0" "LNetPoints$Picture;", Cond.fieldLink RX2 16 "NetPoints" "picture1" "LNetPoints$Picture;", Cond.fieldLink RX2 26 "NetPoints" "crossed" "Z", Cond.methodLink RX2 177 yX0_startBooks, Cond.instanceMethod yX0_startBooks, Cond.selects RX0 yX0_startBooks yX0_startBooks, Cond.initialized RX0]
def wsX2_profit_r2 : List Cond := [Cond.code yX0_startBooks cX0_startBooks 1 none, Cond.fieldLink RX0 63 "NetPoints$Picture" "grossSoFar" "J", Cond.fieldLink RX0 67 "NetPoints$Picture" "adjustedSoFar" "J", Cond.fieldLink RX0 70 "NetPoints$Picture" "feesSoFar" "J", Cond.fieldLink RX0 73 "NetPoints$Picture" "sharesSoFar" "J", Cond.fieldLink RX0 76 "NetPoints$Picture" "balanceSoFar" "J", Cond.fieldLink RX0 79 "NetPoints$Picture" "profitSoFar" "J", Cond.methodLink RX2 180 yX0_recoup, Cond.instanceMethod yX0_recoup, Cond.selects RX0 yX0_recoup yX0_recoup, Cond.code yX0_recoup cX0_recoup 12 (some .long), Cond.fieldLink RX0 86 "NetPoints$Picture" "topRate" "I", Cond.fieldLink RX0 16 "NetPoints$Picture" "costs" "[I", Cond.fieldLink RX0 100 "NetPoints$Picture" "overheadRate" "I", Cond.methodLink RX0 82 yX0_grossIn, Cond.instanceMethod yX0_grossIn, Cond.selects RX0 yX0_grossIn yX0_grossIn, Cond.code yX0_grossIn cX0_grossIn 5 (some .long), Cond.fieldLink RX0 11 "NetPoints$Picture" "receipts" "[[I", Cond.static yX2_part, Cond.code yX2_part cX2_part 3 (some .long), Cond.constantLong RX2 191 (10000), Cond.methodLink RX0 93 yX0_feesIn, Cond.instanceMethod yX0_feesIn]
def wsX2_profit_r3 : List Cond := [Cond.selects RX0 yX0_feesIn yX0_feesIn, Cond.code yX0_feesIn cX0_feesIn 5 (some .long), Cond.fieldLink RX0 20 "NetPoints$Picture" "feeRates" "[I", Cond.methodLink RX0 96 yX0_sharesThatAreCosts, Cond.instanceMethod yX0_sharesThatAreCosts, Cond.selects RX0 yX0_sharesThatAreCosts yX0_sharesThatAreCosts, Cond.code yX0_sharesThatAreCosts cX0_sharesThatAreCosts 5 (some .long), Cond.fieldLink RX0 26 "NetPoints$Picture" "sharers" "Ljava/util/ArrayList;", Cond.classLink RX0 45 "NetPoints$Sharer", Cond.fieldLink RX0 47 "NetPoints$Sharer" "kind" "I", Cond.methodLink RX0 37 yJx4a65c_size_8abf5, Cond.instanceMethod yJx4a65c_size_8abf5, Cond.selects RJx4a65c yJx4a65c_size_8abf5 yJx4a65c_size_8abf5, Cond.initialized RJx4a65c, Cond.code yJx4a65c_size_8abf5 cJx4a65c_size_8abf5 1 (some .int), Cond.fieldLink RJx4a65c 48 "java/util/ArrayList" "size" "I", Cond.methodLink RX0 41 yJx4a65c_get_915e3, Cond.instanceMethod yJx4a65c_get_915e3, Cond.selects RJx4a65c yJx4a65c_get_915e3 yJx4a65c_get_915e3, Cond.code yJx4a65c_get_915e3 cJx4a65c_get_915e3 2 (some (.object "java/lang/Object")), Cond.methodLink RJx4a65c 118 yJ15_checkIndex_7cf53, Cond.static yJ15_checkIndex_7cf53, Cond.initialized RJ15, Cond.code yJ15_checkIndex_7cf53 cJ15_checkIndex_7cf53 2 (some .int)]
def wsX2_profit_r4 : List Cond := [Cond.methodLink RJ15 105 yJ3_checkIndex_8e157, Cond.static yJ3_checkIndex_8e157, Cond.initialized RJ3, Cond.code yJ3_checkIndex_8e157 cJ3_checkIndex_8e157 3 (some .int), Cond.methodLink RJx4a65c 123 yJx4a65c_elementData_915e3, Cond.instanceMethod yJx4a65c_elementData_915e3, Cond.selects RJx4a65c yJx4a65c_elementData_915e3 yJx4a65c_elementData_915e3, Cond.code yJx4a65c_elementData_915e3 cJx4a65c_elementData_915e3 2 (some (.object "java/lang/Object")), Cond.fieldLink RJx4a65c 9 "java/util/ArrayList" "elementData" "[Ljava/lang/Object;", Cond.methodLink RX0 110 yX1_shareOf, Cond.instanceMethod yX1_shareOf, Cond.selects RX1 yX1_shareOf yX1_shareOf, Cond.initialized RX1, Cond.code yX1_shareOf cX1_shareOf 7 (some .long), Cond.fieldLink RX1 22 "NetPoints$Sharer" "limit" "I", Cond.methodLink RX1 31 Lib.MathLoose.min_long.x, Cond.static Lib.MathLoose.min_long.x, Cond.initialized "java/lang/Math", Cond.code Lib.MathLoose.min_long.x Lib.MathLoose.min_long.code 4 (some .long), Cond.fieldLink RX1 25 "NetPoints$Sharer" "first" "I", Cond.fieldLink RX1 28 "NetPoints$Sharer" "second" "I", Cond.constantLong RX1 37 (10000), Cond.methodLink RX0 126 yX1_bonusAt, Cond.instanceMethod yX1_bonusAt]
def wsX2_profit_r5 : List Cond := [Cond.selects RX1 yX1_bonusAt yX1_bonusAt, Cond.code yX1_bonusAt cX1_bonusAt 3 (some .long), Cond.constantLong RX1 39 (100), Cond.methodLink RX2 184 yX0_moveGain, Cond.instanceMethod yX0_moveGain, Cond.selects RX0 yX0_moveGain yX0_moveGain, Cond.code yX0_moveGain cX0_moveGain 6 none, Cond.methodLink RX0 103 Lib.MathLoose.min_long.x, Cond.methodLink RX2 188 yX0_finishYear, Cond.instanceMethod yX0_finishYear, Cond.selects RX0 yX0_finishYear yX0_finishYear, Cond.code yX0_finishYear cX0_finishYear 2 none, Cond.fieldLink RX0 107 "NetPoints$Picture" "interestRate" "I", Cond.fieldLink RX0 30 "NetPoints$Picture" "balances" "[J", Cond.fieldLink RX0 34 "NetPoints$Picture" "profits" "[J", Cond.methodLink RX2 42 yX2_pictureOf, Cond.instanceMethod yX2_pictureOf, Cond.selects RX2 yX2_pictureOf yX2_pictureOf, Cond.code yX2_pictureOf cX2_pictureOf 2 (some (.object "NetPoints$Picture"))]
def wsX2_profit : List Cond := .code yX2_profit cX2_profit 3 (some .int) :: ((wsX2_profit_r1 ++ (wsX2_profit_r2 ++ (wsX2_profit_r3 ++ (wsX2_profit_r4 ++ wsX2_profit_r5)))) ++ wsX20 ++ wsX00 ++ wsX10 ++ wsJx4a65c0 ++ (vx_atS RX2 152 "java/lang/IndexOutOfBoundsException" ["java/lang/RuntimeException", "java/lang/Exception"]).filter goodWord ++ (vx_atS RX2 159 "java/lang/IllegalArgumentException" ["java/lang/RuntimeException", "java/lang/Exception"]).filter goodWord)
def wsX2_pool_r1 : List Cond := [Cond.methodLink RX2 34 yX2_requirePicture, Cond.static yX2_requirePicture, Cond.initialized RX2, Cond.code yX2_requirePicture cX2_requirePicture 1 none, Cond.classLink RX2 148 "java/lang/IndexOutOfBoundsException", Cond.initialized "java/lang/IndexOutOfBoundsException", Cond.methodLink RX2 125 yX2_drawBooks, Cond.instanceMethod yX2_drawBooks, Cond.selects RX2 yX2_drawBooks yX2_drawBooks, Cond.code yX2_drawBooks cX2_drawBooks 6 none, Cond.fieldLink RX2 10 "NetPoints" "picture0" "LNetPoints$Picture;", Cond.fieldLink RX2 16 "NetPoints" "picture1" "LNetPoints$Picture;", Cond.fieldLink RX2 30 "NetPoints" "yearOfNow" "I", Cond.fieldLink RX2 26 "NetPoints" "crossed" "Z", Cond.methodLink RX2 177 yX0_startBooks, Cond.instanceMethod yX0_startBooks, Cond.selects RX0 yX0_startBooks yX0_startBooks, Cond.initialized RX0, Cond.code yX0_startBooks cX0_startBooks 1 none, Cond.fieldLink RX0 63 "NetPoints$Picture" "grossSoFar" "J", Cond.fieldLink RX0 67 "NetPoints$Picture" "adjustedSoFar" "J", Cond.fieldLink RX0 70 "NetPoints$Picture" "feesSoFar" "J", Cond.fieldLink RX0 73 "NetPoints$Picture" "sharesSoFar" "J", Cond.fieldLink RX0 76 "NetPoints$Picture" "balanceSoFar" "J"]
def wsX2_pool_r2 : List Cond := [Cond.fieldLink RX0 79 "NetPoints$Picture" "profitSoFar" "J", Cond.methodLink RX2 180 yX0_recoup, Cond.instanceMethod yX0_recoup, Cond.selects RX0 yX0_recoup yX0_recoup, Cond.code yX0_recoup cX0_recoup 12 (some .long), Cond.fieldLink RX0 86 "NetPoints$Picture" "topRate" "I", Cond.fieldLink RX0 16 "NetPoints$Picture" "costs" "[I", Cond.fieldLink RX0 100 "NetPoints$Picture" "overheadRate" "I", Cond.methodLink RX0 82 yX0_grossIn, Cond.instanceMethod yX0_grossIn, Cond.selects RX0 yX0_grossIn yX0_grossIn, Cond.code yX0_grossIn cX0_grossIn 5 (some .long), Cond.fieldLink RX0 11 "NetPoints$Picture" "receipts" "[[I", Cond.static yX2_part, Cond.code yX2_part cX2_part 3 (some .long), Cond.constantLong RX2 191 (10000), Cond.methodLink RX0 93 yX0_feesIn, Cond.instanceMethod yX0_feesIn, Cond.selects RX0 yX0_feesIn yX0_feesIn, Cond.code yX0_feesIn cX0_feesIn 5 (some .long), Cond.fieldLink RX0 20 "NetPoints$Picture" "feeRates" "[I", Cond.methodLink RX0 96 yX0_sharesThatAreCosts, Cond.instanceMethod yX0_sharesThatAreCosts, Cond.selects RX0 yX0_sharesThatAreCosts yX0_sharesThatAreCosts]
def wsX2_pool_r3 : List Cond := [Cond.code yX0_sharesThatAreCosts cX0_sharesThatAreCosts 5 (some .long), Cond.fieldLink RX0 26 "NetPoints$Picture" "sharers" "Ljava/util/ArrayList;", Cond.classLink RX0 45 "NetPoints$Sharer", Cond.fieldLink RX0 47 "NetPoints$Sharer" "kind" "I", Cond.methodLink RX0 37 yJx4a65c_size_8abf5, Cond.instanceMethod yJx4a65c_size_8abf5, Cond.selects RJx4a65c yJx4a65c_size_8abf5 yJx4a65c_size_8abf5, Cond.initialized RJx4a65c, Cond.code yJx4a65c_size_8abf5 cJx4a65c_size_8abf5 1 (some .int), Cond.fieldLink RJx4a65c 48 "java/util/ArrayList" "size" "I", Cond.methodLink RX0 41 yJx4a65c_get_915e3, Cond.instanceMethod yJx4a65c_get_915e3, Cond.selects RJx4a65c yJx4a65c_get_915e3 yJx4a65c_get_915e3, Cond.code yJx4a65c_get_915e3 cJx4a65c_get_915e3 2 (some (.object "java/lang/Object")), Cond.methodLink RJx4a65c 118 yJ15_checkIndex_7cf53, Cond.static yJ15_checkIndex_7cf53, Cond.initialized RJ15, Cond.code yJ15_checkIndex_7cf53 cJ15_checkIndex_7cf53 2 (some .int), Cond.methodLink RJ15 105 yJ3_checkIndex_8e157, Cond.static yJ3_checkIndex_8e157, Cond.initialized RJ3, Cond.code yJ3_checkIndex_8e157 cJ3_checkIndex_8e157 3 (some .int), Cond.methodLink RJx4a65c 123 yJx4a65c_elementData_915e3, Cond.instanceMethod yJx4a65c_elementData_915e3]
def wsX2_pool_r4 : List Cond := [Cond.selects RJx4a65c yJx4a65c_elementData_915e3 yJx4a65c_elementData_915e3, Cond.code yJx4a65c_elementData_915e3 cJx4a65c_elementData_915e3 2 (some (.object "java/lang/Object")), Cond.fieldLink RJx4a65c 9 "java/util/ArrayList" "elementData" "[Ljava/lang/Object;", Cond.methodLink RX0 110 yX1_shareOf, Cond.instanceMethod yX1_shareOf, Cond.selects RX1 yX1_shareOf yX1_shareOf, Cond.initialized RX1, Cond.code yX1_shareOf cX1_shareOf 7 (some .long), Cond.fieldLink RX1 22 "NetPoints$Sharer" "limit" "I", Cond.methodLink RX1 31 Lib.MathLoose.min_long.x, Cond.static Lib.MathLoose.min_long.x, Cond.initialized "java/lang/Math", Cond.code Lib.MathLoose.min_long.x Lib.MathLoose.min_long.code 4 (some .long), Cond.fieldLink RX1 25 "NetPoints$Sharer" "first" "I", Cond.fieldLink RX1 28 "NetPoints$Sharer" "second" "I", Cond.constantLong RX1 37 (10000), Cond.methodLink RX0 126 yX1_bonusAt, Cond.instanceMethod yX1_bonusAt, Cond.selects RX1 yX1_bonusAt yX1_bonusAt, Cond.code yX1_bonusAt cX1_bonusAt 3 (some .long), Cond.constantLong RX1 39 (100), Cond.methodLink RX2 184 yX0_moveGain, Cond.instanceMethod yX0_moveGain, Cond.selects RX0 yX0_moveGain yX0_moveGain]
def wsX2_pool_r5 : List Cond := [Cond.code yX0_moveGain cX0_moveGain 6 none, Cond.methodLink RX0 103 Lib.MathLoose.min_long.x, Cond.methodLink RX2 188 yX0_finishYear, Cond.instanceMethod yX0_finishYear, Cond.selects RX0 yX0_finishYear yX0_finishYear, Cond.code yX0_finishYear cX0_finishYear 2 none, Cond.fieldLink RX0 107 "NetPoints$Picture" "interestRate" "I", Cond.fieldLink RX0 30 "NetPoints$Picture" "balances" "[J", Cond.fieldLink RX0 34 "NetPoints$Picture" "profits" "[J", Cond.methodLink RX2 42 yX2_pictureOf, Cond.instanceMethod yX2_pictureOf, Cond.selects RX2 yX2_pictureOf yX2_pictureOf, Cond.code yX2_pictureOf cX2_pictureOf 2 (some (.object "NetPoints$Picture")), Cond.methodLink RX2 144 yX0_poolDrawn, Cond.instanceMethod yX0_poolDrawn, Cond.selects RX0 yX0_poolDrawn yX0_poolDrawn, Cond.code yX0_poolDrawn cX0_poolDrawn 1 (some .long), Cond.methodLink RX0 123 yX0_profitLeftAt, Cond.instanceMethod yX0_profitLeftAt, Cond.selects RX0 yX0_profitLeftAt yX0_profitLeftAt, Cond.code yX0_profitLeftAt cX0_profitLeftAt 6 (some .long), Cond.fieldLink RX0 117 "NetPoints$Sharer" "limit" "I"]
def wsX2_pool : List Cond := .code yX2_pool cX2_pool 2 (some .int) :: ((wsX2_pool_r1 ++ (wsX2_pool_r2 ++ (wsX2_pool_r3 ++ (wsX2_pool_r4 ++ wsX2_pool_r5)))) ++ wsX20 ++ wsX00 ++ wsX10 ++ wsJx4a65c0 ++ (vx_atS RX2 152 "java/lang/IndexOutOfBoundsException" ["java/lang/RuntimeException", "java/lang/Exception"]).filter goodWord)
def wsX2_sharers : List Cond := .code yX2_sharers cX2_sharers 1 (some .int) :: ([.fieldLink RX2 22 "NetPoints" "allSharers" "Ljava/util/ArrayList;", .methodLink RX2 78 yJx4a65c_size_8abf5, .instanceMethod yJx4a65c_size_8abf5, .selects RJx4a65c yJx4a65c_size_8abf5 yJx4a65c_size_8abf5, .initialized RJx4a65c, .code yJx4a65c_size_8abf5 cJx4a65c_size_8abf5 1 (some .int), .fieldLink RJx4a65c 48 "java/util/ArrayList" "size" "I"] ++ wsX20 ++ wsJx4a65c0)
def wsX2_sum_r1 : List Cond := [Cond.fieldLink RX2 22 "NetPoints" "allSharers" "Ljava/util/ArrayList;", Cond.classLink RX2 73 "NetPoints$Sharer", Cond.methodLink RX2 108 yX2_requireSharer, Cond.instanceMethod yX2_requireSharer, Cond.selects RX2 yX2_requireSharer yX2_requireSharer, Cond.initialized RX2, Cond.code yX2_requireSharer cX2_requireSharer 2 none, Cond.classLink RX2 148 "java/lang/IndexOutOfBoundsException", Cond.initialized "java/lang/IndexOutOfBoundsException", Cond.methodLink RX2 78 yJx4a65c_size_8abf5, Cond.instanceMethod yJx4a65c_size_8abf5, Cond.selects RJx4a65c yJx4a65c_size_8abf5 yJx4a65c_size_8abf5, Cond.initialized RJx4a65c, Cond.code yJx4a65c_size_8abf5 cJx4a65c_size_8abf5 1 (some .int), Cond.fieldLink RJx4a65c 48 "java/util/ArrayList" "size" "I", Cond.methodLink RX2 111 yJx4a65c_get_915e3, Cond.instanceMethod yJx4a65c_get_915e3, Cond.selects RJx4a65c yJx4a65c_get_915e3 yJx4a65c_get_915e3, Cond.code yJx4a65c_get_915e3 cJx4a65c_get_915e3 2 (some (.object "java/lang/Object")), Cond.methodLink RJx4a65c 118 yJ15_checkIndex_7cf53, Cond.static yJ15_checkIndex_7cf53, Cond.initialized RJ15, Cond.code yJ15_checkIndex_7cf53 cJ15_checkIndex_7cf53 2 (some .int), Cond.methodLink RJ15 105 yJ3_checkIndex_8e157]
def wsX2_sum_r2 : List Cond := [Cond.static yJ3_checkIndex_8e157, Cond.initialized RJ3, Cond.code yJ3_checkIndex_8e157 cJ3_checkIndex_8e157 3 (some .int), Cond.methodLink RJx4a65c 123 yJx4a65c_elementData_915e3, Cond.instanceMethod yJx4a65c_elementData_915e3, Cond.selects RJx4a65c yJx4a65c_elementData_915e3 yJx4a65c_elementData_915e3, Cond.code yJx4a65c_elementData_915e3 cJx4a65c_elementData_915e3 2 (some (.object "java/lang/Object")), Cond.fieldLink RJx4a65c 9 "java/util/ArrayList" "elementData" "[Ljava/lang/Object;", Cond.methodLink RX2 115 yX2_drawnSum, Cond.instanceMethod yX2_drawnSum, Cond.selects RX2 yX2_drawnSum yX2_drawnSum, Cond.code yX2_drawnSum cX2_drawnSum 2 (some .long), Cond.fieldLink RX2 171 "NetPoints$Sharer" "picture" "LNetPoints$Picture;", Cond.methodLink RX2 125 yX2_drawBooks, Cond.instanceMethod yX2_drawBooks, Cond.selects RX2 yX2_drawBooks yX2_drawBooks, Cond.code yX2_drawBooks cX2_drawBooks 6 none, Cond.fieldLink RX2 10 "NetPoints" "picture0" "LNetPoints$Picture;", Cond.fieldLink RX2 16 "NetPoints" "picture1" "LNetPoints$Picture;", Cond.fieldLink RX2 30 "NetPoints" "yearOfNow" "I", Cond.fieldLink RX2 26 "NetPoints" "crossed" "Z", Cond.methodLink RX2 177 yX0_startBooks, Cond.instanceMethod yX0_startBooks, Cond.selects RX0 yX0_startBooks yX0_startBooks]
def wsX2_sum_r3 : List Cond := [Cond.initialized RX0, Cond.code yX0_startBooks cX0_startBooks 1 none, Cond.fieldLink RX0 63 "NetPoints$Picture" "grossSoFar" "J", Cond.fieldLink RX0 67 "NetPoints$Picture" "adjustedSoFar" "J", Cond.fieldLink RX0 70 "NetPoints$Picture" "feesSoFar" "J", Cond.fieldLink RX0 73 "NetPoints$Picture" "sharesSoFar" "J", Cond.fieldLink RX0 76 "NetPoints$Picture" "balanceSoFar" "J", Cond.fieldLink RX0 79 "NetPoints$Picture" "profitSoFar" "J", Cond.methodLink RX2 180 yX0_recoup, Cond.instanceMethod yX0_recoup, Cond.selects RX0 yX0_recoup yX0_recoup, Cond.code yX0_recoup cX0_recoup 12 (some .long), Cond.fieldLink RX0 86 "NetPoints$Picture" "topRate" "I", Cond.fieldLink RX0 16 "NetPoints$Picture" "costs" "[I", Cond.fieldLink RX0 100 "NetPoints$Picture" "overheadRate" "I", Cond.methodLink RX0 82 yX0_grossIn, Cond.instanceMethod yX0_grossIn, Cond.selects RX0 yX0_grossIn yX0_grossIn, Cond.code yX0_grossIn cX0_grossIn 5 (some .long), Cond.fieldLink RX0 11 "NetPoints$Picture" "receipts" "[[I", Cond.static yX2_part, Cond.code yX2_part cX2_part 3 (some .long), Cond.constantLong RX2 191 (10000), Cond.methodLink RX0 93 yX0_feesIn]
def wsX2_sum_r4 : List Cond := [Cond.instanceMethod yX0_feesIn, Cond.selects RX0 yX0_feesIn yX0_feesIn, Cond.code yX0_feesIn cX0_feesIn 5 (some .long), Cond.fieldLink RX0 20 "NetPoints$Picture" "feeRates" "[I", Cond.methodLink RX0 96 yX0_sharesThatAreCosts, Cond.instanceMethod yX0_sharesThatAreCosts, Cond.selects RX0 yX0_sharesThatAreCosts yX0_sharesThatAreCosts, Cond.code yX0_sharesThatAreCosts cX0_sharesThatAreCosts 5 (some .long), Cond.fieldLink RX0 26 "NetPoints$Picture" "sharers" "Ljava/util/ArrayList;", Cond.classLink RX0 45 "NetPoints$Sharer", Cond.fieldLink RX0 47 "NetPoints$Sharer" "kind" "I", Cond.methodLink RX0 37 yJx4a65c_size_8abf5, Cond.methodLink RX0 41 yJx4a65c_get_915e3, Cond.methodLink RX0 110 yX1_shareOf, Cond.instanceMethod yX1_shareOf, Cond.selects RX1 yX1_shareOf yX1_shareOf, Cond.initialized RX1, Cond.code yX1_shareOf cX1_shareOf 7 (some .long), Cond.fieldLink RX1 22 "NetPoints$Sharer" "limit" "I", Cond.methodLink RX1 31 Lib.MathLoose.min_long.x, Cond.static Lib.MathLoose.min_long.x, Cond.initialized "java/lang/Math", Cond.code Lib.MathLoose.min_long.x Lib.MathLoose.min_long.code 4 (some .long), Cond.fieldLink RX1 25 "NetPoints$Sharer" "first" "I"]
def wsX2_sum_r5 : List Cond := [Cond.fieldLink RX1 28 "NetPoints$Sharer" "second" "I", Cond.constantLong RX1 37 (10000), Cond.methodLink RX0 126 yX1_bonusAt, Cond.instanceMethod yX1_bonusAt, Cond.selects RX1 yX1_bonusAt yX1_bonusAt, Cond.code yX1_bonusAt cX1_bonusAt 3 (some .long), Cond.constantLong RX1 39 (100), Cond.methodLink RX2 184 yX0_moveGain, Cond.instanceMethod yX0_moveGain, Cond.selects RX0 yX0_moveGain yX0_moveGain, Cond.code yX0_moveGain cX0_moveGain 6 none, Cond.methodLink RX0 103 Lib.MathLoose.min_long.x, Cond.methodLink RX2 188 yX0_finishYear, Cond.instanceMethod yX0_finishYear, Cond.selects RX0 yX0_finishYear yX0_finishYear, Cond.code yX0_finishYear cX0_finishYear 2 none, Cond.fieldLink RX0 107 "NetPoints$Picture" "interestRate" "I", Cond.fieldLink RX0 30 "NetPoints$Picture" "balances" "[J", Cond.fieldLink RX0 34 "NetPoints$Picture" "profits" "[J", Cond.methodLink RX2 174 yX0_sumDrawn, Cond.instanceMethod yX0_sumDrawn, Cond.selects RX0 yX0_sumDrawn yX0_sumDrawn, Cond.code yX0_sumDrawn cX0_sumDrawn 2 (some .long), Cond.fieldLink RX0 117 "NetPoints$Sharer" "limit" "I"]
def wsX2_sum_r6 : List Cond := [Cond.fieldLink RX0 120 "NetPoints$Sharer" "turn" "I", Cond.methodLink RX0 114 yX0_poolDrawn, Cond.instanceMethod yX0_poolDrawn, Cond.selects RX0 yX0_poolDrawn yX0_poolDrawn, Cond.code yX0_poolDrawn cX0_poolDrawn 1 (some .long), Cond.methodLink RX0 123 yX0_profitLeftAt, Cond.instanceMethod yX0_profitLeftAt, Cond.selects RX0 yX0_profitLeftAt yX0_profitLeftAt, Cond.code yX0_profitLeftAt cX0_profitLeftAt 6 (some .long)]
def wsX2_sum : List Cond := .code yX2_sum cX2_sum 2 (some .int) :: ((wsX2_sum_r1 ++ (wsX2_sum_r2 ++ (wsX2_sum_r3 ++ (wsX2_sum_r4 ++ (wsX2_sum_r5 ++ wsX2_sum_r6))))) ++ wsX20 ++ wsJx4a65c0 ++ wsX10 ++ wsX00 ++ (vx_atS RX2 152 "java/lang/IndexOutOfBoundsException" ["java/lang/RuntimeException", "java/lang/Exception"]).filter goodWord)
def wsX2_paid_r1 : List Cond := [Cond.fieldLink RX2 22 "NetPoints" "allSharers" "Ljava/util/ArrayList;", Cond.classLink RX2 73 "NetPoints$Sharer", Cond.fieldLink RX2 119 "NetPoints$Sharer" "paidSoFar" "J", Cond.methodLink RX2 108 yX2_requireSharer, Cond.instanceMethod yX2_requireSharer, Cond.selects RX2 yX2_requireSharer yX2_requireSharer, Cond.initialized RX2, Cond.code yX2_requireSharer cX2_requireSharer 2 none, Cond.classLink RX2 148 "java/lang/IndexOutOfBoundsException", Cond.initialized "java/lang/IndexOutOfBoundsException", Cond.methodLink RX2 78 yJx4a65c_size_8abf5, Cond.instanceMethod yJx4a65c_size_8abf5, Cond.selects RJx4a65c yJx4a65c_size_8abf5 yJx4a65c_size_8abf5, Cond.initialized RJx4a65c, Cond.code yJx4a65c_size_8abf5 cJx4a65c_size_8abf5 1 (some .int), Cond.fieldLink RJx4a65c 48 "java/util/ArrayList" "size" "I", Cond.methodLink RX2 111 yJx4a65c_get_915e3, Cond.instanceMethod yJx4a65c_get_915e3, Cond.selects RJx4a65c yJx4a65c_get_915e3 yJx4a65c_get_915e3, Cond.code yJx4a65c_get_915e3 cJx4a65c_get_915e3 2 (some (.object "java/lang/Object")), Cond.methodLink RJx4a65c 118 yJ15_checkIndex_7cf53, Cond.static yJ15_checkIndex_7cf53, Cond.initialized RJ15, Cond.code yJ15_checkIndex_7cf53 cJ15_checkIndex_7cf53 2 (some .int)]
def wsX2_paid_r2 : List Cond := [Cond.methodLink RJ15 105 yJ3_checkIndex_8e157, Cond.static yJ3_checkIndex_8e157, Cond.initialized RJ3, Cond.code yJ3_checkIndex_8e157 cJ3_checkIndex_8e157 3 (some .int), Cond.methodLink RJx4a65c 123 yJx4a65c_elementData_915e3, Cond.instanceMethod yJx4a65c_elementData_915e3, Cond.selects RJx4a65c yJx4a65c_elementData_915e3 yJx4a65c_elementData_915e3, Cond.code yJx4a65c_elementData_915e3 cJx4a65c_elementData_915e3 2 (some (.object "java/lang/Object")), Cond.fieldLink RJx4a65c 9 "java/util/ArrayList" "elementData" "[Ljava/lang/Object;"]
def wsX2_paid : List Cond := .code yX2_paid cX2_paid 2 (some .int) :: ((wsX2_paid_r1 ++ wsX2_paid_r2) ++ wsX20 ++ wsX10 ++ wsJx4a65c0 ++ (vx_atS RX2 152 "java/lang/IndexOutOfBoundsException" ["java/lang/RuntimeException", "java/lang/Exception"]).filter goodWord)
def wsX2_owed_r1 : List Cond := [Cond.fieldLink RX2 22 "NetPoints" "allSharers" "Ljava/util/ArrayList;", Cond.classLink RX2 73 "NetPoints$Sharer", Cond.fieldLink RX2 119 "NetPoints$Sharer" "paidSoFar" "J", Cond.methodLink RX2 108 yX2_requireSharer, Cond.instanceMethod yX2_requireSharer, Cond.selects RX2 yX2_requireSharer yX2_requireSharer, Cond.initialized RX2, Cond.code yX2_requireSharer cX2_requireSharer 2 none, Cond.classLink RX2 148 "java/lang/IndexOutOfBoundsException", Cond.initialized "java/lang/IndexOutOfBoundsException", Cond.methodLink RX2 78 yJx4a65c_size_8abf5, Cond.instanceMethod yJx4a65c_size_8abf5, Cond.selects RJx4a65c yJx4a65c_size_8abf5 yJx4a65c_size_8abf5, Cond.initialized RJx4a65c, Cond.code yJx4a65c_size_8abf5 cJx4a65c_size_8abf5 1 (some .int), Cond.fieldLink RJx4a65c 48 "java/util/ArrayList" "size" "I", Cond.methodLink RX2 111 yJx4a65c_get_915e3, Cond.instanceMethod yJx4a65c_get_915e3, Cond.selects RJx4a65c yJx4a65c_get_915e3 yJx4a65c_get_915e3, Cond.code yJx4a65c_get_915e3 cJx4a65c_get_915e3 2 (some (.object "java/lang/Object")), Cond.methodLink RJx4a65c 118 yJ15_checkIndex_7cf53, Cond.static yJ15_checkIndex_7cf53, Cond.initialized RJ15, Cond.code yJ15_checkIndex_7cf53 cJ15_checkIndex_7cf53 2 (some .int)]
def wsX2_owed_r2 : List Cond := [Cond.methodLink RJ15 105 yJ3_checkIndex_8e157, Cond.static yJ3_checkIndex_8e157, Cond.initialized RJ3, Cond.code yJ3_checkIndex_8e157 cJ3_checkIndex_8e157 3 (some .int), Cond.methodLink RJx4a65c 123 yJx4a65c_elementData_915e3, Cond.instanceMethod yJx4a65c_elementData_915e3, Cond.selects RJx4a65c yJx4a65c_elementData_915e3 yJx4a65c_elementData_915e3, Cond.code yJx4a65c_elementData_915e3 cJx4a65c_elementData_915e3 2 (some (.object "java/lang/Object")), Cond.fieldLink RJx4a65c 9 "java/util/ArrayList" "elementData" "[Ljava/lang/Object;", Cond.methodLink RX2 115 yX2_drawnSum, Cond.instanceMethod yX2_drawnSum, Cond.selects RX2 yX2_drawnSum yX2_drawnSum, Cond.code yX2_drawnSum cX2_drawnSum 2 (some .long), Cond.fieldLink RX2 171 "NetPoints$Sharer" "picture" "LNetPoints$Picture;", Cond.methodLink RX2 125 yX2_drawBooks, Cond.instanceMethod yX2_drawBooks, Cond.selects RX2 yX2_drawBooks yX2_drawBooks, Cond.code yX2_drawBooks cX2_drawBooks 6 none, Cond.fieldLink RX2 10 "NetPoints" "picture0" "LNetPoints$Picture;", Cond.fieldLink RX2 16 "NetPoints" "picture1" "LNetPoints$Picture;", Cond.fieldLink RX2 30 "NetPoints" "yearOfNow" "I", Cond.fieldLink RX2 26 "NetPoints" "crossed" "Z", Cond.methodLink RX2 177 yX0_startBooks, Cond.instanceMethod yX0_startBooks]
def wsX2_owed_r3 : List Cond := [Cond.selects RX0 yX0_startBooks yX0_startBooks, Cond.initialized RX0, Cond.code yX0_startBooks cX0_startBooks 1 none, Cond.fieldLink RX0 63 "NetPoints$Picture" "grossSoFar" "J", Cond.fieldLink RX0 67 "NetPoints$Picture" "adjustedSoFar" "J", Cond.fieldLink RX0 70 "NetPoints$Picture" "feesSoFar" "J", Cond.fieldLink RX0 73 "NetPoints$Picture" "sharesSoFar" "J", Cond.fieldLink RX0 76 "NetPoints$Picture" "balanceSoFar" "J", Cond.fieldLink RX0 79 "NetPoints$Picture" "profitSoFar" "J", Cond.methodLink RX2 180 yX0_recoup, Cond.instanceMethod yX0_recoup, Cond.selects RX0 yX0_recoup yX0_recoup, Cond.code yX0_recoup cX0_recoup 12 (some .long), Cond.fieldLink RX0 86 "NetPoints$Picture" "topRate" "I", Cond.fieldLink RX0 16 "NetPoints$Picture" "costs" "[I", Cond.fieldLink RX0 100 "NetPoints$Picture" "overheadRate" "I", Cond.methodLink RX0 82 yX0_grossIn, Cond.instanceMethod yX0_grossIn, Cond.selects RX0 yX0_grossIn yX0_grossIn, Cond.code yX0_grossIn cX0_grossIn 5 (some .long), Cond.fieldLink RX0 11 "NetPoints$Picture" "receipts" "[[I", Cond.static yX2_part, Cond.code yX2_part cX2_part 3 (some .long), Cond.constantLong RX2 191 (10000)]
def wsX2_owed_r4 : List Cond := [Cond.methodLink RX0 93 yX0_feesIn, Cond.instanceMethod yX0_feesIn, Cond.selects RX0 yX0_feesIn yX0_feesIn, Cond.code yX0_feesIn cX0_feesIn 5 (some .long), Cond.fieldLink RX0 20 "NetPoints$Picture" "feeRates" "[I", Cond.methodLink RX0 96 yX0_sharesThatAreCosts, Cond.instanceMethod yX0_sharesThatAreCosts, Cond.selects RX0 yX0_sharesThatAreCosts yX0_sharesThatAreCosts, Cond.code yX0_sharesThatAreCosts cX0_sharesThatAreCosts 5 (some .long), Cond.fieldLink RX0 26 "NetPoints$Picture" "sharers" "Ljava/util/ArrayList;", Cond.classLink RX0 45 "NetPoints$Sharer", Cond.fieldLink RX0 47 "NetPoints$Sharer" "kind" "I", Cond.methodLink RX0 37 yJx4a65c_size_8abf5, Cond.methodLink RX0 41 yJx4a65c_get_915e3, Cond.methodLink RX0 110 yX1_shareOf, Cond.instanceMethod yX1_shareOf, Cond.selects RX1 yX1_shareOf yX1_shareOf, Cond.initialized RX1, Cond.code yX1_shareOf cX1_shareOf 7 (some .long), Cond.fieldLink RX1 22 "NetPoints$Sharer" "limit" "I", Cond.methodLink RX1 31 Lib.MathLoose.min_long.x, Cond.static Lib.MathLoose.min_long.x, Cond.initialized "java/lang/Math", Cond.code Lib.MathLoose.min_long.x Lib.MathLoose.min_long.code 4 (some .long)]
def wsX2_owed_r5 : List Cond := [Cond.fieldLink RX1 25 "NetPoints$Sharer" "first" "I", Cond.fieldLink RX1 28 "NetPoints$Sharer" "second" "I", Cond.constantLong RX1 37 (10000), Cond.methodLink RX0 126 yX1_bonusAt, Cond.instanceMethod yX1_bonusAt, Cond.selects RX1 yX1_bonusAt yX1_bonusAt, Cond.code yX1_bonusAt cX1_bonusAt 3 (some .long), Cond.constantLong RX1 39 (100), Cond.methodLink RX2 184 yX0_moveGain, Cond.instanceMethod yX0_moveGain, Cond.selects RX0 yX0_moveGain yX0_moveGain, Cond.code yX0_moveGain cX0_moveGain 6 none, Cond.methodLink RX0 103 Lib.MathLoose.min_long.x, Cond.methodLink RX2 188 yX0_finishYear, Cond.instanceMethod yX0_finishYear, Cond.selects RX0 yX0_finishYear yX0_finishYear, Cond.code yX0_finishYear cX0_finishYear 2 none, Cond.fieldLink RX0 107 "NetPoints$Picture" "interestRate" "I", Cond.fieldLink RX0 30 "NetPoints$Picture" "balances" "[J", Cond.fieldLink RX0 34 "NetPoints$Picture" "profits" "[J", Cond.methodLink RX2 174 yX0_sumDrawn, Cond.instanceMethod yX0_sumDrawn, Cond.selects RX0 yX0_sumDrawn yX0_sumDrawn, Cond.code yX0_sumDrawn cX0_sumDrawn 2 (some .long)]
def wsX2_owed_r6 : List Cond := [Cond.fieldLink RX0 117 "NetPoints$Sharer" "limit" "I", Cond.fieldLink RX0 120 "NetPoints$Sharer" "turn" "I", Cond.methodLink RX0 114 yX0_poolDrawn, Cond.instanceMethod yX0_poolDrawn, Cond.selects RX0 yX0_poolDrawn yX0_poolDrawn, Cond.code yX0_poolDrawn cX0_poolDrawn 1 (some .long), Cond.methodLink RX0 123 yX0_profitLeftAt, Cond.instanceMethod yX0_profitLeftAt, Cond.selects RX0 yX0_profitLeftAt yX0_profitLeftAt, Cond.code yX0_profitLeftAt cX0_profitLeftAt 6 (some .long)]
def wsX2_owed : List Cond := .code yX2_owed cX2_owed 3 (some .int) :: ((wsX2_owed_r1 ++ (wsX2_owed_r2 ++ (wsX2_owed_r3 ++ (wsX2_owed_r4 ++ (wsX2_owed_r5 ++ wsX2_owed_r6))))) ++ wsX20 ++ wsX10 ++ wsJx4a65c0 ++ wsX00 ++ (vx_atS RX2 152 "java/lang/IndexOutOfBoundsException" ["java/lang/RuntimeException", "java/lang/Exception"]).filter goodWord)
def wsX3_init : List Cond := .code yX3_init cX3_init 1 none :: ([.methodLink RX3 1 objectInit, .instanceMethod objectInit, .code objectInit ⟨#[0xb1]⟩ 1 none, .arrayClass .int, .fieldLink RX3 7 "NetPointsModel" "receipts" "[I", .fieldLink RX3 13 "NetPointsModel" "costs" "[I", .fieldLink RX3 16 "NetPointsModel" "feeRates" "[I", .fieldLink RX3 19 "NetPointsModel" "tops" "[I", .fieldLink RX3 22 "NetPointsModel" "overheads" "[I", .fieldLink RX3 25 "NetPointsModel" "interests" "[I", .fieldLink RX3 28 "NetPointsModel" "pictures" "[I", .fieldLink RX3 31 "NetPointsModel" "kinds" "[I", .fieldLink RX3 34 "NetPointsModel" "limits" "[I", .fieldLink RX3 37 "NetPointsModel" "firsts" "[I", .fieldLink RX3 40 "NetPointsModel" "seconds" "[I", .fieldLink RX3 43 "NetPointsModel" "paidTo" "[I", .arrayClass .long, .fieldLink RX3 46 "NetPointsModel" "balances" "[J", .fieldLink RX3 50 "NetPointsModel" "profits" "[J", .fieldLink RX3 53 "NetPointsModel" "gained" "[J"] ++ wsX30)
def wsX3_thrown : List Cond := .code yX3_thrown cX3_thrown 1 (some .int) :: ([.fieldLink RX3 56 "NetPointsModel" "thrown" "I"] ++ wsX30)
def wsX3_fails : List Cond := .code yX3_fails cX3_fails 2 (some .int) :: ([.fieldLink RX3 56 "NetPointsModel" "thrown" "I"] ++ wsX30)
def wsX3_in : List Cond := .code yX3_in cX3_in 3 (some .boolean) :: ([])
def wsX3_isPicture : List Cond := .code yX3_isPicture cX3_isPicture 1 (some .boolean) :: ([.methodLink RX3 60 yX3_in, .static yX3_in, .initialized RX3, .code yX3_in cX3_in 3 (some .boolean)])
def wsX3_isWindow : List Cond := .code yX3_isWindow cX3_isWindow 2 (some .boolean) :: ([.methodLink RX3 64 yX3_isPicture, .static yX3_isPicture, .initialized RX3, .code yX3_isPicture cX3_isPicture 1 (some .boolean), .methodLink RX3 60 yX3_in, .static yX3_in, .code yX3_in cX3_in 3 (some .boolean)])
def wsX3_at : List Cond := .code yX3_at cX3_at 3 (some .int) :: ([])
def wsX3_setRates : List Cond := .code yX3_setRates cX3_setRates 5 none :: ([.fieldLink RX3 56 "NetPointsModel" "thrown" "I", .fieldLink RX3 19 "NetPointsModel" "tops" "[I", .fieldLink RX3 22 "NetPointsModel" "overheads" "[I", .fieldLink RX3 25 "NetPointsModel" "interests" "[I", .methodLink RX3 64 yX3_isPicture, .static yX3_isPicture, .initialized RX3, .code yX3_isPicture cX3_isPicture 1 (some .boolean), .methodLink RX3 60 yX3_in, .static yX3_in, .code yX3_in cX3_in 3 (some .boolean), .methodLink RX3 68 yX3_fails, .instanceMethod yX3_fails, .selects RX3 yX3_fails yX3_fails, .code yX3_fails cX3_fails 2 (some .int)] ++ wsX30)
def wsX3_setFee : List Cond := .code yX3_setFee cX3_setFee 5 (some .int) :: ([.fieldLink RX3 56 "NetPointsModel" "thrown" "I", .fieldLink RX3 16 "NetPointsModel" "feeRates" "[I", .methodLink RX3 72 yX3_isWindow, .static yX3_isWindow, .initialized RX3, .code yX3_isWindow cX3_isWindow 2 (some .boolean), .methodLink RX3 64 yX3_isPicture, .static yX3_isPicture, .code yX3_isPicture cX3_isPicture 1 (some .boolean), .methodLink RX3 60 yX3_in, .static yX3_in, .code yX3_in cX3_in 3 (some .boolean), .methodLink RX3 68 yX3_fails, .instanceMethod yX3_fails, .selects RX3 yX3_fails yX3_fails, .code yX3_fails cX3_fails 2 (some .int)] ++ wsX30)
def wsX3_setCrossed : List Cond := .code yX3_setCrossed cX3_setCrossed 3 (some .boolean) :: ([.fieldLink RX3 56 "NetPointsModel" "thrown" "I", .fieldLink RX3 76 "NetPointsModel" "crossed" "Z"] ++ wsX30)
def wsX3_add : List Cond := .code yX3_add cX3_add 10 (some .int) :: ([.fieldLink RX3 56 "NetPointsModel" "thrown" "I", .constant RX3 80 (10000000), .fieldLink RX3 81 "NetPointsModel" "many" "I", .fieldLink RX3 31 "NetPointsModel" "kinds" "[I", .fieldLink RX3 28 "NetPointsModel" "pictures" "[I", .fieldLink RX3 37 "NetPointsModel" "firsts" "[I", .fieldLink RX3 40 "NetPointsModel" "seconds" "[I", .fieldLink RX3 34 "NetPointsModel" "limits" "[I", .methodLink RX3 64 yX3_isPicture, .static yX3_isPicture, .initialized RX3, .code yX3_isPicture cX3_isPicture 1 (some .boolean), .methodLink RX3 60 yX3_in, .static yX3_in, .code yX3_in cX3_in 3 (some .boolean), .methodLink RX3 68 yX3_fails, .instanceMethod yX3_fails, .selects RX3 yX3_fails yX3_fails, .code yX3_fails cX3_fails 2 (some .int)] ++ wsX30)
def wsX3_receive : List Cond := .code yX3_receive cX3_receive 4 (some .int) :: ([.fieldLink RX3 56 "NetPointsModel" "thrown" "I", .constant RX3 84 (200000), .fieldLink RX3 7 "NetPointsModel" "receipts" "[I", .fieldLink RX3 85 "NetPointsModel" "now" "I", .methodLink RX3 72 yX3_isWindow, .static yX3_isWindow, .initialized RX3, .code yX3_isWindow cX3_isWindow 2 (some .boolean), .methodLink RX3 64 yX3_isPicture, .static yX3_isPicture, .code yX3_isPicture cX3_isPicture 1 (some .boolean), .methodLink RX3 60 yX3_in, .static yX3_in, .code yX3_in cX3_in 3 (some .boolean), .methodLink RX3 68 yX3_fails, .instanceMethod yX3_fails, .selects RX3 yX3_fails yX3_fails, .code yX3_fails cX3_fails 2 (some .int), .methodLink RX3 88 yX3_at, .static yX3_at, .code yX3_at cX3_at 3 (some .int)] ++ wsX30)
def wsX3_spend : List Cond := .code yX3_spend cX3_spend 3 (some .int) :: ([.fieldLink RX3 56 "NetPointsModel" "thrown" "I", .constant RX3 84 (200000), .fieldLink RX3 13 "NetPointsModel" "costs" "[I", .fieldLink RX3 85 "NetPointsModel" "now" "I", .methodLink RX3 64 yX3_isPicture, .static yX3_isPicture, .initialized RX3, .code yX3_isPicture cX3_isPicture 1 (some .boolean), .methodLink RX3 60 yX3_in, .static yX3_in, .code yX3_in cX3_in 3 (some .boolean), .methodLink RX3 68 yX3_fails, .instanceMethod yX3_fails, .selects RX3 yX3_fails yX3_fails, .code yX3_fails cX3_fails 2 (some .int)] ++ wsX30)
def wsX3_audit : List Cond := .code yX3_audit cX3_audit 6 (some .int) :: ([.fieldLink RX3 56 "NetPointsModel" "thrown" "I", .constant RX3 92 (1000000), .fieldLink RX3 85 "NetPointsModel" "now" "I", .fieldLink RX3 7 "NetPointsModel" "receipts" "[I", .methodLink RX3 72 yX3_isWindow, .static yX3_isWindow, .initialized RX3, .code yX3_isWindow cX3_isWindow 2 (some .boolean), .methodLink RX3 64 yX3_isPicture, .static yX3_isPicture, .code yX3_isPicture cX3_isPicture 1 (some .boolean), .methodLink RX3 60 yX3_in, .static yX3_in, .code yX3_in cX3_in 3 (some .boolean), .methodLink RX3 68 yX3_fails, .instanceMethod yX3_fails, .selects RX3 yX3_fails yX3_fails, .code yX3_fails cX3_fails 2 (some .int), .methodLink RX3 88 yX3_at, .static yX3_at, .code yX3_at cX3_at 3 (some .int)] ++ wsX30)
def wsX3_closeYear : List Cond := .code yX3_closeYear cX3_closeYear 1 (some .int) :: ([.fieldLink RX3 56 "NetPointsModel" "thrown" "I", .fieldLink RX3 85 "NetPointsModel" "now" "I", .methodLink RX3 68 yX3_fails, .instanceMethod yX3_fails, .selects RX3 yX3_fails yX3_fails, .initialized RX3, .code yX3_fails cX3_fails 2 (some .int)] ++ wsX30)
def wsX3_grossOf : List Cond := .code yX3_grossOf cX3_grossOf 6 (some .long) :: ([.fieldLink RX3 7 "NetPointsModel" "receipts" "[I", .methodLink RX3 88 yX3_at, .static yX3_at, .initialized RX3, .code yX3_at cX3_at 3 (some .int)] ++ wsX30)
def wsX3_adjustedOf : List Cond := .code yX3_adjustedOf cX3_adjustedOf 5 (some .long) :: ([.fieldLink RX3 19 "NetPointsModel" "tops" "[I", .constantLong RX3 97 (10000), .methodLink RX3 93 yX3_grossOf, .instanceMethod yX3_grossOf, .selects RX3 yX3_grossOf yX3_grossOf, .initialized RX3, .code yX3_grossOf cX3_grossOf 6 (some .long), .fieldLink RX3 7 "NetPointsModel" "receipts" "[I", .methodLink RX3 88 yX3_at, .static yX3_at, .code yX3_at cX3_at 3 (some .int)] ++ wsX30)
def wsX3_feesOf : List Cond := .code yX3_feesOf cX3_feesOf 6 (some .long) :: ([.fieldLink RX3 7 "NetPointsModel" "receipts" "[I", .fieldLink RX3 16 "NetPointsModel" "feeRates" "[I", .constantLong RX3 97 (10000), .methodLink RX3 88 yX3_at, .static yX3_at, .initialized RX3, .code yX3_at cX3_at 3 (some .int)] ++ wsX30)
def wsX3_parted : List Cond := .code yX3_parted cX3_parted 6 (some .long) :: ([.fieldLink RX3 34 "NetPointsModel" "limits" "[I", .fieldLink RX3 37 "NetPointsModel" "firsts" "[I", .fieldLink RX3 40 "NetPointsModel" "seconds" "[I", .constantLong RX3 97 (10000)] ++ wsX30)
def wsX3_upTo_r1 : List Cond := [Cond.fieldLink RX3 28 "NetPointsModel" "pictures" "[I", Cond.fieldLink RX3 31 "NetPointsModel" "kinds" "[I", Cond.fieldLink RX3 34 "NetPointsModel" "limits" "[I", Cond.constantLong RX3 106 (100), Cond.fieldLink RX3 37 "NetPointsModel" "firsts" "[I", Cond.methodLink RX3 93 yX3_grossOf, Cond.instanceMethod yX3_grossOf, Cond.selects RX3 yX3_grossOf yX3_grossOf, Cond.initialized RX3, Cond.code yX3_grossOf cX3_grossOf 6 (some .long), Cond.fieldLink RX3 7 "NetPointsModel" "receipts" "[I", Cond.methodLink RX3 88 yX3_at, Cond.static yX3_at, Cond.code yX3_at cX3_at 3 (some .int), Cond.methodLink RX3 99 yX3_adjustedOf, Cond.instanceMethod yX3_adjustedOf, Cond.selects RX3 yX3_adjustedOf yX3_adjustedOf, Cond.code yX3_adjustedOf cX3_adjustedOf 5 (some .long), Cond.fieldLink RX3 19 "NetPointsModel" "tops" "[I", Cond.constantLong RX3 97 (10000), Cond.methodLink RX3 102 yX3_parted, Cond.instanceMethod yX3_parted, Cond.selects RX3 yX3_parted yX3_parted, Cond.code yX3_parted cX3_parted 6 (some .long)]
def wsX3_upTo_r2 : List Cond := [Cond.fieldLink RX3 40 "NetPointsModel" "seconds" "[I"]
def wsX3_upTo : List Cond := .code yX3_upTo cX3_upTo 8 (some .long) :: ((wsX3_upTo_r1 ++ wsX3_upTo_r2) ++ wsX30)
def wsX3_move : List Cond := .code yX3_move cX3_move 6 none :: ([.fieldLink RX3 53 "NetPointsModel" "gained" "[J", .fieldLink RX3 46 "NetPointsModel" "balances" "[J", .fieldLink RX3 50 "NetPointsModel" "profits" "[J"] ++ wsX30)
def wsX3_lay_r1 : List Cond := [Cond.fieldLink RX3 85 "NetPointsModel" "now" "I", Cond.fieldLink RX3 46 "NetPointsModel" "balances" "[J", Cond.fieldLink RX3 13 "NetPointsModel" "costs" "[I", Cond.fieldLink RX3 22 "NetPointsModel" "overheads" "[I", Cond.constantLong RX3 97 (10000), Cond.fieldLink RX3 81 "NetPointsModel" "many" "I", Cond.fieldLink RX3 28 "NetPointsModel" "pictures" "[I", Cond.fieldLink RX3 31 "NetPointsModel" "kinds" "[I", Cond.fieldLink RX3 53 "NetPointsModel" "gained" "[J", Cond.fieldLink RX3 50 "NetPointsModel" "profits" "[J", Cond.fieldLink RX3 76 "NetPointsModel" "crossed" "Z", Cond.fieldLink RX3 25 "NetPointsModel" "interests" "[I", Cond.methodLink RX3 108 yX3_upTo, Cond.instanceMethod yX3_upTo, Cond.selects RX3 yX3_upTo yX3_upTo, Cond.initialized RX3, Cond.code yX3_upTo cX3_upTo 8 (some .long), Cond.fieldLink RX3 34 "NetPointsModel" "limits" "[I", Cond.constantLong RX3 106 (100), Cond.fieldLink RX3 37 "NetPointsModel" "firsts" "[I", Cond.methodLink RX3 93 yX3_grossOf, Cond.instanceMethod yX3_grossOf, Cond.selects RX3 yX3_grossOf yX3_grossOf, Cond.code yX3_grossOf cX3_grossOf 6 (some .long)]
def wsX3_lay_r2 : List Cond := [Cond.fieldLink RX3 7 "NetPointsModel" "receipts" "[I", Cond.methodLink RX3 88 yX3_at, Cond.static yX3_at, Cond.code yX3_at cX3_at 3 (some .int), Cond.methodLink RX3 99 yX3_adjustedOf, Cond.instanceMethod yX3_adjustedOf, Cond.selects RX3 yX3_adjustedOf yX3_adjustedOf, Cond.code yX3_adjustedOf cX3_adjustedOf 5 (some .long), Cond.fieldLink RX3 19 "NetPointsModel" "tops" "[I", Cond.methodLink RX3 102 yX3_parted, Cond.instanceMethod yX3_parted, Cond.selects RX3 yX3_parted yX3_parted, Cond.code yX3_parted cX3_parted 6 (some .long), Cond.fieldLink RX3 40 "NetPointsModel" "seconds" "[I", Cond.methodLink RX3 111 yX3_feesOf, Cond.instanceMethod yX3_feesOf, Cond.selects RX3 yX3_feesOf yX3_feesOf, Cond.code yX3_feesOf cX3_feesOf 6 (some .long), Cond.fieldLink RX3 16 "NetPointsModel" "feeRates" "[I", Cond.methodLink RX3 114 yX3_move, Cond.instanceMethod yX3_move, Cond.selects RX3 yX3_move yX3_move, Cond.code yX3_move cX3_move 6 none]
def wsX3_lay : List Cond := .code yX3_lay cX3_lay 8 none :: ((wsX3_lay_r1 ++ wsX3_lay_r2) ++ wsX30)
def wsX3_deferred : List Cond := .code yX3_deferred cX3_deferred 6 (some .long) :: ([.fieldLink RX3 50 "NetPointsModel" "profits" "[J", .fieldLink RX3 85 "NetPointsModel" "now" "I", .fieldLink RX3 28 "NetPointsModel" "pictures" "[I", .fieldLink RX3 31 "NetPointsModel" "kinds" "[I", .fieldLink RX3 34 "NetPointsModel" "limits" "[I"] ++ wsX30)
def wsX3_sumOf_r1 : List Cond := [Cond.fieldLink RX3 28 "NetPointsModel" "pictures" "[I", Cond.fieldLink RX3 31 "NetPointsModel" "kinds" "[I", Cond.fieldLink RX3 85 "NetPointsModel" "now" "I", Cond.fieldLink RX3 81 "NetPointsModel" "many" "I", Cond.fieldLink RX3 34 "NetPointsModel" "limits" "[I", Cond.methodLink RX3 108 yX3_upTo, Cond.instanceMethod yX3_upTo, Cond.selects RX3 yX3_upTo yX3_upTo, Cond.initialized RX3, Cond.code yX3_upTo cX3_upTo 8 (some .long), Cond.constantLong RX3 106 (100), Cond.fieldLink RX3 37 "NetPointsModel" "firsts" "[I", Cond.methodLink RX3 93 yX3_grossOf, Cond.instanceMethod yX3_grossOf, Cond.selects RX3 yX3_grossOf yX3_grossOf, Cond.code yX3_grossOf cX3_grossOf 6 (some .long), Cond.fieldLink RX3 7 "NetPointsModel" "receipts" "[I", Cond.methodLink RX3 88 yX3_at, Cond.static yX3_at, Cond.code yX3_at cX3_at 3 (some .int), Cond.methodLink RX3 99 yX3_adjustedOf, Cond.instanceMethod yX3_adjustedOf, Cond.selects RX3 yX3_adjustedOf yX3_adjustedOf, Cond.code yX3_adjustedOf cX3_adjustedOf 5 (some .long)]
def wsX3_sumOf_r2 : List Cond := [Cond.fieldLink RX3 19 "NetPointsModel" "tops" "[I", Cond.constantLong RX3 97 (10000), Cond.methodLink RX3 102 yX3_parted, Cond.instanceMethod yX3_parted, Cond.selects RX3 yX3_parted yX3_parted, Cond.code yX3_parted cX3_parted 6 (some .long), Cond.fieldLink RX3 40 "NetPointsModel" "seconds" "[I", Cond.methodLink RX3 118 yX3_lay, Cond.instanceMethod yX3_lay, Cond.selects RX3 yX3_lay yX3_lay, Cond.code yX3_lay cX3_lay 8 none, Cond.fieldLink RX3 46 "NetPointsModel" "balances" "[J", Cond.fieldLink RX3 13 "NetPointsModel" "costs" "[I", Cond.fieldLink RX3 22 "NetPointsModel" "overheads" "[I", Cond.fieldLink RX3 53 "NetPointsModel" "gained" "[J", Cond.fieldLink RX3 50 "NetPointsModel" "profits" "[J", Cond.fieldLink RX3 76 "NetPointsModel" "crossed" "Z", Cond.fieldLink RX3 25 "NetPointsModel" "interests" "[I", Cond.methodLink RX3 111 yX3_feesOf, Cond.instanceMethod yX3_feesOf, Cond.selects RX3 yX3_feesOf yX3_feesOf, Cond.code yX3_feesOf cX3_feesOf 6 (some .long), Cond.fieldLink RX3 16 "NetPointsModel" "feeRates" "[I", Cond.methodLink RX3 114 yX3_move]
def wsX3_sumOf_r3 : List Cond := [Cond.instanceMethod yX3_move, Cond.selects RX3 yX3_move yX3_move, Cond.code yX3_move cX3_move 6 none, Cond.methodLink RX3 121 yX3_deferred, Cond.instanceMethod yX3_deferred, Cond.selects RX3 yX3_deferred yX3_deferred, Cond.code yX3_deferred cX3_deferred 6 (some .long)]
def wsX3_sumOf : List Cond := .code yX3_sumOf cX3_sumOf 5 (some .long) :: ((wsX3_sumOf_r1 ++ (wsX3_sumOf_r2 ++ wsX3_sumOf_r3)) ++ wsX30)
def wsX3_isSharer : List Cond := .code yX3_isSharer cX3_isSharer 2 (some .boolean) :: ([.fieldLink RX3 81 "NetPointsModel" "many" "I", .fieldLink RX3 56 "NetPointsModel" "thrown" "I", .methodLink RX3 60 yX3_in, .static yX3_in, .initialized RX3, .code yX3_in cX3_in 3 (some .boolean)] ++ wsX30)
def wsX3_pay_r1 : List Cond := [Cond.fieldLink RX3 43 "NetPointsModel" "paidTo" "[I", Cond.methodLink RX3 124 yX3_isSharer, Cond.instanceMethod yX3_isSharer, Cond.selects RX3 yX3_isSharer yX3_isSharer, Cond.initialized RX3, Cond.code yX3_isSharer cX3_isSharer 2 (some .boolean), Cond.fieldLink RX3 81 "NetPointsModel" "many" "I", Cond.fieldLink RX3 56 "NetPointsModel" "thrown" "I", Cond.methodLink RX3 60 yX3_in, Cond.static yX3_in, Cond.code yX3_in cX3_in 3 (some .boolean), Cond.methodLink RX3 127 yX3_sumOf, Cond.instanceMethod yX3_sumOf, Cond.selects RX3 yX3_sumOf yX3_sumOf, Cond.code yX3_sumOf cX3_sumOf 5 (some .long), Cond.fieldLink RX3 28 "NetPointsModel" "pictures" "[I", Cond.fieldLink RX3 31 "NetPointsModel" "kinds" "[I", Cond.fieldLink RX3 85 "NetPointsModel" "now" "I", Cond.fieldLink RX3 34 "NetPointsModel" "limits" "[I", Cond.methodLink RX3 108 yX3_upTo, Cond.instanceMethod yX3_upTo, Cond.selects RX3 yX3_upTo yX3_upTo, Cond.code yX3_upTo cX3_upTo 8 (some .long), Cond.constantLong RX3 106 (100)]
def wsX3_pay_r2 : List Cond := [Cond.fieldLink RX3 37 "NetPointsModel" "firsts" "[I", Cond.methodLink RX3 93 yX3_grossOf, Cond.instanceMethod yX3_grossOf, Cond.selects RX3 yX3_grossOf yX3_grossOf, Cond.code yX3_grossOf cX3_grossOf 6 (some .long), Cond.fieldLink RX3 7 "NetPointsModel" "receipts" "[I", Cond.methodLink RX3 88 yX3_at, Cond.static yX3_at, Cond.code yX3_at cX3_at 3 (some .int), Cond.methodLink RX3 99 yX3_adjustedOf, Cond.instanceMethod yX3_adjustedOf, Cond.selects RX3 yX3_adjustedOf yX3_adjustedOf, Cond.code yX3_adjustedOf cX3_adjustedOf 5 (some .long), Cond.fieldLink RX3 19 "NetPointsModel" "tops" "[I", Cond.constantLong RX3 97 (10000), Cond.methodLink RX3 102 yX3_parted, Cond.instanceMethod yX3_parted, Cond.selects RX3 yX3_parted yX3_parted, Cond.code yX3_parted cX3_parted 6 (some .long), Cond.fieldLink RX3 40 "NetPointsModel" "seconds" "[I", Cond.methodLink RX3 118 yX3_lay, Cond.instanceMethod yX3_lay, Cond.selects RX3 yX3_lay yX3_lay, Cond.code yX3_lay cX3_lay 8 none]
def wsX3_pay_r3 : List Cond := [Cond.fieldLink RX3 46 "NetPointsModel" "balances" "[J", Cond.fieldLink RX3 13 "NetPointsModel" "costs" "[I", Cond.fieldLink RX3 22 "NetPointsModel" "overheads" "[I", Cond.fieldLink RX3 53 "NetPointsModel" "gained" "[J", Cond.fieldLink RX3 50 "NetPointsModel" "profits" "[J", Cond.fieldLink RX3 76 "NetPointsModel" "crossed" "Z", Cond.fieldLink RX3 25 "NetPointsModel" "interests" "[I", Cond.methodLink RX3 111 yX3_feesOf, Cond.instanceMethod yX3_feesOf, Cond.selects RX3 yX3_feesOf yX3_feesOf, Cond.code yX3_feesOf cX3_feesOf 6 (some .long), Cond.fieldLink RX3 16 "NetPointsModel" "feeRates" "[I", Cond.methodLink RX3 114 yX3_move, Cond.instanceMethod yX3_move, Cond.selects RX3 yX3_move yX3_move, Cond.code yX3_move cX3_move 6 none, Cond.methodLink RX3 121 yX3_deferred, Cond.instanceMethod yX3_deferred, Cond.selects RX3 yX3_deferred yX3_deferred, Cond.code yX3_deferred cX3_deferred 6 (some .long), Cond.methodLink RX3 68 yX3_fails, Cond.instanceMethod yX3_fails, Cond.selects RX3 yX3_fails yX3_fails, Cond.code yX3_fails cX3_fails 2 (some .int)]
def wsX3_pay : List Cond := .code yX3_pay cX3_pay 3 (some .int) :: ((wsX3_pay_r1 ++ (wsX3_pay_r2 ++ wsX3_pay_r3)) ++ wsX30)
def wsX3_year : List Cond := .code yX3_year cX3_year 1 (some .int) :: ([.fieldLink RX3 56 "NetPointsModel" "thrown" "I", .fieldLink RX3 85 "NetPointsModel" "now" "I"] ++ wsX30)
def wsX3_gross : List Cond := .code yX3_gross cX3_gross 5 (some .int) :: ([.fieldLink RX3 56 "NetPointsModel" "thrown" "I", .fieldLink RX3 85 "NetPointsModel" "now" "I", .methodLink RX3 64 yX3_isPicture, .static yX3_isPicture, .initialized RX3, .code yX3_isPicture cX3_isPicture 1 (some .boolean), .methodLink RX3 60 yX3_in, .static yX3_in, .code yX3_in cX3_in 3 (some .boolean), .methodLink RX3 68 yX3_fails, .instanceMethod yX3_fails, .selects RX3 yX3_fails yX3_fails, .code yX3_fails cX3_fails 2 (some .int), .methodLink RX3 93 yX3_grossOf, .instanceMethod yX3_grossOf, .selects RX3 yX3_grossOf yX3_grossOf, .code yX3_grossOf cX3_grossOf 6 (some .long), .fieldLink RX3 7 "NetPointsModel" "receipts" "[I", .methodLink RX3 88 yX3_at, .static yX3_at, .code yX3_at cX3_at 3 (some .int)] ++ wsX30)
def wsX3_adjusted_r1 : List Cond := [Cond.fieldLink RX3 56 "NetPointsModel" "thrown" "I", Cond.fieldLink RX3 85 "NetPointsModel" "now" "I", Cond.methodLink RX3 64 yX3_isPicture, Cond.static yX3_isPicture, Cond.initialized RX3, Cond.code yX3_isPicture cX3_isPicture 1 (some .boolean), Cond.methodLink RX3 60 yX3_in, Cond.static yX3_in, Cond.code yX3_in cX3_in 3 (some .boolean), Cond.methodLink RX3 68 yX3_fails, Cond.instanceMethod yX3_fails, Cond.selects RX3 yX3_fails yX3_fails, Cond.code yX3_fails cX3_fails 2 (some .int), Cond.methodLink RX3 99 yX3_adjustedOf, Cond.instanceMethod yX3_adjustedOf, Cond.selects RX3 yX3_adjustedOf yX3_adjustedOf, Cond.code yX3_adjustedOf cX3_adjustedOf 5 (some .long), Cond.fieldLink RX3 19 "NetPointsModel" "tops" "[I", Cond.constantLong RX3 97 (10000), Cond.methodLink RX3 93 yX3_grossOf, Cond.instanceMethod yX3_grossOf, Cond.selects RX3 yX3_grossOf yX3_grossOf, Cond.code yX3_grossOf cX3_grossOf 6 (some .long), Cond.fieldLink RX3 7 "NetPointsModel" "receipts" "[I"]
def wsX3_adjusted_r2 : List Cond := [Cond.methodLink RX3 88 yX3_at, Cond.static yX3_at, Cond.code yX3_at cX3_at 3 (some .int)]
def wsX3_adjusted : List Cond := .code yX3_adjusted cX3_adjusted 5 (some .int) :: ((wsX3_adjusted_r1 ++ wsX3_adjusted_r2) ++ wsX30)
def wsX3_fees : List Cond := .code yX3_fees cX3_fees 5 (some .int) :: ([.fieldLink RX3 56 "NetPointsModel" "thrown" "I", .fieldLink RX3 85 "NetPointsModel" "now" "I", .methodLink RX3 64 yX3_isPicture, .static yX3_isPicture, .initialized RX3, .code yX3_isPicture cX3_isPicture 1 (some .boolean), .methodLink RX3 60 yX3_in, .static yX3_in, .code yX3_in cX3_in 3 (some .boolean), .methodLink RX3 68 yX3_fails, .instanceMethod yX3_fails, .selects RX3 yX3_fails yX3_fails, .code yX3_fails cX3_fails 2 (some .int), .methodLink RX3 111 yX3_feesOf, .instanceMethod yX3_feesOf, .selects RX3 yX3_feesOf yX3_feesOf, .code yX3_feesOf cX3_feesOf 6 (some .long), .fieldLink RX3 7 "NetPointsModel" "receipts" "[I", .fieldLink RX3 16 "NetPointsModel" "feeRates" "[I", .constantLong RX3 97 (10000), .methodLink RX3 88 yX3_at, .static yX3_at, .code yX3_at cX3_at 3 (some .int)] ++ wsX30)
def wsX3_isYear : List Cond := .code yX3_isYear cX3_isYear 3 (some .boolean) :: ([.fieldLink RX3 85 "NetPointsModel" "now" "I", .fieldLink RX3 56 "NetPointsModel" "thrown" "I", .methodLink RX3 64 yX3_isPicture, .static yX3_isPicture, .initialized RX3, .code yX3_isPicture cX3_isPicture 1 (some .boolean), .methodLink RX3 60 yX3_in, .static yX3_in, .code yX3_in cX3_in 3 (some .boolean)] ++ wsX30)
def wsX3_balance_r1 : List Cond := [Cond.fieldLink RX3 46 "NetPointsModel" "balances" "[J", Cond.methodLink RX3 131 yX3_isYear, Cond.instanceMethod yX3_isYear, Cond.selects RX3 yX3_isYear yX3_isYear, Cond.initialized RX3, Cond.code yX3_isYear cX3_isYear 3 (some .boolean), Cond.fieldLink RX3 85 "NetPointsModel" "now" "I", Cond.fieldLink RX3 56 "NetPointsModel" "thrown" "I", Cond.methodLink RX3 64 yX3_isPicture, Cond.static yX3_isPicture, Cond.code yX3_isPicture cX3_isPicture 1 (some .boolean), Cond.methodLink RX3 60 yX3_in, Cond.static yX3_in, Cond.code yX3_in cX3_in 3 (some .boolean), Cond.methodLink RX3 118 yX3_lay, Cond.instanceMethod yX3_lay, Cond.selects RX3 yX3_lay yX3_lay, Cond.code yX3_lay cX3_lay 8 none, Cond.fieldLink RX3 13 "NetPointsModel" "costs" "[I", Cond.fieldLink RX3 22 "NetPointsModel" "overheads" "[I", Cond.constantLong RX3 97 (10000), Cond.fieldLink RX3 81 "NetPointsModel" "many" "I", Cond.fieldLink RX3 28 "NetPointsModel" "pictures" "[I", Cond.fieldLink RX3 31 "NetPointsModel" "kinds" "[I"]
def wsX3_balance_r2 : List Cond := [Cond.fieldLink RX3 53 "NetPointsModel" "gained" "[J", Cond.fieldLink RX3 50 "NetPointsModel" "profits" "[J", Cond.fieldLink RX3 76 "NetPointsModel" "crossed" "Z", Cond.fieldLink RX3 25 "NetPointsModel" "interests" "[I", Cond.methodLink RX3 108 yX3_upTo, Cond.instanceMethod yX3_upTo, Cond.selects RX3 yX3_upTo yX3_upTo, Cond.code yX3_upTo cX3_upTo 8 (some .long), Cond.fieldLink RX3 34 "NetPointsModel" "limits" "[I", Cond.constantLong RX3 106 (100), Cond.fieldLink RX3 37 "NetPointsModel" "firsts" "[I", Cond.methodLink RX3 93 yX3_grossOf, Cond.instanceMethod yX3_grossOf, Cond.selects RX3 yX3_grossOf yX3_grossOf, Cond.code yX3_grossOf cX3_grossOf 6 (some .long), Cond.fieldLink RX3 7 "NetPointsModel" "receipts" "[I", Cond.methodLink RX3 88 yX3_at, Cond.static yX3_at, Cond.code yX3_at cX3_at 3 (some .int), Cond.methodLink RX3 99 yX3_adjustedOf, Cond.instanceMethod yX3_adjustedOf, Cond.selects RX3 yX3_adjustedOf yX3_adjustedOf, Cond.code yX3_adjustedOf cX3_adjustedOf 5 (some .long), Cond.fieldLink RX3 19 "NetPointsModel" "tops" "[I"]
def wsX3_balance_r3 : List Cond := [Cond.methodLink RX3 102 yX3_parted, Cond.instanceMethod yX3_parted, Cond.selects RX3 yX3_parted yX3_parted, Cond.code yX3_parted cX3_parted 6 (some .long), Cond.fieldLink RX3 40 "NetPointsModel" "seconds" "[I", Cond.methodLink RX3 111 yX3_feesOf, Cond.instanceMethod yX3_feesOf, Cond.selects RX3 yX3_feesOf yX3_feesOf, Cond.code yX3_feesOf cX3_feesOf 6 (some .long), Cond.fieldLink RX3 16 "NetPointsModel" "feeRates" "[I", Cond.methodLink RX3 114 yX3_move, Cond.instanceMethod yX3_move, Cond.selects RX3 yX3_move yX3_move, Cond.code yX3_move cX3_move 6 none]
def wsX3_balance : List Cond := .code yX3_balance cX3_balance 3 (some .int) :: ((wsX3_balance_r1 ++ (wsX3_balance_r2 ++ wsX3_balance_r3)) ++ wsX30)
def wsX3_profit_r1 : List Cond := [Cond.fieldLink RX3 50 "NetPointsModel" "profits" "[J", Cond.methodLink RX3 131 yX3_isYear, Cond.instanceMethod yX3_isYear, Cond.selects RX3 yX3_isYear yX3_isYear, Cond.initialized RX3, Cond.code yX3_isYear cX3_isYear 3 (some .boolean), Cond.fieldLink RX3 85 "NetPointsModel" "now" "I", Cond.fieldLink RX3 56 "NetPointsModel" "thrown" "I", Cond.methodLink RX3 64 yX3_isPicture, Cond.static yX3_isPicture, Cond.code yX3_isPicture cX3_isPicture 1 (some .boolean), Cond.methodLink RX3 60 yX3_in, Cond.static yX3_in, Cond.code yX3_in cX3_in 3 (some .boolean), Cond.methodLink RX3 118 yX3_lay, Cond.instanceMethod yX3_lay, Cond.selects RX3 yX3_lay yX3_lay, Cond.code yX3_lay cX3_lay 8 none, Cond.fieldLink RX3 46 "NetPointsModel" "balances" "[J", Cond.fieldLink RX3 13 "NetPointsModel" "costs" "[I", Cond.fieldLink RX3 22 "NetPointsModel" "overheads" "[I", Cond.constantLong RX3 97 (10000), Cond.fieldLink RX3 81 "NetPointsModel" "many" "I", Cond.fieldLink RX3 28 "NetPointsModel" "pictures" "[I"]
def wsX3_profit_r2 : List Cond := [Cond.fieldLink RX3 31 "NetPointsModel" "kinds" "[I", Cond.fieldLink RX3 53 "NetPointsModel" "gained" "[J", Cond.fieldLink RX3 76 "NetPointsModel" "crossed" "Z", Cond.fieldLink RX3 25 "NetPointsModel" "interests" "[I", Cond.methodLink RX3 108 yX3_upTo, Cond.instanceMethod yX3_upTo, Cond.selects RX3 yX3_upTo yX3_upTo, Cond.code yX3_upTo cX3_upTo 8 (some .long), Cond.fieldLink RX3 34 "NetPointsModel" "limits" "[I", Cond.constantLong RX3 106 (100), Cond.fieldLink RX3 37 "NetPointsModel" "firsts" "[I", Cond.methodLink RX3 93 yX3_grossOf, Cond.instanceMethod yX3_grossOf, Cond.selects RX3 yX3_grossOf yX3_grossOf, Cond.code yX3_grossOf cX3_grossOf 6 (some .long), Cond.fieldLink RX3 7 "NetPointsModel" "receipts" "[I", Cond.methodLink RX3 88 yX3_at, Cond.static yX3_at, Cond.code yX3_at cX3_at 3 (some .int), Cond.methodLink RX3 99 yX3_adjustedOf, Cond.instanceMethod yX3_adjustedOf, Cond.selects RX3 yX3_adjustedOf yX3_adjustedOf, Cond.code yX3_adjustedOf cX3_adjustedOf 5 (some .long), Cond.fieldLink RX3 19 "NetPointsModel" "tops" "[I"]
def wsX3_profit_r3 : List Cond := [Cond.methodLink RX3 102 yX3_parted, Cond.instanceMethod yX3_parted, Cond.selects RX3 yX3_parted yX3_parted, Cond.code yX3_parted cX3_parted 6 (some .long), Cond.fieldLink RX3 40 "NetPointsModel" "seconds" "[I", Cond.methodLink RX3 111 yX3_feesOf, Cond.instanceMethod yX3_feesOf, Cond.selects RX3 yX3_feesOf yX3_feesOf, Cond.code yX3_feesOf cX3_feesOf 6 (some .long), Cond.fieldLink RX3 16 "NetPointsModel" "feeRates" "[I", Cond.methodLink RX3 114 yX3_move, Cond.instanceMethod yX3_move, Cond.selects RX3 yX3_move yX3_move, Cond.code yX3_move cX3_move 6 none]
def wsX3_profit : List Cond := .code yX3_profit cX3_profit 3 (some .int) :: ((wsX3_profit_r1 ++ (wsX3_profit_r2 ++ wsX3_profit_r3)) ++ wsX30)
def wsX3_pool_r1 : List Cond := [Cond.fieldLink RX3 56 "NetPointsModel" "thrown" "I", Cond.fieldLink RX3 81 "NetPointsModel" "many" "I", Cond.methodLink RX3 64 yX3_isPicture, Cond.static yX3_isPicture, Cond.initialized RX3, Cond.code yX3_isPicture cX3_isPicture 1 (some .boolean), Cond.methodLink RX3 60 yX3_in, Cond.static yX3_in, Cond.code yX3_in cX3_in 3 (some .boolean), Cond.methodLink RX3 68 yX3_fails, Cond.instanceMethod yX3_fails, Cond.selects RX3 yX3_fails yX3_fails, Cond.code yX3_fails cX3_fails 2 (some .int), Cond.methodLink RX3 118 yX3_lay, Cond.instanceMethod yX3_lay, Cond.selects RX3 yX3_lay yX3_lay, Cond.code yX3_lay cX3_lay 8 none, Cond.fieldLink RX3 85 "NetPointsModel" "now" "I", Cond.fieldLink RX3 46 "NetPointsModel" "balances" "[J", Cond.fieldLink RX3 13 "NetPointsModel" "costs" "[I", Cond.fieldLink RX3 22 "NetPointsModel" "overheads" "[I", Cond.constantLong RX3 97 (10000), Cond.fieldLink RX3 28 "NetPointsModel" "pictures" "[I", Cond.fieldLink RX3 31 "NetPointsModel" "kinds" "[I"]
def wsX3_pool_r2 : List Cond := [Cond.fieldLink RX3 53 "NetPointsModel" "gained" "[J", Cond.fieldLink RX3 50 "NetPointsModel" "profits" "[J", Cond.fieldLink RX3 76 "NetPointsModel" "crossed" "Z", Cond.fieldLink RX3 25 "NetPointsModel" "interests" "[I", Cond.methodLink RX3 108 yX3_upTo, Cond.instanceMethod yX3_upTo, Cond.selects RX3 yX3_upTo yX3_upTo, Cond.code yX3_upTo cX3_upTo 8 (some .long), Cond.fieldLink RX3 34 "NetPointsModel" "limits" "[I", Cond.constantLong RX3 106 (100), Cond.fieldLink RX3 37 "NetPointsModel" "firsts" "[I", Cond.methodLink RX3 93 yX3_grossOf, Cond.instanceMethod yX3_grossOf, Cond.selects RX3 yX3_grossOf yX3_grossOf, Cond.code yX3_grossOf cX3_grossOf 6 (some .long), Cond.fieldLink RX3 7 "NetPointsModel" "receipts" "[I", Cond.methodLink RX3 88 yX3_at, Cond.static yX3_at, Cond.code yX3_at cX3_at 3 (some .int), Cond.methodLink RX3 99 yX3_adjustedOf, Cond.instanceMethod yX3_adjustedOf, Cond.selects RX3 yX3_adjustedOf yX3_adjustedOf, Cond.code yX3_adjustedOf cX3_adjustedOf 5 (some .long), Cond.fieldLink RX3 19 "NetPointsModel" "tops" "[I"]
def wsX3_pool_r3 : List Cond := [Cond.methodLink RX3 102 yX3_parted, Cond.instanceMethod yX3_parted, Cond.selects RX3 yX3_parted yX3_parted, Cond.code yX3_parted cX3_parted 6 (some .long), Cond.fieldLink RX3 40 "NetPointsModel" "seconds" "[I", Cond.methodLink RX3 111 yX3_feesOf, Cond.instanceMethod yX3_feesOf, Cond.selects RX3 yX3_feesOf yX3_feesOf, Cond.code yX3_feesOf cX3_feesOf 6 (some .long), Cond.fieldLink RX3 16 "NetPointsModel" "feeRates" "[I", Cond.methodLink RX3 114 yX3_move, Cond.instanceMethod yX3_move, Cond.selects RX3 yX3_move yX3_move, Cond.code yX3_move cX3_move 6 none, Cond.methodLink RX3 121 yX3_deferred, Cond.instanceMethod yX3_deferred, Cond.selects RX3 yX3_deferred yX3_deferred, Cond.code yX3_deferred cX3_deferred 6 (some .long)]
def wsX3_pool : List Cond := .code yX3_pool cX3_pool 2 (some .int) :: ((wsX3_pool_r1 ++ (wsX3_pool_r2 ++ wsX3_pool_r3)) ++ wsX30)
def wsX3_sharers : List Cond := .code yX3_sharers cX3_sharers 1 (some .int) :: ([.fieldLink RX3 56 "NetPointsModel" "thrown" "I", .fieldLink RX3 81 "NetPointsModel" "many" "I"] ++ wsX30)
def wsX3_sum_r1 : List Cond := [Cond.methodLink RX3 124 yX3_isSharer, Cond.instanceMethod yX3_isSharer, Cond.selects RX3 yX3_isSharer yX3_isSharer, Cond.initialized RX3, Cond.code yX3_isSharer cX3_isSharer 2 (some .boolean), Cond.fieldLink RX3 81 "NetPointsModel" "many" "I", Cond.fieldLink RX3 56 "NetPointsModel" "thrown" "I", Cond.methodLink RX3 60 yX3_in, Cond.static yX3_in, Cond.code yX3_in cX3_in 3 (some .boolean), Cond.methodLink RX3 127 yX3_sumOf, Cond.instanceMethod yX3_sumOf, Cond.selects RX3 yX3_sumOf yX3_sumOf, Cond.code yX3_sumOf cX3_sumOf 5 (some .long), Cond.fieldLink RX3 28 "NetPointsModel" "pictures" "[I", Cond.fieldLink RX3 31 "NetPointsModel" "kinds" "[I", Cond.fieldLink RX3 85 "NetPointsModel" "now" "I", Cond.fieldLink RX3 34 "NetPointsModel" "limits" "[I", Cond.methodLink RX3 108 yX3_upTo, Cond.instanceMethod yX3_upTo, Cond.selects RX3 yX3_upTo yX3_upTo, Cond.code yX3_upTo cX3_upTo 8 (some .long), Cond.constantLong RX3 106 (100), Cond.fieldLink RX3 37 "NetPointsModel" "firsts" "[I"]
def wsX3_sum_r2 : List Cond := [Cond.methodLink RX3 93 yX3_grossOf, Cond.instanceMethod yX3_grossOf, Cond.selects RX3 yX3_grossOf yX3_grossOf, Cond.code yX3_grossOf cX3_grossOf 6 (some .long), Cond.fieldLink RX3 7 "NetPointsModel" "receipts" "[I", Cond.methodLink RX3 88 yX3_at, Cond.static yX3_at, Cond.code yX3_at cX3_at 3 (some .int), Cond.methodLink RX3 99 yX3_adjustedOf, Cond.instanceMethod yX3_adjustedOf, Cond.selects RX3 yX3_adjustedOf yX3_adjustedOf, Cond.code yX3_adjustedOf cX3_adjustedOf 5 (some .long), Cond.fieldLink RX3 19 "NetPointsModel" "tops" "[I", Cond.constantLong RX3 97 (10000), Cond.methodLink RX3 102 yX3_parted, Cond.instanceMethod yX3_parted, Cond.selects RX3 yX3_parted yX3_parted, Cond.code yX3_parted cX3_parted 6 (some .long), Cond.fieldLink RX3 40 "NetPointsModel" "seconds" "[I", Cond.methodLink RX3 118 yX3_lay, Cond.instanceMethod yX3_lay, Cond.selects RX3 yX3_lay yX3_lay, Cond.code yX3_lay cX3_lay 8 none, Cond.fieldLink RX3 46 "NetPointsModel" "balances" "[J"]
def wsX3_sum_r3 : List Cond := [Cond.fieldLink RX3 13 "NetPointsModel" "costs" "[I", Cond.fieldLink RX3 22 "NetPointsModel" "overheads" "[I", Cond.fieldLink RX3 53 "NetPointsModel" "gained" "[J", Cond.fieldLink RX3 50 "NetPointsModel" "profits" "[J", Cond.fieldLink RX3 76 "NetPointsModel" "crossed" "Z", Cond.fieldLink RX3 25 "NetPointsModel" "interests" "[I", Cond.methodLink RX3 111 yX3_feesOf, Cond.instanceMethod yX3_feesOf, Cond.selects RX3 yX3_feesOf yX3_feesOf, Cond.code yX3_feesOf cX3_feesOf 6 (some .long), Cond.fieldLink RX3 16 "NetPointsModel" "feeRates" "[I", Cond.methodLink RX3 114 yX3_move, Cond.instanceMethod yX3_move, Cond.selects RX3 yX3_move yX3_move, Cond.code yX3_move cX3_move 6 none, Cond.methodLink RX3 121 yX3_deferred, Cond.instanceMethod yX3_deferred, Cond.selects RX3 yX3_deferred yX3_deferred, Cond.code yX3_deferred cX3_deferred 6 (some .long)]
def wsX3_sum : List Cond := .code yX3_sum cX3_sum 2 (some .int) :: ((wsX3_sum_r1 ++ (wsX3_sum_r2 ++ wsX3_sum_r3)) ++ wsX30)
def wsX3_paid : List Cond := .code yX3_paid cX3_paid 2 (some .int) :: ([.fieldLink RX3 43 "NetPointsModel" "paidTo" "[I", .methodLink RX3 124 yX3_isSharer, .instanceMethod yX3_isSharer, .selects RX3 yX3_isSharer yX3_isSharer, .initialized RX3, .code yX3_isSharer cX3_isSharer 2 (some .boolean), .fieldLink RX3 81 "NetPointsModel" "many" "I", .fieldLink RX3 56 "NetPointsModel" "thrown" "I", .methodLink RX3 60 yX3_in, .static yX3_in, .code yX3_in cX3_in 3 (some .boolean)] ++ wsX30)
def wsX3_owed_r1 : List Cond := [Cond.fieldLink RX3 43 "NetPointsModel" "paidTo" "[I", Cond.methodLink RX3 124 yX3_isSharer, Cond.instanceMethod yX3_isSharer, Cond.selects RX3 yX3_isSharer yX3_isSharer, Cond.initialized RX3, Cond.code yX3_isSharer cX3_isSharer 2 (some .boolean), Cond.fieldLink RX3 81 "NetPointsModel" "many" "I", Cond.fieldLink RX3 56 "NetPointsModel" "thrown" "I", Cond.methodLink RX3 60 yX3_in, Cond.static yX3_in, Cond.code yX3_in cX3_in 3 (some .boolean), Cond.methodLink RX3 127 yX3_sumOf, Cond.instanceMethod yX3_sumOf, Cond.selects RX3 yX3_sumOf yX3_sumOf, Cond.code yX3_sumOf cX3_sumOf 5 (some .long), Cond.fieldLink RX3 28 "NetPointsModel" "pictures" "[I", Cond.fieldLink RX3 31 "NetPointsModel" "kinds" "[I", Cond.fieldLink RX3 85 "NetPointsModel" "now" "I", Cond.fieldLink RX3 34 "NetPointsModel" "limits" "[I", Cond.methodLink RX3 108 yX3_upTo, Cond.instanceMethod yX3_upTo, Cond.selects RX3 yX3_upTo yX3_upTo, Cond.code yX3_upTo cX3_upTo 8 (some .long), Cond.constantLong RX3 106 (100)]
def wsX3_owed_r2 : List Cond := [Cond.fieldLink RX3 37 "NetPointsModel" "firsts" "[I", Cond.methodLink RX3 93 yX3_grossOf, Cond.instanceMethod yX3_grossOf, Cond.selects RX3 yX3_grossOf yX3_grossOf, Cond.code yX3_grossOf cX3_grossOf 6 (some .long), Cond.fieldLink RX3 7 "NetPointsModel" "receipts" "[I", Cond.methodLink RX3 88 yX3_at, Cond.static yX3_at, Cond.code yX3_at cX3_at 3 (some .int), Cond.methodLink RX3 99 yX3_adjustedOf, Cond.instanceMethod yX3_adjustedOf, Cond.selects RX3 yX3_adjustedOf yX3_adjustedOf, Cond.code yX3_adjustedOf cX3_adjustedOf 5 (some .long), Cond.fieldLink RX3 19 "NetPointsModel" "tops" "[I", Cond.constantLong RX3 97 (10000), Cond.methodLink RX3 102 yX3_parted, Cond.instanceMethod yX3_parted, Cond.selects RX3 yX3_parted yX3_parted, Cond.code yX3_parted cX3_parted 6 (some .long), Cond.fieldLink RX3 40 "NetPointsModel" "seconds" "[I", Cond.methodLink RX3 118 yX3_lay, Cond.instanceMethod yX3_lay, Cond.selects RX3 yX3_lay yX3_lay, Cond.code yX3_lay cX3_lay 8 none]
def wsX3_owed_r3 : List Cond := [Cond.fieldLink RX3 46 "NetPointsModel" "balances" "[J", Cond.fieldLink RX3 13 "NetPointsModel" "costs" "[I", Cond.fieldLink RX3 22 "NetPointsModel" "overheads" "[I", Cond.fieldLink RX3 53 "NetPointsModel" "gained" "[J", Cond.fieldLink RX3 50 "NetPointsModel" "profits" "[J", Cond.fieldLink RX3 76 "NetPointsModel" "crossed" "Z", Cond.fieldLink RX3 25 "NetPointsModel" "interests" "[I", Cond.methodLink RX3 111 yX3_feesOf, Cond.instanceMethod yX3_feesOf, Cond.selects RX3 yX3_feesOf yX3_feesOf, Cond.code yX3_feesOf cX3_feesOf 6 (some .long), Cond.fieldLink RX3 16 "NetPointsModel" "feeRates" "[I", Cond.methodLink RX3 114 yX3_move, Cond.instanceMethod yX3_move, Cond.selects RX3 yX3_move yX3_move, Cond.code yX3_move cX3_move 6 none, Cond.methodLink RX3 121 yX3_deferred, Cond.instanceMethod yX3_deferred, Cond.selects RX3 yX3_deferred yX3_deferred, Cond.code yX3_deferred cX3_deferred 6 (some .long)]
def wsX3_owed : List Cond := .code yX3_owed cX3_owed 2 (some .int) :: ((wsX3_owed_r1 ++ (wsX3_owed_r2 ++ wsX3_owed_r3)) ++ wsX30)
def wsJ9_max_7cf53 : List Cond := .code yJ9_max_7cf53 cJ9_max_7cf53 2 (some .int) :: ([])
def wsJ9_min_7cf53 : List Cond := .code yJ9_min_7cf53 cJ9_min_7cf53 2 (some .int) :: ([])
def wsJ9_min_f86c9 : List Cond := .code yJ9_min_f86c9 cJ9_min_f86c9 4 (some .long) :: ([])
def wsL_setRates_r1 : List Cond := [Cond.classLink RL 13 "java/lang/IndexOutOfBoundsException", Cond.classLink RL 15 "java/lang/IllegalArgumentException", Cond.methodLink RL 7 yX2_setRates, Cond.instanceMethod yX2_setRates, Cond.selects RX2 yX2_setRates yX2_setRates, Cond.initialized RX2, Cond.code yX2_setRates cX2_setRates 6 none, Cond.fieldLink RX2 46 "NetPoints$Picture" "topRate" "I", Cond.fieldLink RX2 49 "NetPoints$Picture" "overheadRate" "I", Cond.fieldLink RX2 52 "NetPoints$Picture" "interestRate" "I", Cond.methodLink RX2 34 yX2_requirePicture, Cond.static yX2_requirePicture, Cond.code yX2_requirePicture cX2_requirePicture 1 none, Cond.classLink RX2 148 "java/lang/IndexOutOfBoundsException", Cond.initialized "java/lang/IndexOutOfBoundsException", Cond.methodLink RX2 38 yX2_requireRange, Cond.static yX2_requireRange, Cond.code yX2_requireRange cX2_requireRange 3 none, Cond.classLink RX2 155 "java/lang/IllegalArgumentException", Cond.initialized "java/lang/IllegalArgumentException", Cond.methodLink RX2 42 yX2_pictureOf, Cond.instanceMethod yX2_pictureOf, Cond.selects RX2 yX2_pictureOf yX2_pictureOf, Cond.code yX2_pictureOf cX2_pictureOf 2 (some (.object "NetPoints$Picture"))]
def wsL_setRates_r2 : List Cond := [Cond.fieldLink RX2 10 "NetPoints" "picture0" "LNetPoints$Picture;", Cond.fieldLink RX2 16 "NetPoints" "picture1" "LNetPoints$Picture;"]
def wsL_setRates : List Cond := .codeWith yL_setRates cL_setRates 6 (some .int) [(0, 9, 12, 13), (0, 9, 16, 15)] :: ((wsL_setRates_r1 ++ wsL_setRates_r2) ++ wsX00 ++ wsX20 ++ (vx_atS RX2 152 "java/lang/IndexOutOfBoundsException" ["java/lang/RuntimeException", "java/lang/Exception"]).filter goodWord ++ (vx_atS RX2 159 "java/lang/IllegalArgumentException" ["java/lang/RuntimeException", "java/lang/Exception"]).filter goodWord)
def wsL_setFee_r1 : List Cond := [Cond.classLink RL 13 "java/lang/IndexOutOfBoundsException", Cond.classLink RL 15 "java/lang/IllegalArgumentException", Cond.methodLink RL 17 yX2_setFee, Cond.instanceMethod yX2_setFee, Cond.selects RX2 yX2_setFee yX2_setFee, Cond.initialized RX2, Cond.code yX2_setFee cX2_setFee 6 (some .int), Cond.fieldLink RX2 58 "NetPoints$Picture" "feeRates" "[I", Cond.methodLink RX2 34 yX2_requirePicture, Cond.static yX2_requirePicture, Cond.code yX2_requirePicture cX2_requirePicture 1 none, Cond.classLink RX2 148 "java/lang/IndexOutOfBoundsException", Cond.initialized "java/lang/IndexOutOfBoundsException", Cond.methodLink RX2 55 yX2_requireWindow, Cond.static yX2_requireWindow, Cond.code yX2_requireWindow cX2_requireWindow 1 none, Cond.methodLink RX2 38 yX2_requireRange, Cond.static yX2_requireRange, Cond.code yX2_requireRange cX2_requireRange 3 none, Cond.classLink RX2 155 "java/lang/IllegalArgumentException", Cond.initialized "java/lang/IllegalArgumentException", Cond.methodLink RX2 42 yX2_pictureOf, Cond.instanceMethod yX2_pictureOf, Cond.selects RX2 yX2_pictureOf yX2_pictureOf]
def wsL_setFee_r2 : List Cond := [Cond.code yX2_pictureOf cX2_pictureOf 2 (some (.object "NetPoints$Picture")), Cond.fieldLink RX2 10 "NetPoints" "picture0" "LNetPoints$Picture;", Cond.fieldLink RX2 16 "NetPoints" "picture1" "LNetPoints$Picture;"]
def wsL_setFee : List Cond := .codeWith yL_setFee cL_setFee 6 (some .int) [(0, 12, 15, 13), (0, 12, 19, 15)] :: ((wsL_setFee_r1 ++ wsL_setFee_r2) ++ wsX00 ++ wsX20 ++ (vx_atS RX2 152 "java/lang/IndexOutOfBoundsException" ["java/lang/RuntimeException", "java/lang/Exception"]).filter goodWord ++ (vx_atS RX2 159 "java/lang/IllegalArgumentException" ["java/lang/RuntimeException", "java/lang/Exception"]).filter goodWord)
def wsL_add_r1 : List Cond := [Cond.classLink RL 13 "java/lang/IndexOutOfBoundsException", Cond.classLink RL 15 "java/lang/IllegalArgumentException", Cond.classLink RL 25 "java/lang/IllegalStateException", Cond.methodLink RL 21 yX2_add, Cond.instanceMethod yX2_add, Cond.selects RX2 yX2_add yX2_add, Cond.initialized RX2, Cond.code yX2_add cX2_add 9 (some .int), Cond.constant RX2 62 (10000000), Cond.methodLink RX2 63 Lib.Math.max.name, Cond.static Lib.Math.max.name, Cond.initialized "java/lang/Math", Cond.code Lib.Math.max.name Lib.Math.max.code 2 (some .int), Cond.classLink RX2 73 RX1, Cond.instantiable RX1 7, Cond.initialized RX1, Cond.fieldLink RX2 75 "NetPoints$Picture" "sharers" "Ljava/util/ArrayList;", Cond.fieldLink RX2 22 "NetPoints" "allSharers" "Ljava/util/ArrayList;", Cond.methodLink RX2 34 yX2_requirePicture, Cond.static yX2_requirePicture, Cond.code yX2_requirePicture cX2_requirePicture 1 none, Cond.classLink RX2 148 "java/lang/IndexOutOfBoundsException", Cond.initialized "java/lang/IndexOutOfBoundsException", Cond.methodLink RX2 38 yX2_requireRange]
def wsL_add_r2 : List Cond := [Cond.static yX2_requireRange, Cond.code yX2_requireRange cX2_requireRange 3 none, Cond.classLink RX2 155 "java/lang/IllegalArgumentException", Cond.initialized "java/lang/IllegalArgumentException", Cond.methodLink RX2 42 yX2_pictureOf, Cond.instanceMethod yX2_pictureOf, Cond.selects RX2 yX2_pictureOf yX2_pictureOf, Cond.code yX2_pictureOf cX2_pictureOf 2 (some (.object "NetPoints$Picture")), Cond.fieldLink RX2 10 "NetPoints" "picture0" "LNetPoints$Picture;", Cond.fieldLink RX2 16 "NetPoints" "picture1" "LNetPoints$Picture;", Cond.methodLink RX2 69 yX2_requireRoom, Cond.instanceMethod yX2_requireRoom, Cond.selects RX2 yX2_requireRoom yX2_requireRoom, Cond.code yX2_requireRoom cX2_requireRoom 4 none, Cond.classLink RX2 101 "java/lang/IllegalStateException", Cond.initialized "java/lang/IllegalStateException", Cond.methodLink RX2 78 yJx4a65c_size_8abf5, Cond.instanceMethod yJx4a65c_size_8abf5, Cond.selects RJx4a65c yJx4a65c_size_8abf5 yJx4a65c_size_8abf5, Cond.initialized RJx4a65c, Cond.code yJx4a65c_size_8abf5 cJx4a65c_size_8abf5 1 (some .int), Cond.fieldLink RJx4a65c 48 "java/util/ArrayList" "size" "I", Cond.methodLink RX2 164 yX0_netRatesGiven, Cond.instanceMethod yX0_netRatesGiven]
def wsL_add_r3 : List Cond := [Cond.selects RX0 yX0_netRatesGiven yX0_netRatesGiven, Cond.initialized RX0, Cond.code yX0_netRatesGiven cX0_netRatesGiven 4 (some .int), Cond.fieldLink RX0 26 "NetPoints$Picture" "sharers" "Ljava/util/ArrayList;", Cond.classLink RX0 45 "NetPoints$Sharer", Cond.fieldLink RX0 47 "NetPoints$Sharer" "kind" "I", Cond.fieldLink RX0 51 "NetPoints$Sharer" "first" "I", Cond.fieldLink RX0 54 "NetPoints$Sharer" "second" "I", Cond.methodLink RX0 57 Lib.Math.max.name, Cond.methodLink RX0 37 yJx4a65c_size_8abf5, Cond.methodLink RX0 41 yJx4a65c_get_915e3, Cond.instanceMethod yJx4a65c_get_915e3, Cond.selects RJx4a65c yJx4a65c_get_915e3 yJx4a65c_get_915e3, Cond.code yJx4a65c_get_915e3 cJx4a65c_get_915e3 2 (some (.object "java/lang/Object")), Cond.methodLink RJx4a65c 118 yJ15_checkIndex_7cf53, Cond.static yJ15_checkIndex_7cf53, Cond.initialized RJ15, Cond.code yJ15_checkIndex_7cf53 cJ15_checkIndex_7cf53 2 (some .int), Cond.methodLink RJ15 105 yJ3_checkIndex_8e157, Cond.static yJ3_checkIndex_8e157, Cond.initialized RJ3, Cond.code yJ3_checkIndex_8e157 cJ3_checkIndex_8e157 3 (some .int), Cond.methodLink RJx4a65c 123 yJx4a65c_elementData_915e3, Cond.instanceMethod yJx4a65c_elementData_915e3]
def wsL_add_r4 : List Cond := [Cond.selects RJx4a65c yJx4a65c_elementData_915e3 yJx4a65c_elementData_915e3, Cond.code yJx4a65c_elementData_915e3 cJx4a65c_elementData_915e3 2 (some (.object "java/lang/Object")), Cond.fieldLink RJx4a65c 9 "java/util/ArrayList" "elementData" "[Ljava/lang/Object;", Cond.methodLink RX2 82 yX1_init, Cond.instanceMethod yX1_init, Cond.code yX1_init cX1_init 7 none, Cond.methodLink RX1 3 objectInit, Cond.instanceMethod objectInit, Cond.code objectInit ⟨#[0xb1]⟩ 1 none, Cond.fieldLink RX1 9 "NetPoints$Sharer" "picture" "LNetPoints$Picture;", Cond.fieldLink RX1 15 "NetPoints$Sharer" "turn" "I", Cond.fieldLink RX1 19 "NetPoints$Sharer" "kind" "I", Cond.fieldLink RX1 22 "NetPoints$Sharer" "limit" "I", Cond.fieldLink RX1 25 "NetPoints$Sharer" "first" "I", Cond.fieldLink RX1 28 "NetPoints$Sharer" "second" "I", Cond.methodLink RX2 85 yJx4a65c_add_9ea2d, Cond.instanceMethod yJx4a65c_add_9ea2d, Cond.selects RJx4a65c yJx4a65c_add_9ea2d yJx4a65c_add_9ea2d, Cond.code yJx4a65c_add_9ea2d cJx4a65c_add_9ea2d 2 (some .boolean), Cond.fieldLink RJx4a65c 63 "java/util/ArrayList" "modCount" "I", Cond.sameField "java/util/ArrayList" "java/util/AbstractList" "modCount" "I", Cond.methodLink RJx4a65c 131 yJx4a65c_add_72be8, Cond.instanceMethod yJx4a65c_add_72be8, Cond.selects RJx4a65c yJx4a65c_add_72be8 yJx4a65c_add_72be8]
def wsL_add_r5 : List Cond := [Cond.code yJx4a65c_add_72be8 cJx4a65c_add_72be8 4 none, Cond.methodLink RJx4a65c 129 yJx4a65c_grow_d5877, Cond.instanceMethod yJx4a65c_grow_d5877, Cond.selects RJx4a65c yJx4a65c_grow_d5877 yJx4a65c_grow_d5877, Cond.code yJx4a65c_grow_d5877 cJx4a65c_grow_d5877 1 (some (.array (.object "java/lang/Object"))), Cond.methodLink RJx4a65c 69 yJx4a65c_grow_92f84, Cond.instanceMethod yJx4a65c_grow_92f84, Cond.selects RJx4a65c yJx4a65c_grow_92f84 yJx4a65c_grow_92f84, Cond.code yJx4a65c_grow_92f84 cJx4a65c_grow_92f84 4 (some (.array (.object "java/lang/Object"))), Cond.fieldLink RJx4a65c 39 "java/util/ArrayList" "DEFAULTCAPACITY_EMPTY_ELEMENTDATA" "[Ljava/lang/Object;", Cond.methodLink RJx4a65c 79 Lib.Math.max.name, Cond.classLink RJx4a65c 7 "java/lang/Object", Cond.methodLink RJx4a65c 73 yJ8_newLength_cabcc, Cond.static yJ8_newLength_cabcc, Cond.initialized RJ8, Cond.code yJ8_newLength_cabcc cJ8_newLength_cabcc 4 (some .int), Cond.methodLink RJ8 194 Lib.Math.max.name, Cond.constant RJ8 200 (2147483639), Cond.methodLink RJ8 201 yJ8_hugeLength_7cf53, Cond.static yJ8_hugeLength_7cf53, Cond.code yJ8_hugeLength_7cf53 cJ8_hugeLength_7cf53 3 (some .int), Cond.methodLink RJx4a65c 66 yJ7_copyOf_1904c, Cond.static yJ7_copyOf_1904c, Cond.initialized RJ7]
def wsL_add_r6 : List Cond := [Cond.code yJ7_copyOf_1904c cJ7_copyOf_1904c 2 (some (.array (.object "java/lang/Object"))), Cond.methodLink RJ7 86 ⟨"java/lang/Object", "getClass", "()Ljava/lang/Class;"⟩, Cond.selects "[Ljava/lang/Object;" ⟨"java/lang/Object", "getClass", "()Ljava/lang/Class;"⟩ ⟨"java/lang/Object", "getClass", "()Ljava/lang/Class;"⟩, Cond.instanceMethod ⟨"java/lang/Object", "getClass", "()Ljava/lang/Class;"⟩, Cond.native ⟨"java/lang/Object", "getClass", "()Ljava/lang/Class;"⟩, Cond.methodLink RJ7 300 yJ7_copyOf_6403c, Cond.static yJ7_copyOf_6403c, Cond.code yJ7_copyOf_6403c cJ7_copyOf_6403c 4 (some (.array (.object "java/lang/Object"))), Cond.classLink RJ7 110 "[Ljava/lang/Object;", Cond.classLink RJ7 2 "java/lang/Object", Cond.methodLink RJ7 304 Lib.Math.min.name, Cond.static Lib.Math.min.name, Cond.code Lib.Math.min.name Lib.Math.min.code 2 (some .int), Cond.methodLink RJ7 150 arraycopyName, Cond.native arraycopyName, Cond.static arraycopyName, Cond.initialized "java/lang/System"]
def wsL_add : List Cond := .codeWith yL_add cL_add 8 (some .int) [(0, 16, 19, 13), (0, 16, 23, 15), (0, 16, 27, 25)] :: ((wsL_add_r1 ++ (wsL_add_r2 ++ (wsL_add_r3 ++ (wsL_add_r4 ++ (wsL_add_r5 ++ wsL_add_r6))))) ++ wsX10 ++ wsX00 ++ wsX20 ++ wsJx4a65c0 ++ (vx_atS RX2 152 "java/lang/IndexOutOfBoundsException" ["java/lang/RuntimeException", "java/lang/Exception"]).filter goodWord ++ (vx_atS RX2 159 "java/lang/IllegalArgumentException" ["java/lang/RuntimeException", "java/lang/Exception"]).filter goodWord ++ (vx_atS RX2 105 "java/lang/IllegalStateException" ["java/lang/RuntimeException", "java/lang/Exception"]).filter goodWord)
def wsL_receive_r1 : List Cond := [Cond.classLink RL 13 "java/lang/IndexOutOfBoundsException", Cond.classLink RL 15 "java/lang/IllegalArgumentException", Cond.methodLink RL 27 yX2_receive, Cond.instanceMethod yX2_receive, Cond.selects RX2 yX2_receive yX2_receive, Cond.initialized RX2, Cond.code yX2_receive cX2_receive 5 (some .int), Cond.constant RX2 89 (200000), Cond.fieldLink RX2 90 "NetPoints$Picture" "receipts" "[[I", Cond.fieldLink RX2 30 "NetPoints" "yearOfNow" "I", Cond.methodLink RX2 34 yX2_requirePicture, Cond.static yX2_requirePicture, Cond.code yX2_requirePicture cX2_requirePicture 1 none, Cond.classLink RX2 148 "java/lang/IndexOutOfBoundsException", Cond.initialized "java/lang/IndexOutOfBoundsException", Cond.methodLink RX2 55 yX2_requireWindow, Cond.static yX2_requireWindow, Cond.code yX2_requireWindow cX2_requireWindow 1 none, Cond.methodLink RX2 38 yX2_requireRange, Cond.static yX2_requireRange, Cond.code yX2_requireRange cX2_requireRange 3 none, Cond.classLink RX2 155 "java/lang/IllegalArgumentException", Cond.initialized "java/lang/IllegalArgumentException", Cond.methodLink RX2 42 yX2_pictureOf]
def wsL_receive_r2 : List Cond := [Cond.instanceMethod yX2_pictureOf, Cond.selects RX2 yX2_pictureOf yX2_pictureOf, Cond.code yX2_pictureOf cX2_pictureOf 2 (some (.object "NetPoints$Picture")), Cond.fieldLink RX2 10 "NetPoints" "picture0" "LNetPoints$Picture;", Cond.fieldLink RX2 16 "NetPoints" "picture1" "LNetPoints$Picture;"]
def wsL_receive : List Cond := .codeWith yL_receive cL_receive 6 (some .int) [(0, 12, 15, 13), (0, 12, 19, 15)] :: ((wsL_receive_r1 ++ wsL_receive_r2) ++ wsX00 ++ wsX20 ++ (vx_atS RX2 152 "java/lang/IndexOutOfBoundsException" ["java/lang/RuntimeException", "java/lang/Exception"]).filter goodWord ++ (vx_atS RX2 159 "java/lang/IllegalArgumentException" ["java/lang/RuntimeException", "java/lang/Exception"]).filter goodWord)
def wsL_spend_r1 : List Cond := [Cond.classLink RL 13 "java/lang/IndexOutOfBoundsException", Cond.classLink RL 15 "java/lang/IllegalArgumentException", Cond.methodLink RL 30 yX2_spend, Cond.instanceMethod yX2_spend, Cond.selects RX2 yX2_spend yX2_spend, Cond.initialized RX2, Cond.code yX2_spend cX2_spend 4 (some .int), Cond.constant RX2 89 (200000), Cond.fieldLink RX2 94 "NetPoints$Picture" "costs" "[I", Cond.fieldLink RX2 30 "NetPoints" "yearOfNow" "I", Cond.methodLink RX2 34 yX2_requirePicture, Cond.static yX2_requirePicture, Cond.code yX2_requirePicture cX2_requirePicture 1 none, Cond.classLink RX2 148 "java/lang/IndexOutOfBoundsException", Cond.initialized "java/lang/IndexOutOfBoundsException", Cond.methodLink RX2 38 yX2_requireRange, Cond.static yX2_requireRange, Cond.code yX2_requireRange cX2_requireRange 3 none, Cond.classLink RX2 155 "java/lang/IllegalArgumentException", Cond.initialized "java/lang/IllegalArgumentException", Cond.methodLink RX2 42 yX2_pictureOf, Cond.instanceMethod yX2_pictureOf, Cond.selects RX2 yX2_pictureOf yX2_pictureOf, Cond.code yX2_pictureOf cX2_pictureOf 2 (some (.object "NetPoints$Picture"))]
def wsL_spend_r2 : List Cond := [Cond.fieldLink RX2 10 "NetPoints" "picture0" "LNetPoints$Picture;", Cond.fieldLink RX2 16 "NetPoints" "picture1" "LNetPoints$Picture;"]
def wsL_spend : List Cond := .codeWith yL_spend cL_spend 5 (some .int) [(0, 10, 13, 13), (0, 10, 17, 15)] :: ((wsL_spend_r1 ++ wsL_spend_r2) ++ wsX00 ++ wsX20 ++ (vx_atS RX2 152 "java/lang/IndexOutOfBoundsException" ["java/lang/RuntimeException", "java/lang/Exception"]).filter goodWord ++ (vx_atS RX2 159 "java/lang/IllegalArgumentException" ["java/lang/RuntimeException", "java/lang/Exception"]).filter goodWord)
def wsL_audit_r1 : List Cond := [Cond.classLink RL 13 "java/lang/IndexOutOfBoundsException", Cond.classLink RL 15 "java/lang/IllegalArgumentException", Cond.classLink RL 25 "java/lang/IllegalStateException", Cond.methodLink RL 34 yX2_audit, Cond.instanceMethod yX2_audit, Cond.selects RX2 yX2_audit yX2_audit, Cond.initialized RX2, Cond.code yX2_audit cX2_audit 7 (some .int), Cond.constant RX2 97 (1000000), Cond.fieldLink RX2 90 "NetPoints$Picture" "receipts" "[[I", Cond.methodLink RX2 34 yX2_requirePicture, Cond.static yX2_requirePicture, Cond.code yX2_requirePicture cX2_requirePicture 1 none, Cond.classLink RX2 148 "java/lang/IndexOutOfBoundsException", Cond.initialized "java/lang/IndexOutOfBoundsException", Cond.methodLink RX2 55 yX2_requireWindow, Cond.static yX2_requireWindow, Cond.code yX2_requireWindow cX2_requireWindow 1 none, Cond.methodLink RX2 38 yX2_requireRange, Cond.static yX2_requireRange, Cond.code yX2_requireRange cX2_requireRange 3 none, Cond.classLink RX2 155 "java/lang/IllegalArgumentException", Cond.initialized "java/lang/IllegalArgumentException", Cond.methodLink RX2 98 yX2_requireOpenToAudit]
def wsL_audit_r2 : List Cond := [Cond.instanceMethod yX2_requireOpenToAudit, Cond.selects RX2 yX2_requireOpenToAudit yX2_requireOpenToAudit, Cond.code yX2_requireOpenToAudit cX2_requireOpenToAudit 2 none, Cond.classLink RX2 101 "java/lang/IllegalStateException", Cond.initialized "java/lang/IllegalStateException", Cond.fieldLink RX2 30 "NetPoints" "yearOfNow" "I", Cond.methodLink RX2 42 yX2_pictureOf, Cond.instanceMethod yX2_pictureOf, Cond.selects RX2 yX2_pictureOf yX2_pictureOf, Cond.code yX2_pictureOf cX2_pictureOf 2 (some (.object "NetPoints$Picture")), Cond.fieldLink RX2 10 "NetPoints" "picture0" "LNetPoints$Picture;", Cond.fieldLink RX2 16 "NetPoints" "picture1" "LNetPoints$Picture;"]
def wsL_audit : List Cond := .codeWith yL_audit cL_audit 7 (some .int) [(0, 14, 17, 13), (0, 14, 21, 15), (0, 14, 25, 25)] :: ((wsL_audit_r1 ++ wsL_audit_r2) ++ wsX00 ++ wsX20 ++ (vx_atS RX2 152 "java/lang/IndexOutOfBoundsException" ["java/lang/RuntimeException", "java/lang/Exception"]).filter goodWord ++ (vx_atS RX2 159 "java/lang/IllegalArgumentException" ["java/lang/RuntimeException", "java/lang/Exception"]).filter goodWord ++ (vx_atS RX2 105 "java/lang/IllegalStateException" ["java/lang/RuntimeException", "java/lang/Exception"]).filter goodWord)
def wsL_closeYear : List Cond := .codeWith yL_closeYear cL_closeYear 3 (some .int) [(0, 8, 11, 25)] :: ([.classLink RL 25 "java/lang/IllegalStateException", .methodLink RL 38 yX2_closeYear, .instanceMethod yX2_closeYear, .selects RX2 yX2_closeYear yX2_closeYear, .initialized RX2, .code yX2_closeYear cX2_closeYear 1 (some .int), .classLink RX2 101 "java/lang/IllegalStateException", .initialized "java/lang/IllegalStateException", .fieldLink RX2 30 "NetPoints" "yearOfNow" "I"] ++ wsX20 ++ (vx_atS RX2 105 "java/lang/IllegalStateException" ["java/lang/RuntimeException", "java/lang/Exception"]).filter goodWord)
def wsL_pay_r1 : List Cond := [Cond.classLink RL 13 "java/lang/IndexOutOfBoundsException", Cond.classLink RL 25 "java/lang/IllegalStateException", Cond.methodLink RL 42 yX2_pay, Cond.instanceMethod yX2_pay, Cond.selects RX2 yX2_pay yX2_pay, Cond.initialized RX2, Cond.code yX2_pay cX2_pay 5 (some .int), Cond.classLink RX2 101 "java/lang/IllegalStateException", Cond.initialized "java/lang/IllegalStateException", Cond.fieldLink RX2 22 "NetPoints" "allSharers" "Ljava/util/ArrayList;", Cond.classLink RX2 73 "NetPoints$Sharer", Cond.fieldLink RX2 119 "NetPoints$Sharer" "paidSoFar" "J", Cond.methodLink RX2 108 yX2_requireSharer, Cond.instanceMethod yX2_requireSharer, Cond.selects RX2 yX2_requireSharer yX2_requireSharer, Cond.code yX2_requireSharer cX2_requireSharer 2 none, Cond.classLink RX2 148 "java/lang/IndexOutOfBoundsException", Cond.initialized "java/lang/IndexOutOfBoundsException", Cond.methodLink RX2 78 yJx4a65c_size_8abf5, Cond.instanceMethod yJx4a65c_size_8abf5, Cond.selects RJx4a65c yJx4a65c_size_8abf5 yJx4a65c_size_8abf5, Cond.initialized RJx4a65c, Cond.code yJx4a65c_size_8abf5 cJx4a65c_size_8abf5 1 (some .int), Cond.fieldLink RJx4a65c 48 "java/util/ArrayList" "size" "I"]
def wsL_pay_r2 : List Cond := [Cond.methodLink RX2 111 yJx4a65c_get_915e3, Cond.instanceMethod yJx4a65c_get_915e3, Cond.selects RJx4a65c yJx4a65c_get_915e3 yJx4a65c_get_915e3, Cond.code yJx4a65c_get_915e3 cJx4a65c_get_915e3 2 (some (.object "java/lang/Object")), Cond.methodLink RJx4a65c 118 yJ15_checkIndex_7cf53, Cond.static yJ15_checkIndex_7cf53, Cond.initialized RJ15, Cond.code yJ15_checkIndex_7cf53 cJ15_checkIndex_7cf53 2 (some .int), Cond.methodLink RJ15 105 yJ3_checkIndex_8e157, Cond.static yJ3_checkIndex_8e157, Cond.initialized RJ3, Cond.code yJ3_checkIndex_8e157 cJ3_checkIndex_8e157 3 (some .int), Cond.methodLink RJx4a65c 123 yJx4a65c_elementData_915e3, Cond.instanceMethod yJx4a65c_elementData_915e3, Cond.selects RJx4a65c yJx4a65c_elementData_915e3 yJx4a65c_elementData_915e3, Cond.code yJx4a65c_elementData_915e3 cJx4a65c_elementData_915e3 2 (some (.object "java/lang/Object")), Cond.fieldLink RJx4a65c 9 "java/util/ArrayList" "elementData" "[Ljava/lang/Object;", Cond.methodLink RX2 115 yX2_drawnSum, Cond.instanceMethod yX2_drawnSum, Cond.selects RX2 yX2_drawnSum yX2_drawnSum, Cond.code yX2_drawnSum cX2_drawnSum 2 (some .long), Cond.fieldLink RX2 171 "NetPoints$Sharer" "picture" "LNetPoints$Picture;", Cond.methodLink RX2 125 yX2_drawBooks, Cond.instanceMethod yX2_drawBooks]
def wsL_pay_r3 : List Cond := [Cond.selects RX2 yX2_drawBooks yX2_drawBooks, Cond.code yX2_drawBooks cX2_drawBooks 6 none, Cond.fieldLink RX2 10 "NetPoints" "picture0" "LNetPoints$Picture;", Cond.fieldLink RX2 16 "NetPoints" "picture1" "LNetPoints$Picture;", Cond.fieldLink RX2 30 "NetPoints" "yearOfNow" "I", Cond.fieldLink RX2 26 "NetPoints" "crossed" "Z", Cond.methodLink RX2 177 yX0_startBooks, Cond.instanceMethod yX0_startBooks, Cond.selects RX0 yX0_startBooks yX0_startBooks, Cond.initialized RX0, Cond.code yX0_startBooks cX0_startBooks 1 none, Cond.fieldLink RX0 63 "NetPoints$Picture" "grossSoFar" "J", Cond.fieldLink RX0 67 "NetPoints$Picture" "adjustedSoFar" "J", Cond.fieldLink RX0 70 "NetPoints$Picture" "feesSoFar" "J", Cond.fieldLink RX0 73 "NetPoints$Picture" "sharesSoFar" "J", Cond.fieldLink RX0 76 "NetPoints$Picture" "balanceSoFar" "J", Cond.fieldLink RX0 79 "NetPoints$Picture" "profitSoFar" "J", Cond.methodLink RX2 180 yX0_recoup, Cond.instanceMethod yX0_recoup, Cond.selects RX0 yX0_recoup yX0_recoup, Cond.code yX0_recoup cX0_recoup 12 (some .long), Cond.fieldLink RX0 86 "NetPoints$Picture" "topRate" "I", Cond.fieldLink RX0 16 "NetPoints$Picture" "costs" "[I", Cond.fieldLink RX0 100 "NetPoints$Picture" "overheadRate" "I"]
def wsL_pay_r4 : List Cond := [Cond.methodLink RX0 82 yX0_grossIn, Cond.instanceMethod yX0_grossIn, Cond.selects RX0 yX0_grossIn yX0_grossIn, Cond.code yX0_grossIn cX0_grossIn 5 (some .long), Cond.fieldLink RX0 11 "NetPoints$Picture" "receipts" "[[I", Cond.static yX2_part, Cond.code yX2_part cX2_part 3 (some .long), Cond.constantLong RX2 191 (10000), Cond.methodLink RX0 93 yX0_feesIn, Cond.instanceMethod yX0_feesIn, Cond.selects RX0 yX0_feesIn yX0_feesIn, Cond.code yX0_feesIn cX0_feesIn 5 (some .long), Cond.fieldLink RX0 20 "NetPoints$Picture" "feeRates" "[I", Cond.methodLink RX0 96 yX0_sharesThatAreCosts, Cond.instanceMethod yX0_sharesThatAreCosts, Cond.selects RX0 yX0_sharesThatAreCosts yX0_sharesThatAreCosts, Cond.code yX0_sharesThatAreCosts cX0_sharesThatAreCosts 5 (some .long), Cond.fieldLink RX0 26 "NetPoints$Picture" "sharers" "Ljava/util/ArrayList;", Cond.classLink RX0 45 "NetPoints$Sharer", Cond.fieldLink RX0 47 "NetPoints$Sharer" "kind" "I", Cond.methodLink RX0 37 yJx4a65c_size_8abf5, Cond.methodLink RX0 41 yJx4a65c_get_915e3, Cond.methodLink RX0 110 yX1_shareOf, Cond.instanceMethod yX1_shareOf]
def wsL_pay_r5 : List Cond := [Cond.selects RX1 yX1_shareOf yX1_shareOf, Cond.initialized RX1, Cond.code yX1_shareOf cX1_shareOf 7 (some .long), Cond.fieldLink RX1 22 "NetPoints$Sharer" "limit" "I", Cond.methodLink RX1 31 Lib.MathLoose.min_long.x, Cond.static Lib.MathLoose.min_long.x, Cond.initialized "java/lang/Math", Cond.code Lib.MathLoose.min_long.x Lib.MathLoose.min_long.code 4 (some .long), Cond.fieldLink RX1 25 "NetPoints$Sharer" "first" "I", Cond.fieldLink RX1 28 "NetPoints$Sharer" "second" "I", Cond.constantLong RX1 37 (10000), Cond.methodLink RX0 126 yX1_bonusAt, Cond.instanceMethod yX1_bonusAt, Cond.selects RX1 yX1_bonusAt yX1_bonusAt, Cond.code yX1_bonusAt cX1_bonusAt 3 (some .long), Cond.constantLong RX1 39 (100), Cond.methodLink RX2 184 yX0_moveGain, Cond.instanceMethod yX0_moveGain, Cond.selects RX0 yX0_moveGain yX0_moveGain, Cond.code yX0_moveGain cX0_moveGain 6 none, Cond.methodLink RX0 103 Lib.MathLoose.min_long.x, Cond.methodLink RX2 188 yX0_finishYear, Cond.instanceMethod yX0_finishYear, Cond.selects RX0 yX0_finishYear yX0_finishYear]
def wsL_pay_r6 : List Cond := [Cond.code yX0_finishYear cX0_finishYear 2 none, Cond.fieldLink RX0 107 "NetPoints$Picture" "interestRate" "I", Cond.fieldLink RX0 30 "NetPoints$Picture" "balances" "[J", Cond.fieldLink RX0 34 "NetPoints$Picture" "profits" "[J", Cond.methodLink RX2 174 yX0_sumDrawn, Cond.instanceMethod yX0_sumDrawn, Cond.selects RX0 yX0_sumDrawn yX0_sumDrawn, Cond.code yX0_sumDrawn cX0_sumDrawn 2 (some .long), Cond.fieldLink RX0 117 "NetPoints$Sharer" "limit" "I", Cond.fieldLink RX0 120 "NetPoints$Sharer" "turn" "I", Cond.methodLink RX0 114 yX0_poolDrawn, Cond.instanceMethod yX0_poolDrawn, Cond.selects RX0 yX0_poolDrawn yX0_poolDrawn, Cond.code yX0_poolDrawn cX0_poolDrawn 1 (some .long), Cond.methodLink RX0 123 yX0_profitLeftAt, Cond.instanceMethod yX0_profitLeftAt, Cond.selects RX0 yX0_profitLeftAt yX0_profitLeftAt, Cond.code yX0_profitLeftAt cX0_profitLeftAt 6 (some .long)]
def wsL_pay : List Cond := .codeWith yL_pay cL_pay 4 (some .int) [(0, 9, 12, 13), (0, 9, 15, 25)] :: ((wsL_pay_r1 ++ (wsL_pay_r2 ++ (wsL_pay_r3 ++ (wsL_pay_r4 ++ (wsL_pay_r5 ++ wsL_pay_r6))))) ++ wsX20 ++ wsX10 ++ wsJx4a65c0 ++ wsX00 ++ (vx_atS RX2 105 "java/lang/IllegalStateException" ["java/lang/RuntimeException", "java/lang/Exception"]).filter goodWord ++ (vx_atS RX2 152 "java/lang/IndexOutOfBoundsException" ["java/lang/RuntimeException", "java/lang/Exception"]).filter goodWord)
def wsL_gross_r1 : List Cond := [Cond.classLink RL 13 "java/lang/IndexOutOfBoundsException", Cond.methodLink RL 46 yX2_gross, Cond.instanceMethod yX2_gross, Cond.selects RX2 yX2_gross yX2_gross, Cond.initialized RX2, Cond.code yX2_gross cX2_gross 2 (some .int), Cond.fieldLink RX2 128 "NetPoints$Picture" "grossSoFar" "J", Cond.methodLink RX2 34 yX2_requirePicture, Cond.static yX2_requirePicture, Cond.code yX2_requirePicture cX2_requirePicture 1 none, Cond.classLink RX2 148 "java/lang/IndexOutOfBoundsException", Cond.initialized "java/lang/IndexOutOfBoundsException", Cond.methodLink RX2 125 yX2_drawBooks, Cond.instanceMethod yX2_drawBooks, Cond.selects RX2 yX2_drawBooks yX2_drawBooks, Cond.code yX2_drawBooks cX2_drawBooks 6 none, Cond.fieldLink RX2 10 "NetPoints" "picture0" "LNetPoints$Picture;", Cond.fieldLink RX2 16 "NetPoints" "picture1" "LNetPoints$Picture;", Cond.fieldLink RX2 30 "NetPoints" "yearOfNow" "I", Cond.fieldLink RX2 26 "NetPoints" "crossed" "Z", Cond.methodLink RX2 177 yX0_startBooks, Cond.instanceMethod yX0_startBooks, Cond.selects RX0 yX0_startBooks yX0_startBooks, Cond.initialized RX0]
def wsL_gross_r2 : List Cond := [Cond.code yX0_startBooks cX0_startBooks 1 none, Cond.fieldLink RX0 63 "NetPoints$Picture" "grossSoFar" "J", Cond.fieldLink RX0 67 "NetPoints$Picture" "adjustedSoFar" "J", Cond.fieldLink RX0 70 "NetPoints$Picture" "feesSoFar" "J", Cond.fieldLink RX0 73 "NetPoints$Picture" "sharesSoFar" "J", Cond.fieldLink RX0 76 "NetPoints$Picture" "balanceSoFar" "J", Cond.fieldLink RX0 79 "NetPoints$Picture" "profitSoFar" "J", Cond.methodLink RX2 180 yX0_recoup, Cond.instanceMethod yX0_recoup, Cond.selects RX0 yX0_recoup yX0_recoup, Cond.code yX0_recoup cX0_recoup 12 (some .long), Cond.fieldLink RX0 86 "NetPoints$Picture" "topRate" "I", Cond.fieldLink RX0 16 "NetPoints$Picture" "costs" "[I", Cond.fieldLink RX0 100 "NetPoints$Picture" "overheadRate" "I", Cond.methodLink RX0 82 yX0_grossIn, Cond.instanceMethod yX0_grossIn, Cond.selects RX0 yX0_grossIn yX0_grossIn, Cond.code yX0_grossIn cX0_grossIn 5 (some .long), Cond.fieldLink RX0 11 "NetPoints$Picture" "receipts" "[[I", Cond.static yX2_part, Cond.code yX2_part cX2_part 3 (some .long), Cond.constantLong RX2 191 (10000), Cond.methodLink RX0 93 yX0_feesIn, Cond.instanceMethod yX0_feesIn]
def wsL_gross_r3 : List Cond := [Cond.selects RX0 yX0_feesIn yX0_feesIn, Cond.code yX0_feesIn cX0_feesIn 5 (some .long), Cond.fieldLink RX0 20 "NetPoints$Picture" "feeRates" "[I", Cond.methodLink RX0 96 yX0_sharesThatAreCosts, Cond.instanceMethod yX0_sharesThatAreCosts, Cond.selects RX0 yX0_sharesThatAreCosts yX0_sharesThatAreCosts, Cond.code yX0_sharesThatAreCosts cX0_sharesThatAreCosts 5 (some .long), Cond.fieldLink RX0 26 "NetPoints$Picture" "sharers" "Ljava/util/ArrayList;", Cond.classLink RX0 45 "NetPoints$Sharer", Cond.fieldLink RX0 47 "NetPoints$Sharer" "kind" "I", Cond.methodLink RX0 37 yJx4a65c_size_8abf5, Cond.instanceMethod yJx4a65c_size_8abf5, Cond.selects RJx4a65c yJx4a65c_size_8abf5 yJx4a65c_size_8abf5, Cond.initialized RJx4a65c, Cond.code yJx4a65c_size_8abf5 cJx4a65c_size_8abf5 1 (some .int), Cond.fieldLink RJx4a65c 48 "java/util/ArrayList" "size" "I", Cond.methodLink RX0 41 yJx4a65c_get_915e3, Cond.instanceMethod yJx4a65c_get_915e3, Cond.selects RJx4a65c yJx4a65c_get_915e3 yJx4a65c_get_915e3, Cond.code yJx4a65c_get_915e3 cJx4a65c_get_915e3 2 (some (.object "java/lang/Object")), Cond.methodLink RJx4a65c 118 yJ15_checkIndex_7cf53, Cond.static yJ15_checkIndex_7cf53, Cond.initialized RJ15, Cond.code yJ15_checkIndex_7cf53 cJ15_checkIndex_7cf53 2 (some .int)]
def wsL_gross_r4 : List Cond := [Cond.methodLink RJ15 105 yJ3_checkIndex_8e157, Cond.static yJ3_checkIndex_8e157, Cond.initialized RJ3, Cond.code yJ3_checkIndex_8e157 cJ3_checkIndex_8e157 3 (some .int), Cond.methodLink RJx4a65c 123 yJx4a65c_elementData_915e3, Cond.instanceMethod yJx4a65c_elementData_915e3, Cond.selects RJx4a65c yJx4a65c_elementData_915e3 yJx4a65c_elementData_915e3, Cond.code yJx4a65c_elementData_915e3 cJx4a65c_elementData_915e3 2 (some (.object "java/lang/Object")), Cond.fieldLink RJx4a65c 9 "java/util/ArrayList" "elementData" "[Ljava/lang/Object;", Cond.methodLink RX0 110 yX1_shareOf, Cond.instanceMethod yX1_shareOf, Cond.selects RX1 yX1_shareOf yX1_shareOf, Cond.initialized RX1, Cond.code yX1_shareOf cX1_shareOf 7 (some .long), Cond.fieldLink RX1 22 "NetPoints$Sharer" "limit" "I", Cond.methodLink RX1 31 Lib.MathLoose.min_long.x, Cond.static Lib.MathLoose.min_long.x, Cond.initialized "java/lang/Math", Cond.code Lib.MathLoose.min_long.x Lib.MathLoose.min_long.code 4 (some .long), Cond.fieldLink RX1 25 "NetPoints$Sharer" "first" "I", Cond.fieldLink RX1 28 "NetPoints$Sharer" "second" "I", Cond.constantLong RX1 37 (10000), Cond.methodLink RX0 126 yX1_bonusAt, Cond.instanceMethod yX1_bonusAt]
def wsL_gross_r5 : List Cond := [Cond.selects RX1 yX1_bonusAt yX1_bonusAt, Cond.code yX1_bonusAt cX1_bonusAt 3 (some .long), Cond.constantLong RX1 39 (100), Cond.methodLink RX2 184 yX0_moveGain, Cond.instanceMethod yX0_moveGain, Cond.selects RX0 yX0_moveGain yX0_moveGain, Cond.code yX0_moveGain cX0_moveGain 6 none, Cond.methodLink RX0 103 Lib.MathLoose.min_long.x, Cond.methodLink RX2 188 yX0_finishYear, Cond.instanceMethod yX0_finishYear, Cond.selects RX0 yX0_finishYear yX0_finishYear, Cond.code yX0_finishYear cX0_finishYear 2 none, Cond.fieldLink RX0 107 "NetPoints$Picture" "interestRate" "I", Cond.fieldLink RX0 30 "NetPoints$Picture" "balances" "[J", Cond.fieldLink RX0 34 "NetPoints$Picture" "profits" "[J", Cond.methodLink RX2 42 yX2_pictureOf, Cond.instanceMethod yX2_pictureOf, Cond.selects RX2 yX2_pictureOf yX2_pictureOf, Cond.code yX2_pictureOf cX2_pictureOf 2 (some (.object "NetPoints$Picture"))]
def wsL_gross : List Cond := .codeWith yL_gross cL_gross 4 (some .int) [(0, 9, 12, 13)] :: ((wsL_gross_r1 ++ (wsL_gross_r2 ++ (wsL_gross_r3 ++ (wsL_gross_r4 ++ wsL_gross_r5)))) ++ wsX00 ++ wsX20 ++ wsX10 ++ wsJx4a65c0 ++ (vx_atS RX2 152 "java/lang/IndexOutOfBoundsException" ["java/lang/RuntimeException", "java/lang/Exception"]).filter goodWord)
def wsL_adjusted_r1 : List Cond := [Cond.classLink RL 13 "java/lang/IndexOutOfBoundsException", Cond.methodLink RL 49 yX2_adjusted, Cond.instanceMethod yX2_adjusted, Cond.selects RX2 yX2_adjusted yX2_adjusted, Cond.initialized RX2, Cond.code yX2_adjusted cX2_adjusted 2 (some .int), Cond.fieldLink RX2 131 "NetPoints$Picture" "adjustedSoFar" "J", Cond.methodLink RX2 34 yX2_requirePicture, Cond.static yX2_requirePicture, Cond.code yX2_requirePicture cX2_requirePicture 1 none, Cond.classLink RX2 148 "java/lang/IndexOutOfBoundsException", Cond.initialized "java/lang/IndexOutOfBoundsException", Cond.methodLink RX2 125 yX2_drawBooks, Cond.instanceMethod yX2_drawBooks, Cond.selects RX2 yX2_drawBooks yX2_drawBooks, Cond.code yX2_drawBooks cX2_drawBooks 6 none, Cond.fieldLink RX2 10 "NetPoints" "picture0" "LNetPoints$Picture;", Cond.fieldLink RX2 16 "NetPoints" "picture1" "LNetPoints$Picture;", Cond.fieldLink RX2 30 "NetPoints" "yearOfNow" "I", Cond.fieldLink RX2 26 "NetPoints" "crossed" "Z", Cond.methodLink RX2 177 yX0_startBooks, Cond.instanceMethod yX0_startBooks, Cond.selects RX0 yX0_startBooks yX0_startBooks, Cond.initialized RX0]
def wsL_adjusted_r2 : List Cond := [Cond.code yX0_startBooks cX0_startBooks 1 none, Cond.fieldLink RX0 63 "NetPoints$Picture" "grossSoFar" "J", Cond.fieldLink RX0 67 "NetPoints$Picture" "adjustedSoFar" "J", Cond.fieldLink RX0 70 "NetPoints$Picture" "feesSoFar" "J", Cond.fieldLink RX0 73 "NetPoints$Picture" "sharesSoFar" "J", Cond.fieldLink RX0 76 "NetPoints$Picture" "balanceSoFar" "J", Cond.fieldLink RX0 79 "NetPoints$Picture" "profitSoFar" "J", Cond.methodLink RX2 180 yX0_recoup, Cond.instanceMethod yX0_recoup, Cond.selects RX0 yX0_recoup yX0_recoup, Cond.code yX0_recoup cX0_recoup 12 (some .long), Cond.fieldLink RX0 86 "NetPoints$Picture" "topRate" "I", Cond.fieldLink RX0 16 "NetPoints$Picture" "costs" "[I", Cond.fieldLink RX0 100 "NetPoints$Picture" "overheadRate" "I", Cond.methodLink RX0 82 yX0_grossIn, Cond.instanceMethod yX0_grossIn, Cond.selects RX0 yX0_grossIn yX0_grossIn, Cond.code yX0_grossIn cX0_grossIn 5 (some .long), Cond.fieldLink RX0 11 "NetPoints$Picture" "receipts" "[[I", Cond.static yX2_part, Cond.code yX2_part cX2_part 3 (some .long), Cond.constantLong RX2 191 (10000), Cond.methodLink RX0 93 yX0_feesIn, Cond.instanceMethod yX0_feesIn]
def wsL_adjusted_r3 : List Cond := [Cond.selects RX0 yX0_feesIn yX0_feesIn, Cond.code yX0_feesIn cX0_feesIn 5 (some .long), Cond.fieldLink RX0 20 "NetPoints$Picture" "feeRates" "[I", Cond.methodLink RX0 96 yX0_sharesThatAreCosts, Cond.instanceMethod yX0_sharesThatAreCosts, Cond.selects RX0 yX0_sharesThatAreCosts yX0_sharesThatAreCosts, Cond.code yX0_sharesThatAreCosts cX0_sharesThatAreCosts 5 (some .long), Cond.fieldLink RX0 26 "NetPoints$Picture" "sharers" "Ljava/util/ArrayList;", Cond.classLink RX0 45 "NetPoints$Sharer", Cond.fieldLink RX0 47 "NetPoints$Sharer" "kind" "I", Cond.methodLink RX0 37 yJx4a65c_size_8abf5, Cond.instanceMethod yJx4a65c_size_8abf5, Cond.selects RJx4a65c yJx4a65c_size_8abf5 yJx4a65c_size_8abf5, Cond.initialized RJx4a65c, Cond.code yJx4a65c_size_8abf5 cJx4a65c_size_8abf5 1 (some .int), Cond.fieldLink RJx4a65c 48 "java/util/ArrayList" "size" "I", Cond.methodLink RX0 41 yJx4a65c_get_915e3, Cond.instanceMethod yJx4a65c_get_915e3, Cond.selects RJx4a65c yJx4a65c_get_915e3 yJx4a65c_get_915e3, Cond.code yJx4a65c_get_915e3 cJx4a65c_get_915e3 2 (some (.object "java/lang/Object")), Cond.methodLink RJx4a65c 118 yJ15_checkIndex_7cf53, Cond.static yJ15_checkIndex_7cf53, Cond.initialized RJ15, Cond.code yJ15_checkIndex_7cf53 cJ15_checkIndex_7cf53 2 (some .int)]
def wsL_adjusted_r4 : List Cond := [Cond.methodLink RJ15 105 yJ3_checkIndex_8e157, Cond.static yJ3_checkIndex_8e157, Cond.initialized RJ3, Cond.code yJ3_checkIndex_8e157 cJ3_checkIndex_8e157 3 (some .int), Cond.methodLink RJx4a65c 123 yJx4a65c_elementData_915e3, Cond.instanceMethod yJx4a65c_elementData_915e3, Cond.selects RJx4a65c yJx4a65c_elementData_915e3 yJx4a65c_elementData_915e3, Cond.code yJx4a65c_elementData_915e3 cJx4a65c_elementData_915e3 2 (some (.object "java/lang/Object")), Cond.fieldLink RJx4a65c 9 "java/util/ArrayList" "elementData" "[Ljava/lang/Object;", Cond.methodLink RX0 110 yX1_shareOf, Cond.instanceMethod yX1_shareOf, Cond.selects RX1 yX1_shareOf yX1_shareOf, Cond.initialized RX1, Cond.code yX1_shareOf cX1_shareOf 7 (some .long), Cond.fieldLink RX1 22 "NetPoints$Sharer" "limit" "I", Cond.methodLink RX1 31 Lib.MathLoose.min_long.x, Cond.static Lib.MathLoose.min_long.x, Cond.initialized "java/lang/Math", Cond.code Lib.MathLoose.min_long.x Lib.MathLoose.min_long.code 4 (some .long), Cond.fieldLink RX1 25 "NetPoints$Sharer" "first" "I", Cond.fieldLink RX1 28 "NetPoints$Sharer" "second" "I", Cond.constantLong RX1 37 (10000), Cond.methodLink RX0 126 yX1_bonusAt, Cond.instanceMethod yX1_bonusAt]
def wsL_adjusted_r5 : List Cond := [Cond.selects RX1 yX1_bonusAt yX1_bonusAt, Cond.code yX1_bonusAt cX1_bonusAt 3 (some .long), Cond.constantLong RX1 39 (100), Cond.methodLink RX2 184 yX0_moveGain, Cond.instanceMethod yX0_moveGain, Cond.selects RX0 yX0_moveGain yX0_moveGain, Cond.code yX0_moveGain cX0_moveGain 6 none, Cond.methodLink RX0 103 Lib.MathLoose.min_long.x, Cond.methodLink RX2 188 yX0_finishYear, Cond.instanceMethod yX0_finishYear, Cond.selects RX0 yX0_finishYear yX0_finishYear, Cond.code yX0_finishYear cX0_finishYear 2 none, Cond.fieldLink RX0 107 "NetPoints$Picture" "interestRate" "I", Cond.fieldLink RX0 30 "NetPoints$Picture" "balances" "[J", Cond.fieldLink RX0 34 "NetPoints$Picture" "profits" "[J", Cond.methodLink RX2 42 yX2_pictureOf, Cond.instanceMethod yX2_pictureOf, Cond.selects RX2 yX2_pictureOf yX2_pictureOf, Cond.code yX2_pictureOf cX2_pictureOf 2 (some (.object "NetPoints$Picture"))]
def wsL_adjusted : List Cond := .codeWith yL_adjusted cL_adjusted 4 (some .int) [(0, 9, 12, 13)] :: ((wsL_adjusted_r1 ++ (wsL_adjusted_r2 ++ (wsL_adjusted_r3 ++ (wsL_adjusted_r4 ++ wsL_adjusted_r5)))) ++ wsX00 ++ wsX20 ++ wsX10 ++ wsJx4a65c0 ++ (vx_atS RX2 152 "java/lang/IndexOutOfBoundsException" ["java/lang/RuntimeException", "java/lang/Exception"]).filter goodWord)
def wsL_fees_r1 : List Cond := [Cond.classLink RL 13 "java/lang/IndexOutOfBoundsException", Cond.methodLink RL 52 yX2_fees, Cond.instanceMethod yX2_fees, Cond.selects RX2 yX2_fees yX2_fees, Cond.initialized RX2, Cond.code yX2_fees cX2_fees 2 (some .int), Cond.fieldLink RX2 134 "NetPoints$Picture" "feesSoFar" "J", Cond.methodLink RX2 34 yX2_requirePicture, Cond.static yX2_requirePicture, Cond.code yX2_requirePicture cX2_requirePicture 1 none, Cond.classLink RX2 148 "java/lang/IndexOutOfBoundsException", Cond.initialized "java/lang/IndexOutOfBoundsException", Cond.methodLink RX2 125 yX2_drawBooks, Cond.instanceMethod yX2_drawBooks, Cond.selects RX2 yX2_drawBooks yX2_drawBooks, Cond.code yX2_drawBooks cX2_drawBooks 6 none, Cond.fieldLink RX2 10 "NetPoints" "picture0" "LNetPoints$Picture;", Cond.fieldLink RX2 16 "NetPoints" "picture1" "LNetPoints$Picture;", Cond.fieldLink RX2 30 "NetPoints" "yearOfNow" "I", Cond.fieldLink RX2 26 "NetPoints" "crossed" "Z", Cond.methodLink RX2 177 yX0_startBooks, Cond.instanceMethod yX0_startBooks, Cond.selects RX0 yX0_startBooks yX0_startBooks, Cond.initialized RX0]
def wsL_fees_r2 : List Cond := [Cond.code yX0_startBooks cX0_startBooks 1 none, Cond.fieldLink RX0 63 "NetPoints$Picture" "grossSoFar" "J", Cond.fieldLink RX0 67 "NetPoints$Picture" "adjustedSoFar" "J", Cond.fieldLink RX0 70 "NetPoints$Picture" "feesSoFar" "J", Cond.fieldLink RX0 73 "NetPoints$Picture" "sharesSoFar" "J", Cond.fieldLink RX0 76 "NetPoints$Picture" "balanceSoFar" "J", Cond.fieldLink RX0 79 "NetPoints$Picture" "profitSoFar" "J", Cond.methodLink RX2 180 yX0_recoup, Cond.instanceMethod yX0_recoup, Cond.selects RX0 yX0_recoup yX0_recoup, Cond.code yX0_recoup cX0_recoup 12 (some .long), Cond.fieldLink RX0 86 "NetPoints$Picture" "topRate" "I", Cond.fieldLink RX0 16 "NetPoints$Picture" "costs" "[I", Cond.fieldLink RX0 100 "NetPoints$Picture" "overheadRate" "I", Cond.methodLink RX0 82 yX0_grossIn, Cond.instanceMethod yX0_grossIn, Cond.selects RX0 yX0_grossIn yX0_grossIn, Cond.code yX0_grossIn cX0_grossIn 5 (some .long), Cond.fieldLink RX0 11 "NetPoints$Picture" "receipts" "[[I", Cond.static yX2_part, Cond.code yX2_part cX2_part 3 (some .long), Cond.constantLong RX2 191 (10000), Cond.methodLink RX0 93 yX0_feesIn, Cond.instanceMethod yX0_feesIn]
def wsL_fees_r3 : List Cond := [Cond.selects RX0 yX0_feesIn yX0_feesIn, Cond.code yX0_feesIn cX0_feesIn 5 (some .long), Cond.fieldLink RX0 20 "NetPoints$Picture" "feeRates" "[I", Cond.methodLink RX0 96 yX0_sharesThatAreCosts, Cond.instanceMethod yX0_sharesThatAreCosts, Cond.selects RX0 yX0_sharesThatAreCosts yX0_sharesThatAreCosts, Cond.code yX0_sharesThatAreCosts cX0_sharesThatAreCosts 5 (some .long), Cond.fieldLink RX0 26 "NetPoints$Picture" "sharers" "Ljava/util/ArrayList;", Cond.classLink RX0 45 "NetPoints$Sharer", Cond.fieldLink RX0 47 "NetPoints$Sharer" "kind" "I", Cond.methodLink RX0 37 yJx4a65c_size_8abf5, Cond.instanceMethod yJx4a65c_size_8abf5, Cond.selects RJx4a65c yJx4a65c_size_8abf5 yJx4a65c_size_8abf5, Cond.initialized RJx4a65c, Cond.code yJx4a65c_size_8abf5 cJx4a65c_size_8abf5 1 (some .int), Cond.fieldLink RJx4a65c 48 "java/util/ArrayList" "size" "I", Cond.methodLink RX0 41 yJx4a65c_get_915e3, Cond.instanceMethod yJx4a65c_get_915e3, Cond.selects RJx4a65c yJx4a65c_get_915e3 yJx4a65c_get_915e3, Cond.code yJx4a65c_get_915e3 cJx4a65c_get_915e3 2 (some (.object "java/lang/Object")), Cond.methodLink RJx4a65c 118 yJ15_checkIndex_7cf53, Cond.static yJ15_checkIndex_7cf53, Cond.initialized RJ15, Cond.code yJ15_checkIndex_7cf53 cJ15_checkIndex_7cf53 2 (some .int)]
def wsL_fees_r4 : List Cond := [Cond.methodLink RJ15 105 yJ3_checkIndex_8e157, Cond.static yJ3_checkIndex_8e157, Cond.initialized RJ3, Cond.code yJ3_checkIndex_8e157 cJ3_checkIndex_8e157 3 (some .int), Cond.methodLink RJx4a65c 123 yJx4a65c_elementData_915e3, Cond.instanceMethod yJx4a65c_elementData_915e3, Cond.selects RJx4a65c yJx4a65c_elementData_915e3 yJx4a65c_elementData_915e3, Cond.code yJx4a65c_elementData_915e3 cJx4a65c_elementData_915e3 2 (some (.object "java/lang/Object")), Cond.fieldLink RJx4a65c 9 "java/util/ArrayList" "elementData" "[Ljava/lang/Object;", Cond.methodLink RX0 110 yX1_shareOf, Cond.instanceMethod yX1_shareOf, Cond.selects RX1 yX1_shareOf yX1_shareOf, Cond.initialized RX1, Cond.code yX1_shareOf cX1_shareOf 7 (some .long), Cond.fieldLink RX1 22 "NetPoints$Sharer" "limit" "I", Cond.methodLink RX1 31 Lib.MathLoose.min_long.x, Cond.static Lib.MathLoose.min_long.x, Cond.initialized "java/lang/Math", Cond.code Lib.MathLoose.min_long.x Lib.MathLoose.min_long.code 4 (some .long), Cond.fieldLink RX1 25 "NetPoints$Sharer" "first" "I", Cond.fieldLink RX1 28 "NetPoints$Sharer" "second" "I", Cond.constantLong RX1 37 (10000), Cond.methodLink RX0 126 yX1_bonusAt, Cond.instanceMethod yX1_bonusAt]
def wsL_fees_r5 : List Cond := [Cond.selects RX1 yX1_bonusAt yX1_bonusAt, Cond.code yX1_bonusAt cX1_bonusAt 3 (some .long), Cond.constantLong RX1 39 (100), Cond.methodLink RX2 184 yX0_moveGain, Cond.instanceMethod yX0_moveGain, Cond.selects RX0 yX0_moveGain yX0_moveGain, Cond.code yX0_moveGain cX0_moveGain 6 none, Cond.methodLink RX0 103 Lib.MathLoose.min_long.x, Cond.methodLink RX2 188 yX0_finishYear, Cond.instanceMethod yX0_finishYear, Cond.selects RX0 yX0_finishYear yX0_finishYear, Cond.code yX0_finishYear cX0_finishYear 2 none, Cond.fieldLink RX0 107 "NetPoints$Picture" "interestRate" "I", Cond.fieldLink RX0 30 "NetPoints$Picture" "balances" "[J", Cond.fieldLink RX0 34 "NetPoints$Picture" "profits" "[J", Cond.methodLink RX2 42 yX2_pictureOf, Cond.instanceMethod yX2_pictureOf, Cond.selects RX2 yX2_pictureOf yX2_pictureOf, Cond.code yX2_pictureOf cX2_pictureOf 2 (some (.object "NetPoints$Picture"))]
def wsL_fees : List Cond := .codeWith yL_fees cL_fees 4 (some .int) [(0, 9, 12, 13)] :: ((wsL_fees_r1 ++ (wsL_fees_r2 ++ (wsL_fees_r3 ++ (wsL_fees_r4 ++ wsL_fees_r5)))) ++ wsX00 ++ wsX20 ++ wsX10 ++ wsJx4a65c0 ++ (vx_atS RX2 152 "java/lang/IndexOutOfBoundsException" ["java/lang/RuntimeException", "java/lang/Exception"]).filter goodWord)
def wsL_balance_r1 : List Cond := [Cond.classLink RL 13 "java/lang/IndexOutOfBoundsException", Cond.classLink RL 15 "java/lang/IllegalArgumentException", Cond.methodLink RL 55 yX2_balance, Cond.instanceMethod yX2_balance, Cond.selects RX2 yX2_balance yX2_balance, Cond.initialized RX2, Cond.code yX2_balance cX2_balance 3 (some .int), Cond.fieldLink RX2 30 "NetPoints" "yearOfNow" "I", Cond.fieldLink RX2 137 "NetPoints$Picture" "balances" "[J", Cond.methodLink RX2 34 yX2_requirePicture, Cond.static yX2_requirePicture, Cond.code yX2_requirePicture cX2_requirePicture 1 none, Cond.classLink RX2 148 "java/lang/IndexOutOfBoundsException", Cond.initialized "java/lang/IndexOutOfBoundsException", Cond.methodLink RX2 38 yX2_requireRange, Cond.static yX2_requireRange, Cond.code yX2_requireRange cX2_requireRange 3 none, Cond.classLink RX2 155 "java/lang/IllegalArgumentException", Cond.initialized "java/lang/IllegalArgumentException", Cond.methodLink RX2 125 yX2_drawBooks, Cond.instanceMethod yX2_drawBooks, Cond.selects RX2 yX2_drawBooks yX2_drawBooks, Cond.code yX2_drawBooks cX2_drawBooks 6 none, Cond.fieldLink RX2 10 "NetPoints" "picture0" "LNetPoints$Picture;"]
def wsL_balance_r2 : List Cond := [Cond.fieldLink RX2 16 "NetPoints" "picture1" "LNetPoints$Picture;", Cond.fieldLink RX2 26 "NetPoints" "crossed" "Z", Cond.methodLink RX2 177 yX0_startBooks, Cond.instanceMethod yX0_startBooks, Cond.selects RX0 yX0_startBooks yX0_startBooks, Cond.initialized RX0, Cond.code yX0_startBooks cX0_startBooks 1 none, Cond.fieldLink RX0 63 "NetPoints$Picture" "grossSoFar" "J", Cond.fieldLink RX0 67 "NetPoints$Picture" "adjustedSoFar" "J", Cond.fieldLink RX0 70 "NetPoints$Picture" "feesSoFar" "J", Cond.fieldLink RX0 73 "NetPoints$Picture" "sharesSoFar" "J", Cond.fieldLink RX0 76 "NetPoints$Picture" "balanceSoFar" "J", Cond.fieldLink RX0 79 "NetPoints$Picture" "profitSoFar" "J", Cond.methodLink RX2 180 yX0_recoup, Cond.instanceMethod yX0_recoup, Cond.selects RX0 yX0_recoup yX0_recoup, Cond.code yX0_recoup cX0_recoup 12 (some .long), Cond.fieldLink RX0 86 "NetPoints$Picture" "topRate" "I", Cond.fieldLink RX0 16 "NetPoints$Picture" "costs" "[I", Cond.fieldLink RX0 100 "NetPoints$Picture" "overheadRate" "I", Cond.methodLink RX0 82 yX0_grossIn, Cond.instanceMethod yX0_grossIn, Cond.selects RX0 yX0_grossIn yX0_grossIn, Cond.code yX0_grossIn cX0_grossIn 5 (some .long)]
def wsL_balance_r3 : List Cond := [Cond.fieldLink RX0 11 "NetPoints$Picture" "receipts" "[[I", Cond.static yX2_part, Cond.code yX2_part cX2_part 3 (some .long), Cond.constantLong RX2 191 (10000), Cond.methodLink RX0 93 yX0_feesIn, Cond.instanceMethod yX0_feesIn, Cond.selects RX0 yX0_feesIn yX0_feesIn, Cond.code yX0_feesIn cX0_feesIn 5 (some .long), Cond.fieldLink RX0 20 "NetPoints$Picture" "feeRates" "[I", Cond.methodLink RX0 96 yX0_sharesThatAreCosts, Cond.instanceMethod yX0_sharesThatAreCosts, Cond.selects RX0 yX0_sharesThatAreCosts yX0_sharesThatAreCosts, Cond.code yX0_sharesThatAreCosts cX0_sharesThatAreCosts 5 (some .long), Cond.fieldLink RX0 26 "NetPoints$Picture" "sharers" "Ljava/util/ArrayList;", Cond.classLink RX0 45 "NetPoints$Sharer", Cond.fieldLink RX0 47 "NetPoints$Sharer" "kind" "I", Cond.methodLink RX0 37 yJx4a65c_size_8abf5, Cond.instanceMethod yJx4a65c_size_8abf5, Cond.selects RJx4a65c yJx4a65c_size_8abf5 yJx4a65c_size_8abf5, Cond.initialized RJx4a65c, Cond.code yJx4a65c_size_8abf5 cJx4a65c_size_8abf5 1 (some .int), Cond.fieldLink RJx4a65c 48 "java/util/ArrayList" "size" "I", Cond.methodLink RX0 41 yJx4a65c_get_915e3, Cond.instanceMethod yJx4a65c_get_915e3]
def wsL_balance_r4 : List Cond := [Cond.selects RJx4a65c yJx4a65c_get_915e3 yJx4a65c_get_915e3, Cond.code yJx4a65c_get_915e3 cJx4a65c_get_915e3 2 (some (.object "java/lang/Object")), Cond.methodLink RJx4a65c 118 yJ15_checkIndex_7cf53, Cond.static yJ15_checkIndex_7cf53, Cond.initialized RJ15, Cond.code yJ15_checkIndex_7cf53 cJ15_checkIndex_7cf53 2 (some .int), Cond.methodLink RJ15 105 yJ3_checkIndex_8e157, Cond.static yJ3_checkIndex_8e157, Cond.initialized RJ3, Cond.code yJ3_checkIndex_8e157 cJ3_checkIndex_8e157 3 (some .int), Cond.methodLink RJx4a65c 123 yJx4a65c_elementData_915e3, Cond.instanceMethod yJx4a65c_elementData_915e3, Cond.selects RJx4a65c yJx4a65c_elementData_915e3 yJx4a65c_elementData_915e3, Cond.code yJx4a65c_elementData_915e3 cJx4a65c_elementData_915e3 2 (some (.object "java/lang/Object")), Cond.fieldLink RJx4a65c 9 "java/util/ArrayList" "elementData" "[Ljava/lang/Object;", Cond.methodLink RX0 110 yX1_shareOf, Cond.instanceMethod yX1_shareOf, Cond.selects RX1 yX1_shareOf yX1_shareOf, Cond.initialized RX1, Cond.code yX1_shareOf cX1_shareOf 7 (some .long), Cond.fieldLink RX1 22 "NetPoints$Sharer" "limit" "I", Cond.methodLink RX1 31 Lib.MathLoose.min_long.x, Cond.static Lib.MathLoose.min_long.x, Cond.initialized "java/lang/Math"]
def wsL_balance_r5 : List Cond := [Cond.code Lib.MathLoose.min_long.x Lib.MathLoose.min_long.code 4 (some .long), Cond.fieldLink RX1 25 "NetPoints$Sharer" "first" "I", Cond.fieldLink RX1 28 "NetPoints$Sharer" "second" "I", Cond.constantLong RX1 37 (10000), Cond.methodLink RX0 126 yX1_bonusAt, Cond.instanceMethod yX1_bonusAt, Cond.selects RX1 yX1_bonusAt yX1_bonusAt, Cond.code yX1_bonusAt cX1_bonusAt 3 (some .long), Cond.constantLong RX1 39 (100), Cond.methodLink RX2 184 yX0_moveGain, Cond.instanceMethod yX0_moveGain, Cond.selects RX0 yX0_moveGain yX0_moveGain, Cond.code yX0_moveGain cX0_moveGain 6 none, Cond.methodLink RX0 103 Lib.MathLoose.min_long.x, Cond.methodLink RX2 188 yX0_finishYear, Cond.instanceMethod yX0_finishYear, Cond.selects RX0 yX0_finishYear yX0_finishYear, Cond.code yX0_finishYear cX0_finishYear 2 none, Cond.fieldLink RX0 107 "NetPoints$Picture" "interestRate" "I", Cond.fieldLink RX0 30 "NetPoints$Picture" "balances" "[J", Cond.fieldLink RX0 34 "NetPoints$Picture" "profits" "[J", Cond.methodLink RX2 42 yX2_pictureOf, Cond.instanceMethod yX2_pictureOf, Cond.selects RX2 yX2_pictureOf yX2_pictureOf]
def wsL_balance_r6 : List Cond := [Cond.code yX2_pictureOf cX2_pictureOf 2 (some (.object "NetPoints$Picture"))]
def wsL_balance : List Cond := .codeWith yL_balance cL_balance 5 (some .int) [(0, 10, 13, 13), (0, 10, 17, 15)] :: ((wsL_balance_r1 ++ (wsL_balance_r2 ++ (wsL_balance_r3 ++ (wsL_balance_r4 ++ (wsL_balance_r5 ++ wsL_balance_r6))))) ++ wsX20 ++ wsX00 ++ wsX10 ++ wsJx4a65c0 ++ (vx_atS RX2 152 "java/lang/IndexOutOfBoundsException" ["java/lang/RuntimeException", "java/lang/Exception"]).filter goodWord ++ (vx_atS RX2 159 "java/lang/IllegalArgumentException" ["java/lang/RuntimeException", "java/lang/Exception"]).filter goodWord)
def wsL_profit_r1 : List Cond := [Cond.classLink RL 13 "java/lang/IndexOutOfBoundsException", Cond.classLink RL 15 "java/lang/IllegalArgumentException", Cond.methodLink RL 58 yX2_profit, Cond.instanceMethod yX2_profit, Cond.selects RX2 yX2_profit yX2_profit, Cond.initialized RX2, Cond.code yX2_profit cX2_profit 3 (some .int), Cond.fieldLink RX2 30 "NetPoints" "yearOfNow" "I", Cond.fieldLink RX2 141 "NetPoints$Picture" "profits" "[J", Cond.methodLink RX2 34 yX2_requirePicture, Cond.static yX2_requirePicture, Cond.code yX2_requirePicture cX2_requirePicture 1 none, Cond.classLink RX2 148 "java/lang/IndexOutOfBoundsException", Cond.initialized "java/lang/IndexOutOfBoundsException", Cond.methodLink RX2 38 yX2_requireRange, Cond.static yX2_requireRange, Cond.code yX2_requireRange cX2_requireRange 3 none, Cond.classLink RX2 155 "java/lang/IllegalArgumentException", Cond.initialized "java/lang/IllegalArgumentException", Cond.methodLink RX2 125 yX2_drawBooks, Cond.instanceMethod yX2_drawBooks, Cond.selects RX2 yX2_drawBooks yX2_drawBooks, Cond.code yX2_drawBooks cX2_drawBooks 6 none, Cond.fieldLink RX2 10 "NetPoints" "picture0" "LNetPoints$Picture;"]
def wsL_profit_r2 : List Cond := [Cond.fieldLink RX2 16 "NetPoints" "picture1" "LNetPoints$Picture;", Cond.fieldLink RX2 26 "NetPoints" "crossed" "Z", Cond.methodLink RX2 177 yX0_startBooks, Cond.instanceMethod yX0_startBooks, Cond.selects RX0 yX0_startBooks yX0_startBooks, Cond.initialized RX0, Cond.code yX0_startBooks cX0_startBooks 1 none, Cond.fieldLink RX0 63 "NetPoints$Picture" "grossSoFar" "J", Cond.fieldLink RX0 67 "NetPoints$Picture" "adjustedSoFar" "J", Cond.fieldLink RX0 70 "NetPoints$Picture" "feesSoFar" "J", Cond.fieldLink RX0 73 "NetPoints$Picture" "sharesSoFar" "J", Cond.fieldLink RX0 76 "NetPoints$Picture" "balanceSoFar" "J", Cond.fieldLink RX0 79 "NetPoints$Picture" "profitSoFar" "J", Cond.methodLink RX2 180 yX0_recoup, Cond.instanceMethod yX0_recoup, Cond.selects RX0 yX0_recoup yX0_recoup, Cond.code yX0_recoup cX0_recoup 12 (some .long), Cond.fieldLink RX0 86 "NetPoints$Picture" "topRate" "I", Cond.fieldLink RX0 16 "NetPoints$Picture" "costs" "[I", Cond.fieldLink RX0 100 "NetPoints$Picture" "overheadRate" "I", Cond.methodLink RX0 82 yX0_grossIn, Cond.instanceMethod yX0_grossIn, Cond.selects RX0 yX0_grossIn yX0_grossIn, Cond.code yX0_grossIn cX0_grossIn 5 (some .long)]
def wsL_profit_r3 : List Cond := [Cond.fieldLink RX0 11 "NetPoints$Picture" "receipts" "[[I", Cond.static yX2_part, Cond.code yX2_part cX2_part 3 (some .long), Cond.constantLong RX2 191 (10000), Cond.methodLink RX0 93 yX0_feesIn, Cond.instanceMethod yX0_feesIn, Cond.selects RX0 yX0_feesIn yX0_feesIn, Cond.code yX0_feesIn cX0_feesIn 5 (some .long), Cond.fieldLink RX0 20 "NetPoints$Picture" "feeRates" "[I", Cond.methodLink RX0 96 yX0_sharesThatAreCosts, Cond.instanceMethod yX0_sharesThatAreCosts, Cond.selects RX0 yX0_sharesThatAreCosts yX0_sharesThatAreCosts, Cond.code yX0_sharesThatAreCosts cX0_sharesThatAreCosts 5 (some .long), Cond.fieldLink RX0 26 "NetPoints$Picture" "sharers" "Ljava/util/ArrayList;", Cond.classLink RX0 45 "NetPoints$Sharer", Cond.fieldLink RX0 47 "NetPoints$Sharer" "kind" "I", Cond.methodLink RX0 37 yJx4a65c_size_8abf5, Cond.instanceMethod yJx4a65c_size_8abf5, Cond.selects RJx4a65c yJx4a65c_size_8abf5 yJx4a65c_size_8abf5, Cond.initialized RJx4a65c, Cond.code yJx4a65c_size_8abf5 cJx4a65c_size_8abf5 1 (some .int), Cond.fieldLink RJx4a65c 48 "java/util/ArrayList" "size" "I", Cond.methodLink RX0 41 yJx4a65c_get_915e3, Cond.instanceMethod yJx4a65c_get_915e3]
def wsL_profit_r4 : List Cond := [Cond.selects RJx4a65c yJx4a65c_get_915e3 yJx4a65c_get_915e3, Cond.code yJx4a65c_get_915e3 cJx4a65c_get_915e3 2 (some (.object "java/lang/Object")), Cond.methodLink RJx4a65c 118 yJ15_checkIndex_7cf53, Cond.static yJ15_checkIndex_7cf53, Cond.initialized RJ15, Cond.code yJ15_checkIndex_7cf53 cJ15_checkIndex_7cf53 2 (some .int), Cond.methodLink RJ15 105 yJ3_checkIndex_8e157, Cond.static yJ3_checkIndex_8e157, Cond.initialized RJ3, Cond.code yJ3_checkIndex_8e157 cJ3_checkIndex_8e157 3 (some .int), Cond.methodLink RJx4a65c 123 yJx4a65c_elementData_915e3, Cond.instanceMethod yJx4a65c_elementData_915e3, Cond.selects RJx4a65c yJx4a65c_elementData_915e3 yJx4a65c_elementData_915e3, Cond.code yJx4a65c_elementData_915e3 cJx4a65c_elementData_915e3 2 (some (.object "java/lang/Object")), Cond.fieldLink RJx4a65c 9 "java/util/ArrayList" "elementData" "[Ljava/lang/Object;", Cond.methodLink RX0 110 yX1_shareOf, Cond.instanceMethod yX1_shareOf, Cond.selects RX1 yX1_shareOf yX1_shareOf, Cond.initialized RX1, Cond.code yX1_shareOf cX1_shareOf 7 (some .long), Cond.fieldLink RX1 22 "NetPoints$Sharer" "limit" "I", Cond.methodLink RX1 31 Lib.MathLoose.min_long.x, Cond.static Lib.MathLoose.min_long.x, Cond.initialized "java/lang/Math"]
def wsL_profit_r5 : List Cond := [Cond.code Lib.MathLoose.min_long.x Lib.MathLoose.min_long.code 4 (some .long), Cond.fieldLink RX1 25 "NetPoints$Sharer" "first" "I", Cond.fieldLink RX1 28 "NetPoints$Sharer" "second" "I", Cond.constantLong RX1 37 (10000), Cond.methodLink RX0 126 yX1_bonusAt, Cond.instanceMethod yX1_bonusAt, Cond.selects RX1 yX1_bonusAt yX1_bonusAt, Cond.code yX1_bonusAt cX1_bonusAt 3 (some .long), Cond.constantLong RX1 39 (100), Cond.methodLink RX2 184 yX0_moveGain, Cond.instanceMethod yX0_moveGain, Cond.selects RX0 yX0_moveGain yX0_moveGain, Cond.code yX0_moveGain cX0_moveGain 6 none, Cond.methodLink RX0 103 Lib.MathLoose.min_long.x, Cond.methodLink RX2 188 yX0_finishYear, Cond.instanceMethod yX0_finishYear, Cond.selects RX0 yX0_finishYear yX0_finishYear, Cond.code yX0_finishYear cX0_finishYear 2 none, Cond.fieldLink RX0 107 "NetPoints$Picture" "interestRate" "I", Cond.fieldLink RX0 30 "NetPoints$Picture" "balances" "[J", Cond.fieldLink RX0 34 "NetPoints$Picture" "profits" "[J", Cond.methodLink RX2 42 yX2_pictureOf, Cond.instanceMethod yX2_pictureOf, Cond.selects RX2 yX2_pictureOf yX2_pictureOf]
def wsL_profit_r6 : List Cond := [Cond.code yX2_pictureOf cX2_pictureOf 2 (some (.object "NetPoints$Picture"))]
def wsL_profit : List Cond := .codeWith yL_profit cL_profit 5 (some .int) [(0, 10, 13, 13), (0, 10, 17, 15)] :: ((wsL_profit_r1 ++ (wsL_profit_r2 ++ (wsL_profit_r3 ++ (wsL_profit_r4 ++ (wsL_profit_r5 ++ wsL_profit_r6))))) ++ wsX20 ++ wsX00 ++ wsX10 ++ wsJx4a65c0 ++ (vx_atS RX2 152 "java/lang/IndexOutOfBoundsException" ["java/lang/RuntimeException", "java/lang/Exception"]).filter goodWord ++ (vx_atS RX2 159 "java/lang/IllegalArgumentException" ["java/lang/RuntimeException", "java/lang/Exception"]).filter goodWord)
def wsL_pool_r1 : List Cond := [Cond.classLink RL 13 "java/lang/IndexOutOfBoundsException", Cond.methodLink RL 61 yX2_pool, Cond.instanceMethod yX2_pool, Cond.selects RX2 yX2_pool yX2_pool, Cond.initialized RX2, Cond.code yX2_pool cX2_pool 2 (some .int), Cond.methodLink RX2 34 yX2_requirePicture, Cond.static yX2_requirePicture, Cond.code yX2_requirePicture cX2_requirePicture 1 none, Cond.classLink RX2 148 "java/lang/IndexOutOfBoundsException", Cond.initialized "java/lang/IndexOutOfBoundsException", Cond.methodLink RX2 125 yX2_drawBooks, Cond.instanceMethod yX2_drawBooks, Cond.selects RX2 yX2_drawBooks yX2_drawBooks, Cond.code yX2_drawBooks cX2_drawBooks 6 none, Cond.fieldLink RX2 10 "NetPoints" "picture0" "LNetPoints$Picture;", Cond.fieldLink RX2 16 "NetPoints" "picture1" "LNetPoints$Picture;", Cond.fieldLink RX2 30 "NetPoints" "yearOfNow" "I", Cond.fieldLink RX2 26 "NetPoints" "crossed" "Z", Cond.methodLink RX2 177 yX0_startBooks, Cond.instanceMethod yX0_startBooks, Cond.selects RX0 yX0_startBooks yX0_startBooks, Cond.initialized RX0, Cond.code yX0_startBooks cX0_startBooks 1 none]
def wsL_pool_r2 : List Cond := [Cond.fieldLink RX0 63 "NetPoints$Picture" "grossSoFar" "J", Cond.fieldLink RX0 67 "NetPoints$Picture" "adjustedSoFar" "J", Cond.fieldLink RX0 70 "NetPoints$Picture" "feesSoFar" "J", Cond.fieldLink RX0 73 "NetPoints$Picture" "sharesSoFar" "J", Cond.fieldLink RX0 76 "NetPoints$Picture" "balanceSoFar" "J", Cond.fieldLink RX0 79 "NetPoints$Picture" "profitSoFar" "J", Cond.methodLink RX2 180 yX0_recoup, Cond.instanceMethod yX0_recoup, Cond.selects RX0 yX0_recoup yX0_recoup, Cond.code yX0_recoup cX0_recoup 12 (some .long), Cond.fieldLink RX0 86 "NetPoints$Picture" "topRate" "I", Cond.fieldLink RX0 16 "NetPoints$Picture" "costs" "[I", Cond.fieldLink RX0 100 "NetPoints$Picture" "overheadRate" "I", Cond.methodLink RX0 82 yX0_grossIn, Cond.instanceMethod yX0_grossIn, Cond.selects RX0 yX0_grossIn yX0_grossIn, Cond.code yX0_grossIn cX0_grossIn 5 (some .long), Cond.fieldLink RX0 11 "NetPoints$Picture" "receipts" "[[I", Cond.static yX2_part, Cond.code yX2_part cX2_part 3 (some .long), Cond.constantLong RX2 191 (10000), Cond.methodLink RX0 93 yX0_feesIn, Cond.instanceMethod yX0_feesIn, Cond.selects RX0 yX0_feesIn yX0_feesIn]
def wsL_pool_r3 : List Cond := [Cond.code yX0_feesIn cX0_feesIn 5 (some .long), Cond.fieldLink RX0 20 "NetPoints$Picture" "feeRates" "[I", Cond.methodLink RX0 96 yX0_sharesThatAreCosts, Cond.instanceMethod yX0_sharesThatAreCosts, Cond.selects RX0 yX0_sharesThatAreCosts yX0_sharesThatAreCosts, Cond.code yX0_sharesThatAreCosts cX0_sharesThatAreCosts 5 (some .long), Cond.fieldLink RX0 26 "NetPoints$Picture" "sharers" "Ljava/util/ArrayList;", Cond.classLink RX0 45 "NetPoints$Sharer", Cond.fieldLink RX0 47 "NetPoints$Sharer" "kind" "I", Cond.methodLink RX0 37 yJx4a65c_size_8abf5, Cond.instanceMethod yJx4a65c_size_8abf5, Cond.selects RJx4a65c yJx4a65c_size_8abf5 yJx4a65c_size_8abf5, Cond.initialized RJx4a65c, Cond.code yJx4a65c_size_8abf5 cJx4a65c_size_8abf5 1 (some .int), Cond.fieldLink RJx4a65c 48 "java/util/ArrayList" "size" "I", Cond.methodLink RX0 41 yJx4a65c_get_915e3, Cond.instanceMethod yJx4a65c_get_915e3, Cond.selects RJx4a65c yJx4a65c_get_915e3 yJx4a65c_get_915e3, Cond.code yJx4a65c_get_915e3 cJx4a65c_get_915e3 2 (some (.object "java/lang/Object")), Cond.methodLink RJx4a65c 118 yJ15_checkIndex_7cf53, Cond.static yJ15_checkIndex_7cf53, Cond.initialized RJ15, Cond.code yJ15_checkIndex_7cf53 cJ15_checkIndex_7cf53 2 (some .int), Cond.methodLink RJ15 105 yJ3_checkIndex_8e157]
def wsL_pool_r4 : List Cond := [Cond.static yJ3_checkIndex_8e157, Cond.initialized RJ3, Cond.code yJ3_checkIndex_8e157 cJ3_checkIndex_8e157 3 (some .int), Cond.methodLink RJx4a65c 123 yJx4a65c_elementData_915e3, Cond.instanceMethod yJx4a65c_elementData_915e3, Cond.selects RJx4a65c yJx4a65c_elementData_915e3 yJx4a65c_elementData_915e3, Cond.code yJx4a65c_elementData_915e3 cJx4a65c_elementData_915e3 2 (some (.object "java/lang/Object")), Cond.fieldLink RJx4a65c 9 "java/util/ArrayList" "elementData" "[Ljava/lang/Object;", Cond.methodLink RX0 110 yX1_shareOf, Cond.instanceMethod yX1_shareOf, Cond.selects RX1 yX1_shareOf yX1_shareOf, Cond.initialized RX1, Cond.code yX1_shareOf cX1_shareOf 7 (some .long), Cond.fieldLink RX1 22 "NetPoints$Sharer" "limit" "I", Cond.methodLink RX1 31 Lib.MathLoose.min_long.x, Cond.static Lib.MathLoose.min_long.x, Cond.initialized "java/lang/Math", Cond.code Lib.MathLoose.min_long.x Lib.MathLoose.min_long.code 4 (some .long), Cond.fieldLink RX1 25 "NetPoints$Sharer" "first" "I", Cond.fieldLink RX1 28 "NetPoints$Sharer" "second" "I", Cond.constantLong RX1 37 (10000), Cond.methodLink RX0 126 yX1_bonusAt, Cond.instanceMethod yX1_bonusAt, Cond.selects RX1 yX1_bonusAt yX1_bonusAt]
def wsL_pool_r5 : List Cond := [Cond.code yX1_bonusAt cX1_bonusAt 3 (some .long), Cond.constantLong RX1 39 (100), Cond.methodLink RX2 184 yX0_moveGain, Cond.instanceMethod yX0_moveGain, Cond.selects RX0 yX0_moveGain yX0_moveGain, Cond.code yX0_moveGain cX0_moveGain 6 none, Cond.methodLink RX0 103 Lib.MathLoose.min_long.x, Cond.methodLink RX2 188 yX0_finishYear, Cond.instanceMethod yX0_finishYear, Cond.selects RX0 yX0_finishYear yX0_finishYear, Cond.code yX0_finishYear cX0_finishYear 2 none, Cond.fieldLink RX0 107 "NetPoints$Picture" "interestRate" "I", Cond.fieldLink RX0 30 "NetPoints$Picture" "balances" "[J", Cond.fieldLink RX0 34 "NetPoints$Picture" "profits" "[J", Cond.methodLink RX2 42 yX2_pictureOf, Cond.instanceMethod yX2_pictureOf, Cond.selects RX2 yX2_pictureOf yX2_pictureOf, Cond.code yX2_pictureOf cX2_pictureOf 2 (some (.object "NetPoints$Picture")), Cond.methodLink RX2 144 yX0_poolDrawn, Cond.instanceMethod yX0_poolDrawn, Cond.selects RX0 yX0_poolDrawn yX0_poolDrawn, Cond.code yX0_poolDrawn cX0_poolDrawn 1 (some .long), Cond.methodLink RX0 123 yX0_profitLeftAt, Cond.instanceMethod yX0_profitLeftAt]
def wsL_pool_r6 : List Cond := [Cond.selects RX0 yX0_profitLeftAt yX0_profitLeftAt, Cond.code yX0_profitLeftAt cX0_profitLeftAt 6 (some .long), Cond.fieldLink RX0 117 "NetPoints$Sharer" "limit" "I"]
def wsL_pool : List Cond := .codeWith yL_pool cL_pool 4 (some .int) [(0, 9, 12, 13)] :: ((wsL_pool_r1 ++ (wsL_pool_r2 ++ (wsL_pool_r3 ++ (wsL_pool_r4 ++ (wsL_pool_r5 ++ wsL_pool_r6))))) ++ wsX20 ++ wsX00 ++ wsX10 ++ wsJx4a65c0 ++ (vx_atS RX2 152 "java/lang/IndexOutOfBoundsException" ["java/lang/RuntimeException", "java/lang/Exception"]).filter goodWord)
def wsL_sum_r1 : List Cond := [Cond.classLink RL 13 "java/lang/IndexOutOfBoundsException", Cond.methodLink RL 64 yX2_sum, Cond.instanceMethod yX2_sum, Cond.selects RX2 yX2_sum yX2_sum, Cond.initialized RX2, Cond.code yX2_sum cX2_sum 2 (some .int), Cond.fieldLink RX2 22 "NetPoints" "allSharers" "Ljava/util/ArrayList;", Cond.classLink RX2 73 "NetPoints$Sharer", Cond.methodLink RX2 108 yX2_requireSharer, Cond.instanceMethod yX2_requireSharer, Cond.selects RX2 yX2_requireSharer yX2_requireSharer, Cond.code yX2_requireSharer cX2_requireSharer 2 none, Cond.classLink RX2 148 "java/lang/IndexOutOfBoundsException", Cond.initialized "java/lang/IndexOutOfBoundsException", Cond.methodLink RX2 78 yJx4a65c_size_8abf5, Cond.instanceMethod yJx4a65c_size_8abf5, Cond.selects RJx4a65c yJx4a65c_size_8abf5 yJx4a65c_size_8abf5, Cond.initialized RJx4a65c, Cond.code yJx4a65c_size_8abf5 cJx4a65c_size_8abf5 1 (some .int), Cond.fieldLink RJx4a65c 48 "java/util/ArrayList" "size" "I", Cond.methodLink RX2 111 yJx4a65c_get_915e3, Cond.instanceMethod yJx4a65c_get_915e3, Cond.selects RJx4a65c yJx4a65c_get_915e3 yJx4a65c_get_915e3, Cond.code yJx4a65c_get_915e3 cJx4a65c_get_915e3 2 (some (.object "java/lang/Object"))]
def wsL_sum_r2 : List Cond := [Cond.methodLink RJx4a65c 118 yJ15_checkIndex_7cf53, Cond.static yJ15_checkIndex_7cf53, Cond.initialized RJ15, Cond.code yJ15_checkIndex_7cf53 cJ15_checkIndex_7cf53 2 (some .int), Cond.methodLink RJ15 105 yJ3_checkIndex_8e157, Cond.static yJ3_checkIndex_8e157, Cond.initialized RJ3, Cond.code yJ3_checkIndex_8e157 cJ3_checkIndex_8e157 3 (some .int), Cond.methodLink RJx4a65c 123 yJx4a65c_elementData_915e3, Cond.instanceMethod yJx4a65c_elementData_915e3, Cond.selects RJx4a65c yJx4a65c_elementData_915e3 yJx4a65c_elementData_915e3, Cond.code yJx4a65c_elementData_915e3 cJx4a65c_elementData_915e3 2 (some (.object "java/lang/Object")), Cond.fieldLink RJx4a65c 9 "java/util/ArrayList" "elementData" "[Ljava/lang/Object;", Cond.methodLink RX2 115 yX2_drawnSum, Cond.instanceMethod yX2_drawnSum, Cond.selects RX2 yX2_drawnSum yX2_drawnSum, Cond.code yX2_drawnSum cX2_drawnSum 2 (some .long), Cond.fieldLink RX2 171 "NetPoints$Sharer" "picture" "LNetPoints$Picture;", Cond.methodLink RX2 125 yX2_drawBooks, Cond.instanceMethod yX2_drawBooks, Cond.selects RX2 yX2_drawBooks yX2_drawBooks, Cond.code yX2_drawBooks cX2_drawBooks 6 none, Cond.fieldLink RX2 10 "NetPoints" "picture0" "LNetPoints$Picture;", Cond.fieldLink RX2 16 "NetPoints" "picture1" "LNetPoints$Picture;"]
def wsL_sum_r3 : List Cond := [Cond.fieldLink RX2 30 "NetPoints" "yearOfNow" "I", Cond.fieldLink RX2 26 "NetPoints" "crossed" "Z", Cond.methodLink RX2 177 yX0_startBooks, Cond.instanceMethod yX0_startBooks, Cond.selects RX0 yX0_startBooks yX0_startBooks, Cond.initialized RX0, Cond.code yX0_startBooks cX0_startBooks 1 none, Cond.fieldLink RX0 63 "NetPoints$Picture" "grossSoFar" "J", Cond.fieldLink RX0 67 "NetPoints$Picture" "adjustedSoFar" "J", Cond.fieldLink RX0 70 "NetPoints$Picture" "feesSoFar" "J", Cond.fieldLink RX0 73 "NetPoints$Picture" "sharesSoFar" "J", Cond.fieldLink RX0 76 "NetPoints$Picture" "balanceSoFar" "J", Cond.fieldLink RX0 79 "NetPoints$Picture" "profitSoFar" "J", Cond.methodLink RX2 180 yX0_recoup, Cond.instanceMethod yX0_recoup, Cond.selects RX0 yX0_recoup yX0_recoup, Cond.code yX0_recoup cX0_recoup 12 (some .long), Cond.fieldLink RX0 86 "NetPoints$Picture" "topRate" "I", Cond.fieldLink RX0 16 "NetPoints$Picture" "costs" "[I", Cond.fieldLink RX0 100 "NetPoints$Picture" "overheadRate" "I", Cond.methodLink RX0 82 yX0_grossIn, Cond.instanceMethod yX0_grossIn, Cond.selects RX0 yX0_grossIn yX0_grossIn, Cond.code yX0_grossIn cX0_grossIn 5 (some .long)]
def wsL_sum_r4 : List Cond := [Cond.fieldLink RX0 11 "NetPoints$Picture" "receipts" "[[I", Cond.static yX2_part, Cond.code yX2_part cX2_part 3 (some .long), Cond.constantLong RX2 191 (10000), Cond.methodLink RX0 93 yX0_feesIn, Cond.instanceMethod yX0_feesIn, Cond.selects RX0 yX0_feesIn yX0_feesIn, Cond.code yX0_feesIn cX0_feesIn 5 (some .long), Cond.fieldLink RX0 20 "NetPoints$Picture" "feeRates" "[I", Cond.methodLink RX0 96 yX0_sharesThatAreCosts, Cond.instanceMethod yX0_sharesThatAreCosts, Cond.selects RX0 yX0_sharesThatAreCosts yX0_sharesThatAreCosts, Cond.code yX0_sharesThatAreCosts cX0_sharesThatAreCosts 5 (some .long), Cond.fieldLink RX0 26 "NetPoints$Picture" "sharers" "Ljava/util/ArrayList;", Cond.classLink RX0 45 "NetPoints$Sharer", Cond.fieldLink RX0 47 "NetPoints$Sharer" "kind" "I", Cond.methodLink RX0 37 yJx4a65c_size_8abf5, Cond.methodLink RX0 41 yJx4a65c_get_915e3, Cond.methodLink RX0 110 yX1_shareOf, Cond.instanceMethod yX1_shareOf, Cond.selects RX1 yX1_shareOf yX1_shareOf, Cond.initialized RX1, Cond.code yX1_shareOf cX1_shareOf 7 (some .long), Cond.fieldLink RX1 22 "NetPoints$Sharer" "limit" "I"]
def wsL_sum_r5 : List Cond := [Cond.methodLink RX1 31 Lib.MathLoose.min_long.x, Cond.static Lib.MathLoose.min_long.x, Cond.initialized "java/lang/Math", Cond.code Lib.MathLoose.min_long.x Lib.MathLoose.min_long.code 4 (some .long), Cond.fieldLink RX1 25 "NetPoints$Sharer" "first" "I", Cond.fieldLink RX1 28 "NetPoints$Sharer" "second" "I", Cond.constantLong RX1 37 (10000), Cond.methodLink RX0 126 yX1_bonusAt, Cond.instanceMethod yX1_bonusAt, Cond.selects RX1 yX1_bonusAt yX1_bonusAt, Cond.code yX1_bonusAt cX1_bonusAt 3 (some .long), Cond.constantLong RX1 39 (100), Cond.methodLink RX2 184 yX0_moveGain, Cond.instanceMethod yX0_moveGain, Cond.selects RX0 yX0_moveGain yX0_moveGain, Cond.code yX0_moveGain cX0_moveGain 6 none, Cond.methodLink RX0 103 Lib.MathLoose.min_long.x, Cond.methodLink RX2 188 yX0_finishYear, Cond.instanceMethod yX0_finishYear, Cond.selects RX0 yX0_finishYear yX0_finishYear, Cond.code yX0_finishYear cX0_finishYear 2 none, Cond.fieldLink RX0 107 "NetPoints$Picture" "interestRate" "I", Cond.fieldLink RX0 30 "NetPoints$Picture" "balances" "[J", Cond.fieldLink RX0 34 "NetPoints$Picture" "profits" "[J"]
def wsL_sum_r6 : List Cond := [Cond.methodLink RX2 174 yX0_sumDrawn, Cond.instanceMethod yX0_sumDrawn, Cond.selects RX0 yX0_sumDrawn yX0_sumDrawn, Cond.code yX0_sumDrawn cX0_sumDrawn 2 (some .long), Cond.fieldLink RX0 117 "NetPoints$Sharer" "limit" "I", Cond.fieldLink RX0 120 "NetPoints$Sharer" "turn" "I", Cond.methodLink RX0 114 yX0_poolDrawn, Cond.instanceMethod yX0_poolDrawn, Cond.selects RX0 yX0_poolDrawn yX0_poolDrawn, Cond.code yX0_poolDrawn cX0_poolDrawn 1 (some .long), Cond.methodLink RX0 123 yX0_profitLeftAt, Cond.instanceMethod yX0_profitLeftAt, Cond.selects RX0 yX0_profitLeftAt yX0_profitLeftAt, Cond.code yX0_profitLeftAt cX0_profitLeftAt 6 (some .long)]
def wsL_sum : List Cond := .codeWith yL_sum cL_sum 4 (some .int) [(0, 9, 12, 13)] :: ((wsL_sum_r1 ++ (wsL_sum_r2 ++ (wsL_sum_r3 ++ (wsL_sum_r4 ++ (wsL_sum_r5 ++ wsL_sum_r6))))) ++ wsX20 ++ wsJx4a65c0 ++ wsX10 ++ wsX00 ++ (vx_atS RX2 152 "java/lang/IndexOutOfBoundsException" ["java/lang/RuntimeException", "java/lang/Exception"]).filter goodWord)
def wsL_paid_r1 : List Cond := [Cond.classLink RL 13 "java/lang/IndexOutOfBoundsException", Cond.methodLink RL 67 yX2_paid, Cond.instanceMethod yX2_paid, Cond.selects RX2 yX2_paid yX2_paid, Cond.initialized RX2, Cond.code yX2_paid cX2_paid 2 (some .int), Cond.fieldLink RX2 22 "NetPoints" "allSharers" "Ljava/util/ArrayList;", Cond.classLink RX2 73 "NetPoints$Sharer", Cond.fieldLink RX2 119 "NetPoints$Sharer" "paidSoFar" "J", Cond.methodLink RX2 108 yX2_requireSharer, Cond.instanceMethod yX2_requireSharer, Cond.selects RX2 yX2_requireSharer yX2_requireSharer, Cond.code yX2_requireSharer cX2_requireSharer 2 none, Cond.classLink RX2 148 "java/lang/IndexOutOfBoundsException", Cond.initialized "java/lang/IndexOutOfBoundsException", Cond.methodLink RX2 78 yJx4a65c_size_8abf5, Cond.instanceMethod yJx4a65c_size_8abf5, Cond.selects RJx4a65c yJx4a65c_size_8abf5 yJx4a65c_size_8abf5, Cond.initialized RJx4a65c, Cond.code yJx4a65c_size_8abf5 cJx4a65c_size_8abf5 1 (some .int), Cond.fieldLink RJx4a65c 48 "java/util/ArrayList" "size" "I", Cond.methodLink RX2 111 yJx4a65c_get_915e3, Cond.instanceMethod yJx4a65c_get_915e3, Cond.selects RJx4a65c yJx4a65c_get_915e3 yJx4a65c_get_915e3]
def wsL_paid_r2 : List Cond := [Cond.code yJx4a65c_get_915e3 cJx4a65c_get_915e3 2 (some (.object "java/lang/Object")), Cond.methodLink RJx4a65c 118 yJ15_checkIndex_7cf53, Cond.static yJ15_checkIndex_7cf53, Cond.initialized RJ15, Cond.code yJ15_checkIndex_7cf53 cJ15_checkIndex_7cf53 2 (some .int), Cond.methodLink RJ15 105 yJ3_checkIndex_8e157, Cond.static yJ3_checkIndex_8e157, Cond.initialized RJ3, Cond.code yJ3_checkIndex_8e157 cJ3_checkIndex_8e157 3 (some .int), Cond.methodLink RJx4a65c 123 yJx4a65c_elementData_915e3, Cond.instanceMethod yJx4a65c_elementData_915e3, Cond.selects RJx4a65c yJx4a65c_elementData_915e3 yJx4a65c_elementData_915e3, Cond.code yJx4a65c_elementData_915e3 cJx4a65c_elementData_915e3 2 (some (.object "java/lang/Object")), Cond.fieldLink RJx4a65c 9 "java/util/ArrayList" "elementData" "[Ljava/lang/Object;"]
def wsL_paid : List Cond := .codeWith yL_paid cL_paid 4 (some .int) [(0, 9, 12, 13)] :: ((wsL_paid_r1 ++ wsL_paid_r2) ++ wsX20 ++ wsX10 ++ wsJx4a65c0 ++ (vx_atS RX2 152 "java/lang/IndexOutOfBoundsException" ["java/lang/RuntimeException", "java/lang/Exception"]).filter goodWord)
def wsL_owed_r1 : List Cond := [Cond.classLink RL 13 "java/lang/IndexOutOfBoundsException", Cond.methodLink RL 70 yX2_owed, Cond.instanceMethod yX2_owed, Cond.selects RX2 yX2_owed yX2_owed, Cond.initialized RX2, Cond.code yX2_owed cX2_owed 3 (some .int), Cond.fieldLink RX2 22 "NetPoints" "allSharers" "Ljava/util/ArrayList;", Cond.classLink RX2 73 "NetPoints$Sharer", Cond.fieldLink RX2 119 "NetPoints$Sharer" "paidSoFar" "J", Cond.methodLink RX2 108 yX2_requireSharer, Cond.instanceMethod yX2_requireSharer, Cond.selects RX2 yX2_requireSharer yX2_requireSharer, Cond.code yX2_requireSharer cX2_requireSharer 2 none, Cond.classLink RX2 148 "java/lang/IndexOutOfBoundsException", Cond.initialized "java/lang/IndexOutOfBoundsException", Cond.methodLink RX2 78 yJx4a65c_size_8abf5, Cond.instanceMethod yJx4a65c_size_8abf5, Cond.selects RJx4a65c yJx4a65c_size_8abf5 yJx4a65c_size_8abf5, Cond.initialized RJx4a65c, Cond.code yJx4a65c_size_8abf5 cJx4a65c_size_8abf5 1 (some .int), Cond.fieldLink RJx4a65c 48 "java/util/ArrayList" "size" "I", Cond.methodLink RX2 111 yJx4a65c_get_915e3, Cond.instanceMethod yJx4a65c_get_915e3, Cond.selects RJx4a65c yJx4a65c_get_915e3 yJx4a65c_get_915e3]
def wsL_owed_r2 : List Cond := [Cond.code yJx4a65c_get_915e3 cJx4a65c_get_915e3 2 (some (.object "java/lang/Object")), Cond.methodLink RJx4a65c 118 yJ15_checkIndex_7cf53, Cond.static yJ15_checkIndex_7cf53, Cond.initialized RJ15, Cond.code yJ15_checkIndex_7cf53 cJ15_checkIndex_7cf53 2 (some .int), Cond.methodLink RJ15 105 yJ3_checkIndex_8e157, Cond.static yJ3_checkIndex_8e157, Cond.initialized RJ3, Cond.code yJ3_checkIndex_8e157 cJ3_checkIndex_8e157 3 (some .int), Cond.methodLink RJx4a65c 123 yJx4a65c_elementData_915e3, Cond.instanceMethod yJx4a65c_elementData_915e3, Cond.selects RJx4a65c yJx4a65c_elementData_915e3 yJx4a65c_elementData_915e3, Cond.code yJx4a65c_elementData_915e3 cJx4a65c_elementData_915e3 2 (some (.object "java/lang/Object")), Cond.fieldLink RJx4a65c 9 "java/util/ArrayList" "elementData" "[Ljava/lang/Object;", Cond.methodLink RX2 115 yX2_drawnSum, Cond.instanceMethod yX2_drawnSum, Cond.selects RX2 yX2_drawnSum yX2_drawnSum, Cond.code yX2_drawnSum cX2_drawnSum 2 (some .long), Cond.fieldLink RX2 171 "NetPoints$Sharer" "picture" "LNetPoints$Picture;", Cond.methodLink RX2 125 yX2_drawBooks, Cond.instanceMethod yX2_drawBooks, Cond.selects RX2 yX2_drawBooks yX2_drawBooks, Cond.code yX2_drawBooks cX2_drawBooks 6 none, Cond.fieldLink RX2 10 "NetPoints" "picture0" "LNetPoints$Picture;"]
def wsL_owed_r3 : List Cond := [Cond.fieldLink RX2 16 "NetPoints" "picture1" "LNetPoints$Picture;", Cond.fieldLink RX2 30 "NetPoints" "yearOfNow" "I", Cond.fieldLink RX2 26 "NetPoints" "crossed" "Z", Cond.methodLink RX2 177 yX0_startBooks, Cond.instanceMethod yX0_startBooks, Cond.selects RX0 yX0_startBooks yX0_startBooks, Cond.initialized RX0, Cond.code yX0_startBooks cX0_startBooks 1 none, Cond.fieldLink RX0 63 "NetPoints$Picture" "grossSoFar" "J", Cond.fieldLink RX0 67 "NetPoints$Picture" "adjustedSoFar" "J", Cond.fieldLink RX0 70 "NetPoints$Picture" "feesSoFar" "J", Cond.fieldLink RX0 73 "NetPoints$Picture" "sharesSoFar" "J", Cond.fieldLink RX0 76 "NetPoints$Picture" "balanceSoFar" "J", Cond.fieldLink RX0 79 "NetPoints$Picture" "profitSoFar" "J", Cond.methodLink RX2 180 yX0_recoup, Cond.instanceMethod yX0_recoup, Cond.selects RX0 yX0_recoup yX0_recoup, Cond.code yX0_recoup cX0_recoup 12 (some .long), Cond.fieldLink RX0 86 "NetPoints$Picture" "topRate" "I", Cond.fieldLink RX0 16 "NetPoints$Picture" "costs" "[I", Cond.fieldLink RX0 100 "NetPoints$Picture" "overheadRate" "I", Cond.methodLink RX0 82 yX0_grossIn, Cond.instanceMethod yX0_grossIn, Cond.selects RX0 yX0_grossIn yX0_grossIn]
def wsL_owed_r4 : List Cond := [Cond.code yX0_grossIn cX0_grossIn 5 (some .long), Cond.fieldLink RX0 11 "NetPoints$Picture" "receipts" "[[I", Cond.static yX2_part, Cond.code yX2_part cX2_part 3 (some .long), Cond.constantLong RX2 191 (10000), Cond.methodLink RX0 93 yX0_feesIn, Cond.instanceMethod yX0_feesIn, Cond.selects RX0 yX0_feesIn yX0_feesIn, Cond.code yX0_feesIn cX0_feesIn 5 (some .long), Cond.fieldLink RX0 20 "NetPoints$Picture" "feeRates" "[I", Cond.methodLink RX0 96 yX0_sharesThatAreCosts, Cond.instanceMethod yX0_sharesThatAreCosts, Cond.selects RX0 yX0_sharesThatAreCosts yX0_sharesThatAreCosts, Cond.code yX0_sharesThatAreCosts cX0_sharesThatAreCosts 5 (some .long), Cond.fieldLink RX0 26 "NetPoints$Picture" "sharers" "Ljava/util/ArrayList;", Cond.classLink RX0 45 "NetPoints$Sharer", Cond.fieldLink RX0 47 "NetPoints$Sharer" "kind" "I", Cond.methodLink RX0 37 yJx4a65c_size_8abf5, Cond.methodLink RX0 41 yJx4a65c_get_915e3, Cond.methodLink RX0 110 yX1_shareOf, Cond.instanceMethod yX1_shareOf, Cond.selects RX1 yX1_shareOf yX1_shareOf, Cond.initialized RX1, Cond.code yX1_shareOf cX1_shareOf 7 (some .long)]
def wsL_owed_r5 : List Cond := [Cond.fieldLink RX1 22 "NetPoints$Sharer" "limit" "I", Cond.methodLink RX1 31 Lib.MathLoose.min_long.x, Cond.static Lib.MathLoose.min_long.x, Cond.initialized "java/lang/Math", Cond.code Lib.MathLoose.min_long.x Lib.MathLoose.min_long.code 4 (some .long), Cond.fieldLink RX1 25 "NetPoints$Sharer" "first" "I", Cond.fieldLink RX1 28 "NetPoints$Sharer" "second" "I", Cond.constantLong RX1 37 (10000), Cond.methodLink RX0 126 yX1_bonusAt, Cond.instanceMethod yX1_bonusAt, Cond.selects RX1 yX1_bonusAt yX1_bonusAt, Cond.code yX1_bonusAt cX1_bonusAt 3 (some .long), Cond.constantLong RX1 39 (100), Cond.methodLink RX2 184 yX0_moveGain, Cond.instanceMethod yX0_moveGain, Cond.selects RX0 yX0_moveGain yX0_moveGain, Cond.code yX0_moveGain cX0_moveGain 6 none, Cond.methodLink RX0 103 Lib.MathLoose.min_long.x, Cond.methodLink RX2 188 yX0_finishYear, Cond.instanceMethod yX0_finishYear, Cond.selects RX0 yX0_finishYear yX0_finishYear, Cond.code yX0_finishYear cX0_finishYear 2 none, Cond.fieldLink RX0 107 "NetPoints$Picture" "interestRate" "I", Cond.fieldLink RX0 30 "NetPoints$Picture" "balances" "[J"]
def wsL_owed_r6 : List Cond := [Cond.fieldLink RX0 34 "NetPoints$Picture" "profits" "[J", Cond.methodLink RX2 174 yX0_sumDrawn, Cond.instanceMethod yX0_sumDrawn, Cond.selects RX0 yX0_sumDrawn yX0_sumDrawn, Cond.code yX0_sumDrawn cX0_sumDrawn 2 (some .long), Cond.fieldLink RX0 117 "NetPoints$Sharer" "limit" "I", Cond.fieldLink RX0 120 "NetPoints$Sharer" "turn" "I", Cond.methodLink RX0 114 yX0_poolDrawn, Cond.instanceMethod yX0_poolDrawn, Cond.selects RX0 yX0_poolDrawn yX0_poolDrawn, Cond.code yX0_poolDrawn cX0_poolDrawn 1 (some .long), Cond.methodLink RX0 123 yX0_profitLeftAt, Cond.instanceMethod yX0_profitLeftAt, Cond.selects RX0 yX0_profitLeftAt yX0_profitLeftAt, Cond.code yX0_profitLeftAt cX0_profitLeftAt 6 (some .long)]
def wsL_owed : List Cond := .codeWith yL_owed cL_owed 4 (some .int) [(0, 9, 12, 13)] :: ((wsL_owed_r1 ++ (wsL_owed_r2 ++ (wsL_owed_r3 ++ (wsL_owed_r4 ++ (wsL_owed_r5 ++ wsL_owed_r6))))) ++ wsX20 ++ wsX10 ++ wsJx4a65c0 ++ wsX00 ++ (vx_atS RX2 152 "java/lang/IndexOutOfBoundsException" ["java/lang/RuntimeException", "java/lang/Exception"]).filter goodWord)
def wsL_law0_r1 : List Cond := [Cond.classLink RL 8 RX2, Cond.instantiable RX2 5, Cond.initialized RX2, Cond.classLink RL 74 RX3, Cond.instantiable RX3 19, Cond.initialized RX3, Cond.arrayClass .long, Cond.methodLink RL 73 yX2_init, Cond.instanceMethod yX2_init, Cond.code yX2_init cX2_init 1 none, Cond.methodLink RX2 1 objectInit, Cond.instanceMethod objectInit, Cond.code objectInit ⟨#[0xb1]⟩ 1 none, Cond.classLink RX2 7 RX0, Cond.instantiable RX0 15, Cond.initialized RX0, Cond.fieldLink RX2 10 "NetPoints" "picture0" "LNetPoints$Picture;", Cond.fieldLink RX2 16 "NetPoints" "picture1" "LNetPoints$Picture;", Cond.classLink RX2 19 RJx4a65c, Cond.instantiable RJx4a65c 3, Cond.initialized RJx4a65c, Cond.fieldLink RX2 22 "NetPoints" "allSharers" "Ljava/util/ArrayList;", Cond.fieldLink RX2 26 "NetPoints" "crossed" "Z", Cond.fieldLink RX2 30 "NetPoints" "yearOfNow" "I"]
def wsL_law0_r2 : List Cond := [Cond.instanceMethod yX0_init, Cond.code yX0_init cX0_init 1 none, Cond.methodLink RX0 3 objectInit, Cond.classLink RX0 9 "[[I", Cond.arrayClass .int, Cond.fieldLink RX0 11 "NetPoints$Picture" "receipts" "[[I", Cond.fieldLink RX0 16 "NetPoints$Picture" "costs" "[I", Cond.fieldLink RX0 20 "NetPoints$Picture" "feeRates" "[I", Cond.classLink RX0 23 RJx4a65c, Cond.fieldLink RX0 26 "NetPoints$Picture" "sharers" "Ljava/util/ArrayList;", Cond.fieldLink RX0 30 "NetPoints$Picture" "balances" "[J", Cond.fieldLink RX0 34 "NetPoints$Picture" "profits" "[J", Cond.methodLink RX0 25 yJx4a65c_init_da8c8, Cond.instanceMethod yJx4a65c_init_da8c8, Cond.code yJx4a65c_init_da8c8 cJx4a65c_init_da8c8 1 none, Cond.fieldLink RJx4a65c 39 "java/util/ArrayList" "DEFAULTCAPACITY_EMPTY_ELEMENTDATA" "[Ljava/lang/Object;", Cond.fieldLink RJx4a65c 9 "java/util/ArrayList" "elementData" "[Ljava/lang/Object;", Cond.methodLink RJx4a65c 1 yJxc12de_init_da8c8, Cond.instanceMethod yJxc12de_init_da8c8, Cond.initialized RJxc12de, Cond.code yJxc12de_init_da8c8 cJxc12de_init_da8c8 1 none, Cond.fieldLink RJxc12de 7 "java/util/AbstractList" "modCount" "I", Cond.methodLink RJxc12de 1 yJxa1e45_init_da8c8, Cond.instanceMethod yJxa1e45_init_da8c8]
def wsL_law0_r3 : List Cond := [Cond.initialized RJxa1e45, Cond.code yJxa1e45_init_da8c8 cJxa1e45_init_da8c8 1 none, Cond.methodLink RJxa1e45 1 objectInit, Cond.methodLink RX2 21 yJx4a65c_init_da8c8, Cond.methodLink RL 76 yX3_init, Cond.instanceMethod yX3_init, Cond.code yX3_init cX3_init 1 none, Cond.methodLink RX3 1 objectInit, Cond.fieldLink RX3 7 "NetPointsModel" "receipts" "[I", Cond.fieldLink RX3 13 "NetPointsModel" "costs" "[I", Cond.fieldLink RX3 16 "NetPointsModel" "feeRates" "[I", Cond.fieldLink RX3 19 "NetPointsModel" "tops" "[I", Cond.fieldLink RX3 22 "NetPointsModel" "overheads" "[I", Cond.fieldLink RX3 25 "NetPointsModel" "interests" "[I", Cond.fieldLink RX3 28 "NetPointsModel" "pictures" "[I", Cond.fieldLink RX3 31 "NetPointsModel" "kinds" "[I", Cond.fieldLink RX3 34 "NetPointsModel" "limits" "[I", Cond.fieldLink RX3 37 "NetPointsModel" "firsts" "[I", Cond.fieldLink RX3 40 "NetPointsModel" "seconds" "[I", Cond.fieldLink RX3 43 "NetPointsModel" "paidTo" "[I", Cond.fieldLink RX3 46 "NetPointsModel" "balances" "[J", Cond.fieldLink RX3 50 "NetPointsModel" "profits" "[J", Cond.fieldLink RX3 53 "NetPointsModel" "gained" "[J", Cond.methodLink RL 77 yL_setRates]
def wsL_law0_r4 : List Cond := [Cond.static yL_setRates, Cond.initialized RL, Cond.codeWith yL_setRates cL_setRates 6 (some .int) [(0, 9, 12, 13), (0, 9, 16, 15)], Cond.classLink RL 13 "java/lang/IndexOutOfBoundsException", Cond.classLink RL 15 "java/lang/IllegalArgumentException", Cond.methodLink RL 7 yX2_setRates, Cond.instanceMethod yX2_setRates, Cond.selects RX2 yX2_setRates yX2_setRates, Cond.code yX2_setRates cX2_setRates 6 none, Cond.fieldLink RX2 46 "NetPoints$Picture" "topRate" "I", Cond.fieldLink RX2 49 "NetPoints$Picture" "overheadRate" "I", Cond.fieldLink RX2 52 "NetPoints$Picture" "interestRate" "I", Cond.methodLink RX2 34 yX2_requirePicture, Cond.static yX2_requirePicture, Cond.code yX2_requirePicture cX2_requirePicture 1 none, Cond.classLink RX2 148 "java/lang/IndexOutOfBoundsException", Cond.initialized "java/lang/IndexOutOfBoundsException", Cond.methodLink RX2 38 yX2_requireRange, Cond.static yX2_requireRange, Cond.code yX2_requireRange cX2_requireRange 3 none, Cond.classLink RX2 155 "java/lang/IllegalArgumentException", Cond.initialized "java/lang/IllegalArgumentException", Cond.methodLink RX2 42 yX2_pictureOf, Cond.instanceMethod yX2_pictureOf]
def wsL_law0_r5 : List Cond := [Cond.selects RX2 yX2_pictureOf yX2_pictureOf, Cond.code yX2_pictureOf cX2_pictureOf 2 (some (.object "NetPoints$Picture")), Cond.methodLink RL 82 yX3_setRates, Cond.instanceMethod yX3_setRates, Cond.selects RX3 yX3_setRates yX3_setRates, Cond.code yX3_setRates cX3_setRates 5 none, Cond.fieldLink RX3 56 "NetPointsModel" "thrown" "I", Cond.methodLink RX3 64 yX3_isPicture, Cond.static yX3_isPicture, Cond.code yX3_isPicture cX3_isPicture 1 (some .boolean), Cond.methodLink RX3 60 yX3_in, Cond.static yX3_in, Cond.code yX3_in cX3_in 3 (some .boolean), Cond.methodLink RX3 68 yX3_fails, Cond.instanceMethod yX3_fails, Cond.selects RX3 yX3_fails yX3_fails, Cond.code yX3_fails cX3_fails 2 (some .int), Cond.methodLink RL 83 yX3_thrown, Cond.instanceMethod yX3_thrown, Cond.selects RX3 yX3_thrown yX3_thrown, Cond.code yX3_thrown cX3_thrown 1 (some .int), Cond.methodLink RL 86 yL_setFee, Cond.static yL_setFee, Cond.codeWith yL_setFee cL_setFee 6 (some .int) [(0, 12, 15, 13), (0, 12, 19, 15)]]
def wsL_law0_r6 : List Cond := [Cond.methodLink RL 17 yX2_setFee, Cond.instanceMethod yX2_setFee, Cond.selects RX2 yX2_setFee yX2_setFee, Cond.code yX2_setFee cX2_setFee 6 (some .int), Cond.fieldLink RX2 58 "NetPoints$Picture" "feeRates" "[I", Cond.methodLink RX2 55 yX2_requireWindow, Cond.static yX2_requireWindow, Cond.code yX2_requireWindow cX2_requireWindow 1 none, Cond.methodLink RL 89 yX3_setFee, Cond.instanceMethod yX3_setFee, Cond.selects RX3 yX3_setFee yX3_setFee, Cond.code yX3_setFee cX3_setFee 5 (some .int), Cond.methodLink RX3 72 yX3_isWindow, Cond.static yX3_isWindow, Cond.code yX3_isWindow cX3_isWindow 2 (some .boolean), Cond.methodLink RL 90 yX2_setCrossed, Cond.instanceMethod yX2_setCrossed, Cond.selects RX2 yX2_setCrossed yX2_setCrossed, Cond.code yX2_setCrossed cX2_setCrossed 3 (some .boolean), Cond.methodLink RL 94 yX3_setCrossed, Cond.instanceMethod yX3_setCrossed, Cond.selects RX3 yX3_setCrossed yX3_setCrossed, Cond.code yX3_setCrossed cX3_setCrossed 3 (some .boolean), Cond.fieldLink RX3 76 "NetPointsModel" "crossed" "Z"]
def wsL_law0_r7 : List Cond := [Cond.methodLink RL 95 yL_add, Cond.static yL_add, Cond.codeWith yL_add cL_add 8 (some .int) [(0, 16, 19, 13), (0, 16, 23, 15), (0, 16, 27, 25)], Cond.classLink RL 25 "java/lang/IllegalStateException", Cond.methodLink RL 21 yX2_add, Cond.instanceMethod yX2_add, Cond.selects RX2 yX2_add yX2_add, Cond.code yX2_add cX2_add 9 (some .int), Cond.constant RX2 62 (10000000), Cond.methodLink RX2 63 Lib.Math.max.name, Cond.static Lib.Math.max.name, Cond.initialized "java/lang/Math", Cond.code Lib.Math.max.name Lib.Math.max.code 2 (some .int), Cond.classLink RX2 73 RX1, Cond.instantiable RX1 7, Cond.initialized RX1, Cond.fieldLink RX2 75 "NetPoints$Picture" "sharers" "Ljava/util/ArrayList;", Cond.methodLink RX2 69 yX2_requireRoom, Cond.instanceMethod yX2_requireRoom, Cond.selects RX2 yX2_requireRoom yX2_requireRoom, Cond.code yX2_requireRoom cX2_requireRoom 4 none, Cond.classLink RX2 101 "java/lang/IllegalStateException", Cond.initialized "java/lang/IllegalStateException", Cond.methodLink RX2 78 yJx4a65c_size_8abf5]
def wsL_law0_r8 : List Cond := [Cond.instanceMethod yJx4a65c_size_8abf5, Cond.selects RJx4a65c yJx4a65c_size_8abf5 yJx4a65c_size_8abf5, Cond.code yJx4a65c_size_8abf5 cJx4a65c_size_8abf5 1 (some .int), Cond.fieldLink RJx4a65c 48 "java/util/ArrayList" "size" "I", Cond.methodLink RX2 164 yX0_netRatesGiven, Cond.instanceMethod yX0_netRatesGiven, Cond.selects RX0 yX0_netRatesGiven yX0_netRatesGiven, Cond.code yX0_netRatesGiven cX0_netRatesGiven 4 (some .int), Cond.classLink RX0 45 "NetPoints$Sharer", Cond.fieldLink RX0 47 "NetPoints$Sharer" "kind" "I", Cond.fieldLink RX0 51 "NetPoints$Sharer" "first" "I", Cond.fieldLink RX0 54 "NetPoints$Sharer" "second" "I", Cond.methodLink RX0 57 Lib.Math.max.name, Cond.methodLink RX0 37 yJx4a65c_size_8abf5, Cond.methodLink RX0 41 yJx4a65c_get_915e3, Cond.instanceMethod yJx4a65c_get_915e3, Cond.selects RJx4a65c yJx4a65c_get_915e3 yJx4a65c_get_915e3, Cond.code yJx4a65c_get_915e3 cJx4a65c_get_915e3 2 (some (.object "java/lang/Object")), Cond.methodLink RJx4a65c 118 yJ15_checkIndex_7cf53, Cond.static yJ15_checkIndex_7cf53, Cond.initialized RJ15, Cond.code yJ15_checkIndex_7cf53 cJ15_checkIndex_7cf53 2 (some .int), Cond.methodLink RJ15 105 yJ3_checkIndex_8e157, Cond.static yJ3_checkIndex_8e157]
def wsL_law0_r9 : List Cond := [Cond.initialized RJ3, Cond.code yJ3_checkIndex_8e157 cJ3_checkIndex_8e157 3 (some .int), Cond.methodLink RJx4a65c 123 yJx4a65c_elementData_915e3, Cond.instanceMethod yJx4a65c_elementData_915e3, Cond.selects RJx4a65c yJx4a65c_elementData_915e3 yJx4a65c_elementData_915e3, Cond.code yJx4a65c_elementData_915e3 cJx4a65c_elementData_915e3 2 (some (.object "java/lang/Object")), Cond.methodLink RX2 82 yX1_init, Cond.instanceMethod yX1_init, Cond.code yX1_init cX1_init 7 none, Cond.methodLink RX1 3 objectInit, Cond.fieldLink RX1 9 "NetPoints$Sharer" "picture" "LNetPoints$Picture;", Cond.fieldLink RX1 15 "NetPoints$Sharer" "turn" "I", Cond.fieldLink RX1 19 "NetPoints$Sharer" "kind" "I", Cond.fieldLink RX1 22 "NetPoints$Sharer" "limit" "I", Cond.fieldLink RX1 25 "NetPoints$Sharer" "first" "I", Cond.fieldLink RX1 28 "NetPoints$Sharer" "second" "I", Cond.methodLink RX2 85 yJx4a65c_add_9ea2d, Cond.instanceMethod yJx4a65c_add_9ea2d, Cond.selects RJx4a65c yJx4a65c_add_9ea2d yJx4a65c_add_9ea2d, Cond.code yJx4a65c_add_9ea2d cJx4a65c_add_9ea2d 2 (some .boolean), Cond.fieldLink RJx4a65c 63 "java/util/ArrayList" "modCount" "I", Cond.sameField "java/util/ArrayList" "java/util/AbstractList" "modCount" "I", Cond.methodLink RJx4a65c 131 yJx4a65c_add_72be8, Cond.instanceMethod yJx4a65c_add_72be8]
def wsL_law0_r10 : List Cond := [Cond.selects RJx4a65c yJx4a65c_add_72be8 yJx4a65c_add_72be8, Cond.code yJx4a65c_add_72be8 cJx4a65c_add_72be8 4 none, Cond.methodLink RJx4a65c 129 yJx4a65c_grow_d5877, Cond.instanceMethod yJx4a65c_grow_d5877, Cond.selects RJx4a65c yJx4a65c_grow_d5877 yJx4a65c_grow_d5877, Cond.code yJx4a65c_grow_d5877 cJx4a65c_grow_d5877 1 (some (.array (.object "java/lang/Object"))), Cond.methodLink RJx4a65c 69 yJx4a65c_grow_92f84, Cond.instanceMethod yJx4a65c_grow_92f84, Cond.selects RJx4a65c yJx4a65c_grow_92f84 yJx4a65c_grow_92f84, Cond.code yJx4a65c_grow_92f84 cJx4a65c_grow_92f84 4 (some (.array (.object "java/lang/Object"))), Cond.methodLink RJx4a65c 79 Lib.Math.max.name, Cond.classLink RJx4a65c 7 "java/lang/Object", Cond.methodLink RJx4a65c 73 yJ8_newLength_cabcc, Cond.static yJ8_newLength_cabcc, Cond.initialized RJ8, Cond.code yJ8_newLength_cabcc cJ8_newLength_cabcc 4 (some .int), Cond.methodLink RJ8 194 Lib.Math.max.name, Cond.constant RJ8 200 (2147483639), Cond.methodLink RJ8 201 yJ8_hugeLength_7cf53, Cond.static yJ8_hugeLength_7cf53, Cond.code yJ8_hugeLength_7cf53 cJ8_hugeLength_7cf53 3 (some .int), Cond.methodLink RJx4a65c 66 yJ7_copyOf_1904c, Cond.static yJ7_copyOf_1904c, Cond.initialized RJ7]
def wsL_law0_r11 : List Cond := [Cond.code yJ7_copyOf_1904c cJ7_copyOf_1904c 2 (some (.array (.object "java/lang/Object"))), Cond.methodLink RJ7 86 ⟨"java/lang/Object", "getClass", "()Ljava/lang/Class;"⟩, Cond.selects "[Ljava/lang/Object;" ⟨"java/lang/Object", "getClass", "()Ljava/lang/Class;"⟩ ⟨"java/lang/Object", "getClass", "()Ljava/lang/Class;"⟩, Cond.instanceMethod ⟨"java/lang/Object", "getClass", "()Ljava/lang/Class;"⟩, Cond.native ⟨"java/lang/Object", "getClass", "()Ljava/lang/Class;"⟩, Cond.methodLink RJ7 300 yJ7_copyOf_6403c, Cond.static yJ7_copyOf_6403c, Cond.code yJ7_copyOf_6403c cJ7_copyOf_6403c 4 (some (.array (.object "java/lang/Object"))), Cond.classLink RJ7 110 "[Ljava/lang/Object;", Cond.classLink RJ7 2 "java/lang/Object", Cond.methodLink RJ7 304 Lib.Math.min.name, Cond.static Lib.Math.min.name, Cond.code Lib.Math.min.name Lib.Math.min.code 2 (some .int), Cond.methodLink RJ7 150 arraycopyName, Cond.native arraycopyName, Cond.static arraycopyName, Cond.initialized "java/lang/System", Cond.methodLink RL 98 yX3_add, Cond.instanceMethod yX3_add, Cond.selects RX3 yX3_add yX3_add, Cond.code yX3_add cX3_add 10 (some .int), Cond.constant RX3 80 (10000000), Cond.fieldLink RX3 81 "NetPointsModel" "many" "I", Cond.methodLink RL 99 yL_receive]
def wsL_law0_r12 : List Cond := [Cond.static yL_receive, Cond.codeWith yL_receive cL_receive 6 (some .int) [(0, 12, 15, 13), (0, 12, 19, 15)], Cond.methodLink RL 27 yX2_receive, Cond.instanceMethod yX2_receive, Cond.selects RX2 yX2_receive yX2_receive, Cond.code yX2_receive cX2_receive 5 (some .int), Cond.constant RX2 89 (200000), Cond.fieldLink RX2 90 "NetPoints$Picture" "receipts" "[[I", Cond.methodLink RL 101 yX3_receive, Cond.instanceMethod yX3_receive, Cond.selects RX3 yX3_receive yX3_receive, Cond.code yX3_receive cX3_receive 4 (some .int), Cond.constant RX3 84 (200000), Cond.fieldLink RX3 85 "NetPointsModel" "now" "I", Cond.methodLink RX3 88 yX3_at, Cond.static yX3_at, Cond.code yX3_at cX3_at 3 (some .int), Cond.methodLink RL 102 yL_spend, Cond.static yL_spend, Cond.codeWith yL_spend cL_spend 5 (some .int) [(0, 10, 13, 13), (0, 10, 17, 15)], Cond.methodLink RL 30 yX2_spend, Cond.instanceMethod yX2_spend, Cond.selects RX2 yX2_spend yX2_spend, Cond.code yX2_spend cX2_spend 4 (some .int)]
def wsL_law0_r13 : List Cond := [Cond.fieldLink RX2 94 "NetPoints$Picture" "costs" "[I", Cond.methodLink RL 105 yX3_spend, Cond.instanceMethod yX3_spend, Cond.selects RX3 yX3_spend yX3_spend, Cond.code yX3_spend cX3_spend 3 (some .int), Cond.methodLink RL 106 yL_audit, Cond.static yL_audit, Cond.codeWith yL_audit cL_audit 7 (some .int) [(0, 14, 17, 13), (0, 14, 21, 15), (0, 14, 25, 25)], Cond.methodLink RL 34 yX2_audit, Cond.instanceMethod yX2_audit, Cond.selects RX2 yX2_audit yX2_audit, Cond.code yX2_audit cX2_audit 7 (some .int), Cond.constant RX2 97 (1000000), Cond.methodLink RX2 98 yX2_requireOpenToAudit, Cond.instanceMethod yX2_requireOpenToAudit, Cond.selects RX2 yX2_requireOpenToAudit yX2_requireOpenToAudit, Cond.code yX2_requireOpenToAudit cX2_requireOpenToAudit 2 none, Cond.methodLink RL 109 yX3_audit, Cond.instanceMethod yX3_audit, Cond.selects RX3 yX3_audit yX3_audit, Cond.code yX3_audit cX3_audit 6 (some .int), Cond.constant RX3 92 (1000000), Cond.methodLink RL 110 yL_closeYear, Cond.static yL_closeYear]
def wsL_law0_r14 : List Cond := [Cond.codeWith yL_closeYear cL_closeYear 3 (some .int) [(0, 8, 11, 25)], Cond.methodLink RL 38 yX2_closeYear, Cond.instanceMethod yX2_closeYear, Cond.selects RX2 yX2_closeYear yX2_closeYear, Cond.code yX2_closeYear cX2_closeYear 1 (some .int), Cond.methodLink RL 113 yX3_closeYear, Cond.instanceMethod yX3_closeYear, Cond.selects RX3 yX3_closeYear yX3_closeYear, Cond.code yX3_closeYear cX3_closeYear 1 (some .int), Cond.methodLink RL 114 yL_pay, Cond.static yL_pay, Cond.codeWith yL_pay cL_pay 4 (some .int) [(0, 9, 12, 13), (0, 9, 15, 25)], Cond.methodLink RL 42 yX2_pay, Cond.instanceMethod yX2_pay, Cond.selects RX2 yX2_pay yX2_pay, Cond.code yX2_pay cX2_pay 5 (some .int), Cond.classLink RX2 73 "NetPoints$Sharer", Cond.fieldLink RX2 119 "NetPoints$Sharer" "paidSoFar" "J", Cond.methodLink RX2 108 yX2_requireSharer, Cond.instanceMethod yX2_requireSharer, Cond.selects RX2 yX2_requireSharer yX2_requireSharer, Cond.code yX2_requireSharer cX2_requireSharer 2 none, Cond.methodLink RX2 111 yJx4a65c_get_915e3, Cond.methodLink RX2 115 yX2_drawnSum]
def wsL_law0_r15 : List Cond := [Cond.instanceMethod yX2_drawnSum, Cond.selects RX2 yX2_drawnSum yX2_drawnSum, Cond.code yX2_drawnSum cX2_drawnSum 2 (some .long), Cond.fieldLink RX2 171 "NetPoints$Sharer" "picture" "LNetPoints$Picture;", Cond.methodLink RX2 125 yX2_drawBooks, Cond.instanceMethod yX2_drawBooks, Cond.selects RX2 yX2_drawBooks yX2_drawBooks, Cond.code yX2_drawBooks cX2_drawBooks 6 none, Cond.methodLink RX2 177 yX0_startBooks, Cond.instanceMethod yX0_startBooks, Cond.selects RX0 yX0_startBooks yX0_startBooks, Cond.code yX0_startBooks cX0_startBooks 1 none, Cond.fieldLink RX0 63 "NetPoints$Picture" "grossSoFar" "J", Cond.fieldLink RX0 67 "NetPoints$Picture" "adjustedSoFar" "J", Cond.fieldLink RX0 70 "NetPoints$Picture" "feesSoFar" "J", Cond.fieldLink RX0 73 "NetPoints$Picture" "sharesSoFar" "J", Cond.fieldLink RX0 76 "NetPoints$Picture" "balanceSoFar" "J", Cond.fieldLink RX0 79 "NetPoints$Picture" "profitSoFar" "J", Cond.methodLink RX2 180 yX0_recoup, Cond.instanceMethod yX0_recoup, Cond.selects RX0 yX0_recoup yX0_recoup, Cond.code yX0_recoup cX0_recoup 12 (some .long), Cond.fieldLink RX0 86 "NetPoints$Picture" "topRate" "I", Cond.fieldLink RX0 100 "NetPoints$Picture" "overheadRate" "I"]
def wsL_law0_r16 : List Cond := [Cond.methodLink RX0 82 yX0_grossIn, Cond.instanceMethod yX0_grossIn, Cond.selects RX0 yX0_grossIn yX0_grossIn, Cond.code yX0_grossIn cX0_grossIn 5 (some .long), Cond.static yX2_part, Cond.code yX2_part cX2_part 3 (some .long), Cond.constantLong RX2 191 (10000), Cond.methodLink RX0 93 yX0_feesIn, Cond.instanceMethod yX0_feesIn, Cond.selects RX0 yX0_feesIn yX0_feesIn, Cond.code yX0_feesIn cX0_feesIn 5 (some .long), Cond.methodLink RX0 96 yX0_sharesThatAreCosts, Cond.instanceMethod yX0_sharesThatAreCosts, Cond.selects RX0 yX0_sharesThatAreCosts yX0_sharesThatAreCosts, Cond.code yX0_sharesThatAreCosts cX0_sharesThatAreCosts 5 (some .long), Cond.methodLink RX0 110 yX1_shareOf, Cond.instanceMethod yX1_shareOf, Cond.selects RX1 yX1_shareOf yX1_shareOf, Cond.code yX1_shareOf cX1_shareOf 7 (some .long), Cond.methodLink RX1 31 Lib.MathLoose.min_long.x, Cond.static Lib.MathLoose.min_long.x, Cond.code Lib.MathLoose.min_long.x Lib.MathLoose.min_long.code 4 (some .long), Cond.constantLong RX1 37 (10000), Cond.methodLink RX0 126 yX1_bonusAt]
def wsL_law0_r17 : List Cond := [Cond.instanceMethod yX1_bonusAt, Cond.selects RX1 yX1_bonusAt yX1_bonusAt, Cond.code yX1_bonusAt cX1_bonusAt 3 (some .long), Cond.constantLong RX1 39 (100), Cond.methodLink RX2 184 yX0_moveGain, Cond.instanceMethod yX0_moveGain, Cond.selects RX0 yX0_moveGain yX0_moveGain, Cond.code yX0_moveGain cX0_moveGain 6 none, Cond.methodLink RX0 103 Lib.MathLoose.min_long.x, Cond.methodLink RX2 188 yX0_finishYear, Cond.instanceMethod yX0_finishYear, Cond.selects RX0 yX0_finishYear yX0_finishYear, Cond.code yX0_finishYear cX0_finishYear 2 none, Cond.fieldLink RX0 107 "NetPoints$Picture" "interestRate" "I", Cond.methodLink RX2 174 yX0_sumDrawn, Cond.instanceMethod yX0_sumDrawn, Cond.selects RX0 yX0_sumDrawn yX0_sumDrawn, Cond.code yX0_sumDrawn cX0_sumDrawn 2 (some .long), Cond.fieldLink RX0 117 "NetPoints$Sharer" "limit" "I", Cond.fieldLink RX0 120 "NetPoints$Sharer" "turn" "I", Cond.methodLink RX0 114 yX0_poolDrawn, Cond.instanceMethod yX0_poolDrawn, Cond.selects RX0 yX0_poolDrawn yX0_poolDrawn, Cond.code yX0_poolDrawn cX0_poolDrawn 1 (some .long)]
def wsL_law0_r18 : List Cond := [Cond.methodLink RX0 123 yX0_profitLeftAt, Cond.instanceMethod yX0_profitLeftAt, Cond.selects RX0 yX0_profitLeftAt yX0_profitLeftAt, Cond.code yX0_profitLeftAt cX0_profitLeftAt 6 (some .long), Cond.methodLink RL 117 yX3_pay, Cond.instanceMethod yX3_pay, Cond.selects RX3 yX3_pay yX3_pay, Cond.code yX3_pay cX3_pay 3 (some .int), Cond.methodLink RX3 124 yX3_isSharer, Cond.instanceMethod yX3_isSharer, Cond.selects RX3 yX3_isSharer yX3_isSharer, Cond.code yX3_isSharer cX3_isSharer 2 (some .boolean), Cond.methodLink RX3 127 yX3_sumOf, Cond.instanceMethod yX3_sumOf, Cond.selects RX3 yX3_sumOf yX3_sumOf, Cond.code yX3_sumOf cX3_sumOf 5 (some .long), Cond.methodLink RX3 108 yX3_upTo, Cond.instanceMethod yX3_upTo, Cond.selects RX3 yX3_upTo yX3_upTo, Cond.code yX3_upTo cX3_upTo 8 (some .long), Cond.constantLong RX3 106 (100), Cond.methodLink RX3 93 yX3_grossOf, Cond.instanceMethod yX3_grossOf, Cond.selects RX3 yX3_grossOf yX3_grossOf]
def wsL_law0_r19 : List Cond := [Cond.code yX3_grossOf cX3_grossOf 6 (some .long), Cond.methodLink RX3 99 yX3_adjustedOf, Cond.instanceMethod yX3_adjustedOf, Cond.selects RX3 yX3_adjustedOf yX3_adjustedOf, Cond.code yX3_adjustedOf cX3_adjustedOf 5 (some .long), Cond.constantLong RX3 97 (10000), Cond.methodLink RX3 102 yX3_parted, Cond.instanceMethod yX3_parted, Cond.selects RX3 yX3_parted yX3_parted, Cond.code yX3_parted cX3_parted 6 (some .long), Cond.methodLink RX3 118 yX3_lay, Cond.instanceMethod yX3_lay, Cond.selects RX3 yX3_lay yX3_lay, Cond.code yX3_lay cX3_lay 8 none, Cond.methodLink RX3 111 yX3_feesOf, Cond.instanceMethod yX3_feesOf, Cond.selects RX3 yX3_feesOf yX3_feesOf, Cond.code yX3_feesOf cX3_feesOf 6 (some .long), Cond.methodLink RX3 114 yX3_move, Cond.instanceMethod yX3_move, Cond.selects RX3 yX3_move yX3_move, Cond.code yX3_move cX3_move 6 none, Cond.methodLink RX3 121 yX3_deferred, Cond.instanceMethod yX3_deferred]
def wsL_law0_r20 : List Cond := [Cond.selects RX3 yX3_deferred yX3_deferred, Cond.code yX3_deferred cX3_deferred 6 (some .long), Cond.methodLink RL 118 yX2_year, Cond.instanceMethod yX2_year, Cond.selects RX2 yX2_year yX2_year, Cond.code yX2_year cX2_year 1 (some .int), Cond.methodLink RL 121 yX3_year, Cond.instanceMethod yX3_year, Cond.selects RX3 yX3_year yX3_year, Cond.code yX3_year cX3_year 1 (some .int), Cond.methodLink RL 122 yL_gross, Cond.static yL_gross, Cond.codeWith yL_gross cL_gross 4 (some .int) [(0, 9, 12, 13)], Cond.methodLink RL 46 yX2_gross, Cond.instanceMethod yX2_gross, Cond.selects RX2 yX2_gross yX2_gross, Cond.code yX2_gross cX2_gross 2 (some .int), Cond.fieldLink RX2 128 "NetPoints$Picture" "grossSoFar" "J", Cond.methodLink RL 124 yX3_gross, Cond.instanceMethod yX3_gross, Cond.selects RX3 yX3_gross yX3_gross, Cond.code yX3_gross cX3_gross 5 (some .int), Cond.methodLink RL 125 yL_adjusted, Cond.static yL_adjusted]
def wsL_law0_r21 : List Cond := [Cond.codeWith yL_adjusted cL_adjusted 4 (some .int) [(0, 9, 12, 13)], Cond.methodLink RL 49 yX2_adjusted, Cond.instanceMethod yX2_adjusted, Cond.selects RX2 yX2_adjusted yX2_adjusted, Cond.code yX2_adjusted cX2_adjusted 2 (some .int), Cond.fieldLink RX2 131 "NetPoints$Picture" "adjustedSoFar" "J", Cond.methodLink RL 127 yX3_adjusted, Cond.instanceMethod yX3_adjusted, Cond.selects RX3 yX3_adjusted yX3_adjusted, Cond.code yX3_adjusted cX3_adjusted 5 (some .int), Cond.methodLink RL 128 yL_fees, Cond.static yL_fees, Cond.codeWith yL_fees cL_fees 4 (some .int) [(0, 9, 12, 13)], Cond.methodLink RL 52 yX2_fees, Cond.instanceMethod yX2_fees, Cond.selects RX2 yX2_fees yX2_fees, Cond.code yX2_fees cX2_fees 2 (some .int), Cond.fieldLink RX2 134 "NetPoints$Picture" "feesSoFar" "J", Cond.methodLink RL 130 yX3_fees, Cond.instanceMethod yX3_fees, Cond.selects RX3 yX3_fees yX3_fees, Cond.code yX3_fees cX3_fees 5 (some .int), Cond.methodLink RL 131 yL_balance, Cond.static yL_balance]
def wsL_law0_r22 : List Cond := [Cond.codeWith yL_balance cL_balance 5 (some .int) [(0, 10, 13, 13), (0, 10, 17, 15)], Cond.methodLink RL 55 yX2_balance, Cond.instanceMethod yX2_balance, Cond.selects RX2 yX2_balance yX2_balance, Cond.code yX2_balance cX2_balance 3 (some .int), Cond.fieldLink RX2 137 "NetPoints$Picture" "balances" "[J", Cond.methodLink RL 133 yX3_balance, Cond.instanceMethod yX3_balance, Cond.selects RX3 yX3_balance yX3_balance, Cond.code yX3_balance cX3_balance 3 (some .int), Cond.methodLink RX3 131 yX3_isYear, Cond.instanceMethod yX3_isYear, Cond.selects RX3 yX3_isYear yX3_isYear, Cond.code yX3_isYear cX3_isYear 3 (some .boolean), Cond.methodLink RL 134 yL_profit, Cond.static yL_profit, Cond.codeWith yL_profit cL_profit 5 (some .int) [(0, 10, 13, 13), (0, 10, 17, 15)], Cond.methodLink RL 58 yX2_profit, Cond.instanceMethod yX2_profit, Cond.selects RX2 yX2_profit yX2_profit, Cond.code yX2_profit cX2_profit 3 (some .int), Cond.fieldLink RX2 141 "NetPoints$Picture" "profits" "[J", Cond.methodLink RL 136 yX3_profit, Cond.instanceMethod yX3_profit]
def wsL_law0_r23 : List Cond := [Cond.selects RX3 yX3_profit yX3_profit, Cond.code yX3_profit cX3_profit 3 (some .int), Cond.methodLink RL 137 yL_pool, Cond.static yL_pool, Cond.codeWith yL_pool cL_pool 4 (some .int) [(0, 9, 12, 13)], Cond.methodLink RL 61 yX2_pool, Cond.instanceMethod yX2_pool, Cond.selects RX2 yX2_pool yX2_pool, Cond.code yX2_pool cX2_pool 2 (some .int), Cond.methodLink RX2 144 yX0_poolDrawn, Cond.methodLink RL 139 yX3_pool, Cond.instanceMethod yX3_pool, Cond.selects RX3 yX3_pool yX3_pool, Cond.code yX3_pool cX3_pool 2 (some .int), Cond.methodLink RL 140 yX2_sharers, Cond.instanceMethod yX2_sharers, Cond.selects RX2 yX2_sharers yX2_sharers, Cond.code yX2_sharers cX2_sharers 1 (some .int), Cond.methodLink RL 143 yX3_sharers, Cond.instanceMethod yX3_sharers, Cond.selects RX3 yX3_sharers yX3_sharers, Cond.code yX3_sharers cX3_sharers 1 (some .int), Cond.methodLink RL 144 yL_sum, Cond.static yL_sum]
def wsL_law0_r24 : List Cond := [Cond.codeWith yL_sum cL_sum 4 (some .int) [(0, 9, 12, 13)], Cond.methodLink RL 64 yX2_sum, Cond.instanceMethod yX2_sum, Cond.selects RX2 yX2_sum yX2_sum, Cond.code yX2_sum cX2_sum 2 (some .int), Cond.methodLink RL 146 yX3_sum, Cond.instanceMethod yX3_sum, Cond.selects RX3 yX3_sum yX3_sum, Cond.code yX3_sum cX3_sum 2 (some .int), Cond.methodLink RL 147 yL_paid, Cond.static yL_paid, Cond.codeWith yL_paid cL_paid 4 (some .int) [(0, 9, 12, 13)], Cond.methodLink RL 67 yX2_paid, Cond.instanceMethod yX2_paid, Cond.selects RX2 yX2_paid yX2_paid, Cond.code yX2_paid cX2_paid 2 (some .int), Cond.methodLink RL 149 yX3_paid, Cond.instanceMethod yX3_paid, Cond.selects RX3 yX3_paid yX3_paid, Cond.code yX3_paid cX3_paid 2 (some .int), Cond.methodLink RL 150 yL_owed, Cond.static yL_owed, Cond.codeWith yL_owed cL_owed 4 (some .int) [(0, 9, 12, 13)], Cond.methodLink RL 70 yX2_owed]
def wsL_law0_r25 : List Cond := [Cond.instanceMethod yX2_owed, Cond.selects RX2 yX2_owed yX2_owed, Cond.code yX2_owed cX2_owed 3 (some .int), Cond.methodLink RL 152 yX3_owed, Cond.instanceMethod yX3_owed, Cond.selects RX3 yX3_owed yX3_owed, Cond.code yX3_owed cX3_owed 2 (some .int)]
def wsL_law0 : List Cond := (wsL_law0_r1 ++ (wsL_law0_r2 ++ (wsL_law0_r3 ++ (wsL_law0_r4 ++ (wsL_law0_r5 ++ (wsL_law0_r6 ++ (wsL_law0_r7 ++ (wsL_law0_r8 ++ (wsL_law0_r9 ++ (wsL_law0_r10 ++ (wsL_law0_r11 ++ (wsL_law0_r12 ++ (wsL_law0_r13 ++ (wsL_law0_r14 ++ (wsL_law0_r15 ++ (wsL_law0_r16 ++ (wsL_law0_r17 ++ (wsL_law0_r18 ++ (wsL_law0_r19 ++ (wsL_law0_r20 ++ (wsL_law0_r21 ++ (wsL_law0_r22 ++ (wsL_law0_r23 ++ (wsL_law0_r24 ++ wsL_law0_r25)))))))))))))))))))))))) ++ wsX20 ++ wsX30 ++ wsX00 ++ wsJx4a65c0 ++ wsX10 ++ ([] : List Cond)
def wsL_law : List Cond := wsL_law0 ++ (vx_atS RX2 152 "java/lang/IndexOutOfBoundsException" ["java/lang/RuntimeException", "java/lang/Exception"]).filter goodWord ++ (vx_atS RX2 159 "java/lang/IllegalArgumentException" ["java/lang/RuntimeException", "java/lang/Exception"]).filter goodWord ++ (vx_atS RX2 105 "java/lang/IllegalStateException" ["java/lang/RuntimeException", "java/lang/Exception"]).filter goodWord
set_option maxRecDepth 20000 in
theorem wsL_law_in0 : ∀ w ∈ wsL_law0, w ∈ lw_tbl := fun w h => (goodIn_p wsL_law0 [50, 53, 58, 66, 69, 72, 621, 190, 193, 264, 284, 688, 691, 694, 698, 684, 291, 294, 702, 705, 169, 709, 303, 307, 311, 181, 331, 336, 339, 342, 346, 354, 387, 391, 395, 399, 402, 407, 410, 425, 431, 713, 443, 718, 722, 451, 726, 458, 463, 730, 471, 735, 479, 483, 489, 493, 497, 501, 505, 508, 513, 517, 521, 524, 529, 534, 539, 543, 547, 551, 739, 743, 747, 751, 755, 759, 764, 769, 773, 777, 781, 173, 785, 559, 789, 566, 793, 573, 797, 580, 801, 805, 587, 809, 594, 813, 177, 817, 602, 821, 609, 825, 616, 829] (by decide +kernel) (by decide +kernel) w h).1
theorem wsL_law_x0 : ∀ w ∈ (vx_atS RX2 152 "java/lang/IndexOutOfBoundsException" ["java/lang/RuntimeException", "java/lang/Exception"]).filter goodWord, w ∈ lw_tbl := by decide +kernel
theorem wsL_law_x1 : ∀ w ∈ (vx_atS RX2 159 "java/lang/IllegalArgumentException" ["java/lang/RuntimeException", "java/lang/Exception"]).filter goodWord, w ∈ lw_tbl := by decide +kernel
theorem wsL_law_x2 : ∀ w ∈ (vx_atS RX2 105 "java/lang/IllegalStateException" ["java/lang/RuntimeException", "java/lang/Exception"]).filter goodWord, w ∈ lw_tbl := by decide +kernel
theorem wsL_law_in : ∀ w ∈ wsL_law, w ∈ lw_tbl := fun w h => (List.mem_append.mp h).elim (fun h => (List.mem_append.mp h).elim (fun h => (List.mem_append.mp h).elim (fun h => wsL_law_in0 w h) (fun h => wsL_law_x0 w h)) (fun h => wsL_law_x1 w h)) (fun h => wsL_law_x2 w h)
theorem inlX0 : ∀ w ∈ wsX00, w ∈ wsL_law := fun _ h => List.mem_append_left _ (List.mem_append_left _ (List.mem_append_left _ (List.mem_append_left _ (List.mem_append_left _ (List.mem_append_left _ (List.mem_append_right _ h))))))
theorem inX0 : ∀ w ∈ wsX00, w ∈ lw_tbl := fun w h => wsL_law_in w (inlX0 w h)
theorem inlX1 : ∀ w ∈ wsX10, w ∈ wsL_law := fun _ h => List.mem_append_left _ (List.mem_append_left _ (List.mem_append_left _ (List.mem_append_left _ (List.mem_append_right _ h))))
theorem inX1 : ∀ w ∈ wsX10, w ∈ lw_tbl := fun w h => wsL_law_in w (inlX1 w h)
theorem inlX2 : ∀ w ∈ wsX20, w ∈ wsL_law := fun _ h => List.mem_append_left _ (List.mem_append_left _ (List.mem_append_left _ (List.mem_append_left _ (List.mem_append_left _ (List.mem_append_left _ (List.mem_append_left _ (List.mem_append_left _ (List.mem_append_right _ h))))))))
theorem inX2 : ∀ w ∈ wsX20, w ∈ lw_tbl := fun w h => wsL_law_in w (inlX2 w h)
theorem inlX3 : ∀ w ∈ wsX30, w ∈ wsL_law := fun _ h => List.mem_append_left _ (List.mem_append_left _ (List.mem_append_left _ (List.mem_append_left _ (List.mem_append_left _ (List.mem_append_left _ (List.mem_append_left _ (List.mem_append_right _ h)))))))
theorem inX3 : ∀ w ∈ wsX30, w ∈ lw_tbl := fun w h => wsL_law_in w (inlX3 w h)
theorem inJx145de : ∀ w ∈ wsJx145de0, w ∈ lw_tbl := by decide +kernel
theorem inJx8e188 : ∀ w ∈ wsJx8e1880, w ∈ lw_tbl := by decide +kernel
theorem inJxab1ab : ∀ w ∈ wsJxab1ab0, w ∈ lw_tbl := by decide +kernel
theorem inJ9 : ∀ w ∈ wsJ90, w ∈ lw_tbl := by decide +kernel
theorem inJ0 : ∀ w ∈ wsJ00, w ∈ lw_tbl := by decide +kernel
theorem inJ10 : ∀ w ∈ wsJ100, w ∈ lw_tbl := by decide +kernel
theorem inJxa1e45 : ∀ w ∈ wsJxa1e450, w ∈ lw_tbl := by decide +kernel
theorem inJxc12de : ∀ w ∈ wsJxc12de0, w ∈ lw_tbl := by decide +kernel
theorem inlJx4a65c : ∀ w ∈ wsJx4a65c0, w ∈ wsL_law := fun _ h => List.mem_append_left _ (List.mem_append_left _ (List.mem_append_left _ (List.mem_append_left _ (List.mem_append_left _ (List.mem_append_right _ h)))))
theorem inJx4a65c : ∀ w ∈ wsJx4a65c0, w ∈ lw_tbl := fun w h => wsL_law_in w (inlJx4a65c w h)
theorem inJ7 : ∀ w ∈ wsJ70, w ∈ lw_tbl := by decide +kernel
theorem inJx5ef63 : ∀ w ∈ wsJx5ef630, w ∈ lw_tbl := by decide +kernel
theorem inJxbd725 : ∀ w ∈ wsJxbd7250, w ∈ lw_tbl := by decide +kernel
theorem inJ15 : ∀ w ∈ wsJ150, w ∈ lw_tbl := by decide +kernel
theorem inJxf0a74 : ∀ w ∈ wsJxf0a740, w ∈ lw_tbl := by decide +kernel
theorem inJxa66e6 : ∀ w ∈ wsJxa66e60, w ∈ lw_tbl := by decide +kernel
theorem inJ8 : ∀ w ∈ wsJ80, w ∈ lw_tbl := by decide +kernel
theorem inJ3 : ∀ w ∈ wsJ30, w ∈ lw_tbl := by decide +kernel
set_option maxRecDepth 20000 in
theorem ggX0_init_Jx4a65c_init_da8c8 : GoodIn wsX0_init wsJx4a65c_init_da8c8 := goodIn_r _ [18, 19, 20, 21, 22, 23, 24, 25, 26, 27, 28, 29, 30, 2, 3, 46, 47, 48] (by decide +kernel) (by decide +kernel)
set_option maxRecDepth 20000 in
theorem gX0_init_Jx4a65c_init_da8c8 : GoodIn wsX0_init (wsJx4a65c_init_da8c8) := ggX0_init_Jx4a65c_init_da8c8
theorem dX0_init_0 : decode cX0_init 0 = .ok (.aload_n 0, 1) := by decide +kernel
theorem dX0_init_1 : decode cX0_init 1 = .ok (.invokespecial 3, 3) := by decide +kernel
theorem dX0_init_4 : decode cX0_init 4 = .ok (.aload_n 0, 1) := by decide +kernel
theorem dX0_init_5 : decode cX0_init 5 = .ok (.bipush 10, 2) := by decide +kernel
theorem dX0_init_7 : decode cX0_init 7 = .ok (.iconst 4, 1) := by decide +kernel
theorem dX0_init_8 : decode cX0_init 8 = .ok (.multianewarray 9 2, 4) := by decide +kernel
theorem dX0_init_12 : decode cX0_init 12 = .ok (.putfield 11, 3) := by decide +kernel
theorem dX0_init_15 : decode cX0_init 15 = .ok (.aload_n 0, 1) := by decide +kernel
theorem dX0_init_16 : decode cX0_init 16 = .ok (.bipush 10, 2) := by decide +kernel
theorem dX0_init_18 : decode cX0_init 18 = .ok (.newarray .int, 2) := by decide +kernel
theorem dX0_init_20 : decode cX0_init 20 = .ok (.putfield 16, 3) := by decide +kernel
theorem dX0_init_23 : decode cX0_init 23 = .ok (.aload_n 0, 1) := by decide +kernel
theorem dX0_init_24 : decode cX0_init 24 = .ok (.iconst 4, 1) := by decide +kernel
theorem dX0_init_25 : decode cX0_init 25 = .ok (.newarray .int, 2) := by decide +kernel
theorem dX0_init_27 : decode cX0_init 27 = .ok (.putfield 20, 3) := by decide +kernel
theorem dX0_init_30 : decode cX0_init 30 = .ok (.aload_n 0, 1) := by decide +kernel
theorem dX0_init_31 : decode cX0_init 31 = .ok (.new 23, 3) := by decide +kernel
theorem dX0_init_34 : decode cX0_init 34 = .ok (.dup, 1) := by decide +kernel
theorem dX0_init_35 : decode cX0_init 35 = .ok (.invokespecial 25, 3) := by decide +kernel
theorem dX0_init_38 : decode cX0_init 38 = .ok (.putfield 26, 3) := by decide +kernel
theorem dX0_init_41 : decode cX0_init 41 = .ok (.aload_n 0, 1) := by decide +kernel
theorem dX0_init_42 : decode cX0_init 42 = .ok (.bipush 10, 2) := by decide +kernel
theorem dX0_init_44 : decode cX0_init 44 = .ok (.newarray .long, 2) := by decide +kernel
theorem dX0_init_46 : decode cX0_init 46 = .ok (.putfield 30, 3) := by decide +kernel
theorem dX0_init_49 : decode cX0_init 49 = .ok (.aload_n 0, 1) := by decide +kernel
theorem dX0_init_50 : decode cX0_init 50 = .ok (.bipush 10, 2) := by decide +kernel
theorem dX0_init_52 : decode cX0_init 52 = .ok (.newarray .long, 2) := by decide +kernel
theorem dX0_init_54 : decode cX0_init 54 = .ok (.putfield 34, 3) := by decide +kernel
theorem dX0_init_57 : decode cX0_init 57 = .ok (.return_, 1) := by decide +kernel
set_option maxRecDepth 20000 in
theorem ggX0_netRatesGiven_Jx4a65c_size_8abf5 : GoodIn wsX0_netRatesGiven wsJx4a65c_size_8abf5 := goodIn_r _ [14, 15, 55, 56, 57] (by decide +kernel) (by decide +kernel)
set_option maxRecDepth 20000 in
theorem gX0_netRatesGiven_Jx4a65c_size_8abf5 : GoodIn wsX0_netRatesGiven (wsV RX0 37 RJx4a65c yJx4a65c_size_8abf5 wsJx4a65c_size_8abf5) := goodIn_app (goodIn_of _ (by decide +kernel)) ggX0_netRatesGiven_Jx4a65c_size_8abf5
set_option maxRecDepth 20000 in
theorem ggX0_netRatesGiven_Jx4a65c_get_915e3 : GoodIn wsX0_netRatesGiven wsJx4a65c_get_915e3 := goodIn_r _ [19, 15, 20, 21, 22, 23, 24, 25, 26, 27, 28, 29, 30, 13, 31, 32, 55, 56, 57] (by decide +kernel) (by decide +kernel)
set_option maxRecDepth 20000 in
theorem gX0_netRatesGiven_Jx4a65c_get_915e3 : GoodIn wsX0_netRatesGiven (wsV RX0 41 RJx4a65c yJx4a65c_get_915e3 wsJx4a65c_get_915e3) := goodIn_app (goodIn_of _ (by decide +kernel)) ggX0_netRatesGiven_Jx4a65c_get_915e3
theorem dX0_netRatesGiven_0 : decode cX0_netRatesGiven 0 = .ok (.iconst 0, 1) := by decide +kernel
theorem dX0_netRatesGiven_1 : decode cX0_netRatesGiven 1 = .ok (.istore_n 1, 1) := by decide +kernel
theorem dX0_netRatesGiven_2 : decode cX0_netRatesGiven 2 = .ok (.iconst 0, 1) := by decide +kernel
theorem dX0_netRatesGiven_3 : decode cX0_netRatesGiven 3 = .ok (.istore_n 2, 1) := by decide +kernel
theorem dX0_netRatesGiven_4 : decode cX0_netRatesGiven 4 = .ok (.iload_n 2, 1) := by decide +kernel
theorem dX0_netRatesGiven_5 : decode cX0_netRatesGiven 5 = .ok (.aload_n 0, 1) := by decide +kernel
theorem dX0_netRatesGiven_6 : decode cX0_netRatesGiven 6 = .ok (.getfield 26, 3) := by decide +kernel
theorem dX0_netRatesGiven_9 : decode cX0_netRatesGiven 9 = .ok (.invokevirtual 37, 3) := by decide +kernel
theorem dX0_netRatesGiven_12 : decode cX0_netRatesGiven 12 = .ok (.if_icmp .ge 43, 3) := by decide +kernel
theorem dX0_netRatesGiven_15 : decode cX0_netRatesGiven 15 = .ok (.aload_n 0, 1) := by decide +kernel
theorem dX0_netRatesGiven_16 : decode cX0_netRatesGiven 16 = .ok (.getfield 26, 3) := by decide +kernel
theorem dX0_netRatesGiven_19 : decode cX0_netRatesGiven 19 = .ok (.iload_n 2, 1) := by decide +kernel
theorem dX0_netRatesGiven_20 : decode cX0_netRatesGiven 20 = .ok (.invokevirtual 41, 3) := by decide +kernel
theorem dX0_netRatesGiven_23 : decode cX0_netRatesGiven 23 = .ok (.checkcast 45, 3) := by decide +kernel
theorem dX0_netRatesGiven_26 : decode cX0_netRatesGiven 26 = .ok (.astore_n 3, 1) := by decide +kernel
theorem dX0_netRatesGiven_27 : decode cX0_netRatesGiven 27 = .ok (.aload_n 3, 1) := by decide +kernel
theorem dX0_netRatesGiven_28 : decode cX0_netRatesGiven 28 = .ok (.getfield 47, 3) := by decide +kernel
theorem dX0_netRatesGiven_31 : decode cX0_netRatesGiven 31 = .ok (.iconst 1, 1) := by decide +kernel
theorem dX0_netRatesGiven_32 : decode cX0_netRatesGiven 32 = .ok (.if_icmp .ne 17, 3) := by decide +kernel
theorem dX0_netRatesGiven_35 : decode cX0_netRatesGiven 35 = .ok (.iload_n 1, 1) := by decide +kernel
theorem dX0_netRatesGiven_36 : decode cX0_netRatesGiven 36 = .ok (.aload_n 3, 1) := by decide +kernel
theorem dX0_netRatesGiven_37 : decode cX0_netRatesGiven 37 = .ok (.getfield 51, 3) := by decide +kernel
theorem dX0_netRatesGiven_40 : decode cX0_netRatesGiven 40 = .ok (.aload_n 3, 1) := by decide +kernel
theorem dX0_netRatesGiven_41 : decode cX0_netRatesGiven 41 = .ok (.getfield 54, 3) := by decide +kernel
theorem dX0_netRatesGiven_44 : decode cX0_netRatesGiven 44 = .ok (.invokestatic 57, 3) := by decide +kernel
theorem dX0_netRatesGiven_47 : decode cX0_netRatesGiven 47 = .ok (.iadd, 1) := by decide +kernel
theorem dX0_netRatesGiven_48 : decode cX0_netRatesGiven 48 = .ok (.istore_n 1, 1) := by decide +kernel
theorem dX0_netRatesGiven_49 : decode cX0_netRatesGiven 49 = .ok (.iinc 2 1, 3) := by decide +kernel
theorem dX0_netRatesGiven_52 : decode cX0_netRatesGiven 52 = .ok (.goto (-48), 3) := by decide +kernel
theorem dX0_netRatesGiven_55 : decode cX0_netRatesGiven 55 = .ok (.iload_n 1, 1) := by decide +kernel
theorem dX0_netRatesGiven_56 : decode cX0_netRatesGiven 56 = .ok (.ireturn, 1) := by decide +kernel
theorem dX0_startBooks_0 : decode cX0_startBooks 0 = .ok (.aload_n 0, 1) := by decide +kernel
theorem dX0_startBooks_1 : decode cX0_startBooks 1 = .ok (.lconst 0, 1) := by decide +kernel
theorem dX0_startBooks_2 : decode cX0_startBooks 2 = .ok (.putfield 63, 3) := by decide +kernel
theorem dX0_startBooks_5 : decode cX0_startBooks 5 = .ok (.aload_n 0, 1) := by decide +kernel
theorem dX0_startBooks_6 : decode cX0_startBooks 6 = .ok (.lconst 0, 1) := by decide +kernel
theorem dX0_startBooks_7 : decode cX0_startBooks 7 = .ok (.putfield 67, 3) := by decide +kernel
theorem dX0_startBooks_10 : decode cX0_startBooks 10 = .ok (.aload_n 0, 1) := by decide +kernel
theorem dX0_startBooks_11 : decode cX0_startBooks 11 = .ok (.lconst 0, 1) := by decide +kernel
theorem dX0_startBooks_12 : decode cX0_startBooks 12 = .ok (.putfield 70, 3) := by decide +kernel
theorem dX0_startBooks_15 : decode cX0_startBooks 15 = .ok (.aload_n 0, 1) := by decide +kernel
theorem dX0_startBooks_16 : decode cX0_startBooks 16 = .ok (.lconst 0, 1) := by decide +kernel
theorem dX0_startBooks_17 : decode cX0_startBooks 17 = .ok (.putfield 73, 3) := by decide +kernel
theorem dX0_startBooks_20 : decode cX0_startBooks 20 = .ok (.aload_n 0, 1) := by decide +kernel
theorem dX0_startBooks_21 : decode cX0_startBooks 21 = .ok (.lconst 0, 1) := by decide +kernel
theorem dX0_startBooks_22 : decode cX0_startBooks 22 = .ok (.putfield 76, 3) := by decide +kernel
theorem dX0_startBooks_25 : decode cX0_startBooks 25 = .ok (.aload_n 0, 1) := by decide +kernel
theorem dX0_startBooks_26 : decode cX0_startBooks 26 = .ok (.lconst 0, 1) := by decide +kernel
theorem dX0_startBooks_27 : decode cX0_startBooks 27 = .ok (.putfield 79, 3) := by decide +kernel
theorem dX0_startBooks_30 : decode cX0_startBooks 30 = .ok (.return_, 1) := by decide +kernel
set_option maxRecDepth 20000 in
theorem ggX0_recoup_X0_grossIn : GoodIn wsX0_recoup wsX0_grossIn := goodIn_r _ [14, 15, 73, 74, 75, 76, 77, 78, 79, 80, 81, 82, 83, 84, 85, 86, 87] (by decide +kernel) (by decide +kernel)
set_option maxRecDepth 20000 in
theorem gX0_recoup_X0_grossIn : GoodIn wsX0_recoup (wsV RX0 82 RX0 yX0_grossIn wsX0_grossIn) := goodIn_app (goodIn_of _ (by decide +kernel)) ggX0_recoup_X0_grossIn
set_option maxRecDepth 20000 in
theorem ggX0_recoup_X2_part : GoodIn wsX0_recoup wsX2_part := goodIn_r _ [18, 19] (by decide +kernel) (by decide +kernel)
set_option maxRecDepth 20000 in
theorem gX0_recoup_X2_part_n89 : GoodIn wsX0_recoup (wsX2_part) := ggX0_recoup_X2_part
set_option maxRecDepth 20000 in
theorem ggX0_recoup_X0_feesIn : GoodIn wsX0_recoup wsX0_feesIn := goodIn_r _ [23, 15, 24, 16, 17, 18, 19, 73, 74, 75, 76, 77, 78, 79, 80, 81, 82, 83, 84, 85, 86, 87] (by decide +kernel) (by decide +kernel)
set_option maxRecDepth 20000 in
theorem gX0_recoup_X0_feesIn : GoodIn wsX0_recoup (wsV RX0 93 RX0 yX0_feesIn wsX0_feesIn) := goodIn_app (goodIn_of _ (by decide +kernel)) ggX0_recoup_X0_feesIn
set_option maxRecDepth 20000 in
theorem ggX0_recoup_X0_sharesThatAreCosts : GoodIn wsX0_recoup wsX0_sharesThatAreCosts := goodIn_r _ [28, 29, 30, 31, 3, 2, 32, 33, 34, 35, 36, 37, 38, 39, 40, 41, 42, 43, 44, 45, 46, 47, 48, 49, 50, 51, 52, 53, 54, 55, 56, 57, 58, 59, 60, 61, 62, 63, 64, 65, 66, 67, 68, 69, 70, 71, 72, 73, 74, 75, 76, 77, 78, 79, 80, 81, 82, 83, 84, 85, 86, 87, 88, 89, 90, 91, 92, 93, 94, 95, 96, 97] (by decide +kernel) (by decide +kernel)
set_option maxRecDepth 20000 in
theorem gX0_recoup_X0_sharesThatAreCosts : GoodIn wsX0_recoup (wsV RX0 96 RX0 yX0_sharesThatAreCosts wsX0_sharesThatAreCosts) := goodIn_app (goodIn_of _ (by decide +kernel)) ggX0_recoup_X0_sharesThatAreCosts
theorem dX0_recoup_0 : decode cX0_recoup 0 = .ok (.aload_n 0, 1) := by decide +kernel
theorem dX0_recoup_1 : decode cX0_recoup 1 = .ok (.iload_n 1, 1) := by decide +kernel
theorem dX0_recoup_2 : decode cX0_recoup 2 = .ok (.invokevirtual 82, 3) := by decide +kernel
theorem dX0_recoup_5 : decode cX0_recoup 5 = .ok (.lstore_n 2, 1) := by decide +kernel
theorem dX0_recoup_6 : decode cX0_recoup 6 = .ok (.lload_n 2, 1) := by decide +kernel
theorem dX0_recoup_7 : decode cX0_recoup 7 = .ok (.lload_n 2, 1) := by decide +kernel
theorem dX0_recoup_8 : decode cX0_recoup 8 = .ok (.aload_n 0, 1) := by decide +kernel
theorem dX0_recoup_9 : decode cX0_recoup 9 = .ok (.getfield 86, 3) := by decide +kernel
theorem dX0_recoup_12 : decode cX0_recoup 12 = .ok (.invokestatic 89, 3) := by decide +kernel
theorem dX0_recoup_15 : decode cX0_recoup 15 = .ok (.lsub, 1) := by decide +kernel
theorem dX0_recoup_16 : decode cX0_recoup 16 = .ok (.lstore 4, 2) := by decide +kernel
theorem dX0_recoup_18 : decode cX0_recoup 18 = .ok (.aload_n 0, 1) := by decide +kernel
theorem dX0_recoup_19 : decode cX0_recoup 19 = .ok (.iload_n 1, 1) := by decide +kernel
theorem dX0_recoup_20 : decode cX0_recoup 20 = .ok (.invokevirtual 93, 3) := by decide +kernel
theorem dX0_recoup_23 : decode cX0_recoup 23 = .ok (.lstore 6, 2) := by decide +kernel
theorem dX0_recoup_25 : decode cX0_recoup 25 = .ok (.aload_n 0, 1) := by decide +kernel
theorem dX0_recoup_26 : decode cX0_recoup 26 = .ok (.dup, 1) := by decide +kernel
theorem dX0_recoup_27 : decode cX0_recoup 27 = .ok (.getfield 63, 3) := by decide +kernel
theorem dX0_recoup_30 : decode cX0_recoup 30 = .ok (.lload_n 2, 1) := by decide +kernel
theorem dX0_recoup_31 : decode cX0_recoup 31 = .ok (.ladd, 1) := by decide +kernel
theorem dX0_recoup_32 : decode cX0_recoup 32 = .ok (.putfield 63, 3) := by decide +kernel
theorem dX0_recoup_35 : decode cX0_recoup 35 = .ok (.aload_n 0, 1) := by decide +kernel
theorem dX0_recoup_36 : decode cX0_recoup 36 = .ok (.dup, 1) := by decide +kernel
theorem dX0_recoup_37 : decode cX0_recoup 37 = .ok (.getfield 67, 3) := by decide +kernel
theorem dX0_recoup_40 : decode cX0_recoup 40 = .ok (.lload 4, 2) := by decide +kernel
theorem dX0_recoup_42 : decode cX0_recoup 42 = .ok (.ladd, 1) := by decide +kernel
theorem dX0_recoup_43 : decode cX0_recoup 43 = .ok (.putfield 67, 3) := by decide +kernel
theorem dX0_recoup_46 : decode cX0_recoup 46 = .ok (.aload_n 0, 1) := by decide +kernel
theorem dX0_recoup_47 : decode cX0_recoup 47 = .ok (.dup, 1) := by decide +kernel
theorem dX0_recoup_48 : decode cX0_recoup 48 = .ok (.getfield 70, 3) := by decide +kernel
theorem dX0_recoup_51 : decode cX0_recoup 51 = .ok (.lload 6, 2) := by decide +kernel
theorem dX0_recoup_53 : decode cX0_recoup 53 = .ok (.ladd, 1) := by decide +kernel
theorem dX0_recoup_54 : decode cX0_recoup 54 = .ok (.putfield 70, 3) := by decide +kernel
theorem dX0_recoup_57 : decode cX0_recoup 57 = .ok (.aload_n 0, 1) := by decide +kernel
theorem dX0_recoup_58 : decode cX0_recoup 58 = .ok (.invokevirtual 96, 3) := by decide +kernel
theorem dX0_recoup_61 : decode cX0_recoup 61 = .ok (.lstore 8, 2) := by decide +kernel
theorem dX0_recoup_63 : decode cX0_recoup 63 = .ok (.aload_n 0, 1) := by decide +kernel
theorem dX0_recoup_64 : decode cX0_recoup 64 = .ok (.dup, 1) := by decide +kernel
theorem dX0_recoup_65 : decode cX0_recoup 65 = .ok (.getfield 76, 3) := by decide +kernel
theorem dX0_recoup_68 : decode cX0_recoup 68 = .ok (.aload_n 0, 1) := by decide +kernel
theorem dX0_recoup_69 : decode cX0_recoup 69 = .ok (.getfield 16, 3) := by decide +kernel
theorem dX0_recoup_72 : decode cX0_recoup 72 = .ok (.iload_n 1, 1) := by decide +kernel
theorem dX0_recoup_73 : decode cX0_recoup 73 = .ok (.iaload, 1) := by decide +kernel
theorem dX0_recoup_74 : decode cX0_recoup 74 = .ok (.i2l, 1) := by decide +kernel
theorem dX0_recoup_75 : decode cX0_recoup 75 = .ok (.aload_n 0, 1) := by decide +kernel
theorem dX0_recoup_76 : decode cX0_recoup 76 = .ok (.getfield 16, 3) := by decide +kernel
theorem dX0_recoup_79 : decode cX0_recoup 79 = .ok (.iload_n 1, 1) := by decide +kernel
theorem dX0_recoup_80 : decode cX0_recoup 80 = .ok (.iaload, 1) := by decide +kernel
theorem dX0_recoup_81 : decode cX0_recoup 81 = .ok (.i2l, 1) := by decide +kernel
theorem dX0_recoup_82 : decode cX0_recoup 82 = .ok (.aload_n 0, 1) := by decide +kernel
theorem dX0_recoup_83 : decode cX0_recoup 83 = .ok (.getfield 100, 3) := by decide +kernel
theorem dX0_recoup_86 : decode cX0_recoup 86 = .ok (.invokestatic 89, 3) := by decide +kernel
theorem dX0_recoup_89 : decode cX0_recoup 89 = .ok (.ladd, 1) := by decide +kernel
theorem dX0_recoup_90 : decode cX0_recoup 90 = .ok (.lload 8, 2) := by decide +kernel
theorem dX0_recoup_92 : decode cX0_recoup 92 = .ok (.ladd, 1) := by decide +kernel
theorem dX0_recoup_93 : decode cX0_recoup 93 = .ok (.aload_n 0, 1) := by decide +kernel
theorem dX0_recoup_94 : decode cX0_recoup 94 = .ok (.getfield 73, 3) := by decide +kernel
theorem dX0_recoup_97 : decode cX0_recoup 97 = .ok (.lsub, 1) := by decide +kernel
theorem dX0_recoup_98 : decode cX0_recoup 98 = .ok (.ladd, 1) := by decide +kernel
theorem dX0_recoup_99 : decode cX0_recoup 99 = .ok (.putfield 76, 3) := by decide +kernel
theorem dX0_recoup_102 : decode cX0_recoup 102 = .ok (.aload_n 0, 1) := by decide +kernel
theorem dX0_recoup_103 : decode cX0_recoup 103 = .ok (.lload 8, 2) := by decide +kernel
theorem dX0_recoup_105 : decode cX0_recoup 105 = .ok (.putfield 73, 3) := by decide +kernel
theorem dX0_recoup_108 : decode cX0_recoup 108 = .ok (.aload_n 0, 1) := by decide +kernel
theorem dX0_recoup_109 : decode cX0_recoup 109 = .ok (.dup, 1) := by decide +kernel
theorem dX0_recoup_110 : decode cX0_recoup 110 = .ok (.getfield 76, 3) := by decide +kernel
theorem dX0_recoup_113 : decode cX0_recoup 113 = .ok (.lload 4, 2) := by decide +kernel
theorem dX0_recoup_115 : decode cX0_recoup 115 = .ok (.lload 6, 2) := by decide +kernel
theorem dX0_recoup_117 : decode cX0_recoup 117 = .ok (.lsub, 1) := by decide +kernel
theorem dX0_recoup_118 : decode cX0_recoup 118 = .ok (.lsub, 1) := by decide +kernel
theorem dX0_recoup_119 : decode cX0_recoup 119 = .ok (.putfield 76, 3) := by decide +kernel
theorem dX0_recoup_122 : decode cX0_recoup 122 = .ok (.aload_n 0, 1) := by decide +kernel
theorem dX0_recoup_123 : decode cX0_recoup 123 = .ok (.getfield 76, 3) := by decide +kernel
theorem dX0_recoup_126 : decode cX0_recoup 126 = .ok (.lconst 0, 1) := by decide +kernel
theorem dX0_recoup_127 : decode cX0_recoup 127 = .ok (.lcmp, 1) := by decide +kernel
theorem dX0_recoup_128 : decode cX0_recoup 128 = .ok (.ifCond .lt 5, 3) := by decide +kernel
theorem dX0_recoup_131 : decode cX0_recoup 131 = .ok (.lconst 0, 1) := by decide +kernel
theorem dX0_recoup_132 : decode cX0_recoup 132 = .ok (.lreturn, 1) := by decide +kernel
theorem dX0_recoup_133 : decode cX0_recoup 133 = .ok (.aload_n 0, 1) := by decide +kernel
theorem dX0_recoup_134 : decode cX0_recoup 134 = .ok (.getfield 76, 3) := by decide +kernel
theorem dX0_recoup_137 : decode cX0_recoup 137 = .ok (.lneg, 1) := by decide +kernel
theorem dX0_recoup_138 : decode cX0_recoup 138 = .ok (.lstore 10, 2) := by decide +kernel
theorem dX0_recoup_140 : decode cX0_recoup 140 = .ok (.aload_n 0, 1) := by decide +kernel
theorem dX0_recoup_141 : decode cX0_recoup 141 = .ok (.dup, 1) := by decide +kernel
theorem dX0_recoup_142 : decode cX0_recoup 142 = .ok (.getfield 79, 3) := by decide +kernel
theorem dX0_recoup_145 : decode cX0_recoup 145 = .ok (.lload 10, 2) := by decide +kernel
theorem dX0_recoup_147 : decode cX0_recoup 147 = .ok (.ladd, 1) := by decide +kernel
theorem dX0_recoup_148 : decode cX0_recoup 148 = .ok (.putfield 79, 3) := by decide +kernel
theorem dX0_recoup_151 : decode cX0_recoup 151 = .ok (.aload_n 0, 1) := by decide +kernel
theorem dX0_recoup_152 : decode cX0_recoup 152 = .ok (.lconst 0, 1) := by decide +kernel
theorem dX0_recoup_153 : decode cX0_recoup 153 = .ok (.putfield 76, 3) := by decide +kernel
theorem dX0_recoup_156 : decode cX0_recoup 156 = .ok (.lload 10, 2) := by decide +kernel
theorem dX0_recoup_158 : decode cX0_recoup 158 = .ok (.lreturn, 1) := by decide +kernel
theorem dX0_moveGain_0 : decode cX0_moveGain 0 = .ok (.lload_n 1, 1) := by decide +kernel
theorem dX0_moveGain_1 : decode cX0_moveGain 1 = .ok (.aload_n 3, 1) := by decide +kernel
theorem dX0_moveGain_2 : decode cX0_moveGain 2 = .ok (.getfield 76, 3) := by decide +kernel
theorem dX0_moveGain_5 : decode cX0_moveGain 5 = .ok (.invokestatic 103, 3) := by decide +kernel
theorem dX0_moveGain_8 : decode cX0_moveGain 8 = .ok (.lstore 4, 2) := by decide +kernel
theorem dX0_moveGain_10 : decode cX0_moveGain 10 = .ok (.aload_n 0, 1) := by decide +kernel
theorem dX0_moveGain_11 : decode cX0_moveGain 11 = .ok (.dup, 1) := by decide +kernel
theorem dX0_moveGain_12 : decode cX0_moveGain 12 = .ok (.getfield 79, 3) := by decide +kernel
theorem dX0_moveGain_15 : decode cX0_moveGain 15 = .ok (.lload 4, 2) := by decide +kernel
theorem dX0_moveGain_17 : decode cX0_moveGain 17 = .ok (.lsub, 1) := by decide +kernel
theorem dX0_moveGain_18 : decode cX0_moveGain 18 = .ok (.putfield 79, 3) := by decide +kernel
theorem dX0_moveGain_21 : decode cX0_moveGain 21 = .ok (.aload_n 3, 1) := by decide +kernel
theorem dX0_moveGain_22 : decode cX0_moveGain 22 = .ok (.dup, 1) := by decide +kernel
theorem dX0_moveGain_23 : decode cX0_moveGain 23 = .ok (.getfield 76, 3) := by decide +kernel
theorem dX0_moveGain_26 : decode cX0_moveGain 26 = .ok (.lload 4, 2) := by decide +kernel
theorem dX0_moveGain_28 : decode cX0_moveGain 28 = .ok (.lsub, 1) := by decide +kernel
theorem dX0_moveGain_29 : decode cX0_moveGain 29 = .ok (.putfield 76, 3) := by decide +kernel
theorem dX0_moveGain_32 : decode cX0_moveGain 32 = .ok (.return_, 1) := by decide +kernel
set_option maxRecDepth 20000 in
theorem ggX0_finishYear_X2_part : GoodIn wsX0_finishYear wsX2_part := goodIn_r _ [8, 9] (by decide +kernel) (by decide +kernel)
set_option maxRecDepth 20000 in
theorem gX0_finishYear_X2_part_n89 : GoodIn wsX0_finishYear (wsX2_part) := ggX0_finishYear_X2_part
theorem dX0_finishYear_0 : decode cX0_finishYear 0 = .ok (.aload_n 0, 1) := by decide +kernel
theorem dX0_finishYear_1 : decode cX0_finishYear 1 = .ok (.dup, 1) := by decide +kernel
theorem dX0_finishYear_2 : decode cX0_finishYear 2 = .ok (.getfield 76, 3) := by decide +kernel
theorem dX0_finishYear_5 : decode cX0_finishYear 5 = .ok (.aload_n 0, 1) := by decide +kernel
theorem dX0_finishYear_6 : decode cX0_finishYear 6 = .ok (.getfield 76, 3) := by decide +kernel
theorem dX0_finishYear_9 : decode cX0_finishYear 9 = .ok (.aload_n 0, 1) := by decide +kernel
theorem dX0_finishYear_10 : decode cX0_finishYear 10 = .ok (.getfield 107, 3) := by decide +kernel
theorem dX0_finishYear_13 : decode cX0_finishYear 13 = .ok (.invokestatic 89, 3) := by decide +kernel
theorem dX0_finishYear_16 : decode cX0_finishYear 16 = .ok (.ladd, 1) := by decide +kernel
theorem dX0_finishYear_17 : decode cX0_finishYear 17 = .ok (.putfield 76, 3) := by decide +kernel
theorem dX0_finishYear_20 : decode cX0_finishYear 20 = .ok (.aload_n 0, 1) := by decide +kernel
theorem dX0_finishYear_21 : decode cX0_finishYear 21 = .ok (.getfield 30, 3) := by decide +kernel
theorem dX0_finishYear_24 : decode cX0_finishYear 24 = .ok (.iload_n 1, 1) := by decide +kernel
theorem dX0_finishYear_25 : decode cX0_finishYear 25 = .ok (.aload_n 0, 1) := by decide +kernel
theorem dX0_finishYear_26 : decode cX0_finishYear 26 = .ok (.getfield 76, 3) := by decide +kernel
theorem dX0_finishYear_29 : decode cX0_finishYear 29 = .ok (.lastore, 1) := by decide +kernel
theorem dX0_finishYear_30 : decode cX0_finishYear 30 = .ok (.aload_n 0, 1) := by decide +kernel
theorem dX0_finishYear_31 : decode cX0_finishYear 31 = .ok (.getfield 34, 3) := by decide +kernel
theorem dX0_finishYear_34 : decode cX0_finishYear 34 = .ok (.iload_n 1, 1) := by decide +kernel
theorem dX0_finishYear_35 : decode cX0_finishYear 35 = .ok (.aload_n 0, 1) := by decide +kernel
theorem dX0_finishYear_36 : decode cX0_finishYear 36 = .ok (.getfield 79, 3) := by decide +kernel
theorem dX0_finishYear_39 : decode cX0_finishYear 39 = .ok (.lastore, 1) := by decide +kernel
theorem dX0_finishYear_40 : decode cX0_finishYear 40 = .ok (.return_, 1) := by decide +kernel
set_option maxRecDepth 20000 in
theorem ggX0_sumDrawn_X1_shareOf : GoodIn wsX0_sumDrawn wsX1_shareOf := goodIn_r _ [14, 15, 16, 6, 7, 8, 17, 18, 19, 60, 61, 62, 63, 64, 65, 66] (by decide +kernel) (by decide +kernel)
set_option maxRecDepth 20000 in
theorem gX0_sumDrawn_X1_shareOf : GoodIn wsX0_sumDrawn (wsV RX0 110 RX1 yX1_shareOf wsX1_shareOf) := goodIn_app (goodIn_of _ (by decide +kernel)) ggX0_sumDrawn_X1_shareOf
set_option maxRecDepth 20000 in
theorem ggX0_sumDrawn_X0_poolDrawn : GoodIn wsX0_sumDrawn wsX0_poolDrawn := goodIn_r _ [24, 25, 26, 27, 28, 29, 30, 31, 32, 33, 34, 23, 35, 36, 37, 1, 3, 5, 6, 7, 8, 38, 39, 40, 41, 42, 43, 44, 45, 46, 47, 48, 49, 50, 51, 52, 53, 54, 67, 68, 69, 70, 71, 72, 73, 74, 75, 76, 77, 78, 79, 80, 81, 82, 83, 84, 60, 61, 62, 63, 64, 65, 66] (by decide +kernel) (by decide +kernel)
set_option maxRecDepth 20000 in
theorem gX0_sumDrawn_X0_poolDrawn : GoodIn wsX0_sumDrawn (wsV RX0 114 RX0 yX0_poolDrawn wsX0_poolDrawn) := goodIn_app (goodIn_of _ (by decide +kernel)) ggX0_sumDrawn_X0_poolDrawn
set_option maxRecDepth 20000 in
theorem ggX0_sumDrawn_X0_profitLeftAt : GoodIn wsX0_sumDrawn wsX0_profitLeftAt := goodIn_r _ [35, 36, 25, 37, 1, 3, 5, 6, 7, 8, 26, 27, 28, 29, 30, 31, 38, 39, 40, 41, 42, 43, 44, 45, 46, 47, 48, 49, 50, 51, 52, 53, 54, 67, 68, 69, 70, 71, 72, 73, 74, 75, 76, 77, 78, 79, 80, 81, 60, 61, 62, 63, 64, 65, 66, 82, 83, 84] (by decide +kernel) (by decide +kernel)
set_option maxRecDepth 20000 in
theorem gX0_sumDrawn_X0_profitLeftAt : GoodIn wsX0_sumDrawn (wsV RX0 123 RX0 yX0_profitLeftAt wsX0_profitLeftAt) := goodIn_app (goodIn_of _ (by decide +kernel)) ggX0_sumDrawn_X0_profitLeftAt
set_option maxRecDepth 20000 in
theorem ggX0_sumDrawn_X1_bonusAt : GoodIn wsX0_sumDrawn wsX1_bonusAt := goodIn_r _ [58, 15, 17, 59, 60, 61, 62, 63, 64, 65, 66] (by decide +kernel) (by decide +kernel)
set_option maxRecDepth 20000 in
theorem gX0_sumDrawn_X1_bonusAt : GoodIn wsX0_sumDrawn (wsV RX0 126 RX1 yX1_bonusAt wsX1_bonusAt) := goodIn_app (goodIn_of _ (by decide +kernel)) ggX0_sumDrawn_X1_bonusAt
theorem dX0_sumDrawn_0 : decode cX0_sumDrawn 0 = .ok (.aload_n 1, 1) := by decide +kernel
theorem dX0_sumDrawn_1 : decode cX0_sumDrawn 1 = .ok (.getfield 47, 3) := by decide +kernel
theorem dX0_sumDrawn_4 : decode cX0_sumDrawn 4 = .ok (.tableswitch 63 0 2 #[28, 37, 46], 28) := by decide +kernel
theorem dX0_sumDrawn_32 : decode cX0_sumDrawn 32 = .ok (.aload_n 1, 1) := by decide +kernel
theorem dX0_sumDrawn_33 : decode cX0_sumDrawn 33 = .ok (.aload_n 0, 1) := by decide +kernel
theorem dX0_sumDrawn_34 : decode cX0_sumDrawn 34 = .ok (.getfield 67, 3) := by decide +kernel
theorem dX0_sumDrawn_37 : decode cX0_sumDrawn 37 = .ok (.invokevirtual 110, 3) := by decide +kernel
theorem dX0_sumDrawn_40 : decode cX0_sumDrawn 40 = .ok (.lreturn, 1) := by decide +kernel
theorem dX0_sumDrawn_41 : decode cX0_sumDrawn 41 = .ok (.aload_n 1, 1) := by decide +kernel
theorem dX0_sumDrawn_42 : decode cX0_sumDrawn 42 = .ok (.aload_n 0, 1) := by decide +kernel
theorem dX0_sumDrawn_43 : decode cX0_sumDrawn 43 = .ok (.invokevirtual 114, 3) := by decide +kernel
theorem dX0_sumDrawn_46 : decode cX0_sumDrawn 46 = .ok (.invokevirtual 110, 3) := by decide +kernel
theorem dX0_sumDrawn_49 : decode cX0_sumDrawn 49 = .ok (.lreturn, 1) := by decide +kernel
theorem dX0_sumDrawn_50 : decode cX0_sumDrawn 50 = .ok (.aload_n 1, 1) := by decide +kernel
theorem dX0_sumDrawn_51 : decode cX0_sumDrawn 51 = .ok (.getfield 117, 3) := by decide +kernel
theorem dX0_sumDrawn_54 : decode cX0_sumDrawn 54 = .ok (.i2l, 1) := by decide +kernel
theorem dX0_sumDrawn_55 : decode cX0_sumDrawn 55 = .ok (.aload_n 0, 1) := by decide +kernel
theorem dX0_sumDrawn_56 : decode cX0_sumDrawn 56 = .ok (.aload_n 1, 1) := by decide +kernel
theorem dX0_sumDrawn_57 : decode cX0_sumDrawn 57 = .ok (.getfield 120, 3) := by decide +kernel
theorem dX0_sumDrawn_60 : decode cX0_sumDrawn 60 = .ok (.invokevirtual 123, 3) := by decide +kernel
theorem dX0_sumDrawn_63 : decode cX0_sumDrawn 63 = .ok (.invokestatic 103, 3) := by decide +kernel
theorem dX0_sumDrawn_66 : decode cX0_sumDrawn 66 = .ok (.lreturn, 1) := by decide +kernel
theorem dX0_sumDrawn_67 : decode cX0_sumDrawn 67 = .ok (.aload_n 1, 1) := by decide +kernel
theorem dX0_sumDrawn_68 : decode cX0_sumDrawn 68 = .ok (.aload_n 0, 1) := by decide +kernel
theorem dX0_sumDrawn_69 : decode cX0_sumDrawn 69 = .ok (.getfield 63, 3) := by decide +kernel
theorem dX0_sumDrawn_72 : decode cX0_sumDrawn 72 = .ok (.invokevirtual 126, 3) := by decide +kernel
theorem dX0_sumDrawn_75 : decode cX0_sumDrawn 75 = .ok (.lreturn, 1) := by decide +kernel
set_option maxRecDepth 20000 in
theorem ggX0_poolDrawn_Jx4a65c_size_8abf5 : GoodIn wsX0_poolDrawn wsJx4a65c_size_8abf5 := goodIn_r _ [6, 7, 53, 54, 55] (by decide +kernel) (by decide +kernel)
set_option maxRecDepth 20000 in
theorem gX0_poolDrawn_Jx4a65c_size_8abf5 : GoodIn wsX0_poolDrawn (wsV RX0 37 RJx4a65c yJx4a65c_size_8abf5 wsJx4a65c_size_8abf5) := goodIn_app (goodIn_of _ (by decide +kernel)) ggX0_poolDrawn_Jx4a65c_size_8abf5
set_option maxRecDepth 20000 in
theorem ggX0_poolDrawn_X0_profitLeftAt : GoodIn wsX0_poolDrawn wsX0_profitLeftAt := goodIn_r _ [12, 13, 1, 14, 15, 16, 17, 18, 19, 20, 2, 3, 4, 5, 6, 7, 21, 22, 23, 24, 25, 26, 27, 28, 29, 30, 31, 32, 33, 34, 35, 36, 37, 38, 39, 40, 41, 42, 43, 44, 45, 46, 47, 48, 49, 50, 51, 52, 56, 57, 58, 59, 60, 61, 62, 53, 54, 55] (by decide +kernel) (by decide +kernel)
set_option maxRecDepth 20000 in
theorem gX0_poolDrawn_X0_profitLeftAt : GoodIn wsX0_poolDrawn (wsV RX0 123 RX0 yX0_profitLeftAt wsX0_profitLeftAt) := goodIn_app (goodIn_of _ (by decide +kernel)) ggX0_poolDrawn_X0_profitLeftAt
theorem dX0_poolDrawn_0 : decode cX0_poolDrawn 0 = .ok (.aload_n 0, 1) := by decide +kernel
theorem dX0_poolDrawn_1 : decode cX0_poolDrawn 1 = .ok (.aload_n 0, 1) := by decide +kernel
theorem dX0_poolDrawn_2 : decode cX0_poolDrawn 2 = .ok (.getfield 26, 3) := by decide +kernel
theorem dX0_poolDrawn_5 : decode cX0_poolDrawn 5 = .ok (.invokevirtual 37, 3) := by decide +kernel
theorem dX0_poolDrawn_8 : decode cX0_poolDrawn 8 = .ok (.invokevirtual 123, 3) := by decide +kernel
theorem dX0_poolDrawn_11 : decode cX0_poolDrawn 11 = .ok (.lreturn, 1) := by decide +kernel
theorem dX0_grossIn_0 : decode cX0_grossIn 0 = .ok (.lconst 0, 1) := by decide +kernel
theorem dX0_grossIn_1 : decode cX0_grossIn 1 = .ok (.lstore_n 2, 1) := by decide +kernel
theorem dX0_grossIn_2 : decode cX0_grossIn 2 = .ok (.iconst 0, 1) := by decide +kernel
theorem dX0_grossIn_3 : decode cX0_grossIn 3 = .ok (.istore 4, 2) := by decide +kernel
theorem dX0_grossIn_5 : decode cX0_grossIn 5 = .ok (.iload 4, 2) := by decide +kernel
theorem dX0_grossIn_7 : decode cX0_grossIn 7 = .ok (.iconst 4, 1) := by decide +kernel
theorem dX0_grossIn_8 : decode cX0_grossIn 8 = .ok (.if_icmp .ge 22, 3) := by decide +kernel
theorem dX0_grossIn_11 : decode cX0_grossIn 11 = .ok (.lload_n 2, 1) := by decide +kernel
theorem dX0_grossIn_12 : decode cX0_grossIn 12 = .ok (.aload_n 0, 1) := by decide +kernel
theorem dX0_grossIn_13 : decode cX0_grossIn 13 = .ok (.getfield 11, 3) := by decide +kernel
theorem dX0_grossIn_16 : decode cX0_grossIn 16 = .ok (.iload_n 1, 1) := by decide +kernel
theorem dX0_grossIn_17 : decode cX0_grossIn 17 = .ok (.aaload, 1) := by decide +kernel
theorem dX0_grossIn_18 : decode cX0_grossIn 18 = .ok (.iload 4, 2) := by decide +kernel
theorem dX0_grossIn_20 : decode cX0_grossIn 20 = .ok (.iaload, 1) := by decide +kernel
theorem dX0_grossIn_21 : decode cX0_grossIn 21 = .ok (.i2l, 1) := by decide +kernel
theorem dX0_grossIn_22 : decode cX0_grossIn 22 = .ok (.ladd, 1) := by decide +kernel
theorem dX0_grossIn_23 : decode cX0_grossIn 23 = .ok (.lstore_n 2, 1) := by decide +kernel
theorem dX0_grossIn_24 : decode cX0_grossIn 24 = .ok (.iinc 4 1, 3) := by decide +kernel
theorem dX0_grossIn_27 : decode cX0_grossIn 27 = .ok (.goto (-22), 3) := by decide +kernel
theorem dX0_grossIn_30 : decode cX0_grossIn 30 = .ok (.lload_n 2, 1) := by decide +kernel
theorem dX0_grossIn_31 : decode cX0_grossIn 31 = .ok (.lreturn, 1) := by decide +kernel
set_option maxRecDepth 20000 in
theorem ggX0_feesIn_X2_part : GoodIn wsX0_feesIn wsX2_part := goodIn_r _ [5, 6] (by decide +kernel) (by decide +kernel)
set_option maxRecDepth 20000 in
theorem gX0_feesIn_X2_part_n89 : GoodIn wsX0_feesIn (wsX2_part) := ggX0_feesIn_X2_part
theorem dX0_feesIn_0 : decode cX0_feesIn 0 = .ok (.lconst 0, 1) := by decide +kernel
theorem dX0_feesIn_1 : decode cX0_feesIn 1 = .ok (.lstore_n 2, 1) := by decide +kernel
theorem dX0_feesIn_2 : decode cX0_feesIn 2 = .ok (.iconst 0, 1) := by decide +kernel
theorem dX0_feesIn_3 : decode cX0_feesIn 3 = .ok (.istore 4, 2) := by decide +kernel
theorem dX0_feesIn_5 : decode cX0_feesIn 5 = .ok (.iload 4, 2) := by decide +kernel
theorem dX0_feesIn_7 : decode cX0_feesIn 7 = .ok (.iconst 4, 1) := by decide +kernel
theorem dX0_feesIn_8 : decode cX0_feesIn 8 = .ok (.if_icmp .ge 32, 3) := by decide +kernel
theorem dX0_feesIn_11 : decode cX0_feesIn 11 = .ok (.lload_n 2, 1) := by decide +kernel
theorem dX0_feesIn_12 : decode cX0_feesIn 12 = .ok (.aload_n 0, 1) := by decide +kernel
theorem dX0_feesIn_13 : decode cX0_feesIn 13 = .ok (.getfield 11, 3) := by decide +kernel
theorem dX0_feesIn_16 : decode cX0_feesIn 16 = .ok (.iload_n 1, 1) := by decide +kernel
theorem dX0_feesIn_17 : decode cX0_feesIn 17 = .ok (.aaload, 1) := by decide +kernel
theorem dX0_feesIn_18 : decode cX0_feesIn 18 = .ok (.iload 4, 2) := by decide +kernel
theorem dX0_feesIn_20 : decode cX0_feesIn 20 = .ok (.iaload, 1) := by decide +kernel
theorem dX0_feesIn_21 : decode cX0_feesIn 21 = .ok (.i2l, 1) := by decide +kernel
theorem dX0_feesIn_22 : decode cX0_feesIn 22 = .ok (.aload_n 0, 1) := by decide +kernel
theorem dX0_feesIn_23 : decode cX0_feesIn 23 = .ok (.getfield 20, 3) := by decide +kernel
theorem dX0_feesIn_26 : decode cX0_feesIn 26 = .ok (.iload 4, 2) := by decide +kernel
theorem dX0_feesIn_28 : decode cX0_feesIn 28 = .ok (.iaload, 1) := by decide +kernel
theorem dX0_feesIn_29 : decode cX0_feesIn 29 = .ok (.invokestatic 89, 3) := by decide +kernel
theorem dX0_feesIn_32 : decode cX0_feesIn 32 = .ok (.ladd, 1) := by decide +kernel
theorem dX0_feesIn_33 : decode cX0_feesIn 33 = .ok (.lstore_n 2, 1) := by decide +kernel
theorem dX0_feesIn_34 : decode cX0_feesIn 34 = .ok (.iinc 4 1, 3) := by decide +kernel
theorem dX0_feesIn_37 : decode cX0_feesIn 37 = .ok (.goto (-32), 3) := by decide +kernel
theorem dX0_feesIn_40 : decode cX0_feesIn 40 = .ok (.lload_n 2, 1) := by decide +kernel
theorem dX0_feesIn_41 : decode cX0_feesIn 41 = .ok (.lreturn, 1) := by decide +kernel
set_option maxRecDepth 20000 in
theorem ggX0_sharesThatAreCosts_Jx4a65c_size_8abf5 : GoodIn wsX0_sharesThatAreCosts wsJx4a65c_size_8abf5 := goodIn_r _ [10, 11, 69, 70, 71] (by decide +kernel) (by decide +kernel)
set_option maxRecDepth 20000 in
theorem gX0_sharesThatAreCosts_Jx4a65c_size_8abf5 : GoodIn wsX0_sharesThatAreCosts (wsV RX0 37 RJx4a65c yJx4a65c_size_8abf5 wsJx4a65c_size_8abf5) := goodIn_app (goodIn_of _ (by decide +kernel)) ggX0_sharesThatAreCosts_Jx4a65c_size_8abf5
set_option maxRecDepth 20000 in
theorem ggX0_sharesThatAreCosts_Jx4a65c_get_915e3 : GoodIn wsX0_sharesThatAreCosts wsJx4a65c_get_915e3 := goodIn_r _ [15, 11, 16, 17, 18, 19, 20, 21, 22, 23, 24, 25, 26, 9, 27, 28, 69, 70, 71] (by decide +kernel) (by decide +kernel)
set_option maxRecDepth 20000 in
theorem gX0_sharesThatAreCosts_Jx4a65c_get_915e3 : GoodIn wsX0_sharesThatAreCosts (wsV RX0 41 RJx4a65c yJx4a65c_get_915e3 wsJx4a65c_get_915e3) := goodIn_app (goodIn_of _ (by decide +kernel)) ggX0_sharesThatAreCosts_Jx4a65c_get_915e3
set_option maxRecDepth 20000 in
theorem ggX0_sharesThatAreCosts_X1_shareOf : GoodIn wsX0_sharesThatAreCosts wsX1_shareOf := goodIn_r _ [33, 34, 35, 36, 37, 38, 39, 40, 41, 62, 63, 64, 65, 66, 67, 68] (by decide +kernel) (by decide +kernel)
set_option maxRecDepth 20000 in
theorem gX0_sharesThatAreCosts_X1_shareOf : GoodIn wsX0_sharesThatAreCosts (wsV RX0 110 RX1 yX1_shareOf wsX1_shareOf) := goodIn_app (goodIn_of _ (by decide +kernel)) ggX0_sharesThatAreCosts_X1_shareOf
set_option maxRecDepth 20000 in
theorem ggX0_sharesThatAreCosts_X1_bonusAt : GoodIn wsX0_sharesThatAreCosts wsX1_bonusAt := goodIn_r _ [45, 34, 39, 46, 62, 63, 64, 65, 66, 67, 68] (by decide +kernel) (by decide +kernel)
set_option maxRecDepth 20000 in
theorem gX0_sharesThatAreCosts_X1_bonusAt : GoodIn wsX0_sharesThatAreCosts (wsV RX0 126 RX1 yX1_bonusAt wsX1_bonusAt) := goodIn_app (goodIn_of _ (by decide +kernel)) ggX0_sharesThatAreCosts_X1_bonusAt
theorem dX0_sharesThatAreCosts_0 : decode cX0_sharesThatAreCosts 0 = .ok (.lconst 0, 1) := by decide +kernel
theorem dX0_sharesThatAreCosts_1 : decode cX0_sharesThatAreCosts 1 = .ok (.lstore_n 1, 1) := by decide +kernel
theorem dX0_sharesThatAreCosts_2 : decode cX0_sharesThatAreCosts 2 = .ok (.iconst 0, 1) := by decide +kernel
theorem dX0_sharesThatAreCosts_3 : decode cX0_sharesThatAreCosts 3 = .ok (.istore_n 3, 1) := by decide +kernel
theorem dX0_sharesThatAreCosts_4 : decode cX0_sharesThatAreCosts 4 = .ok (.iload_n 3, 1) := by decide +kernel
theorem dX0_sharesThatAreCosts_5 : decode cX0_sharesThatAreCosts 5 = .ok (.aload_n 0, 1) := by decide +kernel
theorem dX0_sharesThatAreCosts_6 : decode cX0_sharesThatAreCosts 6 = .ok (.getfield 26, 3) := by decide +kernel
theorem dX0_sharesThatAreCosts_9 : decode cX0_sharesThatAreCosts 9 = .ok (.invokevirtual 37, 3) := by decide +kernel
theorem dX0_sharesThatAreCosts_12 : decode cX0_sharesThatAreCosts 12 = .ok (.if_icmp .ge 66, 3) := by decide +kernel
theorem dX0_sharesThatAreCosts_15 : decode cX0_sharesThatAreCosts 15 = .ok (.aload_n 0, 1) := by decide +kernel
theorem dX0_sharesThatAreCosts_16 : decode cX0_sharesThatAreCosts 16 = .ok (.getfield 26, 3) := by decide +kernel
theorem dX0_sharesThatAreCosts_19 : decode cX0_sharesThatAreCosts 19 = .ok (.iload_n 3, 1) := by decide +kernel
theorem dX0_sharesThatAreCosts_20 : decode cX0_sharesThatAreCosts 20 = .ok (.invokevirtual 41, 3) := by decide +kernel
theorem dX0_sharesThatAreCosts_23 : decode cX0_sharesThatAreCosts 23 = .ok (.checkcast 45, 3) := by decide +kernel
theorem dX0_sharesThatAreCosts_26 : decode cX0_sharesThatAreCosts 26 = .ok (.astore 4, 2) := by decide +kernel
theorem dX0_sharesThatAreCosts_28 : decode cX0_sharesThatAreCosts 28 = .ok (.aload 4, 2) := by decide +kernel
theorem dX0_sharesThatAreCosts_30 : decode cX0_sharesThatAreCosts 30 = .ok (.getfield 47, 3) := by decide +kernel
theorem dX0_sharesThatAreCosts_33 : decode cX0_sharesThatAreCosts 33 = .ok (.ifCond .ne 18, 3) := by decide +kernel
theorem dX0_sharesThatAreCosts_36 : decode cX0_sharesThatAreCosts 36 = .ok (.lload_n 1, 1) := by decide +kernel
theorem dX0_sharesThatAreCosts_37 : decode cX0_sharesThatAreCosts 37 = .ok (.aload 4, 2) := by decide +kernel
theorem dX0_sharesThatAreCosts_39 : decode cX0_sharesThatAreCosts 39 = .ok (.aload_n 0, 1) := by decide +kernel
theorem dX0_sharesThatAreCosts_40 : decode cX0_sharesThatAreCosts 40 = .ok (.getfield 67, 3) := by decide +kernel
theorem dX0_sharesThatAreCosts_43 : decode cX0_sharesThatAreCosts 43 = .ok (.invokevirtual 110, 3) := by decide +kernel
theorem dX0_sharesThatAreCosts_46 : decode cX0_sharesThatAreCosts 46 = .ok (.ladd, 1) := by decide +kernel
theorem dX0_sharesThatAreCosts_47 : decode cX0_sharesThatAreCosts 47 = .ok (.lstore_n 1, 1) := by decide +kernel
theorem dX0_sharesThatAreCosts_48 : decode cX0_sharesThatAreCosts 48 = .ok (.goto 24, 3) := by decide +kernel
theorem dX0_sharesThatAreCosts_51 : decode cX0_sharesThatAreCosts 51 = .ok (.aload 4, 2) := by decide +kernel
theorem dX0_sharesThatAreCosts_53 : decode cX0_sharesThatAreCosts 53 = .ok (.getfield 47, 3) := by decide +kernel
theorem dX0_sharesThatAreCosts_56 : decode cX0_sharesThatAreCosts 56 = .ok (.iconst 3, 1) := by decide +kernel
theorem dX0_sharesThatAreCosts_57 : decode cX0_sharesThatAreCosts 57 = .ok (.if_icmp .ne 15, 3) := by decide +kernel
theorem dX0_sharesThatAreCosts_60 : decode cX0_sharesThatAreCosts 60 = .ok (.lload_n 1, 1) := by decide +kernel
theorem dX0_sharesThatAreCosts_61 : decode cX0_sharesThatAreCosts 61 = .ok (.aload 4, 2) := by decide +kernel
theorem dX0_sharesThatAreCosts_63 : decode cX0_sharesThatAreCosts 63 = .ok (.aload_n 0, 1) := by decide +kernel
theorem dX0_sharesThatAreCosts_64 : decode cX0_sharesThatAreCosts 64 = .ok (.getfield 63, 3) := by decide +kernel
theorem dX0_sharesThatAreCosts_67 : decode cX0_sharesThatAreCosts 67 = .ok (.invokevirtual 126, 3) := by decide +kernel
theorem dX0_sharesThatAreCosts_70 : decode cX0_sharesThatAreCosts 70 = .ok (.ladd, 1) := by decide +kernel
theorem dX0_sharesThatAreCosts_71 : decode cX0_sharesThatAreCosts 71 = .ok (.lstore_n 1, 1) := by decide +kernel
theorem dX0_sharesThatAreCosts_72 : decode cX0_sharesThatAreCosts 72 = .ok (.iinc 3 1, 3) := by decide +kernel
theorem dX0_sharesThatAreCosts_75 : decode cX0_sharesThatAreCosts 75 = .ok (.goto (-71), 3) := by decide +kernel
theorem dX0_sharesThatAreCosts_78 : decode cX0_sharesThatAreCosts 78 = .ok (.lload_n 1, 1) := by decide +kernel
theorem dX0_sharesThatAreCosts_79 : decode cX0_sharesThatAreCosts 79 = .ok (.lreturn, 1) := by decide +kernel
set_option maxRecDepth 20000 in
theorem ggX0_profitLeftAt_Jx4a65c_size_8abf5 : GoodIn wsX0_profitLeftAt wsJx4a65c_size_8abf5 := goodIn_r _ [14, 15, 55, 56, 57] (by decide +kernel) (by decide +kernel)
set_option maxRecDepth 20000 in
theorem gX0_profitLeftAt_Jx4a65c_size_8abf5 : GoodIn wsX0_profitLeftAt (wsV RX0 37 RJx4a65c yJx4a65c_size_8abf5 wsJx4a65c_size_8abf5) := goodIn_app (goodIn_of _ (by decide +kernel)) ggX0_profitLeftAt_Jx4a65c_size_8abf5
set_option maxRecDepth 20000 in
theorem ggX0_profitLeftAt_Jx4a65c_get_915e3 : GoodIn wsX0_profitLeftAt wsJx4a65c_get_915e3 := goodIn_r _ [19, 15, 20, 21, 22, 23, 24, 25, 26, 27, 28, 29, 30, 13, 31, 32, 55, 56, 57] (by decide +kernel) (by decide +kernel)
set_option maxRecDepth 20000 in
theorem gX0_profitLeftAt_Jx4a65c_get_915e3 : GoodIn wsX0_profitLeftAt (wsV RX0 41 RJx4a65c yJx4a65c_get_915e3 wsJx4a65c_get_915e3) := goodIn_app (goodIn_of _ (by decide +kernel)) ggX0_profitLeftAt_Jx4a65c_get_915e3
theorem dX0_profitLeftAt_0 : decode cX0_profitLeftAt 0 = .ok (.aload_n 0, 1) := by decide +kernel
theorem dX0_profitLeftAt_1 : decode cX0_profitLeftAt 1 = .ok (.getfield 79, 3) := by decide +kernel
theorem dX0_profitLeftAt_4 : decode cX0_profitLeftAt 4 = .ok (.lstore_n 2, 1) := by decide +kernel
theorem dX0_profitLeftAt_5 : decode cX0_profitLeftAt 5 = .ok (.iconst 0, 1) := by decide +kernel
theorem dX0_profitLeftAt_6 : decode cX0_profitLeftAt 6 = .ok (.istore 4, 2) := by decide +kernel
theorem dX0_profitLeftAt_8 : decode cX0_profitLeftAt 8 = .ok (.iload 4, 2) := by decide +kernel
theorem dX0_profitLeftAt_10 : decode cX0_profitLeftAt 10 = .ok (.aload_n 0, 1) := by decide +kernel
theorem dX0_profitLeftAt_11 : decode cX0_profitLeftAt 11 = .ok (.getfield 26, 3) := by decide +kernel
theorem dX0_profitLeftAt_14 : decode cX0_profitLeftAt 14 = .ok (.invokevirtual 37, 3) := by decide +kernel
theorem dX0_profitLeftAt_17 : decode cX0_profitLeftAt 17 = .ok (.if_icmp .ge 51, 3) := by decide +kernel
theorem dX0_profitLeftAt_20 : decode cX0_profitLeftAt 20 = .ok (.iload 4, 2) := by decide +kernel
theorem dX0_profitLeftAt_22 : decode cX0_profitLeftAt 22 = .ok (.iload_n 1, 1) := by decide +kernel
theorem dX0_profitLeftAt_23 : decode cX0_profitLeftAt 23 = .ok (.if_icmp .ge 45, 3) := by decide +kernel
theorem dX0_profitLeftAt_26 : decode cX0_profitLeftAt 26 = .ok (.aload_n 0, 1) := by decide +kernel
theorem dX0_profitLeftAt_27 : decode cX0_profitLeftAt 27 = .ok (.getfield 26, 3) := by decide +kernel
theorem dX0_profitLeftAt_30 : decode cX0_profitLeftAt 30 = .ok (.iload 4, 2) := by decide +kernel
theorem dX0_profitLeftAt_32 : decode cX0_profitLeftAt 32 = .ok (.invokevirtual 41, 3) := by decide +kernel
theorem dX0_profitLeftAt_35 : decode cX0_profitLeftAt 35 = .ok (.checkcast 45, 3) := by decide +kernel
theorem dX0_profitLeftAt_38 : decode cX0_profitLeftAt 38 = .ok (.astore 5, 2) := by decide +kernel
theorem dX0_profitLeftAt_40 : decode cX0_profitLeftAt 40 = .ok (.aload 5, 2) := by decide +kernel
theorem dX0_profitLeftAt_42 : decode cX0_profitLeftAt 42 = .ok (.getfield 47, 3) := by decide +kernel
theorem dX0_profitLeftAt_45 : decode cX0_profitLeftAt 45 = .ok (.iconst 2, 1) := by decide +kernel
theorem dX0_profitLeftAt_46 : decode cX0_profitLeftAt 46 = .ok (.if_icmp .ne 16, 3) := by decide +kernel
theorem dX0_profitLeftAt_49 : decode cX0_profitLeftAt 49 = .ok (.lload_n 2, 1) := by decide +kernel
theorem dX0_profitLeftAt_50 : decode cX0_profitLeftAt 50 = .ok (.aload 5, 2) := by decide +kernel
theorem dX0_profitLeftAt_52 : decode cX0_profitLeftAt 52 = .ok (.getfield 117, 3) := by decide +kernel
theorem dX0_profitLeftAt_55 : decode cX0_profitLeftAt 55 = .ok (.i2l, 1) := by decide +kernel
theorem dX0_profitLeftAt_56 : decode cX0_profitLeftAt 56 = .ok (.lload_n 2, 1) := by decide +kernel
theorem dX0_profitLeftAt_57 : decode cX0_profitLeftAt 57 = .ok (.invokestatic 103, 3) := by decide +kernel
theorem dX0_profitLeftAt_60 : decode cX0_profitLeftAt 60 = .ok (.lsub, 1) := by decide +kernel
theorem dX0_profitLeftAt_61 : decode cX0_profitLeftAt 61 = .ok (.lstore_n 2, 1) := by decide +kernel
theorem dX0_profitLeftAt_62 : decode cX0_profitLeftAt 62 = .ok (.iinc 4 1, 3) := by decide +kernel
theorem dX0_profitLeftAt_65 : decode cX0_profitLeftAt 65 = .ok (.goto (-57), 3) := by decide +kernel
theorem dX0_profitLeftAt_68 : decode cX0_profitLeftAt 68 = .ok (.lload_n 2, 1) := by decide +kernel
theorem dX0_profitLeftAt_69 : decode cX0_profitLeftAt 69 = .ok (.lreturn, 1) := by decide +kernel
theorem dX1_init_0 : decode cX1_init 0 = .ok (.aload_n 0, 1) := by decide +kernel
theorem dX1_init_1 : decode cX1_init 1 = .ok (.invokespecial 3, 3) := by decide +kernel
theorem dX1_init_4 : decode cX1_init 4 = .ok (.aload_n 0, 1) := by decide +kernel
theorem dX1_init_5 : decode cX1_init 5 = .ok (.aload_n 1, 1) := by decide +kernel
theorem dX1_init_6 : decode cX1_init 6 = .ok (.putfield 9, 3) := by decide +kernel
theorem dX1_init_9 : decode cX1_init 9 = .ok (.aload_n 0, 1) := by decide +kernel
theorem dX1_init_10 : decode cX1_init 10 = .ok (.iload_n 2, 1) := by decide +kernel
theorem dX1_init_11 : decode cX1_init 11 = .ok (.putfield 15, 3) := by decide +kernel
theorem dX1_init_14 : decode cX1_init 14 = .ok (.aload_n 0, 1) := by decide +kernel
theorem dX1_init_15 : decode cX1_init 15 = .ok (.iload_n 3, 1) := by decide +kernel
theorem dX1_init_16 : decode cX1_init 16 = .ok (.putfield 19, 3) := by decide +kernel
theorem dX1_init_19 : decode cX1_init 19 = .ok (.aload_n 0, 1) := by decide +kernel
theorem dX1_init_20 : decode cX1_init 20 = .ok (.iload 4, 2) := by decide +kernel
theorem dX1_init_22 : decode cX1_init 22 = .ok (.putfield 22, 3) := by decide +kernel
theorem dX1_init_25 : decode cX1_init 25 = .ok (.aload_n 0, 1) := by decide +kernel
theorem dX1_init_26 : decode cX1_init 26 = .ok (.iload 5, 2) := by decide +kernel
theorem dX1_init_28 : decode cX1_init 28 = .ok (.putfield 25, 3) := by decide +kernel
theorem dX1_init_31 : decode cX1_init 31 = .ok (.aload_n 0, 1) := by decide +kernel
theorem dX1_init_32 : decode cX1_init 32 = .ok (.iload 6, 2) := by decide +kernel
theorem dX1_init_34 : decode cX1_init 34 = .ok (.putfield 28, 3) := by decide +kernel
theorem dX1_init_37 : decode cX1_init 37 = .ok (.return_, 1) := by decide +kernel
theorem dX1_shareOf_0 : decode cX1_shareOf 0 = .ok (.lload_n 1, 1) := by decide +kernel
theorem dX1_shareOf_1 : decode cX1_shareOf 1 = .ok (.aload_n 0, 1) := by decide +kernel
theorem dX1_shareOf_2 : decode cX1_shareOf 2 = .ok (.getfield 22, 3) := by decide +kernel
theorem dX1_shareOf_5 : decode cX1_shareOf 5 = .ok (.i2l, 1) := by decide +kernel
theorem dX1_shareOf_6 : decode cX1_shareOf 6 = .ok (.invokestatic 31, 3) := by decide +kernel
theorem dX1_shareOf_9 : decode cX1_shareOf 9 = .ok (.lstore_n 3, 1) := by decide +kernel
theorem dX1_shareOf_10 : decode cX1_shareOf 10 = .ok (.lload_n 1, 1) := by decide +kernel
theorem dX1_shareOf_11 : decode cX1_shareOf 11 = .ok (.lload_n 3, 1) := by decide +kernel
theorem dX1_shareOf_12 : decode cX1_shareOf 12 = .ok (.lsub, 1) := by decide +kernel
theorem dX1_shareOf_13 : decode cX1_shareOf 13 = .ok (.lstore 5, 2) := by decide +kernel
theorem dX1_shareOf_15 : decode cX1_shareOf 15 = .ok (.lload_n 3, 1) := by decide +kernel
theorem dX1_shareOf_16 : decode cX1_shareOf 16 = .ok (.aload_n 0, 1) := by decide +kernel
theorem dX1_shareOf_17 : decode cX1_shareOf 17 = .ok (.getfield 25, 3) := by decide +kernel
theorem dX1_shareOf_20 : decode cX1_shareOf 20 = .ok (.i2l, 1) := by decide +kernel
theorem dX1_shareOf_21 : decode cX1_shareOf 21 = .ok (.lmul, 1) := by decide +kernel
theorem dX1_shareOf_22 : decode cX1_shareOf 22 = .ok (.lload 5, 2) := by decide +kernel
theorem dX1_shareOf_24 : decode cX1_shareOf 24 = .ok (.aload_n 0, 1) := by decide +kernel
theorem dX1_shareOf_25 : decode cX1_shareOf 25 = .ok (.getfield 28, 3) := by decide +kernel
theorem dX1_shareOf_28 : decode cX1_shareOf 28 = .ok (.i2l, 1) := by decide +kernel
theorem dX1_shareOf_29 : decode cX1_shareOf 29 = .ok (.lmul, 1) := by decide +kernel
theorem dX1_shareOf_30 : decode cX1_shareOf 30 = .ok (.ladd, 1) := by decide +kernel
theorem dX1_shareOf_31 : decode cX1_shareOf 31 = .ok (.ldc2_w 37, 3) := by decide +kernel
theorem dX1_shareOf_34 : decode cX1_shareOf 34 = .ok (.ldiv, 1) := by decide +kernel
theorem dX1_shareOf_35 : decode cX1_shareOf 35 = .ok (.lreturn, 1) := by decide +kernel
theorem dX1_bonusAt_0 : decode cX1_bonusAt 0 = .ok (.lload_n 1, 1) := by decide +kernel
theorem dX1_bonusAt_1 : decode cX1_bonusAt 1 = .ok (.aload_n 0, 1) := by decide +kernel
theorem dX1_bonusAt_2 : decode cX1_bonusAt 2 = .ok (.getfield 22, 3) := by decide +kernel
theorem dX1_bonusAt_5 : decode cX1_bonusAt 5 = .ok (.i2l, 1) := by decide +kernel
theorem dX1_bonusAt_6 : decode cX1_bonusAt 6 = .ok (.lcmp, 1) := by decide +kernel
theorem dX1_bonusAt_7 : decode cX1_bonusAt 7 = .ok (.ifCond .lt 15, 3) := by decide +kernel
theorem dX1_bonusAt_10 : decode cX1_bonusAt 10 = .ok (.aload_n 0, 1) := by decide +kernel
theorem dX1_bonusAt_11 : decode cX1_bonusAt 11 = .ok (.getfield 25, 3) := by decide +kernel
theorem dX1_bonusAt_14 : decode cX1_bonusAt 14 = .ok (.i2l, 1) := by decide +kernel
theorem dX1_bonusAt_15 : decode cX1_bonusAt 15 = .ok (.ldc2_w 39, 3) := by decide +kernel
theorem dX1_bonusAt_18 : decode cX1_bonusAt 18 = .ok (.lmul, 1) := by decide +kernel
theorem dX1_bonusAt_19 : decode cX1_bonusAt 19 = .ok (.goto 4, 3) := by decide +kernel
theorem dX1_bonusAt_22 : decode cX1_bonusAt 22 = .ok (.lconst 0, 1) := by decide +kernel
theorem dX1_bonusAt_23 : decode cX1_bonusAt 23 = .ok (.lreturn, 1) := by decide +kernel
set_option maxRecDepth 20000 in
theorem ggX2_init_X0_init : GoodIn wsX2_init wsX0_init := goodIn_r _ [16, 17, 2, 3, 18, 19, 20, 21, 22, 23, 10, 11, 24, 25, 26, 27, 28, 29, 30, 31, 32, 33, 34, 35, 36, 37, 38, 39, 40, 41, 42, 44, 45, 46, 47, 48, 49, 50, 51, 52, 53, 54, 55, 56, 57, 58, 64, 65, 66] (by decide +kernel) (by decide +kernel)
set_option maxRecDepth 20000 in
theorem gX2_init_X0_init_n9 : GoodIn wsX2_init (wsX0_init) := ggX2_init_X0_init
set_option maxRecDepth 20000 in
theorem ggX2_init_Jx4a65c_init_da8c8 : GoodIn wsX2_init wsJx4a65c_init_da8c8 := goodIn_r _ [30, 31, 32, 33, 34, 35, 36, 37, 38, 39, 40, 41, 42, 2, 3, 64, 65, 66] (by decide +kernel) (by decide +kernel)
set_option maxRecDepth 20000 in
theorem gX2_init_Jx4a65c_init_da8c8 : GoodIn wsX2_init (wsJx4a65c_init_da8c8) := ggX2_init_Jx4a65c_init_da8c8
theorem dX2_init_0 : decode cX2_init 0 = .ok (.aload_n 0, 1) := by decide +kernel
theorem dX2_init_1 : decode cX2_init 1 = .ok (.invokespecial 1, 3) := by decide +kernel
theorem dX2_init_4 : decode cX2_init 4 = .ok (.aload_n 0, 1) := by decide +kernel
theorem dX2_init_5 : decode cX2_init 5 = .ok (.new 7, 3) := by decide +kernel
theorem dX2_init_8 : decode cX2_init 8 = .ok (.dup, 1) := by decide +kernel
theorem dX2_init_9 : decode cX2_init 9 = .ok (.invokespecial 9, 3) := by decide +kernel
theorem dX2_init_12 : decode cX2_init 12 = .ok (.putfield 10, 3) := by decide +kernel
theorem dX2_init_15 : decode cX2_init 15 = .ok (.aload_n 0, 1) := by decide +kernel
theorem dX2_init_16 : decode cX2_init 16 = .ok (.new 7, 3) := by decide +kernel
theorem dX2_init_19 : decode cX2_init 19 = .ok (.dup, 1) := by decide +kernel
theorem dX2_init_20 : decode cX2_init 20 = .ok (.invokespecial 9, 3) := by decide +kernel
theorem dX2_init_23 : decode cX2_init 23 = .ok (.putfield 16, 3) := by decide +kernel
theorem dX2_init_26 : decode cX2_init 26 = .ok (.aload_n 0, 1) := by decide +kernel
theorem dX2_init_27 : decode cX2_init 27 = .ok (.new 19, 3) := by decide +kernel
theorem dX2_init_30 : decode cX2_init 30 = .ok (.dup, 1) := by decide +kernel
theorem dX2_init_31 : decode cX2_init 31 = .ok (.invokespecial 21, 3) := by decide +kernel
theorem dX2_init_34 : decode cX2_init 34 = .ok (.putfield 22, 3) := by decide +kernel
theorem dX2_init_37 : decode cX2_init 37 = .ok (.aload_n 0, 1) := by decide +kernel
theorem dX2_init_38 : decode cX2_init 38 = .ok (.iconst 0, 1) := by decide +kernel
theorem dX2_init_39 : decode cX2_init 39 = .ok (.putfield 26, 3) := by decide +kernel
theorem dX2_init_42 : decode cX2_init 42 = .ok (.aload_n 0, 1) := by decide +kernel
theorem dX2_init_43 : decode cX2_init 43 = .ok (.iconst 0, 1) := by decide +kernel
theorem dX2_init_44 : decode cX2_init 44 = .ok (.putfield 30, 3) := by decide +kernel
theorem dX2_init_47 : decode cX2_init 47 = .ok (.return_, 1) := by decide +kernel
set_option maxRecDepth 20000 in
theorem ggX2_setRates_X2_requirePicture : GoodIn wsX2_setRates wsX2_requirePicture := goodIn_ca (goodIn_r _ [7, 8, 9] (by decide +kernel) (by decide +kernel)) (goodIn_sub (fun _ h => List.mem_cons_of_mem _ (List.mem_append_left _ (List.mem_append_right _ h))) (by decide +kernel))
set_option maxRecDepth 20000 in
theorem gX2_setRates_X2_requirePicture : GoodIn wsX2_setRates (va_wsS RX2 34 yX2_requirePicture wsX2_requirePicture) := goodIn_app (goodIn_of _ (by decide +kernel)) ggX2_setRates_X2_requirePicture
set_option maxRecDepth 20000 in
theorem ggX2_setRates_X2_requireRange : GoodIn wsX2_setRates wsX2_requireRange := goodIn_ca (goodIn_r _ [12, 13, 14] (by decide +kernel) (by decide +kernel)) (goodIn_sub (fun _ h => List.mem_cons_of_mem _ (List.mem_append_right _ h)) (by decide +kernel))
set_option maxRecDepth 20000 in
theorem gX2_setRates_X2_requireRange : GoodIn wsX2_setRates (va_wsS RX2 38 yX2_requireRange wsX2_requireRange) := goodIn_app (goodIn_of _ (by decide +kernel)) ggX2_setRates_X2_requireRange
set_option maxRecDepth 20000 in
theorem ggX2_setRates_X2_pictureOf : GoodIn wsX2_setRates wsX2_pictureOf := goodIn_r _ [18, 19, 20, 36, 37, 38, 39, 40] (by decide +kernel) (by decide +kernel)
set_option maxRecDepth 20000 in
theorem gX2_setRates_X2_pictureOf : GoodIn wsX2_setRates (wsV RX2 42 RX2 yX2_pictureOf wsX2_pictureOf) := goodIn_app (goodIn_of _ (by decide +kernel)) ggX2_setRates_X2_pictureOf
theorem dX2_setRates_0 : decode cX2_setRates 0 = .ok (.iload_n 1, 1) := by decide +kernel
theorem dX2_setRates_1 : decode cX2_setRates 1 = .ok (.invokestatic 34, 3) := by decide +kernel
theorem dX2_setRates_4 : decode cX2_setRates 4 = .ok (.iload_n 2, 1) := by decide +kernel
theorem dX2_setRates_5 : decode cX2_setRates 5 = .ok (.iconst 0, 1) := by decide +kernel
theorem dX2_setRates_6 : decode cX2_setRates 6 = .ok (.sipush 10000, 3) := by decide +kernel
theorem dX2_setRates_9 : decode cX2_setRates 9 = .ok (.invokestatic 38, 3) := by decide +kernel
theorem dX2_setRates_12 : decode cX2_setRates 12 = .ok (.iload_n 3, 1) := by decide +kernel
theorem dX2_setRates_13 : decode cX2_setRates 13 = .ok (.iconst 0, 1) := by decide +kernel
theorem dX2_setRates_14 : decode cX2_setRates 14 = .ok (.sipush 10000, 3) := by decide +kernel
theorem dX2_setRates_17 : decode cX2_setRates 17 = .ok (.invokestatic 38, 3) := by decide +kernel
theorem dX2_setRates_20 : decode cX2_setRates 20 = .ok (.iload 4, 2) := by decide +kernel
theorem dX2_setRates_22 : decode cX2_setRates 22 = .ok (.iconst 0, 1) := by decide +kernel
theorem dX2_setRates_23 : decode cX2_setRates 23 = .ok (.sipush 2000, 3) := by decide +kernel
theorem dX2_setRates_26 : decode cX2_setRates 26 = .ok (.invokestatic 38, 3) := by decide +kernel
theorem dX2_setRates_29 : decode cX2_setRates 29 = .ok (.aload_n 0, 1) := by decide +kernel
theorem dX2_setRates_30 : decode cX2_setRates 30 = .ok (.iload_n 1, 1) := by decide +kernel
theorem dX2_setRates_31 : decode cX2_setRates 31 = .ok (.invokevirtual 42, 3) := by decide +kernel
theorem dX2_setRates_34 : decode cX2_setRates 34 = .ok (.astore 5, 2) := by decide +kernel
theorem dX2_setRates_36 : decode cX2_setRates 36 = .ok (.aload 5, 2) := by decide +kernel
theorem dX2_setRates_38 : decode cX2_setRates 38 = .ok (.iload_n 2, 1) := by decide +kernel
theorem dX2_setRates_39 : decode cX2_setRates 39 = .ok (.putfield 46, 3) := by decide +kernel
theorem dX2_setRates_42 : decode cX2_setRates 42 = .ok (.aload 5, 2) := by decide +kernel
theorem dX2_setRates_44 : decode cX2_setRates 44 = .ok (.iload_n 3, 1) := by decide +kernel
theorem dX2_setRates_45 : decode cX2_setRates 45 = .ok (.putfield 49, 3) := by decide +kernel
theorem dX2_setRates_48 : decode cX2_setRates 48 = .ok (.aload 5, 2) := by decide +kernel
theorem dX2_setRates_50 : decode cX2_setRates 50 = .ok (.iload 4, 2) := by decide +kernel
theorem dX2_setRates_52 : decode cX2_setRates 52 = .ok (.putfield 52, 3) := by decide +kernel
theorem dX2_setRates_55 : decode cX2_setRates 55 = .ok (.return_, 1) := by decide +kernel
set_option maxRecDepth 20000 in
theorem ggX2_setFee_X2_requirePicture : GoodIn wsX2_setFee wsX2_requirePicture := goodIn_ca (goodIn_r _ [5, 6, 7] (by decide +kernel) (by decide +kernel)) (goodIn_sub (fun _ h => List.mem_cons_of_mem _ (List.mem_append_left _ (List.mem_append_right _ h))) (by decide +kernel))
set_option maxRecDepth 20000 in
theorem gX2_setFee_X2_requirePicture : GoodIn wsX2_setFee (va_wsS RX2 34 yX2_requirePicture wsX2_requirePicture) := goodIn_app (goodIn_of _ (by decide +kernel)) ggX2_setFee_X2_requirePicture
set_option maxRecDepth 20000 in
theorem ggX2_setFee_X2_requireWindow : GoodIn wsX2_setFee wsX2_requireWindow := goodIn_ca (goodIn_r _ [10, 6, 7] (by decide +kernel) (by decide +kernel)) (goodIn_sub (fun _ h => List.mem_cons_of_mem _ (List.mem_append_left _ (List.mem_append_right _ h))) (by decide +kernel))
set_option maxRecDepth 20000 in
theorem gX2_setFee_X2_requireWindow : GoodIn wsX2_setFee (va_wsS RX2 55 yX2_requireWindow wsX2_requireWindow) := goodIn_app (goodIn_of _ (by decide +kernel)) ggX2_setFee_X2_requireWindow
set_option maxRecDepth 20000 in
theorem ggX2_setFee_X2_requireRange : GoodIn wsX2_setFee wsX2_requireRange := goodIn_ca (goodIn_r _ [13, 14, 15] (by decide +kernel) (by decide +kernel)) (goodIn_sub (fun _ h => List.mem_cons_of_mem _ (List.mem_append_right _ h)) (by decide +kernel))
set_option maxRecDepth 20000 in
theorem gX2_setFee_X2_requireRange : GoodIn wsX2_setFee (va_wsS RX2 38 yX2_requireRange wsX2_requireRange) := goodIn_app (goodIn_of _ (by decide +kernel)) ggX2_setFee_X2_requireRange
set_option maxRecDepth 20000 in
theorem ggX2_setFee_X2_pictureOf : GoodIn wsX2_setFee wsX2_pictureOf := goodIn_r _ [19, 20, 21, 37, 38, 39, 40, 41] (by decide +kernel) (by decide +kernel)
set_option maxRecDepth 20000 in
theorem gX2_setFee_X2_pictureOf : GoodIn wsX2_setFee (wsV RX2 42 RX2 yX2_pictureOf wsX2_pictureOf) := goodIn_app (goodIn_of _ (by decide +kernel)) ggX2_setFee_X2_pictureOf
theorem dX2_setFee_0 : decode cX2_setFee 0 = .ok (.iload_n 1, 1) := by decide +kernel
theorem dX2_setFee_1 : decode cX2_setFee 1 = .ok (.invokestatic 34, 3) := by decide +kernel
theorem dX2_setFee_4 : decode cX2_setFee 4 = .ok (.iload_n 2, 1) := by decide +kernel
theorem dX2_setFee_5 : decode cX2_setFee 5 = .ok (.invokestatic 55, 3) := by decide +kernel
theorem dX2_setFee_8 : decode cX2_setFee 8 = .ok (.iload_n 3, 1) := by decide +kernel
theorem dX2_setFee_9 : decode cX2_setFee 9 = .ok (.iconst 0, 1) := by decide +kernel
theorem dX2_setFee_10 : decode cX2_setFee 10 = .ok (.sipush 10000, 3) := by decide +kernel
theorem dX2_setFee_13 : decode cX2_setFee 13 = .ok (.invokestatic 38, 3) := by decide +kernel
theorem dX2_setFee_16 : decode cX2_setFee 16 = .ok (.aload_n 0, 1) := by decide +kernel
theorem dX2_setFee_17 : decode cX2_setFee 17 = .ok (.iload_n 1, 1) := by decide +kernel
theorem dX2_setFee_18 : decode cX2_setFee 18 = .ok (.invokevirtual 42, 3) := by decide +kernel
theorem dX2_setFee_21 : decode cX2_setFee 21 = .ok (.astore 4, 2) := by decide +kernel
theorem dX2_setFee_23 : decode cX2_setFee 23 = .ok (.aload 4, 2) := by decide +kernel
theorem dX2_setFee_25 : decode cX2_setFee 25 = .ok (.getfield 58, 3) := by decide +kernel
theorem dX2_setFee_28 : decode cX2_setFee 28 = .ok (.iload_n 2, 1) := by decide +kernel
theorem dX2_setFee_29 : decode cX2_setFee 29 = .ok (.iaload, 1) := by decide +kernel
theorem dX2_setFee_30 : decode cX2_setFee 30 = .ok (.istore 5, 2) := by decide +kernel
theorem dX2_setFee_32 : decode cX2_setFee 32 = .ok (.aload 4, 2) := by decide +kernel
theorem dX2_setFee_34 : decode cX2_setFee 34 = .ok (.getfield 58, 3) := by decide +kernel
theorem dX2_setFee_37 : decode cX2_setFee 37 = .ok (.iload_n 2, 1) := by decide +kernel
theorem dX2_setFee_38 : decode cX2_setFee 38 = .ok (.iload_n 3, 1) := by decide +kernel
theorem dX2_setFee_39 : decode cX2_setFee 39 = .ok (.iastore, 1) := by decide +kernel
theorem dX2_setFee_40 : decode cX2_setFee 40 = .ok (.iload 5, 2) := by decide +kernel
theorem dX2_setFee_42 : decode cX2_setFee 42 = .ok (.ireturn, 1) := by decide +kernel
theorem dX2_setCrossed_0 : decode cX2_setCrossed 0 = .ok (.aload_n 0, 1) := by decide +kernel
theorem dX2_setCrossed_1 : decode cX2_setCrossed 1 = .ok (.getfield 26, 3) := by decide +kernel
theorem dX2_setCrossed_4 : decode cX2_setCrossed 4 = .ok (.istore_n 2, 1) := by decide +kernel
theorem dX2_setCrossed_5 : decode cX2_setCrossed 5 = .ok (.aload_n 0, 1) := by decide +kernel
theorem dX2_setCrossed_6 : decode cX2_setCrossed 6 = .ok (.iload_n 1, 1) := by decide +kernel
theorem dX2_setCrossed_7 : decode cX2_setCrossed 7 = .ok (.putfield 26, 3) := by decide +kernel
theorem dX2_setCrossed_10 : decode cX2_setCrossed 10 = .ok (.iload_n 2, 1) := by decide +kernel
theorem dX2_setCrossed_11 : decode cX2_setCrossed 11 = .ok (.ireturn, 1) := by decide +kernel
set_option maxRecDepth 20000 in
theorem ggX2_add_X2_requirePicture : GoodIn wsX2_add wsX2_requirePicture := goodIn_ca (goodIn_r _ [14, 15, 16] (by decide +kernel) (by decide +kernel)) (goodIn_sub (fun _ h => List.mem_cons_of_mem _ (List.mem_append_left _ (List.mem_append_left _ (List.mem_append_right _ h)))) (by decide +kernel))
set_option maxRecDepth 20000 in
theorem gX2_add_X2_requirePicture : GoodIn wsX2_add (va_wsS RX2 34 yX2_requirePicture wsX2_requirePicture) := goodIn_app (goodIn_of _ (by decide +kernel)) ggX2_add_X2_requirePicture
set_option maxRecDepth 20000 in
theorem ggX2_add_X2_requireRange : GoodIn wsX2_add wsX2_requireRange := goodIn_ca (goodIn_r _ [19, 20, 21] (by decide +kernel) (by decide +kernel)) (goodIn_sub (fun _ h => List.mem_cons_of_mem _ (List.mem_append_left _ (List.mem_append_right _ h))) (by decide +kernel))
set_option maxRecDepth 20000 in
theorem gX2_add_X2_requireRange : GoodIn wsX2_add (va_wsS RX2 38 yX2_requireRange wsX2_requireRange) := goodIn_app (goodIn_of _ (by decide +kernel)) ggX2_add_X2_requireRange
set_option maxRecDepth 20000 in
theorem ggX2_add_X2_pictureOf : GoodIn wsX2_add wsX2_pictureOf := goodIn_r _ [25, 26, 27, 153, 154, 155, 156, 157] (by decide +kernel) (by decide +kernel)
set_option maxRecDepth 20000 in
theorem gX2_add_X2_pictureOf : GoodIn wsX2_add (wsV RX2 42 RX2 yX2_pictureOf wsX2_pictureOf) := goodIn_app (goodIn_of _ (by decide +kernel)) ggX2_add_X2_pictureOf
set_option maxRecDepth 20000 in
theorem ggX2_add_X2_requireRoom : GoodIn wsX2_add wsX2_requireRoom := goodIn_ca (goodIn_r _ [31, 32, 33, 10, 34, 35, 36, 37, 38, 39, 40, 41, 42, 43, 44, 45, 46, 47, 48, 49, 50, 3, 4, 5, 51, 52, 53, 54, 55, 56, 57, 58, 59, 60, 61, 62, 63, 64, 65, 66, 67, 68, 153, 154, 155, 156, 157, 158, 159, 160, 138, 139, 140, 141, 142, 143, 144, 145, 146, 147, 148, 149, 150, 151, 152, 131, 132, 133, 134, 135, 136, 137] (by decide +kernel) (by decide +kernel)) (goodIn_sub (fun _ h => List.mem_cons_of_mem _ (List.mem_append_right _ h)) (by decide +kernel))
set_option maxRecDepth 20000 in
theorem gX2_add_X2_requireRoom : GoodIn wsX2_add (wsV RX2 69 RX2 yX2_requireRoom wsX2_requireRoom) := goodIn_app (goodIn_of _ (by decide +kernel)) ggX2_add_X2_requireRoom
set_option maxRecDepth 20000 in
theorem ggX2_add_Jx4a65c_size_8abf5 : GoodIn wsX2_add wsJx4a65c_size_8abf5 := goodIn_r _ [38, 39, 158, 159, 160] (by decide +kernel) (by decide +kernel)
set_option maxRecDepth 20000 in
theorem gX2_add_Jx4a65c_size_8abf5 : GoodIn wsX2_add (wsV RX2 78 RJx4a65c yJx4a65c_size_8abf5 wsJx4a65c_size_8abf5) := goodIn_app (goodIn_of _ (by decide +kernel)) ggX2_add_Jx4a65c_size_8abf5
set_option maxRecDepth 20000 in
theorem ggX2_add_X1_init : GoodIn wsX2_add wsX1_init := goodIn_r _ [71, 72, 73, 74, 75, 76, 77, 78, 79, 80, 131, 132, 133, 134, 135, 136, 137] (by decide +kernel) (by decide +kernel)
set_option maxRecDepth 20000 in
theorem gX2_add_X1_init : GoodIn wsX2_add (wsX1_init) := ggX2_add_X1_init
set_option maxRecDepth 20000 in
theorem ggX2_add_Jx4a65c_add_9ea2d : GoodIn wsX2_add wsJx4a65c_add_9ea2d := goodIn_r _ [84, 85, 86, 68, 39, 87, 88, 89, 37, 90, 91, 92, 93, 94, 95, 96, 97, 98, 99, 100, 3, 4, 5, 101, 102, 103, 104, 105, 106, 107, 108, 109, 110, 111, 112, 113, 114, 115, 116, 117, 118, 119, 120, 121, 122, 123, 124, 125, 126, 127, 128, 129, 130, 158, 159, 160] (by decide +kernel) (by decide +kernel)
set_option maxRecDepth 20000 in
theorem gX2_add_Jx4a65c_add_9ea2d : GoodIn wsX2_add (wsV RX2 85 RJx4a65c yJx4a65c_add_9ea2d wsJx4a65c_add_9ea2d) := goodIn_app (goodIn_of _ (by decide +kernel)) ggX2_add_Jx4a65c_add_9ea2d
theorem dX2_add_0 : decode cX2_add 0 = .ok (.iload_n 1, 1) := by decide +kernel
theorem dX2_add_1 : decode cX2_add 1 = .ok (.invokestatic 34, 3) := by decide +kernel
theorem dX2_add_4 : decode cX2_add 4 = .ok (.iload_n 2, 1) := by decide +kernel
theorem dX2_add_5 : decode cX2_add 5 = .ok (.iconst 0, 1) := by decide +kernel
theorem dX2_add_6 : decode cX2_add 6 = .ok (.iconst 3, 1) := by decide +kernel
theorem dX2_add_7 : decode cX2_add 7 = .ok (.invokestatic 38, 3) := by decide +kernel
theorem dX2_add_10 : decode cX2_add 10 = .ok (.iload_n 3, 1) := by decide +kernel
theorem dX2_add_11 : decode cX2_add 11 = .ok (.iconst 0, 1) := by decide +kernel
theorem dX2_add_12 : decode cX2_add 12 = .ok (.ldc 62, 2) := by decide +kernel
theorem dX2_add_14 : decode cX2_add 14 = .ok (.invokestatic 38, 3) := by decide +kernel
theorem dX2_add_17 : decode cX2_add 17 = .ok (.iload_n 2, 1) := by decide +kernel
theorem dX2_add_18 : decode cX2_add 18 = .ok (.ifCond .ne 9, 3) := by decide +kernel
theorem dX2_add_21 : decode cX2_add 21 = .ok (.sipush 1000, 3) := by decide +kernel
theorem dX2_add_24 : decode cX2_add 24 = .ok (.goto 6, 3) := by decide +kernel
theorem dX2_add_27 : decode cX2_add 27 = .ok (.sipush 10000, 3) := by decide +kernel
theorem dX2_add_30 : decode cX2_add 30 = .ok (.istore 6, 2) := by decide +kernel
theorem dX2_add_32 : decode cX2_add 32 = .ok (.iload 4, 2) := by decide +kernel
theorem dX2_add_34 : decode cX2_add 34 = .ok (.iconst 0, 1) := by decide +kernel
theorem dX2_add_35 : decode cX2_add 35 = .ok (.iload 6, 2) := by decide +kernel
theorem dX2_add_37 : decode cX2_add 37 = .ok (.invokestatic 38, 3) := by decide +kernel
theorem dX2_add_40 : decode cX2_add 40 = .ok (.iload 5, 2) := by decide +kernel
theorem dX2_add_42 : decode cX2_add 42 = .ok (.iconst 0, 1) := by decide +kernel
theorem dX2_add_43 : decode cX2_add 43 = .ok (.iload 6, 2) := by decide +kernel
theorem dX2_add_45 : decode cX2_add 45 = .ok (.invokestatic 38, 3) := by decide +kernel
theorem dX2_add_48 : decode cX2_add 48 = .ok (.aload_n 0, 1) := by decide +kernel
theorem dX2_add_49 : decode cX2_add 49 = .ok (.iload_n 1, 1) := by decide +kernel
theorem dX2_add_50 : decode cX2_add 50 = .ok (.invokevirtual 42, 3) := by decide +kernel
theorem dX2_add_53 : decode cX2_add 53 = .ok (.astore 7, 2) := by decide +kernel
theorem dX2_add_55 : decode cX2_add 55 = .ok (.aload_n 0, 1) := by decide +kernel
theorem dX2_add_56 : decode cX2_add 56 = .ok (.aload 7, 2) := by decide +kernel
theorem dX2_add_58 : decode cX2_add 58 = .ok (.iload_n 2, 1) := by decide +kernel
theorem dX2_add_59 : decode cX2_add 59 = .ok (.iload 4, 2) := by decide +kernel
theorem dX2_add_61 : decode cX2_add 61 = .ok (.iload 5, 2) := by decide +kernel
theorem dX2_add_63 : decode cX2_add 63 = .ok (.invokestatic 63, 3) := by decide +kernel
theorem dX2_add_66 : decode cX2_add 66 = .ok (.invokevirtual 69, 3) := by decide +kernel
theorem dX2_add_69 : decode cX2_add 69 = .ok (.new 73, 3) := by decide +kernel
theorem dX2_add_72 : decode cX2_add 72 = .ok (.dup, 1) := by decide +kernel
theorem dX2_add_73 : decode cX2_add 73 = .ok (.aload 7, 2) := by decide +kernel
theorem dX2_add_75 : decode cX2_add 75 = .ok (.aload 7, 2) := by decide +kernel
theorem dX2_add_77 : decode cX2_add 77 = .ok (.getfield 75, 3) := by decide +kernel
theorem dX2_add_80 : decode cX2_add 80 = .ok (.invokevirtual 78, 3) := by decide +kernel
theorem dX2_add_83 : decode cX2_add 83 = .ok (.iload_n 2, 1) := by decide +kernel
theorem dX2_add_84 : decode cX2_add 84 = .ok (.iload_n 3, 1) := by decide +kernel
theorem dX2_add_85 : decode cX2_add 85 = .ok (.iload 4, 2) := by decide +kernel
theorem dX2_add_87 : decode cX2_add 87 = .ok (.iload 5, 2) := by decide +kernel
theorem dX2_add_89 : decode cX2_add 89 = .ok (.invokespecial 82, 3) := by decide +kernel
theorem dX2_add_92 : decode cX2_add 92 = .ok (.astore 8, 2) := by decide +kernel
theorem dX2_add_94 : decode cX2_add 94 = .ok (.aload 7, 2) := by decide +kernel
theorem dX2_add_96 : decode cX2_add 96 = .ok (.getfield 75, 3) := by decide +kernel
theorem dX2_add_99 : decode cX2_add 99 = .ok (.aload 8, 2) := by decide +kernel
theorem dX2_add_101 : decode cX2_add 101 = .ok (.invokevirtual 85, 3) := by decide +kernel
theorem dX2_add_104 : decode cX2_add 104 = .ok (.pop, 1) := by decide +kernel
theorem dX2_add_105 : decode cX2_add 105 = .ok (.aload_n 0, 1) := by decide +kernel
theorem dX2_add_106 : decode cX2_add 106 = .ok (.getfield 22, 3) := by decide +kernel
theorem dX2_add_109 : decode cX2_add 109 = .ok (.aload 8, 2) := by decide +kernel
theorem dX2_add_111 : decode cX2_add 111 = .ok (.invokevirtual 85, 3) := by decide +kernel
theorem dX2_add_114 : decode cX2_add 114 = .ok (.pop, 1) := by decide +kernel
theorem dX2_add_115 : decode cX2_add 115 = .ok (.aload_n 0, 1) := by decide +kernel
theorem dX2_add_116 : decode cX2_add 116 = .ok (.getfield 22, 3) := by decide +kernel
theorem dX2_add_119 : decode cX2_add 119 = .ok (.invokevirtual 78, 3) := by decide +kernel
theorem dX2_add_122 : decode cX2_add 122 = .ok (.iconst 1, 1) := by decide +kernel
theorem dX2_add_123 : decode cX2_add 123 = .ok (.isub, 1) := by decide +kernel
theorem dX2_add_124 : decode cX2_add 124 = .ok (.ireturn, 1) := by decide +kernel
set_option maxRecDepth 20000 in
theorem ggX2_receive_X2_requirePicture : GoodIn wsX2_receive wsX2_requirePicture := goodIn_ca (goodIn_r _ [7, 8, 9] (by decide +kernel) (by decide +kernel)) (goodIn_sub (fun _ h => List.mem_cons_of_mem _ (List.mem_append_left _ (List.mem_append_right _ h))) (by decide +kernel))
set_option maxRecDepth 20000 in
theorem gX2_receive_X2_requirePicture : GoodIn wsX2_receive (va_wsS RX2 34 yX2_requirePicture wsX2_requirePicture) := goodIn_app (goodIn_of _ (by decide +kernel)) ggX2_receive_X2_requirePicture
set_option maxRecDepth 20000 in
theorem ggX2_receive_X2_requireWindow : GoodIn wsX2_receive wsX2_requireWindow := goodIn_ca (goodIn_r _ [12, 8, 9] (by decide +kernel) (by decide +kernel)) (goodIn_sub (fun _ h => List.mem_cons_of_mem _ (List.mem_append_left _ (List.mem_append_right _ h))) (by decide +kernel))
set_option maxRecDepth 20000 in
theorem gX2_receive_X2_requireWindow : GoodIn wsX2_receive (va_wsS RX2 55 yX2_requireWindow wsX2_requireWindow) := goodIn_app (goodIn_of _ (by decide +kernel)) ggX2_receive_X2_requireWindow
set_option maxRecDepth 20000 in
theorem ggX2_receive_X2_requireRange : GoodIn wsX2_receive wsX2_requireRange := goodIn_ca (goodIn_r _ [15, 16, 17] (by decide +kernel) (by decide +kernel)) (goodIn_sub (fun _ h => List.mem_cons_of_mem _ (List.mem_append_right _ h)) (by decide +kernel))
set_option maxRecDepth 20000 in
theorem gX2_receive_X2_requireRange : GoodIn wsX2_receive (va_wsS RX2 38 yX2_requireRange wsX2_requireRange) := goodIn_app (goodIn_of _ (by decide +kernel)) ggX2_receive_X2_requireRange
set_option maxRecDepth 20000 in
theorem ggX2_receive_X2_pictureOf : GoodIn wsX2_receive wsX2_pictureOf := goodIn_r _ [21, 22, 23, 39, 40, 41, 42, 43] (by decide +kernel) (by decide +kernel)
set_option maxRecDepth 20000 in
theorem gX2_receive_X2_pictureOf : GoodIn wsX2_receive (wsV RX2 42 RX2 yX2_pictureOf wsX2_pictureOf) := goodIn_app (goodIn_of _ (by decide +kernel)) ggX2_receive_X2_pictureOf
theorem dX2_receive_0 : decode cX2_receive 0 = .ok (.iload_n 1, 1) := by decide +kernel
theorem dX2_receive_1 : decode cX2_receive 1 = .ok (.invokestatic 34, 3) := by decide +kernel
theorem dX2_receive_4 : decode cX2_receive 4 = .ok (.iload_n 2, 1) := by decide +kernel
theorem dX2_receive_5 : decode cX2_receive 5 = .ok (.invokestatic 55, 3) := by decide +kernel
theorem dX2_receive_8 : decode cX2_receive 8 = .ok (.iload_n 3, 1) := by decide +kernel
theorem dX2_receive_9 : decode cX2_receive 9 = .ok (.iconst 1, 1) := by decide +kernel
theorem dX2_receive_10 : decode cX2_receive 10 = .ok (.ldc 89, 2) := by decide +kernel
theorem dX2_receive_12 : decode cX2_receive 12 = .ok (.invokestatic 38, 3) := by decide +kernel
theorem dX2_receive_15 : decode cX2_receive 15 = .ok (.aload_n 0, 1) := by decide +kernel
theorem dX2_receive_16 : decode cX2_receive 16 = .ok (.iload_n 1, 1) := by decide +kernel
theorem dX2_receive_17 : decode cX2_receive 17 = .ok (.invokevirtual 42, 3) := by decide +kernel
theorem dX2_receive_20 : decode cX2_receive 20 = .ok (.getfield 90, 3) := by decide +kernel
theorem dX2_receive_23 : decode cX2_receive 23 = .ok (.aload_n 0, 1) := by decide +kernel
theorem dX2_receive_24 : decode cX2_receive 24 = .ok (.getfield 30, 3) := by decide +kernel
theorem dX2_receive_27 : decode cX2_receive 27 = .ok (.aaload, 1) := by decide +kernel
theorem dX2_receive_28 : decode cX2_receive 28 = .ok (.astore 4, 2) := by decide +kernel
theorem dX2_receive_30 : decode cX2_receive 30 = .ok (.aload 4, 2) := by decide +kernel
theorem dX2_receive_32 : decode cX2_receive 32 = .ok (.iload_n 2, 1) := by decide +kernel
theorem dX2_receive_33 : decode cX2_receive 33 = .ok (.dup2, 1) := by decide +kernel
theorem dX2_receive_34 : decode cX2_receive 34 = .ok (.iaload, 1) := by decide +kernel
theorem dX2_receive_35 : decode cX2_receive 35 = .ok (.iload_n 3, 1) := by decide +kernel
theorem dX2_receive_36 : decode cX2_receive 36 = .ok (.iadd, 1) := by decide +kernel
theorem dX2_receive_37 : decode cX2_receive 37 = .ok (.iastore, 1) := by decide +kernel
theorem dX2_receive_38 : decode cX2_receive 38 = .ok (.aload 4, 2) := by decide +kernel
theorem dX2_receive_40 : decode cX2_receive 40 = .ok (.iload_n 2, 1) := by decide +kernel
theorem dX2_receive_41 : decode cX2_receive 41 = .ok (.iaload, 1) := by decide +kernel
theorem dX2_receive_42 : decode cX2_receive 42 = .ok (.ireturn, 1) := by decide +kernel
set_option maxRecDepth 20000 in
theorem ggX2_spend_X2_requirePicture : GoodIn wsX2_spend wsX2_requirePicture := goodIn_ca (goodIn_r _ [7, 8, 9] (by decide +kernel) (by decide +kernel)) (goodIn_sub (fun _ h => List.mem_cons_of_mem _ (List.mem_append_left _ (List.mem_append_right _ h))) (by decide +kernel))
set_option maxRecDepth 20000 in
theorem gX2_spend_X2_requirePicture : GoodIn wsX2_spend (va_wsS RX2 34 yX2_requirePicture wsX2_requirePicture) := goodIn_app (goodIn_of _ (by decide +kernel)) ggX2_spend_X2_requirePicture
set_option maxRecDepth 20000 in
theorem ggX2_spend_X2_requireRange : GoodIn wsX2_spend wsX2_requireRange := goodIn_ca (goodIn_r _ [12, 13, 14] (by decide +kernel) (by decide +kernel)) (goodIn_sub (fun _ h => List.mem_cons_of_mem _ (List.mem_append_right _ h)) (by decide +kernel))
set_option maxRecDepth 20000 in
theorem gX2_spend_X2_requireRange : GoodIn wsX2_spend (va_wsS RX2 38 yX2_requireRange wsX2_requireRange) := goodIn_app (goodIn_of _ (by decide +kernel)) ggX2_spend_X2_requireRange
set_option maxRecDepth 20000 in
theorem ggX2_spend_X2_pictureOf : GoodIn wsX2_spend wsX2_pictureOf := goodIn_r _ [18, 19, 20, 36, 37, 38, 39, 40] (by decide +kernel) (by decide +kernel)
set_option maxRecDepth 20000 in
theorem gX2_spend_X2_pictureOf : GoodIn wsX2_spend (wsV RX2 42 RX2 yX2_pictureOf wsX2_pictureOf) := goodIn_app (goodIn_of _ (by decide +kernel)) ggX2_spend_X2_pictureOf
theorem dX2_spend_0 : decode cX2_spend 0 = .ok (.iload_n 1, 1) := by decide +kernel
theorem dX2_spend_1 : decode cX2_spend 1 = .ok (.invokestatic 34, 3) := by decide +kernel
theorem dX2_spend_4 : decode cX2_spend 4 = .ok (.iload_n 2, 1) := by decide +kernel
theorem dX2_spend_5 : decode cX2_spend 5 = .ok (.iconst 1, 1) := by decide +kernel
theorem dX2_spend_6 : decode cX2_spend 6 = .ok (.ldc 89, 2) := by decide +kernel
theorem dX2_spend_8 : decode cX2_spend 8 = .ok (.invokestatic 38, 3) := by decide +kernel
theorem dX2_spend_11 : decode cX2_spend 11 = .ok (.aload_n 0, 1) := by decide +kernel
theorem dX2_spend_12 : decode cX2_spend 12 = .ok (.iload_n 1, 1) := by decide +kernel
theorem dX2_spend_13 : decode cX2_spend 13 = .ok (.invokevirtual 42, 3) := by decide +kernel
theorem dX2_spend_16 : decode cX2_spend 16 = .ok (.getfield 94, 3) := by decide +kernel
theorem dX2_spend_19 : decode cX2_spend 19 = .ok (.astore_n 3, 1) := by decide +kernel
theorem dX2_spend_20 : decode cX2_spend 20 = .ok (.aload_n 3, 1) := by decide +kernel
theorem dX2_spend_21 : decode cX2_spend 21 = .ok (.aload_n 0, 1) := by decide +kernel
theorem dX2_spend_22 : decode cX2_spend 22 = .ok (.getfield 30, 3) := by decide +kernel
theorem dX2_spend_25 : decode cX2_spend 25 = .ok (.dup2, 1) := by decide +kernel
theorem dX2_spend_26 : decode cX2_spend 26 = .ok (.iaload, 1) := by decide +kernel
theorem dX2_spend_27 : decode cX2_spend 27 = .ok (.iload_n 2, 1) := by decide +kernel
theorem dX2_spend_28 : decode cX2_spend 28 = .ok (.iadd, 1) := by decide +kernel
theorem dX2_spend_29 : decode cX2_spend 29 = .ok (.iastore, 1) := by decide +kernel
theorem dX2_spend_30 : decode cX2_spend 30 = .ok (.aload_n 3, 1) := by decide +kernel
theorem dX2_spend_31 : decode cX2_spend 31 = .ok (.aload_n 0, 1) := by decide +kernel
theorem dX2_spend_32 : decode cX2_spend 32 = .ok (.getfield 30, 3) := by decide +kernel
theorem dX2_spend_35 : decode cX2_spend 35 = .ok (.iaload, 1) := by decide +kernel
theorem dX2_spend_36 : decode cX2_spend 36 = .ok (.ireturn, 1) := by decide +kernel
set_option maxRecDepth 20000 in
theorem ggX2_audit_X2_requirePicture : GoodIn wsX2_audit wsX2_requirePicture := goodIn_ca (goodIn_r _ [6, 7, 8] (by decide +kernel) (by decide +kernel)) (goodIn_sub (fun _ h => List.mem_cons_of_mem _ (List.mem_append_left _ (List.mem_append_left _ (List.mem_append_right _ h)))) (by decide +kernel))
set_option maxRecDepth 20000 in
theorem gX2_audit_X2_requirePicture : GoodIn wsX2_audit (va_wsS RX2 34 yX2_requirePicture wsX2_requirePicture) := goodIn_app (goodIn_of _ (by decide +kernel)) ggX2_audit_X2_requirePicture
set_option maxRecDepth 20000 in
theorem ggX2_audit_X2_requireWindow : GoodIn wsX2_audit wsX2_requireWindow := goodIn_ca (goodIn_r _ [11, 7, 8] (by decide +kernel) (by decide +kernel)) (goodIn_sub (fun _ h => List.mem_cons_of_mem _ (List.mem_append_left _ (List.mem_append_left _ (List.mem_append_right _ h)))) (by decide +kernel))
set_option maxRecDepth 20000 in
theorem gX2_audit_X2_requireWindow : GoodIn wsX2_audit (va_wsS RX2 55 yX2_requireWindow wsX2_requireWindow) := goodIn_app (goodIn_of _ (by decide +kernel)) ggX2_audit_X2_requireWindow
set_option maxRecDepth 20000 in
theorem ggX2_audit_X2_requireRange : GoodIn wsX2_audit wsX2_requireRange := goodIn_ca (goodIn_r _ [14, 15, 16] (by decide +kernel) (by decide +kernel)) (goodIn_sub (fun _ h => List.mem_cons_of_mem _ (List.mem_append_left _ (List.mem_append_right _ h))) (by decide +kernel))
set_option maxRecDepth 20000 in
theorem gX2_audit_X2_requireRange : GoodIn wsX2_audit (va_wsS RX2 38 yX2_requireRange wsX2_requireRange) := goodIn_app (goodIn_of _ (by decide +kernel)) ggX2_audit_X2_requireRange
set_option maxRecDepth 20000 in
theorem ggX2_audit_X2_requireOpenToAudit : GoodIn wsX2_audit wsX2_requireOpenToAudit := goodIn_ca (goodIn_r _ [20, 21, 22, 23, 45, 46, 47, 48, 49] (by decide +kernel) (by decide +kernel)) (goodIn_sub (fun _ h => List.mem_cons_of_mem _ (List.mem_append_right _ h)) (by decide +kernel))
set_option maxRecDepth 20000 in
theorem gX2_audit_X2_requireOpenToAudit : GoodIn wsX2_audit (wsV RX2 98 RX2 yX2_requireOpenToAudit wsX2_requireOpenToAudit) := goodIn_app (goodIn_of _ (by decide +kernel)) ggX2_audit_X2_requireOpenToAudit
set_option maxRecDepth 20000 in
theorem ggX2_audit_X2_pictureOf : GoodIn wsX2_audit wsX2_pictureOf := goodIn_r _ [27, 28, 29, 45, 46, 47, 48, 49] (by decide +kernel) (by decide +kernel)
set_option maxRecDepth 20000 in
theorem gX2_audit_X2_pictureOf : GoodIn wsX2_audit (wsV RX2 42 RX2 yX2_pictureOf wsX2_pictureOf) := goodIn_app (goodIn_of _ (by decide +kernel)) ggX2_audit_X2_pictureOf
theorem dX2_audit_0 : decode cX2_audit 0 = .ok (.iload_n 1, 1) := by decide +kernel
theorem dX2_audit_1 : decode cX2_audit 1 = .ok (.invokestatic 34, 3) := by decide +kernel
theorem dX2_audit_4 : decode cX2_audit 4 = .ok (.iload_n 3, 1) := by decide +kernel
theorem dX2_audit_5 : decode cX2_audit 5 = .ok (.invokestatic 55, 3) := by decide +kernel
theorem dX2_audit_8 : decode cX2_audit 8 = .ok (.iload 4, 2) := by decide +kernel
theorem dX2_audit_10 : decode cX2_audit 10 = .ok (.iconst 0, 1) := by decide +kernel
theorem dX2_audit_11 : decode cX2_audit 11 = .ok (.ldc 97, 2) := by decide +kernel
theorem dX2_audit_13 : decode cX2_audit 13 = .ok (.invokestatic 38, 3) := by decide +kernel
theorem dX2_audit_16 : decode cX2_audit 16 = .ok (.aload_n 0, 1) := by decide +kernel
theorem dX2_audit_17 : decode cX2_audit 17 = .ok (.iload_n 2, 1) := by decide +kernel
theorem dX2_audit_18 : decode cX2_audit 18 = .ok (.invokevirtual 98, 3) := by decide +kernel
theorem dX2_audit_21 : decode cX2_audit 21 = .ok (.aload_n 0, 1) := by decide +kernel
theorem dX2_audit_22 : decode cX2_audit 22 = .ok (.iload_n 1, 1) := by decide +kernel
theorem dX2_audit_23 : decode cX2_audit 23 = .ok (.invokevirtual 42, 3) := by decide +kernel
theorem dX2_audit_26 : decode cX2_audit 26 = .ok (.getfield 90, 3) := by decide +kernel
theorem dX2_audit_29 : decode cX2_audit 29 = .ok (.iload_n 2, 1) := by decide +kernel
theorem dX2_audit_30 : decode cX2_audit 30 = .ok (.aaload, 1) := by decide +kernel
theorem dX2_audit_31 : decode cX2_audit 31 = .ok (.astore 5, 2) := by decide +kernel
theorem dX2_audit_33 : decode cX2_audit 33 = .ok (.aload 5, 2) := by decide +kernel
theorem dX2_audit_35 : decode cX2_audit 35 = .ok (.iload_n 3, 1) := by decide +kernel
theorem dX2_audit_36 : decode cX2_audit 36 = .ok (.iaload, 1) := by decide +kernel
theorem dX2_audit_37 : decode cX2_audit 37 = .ok (.istore 6, 2) := by decide +kernel
theorem dX2_audit_39 : decode cX2_audit 39 = .ok (.aload 5, 2) := by decide +kernel
theorem dX2_audit_41 : decode cX2_audit 41 = .ok (.iload_n 3, 1) := by decide +kernel
theorem dX2_audit_42 : decode cX2_audit 42 = .ok (.iload 4, 2) := by decide +kernel
theorem dX2_audit_44 : decode cX2_audit 44 = .ok (.iastore, 1) := by decide +kernel
theorem dX2_audit_45 : decode cX2_audit 45 = .ok (.iload 6, 2) := by decide +kernel
theorem dX2_audit_47 : decode cX2_audit 47 = .ok (.ireturn, 1) := by decide +kernel
theorem dX2_closeYear_0 : decode cX2_closeYear 0 = .ok (.aload_n 0, 1) := by decide +kernel
theorem dX2_closeYear_1 : decode cX2_closeYear 1 = .ok (.getfield 30, 3) := by decide +kernel
theorem dX2_closeYear_4 : decode cX2_closeYear 4 = .ok (.bipush 9, 2) := by decide +kernel
theorem dX2_closeYear_6 : decode cX2_closeYear 6 = .ok (.if_icmp .lt 13, 3) := by decide +kernel
theorem dX2_closeYear_9 : decode cX2_closeYear 9 = .ok (.new 101, 3) := by decide +kernel
theorem dX2_closeYear_12 : decode cX2_closeYear 12 = .ok (.dup, 1) := by decide +kernel
theorem dX2_closeYear_13 : decode cX2_closeYear 13 = .ok (.ldc 103, 2) := by decide +kernel
theorem dX2_closeYear_15 : decode cX2_closeYear 15 = .ok (.invokespecial 105, 3) := by decide +kernel
theorem dX2_closeYear_18 : decode cX2_closeYear 18 = .ok (.athrow, 1) := by decide +kernel
theorem dX2_closeYear_19 : decode cX2_closeYear 19 = .ok (.aload_n 0, 1) := by decide +kernel
theorem dX2_closeYear_20 : decode cX2_closeYear 20 = .ok (.dup, 1) := by decide +kernel
theorem dX2_closeYear_21 : decode cX2_closeYear 21 = .ok (.getfield 30, 3) := by decide +kernel
theorem dX2_closeYear_24 : decode cX2_closeYear 24 = .ok (.iconst 1, 1) := by decide +kernel
theorem dX2_closeYear_25 : decode cX2_closeYear 25 = .ok (.iadd, 1) := by decide +kernel
theorem dX2_closeYear_26 : decode cX2_closeYear 26 = .ok (.putfield 30, 3) := by decide +kernel
theorem dX2_closeYear_29 : decode cX2_closeYear 29 = .ok (.aload_n 0, 1) := by decide +kernel
theorem dX2_closeYear_30 : decode cX2_closeYear 30 = .ok (.getfield 30, 3) := by decide +kernel
theorem dX2_closeYear_33 : decode cX2_closeYear 33 = .ok (.ireturn, 1) := by decide +kernel
set_option maxRecDepth 20000 in
theorem ggX2_pay_X2_requireSharer : GoodIn wsX2_pay wsX2_requireSharer := goodIn_ca (goodIn_r _ [10, 11, 12, 3, 13, 14, 15, 16, 17, 18, 133, 134, 135, 136, 137, 145, 146, 147] (by decide +kernel) (by decide +kernel)) (goodIn_sub (fun _ h => List.mem_cons_of_mem _ (List.mem_append_right _ h)) (by decide +kernel))
set_option maxRecDepth 20000 in
theorem gX2_pay_X2_requireSharer : GoodIn wsX2_pay (wsV RX2 108 RX2 yX2_requireSharer wsX2_requireSharer) := goodIn_app (goodIn_of _ (by decide +kernel)) ggX2_pay_X2_requireSharer
set_option maxRecDepth 20000 in
theorem ggX2_pay_Jx4a65c_get_915e3 : GoodIn wsX2_pay wsJx4a65c_get_915e3 := goodIn_r _ [22, 18, 23, 24, 25, 26, 27, 28, 29, 30, 31, 32, 33, 16, 34, 35, 145, 146, 147] (by decide +kernel) (by decide +kernel)
set_option maxRecDepth 20000 in
theorem gX2_pay_Jx4a65c_get_915e3 : GoodIn wsX2_pay (wsV RX2 111 RJx4a65c yJx4a65c_get_915e3 wsJx4a65c_get_915e3) := goodIn_app (goodIn_of _ (by decide +kernel)) ggX2_pay_Jx4a65c_get_915e3
set_option maxRecDepth 20000 in
theorem ggX2_pay_X2_drawnSum : GoodIn wsX2_pay wsX2_drawnSum := goodIn_r _ [39, 40, 41, 42, 43, 9, 44, 45, 46, 47, 48, 49, 50, 51, 52, 53, 54, 55, 56, 57, 58, 59, 60, 61, 62, 63, 64, 65, 66, 67, 68, 69, 70, 71, 72, 73, 74, 75, 76, 77, 78, 79, 80, 81, 82, 83, 84, 85, 86, 87, 14, 15, 16, 17, 18, 88, 20, 21, 22, 23, 24, 25, 26, 27, 28, 29, 30, 31, 32, 33, 34, 35, 89, 90, 91, 92, 93, 94, 95, 96, 97, 98, 99, 100, 101, 102, 103, 104, 105, 106, 107, 108, 109, 110, 111, 112, 113, 114, 115, 116, 117, 118, 119, 120, 121, 122, 123, 124, 125, 126, 127, 128, 129, 130, 131, 132, 138, 139, 140, 141, 142, 143, 144, 133, 134, 135, 136, 137, 148, 149, 150, 151, 152, 153, 154, 155, 156, 157, 158, 159, 160, 161, 162, 145, 146, 147] (by decide +kernel) (by decide +kernel)
set_option maxRecDepth 20000 in
theorem gX2_pay_X2_drawnSum : GoodIn wsX2_pay (wsV RX2 115 RX2 yX2_drawnSum wsX2_drawnSum) := goodIn_app (goodIn_of _ (by decide +kernel)) ggX2_pay_X2_drawnSum
theorem dX2_pay_0 : decode cX2_pay 0 = .ok (.aload_n 0, 1) := by decide +kernel
theorem dX2_pay_1 : decode cX2_pay 1 = .ok (.iload_n 1, 1) := by decide +kernel
theorem dX2_pay_2 : decode cX2_pay 2 = .ok (.invokevirtual 108, 3) := by decide +kernel
theorem dX2_pay_5 : decode cX2_pay 5 = .ok (.aload_n 0, 1) := by decide +kernel
theorem dX2_pay_6 : decode cX2_pay 6 = .ok (.getfield 22, 3) := by decide +kernel
theorem dX2_pay_9 : decode cX2_pay 9 = .ok (.iload_n 1, 1) := by decide +kernel
theorem dX2_pay_10 : decode cX2_pay 10 = .ok (.invokevirtual 111, 3) := by decide +kernel
theorem dX2_pay_13 : decode cX2_pay 13 = .ok (.checkcast 73, 3) := by decide +kernel
theorem dX2_pay_16 : decode cX2_pay 16 = .ok (.astore_n 2, 1) := by decide +kernel
theorem dX2_pay_17 : decode cX2_pay 17 = .ok (.aload_n 0, 1) := by decide +kernel
theorem dX2_pay_18 : decode cX2_pay 18 = .ok (.aload_n 2, 1) := by decide +kernel
theorem dX2_pay_19 : decode cX2_pay 19 = .ok (.invokevirtual 115, 3) := by decide +kernel
theorem dX2_pay_22 : decode cX2_pay 22 = .ok (.aload_n 2, 1) := by decide +kernel
theorem dX2_pay_23 : decode cX2_pay 23 = .ok (.getfield 119, 3) := by decide +kernel
theorem dX2_pay_26 : decode cX2_pay 26 = .ok (.lsub, 1) := by decide +kernel
theorem dX2_pay_27 : decode cX2_pay 27 = .ok (.lstore_n 3, 1) := by decide +kernel
theorem dX2_pay_28 : decode cX2_pay 28 = .ok (.lload_n 3, 1) := by decide +kernel
theorem dX2_pay_29 : decode cX2_pay 29 = .ok (.lconst 0, 1) := by decide +kernel
theorem dX2_pay_30 : decode cX2_pay 30 = .ok (.lcmp, 1) := by decide +kernel
theorem dX2_pay_31 : decode cX2_pay 31 = .ok (.ifCond .gt 13, 3) := by decide +kernel
theorem dX2_pay_34 : decode cX2_pay 34 = .ok (.new 101, 3) := by decide +kernel
theorem dX2_pay_37 : decode cX2_pay 37 = .ok (.dup, 1) := by decide +kernel
theorem dX2_pay_38 : decode cX2_pay 38 = .ok (.ldc 123, 2) := by decide +kernel
theorem dX2_pay_40 : decode cX2_pay 40 = .ok (.invokespecial 105, 3) := by decide +kernel
theorem dX2_pay_43 : decode cX2_pay 43 = .ok (.athrow, 1) := by decide +kernel
theorem dX2_pay_44 : decode cX2_pay 44 = .ok (.aload_n 2, 1) := by decide +kernel
theorem dX2_pay_45 : decode cX2_pay 45 = .ok (.dup, 1) := by decide +kernel
theorem dX2_pay_46 : decode cX2_pay 46 = .ok (.getfield 119, 3) := by decide +kernel
theorem dX2_pay_49 : decode cX2_pay 49 = .ok (.lload_n 3, 1) := by decide +kernel
theorem dX2_pay_50 : decode cX2_pay 50 = .ok (.ladd, 1) := by decide +kernel
theorem dX2_pay_51 : decode cX2_pay 51 = .ok (.putfield 119, 3) := by decide +kernel
theorem dX2_pay_54 : decode cX2_pay 54 = .ok (.lload_n 3, 1) := by decide +kernel
theorem dX2_pay_55 : decode cX2_pay 55 = .ok (.l2i, 1) := by decide +kernel
theorem dX2_pay_56 : decode cX2_pay 56 = .ok (.ireturn, 1) := by decide +kernel
theorem dX2_year_0 : decode cX2_year 0 = .ok (.aload_n 0, 1) := by decide +kernel
theorem dX2_year_1 : decode cX2_year 1 = .ok (.getfield 30, 3) := by decide +kernel
theorem dX2_year_4 : decode cX2_year 4 = .ok (.ireturn, 1) := by decide +kernel
set_option maxRecDepth 20000 in
theorem ggX2_gross_X2_requirePicture : GoodIn wsX2_gross wsX2_requirePicture := goodIn_ca (goodIn_r _ [5, 6, 7] (by decide +kernel) (by decide +kernel)) (goodIn_sub (fun _ h => List.mem_cons_of_mem _ (List.mem_append_right _ h)) (by decide +kernel))
set_option maxRecDepth 20000 in
theorem gX2_gross_X2_requirePicture : GoodIn wsX2_gross (va_wsS RX2 34 yX2_requirePicture wsX2_requirePicture) := goodIn_app (goodIn_of _ (by decide +kernel)) ggX2_gross_X2_requirePicture
set_option maxRecDepth 20000 in
theorem ggX2_gross_X2_drawBooks : GoodIn wsX2_gross wsX2_drawBooks := goodIn_r _ [11, 12, 13, 14, 15, 16, 17, 18, 19, 20, 21, 22, 23, 24, 25, 26, 27, 28, 29, 30, 31, 32, 33, 34, 35, 36, 37, 38, 39, 4, 40, 41, 42, 43, 44, 45, 46, 47, 48, 49, 50, 51, 52, 53, 54, 55, 56, 57, 58, 59, 60, 61, 62, 63, 64, 65, 66, 67, 68, 69, 70, 71, 72, 73, 74, 75, 76, 77, 78, 79, 80, 81, 82, 83, 84, 85, 86, 87, 88, 89, 90, 91, 92, 93, 94, 95, 96, 97, 98, 99, 100, 101, 102, 103, 104, 105, 106, 126, 127, 128, 129, 130, 111, 112, 113, 114, 115, 116, 117, 118, 119, 120, 121, 122, 123, 124, 125, 131, 132, 133, 134, 135, 136, 137, 138, 139, 140] (by decide +kernel) (by decide +kernel)
set_option maxRecDepth 20000 in
theorem gX2_gross_X2_drawBooks : GoodIn wsX2_gross (wsV RX2 125 RX2 yX2_drawBooks wsX2_drawBooks) := goodIn_app (goodIn_of _ (by decide +kernel)) ggX2_gross_X2_drawBooks
set_option maxRecDepth 20000 in
theorem ggX2_gross_X2_pictureOf : GoodIn wsX2_gross wsX2_pictureOf := goodIn_r _ [110, 12, 13, 126, 127, 128, 129, 130] (by decide +kernel) (by decide +kernel)
set_option maxRecDepth 20000 in
theorem gX2_gross_X2_pictureOf : GoodIn wsX2_gross (wsV RX2 42 RX2 yX2_pictureOf wsX2_pictureOf) := goodIn_app (goodIn_of _ (by decide +kernel)) ggX2_gross_X2_pictureOf
theorem dX2_gross_0 : decode cX2_gross 0 = .ok (.iload_n 1, 1) := by decide +kernel
theorem dX2_gross_1 : decode cX2_gross 1 = .ok (.invokestatic 34, 3) := by decide +kernel
theorem dX2_gross_4 : decode cX2_gross 4 = .ok (.aload_n 0, 1) := by decide +kernel
theorem dX2_gross_5 : decode cX2_gross 5 = .ok (.invokevirtual 125, 3) := by decide +kernel
theorem dX2_gross_8 : decode cX2_gross 8 = .ok (.aload_n 0, 1) := by decide +kernel
theorem dX2_gross_9 : decode cX2_gross 9 = .ok (.iload_n 1, 1) := by decide +kernel
theorem dX2_gross_10 : decode cX2_gross 10 = .ok (.invokevirtual 42, 3) := by decide +kernel
theorem dX2_gross_13 : decode cX2_gross 13 = .ok (.getfield 128, 3) := by decide +kernel
theorem dX2_gross_16 : decode cX2_gross 16 = .ok (.l2i, 1) := by decide +kernel
theorem dX2_gross_17 : decode cX2_gross 17 = .ok (.ireturn, 1) := by decide +kernel
set_option maxRecDepth 20000 in
theorem ggX2_adjusted_X2_requirePicture : GoodIn wsX2_adjusted wsX2_requirePicture := goodIn_ca (goodIn_r _ [5, 6, 7] (by decide +kernel) (by decide +kernel)) (goodIn_sub (fun _ h => List.mem_cons_of_mem _ (List.mem_append_right _ h)) (by decide +kernel))
set_option maxRecDepth 20000 in
theorem gX2_adjusted_X2_requirePicture : GoodIn wsX2_adjusted (va_wsS RX2 34 yX2_requirePicture wsX2_requirePicture) := goodIn_app (goodIn_of _ (by decide +kernel)) ggX2_adjusted_X2_requirePicture
set_option maxRecDepth 20000 in
theorem ggX2_adjusted_X2_drawBooks : GoodIn wsX2_adjusted wsX2_drawBooks := goodIn_r _ [11, 12, 13, 14, 15, 16, 17, 18, 19, 20, 21, 22, 23, 24, 25, 26, 27, 28, 29, 30, 31, 32, 33, 34, 35, 36, 37, 38, 39, 4, 40, 41, 42, 43, 44, 45, 46, 47, 48, 49, 50, 51, 52, 53, 54, 55, 56, 57, 58, 59, 60, 61, 62, 63, 64, 65, 66, 67, 68, 69, 70, 71, 72, 73, 74, 75, 76, 77, 78, 79, 80, 81, 82, 83, 84, 85, 86, 87, 88, 89, 90, 91, 92, 93, 94, 95, 96, 97, 98, 99, 100, 101, 102, 103, 104, 105, 106, 126, 127, 128, 129, 130, 111, 112, 113, 114, 115, 116, 117, 118, 119, 120, 121, 122, 123, 124, 125, 131, 132, 133, 134, 135, 136, 137, 138, 139, 140] (by decide +kernel) (by decide +kernel)
set_option maxRecDepth 20000 in
theorem gX2_adjusted_X2_drawBooks : GoodIn wsX2_adjusted (wsV RX2 125 RX2 yX2_drawBooks wsX2_drawBooks) := goodIn_app (goodIn_of _ (by decide +kernel)) ggX2_adjusted_X2_drawBooks
set_option maxRecDepth 20000 in
theorem ggX2_adjusted_X2_pictureOf : GoodIn wsX2_adjusted wsX2_pictureOf := goodIn_r _ [110, 12, 13, 126, 127, 128, 129, 130] (by decide +kernel) (by decide +kernel)
set_option maxRecDepth 20000 in
theorem gX2_adjusted_X2_pictureOf : GoodIn wsX2_adjusted (wsV RX2 42 RX2 yX2_pictureOf wsX2_pictureOf) := goodIn_app (goodIn_of _ (by decide +kernel)) ggX2_adjusted_X2_pictureOf
theorem dX2_adjusted_0 : decode cX2_adjusted 0 = .ok (.iload_n 1, 1) := by decide +kernel
theorem dX2_adjusted_1 : decode cX2_adjusted 1 = .ok (.invokestatic 34, 3) := by decide +kernel
theorem dX2_adjusted_4 : decode cX2_adjusted 4 = .ok (.aload_n 0, 1) := by decide +kernel
theorem dX2_adjusted_5 : decode cX2_adjusted 5 = .ok (.invokevirtual 125, 3) := by decide +kernel
theorem dX2_adjusted_8 : decode cX2_adjusted 8 = .ok (.aload_n 0, 1) := by decide +kernel
theorem dX2_adjusted_9 : decode cX2_adjusted 9 = .ok (.iload_n 1, 1) := by decide +kernel
theorem dX2_adjusted_10 : decode cX2_adjusted 10 = .ok (.invokevirtual 42, 3) := by decide +kernel
theorem dX2_adjusted_13 : decode cX2_adjusted 13 = .ok (.getfield 131, 3) := by decide +kernel
theorem dX2_adjusted_16 : decode cX2_adjusted 16 = .ok (.l2i, 1) := by decide +kernel
theorem dX2_adjusted_17 : decode cX2_adjusted 17 = .ok (.ireturn, 1) := by decide +kernel
set_option maxRecDepth 20000 in
theorem ggX2_fees_X2_requirePicture : GoodIn wsX2_fees wsX2_requirePicture := goodIn_ca (goodIn_r _ [5, 6, 7] (by decide +kernel) (by decide +kernel)) (goodIn_sub (fun _ h => List.mem_cons_of_mem _ (List.mem_append_right _ h)) (by decide +kernel))
set_option maxRecDepth 20000 in
theorem gX2_fees_X2_requirePicture : GoodIn wsX2_fees (va_wsS RX2 34 yX2_requirePicture wsX2_requirePicture) := goodIn_app (goodIn_of _ (by decide +kernel)) ggX2_fees_X2_requirePicture
set_option maxRecDepth 20000 in
theorem ggX2_fees_X2_drawBooks : GoodIn wsX2_fees wsX2_drawBooks := goodIn_r _ [11, 12, 13, 14, 15, 16, 17, 18, 19, 20, 21, 22, 23, 24, 25, 26, 27, 28, 29, 30, 31, 32, 33, 34, 35, 36, 37, 38, 39, 4, 40, 41, 42, 43, 44, 45, 46, 47, 48, 49, 50, 51, 52, 53, 54, 55, 56, 57, 58, 59, 60, 61, 62, 63, 64, 65, 66, 67, 68, 69, 70, 71, 72, 73, 74, 75, 76, 77, 78, 79, 80, 81, 82, 83, 84, 85, 86, 87, 88, 89, 90, 91, 92, 93, 94, 95, 96, 97, 98, 99, 100, 101, 102, 103, 104, 105, 106, 126, 127, 128, 129, 130, 111, 112, 113, 114, 115, 116, 117, 118, 119, 120, 121, 122, 123, 124, 125, 131, 132, 133, 134, 135, 136, 137, 138, 139, 140] (by decide +kernel) (by decide +kernel)
set_option maxRecDepth 20000 in
theorem gX2_fees_X2_drawBooks : GoodIn wsX2_fees (wsV RX2 125 RX2 yX2_drawBooks wsX2_drawBooks) := goodIn_app (goodIn_of _ (by decide +kernel)) ggX2_fees_X2_drawBooks
set_option maxRecDepth 20000 in
theorem ggX2_fees_X2_pictureOf : GoodIn wsX2_fees wsX2_pictureOf := goodIn_r _ [110, 12, 13, 126, 127, 128, 129, 130] (by decide +kernel) (by decide +kernel)
set_option maxRecDepth 20000 in
theorem gX2_fees_X2_pictureOf : GoodIn wsX2_fees (wsV RX2 42 RX2 yX2_pictureOf wsX2_pictureOf) := goodIn_app (goodIn_of _ (by decide +kernel)) ggX2_fees_X2_pictureOf
theorem dX2_fees_0 : decode cX2_fees 0 = .ok (.iload_n 1, 1) := by decide +kernel
theorem dX2_fees_1 : decode cX2_fees 1 = .ok (.invokestatic 34, 3) := by decide +kernel
theorem dX2_fees_4 : decode cX2_fees 4 = .ok (.aload_n 0, 1) := by decide +kernel
theorem dX2_fees_5 : decode cX2_fees 5 = .ok (.invokevirtual 125, 3) := by decide +kernel
theorem dX2_fees_8 : decode cX2_fees 8 = .ok (.aload_n 0, 1) := by decide +kernel
theorem dX2_fees_9 : decode cX2_fees 9 = .ok (.iload_n 1, 1) := by decide +kernel
theorem dX2_fees_10 : decode cX2_fees 10 = .ok (.invokevirtual 42, 3) := by decide +kernel
theorem dX2_fees_13 : decode cX2_fees 13 = .ok (.getfield 134, 3) := by decide +kernel
theorem dX2_fees_16 : decode cX2_fees 16 = .ok (.l2i, 1) := by decide +kernel
theorem dX2_fees_17 : decode cX2_fees 17 = .ok (.ireturn, 1) := by decide +kernel
set_option maxRecDepth 20000 in
theorem ggX2_balance_X2_requirePicture : GoodIn wsX2_balance wsX2_requirePicture := goodIn_ca (goodIn_r _ [6, 7, 8] (by decide +kernel) (by decide +kernel)) (goodIn_sub (fun _ h => List.mem_cons_of_mem _ (List.mem_append_left _ (List.mem_append_right _ h))) (by decide +kernel))
set_option maxRecDepth 20000 in
theorem gX2_balance_X2_requirePicture : GoodIn wsX2_balance (va_wsS RX2 34 yX2_requirePicture wsX2_requirePicture) := goodIn_app (goodIn_of _ (by decide +kernel)) ggX2_balance_X2_requirePicture
set_option maxRecDepth 20000 in
theorem ggX2_balance_X2_requireRange : GoodIn wsX2_balance wsX2_requireRange := goodIn_ca (goodIn_r _ [11, 12, 13] (by decide +kernel) (by decide +kernel)) (goodIn_sub (fun _ h => List.mem_cons_of_mem _ (List.mem_append_right _ h)) (by decide +kernel))
set_option maxRecDepth 20000 in
theorem gX2_balance_X2_requireRange : GoodIn wsX2_balance (va_wsS RX2 38 yX2_requireRange wsX2_requireRange) := goodIn_app (goodIn_of _ (by decide +kernel)) ggX2_balance_X2_requireRange
set_option maxRecDepth 20000 in
theorem ggX2_balance_X2_drawBooks : GoodIn wsX2_balance wsX2_drawBooks := goodIn_r _ [17, 18, 19, 1, 20, 21, 22, 23, 24, 25, 26, 27, 28, 29, 30, 31, 32, 33, 34, 35, 36, 37, 38, 39, 40, 41, 42, 43, 44, 5, 45, 46, 47, 48, 49, 50, 51, 52, 53, 54, 55, 56, 57, 58, 59, 60, 61, 62, 63, 64, 65, 66, 67, 68, 69, 70, 71, 72, 73, 74, 75, 76, 77, 78, 79, 80, 81, 82, 83, 84, 85, 86, 87, 88, 89, 90, 91, 92, 93, 94, 95, 96, 97, 98, 99, 100, 101, 102, 103, 104, 105, 106, 107, 108, 109, 110, 111, 116, 117, 118, 119, 120, 121, 122, 123, 124, 125, 126, 127, 128, 129, 130, 131, 132, 133, 134, 135, 136, 137, 138, 139, 140, 141, 142, 143, 144, 145] (by decide +kernel) (by decide +kernel)
set_option maxRecDepth 20000 in
theorem gX2_balance_X2_drawBooks : GoodIn wsX2_balance (wsV RX2 125 RX2 yX2_drawBooks wsX2_drawBooks) := goodIn_app (goodIn_of _ (by decide +kernel)) ggX2_balance_X2_drawBooks
set_option maxRecDepth 20000 in
theorem ggX2_balance_X2_pictureOf : GoodIn wsX2_balance wsX2_pictureOf := goodIn_r _ [115, 18, 19, 116, 117, 118, 119, 120] (by decide +kernel) (by decide +kernel)
set_option maxRecDepth 20000 in
theorem gX2_balance_X2_pictureOf : GoodIn wsX2_balance (wsV RX2 42 RX2 yX2_pictureOf wsX2_pictureOf) := goodIn_app (goodIn_of _ (by decide +kernel)) ggX2_balance_X2_pictureOf
theorem dX2_balance_0 : decode cX2_balance 0 = .ok (.iload_n 1, 1) := by decide +kernel
theorem dX2_balance_1 : decode cX2_balance 1 = .ok (.invokestatic 34, 3) := by decide +kernel
theorem dX2_balance_4 : decode cX2_balance 4 = .ok (.iload_n 2, 1) := by decide +kernel
theorem dX2_balance_5 : decode cX2_balance 5 = .ok (.iconst 0, 1) := by decide +kernel
theorem dX2_balance_6 : decode cX2_balance 6 = .ok (.aload_n 0, 1) := by decide +kernel
theorem dX2_balance_7 : decode cX2_balance 7 = .ok (.getfield 30, 3) := by decide +kernel
theorem dX2_balance_10 : decode cX2_balance 10 = .ok (.invokestatic 38, 3) := by decide +kernel
theorem dX2_balance_13 : decode cX2_balance 13 = .ok (.aload_n 0, 1) := by decide +kernel
theorem dX2_balance_14 : decode cX2_balance 14 = .ok (.invokevirtual 125, 3) := by decide +kernel
theorem dX2_balance_17 : decode cX2_balance 17 = .ok (.aload_n 0, 1) := by decide +kernel
theorem dX2_balance_18 : decode cX2_balance 18 = .ok (.iload_n 1, 1) := by decide +kernel
theorem dX2_balance_19 : decode cX2_balance 19 = .ok (.invokevirtual 42, 3) := by decide +kernel
theorem dX2_balance_22 : decode cX2_balance 22 = .ok (.getfield 137, 3) := by decide +kernel
theorem dX2_balance_25 : decode cX2_balance 25 = .ok (.iload_n 2, 1) := by decide +kernel
theorem dX2_balance_26 : decode cX2_balance 26 = .ok (.laload, 1) := by decide +kernel
theorem dX2_balance_27 : decode cX2_balance 27 = .ok (.l2i, 1) := by decide +kernel
theorem dX2_balance_28 : decode cX2_balance 28 = .ok (.ireturn, 1) := by decide +kernel
set_option maxRecDepth 20000 in
theorem ggX2_profit_X2_requirePicture : GoodIn wsX2_profit wsX2_requirePicture := goodIn_ca (goodIn_r _ [6, 7, 8] (by decide +kernel) (by decide +kernel)) (goodIn_sub (fun _ h => List.mem_cons_of_mem _ (List.mem_append_left _ (List.mem_append_right _ h))) (by decide +kernel))
set_option maxRecDepth 20000 in
theorem gX2_profit_X2_requirePicture : GoodIn wsX2_profit (va_wsS RX2 34 yX2_requirePicture wsX2_requirePicture) := goodIn_app (goodIn_of _ (by decide +kernel)) ggX2_profit_X2_requirePicture
set_option maxRecDepth 20000 in
theorem ggX2_profit_X2_requireRange : GoodIn wsX2_profit wsX2_requireRange := goodIn_ca (goodIn_r _ [11, 12, 13] (by decide +kernel) (by decide +kernel)) (goodIn_sub (fun _ h => List.mem_cons_of_mem _ (List.mem_append_right _ h)) (by decide +kernel))
set_option maxRecDepth 20000 in
theorem gX2_profit_X2_requireRange : GoodIn wsX2_profit (va_wsS RX2 38 yX2_requireRange wsX2_requireRange) := goodIn_app (goodIn_of _ (by decide +kernel)) ggX2_profit_X2_requireRange
set_option maxRecDepth 20000 in
theorem ggX2_profit_X2_drawBooks : GoodIn wsX2_profit wsX2_drawBooks := goodIn_r _ [17, 18, 19, 1, 20, 21, 22, 23, 24, 25, 26, 27, 28, 29, 30, 31, 32, 33, 34, 35, 36, 37, 38, 39, 40, 41, 42, 43, 44, 5, 45, 46, 47, 48, 49, 50, 51, 52, 53, 54, 55, 56, 57, 58, 59, 60, 61, 62, 63, 64, 65, 66, 67, 68, 69, 70, 71, 72, 73, 74, 75, 76, 77, 78, 79, 80, 81, 82, 83, 84, 85, 86, 87, 88, 89, 90, 91, 92, 93, 94, 95, 96, 97, 98, 99, 100, 101, 102, 103, 104, 105, 106, 107, 108, 109, 110, 111, 116, 117, 118, 119, 120, 121, 122, 123, 124, 125, 126, 127, 128, 129, 130, 131, 132, 133, 134, 135, 136, 137, 138, 139, 140, 141, 142, 143, 144, 145] (by decide +kernel) (by decide +kernel)
set_option maxRecDepth 20000 in
theorem gX2_profit_X2_drawBooks : GoodIn wsX2_profit (wsV RX2 125 RX2 yX2_drawBooks wsX2_drawBooks) := goodIn_app (goodIn_of _ (by decide +kernel)) ggX2_profit_X2_drawBooks
set_option maxRecDepth 20000 in
theorem ggX2_profit_X2_pictureOf : GoodIn wsX2_profit wsX2_pictureOf := goodIn_r _ [115, 18, 19, 116, 117, 118, 119, 120] (by decide +kernel) (by decide +kernel)
set_option maxRecDepth 20000 in
theorem gX2_profit_X2_pictureOf : GoodIn wsX2_profit (wsV RX2 42 RX2 yX2_pictureOf wsX2_pictureOf) := goodIn_app (goodIn_of _ (by decide +kernel)) ggX2_profit_X2_pictureOf
theorem dX2_profit_0 : decode cX2_profit 0 = .ok (.iload_n 1, 1) := by decide +kernel
theorem dX2_profit_1 : decode cX2_profit 1 = .ok (.invokestatic 34, 3) := by decide +kernel
theorem dX2_profit_4 : decode cX2_profit 4 = .ok (.iload_n 2, 1) := by decide +kernel
theorem dX2_profit_5 : decode cX2_profit 5 = .ok (.iconst 0, 1) := by decide +kernel
theorem dX2_profit_6 : decode cX2_profit 6 = .ok (.aload_n 0, 1) := by decide +kernel
theorem dX2_profit_7 : decode cX2_profit 7 = .ok (.getfield 30, 3) := by decide +kernel
theorem dX2_profit_10 : decode cX2_profit 10 = .ok (.invokestatic 38, 3) := by decide +kernel
theorem dX2_profit_13 : decode cX2_profit 13 = .ok (.aload_n 0, 1) := by decide +kernel
theorem dX2_profit_14 : decode cX2_profit 14 = .ok (.invokevirtual 125, 3) := by decide +kernel
theorem dX2_profit_17 : decode cX2_profit 17 = .ok (.aload_n 0, 1) := by decide +kernel
theorem dX2_profit_18 : decode cX2_profit 18 = .ok (.iload_n 1, 1) := by decide +kernel
theorem dX2_profit_19 : decode cX2_profit 19 = .ok (.invokevirtual 42, 3) := by decide +kernel
theorem dX2_profit_22 : decode cX2_profit 22 = .ok (.getfield 141, 3) := by decide +kernel
theorem dX2_profit_25 : decode cX2_profit 25 = .ok (.iload_n 2, 1) := by decide +kernel
theorem dX2_profit_26 : decode cX2_profit 26 = .ok (.laload, 1) := by decide +kernel
theorem dX2_profit_27 : decode cX2_profit 27 = .ok (.l2i, 1) := by decide +kernel
theorem dX2_profit_28 : decode cX2_profit 28 = .ok (.ireturn, 1) := by decide +kernel
set_option maxRecDepth 20000 in
theorem ggX2_pool_X2_requirePicture : GoodIn wsX2_pool wsX2_requirePicture := goodIn_ca (goodIn_r _ [4, 5, 6] (by decide +kernel) (by decide +kernel)) (goodIn_sub (fun _ h => List.mem_cons_of_mem _ (List.mem_append_right _ h)) (by decide +kernel))
set_option maxRecDepth 20000 in
theorem gX2_pool_X2_requirePicture : GoodIn wsX2_pool (va_wsS RX2 34 yX2_requirePicture wsX2_requirePicture) := goodIn_app (goodIn_of _ (by decide +kernel)) ggX2_pool_X2_requirePicture
set_option maxRecDepth 20000 in
theorem ggX2_pool_X2_drawBooks : GoodIn wsX2_pool wsX2_drawBooks := goodIn_r _ [10, 11, 12, 13, 14, 15, 16, 17, 18, 19, 20, 21, 22, 23, 24, 25, 26, 27, 28, 29, 30, 31, 32, 33, 34, 35, 36, 37, 38, 3, 39, 40, 41, 42, 43, 44, 45, 46, 47, 48, 49, 50, 51, 52, 53, 54, 55, 56, 57, 58, 59, 60, 61, 62, 63, 64, 65, 66, 67, 68, 69, 70, 71, 72, 73, 74, 75, 76, 77, 78, 79, 80, 81, 82, 83, 84, 85, 86, 87, 88, 89, 90, 91, 92, 93, 94, 95, 96, 97, 98, 99, 100, 101, 102, 103, 104, 105, 119, 120, 121, 122, 123, 124, 125, 126, 127, 128, 129, 130, 131, 132, 133, 134, 135, 136, 137, 138, 139, 140, 141, 142, 143, 144, 145, 146, 147, 148] (by decide +kernel) (by decide +kernel)
set_option maxRecDepth 20000 in
theorem gX2_pool_X2_drawBooks : GoodIn wsX2_pool (wsV RX2 125 RX2 yX2_drawBooks wsX2_drawBooks) := goodIn_app (goodIn_of _ (by decide +kernel)) ggX2_pool_X2_drawBooks
set_option maxRecDepth 20000 in
theorem ggX2_pool_X2_pictureOf : GoodIn wsX2_pool wsX2_pictureOf := goodIn_r _ [109, 11, 12, 119, 120, 121, 122, 123] (by decide +kernel) (by decide +kernel)
set_option maxRecDepth 20000 in
theorem gX2_pool_X2_pictureOf : GoodIn wsX2_pool (wsV RX2 42 RX2 yX2_pictureOf wsX2_pictureOf) := goodIn_app (goodIn_of _ (by decide +kernel)) ggX2_pool_X2_pictureOf
set_option maxRecDepth 20000 in
theorem ggX2_pool_X0_poolDrawn : GoodIn wsX2_pool wsX0_poolDrawn := goodIn_r _ [113, 50, 53, 54, 55, 56, 57, 58, 114, 115, 116, 18, 117, 25, 51, 52, 118, 98, 83, 84, 85, 59, 60, 61, 62, 63, 64, 65, 66, 67, 68, 69, 70, 71, 72, 73, 74, 75, 124, 125, 126, 127, 128, 129, 130, 131, 132, 133, 134, 135, 136, 137, 138, 146, 147, 148, 139, 140, 141, 142, 143, 144, 145] (by decide +kernel) (by decide +kernel)
set_option maxRecDepth 20000 in
theorem gX2_pool_X0_poolDrawn : GoodIn wsX2_pool (wsV RX2 144 RX0 yX0_poolDrawn wsX0_poolDrawn) := goodIn_app (goodIn_of _ (by decide +kernel)) ggX2_pool_X0_poolDrawn
theorem dX2_pool_0 : decode cX2_pool 0 = .ok (.iload_n 1, 1) := by decide +kernel
theorem dX2_pool_1 : decode cX2_pool 1 = .ok (.invokestatic 34, 3) := by decide +kernel
theorem dX2_pool_4 : decode cX2_pool 4 = .ok (.aload_n 0, 1) := by decide +kernel
theorem dX2_pool_5 : decode cX2_pool 5 = .ok (.invokevirtual 125, 3) := by decide +kernel
theorem dX2_pool_8 : decode cX2_pool 8 = .ok (.aload_n 0, 1) := by decide +kernel
theorem dX2_pool_9 : decode cX2_pool 9 = .ok (.iload_n 1, 1) := by decide +kernel
theorem dX2_pool_10 : decode cX2_pool 10 = .ok (.invokevirtual 42, 3) := by decide +kernel
theorem dX2_pool_13 : decode cX2_pool 13 = .ok (.invokevirtual 144, 3) := by decide +kernel
theorem dX2_pool_16 : decode cX2_pool 16 = .ok (.l2i, 1) := by decide +kernel
theorem dX2_pool_17 : decode cX2_pool 17 = .ok (.ireturn, 1) := by decide +kernel
set_option maxRecDepth 20000 in
theorem ggX2_sharers_Jx4a65c_size_8abf5 : GoodIn wsX2_sharers wsJx4a65c_size_8abf5 := goodIn_r _ [6, 7, 13, 14, 15] (by decide +kernel) (by decide +kernel)
set_option maxRecDepth 20000 in
theorem gX2_sharers_Jx4a65c_size_8abf5 : GoodIn wsX2_sharers (wsV RX2 78 RJx4a65c yJx4a65c_size_8abf5 wsJx4a65c_size_8abf5) := goodIn_app (goodIn_of _ (by decide +kernel)) ggX2_sharers_Jx4a65c_size_8abf5
theorem dX2_sharers_0 : decode cX2_sharers 0 = .ok (.aload_n 0, 1) := by decide +kernel
theorem dX2_sharers_1 : decode cX2_sharers 1 = .ok (.getfield 22, 3) := by decide +kernel
theorem dX2_sharers_4 : decode cX2_sharers 4 = .ok (.invokevirtual 78, 3) := by decide +kernel
theorem dX2_sharers_7 : decode cX2_sharers 7 = .ok (.ireturn, 1) := by decide +kernel
set_option maxRecDepth 20000 in
theorem ggX2_sum_X2_requireSharer : GoodIn wsX2_sum wsX2_requireSharer := goodIn_ca (goodIn_r _ [7, 8, 9, 1, 10, 11, 12, 13, 14, 15, 130, 131, 132, 133, 134, 135, 136, 137] (by decide +kernel) (by decide +kernel)) (goodIn_sub (fun _ h => List.mem_cons_of_mem _ (List.mem_append_right _ h)) (by decide +kernel))
set_option maxRecDepth 20000 in
theorem gX2_sum_X2_requireSharer : GoodIn wsX2_sum (wsV RX2 108 RX2 yX2_requireSharer wsX2_requireSharer) := goodIn_app (goodIn_of _ (by decide +kernel)) ggX2_sum_X2_requireSharer
set_option maxRecDepth 20000 in
theorem ggX2_sum_Jx4a65c_get_915e3 : GoodIn wsX2_sum wsJx4a65c_get_915e3 := goodIn_r _ [19, 15, 20, 21, 22, 23, 24, 25, 26, 27, 28, 29, 30, 13, 31, 32, 135, 136, 137] (by decide +kernel) (by decide +kernel)
set_option maxRecDepth 20000 in
theorem gX2_sum_Jx4a65c_get_915e3 : GoodIn wsX2_sum (wsV RX2 111 RJx4a65c yJx4a65c_get_915e3 wsJx4a65c_get_915e3) := goodIn_app (goodIn_of _ (by decide +kernel)) ggX2_sum_Jx4a65c_get_915e3
set_option maxRecDepth 20000 in
theorem ggX2_sum_X2_drawnSum : GoodIn wsX2_sum wsX2_drawnSum := goodIn_r _ [36, 37, 38, 39, 40, 6, 41, 42, 43, 44, 45, 46, 47, 48, 49, 50, 51, 52, 53, 54, 55, 56, 57, 58, 59, 60, 61, 62, 63, 64, 65, 66, 67, 68, 69, 70, 71, 72, 73, 74, 75, 76, 77, 78, 79, 80, 81, 82, 83, 84, 11, 12, 13, 14, 15, 85, 17, 18, 19, 20, 21, 22, 23, 24, 25, 26, 27, 28, 29, 30, 31, 32, 86, 87, 88, 89, 90, 91, 92, 93, 94, 95, 96, 97, 98, 99, 100, 101, 102, 103, 104, 105, 106, 107, 108, 109, 110, 111, 112, 113, 114, 115, 116, 117, 118, 119, 120, 121, 122, 123, 124, 125, 126, 127, 128, 129, 138, 139, 140, 141, 142, 143, 144, 130, 131, 132, 133, 134, 145, 146, 147, 148, 149, 150, 151, 152, 153, 154, 155, 156, 157, 158, 159, 135, 136, 137] (by decide +kernel) (by decide +kernel)
set_option maxRecDepth 20000 in
theorem gX2_sum_X2_drawnSum : GoodIn wsX2_sum (wsV RX2 115 RX2 yX2_drawnSum wsX2_drawnSum) := goodIn_app (goodIn_of _ (by decide +kernel)) ggX2_sum_X2_drawnSum
theorem dX2_sum_0 : decode cX2_sum 0 = .ok (.aload_n 0, 1) := by decide +kernel
theorem dX2_sum_1 : decode cX2_sum 1 = .ok (.iload_n 1, 1) := by decide +kernel
theorem dX2_sum_2 : decode cX2_sum 2 = .ok (.invokevirtual 108, 3) := by decide +kernel
theorem dX2_sum_5 : decode cX2_sum 5 = .ok (.aload_n 0, 1) := by decide +kernel
theorem dX2_sum_6 : decode cX2_sum 6 = .ok (.aload_n 0, 1) := by decide +kernel
theorem dX2_sum_7 : decode cX2_sum 7 = .ok (.getfield 22, 3) := by decide +kernel
theorem dX2_sum_10 : decode cX2_sum 10 = .ok (.iload_n 1, 1) := by decide +kernel
theorem dX2_sum_11 : decode cX2_sum 11 = .ok (.invokevirtual 111, 3) := by decide +kernel
theorem dX2_sum_14 : decode cX2_sum 14 = .ok (.checkcast 73, 3) := by decide +kernel
theorem dX2_sum_17 : decode cX2_sum 17 = .ok (.invokevirtual 115, 3) := by decide +kernel
theorem dX2_sum_20 : decode cX2_sum 20 = .ok (.l2i, 1) := by decide +kernel
theorem dX2_sum_21 : decode cX2_sum 21 = .ok (.ireturn, 1) := by decide +kernel
set_option maxRecDepth 20000 in
theorem ggX2_paid_X2_requireSharer : GoodIn wsX2_paid wsX2_requireSharer := goodIn_ca (goodIn_r _ [8, 9, 10, 1, 11, 12, 13, 14, 15, 16, 34, 35, 36, 37, 38, 46, 47, 48] (by decide +kernel) (by decide +kernel)) (goodIn_sub (fun _ h => List.mem_cons_of_mem _ (List.mem_append_right _ h)) (by decide +kernel))
set_option maxRecDepth 20000 in
theorem gX2_paid_X2_requireSharer : GoodIn wsX2_paid (wsV RX2 108 RX2 yX2_requireSharer wsX2_requireSharer) := goodIn_app (goodIn_of _ (by decide +kernel)) ggX2_paid_X2_requireSharer
set_option maxRecDepth 20000 in
theorem ggX2_paid_Jx4a65c_get_915e3 : GoodIn wsX2_paid wsJx4a65c_get_915e3 := goodIn_r _ [20, 16, 21, 22, 23, 24, 25, 26, 27, 28, 29, 30, 31, 14, 32, 33, 46, 47, 48] (by decide +kernel) (by decide +kernel)
set_option maxRecDepth 20000 in
theorem gX2_paid_Jx4a65c_get_915e3 : GoodIn wsX2_paid (wsV RX2 111 RJx4a65c yJx4a65c_get_915e3 wsJx4a65c_get_915e3) := goodIn_app (goodIn_of _ (by decide +kernel)) ggX2_paid_Jx4a65c_get_915e3
theorem dX2_paid_0 : decode cX2_paid 0 = .ok (.aload_n 0, 1) := by decide +kernel
theorem dX2_paid_1 : decode cX2_paid 1 = .ok (.iload_n 1, 1) := by decide +kernel
theorem dX2_paid_2 : decode cX2_paid 2 = .ok (.invokevirtual 108, 3) := by decide +kernel
theorem dX2_paid_5 : decode cX2_paid 5 = .ok (.aload_n 0, 1) := by decide +kernel
theorem dX2_paid_6 : decode cX2_paid 6 = .ok (.getfield 22, 3) := by decide +kernel
theorem dX2_paid_9 : decode cX2_paid 9 = .ok (.iload_n 1, 1) := by decide +kernel
theorem dX2_paid_10 : decode cX2_paid 10 = .ok (.invokevirtual 111, 3) := by decide +kernel
theorem dX2_paid_13 : decode cX2_paid 13 = .ok (.checkcast 73, 3) := by decide +kernel
theorem dX2_paid_16 : decode cX2_paid 16 = .ok (.getfield 119, 3) := by decide +kernel
theorem dX2_paid_19 : decode cX2_paid 19 = .ok (.l2i, 1) := by decide +kernel
theorem dX2_paid_20 : decode cX2_paid 20 = .ok (.ireturn, 1) := by decide +kernel
set_option maxRecDepth 20000 in
theorem ggX2_owed_X2_requireSharer : GoodIn wsX2_owed wsX2_requireSharer := goodIn_ca (goodIn_r _ [8, 9, 10, 1, 11, 12, 13, 14, 15, 16, 131, 132, 133, 134, 135, 143, 144, 145] (by decide +kernel) (by decide +kernel)) (goodIn_sub (fun _ h => List.mem_cons_of_mem _ (List.mem_append_right _ h)) (by decide +kernel))
set_option maxRecDepth 20000 in
theorem gX2_owed_X2_requireSharer : GoodIn wsX2_owed (wsV RX2 108 RX2 yX2_requireSharer wsX2_requireSharer) := goodIn_app (goodIn_of _ (by decide +kernel)) ggX2_owed_X2_requireSharer
set_option maxRecDepth 20000 in
theorem ggX2_owed_Jx4a65c_get_915e3 : GoodIn wsX2_owed wsJx4a65c_get_915e3 := goodIn_r _ [20, 16, 21, 22, 23, 24, 25, 26, 27, 28, 29, 30, 31, 14, 32, 33, 143, 144, 145] (by decide +kernel) (by decide +kernel)
set_option maxRecDepth 20000 in
theorem gX2_owed_Jx4a65c_get_915e3 : GoodIn wsX2_owed (wsV RX2 111 RJx4a65c yJx4a65c_get_915e3 wsJx4a65c_get_915e3) := goodIn_app (goodIn_of _ (by decide +kernel)) ggX2_owed_Jx4a65c_get_915e3
set_option maxRecDepth 20000 in
theorem ggX2_owed_X2_drawnSum : GoodIn wsX2_owed wsX2_drawnSum := goodIn_r _ [37, 38, 39, 40, 41, 7, 42, 43, 44, 45, 46, 47, 48, 49, 50, 51, 52, 53, 54, 55, 56, 57, 58, 59, 60, 61, 62, 63, 64, 65, 66, 67, 68, 69, 70, 71, 72, 73, 74, 75, 76, 77, 78, 79, 80, 81, 82, 83, 84, 85, 12, 13, 14, 15, 16, 86, 18, 19, 20, 21, 22, 23, 24, 25, 26, 27, 28, 29, 30, 31, 32, 33, 87, 88, 89, 90, 91, 92, 93, 94, 95, 96, 97, 98, 99, 100, 101, 102, 103, 104, 105, 106, 107, 108, 109, 110, 111, 112, 113, 114, 115, 116, 117, 118, 119, 120, 121, 122, 123, 124, 125, 126, 127, 128, 129, 130, 136, 137, 138, 139, 140, 141, 142, 131, 132, 133, 134, 135, 146, 147, 148, 149, 150, 151, 152, 153, 154, 155, 156, 157, 158, 159, 160, 143, 144, 145] (by decide +kernel) (by decide +kernel)
set_option maxRecDepth 20000 in
theorem gX2_owed_X2_drawnSum : GoodIn wsX2_owed (wsV RX2 115 RX2 yX2_drawnSum wsX2_drawnSum) := goodIn_app (goodIn_of _ (by decide +kernel)) ggX2_owed_X2_drawnSum
theorem dX2_owed_0 : decode cX2_owed 0 = .ok (.aload_n 0, 1) := by decide +kernel
theorem dX2_owed_1 : decode cX2_owed 1 = .ok (.iload_n 1, 1) := by decide +kernel
theorem dX2_owed_2 : decode cX2_owed 2 = .ok (.invokevirtual 108, 3) := by decide +kernel
theorem dX2_owed_5 : decode cX2_owed 5 = .ok (.aload_n 0, 1) := by decide +kernel
theorem dX2_owed_6 : decode cX2_owed 6 = .ok (.getfield 22, 3) := by decide +kernel
theorem dX2_owed_9 : decode cX2_owed 9 = .ok (.iload_n 1, 1) := by decide +kernel
theorem dX2_owed_10 : decode cX2_owed 10 = .ok (.invokevirtual 111, 3) := by decide +kernel
theorem dX2_owed_13 : decode cX2_owed 13 = .ok (.checkcast 73, 3) := by decide +kernel
theorem dX2_owed_16 : decode cX2_owed 16 = .ok (.astore_n 2, 1) := by decide +kernel
theorem dX2_owed_17 : decode cX2_owed 17 = .ok (.aload_n 0, 1) := by decide +kernel
theorem dX2_owed_18 : decode cX2_owed 18 = .ok (.aload_n 2, 1) := by decide +kernel
theorem dX2_owed_19 : decode cX2_owed 19 = .ok (.invokevirtual 115, 3) := by decide +kernel
theorem dX2_owed_22 : decode cX2_owed 22 = .ok (.aload_n 2, 1) := by decide +kernel
theorem dX2_owed_23 : decode cX2_owed 23 = .ok (.getfield 119, 3) := by decide +kernel
theorem dX2_owed_26 : decode cX2_owed 26 = .ok (.lsub, 1) := by decide +kernel
theorem dX2_owed_27 : decode cX2_owed 27 = .ok (.l2i, 1) := by decide +kernel
theorem dX2_owed_28 : decode cX2_owed 28 = .ok (.ireturn, 1) := by decide +kernel
theorem dX2_requirePicture_0 : decode cX2_requirePicture 0 = .ok (.iload_n 0, 1) := by decide +kernel
theorem dX2_requirePicture_1 : decode cX2_requirePicture 1 = .ok (.ifCond .lt 8, 3) := by decide +kernel
theorem dX2_requirePicture_4 : decode cX2_requirePicture 4 = .ok (.iload_n 0, 1) := by decide +kernel
theorem dX2_requirePicture_5 : decode cX2_requirePicture 5 = .ok (.iconst 2, 1) := by decide +kernel
theorem dX2_requirePicture_6 : decode cX2_requirePicture 6 = .ok (.if_icmp .lt 13, 3) := by decide +kernel
theorem dX2_requirePicture_9 : decode cX2_requirePicture 9 = .ok (.new 148, 3) := by decide +kernel
theorem dX2_requirePicture_12 : decode cX2_requirePicture 12 = .ok (.dup, 1) := by decide +kernel
theorem dX2_requirePicture_13 : decode cX2_requirePicture 13 = .ok (.ldc 150, 2) := by decide +kernel
theorem dX2_requirePicture_15 : decode cX2_requirePicture 15 = .ok (.invokespecial 152, 3) := by decide +kernel
theorem dX2_requirePicture_18 : decode cX2_requirePicture 18 = .ok (.athrow, 1) := by decide +kernel
theorem dX2_requirePicture_19 : decode cX2_requirePicture 19 = .ok (.return_, 1) := by decide +kernel
theorem dX2_requireWindow_0 : decode cX2_requireWindow 0 = .ok (.iload_n 0, 1) := by decide +kernel
theorem dX2_requireWindow_1 : decode cX2_requireWindow 1 = .ok (.ifCond .lt 8, 3) := by decide +kernel
theorem dX2_requireWindow_4 : decode cX2_requireWindow 4 = .ok (.iload_n 0, 1) := by decide +kernel
theorem dX2_requireWindow_5 : decode cX2_requireWindow 5 = .ok (.iconst 4, 1) := by decide +kernel
theorem dX2_requireWindow_6 : decode cX2_requireWindow 6 = .ok (.if_icmp .lt 13, 3) := by decide +kernel
theorem dX2_requireWindow_9 : decode cX2_requireWindow 9 = .ok (.new 148, 3) := by decide +kernel
theorem dX2_requireWindow_12 : decode cX2_requireWindow 12 = .ok (.dup, 1) := by decide +kernel
theorem dX2_requireWindow_13 : decode cX2_requireWindow 13 = .ok (.ldc 153, 2) := by decide +kernel
theorem dX2_requireWindow_15 : decode cX2_requireWindow 15 = .ok (.invokespecial 152, 3) := by decide +kernel
theorem dX2_requireWindow_18 : decode cX2_requireWindow 18 = .ok (.athrow, 1) := by decide +kernel
theorem dX2_requireWindow_19 : decode cX2_requireWindow 19 = .ok (.return_, 1) := by decide +kernel
theorem dX2_requireRange_0 : decode cX2_requireRange 0 = .ok (.iload_n 0, 1) := by decide +kernel
theorem dX2_requireRange_1 : decode cX2_requireRange 1 = .ok (.iload_n 1, 1) := by decide +kernel
theorem dX2_requireRange_2 : decode cX2_requireRange 2 = .ok (.if_icmp .lt 8, 3) := by decide +kernel
theorem dX2_requireRange_5 : decode cX2_requireRange 5 = .ok (.iload_n 0, 1) := by decide +kernel
theorem dX2_requireRange_6 : decode cX2_requireRange 6 = .ok (.iload_n 2, 1) := by decide +kernel
theorem dX2_requireRange_7 : decode cX2_requireRange 7 = .ok (.if_icmp .le 13, 3) := by decide +kernel
theorem dX2_requireRange_10 : decode cX2_requireRange 10 = .ok (.new 155, 3) := by decide +kernel
theorem dX2_requireRange_13 : decode cX2_requireRange 13 = .ok (.dup, 1) := by decide +kernel
theorem dX2_requireRange_14 : decode cX2_requireRange 14 = .ok (.ldc 157, 2) := by decide +kernel
theorem dX2_requireRange_16 : decode cX2_requireRange 16 = .ok (.invokespecial 159, 3) := by decide +kernel
theorem dX2_requireRange_19 : decode cX2_requireRange 19 = .ok (.athrow, 1) := by decide +kernel
theorem dX2_requireRange_20 : decode cX2_requireRange 20 = .ok (.return_, 1) := by decide +kernel
set_option maxRecDepth 20000 in
theorem ggX2_requireSharer_Jx4a65c_size_8abf5 : GoodIn wsX2_requireSharer wsJx4a65c_size_8abf5 := goodIn_r _ [8, 9, 15, 16, 17] (by decide +kernel) (by decide +kernel)
set_option maxRecDepth 20000 in
theorem gX2_requireSharer_Jx4a65c_size_8abf5 : GoodIn wsX2_requireSharer (wsV RX2 78 RJx4a65c yJx4a65c_size_8abf5 wsJx4a65c_size_8abf5) := goodIn_app (goodIn_of _ (by decide +kernel)) ggX2_requireSharer_Jx4a65c_size_8abf5
theorem dX2_requireSharer_0 : decode cX2_requireSharer 0 = .ok (.iload_n 1, 1) := by decide +kernel
theorem dX2_requireSharer_1 : decode cX2_requireSharer 1 = .ok (.ifCond .lt 14, 3) := by decide +kernel
theorem dX2_requireSharer_4 : decode cX2_requireSharer 4 = .ok (.iload_n 1, 1) := by decide +kernel
theorem dX2_requireSharer_5 : decode cX2_requireSharer 5 = .ok (.aload_n 0, 1) := by decide +kernel
theorem dX2_requireSharer_6 : decode cX2_requireSharer 6 = .ok (.getfield 22, 3) := by decide +kernel
theorem dX2_requireSharer_9 : decode cX2_requireSharer 9 = .ok (.invokevirtual 78, 3) := by decide +kernel
theorem dX2_requireSharer_12 : decode cX2_requireSharer 12 = .ok (.if_icmp .lt 13, 3) := by decide +kernel
theorem dX2_requireSharer_15 : decode cX2_requireSharer 15 = .ok (.new 148, 3) := by decide +kernel
theorem dX2_requireSharer_18 : decode cX2_requireSharer 18 = .ok (.dup, 1) := by decide +kernel
theorem dX2_requireSharer_19 : decode cX2_requireSharer 19 = .ok (.ldc 160, 2) := by decide +kernel
theorem dX2_requireSharer_21 : decode cX2_requireSharer 21 = .ok (.invokespecial 152, 3) := by decide +kernel
theorem dX2_requireSharer_24 : decode cX2_requireSharer 24 = .ok (.athrow, 1) := by decide +kernel
theorem dX2_requireSharer_25 : decode cX2_requireSharer 25 = .ok (.return_, 1) := by decide +kernel
set_option maxRecDepth 20000 in
theorem ggX2_requireRoom_Jx4a65c_size_8abf5 : GoodIn wsX2_requireRoom wsJx4a65c_size_8abf5 := goodIn_r _ [8, 9, 47, 48, 49] (by decide +kernel) (by decide +kernel)
set_option maxRecDepth 20000 in
theorem gX2_requireRoom_Jx4a65c_size_8abf5 : GoodIn wsX2_requireRoom (wsV RX2 78 RJx4a65c yJx4a65c_size_8abf5 wsJx4a65c_size_8abf5) := goodIn_app (goodIn_of _ (by decide +kernel)) ggX2_requireRoom_Jx4a65c_size_8abf5
set_option maxRecDepth 20000 in
theorem ggX2_requireRoom_X0_netRatesGiven : GoodIn wsX2_requireRoom wsX0_netRatesGiven := goodIn_r _ [14, 15, 16, 17, 18, 19, 20, 21, 22, 23, 24, 5, 6, 7, 8, 9, 25, 26, 27, 28, 29, 30, 31, 32, 33, 34, 35, 36, 37, 38, 39, 40, 41, 50, 51, 52, 53, 54, 55, 56, 57, 58, 59, 60, 61, 62, 63, 64, 65, 66, 67, 68, 69, 70, 71, 47, 48, 49] (by decide +kernel) (by decide +kernel)
set_option maxRecDepth 20000 in
theorem gX2_requireRoom_X0_netRatesGiven : GoodIn wsX2_requireRoom (wsV RX2 164 RX0 yX0_netRatesGiven wsX0_netRatesGiven) := goodIn_app (goodIn_of _ (by decide +kernel)) ggX2_requireRoom_X0_netRatesGiven
theorem dX2_requireRoom_0 : decode cX2_requireRoom 0 = .ok (.aload_n 0, 1) := by decide +kernel
theorem dX2_requireRoom_1 : decode cX2_requireRoom 1 = .ok (.getfield 22, 3) := by decide +kernel
theorem dX2_requireRoom_4 : decode cX2_requireRoom 4 = .ok (.invokevirtual 78, 3) := by decide +kernel
theorem dX2_requireRoom_7 : decode cX2_requireRoom 7 = .ok (.bipush 8, 2) := by decide +kernel
theorem dX2_requireRoom_9 : decode cX2_requireRoom 9 = .ok (.if_icmp .lt 13, 3) := by decide +kernel
theorem dX2_requireRoom_12 : decode cX2_requireRoom 12 = .ok (.new 101, 3) := by decide +kernel
theorem dX2_requireRoom_15 : decode cX2_requireRoom 15 = .ok (.dup, 1) := by decide +kernel
theorem dX2_requireRoom_16 : decode cX2_requireRoom 16 = .ok (.ldc 162, 2) := by decide +kernel
theorem dX2_requireRoom_18 : decode cX2_requireRoom 18 = .ok (.invokespecial 105, 3) := by decide +kernel
theorem dX2_requireRoom_21 : decode cX2_requireRoom 21 = .ok (.athrow, 1) := by decide +kernel
theorem dX2_requireRoom_22 : decode cX2_requireRoom 22 = .ok (.iload_n 2, 1) := by decide +kernel
theorem dX2_requireRoom_23 : decode cX2_requireRoom 23 = .ok (.iconst 1, 1) := by decide +kernel
theorem dX2_requireRoom_24 : decode cX2_requireRoom 24 = .ok (.if_icmp .ne 25, 3) := by decide +kernel
theorem dX2_requireRoom_27 : decode cX2_requireRoom 27 = .ok (.aload_n 1, 1) := by decide +kernel
theorem dX2_requireRoom_28 : decode cX2_requireRoom 28 = .ok (.invokevirtual 164, 3) := by decide +kernel
theorem dX2_requireRoom_31 : decode cX2_requireRoom 31 = .ok (.iload_n 3, 1) := by decide +kernel
theorem dX2_requireRoom_32 : decode cX2_requireRoom 32 = .ok (.iadd, 1) := by decide +kernel
theorem dX2_requireRoom_33 : decode cX2_requireRoom 33 = .ok (.sipush 10000, 3) := by decide +kernel
theorem dX2_requireRoom_36 : decode cX2_requireRoom 36 = .ok (.if_icmp .le 13, 3) := by decide +kernel
theorem dX2_requireRoom_39 : decode cX2_requireRoom 39 = .ok (.new 101, 3) := by decide +kernel
theorem dX2_requireRoom_42 : decode cX2_requireRoom 42 = .ok (.dup, 1) := by decide +kernel
theorem dX2_requireRoom_43 : decode cX2_requireRoom 43 = .ok (.ldc 167, 2) := by decide +kernel
theorem dX2_requireRoom_45 : decode cX2_requireRoom 45 = .ok (.invokespecial 105, 3) := by decide +kernel
theorem dX2_requireRoom_48 : decode cX2_requireRoom 48 = .ok (.athrow, 1) := by decide +kernel
theorem dX2_requireRoom_49 : decode cX2_requireRoom 49 = .ok (.return_, 1) := by decide +kernel
theorem dX2_requireOpenToAudit_0 : decode cX2_requireOpenToAudit 0 = .ok (.iload_n 1, 1) := by decide +kernel
theorem dX2_requireOpenToAudit_1 : decode cX2_requireOpenToAudit 1 = .ok (.ifCond .lt 21, 3) := by decide +kernel
theorem dX2_requireOpenToAudit_4 : decode cX2_requireOpenToAudit 4 = .ok (.iload_n 1, 1) := by decide +kernel
theorem dX2_requireOpenToAudit_5 : decode cX2_requireOpenToAudit 5 = .ok (.aload_n 0, 1) := by decide +kernel
theorem dX2_requireOpenToAudit_6 : decode cX2_requireOpenToAudit 6 = .ok (.getfield 30, 3) := by decide +kernel
theorem dX2_requireOpenToAudit_9 : decode cX2_requireOpenToAudit 9 = .ok (.iconst 3, 1) := by decide +kernel
theorem dX2_requireOpenToAudit_10 : decode cX2_requireOpenToAudit 10 = .ok (.isub, 1) := by decide +kernel
theorem dX2_requireOpenToAudit_11 : decode cX2_requireOpenToAudit 11 = .ok (.if_icmp .lt 11, 3) := by decide +kernel
theorem dX2_requireOpenToAudit_14 : decode cX2_requireOpenToAudit 14 = .ok (.iload_n 1, 1) := by decide +kernel
theorem dX2_requireOpenToAudit_15 : decode cX2_requireOpenToAudit 15 = .ok (.aload_n 0, 1) := by decide +kernel
theorem dX2_requireOpenToAudit_16 : decode cX2_requireOpenToAudit 16 = .ok (.getfield 30, 3) := by decide +kernel
theorem dX2_requireOpenToAudit_19 : decode cX2_requireOpenToAudit 19 = .ok (.if_icmp .lt 13, 3) := by decide +kernel
theorem dX2_requireOpenToAudit_22 : decode cX2_requireOpenToAudit 22 = .ok (.new 101, 3) := by decide +kernel
theorem dX2_requireOpenToAudit_25 : decode cX2_requireOpenToAudit 25 = .ok (.dup, 1) := by decide +kernel
theorem dX2_requireOpenToAudit_26 : decode cX2_requireOpenToAudit 26 = .ok (.ldc 169, 2) := by decide +kernel
theorem dX2_requireOpenToAudit_28 : decode cX2_requireOpenToAudit 28 = .ok (.invokespecial 105, 3) := by decide +kernel
theorem dX2_requireOpenToAudit_31 : decode cX2_requireOpenToAudit 31 = .ok (.athrow, 1) := by decide +kernel
theorem dX2_requireOpenToAudit_32 : decode cX2_requireOpenToAudit 32 = .ok (.return_, 1) := by decide +kernel
theorem dX2_pictureOf_0 : decode cX2_pictureOf 0 = .ok (.iload_n 1, 1) := by decide +kernel
theorem dX2_pictureOf_1 : decode cX2_pictureOf 1 = .ok (.ifCond .ne 10, 3) := by decide +kernel
theorem dX2_pictureOf_4 : decode cX2_pictureOf 4 = .ok (.aload_n 0, 1) := by decide +kernel
theorem dX2_pictureOf_5 : decode cX2_pictureOf 5 = .ok (.getfield 10, 3) := by decide +kernel
theorem dX2_pictureOf_8 : decode cX2_pictureOf 8 = .ok (.goto 7, 3) := by decide +kernel
theorem dX2_pictureOf_11 : decode cX2_pictureOf 11 = .ok (.aload_n 0, 1) := by decide +kernel
theorem dX2_pictureOf_12 : decode cX2_pictureOf 12 = .ok (.getfield 16, 3) := by decide +kernel
theorem dX2_pictureOf_15 : decode cX2_pictureOf 15 = .ok (.areturn, 1) := by decide +kernel
set_option maxRecDepth 20000 in
theorem ggX2_drawnSum_X2_drawBooks : GoodIn wsX2_drawnSum wsX2_drawBooks := goodIn_r _ [6, 7, 8, 9, 10, 11, 12, 13, 14, 15, 16, 17, 18, 19, 20, 21, 22, 23, 24, 25, 26, 27, 28, 29, 30, 31, 32, 33, 34, 5, 35, 36, 37, 38, 39, 40, 41, 42, 43, 44, 45, 46, 47, 48, 49, 50, 51, 52, 53, 54, 55, 56, 57, 58, 59, 60, 61, 62, 63, 64, 65, 66, 67, 68, 69, 70, 71, 72, 73, 74, 75, 76, 77, 78, 79, 80, 81, 82, 83, 84, 85, 86, 87, 88, 89, 90, 91, 92, 93, 94, 95, 96, 97, 98, 99, 100, 101, 123, 124, 125, 126, 127, 128, 129, 130, 131, 132, 133, 134, 135, 136, 137, 138, 139, 140, 141, 142, 116, 117, 118, 119, 120, 121, 122, 143, 144, 145] (by decide +kernel) (by decide +kernel)
set_option maxRecDepth 20000 in
theorem gX2_drawnSum_X2_drawBooks : GoodIn wsX2_drawnSum (wsV RX2 125 RX2 yX2_drawBooks wsX2_drawBooks) := goodIn_app (goodIn_of _ (by decide +kernel)) ggX2_drawnSum_X2_drawBooks
set_option maxRecDepth 20000 in
theorem ggX2_drawnSum_X0_sumDrawn : GoodIn wsX2_drawnSum wsX0_sumDrawn := goodIn_r _ [105, 48, 17, 106, 107, 94, 79, 80, 81, 16, 72, 73, 74, 75, 76, 77, 78, 82, 83, 84, 108, 109, 110, 14, 111, 46, 49, 50, 51, 52, 53, 54, 112, 113, 114, 115, 21, 47, 55, 56, 57, 58, 59, 60, 61, 62, 63, 64, 65, 66, 67, 68, 69, 70, 71, 85, 86, 87, 88, 89, 116, 117, 118, 119, 120, 121, 122, 128, 129, 130, 131, 132, 133, 134, 135, 136, 137, 138, 139, 140, 141, 142, 143, 144, 145] (by decide +kernel) (by decide +kernel)
set_option maxRecDepth 20000 in
theorem gX2_drawnSum_X0_sumDrawn : GoodIn wsX2_drawnSum (wsV RX2 174 RX0 yX0_sumDrawn wsX0_sumDrawn) := goodIn_app (goodIn_of _ (by decide +kernel)) ggX2_drawnSum_X0_sumDrawn
theorem dX2_drawnSum_0 : decode cX2_drawnSum 0 = .ok (.aload_n 0, 1) := by decide +kernel
theorem dX2_drawnSum_1 : decode cX2_drawnSum 1 = .ok (.invokevirtual 125, 3) := by decide +kernel
theorem dX2_drawnSum_4 : decode cX2_drawnSum 4 = .ok (.aload_n 1, 1) := by decide +kernel
theorem dX2_drawnSum_5 : decode cX2_drawnSum 5 = .ok (.getfield 171, 3) := by decide +kernel
theorem dX2_drawnSum_8 : decode cX2_drawnSum 8 = .ok (.aload_n 1, 1) := by decide +kernel
theorem dX2_drawnSum_9 : decode cX2_drawnSum 9 = .ok (.invokevirtual 174, 3) := by decide +kernel
theorem dX2_drawnSum_12 : decode cX2_drawnSum 12 = .ok (.lreturn, 1) := by decide +kernel
set_option maxRecDepth 20000 in
theorem ggX2_drawBooks_X0_startBooks : GoodIn wsX2_drawBooks wsX0_startBooks := goodIn_r _ [9, 10, 11, 12, 13, 14, 15, 102, 103, 104, 105, 106, 107, 108, 109, 110, 111, 112, 113, 114, 115, 116] (by decide +kernel) (by decide +kernel)
set_option maxRecDepth 20000 in
theorem gX2_drawBooks_X0_startBooks : GoodIn wsX2_drawBooks (wsV RX2 177 RX0 yX0_startBooks wsX0_startBooks) := goodIn_app (goodIn_of _ (by decide +kernel)) ggX2_drawBooks_X0_startBooks
set_option maxRecDepth 20000 in
theorem ggX2_drawBooks_X0_recoup : GoodIn wsX2_drawBooks wsX0_recoup := goodIn_r _ [19, 20, 10, 11, 12, 14, 21, 22, 13, 15, 23, 24, 25, 8, 26, 27, 28, 29, 30, 31, 32, 33, 34, 35, 36, 37, 38, 39, 40, 41, 42, 43, 44, 45, 46, 47, 48, 49, 50, 51, 52, 53, 54, 55, 56, 57, 58, 59, 60, 61, 62, 63, 64, 65, 66, 67, 68, 69, 70, 71, 72, 73, 74, 75, 76, 77, 78, 79, 80, 81, 82, 83, 84, 102, 103, 104, 105, 106, 107, 108, 109, 110, 111, 112, 113, 114, 115, 116, 117, 118, 119, 120, 121, 122, 123, 124, 125, 126] (by decide +kernel) (by decide +kernel)
set_option maxRecDepth 20000 in
theorem gX2_drawBooks_X0_recoup : GoodIn wsX2_drawBooks (wsV RX2 180 RX0 yX0_recoup wsX0_recoup) := goodIn_app (goodIn_of _ (by decide +kernel)) ggX2_drawBooks_X0_recoup
set_option maxRecDepth 20000 in
theorem ggX2_drawBooks_X0_moveGain : GoodIn wsX2_drawBooks wsX0_moveGain := goodIn_r _ [88, 14, 89, 74, 75, 76, 15, 102, 103, 104, 105, 106, 107, 108, 109, 110, 111, 112, 113, 114, 115, 116] (by decide +kernel) (by decide +kernel)
set_option maxRecDepth 20000 in
theorem gX2_drawBooks_X0_moveGain : GoodIn wsX2_drawBooks (wsV RX2 184 RX0 yX0_moveGain wsX0_moveGain) := goodIn_app (goodIn_of _ (by decide +kernel)) ggX2_drawBooks_X0_moveGain
set_option maxRecDepth 20000 in
theorem ggX2_drawBooks_X0_finishYear : GoodIn wsX2_drawBooks wsX0_finishYear := goodIn_r _ [93, 14, 94, 95, 96, 15, 28, 29, 30, 31, 102, 103, 104, 105, 106, 107, 108, 109, 110, 111, 112, 113, 114, 115, 116] (by decide +kernel) (by decide +kernel)
set_option maxRecDepth 20000 in
theorem gX2_drawBooks_X0_finishYear : GoodIn wsX2_drawBooks (wsV RX2 188 RX0 yX0_finishYear wsX0_finishYear) := goodIn_app (goodIn_of _ (by decide +kernel)) ggX2_drawBooks_X0_finishYear
theorem dX2_drawBooks_0 : decode cX2_drawBooks 0 = .ok (.aload_n 0, 1) := by decide +kernel
theorem dX2_drawBooks_1 : decode cX2_drawBooks 1 = .ok (.getfield 10, 3) := by decide +kernel
theorem dX2_drawBooks_4 : decode cX2_drawBooks 4 = .ok (.invokevirtual 177, 3) := by decide +kernel
theorem dX2_drawBooks_7 : decode cX2_drawBooks 7 = .ok (.aload_n 0, 1) := by decide +kernel
theorem dX2_drawBooks_8 : decode cX2_drawBooks 8 = .ok (.getfield 16, 3) := by decide +kernel
theorem dX2_drawBooks_11 : decode cX2_drawBooks 11 = .ok (.invokevirtual 177, 3) := by decide +kernel
theorem dX2_drawBooks_14 : decode cX2_drawBooks 14 = .ok (.iconst 0, 1) := by decide +kernel
theorem dX2_drawBooks_15 : decode cX2_drawBooks 15 = .ok (.istore_n 1, 1) := by decide +kernel
theorem dX2_drawBooks_16 : decode cX2_drawBooks 16 = .ok (.iload_n 1, 1) := by decide +kernel
theorem dX2_drawBooks_17 : decode cX2_drawBooks 17 = .ok (.bipush 10, 2) := by decide +kernel
theorem dX2_drawBooks_19 : decode cX2_drawBooks 19 = .ok (.if_icmp .ge 84, 3) := by decide +kernel
theorem dX2_drawBooks_22 : decode cX2_drawBooks 22 = .ok (.iload_n 1, 1) := by decide +kernel
theorem dX2_drawBooks_23 : decode cX2_drawBooks 23 = .ok (.aload_n 0, 1) := by decide +kernel
theorem dX2_drawBooks_24 : decode cX2_drawBooks 24 = .ok (.getfield 30, 3) := by decide +kernel
theorem dX2_drawBooks_27 : decode cX2_drawBooks 27 = .ok (.if_icmp .gt 76, 3) := by decide +kernel
theorem dX2_drawBooks_30 : decode cX2_drawBooks 30 = .ok (.aload_n 0, 1) := by decide +kernel
theorem dX2_drawBooks_31 : decode cX2_drawBooks 31 = .ok (.getfield 10, 3) := by decide +kernel
theorem dX2_drawBooks_34 : decode cX2_drawBooks 34 = .ok (.iload_n 1, 1) := by decide +kernel
theorem dX2_drawBooks_35 : decode cX2_drawBooks 35 = .ok (.invokevirtual 180, 3) := by decide +kernel
theorem dX2_drawBooks_38 : decode cX2_drawBooks 38 = .ok (.lstore_n 2, 1) := by decide +kernel
theorem dX2_drawBooks_39 : decode cX2_drawBooks 39 = .ok (.aload_n 0, 1) := by decide +kernel
theorem dX2_drawBooks_40 : decode cX2_drawBooks 40 = .ok (.getfield 16, 3) := by decide +kernel
theorem dX2_drawBooks_43 : decode cX2_drawBooks 43 = .ok (.iload_n 1, 1) := by decide +kernel
theorem dX2_drawBooks_44 : decode cX2_drawBooks 44 = .ok (.invokevirtual 180, 3) := by decide +kernel
theorem dX2_drawBooks_47 : decode cX2_drawBooks 47 = .ok (.lstore 4, 2) := by decide +kernel
theorem dX2_drawBooks_49 : decode cX2_drawBooks 49 = .ok (.aload_n 0, 1) := by decide +kernel
theorem dX2_drawBooks_50 : decode cX2_drawBooks 50 = .ok (.getfield 26, 3) := by decide +kernel
theorem dX2_drawBooks_53 : decode cX2_drawBooks 53 = .ok (.ifCond .eq 28, 3) := by decide +kernel
theorem dX2_drawBooks_56 : decode cX2_drawBooks 56 = .ok (.aload_n 0, 1) := by decide +kernel
theorem dX2_drawBooks_57 : decode cX2_drawBooks 57 = .ok (.getfield 10, 3) := by decide +kernel
theorem dX2_drawBooks_60 : decode cX2_drawBooks 60 = .ok (.lload_n 2, 1) := by decide +kernel
theorem dX2_drawBooks_61 : decode cX2_drawBooks 61 = .ok (.aload_n 0, 1) := by decide +kernel
theorem dX2_drawBooks_62 : decode cX2_drawBooks 62 = .ok (.getfield 16, 3) := by decide +kernel
theorem dX2_drawBooks_65 : decode cX2_drawBooks 65 = .ok (.invokevirtual 184, 3) := by decide +kernel
theorem dX2_drawBooks_68 : decode cX2_drawBooks 68 = .ok (.aload_n 0, 1) := by decide +kernel
theorem dX2_drawBooks_69 : decode cX2_drawBooks 69 = .ok (.getfield 16, 3) := by decide +kernel
theorem dX2_drawBooks_72 : decode cX2_drawBooks 72 = .ok (.lload 4, 2) := by decide +kernel
theorem dX2_drawBooks_74 : decode cX2_drawBooks 74 = .ok (.aload_n 0, 1) := by decide +kernel
theorem dX2_drawBooks_75 : decode cX2_drawBooks 75 = .ok (.getfield 10, 3) := by decide +kernel
theorem dX2_drawBooks_78 : decode cX2_drawBooks 78 = .ok (.invokevirtual 184, 3) := by decide +kernel
theorem dX2_drawBooks_81 : decode cX2_drawBooks 81 = .ok (.aload_n 0, 1) := by decide +kernel
theorem dX2_drawBooks_82 : decode cX2_drawBooks 82 = .ok (.getfield 10, 3) := by decide +kernel
theorem dX2_drawBooks_85 : decode cX2_drawBooks 85 = .ok (.iload_n 1, 1) := by decide +kernel
theorem dX2_drawBooks_86 : decode cX2_drawBooks 86 = .ok (.invokevirtual 188, 3) := by decide +kernel
theorem dX2_drawBooks_89 : decode cX2_drawBooks 89 = .ok (.aload_n 0, 1) := by decide +kernel
theorem dX2_drawBooks_90 : decode cX2_drawBooks 90 = .ok (.getfield 16, 3) := by decide +kernel
theorem dX2_drawBooks_93 : decode cX2_drawBooks 93 = .ok (.iload_n 1, 1) := by decide +kernel
theorem dX2_drawBooks_94 : decode cX2_drawBooks 94 = .ok (.invokevirtual 188, 3) := by decide +kernel
theorem dX2_drawBooks_97 : decode cX2_drawBooks 97 = .ok (.iinc 1 1, 3) := by decide +kernel
theorem dX2_drawBooks_100 : decode cX2_drawBooks 100 = .ok (.goto (-84), 3) := by decide +kernel
theorem dX2_drawBooks_103 : decode cX2_drawBooks 103 = .ok (.return_, 1) := by decide +kernel
theorem dX2_part_0 : decode cX2_part 0 = .ok (.lload_n 0, 1) := by decide +kernel
theorem dX2_part_1 : decode cX2_part 1 = .ok (.iload_n 2, 1) := by decide +kernel
theorem dX2_part_2 : decode cX2_part 2 = .ok (.i2l, 1) := by decide +kernel
theorem dX2_part_3 : decode cX2_part 3 = .ok (.lmul, 1) := by decide +kernel
theorem dX2_part_4 : decode cX2_part 4 = .ok (.ldc2_w 191, 3) := by decide +kernel
theorem dX2_part_7 : decode cX2_part 7 = .ok (.ldiv, 1) := by decide +kernel
theorem dX2_part_8 : decode cX2_part 8 = .ok (.lreturn, 1) := by decide +kernel
theorem dX3_init_0 : decode cX3_init 0 = .ok (.aload_n 0, 1) := by decide +kernel
theorem dX3_init_1 : decode cX3_init 1 = .ok (.invokespecial 1, 3) := by decide +kernel
theorem dX3_init_4 : decode cX3_init 4 = .ok (.aload_n 0, 1) := by decide +kernel
theorem dX3_init_5 : decode cX3_init 5 = .ok (.bipush 80, 2) := by decide +kernel
theorem dX3_init_7 : decode cX3_init 7 = .ok (.newarray .int, 2) := by decide +kernel
theorem dX3_init_9 : decode cX3_init 9 = .ok (.putfield 7, 3) := by decide +kernel
theorem dX3_init_12 : decode cX3_init 12 = .ok (.aload_n 0, 1) := by decide +kernel
theorem dX3_init_13 : decode cX3_init 13 = .ok (.bipush 20, 2) := by decide +kernel
theorem dX3_init_15 : decode cX3_init 15 = .ok (.newarray .int, 2) := by decide +kernel
theorem dX3_init_17 : decode cX3_init 17 = .ok (.putfield 13, 3) := by decide +kernel
theorem dX3_init_20 : decode cX3_init 20 = .ok (.aload_n 0, 1) := by decide +kernel
theorem dX3_init_21 : decode cX3_init 21 = .ok (.bipush 8, 2) := by decide +kernel
theorem dX3_init_23 : decode cX3_init 23 = .ok (.newarray .int, 2) := by decide +kernel
theorem dX3_init_25 : decode cX3_init 25 = .ok (.putfield 16, 3) := by decide +kernel
theorem dX3_init_28 : decode cX3_init 28 = .ok (.aload_n 0, 1) := by decide +kernel
theorem dX3_init_29 : decode cX3_init 29 = .ok (.iconst 2, 1) := by decide +kernel
theorem dX3_init_30 : decode cX3_init 30 = .ok (.newarray .int, 2) := by decide +kernel
theorem dX3_init_32 : decode cX3_init 32 = .ok (.putfield 19, 3) := by decide +kernel
theorem dX3_init_35 : decode cX3_init 35 = .ok (.aload_n 0, 1) := by decide +kernel
theorem dX3_init_36 : decode cX3_init 36 = .ok (.iconst 2, 1) := by decide +kernel
theorem dX3_init_37 : decode cX3_init 37 = .ok (.newarray .int, 2) := by decide +kernel
theorem dX3_init_39 : decode cX3_init 39 = .ok (.putfield 22, 3) := by decide +kernel
theorem dX3_init_42 : decode cX3_init 42 = .ok (.aload_n 0, 1) := by decide +kernel
theorem dX3_init_43 : decode cX3_init 43 = .ok (.iconst 2, 1) := by decide +kernel
theorem dX3_init_44 : decode cX3_init 44 = .ok (.newarray .int, 2) := by decide +kernel
theorem dX3_init_46 : decode cX3_init 46 = .ok (.putfield 25, 3) := by decide +kernel
theorem dX3_init_49 : decode cX3_init 49 = .ok (.aload_n 0, 1) := by decide +kernel
theorem dX3_init_50 : decode cX3_init 50 = .ok (.bipush 8, 2) := by decide +kernel
theorem dX3_init_52 : decode cX3_init 52 = .ok (.newarray .int, 2) := by decide +kernel
theorem dX3_init_54 : decode cX3_init 54 = .ok (.putfield 28, 3) := by decide +kernel
theorem dX3_init_57 : decode cX3_init 57 = .ok (.aload_n 0, 1) := by decide +kernel
theorem dX3_init_58 : decode cX3_init 58 = .ok (.bipush 8, 2) := by decide +kernel
theorem dX3_init_60 : decode cX3_init 60 = .ok (.newarray .int, 2) := by decide +kernel
theorem dX3_init_62 : decode cX3_init 62 = .ok (.putfield 31, 3) := by decide +kernel
theorem dX3_init_65 : decode cX3_init 65 = .ok (.aload_n 0, 1) := by decide +kernel
theorem dX3_init_66 : decode cX3_init 66 = .ok (.bipush 8, 2) := by decide +kernel
theorem dX3_init_68 : decode cX3_init 68 = .ok (.newarray .int, 2) := by decide +kernel
theorem dX3_init_70 : decode cX3_init 70 = .ok (.putfield 34, 3) := by decide +kernel
theorem dX3_init_73 : decode cX3_init 73 = .ok (.aload_n 0, 1) := by decide +kernel
theorem dX3_init_74 : decode cX3_init 74 = .ok (.bipush 8, 2) := by decide +kernel
theorem dX3_init_76 : decode cX3_init 76 = .ok (.newarray .int, 2) := by decide +kernel
theorem dX3_init_78 : decode cX3_init 78 = .ok (.putfield 37, 3) := by decide +kernel
theorem dX3_init_81 : decode cX3_init 81 = .ok (.aload_n 0, 1) := by decide +kernel
theorem dX3_init_82 : decode cX3_init 82 = .ok (.bipush 8, 2) := by decide +kernel
theorem dX3_init_84 : decode cX3_init 84 = .ok (.newarray .int, 2) := by decide +kernel
theorem dX3_init_86 : decode cX3_init 86 = .ok (.putfield 40, 3) := by decide +kernel
theorem dX3_init_89 : decode cX3_init 89 = .ok (.aload_n 0, 1) := by decide +kernel
theorem dX3_init_90 : decode cX3_init 90 = .ok (.bipush 8, 2) := by decide +kernel
theorem dX3_init_92 : decode cX3_init 92 = .ok (.newarray .int, 2) := by decide +kernel
theorem dX3_init_94 : decode cX3_init 94 = .ok (.putfield 43, 3) := by decide +kernel
theorem dX3_init_97 : decode cX3_init 97 = .ok (.aload_n 0, 1) := by decide +kernel
theorem dX3_init_98 : decode cX3_init 98 = .ok (.bipush 20, 2) := by decide +kernel
theorem dX3_init_100 : decode cX3_init 100 = .ok (.newarray .long, 2) := by decide +kernel
theorem dX3_init_102 : decode cX3_init 102 = .ok (.putfield 46, 3) := by decide +kernel
theorem dX3_init_105 : decode cX3_init 105 = .ok (.aload_n 0, 1) := by decide +kernel
theorem dX3_init_106 : decode cX3_init 106 = .ok (.bipush 20, 2) := by decide +kernel
theorem dX3_init_108 : decode cX3_init 108 = .ok (.newarray .long, 2) := by decide +kernel
theorem dX3_init_110 : decode cX3_init 110 = .ok (.putfield 50, 3) := by decide +kernel
theorem dX3_init_113 : decode cX3_init 113 = .ok (.aload_n 0, 1) := by decide +kernel
theorem dX3_init_114 : decode cX3_init 114 = .ok (.iconst 2, 1) := by decide +kernel
theorem dX3_init_115 : decode cX3_init 115 = .ok (.newarray .long, 2) := by decide +kernel
theorem dX3_init_117 : decode cX3_init 117 = .ok (.putfield 53, 3) := by decide +kernel
theorem dX3_init_120 : decode cX3_init 120 = .ok (.return_, 1) := by decide +kernel
theorem dX3_thrown_0 : decode cX3_thrown 0 = .ok (.aload_n 0, 1) := by decide +kernel
theorem dX3_thrown_1 : decode cX3_thrown 1 = .ok (.getfield 56, 3) := by decide +kernel
theorem dX3_thrown_4 : decode cX3_thrown 4 = .ok (.ireturn, 1) := by decide +kernel
theorem dX3_fails_0 : decode cX3_fails 0 = .ok (.aload_n 0, 1) := by decide +kernel
theorem dX3_fails_1 : decode cX3_fails 1 = .ok (.iload_n 1, 1) := by decide +kernel
theorem dX3_fails_2 : decode cX3_fails 2 = .ok (.putfield 56, 3) := by decide +kernel
theorem dX3_fails_5 : decode cX3_fails 5 = .ok (.iconst 0, 1) := by decide +kernel
theorem dX3_fails_6 : decode cX3_fails 6 = .ok (.ireturn, 1) := by decide +kernel
theorem dX3_in_0 : decode cX3_in 0 = .ok (.iload_n 0, 1) := by decide +kernel
theorem dX3_in_1 : decode cX3_in 1 = .ok (.iload_n 1, 1) := by decide +kernel
theorem dX3_in_2 : decode cX3_in 2 = .ok (.if_icmp .lt 12, 3) := by decide +kernel
theorem dX3_in_5 : decode cX3_in 5 = .ok (.iload_n 0, 1) := by decide +kernel
theorem dX3_in_6 : decode cX3_in 6 = .ok (.iload_n 2, 1) := by decide +kernel
theorem dX3_in_7 : decode cX3_in 7 = .ok (.if_icmp .gt 7, 3) := by decide +kernel
theorem dX3_in_10 : decode cX3_in 10 = .ok (.iconst 1, 1) := by decide +kernel
theorem dX3_in_11 : decode cX3_in 11 = .ok (.goto 4, 3) := by decide +kernel
theorem dX3_in_14 : decode cX3_in 14 = .ok (.iconst 0, 1) := by decide +kernel
theorem dX3_in_15 : decode cX3_in 15 = .ok (.ireturn, 1) := by decide +kernel
set_option maxRecDepth 20000 in
theorem ggX3_isPicture_X3_in : GoodIn wsX3_isPicture wsX3_in := goodIn_r _ [4] (by decide +kernel) (by decide +kernel)
set_option maxRecDepth 20000 in
theorem gX3_isPicture_X3_in : GoodIn wsX3_isPicture (va_wsS RX3 60 yX3_in wsX3_in) := goodIn_app (goodIn_of _ (by decide +kernel)) ggX3_isPicture_X3_in
theorem dX3_isPicture_0 : decode cX3_isPicture 0 = .ok (.iload_n 0, 1) := by decide +kernel
theorem dX3_isPicture_1 : decode cX3_isPicture 1 = .ok (.iconst 0, 1) := by decide +kernel
theorem dX3_isPicture_2 : decode cX3_isPicture 2 = .ok (.iconst 1, 1) := by decide +kernel
theorem dX3_isPicture_3 : decode cX3_isPicture 3 = .ok (.invokestatic 60, 3) := by decide +kernel
theorem dX3_isPicture_6 : decode cX3_isPicture 6 = .ok (.ireturn, 1) := by decide +kernel
set_option maxRecDepth 20000 in
theorem ggX3_isWindow_X3_isPicture : GoodIn wsX3_isWindow wsX3_isPicture := goodIn_r _ [4, 5, 6, 3, 7] (by decide +kernel) (by decide +kernel)
set_option maxRecDepth 20000 in
theorem gX3_isWindow_X3_isPicture : GoodIn wsX3_isWindow (va_wsS RX3 64 yX3_isPicture wsX3_isPicture) := goodIn_app (goodIn_of _ (by decide +kernel)) ggX3_isWindow_X3_isPicture
set_option maxRecDepth 20000 in
theorem ggX3_isWindow_X3_in : GoodIn wsX3_isWindow wsX3_in := goodIn_r _ [7] (by decide +kernel) (by decide +kernel)
set_option maxRecDepth 20000 in
theorem gX3_isWindow_X3_in : GoodIn wsX3_isWindow (va_wsS RX3 60 yX3_in wsX3_in) := goodIn_app (goodIn_of _ (by decide +kernel)) ggX3_isWindow_X3_in
theorem dX3_isWindow_0 : decode cX3_isWindow 0 = .ok (.iload_n 0, 1) := by decide +kernel
theorem dX3_isWindow_1 : decode cX3_isWindow 1 = .ok (.invokestatic 64, 3) := by decide +kernel
theorem dX3_isWindow_4 : decode cX3_isWindow 4 = .ok (.ifCond .eq 16, 3) := by decide +kernel
theorem dX3_isWindow_7 : decode cX3_isWindow 7 = .ok (.iload_n 1, 1) := by decide +kernel
theorem dX3_isWindow_8 : decode cX3_isWindow 8 = .ok (.iconst 0, 1) := by decide +kernel
theorem dX3_isWindow_9 : decode cX3_isWindow 9 = .ok (.iconst 3, 1) := by decide +kernel
theorem dX3_isWindow_10 : decode cX3_isWindow 10 = .ok (.invokestatic 60, 3) := by decide +kernel
theorem dX3_isWindow_13 : decode cX3_isWindow 13 = .ok (.ifCond .eq 7, 3) := by decide +kernel
theorem dX3_isWindow_16 : decode cX3_isWindow 16 = .ok (.iconst 1, 1) := by decide +kernel
theorem dX3_isWindow_17 : decode cX3_isWindow 17 = .ok (.goto 4, 3) := by decide +kernel
theorem dX3_isWindow_20 : decode cX3_isWindow 20 = .ok (.iconst 0, 1) := by decide +kernel
theorem dX3_isWindow_21 : decode cX3_isWindow 21 = .ok (.ireturn, 1) := by decide +kernel
theorem dX3_at_0 : decode cX3_at 0 = .ok (.bipush 40, 2) := by decide +kernel
theorem dX3_at_2 : decode cX3_at 2 = .ok (.iload_n 0, 1) := by decide +kernel
theorem dX3_at_3 : decode cX3_at 3 = .ok (.imul, 1) := by decide +kernel
theorem dX3_at_4 : decode cX3_at 4 = .ok (.iconst 4, 1) := by decide +kernel
theorem dX3_at_5 : decode cX3_at 5 = .ok (.iload_n 1, 1) := by decide +kernel
theorem dX3_at_6 : decode cX3_at 6 = .ok (.imul, 1) := by decide +kernel
theorem dX3_at_7 : decode cX3_at 7 = .ok (.iadd, 1) := by decide +kernel
theorem dX3_at_8 : decode cX3_at 8 = .ok (.iload_n 2, 1) := by decide +kernel
theorem dX3_at_9 : decode cX3_at 9 = .ok (.iadd, 1) := by decide +kernel
theorem dX3_at_10 : decode cX3_at 10 = .ok (.ireturn, 1) := by decide +kernel
set_option maxRecDepth 20000 in
theorem ggX3_setRates_X3_isPicture : GoodIn wsX3_setRates wsX3_isPicture := goodIn_r _ [8, 9, 10, 7, 11] (by decide +kernel) (by decide +kernel)
set_option maxRecDepth 20000 in
theorem gX3_setRates_X3_isPicture : GoodIn wsX3_setRates (va_wsS RX3 64 yX3_isPicture wsX3_isPicture) := goodIn_app (goodIn_of _ (by decide +kernel)) ggX3_setRates_X3_isPicture
set_option maxRecDepth 20000 in
theorem ggX3_setRates_X3_fails : GoodIn wsX3_setRates wsX3_fails := goodIn_r _ [15, 1, 16, 17, 18, 19, 20, 21, 22, 23, 24, 25, 26, 27, 28, 29, 30, 31, 32, 33, 34] (by decide +kernel) (by decide +kernel)
set_option maxRecDepth 20000 in
theorem gX3_setRates_X3_fails : GoodIn wsX3_setRates (wsV RX3 68 RX3 yX3_fails wsX3_fails) := goodIn_app (goodIn_of _ (by decide +kernel)) ggX3_setRates_X3_fails
set_option maxRecDepth 20000 in
theorem ggX3_setRates_X3_in : GoodIn wsX3_setRates wsX3_in := goodIn_r _ [11] (by decide +kernel) (by decide +kernel)
set_option maxRecDepth 20000 in
theorem gX3_setRates_X3_in : GoodIn wsX3_setRates (va_wsS RX3 60 yX3_in wsX3_in) := goodIn_app (goodIn_of _ (by decide +kernel)) ggX3_setRates_X3_in
theorem dX3_setRates_0 : decode cX3_setRates 0 = .ok (.aload_n 0, 1) := by decide +kernel
theorem dX3_setRates_1 : decode cX3_setRates 1 = .ok (.iconst 0, 1) := by decide +kernel
theorem dX3_setRates_2 : decode cX3_setRates 2 = .ok (.putfield 56, 3) := by decide +kernel
theorem dX3_setRates_5 : decode cX3_setRates 5 = .ok (.iload_n 1, 1) := by decide +kernel
theorem dX3_setRates_6 : decode cX3_setRates 6 = .ok (.invokestatic 64, 3) := by decide +kernel
theorem dX3_setRates_9 : decode cX3_setRates 9 = .ok (.ifCond .ne 10, 3) := by decide +kernel
theorem dX3_setRates_12 : decode cX3_setRates 12 = .ok (.aload_n 0, 1) := by decide +kernel
theorem dX3_setRates_13 : decode cX3_setRates 13 = .ok (.iconst 1, 1) := by decide +kernel
theorem dX3_setRates_14 : decode cX3_setRates 14 = .ok (.invokevirtual 68, 3) := by decide +kernel
theorem dX3_setRates_17 : decode cX3_setRates 17 = .ok (.pop, 1) := by decide +kernel
theorem dX3_setRates_18 : decode cX3_setRates 18 = .ok (.return_, 1) := by decide +kernel
theorem dX3_setRates_19 : decode cX3_setRates 19 = .ok (.iload_n 2, 1) := by decide +kernel
theorem dX3_setRates_20 : decode cX3_setRates 20 = .ok (.iconst 0, 1) := by decide +kernel
theorem dX3_setRates_21 : decode cX3_setRates 21 = .ok (.sipush 10000, 3) := by decide +kernel
theorem dX3_setRates_24 : decode cX3_setRates 24 = .ok (.invokestatic 60, 3) := by decide +kernel
theorem dX3_setRates_27 : decode cX3_setRates 27 = .ok (.ifCond .eq 26, 3) := by decide +kernel
theorem dX3_setRates_30 : decode cX3_setRates 30 = .ok (.iload_n 3, 1) := by decide +kernel
theorem dX3_setRates_31 : decode cX3_setRates 31 = .ok (.iconst 0, 1) := by decide +kernel
theorem dX3_setRates_32 : decode cX3_setRates 32 = .ok (.sipush 10000, 3) := by decide +kernel
theorem dX3_setRates_35 : decode cX3_setRates 35 = .ok (.invokestatic 60, 3) := by decide +kernel
theorem dX3_setRates_38 : decode cX3_setRates 38 = .ok (.ifCond .eq 15, 3) := by decide +kernel
theorem dX3_setRates_41 : decode cX3_setRates 41 = .ok (.iload 4, 2) := by decide +kernel
theorem dX3_setRates_43 : decode cX3_setRates 43 = .ok (.iconst 0, 1) := by decide +kernel
theorem dX3_setRates_44 : decode cX3_setRates 44 = .ok (.sipush 2000, 3) := by decide +kernel
theorem dX3_setRates_47 : decode cX3_setRates 47 = .ok (.invokestatic 60, 3) := by decide +kernel
theorem dX3_setRates_50 : decode cX3_setRates 50 = .ok (.ifCond .ne 10, 3) := by decide +kernel
theorem dX3_setRates_53 : decode cX3_setRates 53 = .ok (.aload_n 0, 1) := by decide +kernel
theorem dX3_setRates_54 : decode cX3_setRates 54 = .ok (.iconst 2, 1) := by decide +kernel
theorem dX3_setRates_55 : decode cX3_setRates 55 = .ok (.invokevirtual 68, 3) := by decide +kernel
theorem dX3_setRates_58 : decode cX3_setRates 58 = .ok (.pop, 1) := by decide +kernel
theorem dX3_setRates_59 : decode cX3_setRates 59 = .ok (.return_, 1) := by decide +kernel
theorem dX3_setRates_60 : decode cX3_setRates 60 = .ok (.aload_n 0, 1) := by decide +kernel
theorem dX3_setRates_61 : decode cX3_setRates 61 = .ok (.getfield 19, 3) := by decide +kernel
theorem dX3_setRates_64 : decode cX3_setRates 64 = .ok (.iload_n 1, 1) := by decide +kernel
theorem dX3_setRates_65 : decode cX3_setRates 65 = .ok (.iload_n 2, 1) := by decide +kernel
theorem dX3_setRates_66 : decode cX3_setRates 66 = .ok (.iastore, 1) := by decide +kernel
theorem dX3_setRates_67 : decode cX3_setRates 67 = .ok (.aload_n 0, 1) := by decide +kernel
theorem dX3_setRates_68 : decode cX3_setRates 68 = .ok (.getfield 22, 3) := by decide +kernel
theorem dX3_setRates_71 : decode cX3_setRates 71 = .ok (.iload_n 1, 1) := by decide +kernel
theorem dX3_setRates_72 : decode cX3_setRates 72 = .ok (.iload_n 3, 1) := by decide +kernel
theorem dX3_setRates_73 : decode cX3_setRates 73 = .ok (.iastore, 1) := by decide +kernel
theorem dX3_setRates_74 : decode cX3_setRates 74 = .ok (.aload_n 0, 1) := by decide +kernel
theorem dX3_setRates_75 : decode cX3_setRates 75 = .ok (.getfield 25, 3) := by decide +kernel
theorem dX3_setRates_78 : decode cX3_setRates 78 = .ok (.iload_n 1, 1) := by decide +kernel
theorem dX3_setRates_79 : decode cX3_setRates 79 = .ok (.iload 4, 2) := by decide +kernel
theorem dX3_setRates_81 : decode cX3_setRates 81 = .ok (.iastore, 1) := by decide +kernel
theorem dX3_setRates_82 : decode cX3_setRates 82 = .ok (.return_, 1) := by decide +kernel
set_option maxRecDepth 20000 in
theorem ggX3_setFee_X3_isWindow : GoodIn wsX3_setFee wsX3_isWindow := goodIn_r _ [6, 7, 8, 5, 9, 10, 11, 12] (by decide +kernel) (by decide +kernel)
set_option maxRecDepth 20000 in
theorem gX3_setFee_X3_isWindow : GoodIn wsX3_setFee (va_wsS RX3 72 yX3_isWindow wsX3_isWindow) := goodIn_app (goodIn_of _ (by decide +kernel)) ggX3_setFee_X3_isWindow
set_option maxRecDepth 20000 in
theorem ggX3_setFee_X3_fails : GoodIn wsX3_setFee wsX3_fails := goodIn_r _ [16, 1, 17, 18, 19, 20, 21, 22, 23, 24, 25, 26, 27, 28, 29, 30, 31, 32, 33, 34, 35] (by decide +kernel) (by decide +kernel)
set_option maxRecDepth 20000 in
theorem gX3_setFee_X3_fails : GoodIn wsX3_setFee (wsV RX3 68 RX3 yX3_fails wsX3_fails) := goodIn_app (goodIn_of _ (by decide +kernel)) ggX3_setFee_X3_fails
set_option maxRecDepth 20000 in
theorem ggX3_setFee_X3_in : GoodIn wsX3_setFee wsX3_in := goodIn_r _ [12] (by decide +kernel) (by decide +kernel)
set_option maxRecDepth 20000 in
theorem gX3_setFee_X3_in : GoodIn wsX3_setFee (va_wsS RX3 60 yX3_in wsX3_in) := goodIn_app (goodIn_of _ (by decide +kernel)) ggX3_setFee_X3_in
theorem dX3_setFee_0 : decode cX3_setFee 0 = .ok (.aload_n 0, 1) := by decide +kernel
theorem dX3_setFee_1 : decode cX3_setFee 1 = .ok (.iconst 0, 1) := by decide +kernel
theorem dX3_setFee_2 : decode cX3_setFee 2 = .ok (.putfield 56, 3) := by decide +kernel
theorem dX3_setFee_5 : decode cX3_setFee 5 = .ok (.iload_n 1, 1) := by decide +kernel
theorem dX3_setFee_6 : decode cX3_setFee 6 = .ok (.iload_n 2, 1) := by decide +kernel
theorem dX3_setFee_7 : decode cX3_setFee 7 = .ok (.invokestatic 72, 3) := by decide +kernel
theorem dX3_setFee_10 : decode cX3_setFee 10 = .ok (.ifCond .ne 9, 3) := by decide +kernel
theorem dX3_setFee_13 : decode cX3_setFee 13 = .ok (.aload_n 0, 1) := by decide +kernel
theorem dX3_setFee_14 : decode cX3_setFee 14 = .ok (.iconst 1, 1) := by decide +kernel
theorem dX3_setFee_15 : decode cX3_setFee 15 = .ok (.invokevirtual 68, 3) := by decide +kernel
theorem dX3_setFee_18 : decode cX3_setFee 18 = .ok (.ireturn, 1) := by decide +kernel
theorem dX3_setFee_19 : decode cX3_setFee 19 = .ok (.iload_n 3, 1) := by decide +kernel
theorem dX3_setFee_20 : decode cX3_setFee 20 = .ok (.iconst 0, 1) := by decide +kernel
theorem dX3_setFee_21 : decode cX3_setFee 21 = .ok (.sipush 10000, 3) := by decide +kernel
theorem dX3_setFee_24 : decode cX3_setFee 24 = .ok (.invokestatic 60, 3) := by decide +kernel
theorem dX3_setFee_27 : decode cX3_setFee 27 = .ok (.ifCond .ne 9, 3) := by decide +kernel
theorem dX3_setFee_30 : decode cX3_setFee 30 = .ok (.aload_n 0, 1) := by decide +kernel
theorem dX3_setFee_31 : decode cX3_setFee 31 = .ok (.iconst 2, 1) := by decide +kernel
theorem dX3_setFee_32 : decode cX3_setFee 32 = .ok (.invokevirtual 68, 3) := by decide +kernel
theorem dX3_setFee_35 : decode cX3_setFee 35 = .ok (.ireturn, 1) := by decide +kernel
theorem dX3_setFee_36 : decode cX3_setFee 36 = .ok (.aload_n 0, 1) := by decide +kernel
theorem dX3_setFee_37 : decode cX3_setFee 37 = .ok (.getfield 16, 3) := by decide +kernel
theorem dX3_setFee_40 : decode cX3_setFee 40 = .ok (.iconst 4, 1) := by decide +kernel
theorem dX3_setFee_41 : decode cX3_setFee 41 = .ok (.iload_n 1, 1) := by decide +kernel
theorem dX3_setFee_42 : decode cX3_setFee 42 = .ok (.imul, 1) := by decide +kernel
theorem dX3_setFee_43 : decode cX3_setFee 43 = .ok (.iload_n 2, 1) := by decide +kernel
theorem dX3_setFee_44 : decode cX3_setFee 44 = .ok (.iadd, 1) := by decide +kernel
theorem dX3_setFee_45 : decode cX3_setFee 45 = .ok (.iaload, 1) := by decide +kernel
theorem dX3_setFee_46 : decode cX3_setFee 46 = .ok (.istore 4, 2) := by decide +kernel
theorem dX3_setFee_48 : decode cX3_setFee 48 = .ok (.aload_n 0, 1) := by decide +kernel
theorem dX3_setFee_49 : decode cX3_setFee 49 = .ok (.getfield 16, 3) := by decide +kernel
theorem dX3_setFee_52 : decode cX3_setFee 52 = .ok (.iconst 4, 1) := by decide +kernel
theorem dX3_setFee_53 : decode cX3_setFee 53 = .ok (.iload_n 1, 1) := by decide +kernel
theorem dX3_setFee_54 : decode cX3_setFee 54 = .ok (.imul, 1) := by decide +kernel
theorem dX3_setFee_55 : decode cX3_setFee 55 = .ok (.iload_n 2, 1) := by decide +kernel
theorem dX3_setFee_56 : decode cX3_setFee 56 = .ok (.iadd, 1) := by decide +kernel
theorem dX3_setFee_57 : decode cX3_setFee 57 = .ok (.iload_n 3, 1) := by decide +kernel
theorem dX3_setFee_58 : decode cX3_setFee 58 = .ok (.iastore, 1) := by decide +kernel
theorem dX3_setFee_59 : decode cX3_setFee 59 = .ok (.iload 4, 2) := by decide +kernel
theorem dX3_setFee_61 : decode cX3_setFee 61 = .ok (.ireturn, 1) := by decide +kernel
theorem dX3_setCrossed_0 : decode cX3_setCrossed 0 = .ok (.aload_n 0, 1) := by decide +kernel
theorem dX3_setCrossed_1 : decode cX3_setCrossed 1 = .ok (.iconst 0, 1) := by decide +kernel
theorem dX3_setCrossed_2 : decode cX3_setCrossed 2 = .ok (.putfield 56, 3) := by decide +kernel
theorem dX3_setCrossed_5 : decode cX3_setCrossed 5 = .ok (.aload_n 0, 1) := by decide +kernel
theorem dX3_setCrossed_6 : decode cX3_setCrossed 6 = .ok (.getfield 76, 3) := by decide +kernel
theorem dX3_setCrossed_9 : decode cX3_setCrossed 9 = .ok (.istore_n 2, 1) := by decide +kernel
theorem dX3_setCrossed_10 : decode cX3_setCrossed 10 = .ok (.aload_n 0, 1) := by decide +kernel
theorem dX3_setCrossed_11 : decode cX3_setCrossed 11 = .ok (.iload_n 1, 1) := by decide +kernel
theorem dX3_setCrossed_12 : decode cX3_setCrossed 12 = .ok (.putfield 76, 3) := by decide +kernel
theorem dX3_setCrossed_15 : decode cX3_setCrossed 15 = .ok (.iload_n 2, 1) := by decide +kernel
theorem dX3_setCrossed_16 : decode cX3_setCrossed 16 = .ok (.ireturn, 1) := by decide +kernel
set_option maxRecDepth 20000 in
theorem ggX3_add_X3_isPicture : GoodIn wsX3_add wsX3_isPicture := goodIn_r _ [12, 13, 14, 11, 15] (by decide +kernel) (by decide +kernel)
set_option maxRecDepth 20000 in
theorem gX3_add_X3_isPicture : GoodIn wsX3_add (va_wsS RX3 64 yX3_isPicture wsX3_isPicture) := goodIn_app (goodIn_of _ (by decide +kernel)) ggX3_add_X3_isPicture
set_option maxRecDepth 20000 in
theorem ggX3_add_X3_fails : GoodIn wsX3_add wsX3_fails := goodIn_r _ [19, 1, 20, 21, 22, 23, 24, 25, 26, 27, 28, 29, 30, 31, 32, 33, 34, 35, 36, 37, 38] (by decide +kernel) (by decide +kernel)
set_option maxRecDepth 20000 in
theorem gX3_add_X3_fails : GoodIn wsX3_add (wsV RX3 68 RX3 yX3_fails wsX3_fails) := goodIn_app (goodIn_of _ (by decide +kernel)) ggX3_add_X3_fails
set_option maxRecDepth 20000 in
theorem ggX3_add_X3_in : GoodIn wsX3_add wsX3_in := goodIn_r _ [15] (by decide +kernel) (by decide +kernel)
set_option maxRecDepth 20000 in
theorem gX3_add_X3_in : GoodIn wsX3_add (va_wsS RX3 60 yX3_in wsX3_in) := goodIn_app (goodIn_of _ (by decide +kernel)) ggX3_add_X3_in
theorem dX3_add_0 : decode cX3_add 0 = .ok (.aload_n 0, 1) := by decide +kernel
theorem dX3_add_1 : decode cX3_add 1 = .ok (.iconst 0, 1) := by decide +kernel
theorem dX3_add_2 : decode cX3_add 2 = .ok (.putfield 56, 3) := by decide +kernel
theorem dX3_add_5 : decode cX3_add 5 = .ok (.iload_n 1, 1) := by decide +kernel
theorem dX3_add_6 : decode cX3_add 6 = .ok (.invokestatic 64, 3) := by decide +kernel
theorem dX3_add_9 : decode cX3_add 9 = .ok (.ifCond .ne 9, 3) := by decide +kernel
theorem dX3_add_12 : decode cX3_add 12 = .ok (.aload_n 0, 1) := by decide +kernel
theorem dX3_add_13 : decode cX3_add 13 = .ok (.iconst 1, 1) := by decide +kernel
theorem dX3_add_14 : decode cX3_add 14 = .ok (.invokevirtual 68, 3) := by decide +kernel
theorem dX3_add_17 : decode cX3_add 17 = .ok (.ireturn, 1) := by decide +kernel
theorem dX3_add_18 : decode cX3_add 18 = .ok (.iload_n 2, 1) := by decide +kernel
theorem dX3_add_19 : decode cX3_add 19 = .ok (.ifCond .ne 9, 3) := by decide +kernel
theorem dX3_add_22 : decode cX3_add 22 = .ok (.sipush 1000, 3) := by decide +kernel
theorem dX3_add_25 : decode cX3_add 25 = .ok (.goto 6, 3) := by decide +kernel
theorem dX3_add_28 : decode cX3_add 28 = .ok (.sipush 10000, 3) := by decide +kernel
theorem dX3_add_31 : decode cX3_add 31 = .ok (.istore 6, 2) := by decide +kernel
theorem dX3_add_33 : decode cX3_add 33 = .ok (.iload_n 2, 1) := by decide +kernel
theorem dX3_add_34 : decode cX3_add 34 = .ok (.iconst 0, 1) := by decide +kernel
theorem dX3_add_35 : decode cX3_add 35 = .ok (.iconst 3, 1) := by decide +kernel
theorem dX3_add_36 : decode cX3_add 36 = .ok (.invokestatic 60, 3) := by decide +kernel
theorem dX3_add_39 : decode cX3_add 39 = .ok (.ifCond .eq 35, 3) := by decide +kernel
theorem dX3_add_42 : decode cX3_add 42 = .ok (.iload_n 3, 1) := by decide +kernel
theorem dX3_add_43 : decode cX3_add 43 = .ok (.iconst 0, 1) := by decide +kernel
theorem dX3_add_44 : decode cX3_add 44 = .ok (.ldc 80, 2) := by decide +kernel
theorem dX3_add_46 : decode cX3_add 46 = .ok (.invokestatic 60, 3) := by decide +kernel
theorem dX3_add_49 : decode cX3_add 49 = .ok (.ifCond .eq 25, 3) := by decide +kernel
theorem dX3_add_52 : decode cX3_add 52 = .ok (.iload 4, 2) := by decide +kernel
theorem dX3_add_54 : decode cX3_add 54 = .ok (.iconst 0, 1) := by decide +kernel
theorem dX3_add_55 : decode cX3_add 55 = .ok (.iload 6, 2) := by decide +kernel
theorem dX3_add_57 : decode cX3_add 57 = .ok (.invokestatic 60, 3) := by decide +kernel
theorem dX3_add_60 : decode cX3_add 60 = .ok (.ifCond .eq 14, 3) := by decide +kernel
theorem dX3_add_63 : decode cX3_add 63 = .ok (.iload 5, 2) := by decide +kernel
theorem dX3_add_65 : decode cX3_add 65 = .ok (.iconst 0, 1) := by decide +kernel
theorem dX3_add_66 : decode cX3_add 66 = .ok (.iload 6, 2) := by decide +kernel
theorem dX3_add_68 : decode cX3_add 68 = .ok (.invokestatic 60, 3) := by decide +kernel
theorem dX3_add_71 : decode cX3_add 71 = .ok (.ifCond .ne 9, 3) := by decide +kernel
theorem dX3_add_74 : decode cX3_add 74 = .ok (.aload_n 0, 1) := by decide +kernel
theorem dX3_add_75 : decode cX3_add 75 = .ok (.iconst 2, 1) := by decide +kernel
theorem dX3_add_76 : decode cX3_add 76 = .ok (.invokevirtual 68, 3) := by decide +kernel
theorem dX3_add_79 : decode cX3_add 79 = .ok (.ireturn, 1) := by decide +kernel
theorem dX3_add_80 : decode cX3_add 80 = .ok (.iload 4, 2) := by decide +kernel
theorem dX3_add_82 : decode cX3_add 82 = .ok (.iload 5, 2) := by decide +kernel
theorem dX3_add_84 : decode cX3_add 84 = .ok (.if_icmp .le 8, 3) := by decide +kernel
theorem dX3_add_87 : decode cX3_add 87 = .ok (.iload 4, 2) := by decide +kernel
theorem dX3_add_89 : decode cX3_add 89 = .ok (.goto 5, 3) := by decide +kernel
theorem dX3_add_92 : decode cX3_add 92 = .ok (.iload 5, 2) := by decide +kernel
theorem dX3_add_94 : decode cX3_add 94 = .ok (.istore 7, 2) := by decide +kernel
theorem dX3_add_96 : decode cX3_add 96 = .ok (.iconst 0, 1) := by decide +kernel
theorem dX3_add_97 : decode cX3_add 97 = .ok (.istore 8, 2) := by decide +kernel
theorem dX3_add_99 : decode cX3_add 99 = .ok (.iload 8, 2) := by decide +kernel
theorem dX3_add_101 : decode cX3_add 101 = .ok (.aload_n 0, 1) := by decide +kernel
theorem dX3_add_102 : decode cX3_add 102 = .ok (.getfield 81, 3) := by decide +kernel
theorem dX3_add_105 : decode cX3_add 105 = .ok (.if_icmp .ge 91, 3) := by decide +kernel
theorem dX3_add_108 : decode cX3_add 108 = .ok (.iload_n 2, 1) := by decide +kernel
theorem dX3_add_109 : decode cX3_add 109 = .ok (.iconst 1, 1) := by decide +kernel
theorem dX3_add_110 : decode cX3_add 110 = .ok (.if_icmp .ne 86, 3) := by decide +kernel
theorem dX3_add_113 : decode cX3_add 113 = .ok (.aload_n 0, 1) := by decide +kernel
theorem dX3_add_114 : decode cX3_add 114 = .ok (.getfield 31, 3) := by decide +kernel
theorem dX3_add_117 : decode cX3_add 117 = .ok (.iload 8, 2) := by decide +kernel
theorem dX3_add_119 : decode cX3_add 119 = .ok (.iaload, 1) := by decide +kernel
theorem dX3_add_120 : decode cX3_add 120 = .ok (.iconst 1, 1) := by decide +kernel
theorem dX3_add_121 : decode cX3_add 121 = .ok (.if_icmp .ne 18, 3) := by decide +kernel
theorem dX3_add_124 : decode cX3_add 124 = .ok (.aload_n 0, 1) := by decide +kernel
theorem dX3_add_125 : decode cX3_add 125 = .ok (.getfield 28, 3) := by decide +kernel
theorem dX3_add_128 : decode cX3_add 128 = .ok (.iload 8, 2) := by decide +kernel
theorem dX3_add_130 : decode cX3_add 130 = .ok (.iaload, 1) := by decide +kernel
theorem dX3_add_131 : decode cX3_add 131 = .ok (.iload_n 1, 1) := by decide +kernel
theorem dX3_add_132 : decode cX3_add 132 = .ok (.if_icmp .ne 7, 3) := by decide +kernel
theorem dX3_add_135 : decode cX3_add 135 = .ok (.iconst 1, 1) := by decide +kernel
theorem dX3_add_136 : decode cX3_add 136 = .ok (.goto 4, 3) := by decide +kernel
theorem dX3_add_139 : decode cX3_add 139 = .ok (.iconst 0, 1) := by decide +kernel
theorem dX3_add_140 : decode cX3_add 140 = .ok (.istore 9, 2) := by decide +kernel
theorem dX3_add_142 : decode cX3_add 142 = .ok (.iload 7, 2) := by decide +kernel
theorem dX3_add_144 : decode cX3_add 144 = .ok (.iload 9, 2) := by decide +kernel
theorem dX3_add_146 : decode cX3_add 146 = .ok (.ifCond .ne 7, 3) := by decide +kernel
theorem dX3_add_149 : decode cX3_add 149 = .ok (.iconst 0, 1) := by decide +kernel
theorem dX3_add_150 : decode cX3_add 150 = .ok (.goto 37, 3) := by decide +kernel
theorem dX3_add_153 : decode cX3_add 153 = .ok (.aload_n 0, 1) := by decide +kernel
theorem dX3_add_154 : decode cX3_add 154 = .ok (.getfield 37, 3) := by decide +kernel
theorem dX3_add_157 : decode cX3_add 157 = .ok (.iload 8, 2) := by decide +kernel
theorem dX3_add_159 : decode cX3_add 159 = .ok (.iaload, 1) := by decide +kernel
theorem dX3_add_160 : decode cX3_add 160 = .ok (.aload_n 0, 1) := by decide +kernel
theorem dX3_add_161 : decode cX3_add 161 = .ok (.getfield 40, 3) := by decide +kernel
theorem dX3_add_164 : decode cX3_add 164 = .ok (.iload 8, 2) := by decide +kernel
theorem dX3_add_166 : decode cX3_add 166 = .ok (.iaload, 1) := by decide +kernel
theorem dX3_add_167 : decode cX3_add 167 = .ok (.if_icmp .le 13, 3) := by decide +kernel
theorem dX3_add_170 : decode cX3_add 170 = .ok (.aload_n 0, 1) := by decide +kernel
theorem dX3_add_171 : decode cX3_add 171 = .ok (.getfield 37, 3) := by decide +kernel
theorem dX3_add_174 : decode cX3_add 174 = .ok (.iload 8, 2) := by decide +kernel
theorem dX3_add_176 : decode cX3_add 176 = .ok (.iaload, 1) := by decide +kernel
theorem dX3_add_177 : decode cX3_add 177 = .ok (.goto 10, 3) := by decide +kernel
theorem dX3_add_180 : decode cX3_add 180 = .ok (.aload_n 0, 1) := by decide +kernel
theorem dX3_add_181 : decode cX3_add 181 = .ok (.getfield 40, 3) := by decide +kernel
theorem dX3_add_184 : decode cX3_add 184 = .ok (.iload 8, 2) := by decide +kernel
theorem dX3_add_186 : decode cX3_add 186 = .ok (.iaload, 1) := by decide +kernel
theorem dX3_add_187 : decode cX3_add 187 = .ok (.iadd, 1) := by decide +kernel
theorem dX3_add_188 : decode cX3_add 188 = .ok (.istore 7, 2) := by decide +kernel
theorem dX3_add_190 : decode cX3_add 190 = .ok (.iinc 8 1, 3) := by decide +kernel
theorem dX3_add_193 : decode cX3_add 193 = .ok (.goto (-94), 3) := by decide +kernel
theorem dX3_add_196 : decode cX3_add 196 = .ok (.aload_n 0, 1) := by decide +kernel
theorem dX3_add_197 : decode cX3_add 197 = .ok (.getfield 81, 3) := by decide +kernel
theorem dX3_add_200 : decode cX3_add 200 = .ok (.bipush 8, 2) := by decide +kernel
theorem dX3_add_202 : decode cX3_add 202 = .ok (.if_icmp .eq 16, 3) := by decide +kernel
theorem dX3_add_205 : decode cX3_add 205 = .ok (.iload_n 2, 1) := by decide +kernel
theorem dX3_add_206 : decode cX3_add 206 = .ok (.iconst 1, 1) := by decide +kernel
theorem dX3_add_207 : decode cX3_add 207 = .ok (.if_icmp .ne 17, 3) := by decide +kernel
theorem dX3_add_210 : decode cX3_add 210 = .ok (.iload 7, 2) := by decide +kernel
theorem dX3_add_212 : decode cX3_add 212 = .ok (.sipush 10000, 3) := by decide +kernel
theorem dX3_add_215 : decode cX3_add 215 = .ok (.if_icmp .le 9, 3) := by decide +kernel
theorem dX3_add_218 : decode cX3_add 218 = .ok (.aload_n 0, 1) := by decide +kernel
theorem dX3_add_219 : decode cX3_add 219 = .ok (.iconst 3, 1) := by decide +kernel
theorem dX3_add_220 : decode cX3_add 220 = .ok (.invokevirtual 68, 3) := by decide +kernel
theorem dX3_add_223 : decode cX3_add 223 = .ok (.ireturn, 1) := by decide +kernel
theorem dX3_add_224 : decode cX3_add 224 = .ok (.aload_n 0, 1) := by decide +kernel
theorem dX3_add_225 : decode cX3_add 225 = .ok (.getfield 28, 3) := by decide +kernel
theorem dX3_add_228 : decode cX3_add 228 = .ok (.aload_n 0, 1) := by decide +kernel
theorem dX3_add_229 : decode cX3_add 229 = .ok (.getfield 81, 3) := by decide +kernel
theorem dX3_add_232 : decode cX3_add 232 = .ok (.iload_n 1, 1) := by decide +kernel
theorem dX3_add_233 : decode cX3_add 233 = .ok (.iastore, 1) := by decide +kernel
theorem dX3_add_234 : decode cX3_add 234 = .ok (.aload_n 0, 1) := by decide +kernel
theorem dX3_add_235 : decode cX3_add 235 = .ok (.getfield 31, 3) := by decide +kernel
theorem dX3_add_238 : decode cX3_add 238 = .ok (.aload_n 0, 1) := by decide +kernel
theorem dX3_add_239 : decode cX3_add 239 = .ok (.getfield 81, 3) := by decide +kernel
theorem dX3_add_242 : decode cX3_add 242 = .ok (.iload_n 2, 1) := by decide +kernel
theorem dX3_add_243 : decode cX3_add 243 = .ok (.iastore, 1) := by decide +kernel
theorem dX3_add_244 : decode cX3_add 244 = .ok (.aload_n 0, 1) := by decide +kernel
theorem dX3_add_245 : decode cX3_add 245 = .ok (.getfield 34, 3) := by decide +kernel
theorem dX3_add_248 : decode cX3_add 248 = .ok (.aload_n 0, 1) := by decide +kernel
theorem dX3_add_249 : decode cX3_add 249 = .ok (.getfield 81, 3) := by decide +kernel
theorem dX3_add_252 : decode cX3_add 252 = .ok (.iload_n 3, 1) := by decide +kernel
theorem dX3_add_253 : decode cX3_add 253 = .ok (.iastore, 1) := by decide +kernel
theorem dX3_add_254 : decode cX3_add 254 = .ok (.aload_n 0, 1) := by decide +kernel
theorem dX3_add_255 : decode cX3_add 255 = .ok (.getfield 37, 3) := by decide +kernel
theorem dX3_add_258 : decode cX3_add 258 = .ok (.aload_n 0, 1) := by decide +kernel
theorem dX3_add_259 : decode cX3_add 259 = .ok (.getfield 81, 3) := by decide +kernel
theorem dX3_add_262 : decode cX3_add 262 = .ok (.iload 4, 2) := by decide +kernel
theorem dX3_add_264 : decode cX3_add 264 = .ok (.iastore, 1) := by decide +kernel
theorem dX3_add_265 : decode cX3_add 265 = .ok (.aload_n 0, 1) := by decide +kernel
theorem dX3_add_266 : decode cX3_add 266 = .ok (.getfield 40, 3) := by decide +kernel
theorem dX3_add_269 : decode cX3_add 269 = .ok (.aload_n 0, 1) := by decide +kernel
theorem dX3_add_270 : decode cX3_add 270 = .ok (.getfield 81, 3) := by decide +kernel
theorem dX3_add_273 : decode cX3_add 273 = .ok (.iload 5, 2) := by decide +kernel
theorem dX3_add_275 : decode cX3_add 275 = .ok (.iastore, 1) := by decide +kernel
theorem dX3_add_276 : decode cX3_add 276 = .ok (.aload_n 0, 1) := by decide +kernel
theorem dX3_add_277 : decode cX3_add 277 = .ok (.dup, 1) := by decide +kernel
theorem dX3_add_278 : decode cX3_add 278 = .ok (.getfield 81, 3) := by decide +kernel
theorem dX3_add_281 : decode cX3_add 281 = .ok (.iconst 1, 1) := by decide +kernel
theorem dX3_add_282 : decode cX3_add 282 = .ok (.iadd, 1) := by decide +kernel
theorem dX3_add_283 : decode cX3_add 283 = .ok (.putfield 81, 3) := by decide +kernel
theorem dX3_add_286 : decode cX3_add 286 = .ok (.aload_n 0, 1) := by decide +kernel
theorem dX3_add_287 : decode cX3_add 287 = .ok (.getfield 81, 3) := by decide +kernel
theorem dX3_add_290 : decode cX3_add 290 = .ok (.iconst 1, 1) := by decide +kernel
theorem dX3_add_291 : decode cX3_add 291 = .ok (.isub, 1) := by decide +kernel
theorem dX3_add_292 : decode cX3_add 292 = .ok (.ireturn, 1) := by decide +kernel
set_option maxRecDepth 20000 in
theorem ggX3_receive_X3_isWindow : GoodIn wsX3_receive wsX3_isWindow := goodIn_r _ [8, 9, 10, 7, 11, 12, 13, 14] (by decide +kernel) (by decide +kernel)
set_option maxRecDepth 20000 in
theorem gX3_receive_X3_isWindow : GoodIn wsX3_receive (va_wsS RX3 72 yX3_isWindow wsX3_isWindow) := goodIn_app (goodIn_of _ (by decide +kernel)) ggX3_receive_X3_isWindow
set_option maxRecDepth 20000 in
theorem ggX3_receive_X3_fails : GoodIn wsX3_receive wsX3_fails := goodIn_r _ [18, 1, 22, 23, 24, 25, 26, 27, 28, 29, 30, 31, 32, 33, 34, 35, 36, 37, 38, 39, 40] (by decide +kernel) (by decide +kernel)
set_option maxRecDepth 20000 in
theorem gX3_receive_X3_fails : GoodIn wsX3_receive (wsV RX3 68 RX3 yX3_fails wsX3_fails) := goodIn_app (goodIn_of _ (by decide +kernel)) ggX3_receive_X3_fails
set_option maxRecDepth 20000 in
theorem ggX3_receive_X3_in : GoodIn wsX3_receive wsX3_in := goodIn_r _ [14] (by decide +kernel) (by decide +kernel)
set_option maxRecDepth 20000 in
theorem gX3_receive_X3_in : GoodIn wsX3_receive (va_wsS RX3 60 yX3_in wsX3_in) := goodIn_app (goodIn_of _ (by decide +kernel)) ggX3_receive_X3_in
set_option maxRecDepth 20000 in
theorem ggX3_receive_X3_at : GoodIn wsX3_receive wsX3_at := goodIn_r _ [21] (by decide +kernel) (by decide +kernel)
set_option maxRecDepth 20000 in
theorem gX3_receive_X3_at : GoodIn wsX3_receive (va_wsS RX3 88 yX3_at wsX3_at) := goodIn_app (goodIn_of _ (by decide +kernel)) ggX3_receive_X3_at
theorem dX3_receive_0 : decode cX3_receive 0 = .ok (.aload_n 0, 1) := by decide +kernel
theorem dX3_receive_1 : decode cX3_receive 1 = .ok (.iconst 0, 1) := by decide +kernel
theorem dX3_receive_2 : decode cX3_receive 2 = .ok (.putfield 56, 3) := by decide +kernel
theorem dX3_receive_5 : decode cX3_receive 5 = .ok (.iload_n 1, 1) := by decide +kernel
theorem dX3_receive_6 : decode cX3_receive 6 = .ok (.iload_n 2, 1) := by decide +kernel
theorem dX3_receive_7 : decode cX3_receive 7 = .ok (.invokestatic 72, 3) := by decide +kernel
theorem dX3_receive_10 : decode cX3_receive 10 = .ok (.ifCond .ne 9, 3) := by decide +kernel
theorem dX3_receive_13 : decode cX3_receive 13 = .ok (.aload_n 0, 1) := by decide +kernel
theorem dX3_receive_14 : decode cX3_receive 14 = .ok (.iconst 1, 1) := by decide +kernel
theorem dX3_receive_15 : decode cX3_receive 15 = .ok (.invokevirtual 68, 3) := by decide +kernel
theorem dX3_receive_18 : decode cX3_receive 18 = .ok (.ireturn, 1) := by decide +kernel
theorem dX3_receive_19 : decode cX3_receive 19 = .ok (.iload_n 3, 1) := by decide +kernel
theorem dX3_receive_20 : decode cX3_receive 20 = .ok (.iconst 1, 1) := by decide +kernel
theorem dX3_receive_21 : decode cX3_receive 21 = .ok (.ldc 84, 2) := by decide +kernel
theorem dX3_receive_23 : decode cX3_receive 23 = .ok (.invokestatic 60, 3) := by decide +kernel
theorem dX3_receive_26 : decode cX3_receive 26 = .ok (.ifCond .ne 9, 3) := by decide +kernel
theorem dX3_receive_29 : decode cX3_receive 29 = .ok (.aload_n 0, 1) := by decide +kernel
theorem dX3_receive_30 : decode cX3_receive 30 = .ok (.iconst 2, 1) := by decide +kernel
theorem dX3_receive_31 : decode cX3_receive 31 = .ok (.invokevirtual 68, 3) := by decide +kernel
theorem dX3_receive_34 : decode cX3_receive 34 = .ok (.ireturn, 1) := by decide +kernel
theorem dX3_receive_35 : decode cX3_receive 35 = .ok (.aload_n 0, 1) := by decide +kernel
theorem dX3_receive_36 : decode cX3_receive 36 = .ok (.getfield 7, 3) := by decide +kernel
theorem dX3_receive_39 : decode cX3_receive 39 = .ok (.iload_n 1, 1) := by decide +kernel
theorem dX3_receive_40 : decode cX3_receive 40 = .ok (.aload_n 0, 1) := by decide +kernel
theorem dX3_receive_41 : decode cX3_receive 41 = .ok (.getfield 85, 3) := by decide +kernel
theorem dX3_receive_44 : decode cX3_receive 44 = .ok (.iload_n 2, 1) := by decide +kernel
theorem dX3_receive_45 : decode cX3_receive 45 = .ok (.invokestatic 88, 3) := by decide +kernel
theorem dX3_receive_48 : decode cX3_receive 48 = .ok (.dup2, 1) := by decide +kernel
theorem dX3_receive_49 : decode cX3_receive 49 = .ok (.iaload, 1) := by decide +kernel
theorem dX3_receive_50 : decode cX3_receive 50 = .ok (.iload_n 3, 1) := by decide +kernel
theorem dX3_receive_51 : decode cX3_receive 51 = .ok (.iadd, 1) := by decide +kernel
theorem dX3_receive_52 : decode cX3_receive 52 = .ok (.iastore, 1) := by decide +kernel
theorem dX3_receive_53 : decode cX3_receive 53 = .ok (.aload_n 0, 1) := by decide +kernel
theorem dX3_receive_54 : decode cX3_receive 54 = .ok (.getfield 7, 3) := by decide +kernel
theorem dX3_receive_57 : decode cX3_receive 57 = .ok (.iload_n 1, 1) := by decide +kernel
theorem dX3_receive_58 : decode cX3_receive 58 = .ok (.aload_n 0, 1) := by decide +kernel
theorem dX3_receive_59 : decode cX3_receive 59 = .ok (.getfield 85, 3) := by decide +kernel
theorem dX3_receive_62 : decode cX3_receive 62 = .ok (.iload_n 2, 1) := by decide +kernel
theorem dX3_receive_63 : decode cX3_receive 63 = .ok (.invokestatic 88, 3) := by decide +kernel
theorem dX3_receive_66 : decode cX3_receive 66 = .ok (.iaload, 1) := by decide +kernel
theorem dX3_receive_67 : decode cX3_receive 67 = .ok (.ireturn, 1) := by decide +kernel
set_option maxRecDepth 20000 in
theorem ggX3_spend_X3_isPicture : GoodIn wsX3_spend wsX3_isPicture := goodIn_r _ [8, 9, 10, 7, 11] (by decide +kernel) (by decide +kernel)
set_option maxRecDepth 20000 in
theorem gX3_spend_X3_isPicture : GoodIn wsX3_spend (va_wsS RX3 64 yX3_isPicture wsX3_isPicture) := goodIn_app (goodIn_of _ (by decide +kernel)) ggX3_spend_X3_isPicture
set_option maxRecDepth 20000 in
theorem ggX3_spend_X3_fails : GoodIn wsX3_spend wsX3_fails := goodIn_r _ [15, 1, 16, 17, 18, 19, 20, 21, 22, 23, 24, 25, 26, 27, 28, 29, 30, 31, 32, 33, 34] (by decide +kernel) (by decide +kernel)
set_option maxRecDepth 20000 in
theorem gX3_spend_X3_fails : GoodIn wsX3_spend (wsV RX3 68 RX3 yX3_fails wsX3_fails) := goodIn_app (goodIn_of _ (by decide +kernel)) ggX3_spend_X3_fails
set_option maxRecDepth 20000 in
theorem ggX3_spend_X3_in : GoodIn wsX3_spend wsX3_in := goodIn_r _ [11] (by decide +kernel) (by decide +kernel)
set_option maxRecDepth 20000 in
theorem gX3_spend_X3_in : GoodIn wsX3_spend (va_wsS RX3 60 yX3_in wsX3_in) := goodIn_app (goodIn_of _ (by decide +kernel)) ggX3_spend_X3_in
theorem dX3_spend_0 : decode cX3_spend 0 = .ok (.aload_n 0, 1) := by decide +kernel
theorem dX3_spend_1 : decode cX3_spend 1 = .ok (.iconst 0, 1) := by decide +kernel
theorem dX3_spend_2 : decode cX3_spend 2 = .ok (.putfield 56, 3) := by decide +kernel
theorem dX3_spend_5 : decode cX3_spend 5 = .ok (.iload_n 1, 1) := by decide +kernel
theorem dX3_spend_6 : decode cX3_spend 6 = .ok (.invokestatic 64, 3) := by decide +kernel
theorem dX3_spend_9 : decode cX3_spend 9 = .ok (.ifCond .ne 9, 3) := by decide +kernel
theorem dX3_spend_12 : decode cX3_spend 12 = .ok (.aload_n 0, 1) := by decide +kernel
theorem dX3_spend_13 : decode cX3_spend 13 = .ok (.iconst 1, 1) := by decide +kernel
theorem dX3_spend_14 : decode cX3_spend 14 = .ok (.invokevirtual 68, 3) := by decide +kernel
theorem dX3_spend_17 : decode cX3_spend 17 = .ok (.ireturn, 1) := by decide +kernel
theorem dX3_spend_18 : decode cX3_spend 18 = .ok (.iload_n 2, 1) := by decide +kernel
theorem dX3_spend_19 : decode cX3_spend 19 = .ok (.iconst 1, 1) := by decide +kernel
theorem dX3_spend_20 : decode cX3_spend 20 = .ok (.ldc 84, 2) := by decide +kernel
theorem dX3_spend_22 : decode cX3_spend 22 = .ok (.invokestatic 60, 3) := by decide +kernel
theorem dX3_spend_25 : decode cX3_spend 25 = .ok (.ifCond .ne 9, 3) := by decide +kernel
theorem dX3_spend_28 : decode cX3_spend 28 = .ok (.aload_n 0, 1) := by decide +kernel
theorem dX3_spend_29 : decode cX3_spend 29 = .ok (.iconst 2, 1) := by decide +kernel
theorem dX3_spend_30 : decode cX3_spend 30 = .ok (.invokevirtual 68, 3) := by decide +kernel
theorem dX3_spend_33 : decode cX3_spend 33 = .ok (.ireturn, 1) := by decide +kernel
theorem dX3_spend_34 : decode cX3_spend 34 = .ok (.aload_n 0, 1) := by decide +kernel
theorem dX3_spend_35 : decode cX3_spend 35 = .ok (.getfield 13, 3) := by decide +kernel
theorem dX3_spend_38 : decode cX3_spend 38 = .ok (.bipush 10, 2) := by decide +kernel
theorem dX3_spend_40 : decode cX3_spend 40 = .ok (.iload_n 1, 1) := by decide +kernel
theorem dX3_spend_41 : decode cX3_spend 41 = .ok (.imul, 1) := by decide +kernel
theorem dX3_spend_42 : decode cX3_spend 42 = .ok (.aload_n 0, 1) := by decide +kernel
theorem dX3_spend_43 : decode cX3_spend 43 = .ok (.getfield 85, 3) := by decide +kernel
theorem dX3_spend_46 : decode cX3_spend 46 = .ok (.iadd, 1) := by decide +kernel
theorem dX3_spend_47 : decode cX3_spend 47 = .ok (.dup2, 1) := by decide +kernel
theorem dX3_spend_48 : decode cX3_spend 48 = .ok (.iaload, 1) := by decide +kernel
theorem dX3_spend_49 : decode cX3_spend 49 = .ok (.iload_n 2, 1) := by decide +kernel
theorem dX3_spend_50 : decode cX3_spend 50 = .ok (.iadd, 1) := by decide +kernel
theorem dX3_spend_51 : decode cX3_spend 51 = .ok (.iastore, 1) := by decide +kernel
theorem dX3_spend_52 : decode cX3_spend 52 = .ok (.aload_n 0, 1) := by decide +kernel
theorem dX3_spend_53 : decode cX3_spend 53 = .ok (.getfield 13, 3) := by decide +kernel
theorem dX3_spend_56 : decode cX3_spend 56 = .ok (.bipush 10, 2) := by decide +kernel
theorem dX3_spend_58 : decode cX3_spend 58 = .ok (.iload_n 1, 1) := by decide +kernel
theorem dX3_spend_59 : decode cX3_spend 59 = .ok (.imul, 1) := by decide +kernel
theorem dX3_spend_60 : decode cX3_spend 60 = .ok (.aload_n 0, 1) := by decide +kernel
theorem dX3_spend_61 : decode cX3_spend 61 = .ok (.getfield 85, 3) := by decide +kernel
theorem dX3_spend_64 : decode cX3_spend 64 = .ok (.iadd, 1) := by decide +kernel
theorem dX3_spend_65 : decode cX3_spend 65 = .ok (.iaload, 1) := by decide +kernel
theorem dX3_spend_66 : decode cX3_spend 66 = .ok (.ireturn, 1) := by decide +kernel
set_option maxRecDepth 20000 in
theorem ggX3_audit_X3_isWindow : GoodIn wsX3_audit wsX3_isWindow := goodIn_r _ [8, 9, 10, 7, 11, 12, 13, 14] (by decide +kernel) (by decide +kernel)
set_option maxRecDepth 20000 in
theorem gX3_audit_X3_isWindow : GoodIn wsX3_audit (va_wsS RX3 72 yX3_isWindow wsX3_isWindow) := goodIn_app (goodIn_of _ (by decide +kernel)) ggX3_audit_X3_isWindow
set_option maxRecDepth 20000 in
theorem ggX3_audit_X3_fails : GoodIn wsX3_audit wsX3_fails := goodIn_r _ [18, 1, 22, 23, 24, 25, 26, 27, 28, 29, 30, 31, 32, 33, 34, 35, 36, 37, 38, 39, 40] (by decide +kernel) (by decide +kernel)
set_option maxRecDepth 20000 in
theorem gX3_audit_X3_fails : GoodIn wsX3_audit (wsV RX3 68 RX3 yX3_fails wsX3_fails) := goodIn_app (goodIn_of _ (by decide +kernel)) ggX3_audit_X3_fails
set_option maxRecDepth 20000 in
theorem ggX3_audit_X3_in : GoodIn wsX3_audit wsX3_in := goodIn_r _ [14] (by decide +kernel) (by decide +kernel)
set_option maxRecDepth 20000 in
theorem gX3_audit_X3_in : GoodIn wsX3_audit (va_wsS RX3 60 yX3_in wsX3_in) := goodIn_app (goodIn_of _ (by decide +kernel)) ggX3_audit_X3_in
set_option maxRecDepth 20000 in
theorem ggX3_audit_X3_at : GoodIn wsX3_audit wsX3_at := goodIn_r _ [21] (by decide +kernel) (by decide +kernel)
set_option maxRecDepth 20000 in
theorem gX3_audit_X3_at : GoodIn wsX3_audit (va_wsS RX3 88 yX3_at wsX3_at) := goodIn_app (goodIn_of _ (by decide +kernel)) ggX3_audit_X3_at
theorem dX3_audit_0 : decode cX3_audit 0 = .ok (.aload_n 0, 1) := by decide +kernel
theorem dX3_audit_1 : decode cX3_audit 1 = .ok (.iconst 0, 1) := by decide +kernel
theorem dX3_audit_2 : decode cX3_audit 2 = .ok (.putfield 56, 3) := by decide +kernel
theorem dX3_audit_5 : decode cX3_audit 5 = .ok (.iload_n 1, 1) := by decide +kernel
theorem dX3_audit_6 : decode cX3_audit 6 = .ok (.iload_n 3, 1) := by decide +kernel
theorem dX3_audit_7 : decode cX3_audit 7 = .ok (.invokestatic 72, 3) := by decide +kernel
theorem dX3_audit_10 : decode cX3_audit 10 = .ok (.ifCond .ne 9, 3) := by decide +kernel
theorem dX3_audit_13 : decode cX3_audit 13 = .ok (.aload_n 0, 1) := by decide +kernel
theorem dX3_audit_14 : decode cX3_audit 14 = .ok (.iconst 1, 1) := by decide +kernel
theorem dX3_audit_15 : decode cX3_audit 15 = .ok (.invokevirtual 68, 3) := by decide +kernel
theorem dX3_audit_18 : decode cX3_audit 18 = .ok (.ireturn, 1) := by decide +kernel
theorem dX3_audit_19 : decode cX3_audit 19 = .ok (.iload 4, 2) := by decide +kernel
theorem dX3_audit_21 : decode cX3_audit 21 = .ok (.iconst 0, 1) := by decide +kernel
theorem dX3_audit_22 : decode cX3_audit 22 = .ok (.ldc 92, 2) := by decide +kernel
theorem dX3_audit_24 : decode cX3_audit 24 = .ok (.invokestatic 60, 3) := by decide +kernel
theorem dX3_audit_27 : decode cX3_audit 27 = .ok (.ifCond .ne 9, 3) := by decide +kernel
theorem dX3_audit_30 : decode cX3_audit 30 = .ok (.aload_n 0, 1) := by decide +kernel
theorem dX3_audit_31 : decode cX3_audit 31 = .ok (.iconst 2, 1) := by decide +kernel
theorem dX3_audit_32 : decode cX3_audit 32 = .ok (.invokevirtual 68, 3) := by decide +kernel
theorem dX3_audit_35 : decode cX3_audit 35 = .ok (.ireturn, 1) := by decide +kernel
theorem dX3_audit_36 : decode cX3_audit 36 = .ok (.iload_n 2, 1) := by decide +kernel
theorem dX3_audit_37 : decode cX3_audit 37 = .ok (.ifCond .lt 21, 3) := by decide +kernel
theorem dX3_audit_40 : decode cX3_audit 40 = .ok (.iload_n 2, 1) := by decide +kernel
theorem dX3_audit_41 : decode cX3_audit 41 = .ok (.aload_n 0, 1) := by decide +kernel
theorem dX3_audit_42 : decode cX3_audit 42 = .ok (.getfield 85, 3) := by decide +kernel
theorem dX3_audit_45 : decode cX3_audit 45 = .ok (.if_icmp .ge 13, 3) := by decide +kernel
theorem dX3_audit_48 : decode cX3_audit 48 = .ok (.aload_n 0, 1) := by decide +kernel
theorem dX3_audit_49 : decode cX3_audit 49 = .ok (.getfield 85, 3) := by decide +kernel
theorem dX3_audit_52 : decode cX3_audit 52 = .ok (.iload_n 2, 1) := by decide +kernel
theorem dX3_audit_53 : decode cX3_audit 53 = .ok (.isub, 1) := by decide +kernel
theorem dX3_audit_54 : decode cX3_audit 54 = .ok (.iconst 3, 1) := by decide +kernel
theorem dX3_audit_55 : decode cX3_audit 55 = .ok (.if_icmp .le 9, 3) := by decide +kernel
theorem dX3_audit_58 : decode cX3_audit 58 = .ok (.aload_n 0, 1) := by decide +kernel
theorem dX3_audit_59 : decode cX3_audit 59 = .ok (.iconst 3, 1) := by decide +kernel
theorem dX3_audit_60 : decode cX3_audit 60 = .ok (.invokevirtual 68, 3) := by decide +kernel
theorem dX3_audit_63 : decode cX3_audit 63 = .ok (.ireturn, 1) := by decide +kernel
theorem dX3_audit_64 : decode cX3_audit 64 = .ok (.aload_n 0, 1) := by decide +kernel
theorem dX3_audit_65 : decode cX3_audit 65 = .ok (.getfield 7, 3) := by decide +kernel
theorem dX3_audit_68 : decode cX3_audit 68 = .ok (.iload_n 1, 1) := by decide +kernel
theorem dX3_audit_69 : decode cX3_audit 69 = .ok (.iload_n 2, 1) := by decide +kernel
theorem dX3_audit_70 : decode cX3_audit 70 = .ok (.iload_n 3, 1) := by decide +kernel
theorem dX3_audit_71 : decode cX3_audit 71 = .ok (.invokestatic 88, 3) := by decide +kernel
theorem dX3_audit_74 : decode cX3_audit 74 = .ok (.iaload, 1) := by decide +kernel
theorem dX3_audit_75 : decode cX3_audit 75 = .ok (.istore 5, 2) := by decide +kernel
theorem dX3_audit_77 : decode cX3_audit 77 = .ok (.aload_n 0, 1) := by decide +kernel
theorem dX3_audit_78 : decode cX3_audit 78 = .ok (.getfield 7, 3) := by decide +kernel
theorem dX3_audit_81 : decode cX3_audit 81 = .ok (.iload_n 1, 1) := by decide +kernel
theorem dX3_audit_82 : decode cX3_audit 82 = .ok (.iload_n 2, 1) := by decide +kernel
theorem dX3_audit_83 : decode cX3_audit 83 = .ok (.iload_n 3, 1) := by decide +kernel
theorem dX3_audit_84 : decode cX3_audit 84 = .ok (.invokestatic 88, 3) := by decide +kernel
theorem dX3_audit_87 : decode cX3_audit 87 = .ok (.iload 4, 2) := by decide +kernel
theorem dX3_audit_89 : decode cX3_audit 89 = .ok (.iastore, 1) := by decide +kernel
theorem dX3_audit_90 : decode cX3_audit 90 = .ok (.iload 5, 2) := by decide +kernel
theorem dX3_audit_92 : decode cX3_audit 92 = .ok (.ireturn, 1) := by decide +kernel
set_option maxRecDepth 20000 in
theorem ggX3_closeYear_X3_fails : GoodIn wsX3_closeYear wsX3_fails := goodIn_r _ [7, 1, 8, 9, 10, 11, 12, 13, 14, 15, 16, 17, 18, 19, 20, 21, 22, 23, 24, 25, 26] (by decide +kernel) (by decide +kernel)
set_option maxRecDepth 20000 in
theorem gX3_closeYear_X3_fails : GoodIn wsX3_closeYear (wsV RX3 68 RX3 yX3_fails wsX3_fails) := goodIn_app (goodIn_of _ (by decide +kernel)) ggX3_closeYear_X3_fails
theorem dX3_closeYear_0 : decode cX3_closeYear 0 = .ok (.aload_n 0, 1) := by decide +kernel
theorem dX3_closeYear_1 : decode cX3_closeYear 1 = .ok (.iconst 0, 1) := by decide +kernel
theorem dX3_closeYear_2 : decode cX3_closeYear 2 = .ok (.putfield 56, 3) := by decide +kernel
theorem dX3_closeYear_5 : decode cX3_closeYear 5 = .ok (.aload_n 0, 1) := by decide +kernel
theorem dX3_closeYear_6 : decode cX3_closeYear 6 = .ok (.getfield 85, 3) := by decide +kernel
theorem dX3_closeYear_9 : decode cX3_closeYear 9 = .ok (.bipush 9, 2) := by decide +kernel
theorem dX3_closeYear_11 : decode cX3_closeYear 11 = .ok (.if_icmp .ne 9, 3) := by decide +kernel
theorem dX3_closeYear_14 : decode cX3_closeYear 14 = .ok (.aload_n 0, 1) := by decide +kernel
theorem dX3_closeYear_15 : decode cX3_closeYear 15 = .ok (.iconst 1, 1) := by decide +kernel
theorem dX3_closeYear_16 : decode cX3_closeYear 16 = .ok (.invokevirtual 68, 3) := by decide +kernel
theorem dX3_closeYear_19 : decode cX3_closeYear 19 = .ok (.ireturn, 1) := by decide +kernel
theorem dX3_closeYear_20 : decode cX3_closeYear 20 = .ok (.aload_n 0, 1) := by decide +kernel
theorem dX3_closeYear_21 : decode cX3_closeYear 21 = .ok (.dup, 1) := by decide +kernel
theorem dX3_closeYear_22 : decode cX3_closeYear 22 = .ok (.getfield 85, 3) := by decide +kernel
theorem dX3_closeYear_25 : decode cX3_closeYear 25 = .ok (.iconst 1, 1) := by decide +kernel
theorem dX3_closeYear_26 : decode cX3_closeYear 26 = .ok (.iadd, 1) := by decide +kernel
theorem dX3_closeYear_27 : decode cX3_closeYear 27 = .ok (.putfield 85, 3) := by decide +kernel
theorem dX3_closeYear_30 : decode cX3_closeYear 30 = .ok (.aload_n 0, 1) := by decide +kernel
theorem dX3_closeYear_31 : decode cX3_closeYear 31 = .ok (.getfield 85, 3) := by decide +kernel
theorem dX3_closeYear_34 : decode cX3_closeYear 34 = .ok (.ireturn, 1) := by decide +kernel
set_option maxRecDepth 20000 in
theorem ggX3_grossOf_X3_at : GoodIn wsX3_grossOf wsX3_at := goodIn_r _ [5] (by decide +kernel) (by decide +kernel)
set_option maxRecDepth 20000 in
theorem gX3_grossOf_X3_at : GoodIn wsX3_grossOf (va_wsS RX3 88 yX3_at wsX3_at) := goodIn_app (goodIn_of _ (by decide +kernel)) ggX3_grossOf_X3_at
theorem dX3_grossOf_0 : decode cX3_grossOf 0 = .ok (.lconst 0, 1) := by decide +kernel
theorem dX3_grossOf_1 : decode cX3_grossOf 1 = .ok (.lstore_n 3, 1) := by decide +kernel
theorem dX3_grossOf_2 : decode cX3_grossOf 2 = .ok (.iconst 0, 1) := by decide +kernel
theorem dX3_grossOf_3 : decode cX3_grossOf 3 = .ok (.istore 5, 2) := by decide +kernel
theorem dX3_grossOf_5 : decode cX3_grossOf 5 = .ok (.iload 5, 2) := by decide +kernel
theorem dX3_grossOf_7 : decode cX3_grossOf 7 = .ok (.iconst 4, 1) := by decide +kernel
theorem dX3_grossOf_8 : decode cX3_grossOf 8 = .ok (.if_icmp .ge 25, 3) := by decide +kernel
theorem dX3_grossOf_11 : decode cX3_grossOf 11 = .ok (.lload_n 3, 1) := by decide +kernel
theorem dX3_grossOf_12 : decode cX3_grossOf 12 = .ok (.aload_n 0, 1) := by decide +kernel
theorem dX3_grossOf_13 : decode cX3_grossOf 13 = .ok (.getfield 7, 3) := by decide +kernel
theorem dX3_grossOf_16 : decode cX3_grossOf 16 = .ok (.iload_n 1, 1) := by decide +kernel
theorem dX3_grossOf_17 : decode cX3_grossOf 17 = .ok (.iload_n 2, 1) := by decide +kernel
theorem dX3_grossOf_18 : decode cX3_grossOf 18 = .ok (.iload 5, 2) := by decide +kernel
theorem dX3_grossOf_20 : decode cX3_grossOf 20 = .ok (.invokestatic 88, 3) := by decide +kernel
theorem dX3_grossOf_23 : decode cX3_grossOf 23 = .ok (.iaload, 1) := by decide +kernel
theorem dX3_grossOf_24 : decode cX3_grossOf 24 = .ok (.i2l, 1) := by decide +kernel
theorem dX3_grossOf_25 : decode cX3_grossOf 25 = .ok (.ladd, 1) := by decide +kernel
theorem dX3_grossOf_26 : decode cX3_grossOf 26 = .ok (.lstore_n 3, 1) := by decide +kernel
theorem dX3_grossOf_27 : decode cX3_grossOf 27 = .ok (.iinc 5 1, 3) := by decide +kernel
theorem dX3_grossOf_30 : decode cX3_grossOf 30 = .ok (.goto (-25), 3) := by decide +kernel
theorem dX3_grossOf_33 : decode cX3_grossOf 33 = .ok (.lload_n 3, 1) := by decide +kernel
theorem dX3_grossOf_34 : decode cX3_grossOf 34 = .ok (.lreturn, 1) := by decide +kernel
set_option maxRecDepth 20000 in
theorem ggX3_adjustedOf_X3_grossOf : GoodIn wsX3_adjustedOf wsX3_grossOf := goodIn_r _ [7, 8, 9, 10, 6, 11, 12, 13, 14, 15, 16, 17, 18, 19, 20, 21, 22, 23, 24, 25, 26, 27, 28, 29, 30] (by decide +kernel) (by decide +kernel)
set_option maxRecDepth 20000 in
theorem gX3_adjustedOf_X3_grossOf : GoodIn wsX3_adjustedOf (wsV RX3 93 RX3 yX3_grossOf wsX3_grossOf) := goodIn_app (goodIn_of _ (by decide +kernel)) ggX3_adjustedOf_X3_grossOf
theorem dX3_adjustedOf_0 : decode cX3_adjustedOf 0 = .ok (.aload_n 0, 1) := by decide +kernel
theorem dX3_adjustedOf_1 : decode cX3_adjustedOf 1 = .ok (.iload_n 1, 1) := by decide +kernel
theorem dX3_adjustedOf_2 : decode cX3_adjustedOf 2 = .ok (.iload_n 2, 1) := by decide +kernel
theorem dX3_adjustedOf_3 : decode cX3_adjustedOf 3 = .ok (.invokevirtual 93, 3) := by decide +kernel
theorem dX3_adjustedOf_6 : decode cX3_adjustedOf 6 = .ok (.lstore_n 3, 1) := by decide +kernel
theorem dX3_adjustedOf_7 : decode cX3_adjustedOf 7 = .ok (.lload_n 3, 1) := by decide +kernel
theorem dX3_adjustedOf_8 : decode cX3_adjustedOf 8 = .ok (.lload_n 3, 1) := by decide +kernel
theorem dX3_adjustedOf_9 : decode cX3_adjustedOf 9 = .ok (.aload_n 0, 1) := by decide +kernel
theorem dX3_adjustedOf_10 : decode cX3_adjustedOf 10 = .ok (.getfield 19, 3) := by decide +kernel
theorem dX3_adjustedOf_13 : decode cX3_adjustedOf 13 = .ok (.iload_n 1, 1) := by decide +kernel
theorem dX3_adjustedOf_14 : decode cX3_adjustedOf 14 = .ok (.iaload, 1) := by decide +kernel
theorem dX3_adjustedOf_15 : decode cX3_adjustedOf 15 = .ok (.i2l, 1) := by decide +kernel
theorem dX3_adjustedOf_16 : decode cX3_adjustedOf 16 = .ok (.lmul, 1) := by decide +kernel
theorem dX3_adjustedOf_17 : decode cX3_adjustedOf 17 = .ok (.ldc2_w 97, 3) := by decide +kernel
theorem dX3_adjustedOf_20 : decode cX3_adjustedOf 20 = .ok (.ldiv, 1) := by decide +kernel
theorem dX3_adjustedOf_21 : decode cX3_adjustedOf 21 = .ok (.lsub, 1) := by decide +kernel
theorem dX3_adjustedOf_22 : decode cX3_adjustedOf 22 = .ok (.lreturn, 1) := by decide +kernel
set_option maxRecDepth 20000 in
theorem ggX3_feesOf_X3_at : GoodIn wsX3_feesOf wsX3_at := goodIn_r _ [7] (by decide +kernel) (by decide +kernel)
set_option maxRecDepth 20000 in
theorem gX3_feesOf_X3_at : GoodIn wsX3_feesOf (va_wsS RX3 88 yX3_at wsX3_at) := goodIn_app (goodIn_of _ (by decide +kernel)) ggX3_feesOf_X3_at
theorem dX3_feesOf_0 : decode cX3_feesOf 0 = .ok (.lconst 0, 1) := by decide +kernel
theorem dX3_feesOf_1 : decode cX3_feesOf 1 = .ok (.lstore_n 3, 1) := by decide +kernel
theorem dX3_feesOf_2 : decode cX3_feesOf 2 = .ok (.iconst 0, 1) := by decide +kernel
theorem dX3_feesOf_3 : decode cX3_feesOf 3 = .ok (.istore 5, 2) := by decide +kernel
theorem dX3_feesOf_5 : decode cX3_feesOf 5 = .ok (.iload 5, 2) := by decide +kernel
theorem dX3_feesOf_7 : decode cX3_feesOf 7 = .ok (.iconst 4, 1) := by decide +kernel
theorem dX3_feesOf_8 : decode cX3_feesOf 8 = .ok (.if_icmp .ge 42, 3) := by decide +kernel
theorem dX3_feesOf_11 : decode cX3_feesOf 11 = .ok (.lload_n 3, 1) := by decide +kernel
theorem dX3_feesOf_12 : decode cX3_feesOf 12 = .ok (.aload_n 0, 1) := by decide +kernel
theorem dX3_feesOf_13 : decode cX3_feesOf 13 = .ok (.getfield 7, 3) := by decide +kernel
theorem dX3_feesOf_16 : decode cX3_feesOf 16 = .ok (.iload_n 1, 1) := by decide +kernel
theorem dX3_feesOf_17 : decode cX3_feesOf 17 = .ok (.iload_n 2, 1) := by decide +kernel
theorem dX3_feesOf_18 : decode cX3_feesOf 18 = .ok (.iload 5, 2) := by decide +kernel
theorem dX3_feesOf_20 : decode cX3_feesOf 20 = .ok (.invokestatic 88, 3) := by decide +kernel
theorem dX3_feesOf_23 : decode cX3_feesOf 23 = .ok (.iaload, 1) := by decide +kernel
theorem dX3_feesOf_24 : decode cX3_feesOf 24 = .ok (.i2l, 1) := by decide +kernel
theorem dX3_feesOf_25 : decode cX3_feesOf 25 = .ok (.aload_n 0, 1) := by decide +kernel
theorem dX3_feesOf_26 : decode cX3_feesOf 26 = .ok (.getfield 16, 3) := by decide +kernel
theorem dX3_feesOf_29 : decode cX3_feesOf 29 = .ok (.iconst 4, 1) := by decide +kernel
theorem dX3_feesOf_30 : decode cX3_feesOf 30 = .ok (.iload_n 1, 1) := by decide +kernel
theorem dX3_feesOf_31 : decode cX3_feesOf 31 = .ok (.imul, 1) := by decide +kernel
theorem dX3_feesOf_32 : decode cX3_feesOf 32 = .ok (.iload 5, 2) := by decide +kernel
theorem dX3_feesOf_34 : decode cX3_feesOf 34 = .ok (.iadd, 1) := by decide +kernel
theorem dX3_feesOf_35 : decode cX3_feesOf 35 = .ok (.iaload, 1) := by decide +kernel
theorem dX3_feesOf_36 : decode cX3_feesOf 36 = .ok (.i2l, 1) := by decide +kernel
theorem dX3_feesOf_37 : decode cX3_feesOf 37 = .ok (.lmul, 1) := by decide +kernel
theorem dX3_feesOf_38 : decode cX3_feesOf 38 = .ok (.ldc2_w 97, 3) := by decide +kernel
theorem dX3_feesOf_41 : decode cX3_feesOf 41 = .ok (.ldiv, 1) := by decide +kernel
theorem dX3_feesOf_42 : decode cX3_feesOf 42 = .ok (.ladd, 1) := by decide +kernel
theorem dX3_feesOf_43 : decode cX3_feesOf 43 = .ok (.lstore_n 3, 1) := by decide +kernel
theorem dX3_feesOf_44 : decode cX3_feesOf 44 = .ok (.iinc 5 1, 3) := by decide +kernel
theorem dX3_feesOf_47 : decode cX3_feesOf 47 = .ok (.goto (-42), 3) := by decide +kernel
theorem dX3_feesOf_50 : decode cX3_feesOf 50 = .ok (.lload_n 3, 1) := by decide +kernel
theorem dX3_feesOf_51 : decode cX3_feesOf 51 = .ok (.lreturn, 1) := by decide +kernel
theorem dX3_parted_0 : decode cX3_parted 0 = .ok (.lload_n 1, 1) := by decide +kernel
theorem dX3_parted_1 : decode cX3_parted 1 = .ok (.aload_n 0, 1) := by decide +kernel
theorem dX3_parted_2 : decode cX3_parted 2 = .ok (.getfield 34, 3) := by decide +kernel
theorem dX3_parted_5 : decode cX3_parted 5 = .ok (.iload_n 3, 1) := by decide +kernel
theorem dX3_parted_6 : decode cX3_parted 6 = .ok (.iaload, 1) := by decide +kernel
theorem dX3_parted_7 : decode cX3_parted 7 = .ok (.i2l, 1) := by decide +kernel
theorem dX3_parted_8 : decode cX3_parted 8 = .ok (.lcmp, 1) := by decide +kernel
theorem dX3_parted_9 : decode cX3_parted 9 = .ok (.ifCond .ge 7, 3) := by decide +kernel
theorem dX3_parted_12 : decode cX3_parted 12 = .ok (.lload_n 1, 1) := by decide +kernel
theorem dX3_parted_13 : decode cX3_parted 13 = .ok (.goto 10, 3) := by decide +kernel
theorem dX3_parted_16 : decode cX3_parted 16 = .ok (.aload_n 0, 1) := by decide +kernel
theorem dX3_parted_17 : decode cX3_parted 17 = .ok (.getfield 34, 3) := by decide +kernel
theorem dX3_parted_20 : decode cX3_parted 20 = .ok (.iload_n 3, 1) := by decide +kernel
theorem dX3_parted_21 : decode cX3_parted 21 = .ok (.iaload, 1) := by decide +kernel
theorem dX3_parted_22 : decode cX3_parted 22 = .ok (.i2l, 1) := by decide +kernel
theorem dX3_parted_23 : decode cX3_parted 23 = .ok (.lstore 4, 2) := by decide +kernel
theorem dX3_parted_25 : decode cX3_parted 25 = .ok (.lload 4, 2) := by decide +kernel
theorem dX3_parted_27 : decode cX3_parted 27 = .ok (.aload_n 0, 1) := by decide +kernel
theorem dX3_parted_28 : decode cX3_parted 28 = .ok (.getfield 37, 3) := by decide +kernel
theorem dX3_parted_31 : decode cX3_parted 31 = .ok (.iload_n 3, 1) := by decide +kernel
theorem dX3_parted_32 : decode cX3_parted 32 = .ok (.iaload, 1) := by decide +kernel
theorem dX3_parted_33 : decode cX3_parted 33 = .ok (.i2l, 1) := by decide +kernel
theorem dX3_parted_34 : decode cX3_parted 34 = .ok (.lmul, 1) := by decide +kernel
theorem dX3_parted_35 : decode cX3_parted 35 = .ok (.lload_n 1, 1) := by decide +kernel
theorem dX3_parted_36 : decode cX3_parted 36 = .ok (.lload 4, 2) := by decide +kernel
theorem dX3_parted_38 : decode cX3_parted 38 = .ok (.lsub, 1) := by decide +kernel
theorem dX3_parted_39 : decode cX3_parted 39 = .ok (.aload_n 0, 1) := by decide +kernel
theorem dX3_parted_40 : decode cX3_parted 40 = .ok (.getfield 40, 3) := by decide +kernel
theorem dX3_parted_43 : decode cX3_parted 43 = .ok (.iload_n 3, 1) := by decide +kernel
theorem dX3_parted_44 : decode cX3_parted 44 = .ok (.iaload, 1) := by decide +kernel
theorem dX3_parted_45 : decode cX3_parted 45 = .ok (.i2l, 1) := by decide +kernel
theorem dX3_parted_46 : decode cX3_parted 46 = .ok (.lmul, 1) := by decide +kernel
theorem dX3_parted_47 : decode cX3_parted 47 = .ok (.ladd, 1) := by decide +kernel
theorem dX3_parted_48 : decode cX3_parted 48 = .ok (.ldc2_w 97, 3) := by decide +kernel
theorem dX3_parted_51 : decode cX3_parted 51 = .ok (.ldiv, 1) := by decide +kernel
theorem dX3_parted_52 : decode cX3_parted 52 = .ok (.lreturn, 1) := by decide +kernel
set_option maxRecDepth 20000 in
theorem ggX3_upTo_X3_grossOf : GoodIn wsX3_upTo wsX3_grossOf := goodIn_r _ [10, 11, 12, 13, 9, 14, 26, 27, 28, 29, 30, 31, 32, 33, 34, 35, 36, 37, 38, 39, 40, 41, 42, 43, 44] (by decide +kernel) (by decide +kernel)
set_option maxRecDepth 20000 in
theorem gX3_upTo_X3_grossOf : GoodIn wsX3_upTo (wsV RX3 93 RX3 yX3_grossOf wsX3_grossOf) := goodIn_app (goodIn_of _ (by decide +kernel)) ggX3_upTo_X3_grossOf
set_option maxRecDepth 20000 in
theorem ggX3_upTo_X3_adjustedOf : GoodIn wsX3_upTo wsX3_adjustedOf := goodIn_r _ [18, 19, 20, 6, 7, 8, 9, 10, 11, 12, 13, 14, 26, 27, 28, 29, 30, 31, 32, 33, 34, 35, 36, 37, 38, 39, 40, 41, 42, 43, 44] (by decide +kernel) (by decide +kernel)
set_option maxRecDepth 20000 in
theorem gX3_upTo_X3_adjustedOf : GoodIn wsX3_upTo (wsV RX3 99 RX3 yX3_adjustedOf wsX3_adjustedOf) := goodIn_app (goodIn_of _ (by decide +kernel)) ggX3_upTo_X3_adjustedOf
set_option maxRecDepth 20000 in
theorem ggX3_upTo_X3_parted : GoodIn wsX3_upTo wsX3_parted := goodIn_r _ [24, 3, 5, 25, 20, 26, 27, 28, 29, 30, 31, 32, 33, 34, 35, 36, 37, 38, 39, 40, 41, 42, 43, 44] (by decide +kernel) (by decide +kernel)
set_option maxRecDepth 20000 in
theorem gX3_upTo_X3_parted : GoodIn wsX3_upTo (wsV RX3 102 RX3 yX3_parted wsX3_parted) := goodIn_app (goodIn_of _ (by decide +kernel)) ggX3_upTo_X3_parted
theorem dX3_upTo_0 : decode cX3_upTo 0 = .ok (.lconst 0, 1) := by decide +kernel
theorem dX3_upTo_1 : decode cX3_upTo 1 = .ok (.lstore_n 3, 1) := by decide +kernel
theorem dX3_upTo_2 : decode cX3_upTo 2 = .ok (.lconst 0, 1) := by decide +kernel
theorem dX3_upTo_3 : decode cX3_upTo 3 = .ok (.lstore 5, 2) := by decide +kernel
theorem dX3_upTo_5 : decode cX3_upTo 5 = .ok (.iconst 0, 1) := by decide +kernel
theorem dX3_upTo_6 : decode cX3_upTo 6 = .ok (.istore 7, 2) := by decide +kernel
theorem dX3_upTo_8 : decode cX3_upTo 8 = .ok (.iload 7, 2) := by decide +kernel
theorem dX3_upTo_10 : decode cX3_upTo 10 = .ok (.iload_n 2, 1) := by decide +kernel
theorem dX3_upTo_11 : decode cX3_upTo 11 = .ok (.if_icmp .gt 41, 3) := by decide +kernel
theorem dX3_upTo_14 : decode cX3_upTo 14 = .ok (.lload_n 3, 1) := by decide +kernel
theorem dX3_upTo_15 : decode cX3_upTo 15 = .ok (.aload_n 0, 1) := by decide +kernel
theorem dX3_upTo_16 : decode cX3_upTo 16 = .ok (.aload_n 0, 1) := by decide +kernel
theorem dX3_upTo_17 : decode cX3_upTo 17 = .ok (.getfield 28, 3) := by decide +kernel
theorem dX3_upTo_20 : decode cX3_upTo 20 = .ok (.iload_n 1, 1) := by decide +kernel
theorem dX3_upTo_21 : decode cX3_upTo 21 = .ok (.iaload, 1) := by decide +kernel
theorem dX3_upTo_22 : decode cX3_upTo 22 = .ok (.iload 7, 2) := by decide +kernel
theorem dX3_upTo_24 : decode cX3_upTo 24 = .ok (.invokevirtual 93, 3) := by decide +kernel
theorem dX3_upTo_27 : decode cX3_upTo 27 = .ok (.ladd, 1) := by decide +kernel
theorem dX3_upTo_28 : decode cX3_upTo 28 = .ok (.lstore_n 3, 1) := by decide +kernel
theorem dX3_upTo_29 : decode cX3_upTo 29 = .ok (.lload 5, 2) := by decide +kernel
theorem dX3_upTo_31 : decode cX3_upTo 31 = .ok (.aload_n 0, 1) := by decide +kernel
theorem dX3_upTo_32 : decode cX3_upTo 32 = .ok (.aload_n 0, 1) := by decide +kernel
theorem dX3_upTo_33 : decode cX3_upTo 33 = .ok (.getfield 28, 3) := by decide +kernel
theorem dX3_upTo_36 : decode cX3_upTo 36 = .ok (.iload_n 1, 1) := by decide +kernel
theorem dX3_upTo_37 : decode cX3_upTo 37 = .ok (.iaload, 1) := by decide +kernel
theorem dX3_upTo_38 : decode cX3_upTo 38 = .ok (.iload 7, 2) := by decide +kernel
theorem dX3_upTo_40 : decode cX3_upTo 40 = .ok (.invokevirtual 99, 3) := by decide +kernel
theorem dX3_upTo_43 : decode cX3_upTo 43 = .ok (.ladd, 1) := by decide +kernel
theorem dX3_upTo_44 : decode cX3_upTo 44 = .ok (.lstore 5, 2) := by decide +kernel
theorem dX3_upTo_46 : decode cX3_upTo 46 = .ok (.iinc 7 1, 3) := by decide +kernel
theorem dX3_upTo_49 : decode cX3_upTo 49 = .ok (.goto (-41), 3) := by decide +kernel
theorem dX3_upTo_52 : decode cX3_upTo 52 = .ok (.aload_n 0, 1) := by decide +kernel
theorem dX3_upTo_53 : decode cX3_upTo 53 = .ok (.getfield 31, 3) := by decide +kernel
theorem dX3_upTo_56 : decode cX3_upTo 56 = .ok (.iload_n 1, 1) := by decide +kernel
theorem dX3_upTo_57 : decode cX3_upTo 57 = .ok (.iaload, 1) := by decide +kernel
theorem dX3_upTo_58 : decode cX3_upTo 58 = .ok (.ifCond .ne 11, 3) := by decide +kernel
theorem dX3_upTo_61 : decode cX3_upTo 61 = .ok (.aload_n 0, 1) := by decide +kernel
theorem dX3_upTo_62 : decode cX3_upTo 62 = .ok (.lload 5, 2) := by decide +kernel
theorem dX3_upTo_64 : decode cX3_upTo 64 = .ok (.iload_n 1, 1) := by decide +kernel
theorem dX3_upTo_65 : decode cX3_upTo 65 = .ok (.invokevirtual 102, 3) := by decide +kernel
theorem dX3_upTo_68 : decode cX3_upTo 68 = .ok (.lreturn, 1) := by decide +kernel
theorem dX3_upTo_69 : decode cX3_upTo 69 = .ok (.iload_n 2, 1) := by decide +kernel
theorem dX3_upTo_70 : decode cX3_upTo 70 = .ok (.ifCond .lt 29, 3) := by decide +kernel
theorem dX3_upTo_73 : decode cX3_upTo 73 = .ok (.lload_n 3, 1) := by decide +kernel
theorem dX3_upTo_74 : decode cX3_upTo 74 = .ok (.aload_n 0, 1) := by decide +kernel
theorem dX3_upTo_75 : decode cX3_upTo 75 = .ok (.getfield 34, 3) := by decide +kernel
theorem dX3_upTo_78 : decode cX3_upTo 78 = .ok (.iload_n 1, 1) := by decide +kernel
theorem dX3_upTo_79 : decode cX3_upTo 79 = .ok (.iaload, 1) := by decide +kernel
theorem dX3_upTo_80 : decode cX3_upTo 80 = .ok (.i2l, 1) := by decide +kernel
theorem dX3_upTo_81 : decode cX3_upTo 81 = .ok (.lcmp, 1) := by decide +kernel
theorem dX3_upTo_82 : decode cX3_upTo 82 = .ok (.ifCond .lt 17, 3) := by decide +kernel
theorem dX3_upTo_85 : decode cX3_upTo 85 = .ok (.ldc2_w 106, 3) := by decide +kernel
theorem dX3_upTo_88 : decode cX3_upTo 88 = .ok (.aload_n 0, 1) := by decide +kernel
theorem dX3_upTo_89 : decode cX3_upTo 89 = .ok (.getfield 37, 3) := by decide +kernel
theorem dX3_upTo_92 : decode cX3_upTo 92 = .ok (.iload_n 1, 1) := by decide +kernel
theorem dX3_upTo_93 : decode cX3_upTo 93 = .ok (.iaload, 1) := by decide +kernel
theorem dX3_upTo_94 : decode cX3_upTo 94 = .ok (.i2l, 1) := by decide +kernel
theorem dX3_upTo_95 : decode cX3_upTo 95 = .ok (.lmul, 1) := by decide +kernel
theorem dX3_upTo_96 : decode cX3_upTo 96 = .ok (.goto 4, 3) := by decide +kernel
theorem dX3_upTo_99 : decode cX3_upTo 99 = .ok (.lconst 0, 1) := by decide +kernel
theorem dX3_upTo_100 : decode cX3_upTo 100 = .ok (.lreturn, 1) := by decide +kernel
theorem dX3_move_0 : decode cX3_move 0 = .ok (.aload_n 0, 1) := by decide +kernel
theorem dX3_move_1 : decode cX3_move 1 = .ok (.getfield 53, 3) := by decide +kernel
theorem dX3_move_4 : decode cX3_move 4 = .ok (.iload_n 1, 1) := by decide +kernel
theorem dX3_move_5 : decode cX3_move 5 = .ok (.laload, 1) := by decide +kernel
theorem dX3_move_6 : decode cX3_move 6 = .ok (.aload_n 0, 1) := by decide +kernel
theorem dX3_move_7 : decode cX3_move 7 = .ok (.getfield 46, 3) := by decide +kernel
theorem dX3_move_10 : decode cX3_move 10 = .ok (.bipush 10, 2) := by decide +kernel
theorem dX3_move_12 : decode cX3_move 12 = .ok (.iload_n 2, 1) := by decide +kernel
theorem dX3_move_13 : decode cX3_move 13 = .ok (.imul, 1) := by decide +kernel
theorem dX3_move_14 : decode cX3_move 14 = .ok (.iload_n 3, 1) := by decide +kernel
theorem dX3_move_15 : decode cX3_move 15 = .ok (.iadd, 1) := by decide +kernel
theorem dX3_move_16 : decode cX3_move 16 = .ok (.laload, 1) := by decide +kernel
theorem dX3_move_17 : decode cX3_move 17 = .ok (.lcmp, 1) := by decide +kernel
theorem dX3_move_18 : decode cX3_move 18 = .ok (.ifCond .ge 12, 3) := by decide +kernel
theorem dX3_move_21 : decode cX3_move 21 = .ok (.aload_n 0, 1) := by decide +kernel
theorem dX3_move_22 : decode cX3_move 22 = .ok (.getfield 53, 3) := by decide +kernel
theorem dX3_move_25 : decode cX3_move 25 = .ok (.iload_n 1, 1) := by decide +kernel
theorem dX3_move_26 : decode cX3_move 26 = .ok (.laload, 1) := by decide +kernel
theorem dX3_move_27 : decode cX3_move 27 = .ok (.goto 14, 3) := by decide +kernel
theorem dX3_move_30 : decode cX3_move 30 = .ok (.aload_n 0, 1) := by decide +kernel
theorem dX3_move_31 : decode cX3_move 31 = .ok (.getfield 46, 3) := by decide +kernel
theorem dX3_move_34 : decode cX3_move 34 = .ok (.bipush 10, 2) := by decide +kernel
theorem dX3_move_36 : decode cX3_move 36 = .ok (.iload_n 2, 1) := by decide +kernel
theorem dX3_move_37 : decode cX3_move 37 = .ok (.imul, 1) := by decide +kernel
theorem dX3_move_38 : decode cX3_move 38 = .ok (.iload_n 3, 1) := by decide +kernel
theorem dX3_move_39 : decode cX3_move 39 = .ok (.iadd, 1) := by decide +kernel
theorem dX3_move_40 : decode cX3_move 40 = .ok (.laload, 1) := by decide +kernel
theorem dX3_move_41 : decode cX3_move 41 = .ok (.lstore 4, 2) := by decide +kernel
theorem dX3_move_43 : decode cX3_move 43 = .ok (.aload_n 0, 1) := by decide +kernel
theorem dX3_move_44 : decode cX3_move 44 = .ok (.getfield 50, 3) := by decide +kernel
theorem dX3_move_47 : decode cX3_move 47 = .ok (.bipush 10, 2) := by decide +kernel
theorem dX3_move_49 : decode cX3_move 49 = .ok (.iload_n 1, 1) := by decide +kernel
theorem dX3_move_50 : decode cX3_move 50 = .ok (.imul, 1) := by decide +kernel
theorem dX3_move_51 : decode cX3_move 51 = .ok (.iload_n 3, 1) := by decide +kernel
theorem dX3_move_52 : decode cX3_move 52 = .ok (.iadd, 1) := by decide +kernel
theorem dX3_move_53 : decode cX3_move 53 = .ok (.dup2, 1) := by decide +kernel
theorem dX3_move_54 : decode cX3_move 54 = .ok (.laload, 1) := by decide +kernel
theorem dX3_move_55 : decode cX3_move 55 = .ok (.lload 4, 2) := by decide +kernel
theorem dX3_move_57 : decode cX3_move 57 = .ok (.lsub, 1) := by decide +kernel
theorem dX3_move_58 : decode cX3_move 58 = .ok (.lastore, 1) := by decide +kernel
theorem dX3_move_59 : decode cX3_move 59 = .ok (.aload_n 0, 1) := by decide +kernel
theorem dX3_move_60 : decode cX3_move 60 = .ok (.getfield 53, 3) := by decide +kernel
theorem dX3_move_63 : decode cX3_move 63 = .ok (.iload_n 1, 1) := by decide +kernel
theorem dX3_move_64 : decode cX3_move 64 = .ok (.dup2, 1) := by decide +kernel
theorem dX3_move_65 : decode cX3_move 65 = .ok (.laload, 1) := by decide +kernel
theorem dX3_move_66 : decode cX3_move 66 = .ok (.lload 4, 2) := by decide +kernel
theorem dX3_move_68 : decode cX3_move 68 = .ok (.lsub, 1) := by decide +kernel
theorem dX3_move_69 : decode cX3_move 69 = .ok (.lastore, 1) := by decide +kernel
theorem dX3_move_70 : decode cX3_move 70 = .ok (.aload_n 0, 1) := by decide +kernel
theorem dX3_move_71 : decode cX3_move 71 = .ok (.getfield 46, 3) := by decide +kernel
theorem dX3_move_74 : decode cX3_move 74 = .ok (.bipush 10, 2) := by decide +kernel
theorem dX3_move_76 : decode cX3_move 76 = .ok (.iload_n 2, 1) := by decide +kernel
theorem dX3_move_77 : decode cX3_move 77 = .ok (.imul, 1) := by decide +kernel
theorem dX3_move_78 : decode cX3_move 78 = .ok (.iload_n 3, 1) := by decide +kernel
theorem dX3_move_79 : decode cX3_move 79 = .ok (.iadd, 1) := by decide +kernel
theorem dX3_move_80 : decode cX3_move 80 = .ok (.dup2, 1) := by decide +kernel
theorem dX3_move_81 : decode cX3_move 81 = .ok (.laload, 1) := by decide +kernel
theorem dX3_move_82 : decode cX3_move 82 = .ok (.lload 4, 2) := by decide +kernel
theorem dX3_move_84 : decode cX3_move 84 = .ok (.lsub, 1) := by decide +kernel
theorem dX3_move_85 : decode cX3_move 85 = .ok (.lastore, 1) := by decide +kernel
theorem dX3_move_86 : decode cX3_move 86 = .ok (.return_, 1) := by decide +kernel
set_option maxRecDepth 20000 in
theorem ggX3_lay_X3_upTo : GoodIn wsX3_lay wsX3_upTo := goodIn_r _ [17, 7, 8, 18, 19, 20, 21, 22, 23, 16, 24, 25, 26, 27, 28, 29, 30, 31, 32, 33, 5, 34, 35, 36, 37, 38, 48, 49, 50, 51, 52, 53, 54, 55, 56, 57, 58, 59, 60, 61, 62, 63, 64, 65, 66] (by decide +kernel) (by decide +kernel)
set_option maxRecDepth 20000 in
theorem gX3_lay_X3_upTo : GoodIn wsX3_lay (wsV RX3 108 RX3 yX3_upTo wsX3_upTo) := goodIn_app (goodIn_of _ (by decide +kernel)) ggX3_lay_X3_upTo
set_option maxRecDepth 20000 in
theorem ggX3_lay_X3_adjustedOf : GoodIn wsX3_lay wsX3_adjustedOf := goodIn_r _ [32, 33, 5, 21, 22, 23, 16, 24, 25, 26, 27, 28, 48, 49, 50, 51, 52, 53, 54, 55, 56, 57, 58, 59, 60, 61, 62, 63, 64, 65, 66] (by decide +kernel) (by decide +kernel)
set_option maxRecDepth 20000 in
theorem gX3_lay_X3_adjustedOf : GoodIn wsX3_lay (wsV RX3 99 RX3 yX3_adjustedOf wsX3_adjustedOf) := goodIn_app (goodIn_of _ (by decide +kernel)) ggX3_lay_X3_adjustedOf
set_option maxRecDepth 20000 in
theorem ggX3_lay_X3_feesOf : GoodIn wsX3_lay wsX3_feesOf := goodIn_r _ [42, 25, 43, 5, 26, 27, 16, 28, 48, 49, 50, 51, 52, 53, 54, 55, 56, 57, 58, 59, 60, 61, 62, 63, 64, 65, 66] (by decide +kernel) (by decide +kernel)
set_option maxRecDepth 20000 in
theorem gX3_lay_X3_feesOf : GoodIn wsX3_lay (wsV RX3 111 RX3 yX3_feesOf wsX3_feesOf) := goodIn_app (goodIn_of _ (by decide +kernel)) ggX3_lay_X3_feesOf
set_option maxRecDepth 20000 in
theorem ggX3_lay_X3_move : GoodIn wsX3_lay wsX3_move := goodIn_r _ [47, 9, 2, 10, 48, 49, 50, 51, 52, 53, 54, 55, 56, 57, 58, 59, 60, 61, 62, 63, 64, 65, 66] (by decide +kernel) (by decide +kernel)
set_option maxRecDepth 20000 in
theorem gX3_lay_X3_move : GoodIn wsX3_lay (wsV RX3 114 RX3 yX3_move wsX3_move) := goodIn_app (goodIn_of _ (by decide +kernel)) ggX3_lay_X3_move
theorem dX3_lay_0 : decode cX3_lay 0 = .ok (.iconst 0, 1) := by decide +kernel
theorem dX3_lay_1 : decode cX3_lay 1 = .ok (.istore_n 1, 1) := by decide +kernel
theorem dX3_lay_2 : decode cX3_lay 2 = .ok (.iload_n 1, 1) := by decide +kernel
theorem dX3_lay_3 : decode cX3_lay 3 = .ok (.aload_n 0, 1) := by decide +kernel
theorem dX3_lay_4 : decode cX3_lay 4 = .ok (.getfield 85, 3) := by decide +kernel
theorem dX3_lay_7 : decode cX3_lay 7 = .ok (.if_icmp .gt 321, 3) := by decide +kernel
theorem dX3_lay_10 : decode cX3_lay 10 = .ok (.iconst 0, 1) := by decide +kernel
theorem dX3_lay_11 : decode cX3_lay 11 = .ok (.istore_n 2, 1) := by decide +kernel
theorem dX3_lay_12 : decode cX3_lay 12 = .ok (.iload_n 2, 1) := by decide +kernel
theorem dX3_lay_13 : decode cX3_lay 13 = .ok (.iconst 2, 1) := by decide +kernel
theorem dX3_lay_14 : decode cX3_lay 14 = .ok (.if_icmp .ge 240, 3) := by decide +kernel
theorem dX3_lay_17 : decode cX3_lay 17 = .ok (.bipush 10, 2) := by decide +kernel
theorem dX3_lay_19 : decode cX3_lay 19 = .ok (.iload_n 2, 1) := by decide +kernel
theorem dX3_lay_20 : decode cX3_lay 20 = .ok (.imul, 1) := by decide +kernel
theorem dX3_lay_21 : decode cX3_lay 21 = .ok (.iload_n 1, 1) := by decide +kernel
theorem dX3_lay_22 : decode cX3_lay 22 = .ok (.iadd, 1) := by decide +kernel
theorem dX3_lay_23 : decode cX3_lay 23 = .ok (.istore_n 3, 1) := by decide +kernel
theorem dX3_lay_24 : decode cX3_lay 24 = .ok (.iload_n 1, 1) := by decide +kernel
theorem dX3_lay_25 : decode cX3_lay 25 = .ok (.ifCond .ne 7, 3) := by decide +kernel
theorem dX3_lay_28 : decode cX3_lay 28 = .ok (.lconst 0, 1) := by decide +kernel
theorem dX3_lay_29 : decode cX3_lay 29 = .ok (.goto 11, 3) := by decide +kernel
theorem dX3_lay_32 : decode cX3_lay 32 = .ok (.aload_n 0, 1) := by decide +kernel
theorem dX3_lay_33 : decode cX3_lay 33 = .ok (.getfield 46, 3) := by decide +kernel
theorem dX3_lay_36 : decode cX3_lay 36 = .ok (.iload_n 3, 1) := by decide +kernel
theorem dX3_lay_37 : decode cX3_lay 37 = .ok (.iconst 1, 1) := by decide +kernel
theorem dX3_lay_38 : decode cX3_lay 38 = .ok (.isub, 1) := by decide +kernel
theorem dX3_lay_39 : decode cX3_lay 39 = .ok (.laload, 1) := by decide +kernel
theorem dX3_lay_40 : decode cX3_lay 40 = .ok (.lstore 4, 2) := by decide +kernel
theorem dX3_lay_42 : decode cX3_lay 42 = .ok (.lload 4, 2) := by decide +kernel
theorem dX3_lay_44 : decode cX3_lay 44 = .ok (.aload_n 0, 1) := by decide +kernel
theorem dX3_lay_45 : decode cX3_lay 45 = .ok (.getfield 13, 3) := by decide +kernel
theorem dX3_lay_48 : decode cX3_lay 48 = .ok (.iload_n 3, 1) := by decide +kernel
theorem dX3_lay_49 : decode cX3_lay 49 = .ok (.iaload, 1) := by decide +kernel
theorem dX3_lay_50 : decode cX3_lay 50 = .ok (.i2l, 1) := by decide +kernel
theorem dX3_lay_51 : decode cX3_lay 51 = .ok (.aload_n 0, 1) := by decide +kernel
theorem dX3_lay_52 : decode cX3_lay 52 = .ok (.getfield 13, 3) := by decide +kernel
theorem dX3_lay_55 : decode cX3_lay 55 = .ok (.iload_n 3, 1) := by decide +kernel
theorem dX3_lay_56 : decode cX3_lay 56 = .ok (.iaload, 1) := by decide +kernel
theorem dX3_lay_57 : decode cX3_lay 57 = .ok (.i2l, 1) := by decide +kernel
theorem dX3_lay_58 : decode cX3_lay 58 = .ok (.aload_n 0, 1) := by decide +kernel
theorem dX3_lay_59 : decode cX3_lay 59 = .ok (.getfield 22, 3) := by decide +kernel
theorem dX3_lay_62 : decode cX3_lay 62 = .ok (.iload_n 2, 1) := by decide +kernel
theorem dX3_lay_63 : decode cX3_lay 63 = .ok (.iaload, 1) := by decide +kernel
theorem dX3_lay_64 : decode cX3_lay 64 = .ok (.i2l, 1) := by decide +kernel
theorem dX3_lay_65 : decode cX3_lay 65 = .ok (.lmul, 1) := by decide +kernel
theorem dX3_lay_66 : decode cX3_lay 66 = .ok (.ldc2_w 97, 3) := by decide +kernel
theorem dX3_lay_69 : decode cX3_lay 69 = .ok (.ldiv, 1) := by decide +kernel
theorem dX3_lay_70 : decode cX3_lay 70 = .ok (.ladd, 1) := by decide +kernel
theorem dX3_lay_71 : decode cX3_lay 71 = .ok (.ladd, 1) := by decide +kernel
theorem dX3_lay_72 : decode cX3_lay 72 = .ok (.lstore 4, 2) := by decide +kernel
theorem dX3_lay_74 : decode cX3_lay 74 = .ok (.iconst 0, 1) := by decide +kernel
theorem dX3_lay_75 : decode cX3_lay 75 = .ok (.istore 6, 2) := by decide +kernel
theorem dX3_lay_77 : decode cX3_lay 77 = .ok (.iload 6, 2) := by decide +kernel
theorem dX3_lay_79 : decode cX3_lay 79 = .ok (.aload_n 0, 1) := by decide +kernel
theorem dX3_lay_80 : decode cX3_lay 80 = .ok (.getfield 81, 3) := by decide +kernel
theorem dX3_lay_83 : decode cX3_lay 83 = .ok (.if_icmp .ge 79, 3) := by decide +kernel
theorem dX3_lay_86 : decode cX3_lay 86 = .ok (.aload_n 0, 1) := by decide +kernel
theorem dX3_lay_87 : decode cX3_lay 87 = .ok (.getfield 28, 3) := by decide +kernel
theorem dX3_lay_90 : decode cX3_lay 90 = .ok (.iload 6, 2) := by decide +kernel
theorem dX3_lay_92 : decode cX3_lay 92 = .ok (.iaload, 1) := by decide +kernel
theorem dX3_lay_93 : decode cX3_lay 93 = .ok (.iload_n 2, 1) := by decide +kernel
theorem dX3_lay_94 : decode cX3_lay 94 = .ok (.if_icmp .ne 28, 3) := by decide +kernel
theorem dX3_lay_97 : decode cX3_lay 97 = .ok (.aload_n 0, 1) := by decide +kernel
theorem dX3_lay_98 : decode cX3_lay 98 = .ok (.getfield 31, 3) := by decide +kernel
theorem dX3_lay_101 : decode cX3_lay 101 = .ok (.iload 6, 2) := by decide +kernel
theorem dX3_lay_103 : decode cX3_lay 103 = .ok (.iaload, 1) := by decide +kernel
theorem dX3_lay_104 : decode cX3_lay 104 = .ok (.ifCond .eq 14, 3) := by decide +kernel
theorem dX3_lay_107 : decode cX3_lay 107 = .ok (.aload_n 0, 1) := by decide +kernel
theorem dX3_lay_108 : decode cX3_lay 108 = .ok (.getfield 31, 3) := by decide +kernel
theorem dX3_lay_111 : decode cX3_lay 111 = .ok (.iload 6, 2) := by decide +kernel
theorem dX3_lay_113 : decode cX3_lay 113 = .ok (.iaload, 1) := by decide +kernel
theorem dX3_lay_114 : decode cX3_lay 114 = .ok (.iconst 3, 1) := by decide +kernel
theorem dX3_lay_115 : decode cX3_lay 115 = .ok (.if_icmp .ne 7, 3) := by decide +kernel
theorem dX3_lay_118 : decode cX3_lay 118 = .ok (.iconst 1, 1) := by decide +kernel
theorem dX3_lay_119 : decode cX3_lay 119 = .ok (.goto 4, 3) := by decide +kernel
theorem dX3_lay_122 : decode cX3_lay 122 = .ok (.iconst 0, 1) := by decide +kernel
theorem dX3_lay_123 : decode cX3_lay 123 = .ok (.istore 7, 2) := by decide +kernel
theorem dX3_lay_125 : decode cX3_lay 125 = .ok (.lload 4, 2) := by decide +kernel
theorem dX3_lay_127 : decode cX3_lay 127 = .ok (.iload 7, 2) := by decide +kernel
theorem dX3_lay_129 : decode cX3_lay 129 = .ok (.ifCond .eq 23, 3) := by decide +kernel
theorem dX3_lay_132 : decode cX3_lay 132 = .ok (.aload_n 0, 1) := by decide +kernel
theorem dX3_lay_133 : decode cX3_lay 133 = .ok (.iload 6, 2) := by decide +kernel
theorem dX3_lay_135 : decode cX3_lay 135 = .ok (.iload_n 1, 1) := by decide +kernel
theorem dX3_lay_136 : decode cX3_lay 136 = .ok (.invokevirtual 108, 3) := by decide +kernel
theorem dX3_lay_139 : decode cX3_lay 139 = .ok (.aload_n 0, 1) := by decide +kernel
theorem dX3_lay_140 : decode cX3_lay 140 = .ok (.iload 6, 2) := by decide +kernel
theorem dX3_lay_142 : decode cX3_lay 142 = .ok (.iload_n 1, 1) := by decide +kernel
theorem dX3_lay_143 : decode cX3_lay 143 = .ok (.iconst 1, 1) := by decide +kernel
theorem dX3_lay_144 : decode cX3_lay 144 = .ok (.isub, 1) := by decide +kernel
theorem dX3_lay_145 : decode cX3_lay 145 = .ok (.invokevirtual 108, 3) := by decide +kernel
theorem dX3_lay_148 : decode cX3_lay 148 = .ok (.lsub, 1) := by decide +kernel
theorem dX3_lay_149 : decode cX3_lay 149 = .ok (.goto 4, 3) := by decide +kernel
theorem dX3_lay_152 : decode cX3_lay 152 = .ok (.lconst 0, 1) := by decide +kernel
theorem dX3_lay_153 : decode cX3_lay 153 = .ok (.ladd, 1) := by decide +kernel
theorem dX3_lay_154 : decode cX3_lay 154 = .ok (.lstore 4, 2) := by decide +kernel
theorem dX3_lay_156 : decode cX3_lay 156 = .ok (.iinc 6 1, 3) := by decide +kernel
theorem dX3_lay_159 : decode cX3_lay 159 = .ok (.goto (-82), 3) := by decide +kernel
theorem dX3_lay_162 : decode cX3_lay 162 = .ok (.lload 4, 2) := by decide +kernel
theorem dX3_lay_164 : decode cX3_lay 164 = .ok (.aload_n 0, 1) := by decide +kernel
theorem dX3_lay_165 : decode cX3_lay 165 = .ok (.iload_n 2, 1) := by decide +kernel
theorem dX3_lay_166 : decode cX3_lay 166 = .ok (.iload_n 1, 1) := by decide +kernel
theorem dX3_lay_167 : decode cX3_lay 167 = .ok (.invokevirtual 99, 3) := by decide +kernel
theorem dX3_lay_170 : decode cX3_lay 170 = .ok (.aload_n 0, 1) := by decide +kernel
theorem dX3_lay_171 : decode cX3_lay 171 = .ok (.iload_n 2, 1) := by decide +kernel
theorem dX3_lay_172 : decode cX3_lay 172 = .ok (.iload_n 1, 1) := by decide +kernel
theorem dX3_lay_173 : decode cX3_lay 173 = .ok (.invokevirtual 111, 3) := by decide +kernel
theorem dX3_lay_176 : decode cX3_lay 176 = .ok (.lsub, 1) := by decide +kernel
theorem dX3_lay_177 : decode cX3_lay 177 = .ok (.lsub, 1) := by decide +kernel
theorem dX3_lay_178 : decode cX3_lay 178 = .ok (.lstore 4, 2) := by decide +kernel
theorem dX3_lay_180 : decode cX3_lay 180 = .ok (.aload_n 0, 1) := by decide +kernel
theorem dX3_lay_181 : decode cX3_lay 181 = .ok (.getfield 53, 3) := by decide +kernel
theorem dX3_lay_184 : decode cX3_lay 184 = .ok (.iload_n 2, 1) := by decide +kernel
theorem dX3_lay_185 : decode cX3_lay 185 = .ok (.lload 4, 2) := by decide +kernel
theorem dX3_lay_187 : decode cX3_lay 187 = .ok (.lconst 0, 1) := by decide +kernel
theorem dX3_lay_188 : decode cX3_lay 188 = .ok (.lcmp, 1) := by decide +kernel
theorem dX3_lay_189 : decode cX3_lay 189 = .ok (.ifCond .ge 9, 3) := by decide +kernel
theorem dX3_lay_192 : decode cX3_lay 192 = .ok (.lload 4, 2) := by decide +kernel
theorem dX3_lay_194 : decode cX3_lay 194 = .ok (.lneg, 1) := by decide +kernel
theorem dX3_lay_195 : decode cX3_lay 195 = .ok (.goto 4, 3) := by decide +kernel
theorem dX3_lay_198 : decode cX3_lay 198 = .ok (.lconst 0, 1) := by decide +kernel
theorem dX3_lay_199 : decode cX3_lay 199 = .ok (.lastore, 1) := by decide +kernel
theorem dX3_lay_200 : decode cX3_lay 200 = .ok (.aload_n 0, 1) := by decide +kernel
theorem dX3_lay_201 : decode cX3_lay 201 = .ok (.getfield 46, 3) := by decide +kernel
theorem dX3_lay_204 : decode cX3_lay 204 = .ok (.iload_n 3, 1) := by decide +kernel
theorem dX3_lay_205 : decode cX3_lay 205 = .ok (.lload 4, 2) := by decide +kernel
theorem dX3_lay_207 : decode cX3_lay 207 = .ok (.lconst 0, 1) := by decide +kernel
theorem dX3_lay_208 : decode cX3_lay 208 = .ok (.lcmp, 1) := by decide +kernel
theorem dX3_lay_209 : decode cX3_lay 209 = .ok (.ifCond .ge 7, 3) := by decide +kernel
theorem dX3_lay_212 : decode cX3_lay 212 = .ok (.lconst 0, 1) := by decide +kernel
theorem dX3_lay_213 : decode cX3_lay 213 = .ok (.goto 5, 3) := by decide +kernel
theorem dX3_lay_216 : decode cX3_lay 216 = .ok (.lload 4, 2) := by decide +kernel
theorem dX3_lay_218 : decode cX3_lay 218 = .ok (.lastore, 1) := by decide +kernel
theorem dX3_lay_219 : decode cX3_lay 219 = .ok (.aload_n 0, 1) := by decide +kernel
theorem dX3_lay_220 : decode cX3_lay 220 = .ok (.getfield 50, 3) := by decide +kernel
theorem dX3_lay_223 : decode cX3_lay 223 = .ok (.iload_n 3, 1) := by decide +kernel
theorem dX3_lay_224 : decode cX3_lay 224 = .ok (.aload_n 0, 1) := by decide +kernel
theorem dX3_lay_225 : decode cX3_lay 225 = .ok (.getfield 53, 3) := by decide +kernel
theorem dX3_lay_228 : decode cX3_lay 228 = .ok (.iload_n 2, 1) := by decide +kernel
theorem dX3_lay_229 : decode cX3_lay 229 = .ok (.laload, 1) := by decide +kernel
theorem dX3_lay_230 : decode cX3_lay 230 = .ok (.iload_n 1, 1) := by decide +kernel
theorem dX3_lay_231 : decode cX3_lay 231 = .ok (.ifCond .ne 7, 3) := by decide +kernel
theorem dX3_lay_234 : decode cX3_lay 234 = .ok (.lconst 0, 1) := by decide +kernel
theorem dX3_lay_235 : decode cX3_lay 235 = .ok (.goto 11, 3) := by decide +kernel
theorem dX3_lay_238 : decode cX3_lay 238 = .ok (.aload_n 0, 1) := by decide +kernel
theorem dX3_lay_239 : decode cX3_lay 239 = .ok (.getfield 50, 3) := by decide +kernel
theorem dX3_lay_242 : decode cX3_lay 242 = .ok (.iload_n 3, 1) := by decide +kernel
theorem dX3_lay_243 : decode cX3_lay 243 = .ok (.iconst 1, 1) := by decide +kernel
theorem dX3_lay_244 : decode cX3_lay 244 = .ok (.isub, 1) := by decide +kernel
theorem dX3_lay_245 : decode cX3_lay 245 = .ok (.laload, 1) := by decide +kernel
theorem dX3_lay_246 : decode cX3_lay 246 = .ok (.ladd, 1) := by decide +kernel
theorem dX3_lay_247 : decode cX3_lay 247 = .ok (.lastore, 1) := by decide +kernel
theorem dX3_lay_248 : decode cX3_lay 248 = .ok (.iinc 2 1, 3) := by decide +kernel
theorem dX3_lay_251 : decode cX3_lay 251 = .ok (.goto (-239), 3) := by decide +kernel
theorem dX3_lay_254 : decode cX3_lay 254 = .ok (.aload_n 0, 1) := by decide +kernel
theorem dX3_lay_255 : decode cX3_lay 255 = .ok (.getfield 76, 3) := by decide +kernel
theorem dX3_lay_258 : decode cX3_lay 258 = .ok (.ifCond .eq 17, 3) := by decide +kernel
theorem dX3_lay_261 : decode cX3_lay 261 = .ok (.aload_n 0, 1) := by decide +kernel
theorem dX3_lay_262 : decode cX3_lay 262 = .ok (.iconst 0, 1) := by decide +kernel
theorem dX3_lay_263 : decode cX3_lay 263 = .ok (.iconst 1, 1) := by decide +kernel
theorem dX3_lay_264 : decode cX3_lay 264 = .ok (.iload_n 1, 1) := by decide +kernel
theorem dX3_lay_265 : decode cX3_lay 265 = .ok (.invokevirtual 114, 3) := by decide +kernel
theorem dX3_lay_268 : decode cX3_lay 268 = .ok (.aload_n 0, 1) := by decide +kernel
theorem dX3_lay_269 : decode cX3_lay 269 = .ok (.iconst 1, 1) := by decide +kernel
theorem dX3_lay_270 : decode cX3_lay 270 = .ok (.iconst 0, 1) := by decide +kernel
theorem dX3_lay_271 : decode cX3_lay 271 = .ok (.iload_n 1, 1) := by decide +kernel
theorem dX3_lay_272 : decode cX3_lay 272 = .ok (.invokevirtual 114, 3) := by decide +kernel
theorem dX3_lay_275 : decode cX3_lay 275 = .ok (.iconst 0, 1) := by decide +kernel
theorem dX3_lay_276 : decode cX3_lay 276 = .ok (.istore_n 2, 1) := by decide +kernel
theorem dX3_lay_277 : decode cX3_lay 277 = .ok (.iload_n 2, 1) := by decide +kernel
theorem dX3_lay_278 : decode cX3_lay 278 = .ok (.iconst 2, 1) := by decide +kernel
theorem dX3_lay_279 : decode cX3_lay 279 = .ok (.if_icmp .ge 43, 3) := by decide +kernel
theorem dX3_lay_282 : decode cX3_lay 282 = .ok (.bipush 10, 2) := by decide +kernel
theorem dX3_lay_284 : decode cX3_lay 284 = .ok (.iload_n 2, 1) := by decide +kernel
theorem dX3_lay_285 : decode cX3_lay 285 = .ok (.imul, 1) := by decide +kernel
theorem dX3_lay_286 : decode cX3_lay 286 = .ok (.iload_n 1, 1) := by decide +kernel
theorem dX3_lay_287 : decode cX3_lay 287 = .ok (.iadd, 1) := by decide +kernel
theorem dX3_lay_288 : decode cX3_lay 288 = .ok (.istore_n 3, 1) := by decide +kernel
theorem dX3_lay_289 : decode cX3_lay 289 = .ok (.aload_n 0, 1) := by decide +kernel
theorem dX3_lay_290 : decode cX3_lay 290 = .ok (.getfield 46, 3) := by decide +kernel
theorem dX3_lay_293 : decode cX3_lay 293 = .ok (.iload_n 3, 1) := by decide +kernel
theorem dX3_lay_294 : decode cX3_lay 294 = .ok (.dup2, 1) := by decide +kernel
theorem dX3_lay_295 : decode cX3_lay 295 = .ok (.laload, 1) := by decide +kernel
theorem dX3_lay_296 : decode cX3_lay 296 = .ok (.aload_n 0, 1) := by decide +kernel
theorem dX3_lay_297 : decode cX3_lay 297 = .ok (.getfield 46, 3) := by decide +kernel
theorem dX3_lay_300 : decode cX3_lay 300 = .ok (.iload_n 3, 1) := by decide +kernel
theorem dX3_lay_301 : decode cX3_lay 301 = .ok (.laload, 1) := by decide +kernel
theorem dX3_lay_302 : decode cX3_lay 302 = .ok (.aload_n 0, 1) := by decide +kernel
theorem dX3_lay_303 : decode cX3_lay 303 = .ok (.getfield 25, 3) := by decide +kernel
theorem dX3_lay_306 : decode cX3_lay 306 = .ok (.iload_n 2, 1) := by decide +kernel
theorem dX3_lay_307 : decode cX3_lay 307 = .ok (.iaload, 1) := by decide +kernel
theorem dX3_lay_308 : decode cX3_lay 308 = .ok (.i2l, 1) := by decide +kernel
theorem dX3_lay_309 : decode cX3_lay 309 = .ok (.lmul, 1) := by decide +kernel
theorem dX3_lay_310 : decode cX3_lay 310 = .ok (.ldc2_w 97, 3) := by decide +kernel
theorem dX3_lay_313 : decode cX3_lay 313 = .ok (.ldiv, 1) := by decide +kernel
theorem dX3_lay_314 : decode cX3_lay 314 = .ok (.ladd, 1) := by decide +kernel
theorem dX3_lay_315 : decode cX3_lay 315 = .ok (.lastore, 1) := by decide +kernel
theorem dX3_lay_316 : decode cX3_lay 316 = .ok (.iinc 2 1, 3) := by decide +kernel
theorem dX3_lay_319 : decode cX3_lay 319 = .ok (.goto (-42), 3) := by decide +kernel
theorem dX3_lay_322 : decode cX3_lay 322 = .ok (.iinc 1 1, 3) := by decide +kernel
theorem dX3_lay_325 : decode cX3_lay 325 = .ok (.goto (-323), 3) := by decide +kernel
theorem dX3_lay_328 : decode cX3_lay 328 = .ok (.return_, 1) := by decide +kernel
theorem dX3_deferred_0 : decode cX3_deferred 0 = .ok (.aload_n 0, 1) := by decide +kernel
theorem dX3_deferred_1 : decode cX3_deferred 1 = .ok (.getfield 50, 3) := by decide +kernel
theorem dX3_deferred_4 : decode cX3_deferred 4 = .ok (.bipush 10, 2) := by decide +kernel
theorem dX3_deferred_6 : decode cX3_deferred 6 = .ok (.iload_n 1, 1) := by decide +kernel
theorem dX3_deferred_7 : decode cX3_deferred 7 = .ok (.imul, 1) := by decide +kernel
theorem dX3_deferred_8 : decode cX3_deferred 8 = .ok (.aload_n 0, 1) := by decide +kernel
theorem dX3_deferred_9 : decode cX3_deferred 9 = .ok (.getfield 85, 3) := by decide +kernel
theorem dX3_deferred_12 : decode cX3_deferred 12 = .ok (.iadd, 1) := by decide +kernel
theorem dX3_deferred_13 : decode cX3_deferred 13 = .ok (.laload, 1) := by decide +kernel
theorem dX3_deferred_14 : decode cX3_deferred 14 = .ok (.lstore_n 3, 1) := by decide +kernel
theorem dX3_deferred_15 : decode cX3_deferred 15 = .ok (.iconst 0, 1) := by decide +kernel
theorem dX3_deferred_16 : decode cX3_deferred 16 = .ok (.istore 5, 2) := by decide +kernel
theorem dX3_deferred_18 : decode cX3_deferred 18 = .ok (.iload 5, 2) := by decide +kernel
theorem dX3_deferred_20 : decode cX3_deferred 20 = .ok (.iload_n 2, 1) := by decide +kernel
theorem dX3_deferred_21 : decode cX3_deferred 21 = .ok (.if_icmp .ge 59, 3) := by decide +kernel
theorem dX3_deferred_24 : decode cX3_deferred 24 = .ok (.aload_n 0, 1) := by decide +kernel
theorem dX3_deferred_25 : decode cX3_deferred 25 = .ok (.getfield 28, 3) := by decide +kernel
theorem dX3_deferred_28 : decode cX3_deferred 28 = .ok (.iload 5, 2) := by decide +kernel
theorem dX3_deferred_30 : decode cX3_deferred 30 = .ok (.iaload, 1) := by decide +kernel
theorem dX3_deferred_31 : decode cX3_deferred 31 = .ok (.iload_n 1, 1) := by decide +kernel
theorem dX3_deferred_32 : decode cX3_deferred 32 = .ok (.if_icmp .ne 42, 3) := by decide +kernel
theorem dX3_deferred_35 : decode cX3_deferred 35 = .ok (.aload_n 0, 1) := by decide +kernel
theorem dX3_deferred_36 : decode cX3_deferred 36 = .ok (.getfield 31, 3) := by decide +kernel
theorem dX3_deferred_39 : decode cX3_deferred 39 = .ok (.iload 5, 2) := by decide +kernel
theorem dX3_deferred_41 : decode cX3_deferred 41 = .ok (.iaload, 1) := by decide +kernel
theorem dX3_deferred_42 : decode cX3_deferred 42 = .ok (.iconst 2, 1) := by decide +kernel
theorem dX3_deferred_43 : decode cX3_deferred 43 = .ok (.if_icmp .ne 31, 3) := by decide +kernel
theorem dX3_deferred_46 : decode cX3_deferred 46 = .ok (.lload_n 3, 1) := by decide +kernel
theorem dX3_deferred_47 : decode cX3_deferred 47 = .ok (.lload_n 3, 1) := by decide +kernel
theorem dX3_deferred_48 : decode cX3_deferred 48 = .ok (.aload_n 0, 1) := by decide +kernel
theorem dX3_deferred_49 : decode cX3_deferred 49 = .ok (.getfield 34, 3) := by decide +kernel
theorem dX3_deferred_52 : decode cX3_deferred 52 = .ok (.iload 5, 2) := by decide +kernel
theorem dX3_deferred_54 : decode cX3_deferred 54 = .ok (.iaload, 1) := by decide +kernel
theorem dX3_deferred_55 : decode cX3_deferred 55 = .ok (.i2l, 1) := by decide +kernel
theorem dX3_deferred_56 : decode cX3_deferred 56 = .ok (.lcmp, 1) := by decide +kernel
theorem dX3_deferred_57 : decode cX3_deferred 57 = .ok (.ifCond .ge 7, 3) := by decide +kernel
theorem dX3_deferred_60 : decode cX3_deferred 60 = .ok (.lload_n 3, 1) := by decide +kernel
theorem dX3_deferred_61 : decode cX3_deferred 61 = .ok (.goto 11, 3) := by decide +kernel
theorem dX3_deferred_64 : decode cX3_deferred 64 = .ok (.aload_n 0, 1) := by decide +kernel
theorem dX3_deferred_65 : decode cX3_deferred 65 = .ok (.getfield 34, 3) := by decide +kernel
theorem dX3_deferred_68 : decode cX3_deferred 68 = .ok (.iload 5, 2) := by decide +kernel
theorem dX3_deferred_70 : decode cX3_deferred 70 = .ok (.iaload, 1) := by decide +kernel
theorem dX3_deferred_71 : decode cX3_deferred 71 = .ok (.i2l, 1) := by decide +kernel
theorem dX3_deferred_72 : decode cX3_deferred 72 = .ok (.lsub, 1) := by decide +kernel
theorem dX3_deferred_73 : decode cX3_deferred 73 = .ok (.lstore_n 3, 1) := by decide +kernel
theorem dX3_deferred_74 : decode cX3_deferred 74 = .ok (.iinc 5 1, 3) := by decide +kernel
theorem dX3_deferred_77 : decode cX3_deferred 77 = .ok (.goto (-59), 3) := by decide +kernel
theorem dX3_deferred_80 : decode cX3_deferred 80 = .ok (.lload_n 3, 1) := by decide +kernel
theorem dX3_deferred_81 : decode cX3_deferred 81 = .ok (.lreturn, 1) := by decide +kernel
set_option maxRecDepth 20000 in
theorem ggX3_sumOf_X3_upTo : GoodIn wsX3_sumOf wsX3_upTo := goodIn_r _ [10, 1, 2, 5, 11, 12, 13, 14, 15, 9, 16, 17, 18, 19, 20, 21, 22, 23, 24, 25, 26, 27, 28, 29, 30, 31, 56, 57, 58, 59, 60, 61, 62, 63, 64, 65, 66, 67, 68, 69, 70, 71, 72, 73, 74] (by decide +kernel) (by decide +kernel)
set_option maxRecDepth 20000 in
theorem gX3_sumOf_X3_upTo : GoodIn wsX3_sumOf (wsV RX3 108 RX3 yX3_upTo wsX3_upTo) := goodIn_app (goodIn_of _ (by decide +kernel)) ggX3_sumOf_X3_upTo
set_option maxRecDepth 20000 in
theorem ggX3_sumOf_X3_lay : GoodIn wsX3_sumOf wsX3_lay := goodIn_r _ [35, 3, 36, 37, 38, 26, 4, 1, 2, 39, 40, 41, 42, 6, 7, 8, 9, 10, 5, 11, 12, 13, 14, 15, 16, 17, 18, 19, 20, 21, 22, 23, 24, 25, 27, 28, 29, 30, 31, 43, 44, 45, 46, 47, 48, 49, 50, 51, 56, 57, 58, 59, 60, 61, 62, 63, 64, 65, 66, 67, 68, 69, 70, 71, 72, 73, 74] (by decide +kernel) (by decide +kernel)
set_option maxRecDepth 20000 in
theorem gX3_sumOf_X3_lay : GoodIn wsX3_sumOf (wsV RX3 118 RX3 yX3_lay wsX3_lay) := goodIn_app (goodIn_of _ (by decide +kernel)) ggX3_sumOf_X3_lay
set_option maxRecDepth 20000 in
theorem ggX3_sumOf_X3_deferred : GoodIn wsX3_sumOf wsX3_deferred := goodIn_r _ [55, 40, 3, 1, 2, 5, 56, 57, 58, 59, 60, 61, 62, 63, 64, 65, 66, 67, 68, 69, 70, 71, 72, 73, 74] (by decide +kernel) (by decide +kernel)
set_option maxRecDepth 20000 in
theorem gX3_sumOf_X3_deferred : GoodIn wsX3_sumOf (wsV RX3 121 RX3 yX3_deferred wsX3_deferred) := goodIn_app (goodIn_of _ (by decide +kernel)) ggX3_sumOf_X3_deferred
set_option maxRecDepth 20000 in
theorem ggX3_sumOf_X3_parted : GoodIn wsX3_sumOf wsX3_parted := goodIn_r _ [30, 5, 12, 31, 26, 56, 57, 58, 59, 60, 61, 62, 63, 64, 65, 66, 67, 68, 69, 70, 71, 72, 73, 74] (by decide +kernel) (by decide +kernel)
set_option maxRecDepth 20000 in
theorem gX3_sumOf_X3_parted : GoodIn wsX3_sumOf (wsV RX3 102 RX3 yX3_parted wsX3_parted) := goodIn_app (goodIn_of _ (by decide +kernel)) ggX3_sumOf_X3_parted
theorem dX3_sumOf_0 : decode cX3_sumOf 0 = .ok (.aload_n 0, 1) := by decide +kernel
theorem dX3_sumOf_1 : decode cX3_sumOf 1 = .ok (.getfield 28, 3) := by decide +kernel
theorem dX3_sumOf_4 : decode cX3_sumOf 4 = .ok (.iload_n 1, 1) := by decide +kernel
theorem dX3_sumOf_5 : decode cX3_sumOf 5 = .ok (.iaload, 1) := by decide +kernel
theorem dX3_sumOf_6 : decode cX3_sumOf 6 = .ok (.istore_n 2, 1) := by decide +kernel
theorem dX3_sumOf_7 : decode cX3_sumOf 7 = .ok (.aload_n 0, 1) := by decide +kernel
theorem dX3_sumOf_8 : decode cX3_sumOf 8 = .ok (.getfield 31, 3) := by decide +kernel
theorem dX3_sumOf_11 : decode cX3_sumOf 11 = .ok (.iload_n 1, 1) := by decide +kernel
theorem dX3_sumOf_12 : decode cX3_sumOf 12 = .ok (.iaload, 1) := by decide +kernel
theorem dX3_sumOf_13 : decode cX3_sumOf 13 = .ok (.ifCond .eq 13, 3) := by decide +kernel
theorem dX3_sumOf_16 : decode cX3_sumOf 16 = .ok (.aload_n 0, 1) := by decide +kernel
theorem dX3_sumOf_17 : decode cX3_sumOf 17 = .ok (.getfield 31, 3) := by decide +kernel
theorem dX3_sumOf_20 : decode cX3_sumOf 20 = .ok (.iload_n 1, 1) := by decide +kernel
theorem dX3_sumOf_21 : decode cX3_sumOf 21 = .ok (.iaload, 1) := by decide +kernel
theorem dX3_sumOf_22 : decode cX3_sumOf 22 = .ok (.iconst 3, 1) := by decide +kernel
theorem dX3_sumOf_23 : decode cX3_sumOf 23 = .ok (.if_icmp .ne 13, 3) := by decide +kernel
theorem dX3_sumOf_26 : decode cX3_sumOf 26 = .ok (.aload_n 0, 1) := by decide +kernel
theorem dX3_sumOf_27 : decode cX3_sumOf 27 = .ok (.iload_n 1, 1) := by decide +kernel
theorem dX3_sumOf_28 : decode cX3_sumOf 28 = .ok (.aload_n 0, 1) := by decide +kernel
theorem dX3_sumOf_29 : decode cX3_sumOf 29 = .ok (.getfield 85, 3) := by decide +kernel
theorem dX3_sumOf_32 : decode cX3_sumOf 32 = .ok (.invokevirtual 108, 3) := by decide +kernel
theorem dX3_sumOf_35 : decode cX3_sumOf 35 = .ok (.lreturn, 1) := by decide +kernel
theorem dX3_sumOf_36 : decode cX3_sumOf 36 = .ok (.aload_n 0, 1) := by decide +kernel
theorem dX3_sumOf_37 : decode cX3_sumOf 37 = .ok (.invokevirtual 118, 3) := by decide +kernel
theorem dX3_sumOf_40 : decode cX3_sumOf 40 = .ok (.aload_n 0, 1) := by decide +kernel
theorem dX3_sumOf_41 : decode cX3_sumOf 41 = .ok (.getfield 31, 3) := by decide +kernel
theorem dX3_sumOf_44 : decode cX3_sumOf 44 = .ok (.iload_n 1, 1) := by decide +kernel
theorem dX3_sumOf_45 : decode cX3_sumOf 45 = .ok (.iaload, 1) := by decide +kernel
theorem dX3_sumOf_46 : decode cX3_sumOf 46 = .ok (.iconst 1, 1) := by decide +kernel
theorem dX3_sumOf_47 : decode cX3_sumOf 47 = .ok (.if_icmp .ne 18, 3) := by decide +kernel
theorem dX3_sumOf_50 : decode cX3_sumOf 50 = .ok (.aload_n 0, 1) := by decide +kernel
theorem dX3_sumOf_51 : decode cX3_sumOf 51 = .ok (.aload_n 0, 1) := by decide +kernel
theorem dX3_sumOf_52 : decode cX3_sumOf 52 = .ok (.iload_n 2, 1) := by decide +kernel
theorem dX3_sumOf_53 : decode cX3_sumOf 53 = .ok (.aload_n 0, 1) := by decide +kernel
theorem dX3_sumOf_54 : decode cX3_sumOf 54 = .ok (.getfield 81, 3) := by decide +kernel
theorem dX3_sumOf_57 : decode cX3_sumOf 57 = .ok (.invokevirtual 121, 3) := by decide +kernel
theorem dX3_sumOf_60 : decode cX3_sumOf 60 = .ok (.iload_n 1, 1) := by decide +kernel
theorem dX3_sumOf_61 : decode cX3_sumOf 61 = .ok (.invokevirtual 102, 3) := by decide +kernel
theorem dX3_sumOf_64 : decode cX3_sumOf 64 = .ok (.lreturn, 1) := by decide +kernel
theorem dX3_sumOf_65 : decode cX3_sumOf 65 = .ok (.aload_n 0, 1) := by decide +kernel
theorem dX3_sumOf_66 : decode cX3_sumOf 66 = .ok (.iload_n 2, 1) := by decide +kernel
theorem dX3_sumOf_67 : decode cX3_sumOf 67 = .ok (.iload_n 1, 1) := by decide +kernel
theorem dX3_sumOf_68 : decode cX3_sumOf 68 = .ok (.invokevirtual 121, 3) := by decide +kernel
theorem dX3_sumOf_71 : decode cX3_sumOf 71 = .ok (.lstore_n 3, 1) := by decide +kernel
theorem dX3_sumOf_72 : decode cX3_sumOf 72 = .ok (.lload_n 3, 1) := by decide +kernel
theorem dX3_sumOf_73 : decode cX3_sumOf 73 = .ok (.aload_n 0, 1) := by decide +kernel
theorem dX3_sumOf_74 : decode cX3_sumOf 74 = .ok (.getfield 34, 3) := by decide +kernel
theorem dX3_sumOf_77 : decode cX3_sumOf 77 = .ok (.iload_n 1, 1) := by decide +kernel
theorem dX3_sumOf_78 : decode cX3_sumOf 78 = .ok (.iaload, 1) := by decide +kernel
theorem dX3_sumOf_79 : decode cX3_sumOf 79 = .ok (.i2l, 1) := by decide +kernel
theorem dX3_sumOf_80 : decode cX3_sumOf 80 = .ok (.lcmp, 1) := by decide +kernel
theorem dX3_sumOf_81 : decode cX3_sumOf 81 = .ok (.ifCond .ge 7, 3) := by decide +kernel
theorem dX3_sumOf_84 : decode cX3_sumOf 84 = .ok (.lload_n 3, 1) := by decide +kernel
theorem dX3_sumOf_85 : decode cX3_sumOf 85 = .ok (.goto 10, 3) := by decide +kernel
theorem dX3_sumOf_88 : decode cX3_sumOf 88 = .ok (.aload_n 0, 1) := by decide +kernel
theorem dX3_sumOf_89 : decode cX3_sumOf 89 = .ok (.getfield 34, 3) := by decide +kernel
theorem dX3_sumOf_92 : decode cX3_sumOf 92 = .ok (.iload_n 1, 1) := by decide +kernel
theorem dX3_sumOf_93 : decode cX3_sumOf 93 = .ok (.iaload, 1) := by decide +kernel
theorem dX3_sumOf_94 : decode cX3_sumOf 94 = .ok (.i2l, 1) := by decide +kernel
theorem dX3_sumOf_95 : decode cX3_sumOf 95 = .ok (.lreturn, 1) := by decide +kernel
set_option maxRecDepth 20000 in
theorem ggX3_isSharer_X3_in : GoodIn wsX3_isSharer wsX3_in := goodIn_r _ [6] (by decide +kernel) (by decide +kernel)
set_option maxRecDepth 20000 in
theorem gX3_isSharer_X3_in : GoodIn wsX3_isSharer (va_wsS RX3 60 yX3_in wsX3_in) := goodIn_app (goodIn_of _ (by decide +kernel)) ggX3_isSharer_X3_in
theorem dX3_isSharer_0 : decode cX3_isSharer 0 = .ok (.aload_n 0, 1) := by decide +kernel
theorem dX3_isSharer_1 : decode cX3_isSharer 1 = .ok (.iload_n 1, 1) := by decide +kernel
theorem dX3_isSharer_2 : decode cX3_isSharer 2 = .ok (.iconst 0, 1) := by decide +kernel
theorem dX3_isSharer_3 : decode cX3_isSharer 3 = .ok (.aload_n 0, 1) := by decide +kernel
theorem dX3_isSharer_4 : decode cX3_isSharer 4 = .ok (.getfield 81, 3) := by decide +kernel
theorem dX3_isSharer_7 : decode cX3_isSharer 7 = .ok (.iconst 1, 1) := by decide +kernel
theorem dX3_isSharer_8 : decode cX3_isSharer 8 = .ok (.isub, 1) := by decide +kernel
theorem dX3_isSharer_9 : decode cX3_isSharer 9 = .ok (.invokestatic 60, 3) := by decide +kernel
theorem dX3_isSharer_12 : decode cX3_isSharer 12 = .ok (.ifCond .eq 7, 3) := by decide +kernel
theorem dX3_isSharer_15 : decode cX3_isSharer 15 = .ok (.iconst 0, 1) := by decide +kernel
theorem dX3_isSharer_16 : decode cX3_isSharer 16 = .ok (.goto 4, 3) := by decide +kernel
theorem dX3_isSharer_19 : decode cX3_isSharer 19 = .ok (.iconst 1, 1) := by decide +kernel
theorem dX3_isSharer_20 : decode cX3_isSharer 20 = .ok (.putfield 56, 3) := by decide +kernel
theorem dX3_isSharer_23 : decode cX3_isSharer 23 = .ok (.aload_n 0, 1) := by decide +kernel
theorem dX3_isSharer_24 : decode cX3_isSharer 24 = .ok (.getfield 56, 3) := by decide +kernel
theorem dX3_isSharer_27 : decode cX3_isSharer 27 = .ok (.ifCond .ne 7, 3) := by decide +kernel
theorem dX3_isSharer_30 : decode cX3_isSharer 30 = .ok (.iconst 1, 1) := by decide +kernel
theorem dX3_isSharer_31 : decode cX3_isSharer 31 = .ok (.goto 4, 3) := by decide +kernel
theorem dX3_isSharer_34 : decode cX3_isSharer 34 = .ok (.iconst 0, 1) := by decide +kernel
theorem dX3_isSharer_35 : decode cX3_isSharer 35 = .ok (.ireturn, 1) := by decide +kernel
set_option maxRecDepth 20000 in
theorem ggX3_pay_X3_isSharer : GoodIn wsX3_pay wsX3_isSharer := goodIn_r _ [6, 7, 8, 9, 10, 5, 11, 73, 74, 75, 76, 77, 78, 79, 80, 81, 82, 83, 84, 85, 86, 87, 88, 89, 90, 91] (by decide +kernel) (by decide +kernel)
set_option maxRecDepth 20000 in
theorem gX3_pay_X3_isSharer : GoodIn wsX3_pay (wsV RX3 124 RX3 yX3_isSharer wsX3_isSharer) := goodIn_app (goodIn_of _ (by decide +kernel)) ggX3_pay_X3_isSharer
set_option maxRecDepth 20000 in
theorem ggX3_pay_X3_sumOf : GoodIn wsX3_pay wsX3_sumOf := goodIn_r _ [15, 16, 17, 18, 7, 19, 20, 21, 22, 5, 23, 24, 25, 26, 27, 28, 29, 30, 31, 32, 33, 34, 35, 36, 37, 38, 39, 40, 41, 42, 43, 44, 45, 46, 47, 48, 49, 50, 51, 52, 53, 54, 55, 56, 57, 58, 59, 60, 61, 62, 63, 64, 65, 66, 67, 68, 73, 74, 75, 76, 77, 78, 79, 80, 81, 82, 83, 84, 85, 86, 87, 88, 89, 90, 91] (by decide +kernel) (by decide +kernel)
set_option maxRecDepth 20000 in
theorem gX3_pay_X3_sumOf : GoodIn wsX3_pay (wsV RX3 127 RX3 yX3_sumOf wsX3_sumOf) := goodIn_app (goodIn_of _ (by decide +kernel)) ggX3_pay_X3_sumOf
set_option maxRecDepth 20000 in
theorem ggX3_pay_X3_fails : GoodIn wsX3_pay wsX3_fails := goodIn_r _ [72, 8, 73, 74, 75, 76, 77, 78, 79, 80, 81, 82, 83, 84, 85, 86, 87, 88, 89, 90, 91] (by decide +kernel) (by decide +kernel)
set_option maxRecDepth 20000 in
theorem gX3_pay_X3_fails : GoodIn wsX3_pay (wsV RX3 68 RX3 yX3_fails wsX3_fails) := goodIn_app (goodIn_of _ (by decide +kernel)) ggX3_pay_X3_fails
theorem dX3_pay_0 : decode cX3_pay 0 = .ok (.aload_n 0, 1) := by decide +kernel
theorem dX3_pay_1 : decode cX3_pay 1 = .ok (.iload_n 1, 1) := by decide +kernel
theorem dX3_pay_2 : decode cX3_pay 2 = .ok (.invokevirtual 124, 3) := by decide +kernel
theorem dX3_pay_5 : decode cX3_pay 5 = .ok (.ifCond .ne 5, 3) := by decide +kernel
theorem dX3_pay_8 : decode cX3_pay 8 = .ok (.iconst 0, 1) := by decide +kernel
theorem dX3_pay_9 : decode cX3_pay 9 = .ok (.ireturn, 1) := by decide +kernel
theorem dX3_pay_10 : decode cX3_pay 10 = .ok (.aload_n 0, 1) := by decide +kernel
theorem dX3_pay_11 : decode cX3_pay 11 = .ok (.iload_n 1, 1) := by decide +kernel
theorem dX3_pay_12 : decode cX3_pay 12 = .ok (.invokevirtual 127, 3) := by decide +kernel
theorem dX3_pay_15 : decode cX3_pay 15 = .ok (.l2i, 1) := by decide +kernel
theorem dX3_pay_16 : decode cX3_pay 16 = .ok (.aload_n 0, 1) := by decide +kernel
theorem dX3_pay_17 : decode cX3_pay 17 = .ok (.getfield 43, 3) := by decide +kernel
theorem dX3_pay_20 : decode cX3_pay 20 = .ok (.iload_n 1, 1) := by decide +kernel
theorem dX3_pay_21 : decode cX3_pay 21 = .ok (.iaload, 1) := by decide +kernel
theorem dX3_pay_22 : decode cX3_pay 22 = .ok (.isub, 1) := by decide +kernel
theorem dX3_pay_23 : decode cX3_pay 23 = .ok (.istore_n 2, 1) := by decide +kernel
theorem dX3_pay_24 : decode cX3_pay 24 = .ok (.iload_n 2, 1) := by decide +kernel
theorem dX3_pay_25 : decode cX3_pay 25 = .ok (.ifCond .gt 9, 3) := by decide +kernel
theorem dX3_pay_28 : decode cX3_pay 28 = .ok (.aload_n 0, 1) := by decide +kernel
theorem dX3_pay_29 : decode cX3_pay 29 = .ok (.iconst 2, 1) := by decide +kernel
theorem dX3_pay_30 : decode cX3_pay 30 = .ok (.invokevirtual 68, 3) := by decide +kernel
theorem dX3_pay_33 : decode cX3_pay 33 = .ok (.ireturn, 1) := by decide +kernel
theorem dX3_pay_34 : decode cX3_pay 34 = .ok (.aload_n 0, 1) := by decide +kernel
theorem dX3_pay_35 : decode cX3_pay 35 = .ok (.getfield 43, 3) := by decide +kernel
theorem dX3_pay_38 : decode cX3_pay 38 = .ok (.iload_n 1, 1) := by decide +kernel
theorem dX3_pay_39 : decode cX3_pay 39 = .ok (.dup2, 1) := by decide +kernel
theorem dX3_pay_40 : decode cX3_pay 40 = .ok (.iaload, 1) := by decide +kernel
theorem dX3_pay_41 : decode cX3_pay 41 = .ok (.iload_n 2, 1) := by decide +kernel
theorem dX3_pay_42 : decode cX3_pay 42 = .ok (.iadd, 1) := by decide +kernel
theorem dX3_pay_43 : decode cX3_pay 43 = .ok (.iastore, 1) := by decide +kernel
theorem dX3_pay_44 : decode cX3_pay 44 = .ok (.iload_n 2, 1) := by decide +kernel
theorem dX3_pay_45 : decode cX3_pay 45 = .ok (.ireturn, 1) := by decide +kernel
theorem dX3_year_0 : decode cX3_year 0 = .ok (.aload_n 0, 1) := by decide +kernel
theorem dX3_year_1 : decode cX3_year 1 = .ok (.iconst 0, 1) := by decide +kernel
theorem dX3_year_2 : decode cX3_year 2 = .ok (.putfield 56, 3) := by decide +kernel
theorem dX3_year_5 : decode cX3_year 5 = .ok (.aload_n 0, 1) := by decide +kernel
theorem dX3_year_6 : decode cX3_year 6 = .ok (.getfield 85, 3) := by decide +kernel
theorem dX3_year_9 : decode cX3_year 9 = .ok (.ireturn, 1) := by decide +kernel
set_option maxRecDepth 20000 in
theorem ggX3_gross_X3_isPicture : GoodIn wsX3_gross wsX3_isPicture := goodIn_r _ [6, 7, 8, 5, 9] (by decide +kernel) (by decide +kernel)
set_option maxRecDepth 20000 in
theorem gX3_gross_X3_isPicture : GoodIn wsX3_gross (va_wsS RX3 64 yX3_isPicture wsX3_isPicture) := goodIn_app (goodIn_of _ (by decide +kernel)) ggX3_gross_X3_isPicture
set_option maxRecDepth 20000 in
theorem ggX3_gross_X3_fails : GoodIn wsX3_gross wsX3_fails := goodIn_r _ [13, 1, 22, 23, 24, 25, 26, 27, 28, 29, 30, 31, 32, 33, 34, 35, 36, 37, 38, 39, 40] (by decide +kernel) (by decide +kernel)
set_option maxRecDepth 20000 in
theorem gX3_gross_X3_fails : GoodIn wsX3_gross (wsV RX3 68 RX3 yX3_fails wsX3_fails) := goodIn_app (goodIn_of _ (by decide +kernel)) ggX3_gross_X3_fails
set_option maxRecDepth 20000 in
theorem ggX3_gross_X3_grossOf : GoodIn wsX3_gross wsX3_grossOf := goodIn_r _ [17, 18, 19, 20, 5, 21, 22, 23, 24, 25, 26, 27, 28, 29, 30, 31, 32, 33, 34, 35, 36, 37, 38, 39, 40] (by decide +kernel) (by decide +kernel)
set_option maxRecDepth 20000 in
theorem gX3_gross_X3_grossOf : GoodIn wsX3_gross (wsV RX3 93 RX3 yX3_grossOf wsX3_grossOf) := goodIn_app (goodIn_of _ (by decide +kernel)) ggX3_gross_X3_grossOf
theorem dX3_gross_0 : decode cX3_gross 0 = .ok (.aload_n 0, 1) := by decide +kernel
theorem dX3_gross_1 : decode cX3_gross 1 = .ok (.iconst 0, 1) := by decide +kernel
theorem dX3_gross_2 : decode cX3_gross 2 = .ok (.putfield 56, 3) := by decide +kernel
theorem dX3_gross_5 : decode cX3_gross 5 = .ok (.iload_n 1, 1) := by decide +kernel
theorem dX3_gross_6 : decode cX3_gross 6 = .ok (.invokestatic 64, 3) := by decide +kernel
theorem dX3_gross_9 : decode cX3_gross 9 = .ok (.ifCond .ne 9, 3) := by decide +kernel
theorem dX3_gross_12 : decode cX3_gross 12 = .ok (.aload_n 0, 1) := by decide +kernel
theorem dX3_gross_13 : decode cX3_gross 13 = .ok (.iconst 1, 1) := by decide +kernel
theorem dX3_gross_14 : decode cX3_gross 14 = .ok (.invokevirtual 68, 3) := by decide +kernel
theorem dX3_gross_17 : decode cX3_gross 17 = .ok (.ireturn, 1) := by decide +kernel
theorem dX3_gross_18 : decode cX3_gross 18 = .ok (.lconst 0, 1) := by decide +kernel
theorem dX3_gross_19 : decode cX3_gross 19 = .ok (.lstore_n 2, 1) := by decide +kernel
theorem dX3_gross_20 : decode cX3_gross 20 = .ok (.iconst 0, 1) := by decide +kernel
theorem dX3_gross_21 : decode cX3_gross 21 = .ok (.istore 4, 2) := by decide +kernel
theorem dX3_gross_23 : decode cX3_gross 23 = .ok (.iload 4, 2) := by decide +kernel
theorem dX3_gross_25 : decode cX3_gross 25 = .ok (.aload_n 0, 1) := by decide +kernel
theorem dX3_gross_26 : decode cX3_gross 26 = .ok (.getfield 85, 3) := by decide +kernel
theorem dX3_gross_29 : decode cX3_gross 29 = .ok (.if_icmp .gt 19, 3) := by decide +kernel
theorem dX3_gross_32 : decode cX3_gross 32 = .ok (.lload_n 2, 1) := by decide +kernel
theorem dX3_gross_33 : decode cX3_gross 33 = .ok (.aload_n 0, 1) := by decide +kernel
theorem dX3_gross_34 : decode cX3_gross 34 = .ok (.iload_n 1, 1) := by decide +kernel
theorem dX3_gross_35 : decode cX3_gross 35 = .ok (.iload 4, 2) := by decide +kernel
theorem dX3_gross_37 : decode cX3_gross 37 = .ok (.invokevirtual 93, 3) := by decide +kernel
theorem dX3_gross_40 : decode cX3_gross 40 = .ok (.ladd, 1) := by decide +kernel
theorem dX3_gross_41 : decode cX3_gross 41 = .ok (.lstore_n 2, 1) := by decide +kernel
theorem dX3_gross_42 : decode cX3_gross 42 = .ok (.iinc 4 1, 3) := by decide +kernel
theorem dX3_gross_45 : decode cX3_gross 45 = .ok (.goto (-22), 3) := by decide +kernel
theorem dX3_gross_48 : decode cX3_gross 48 = .ok (.lload_n 2, 1) := by decide +kernel
theorem dX3_gross_49 : decode cX3_gross 49 = .ok (.l2i, 1) := by decide +kernel
theorem dX3_gross_50 : decode cX3_gross 50 = .ok (.ireturn, 1) := by decide +kernel
set_option maxRecDepth 20000 in
theorem ggX3_adjusted_X3_isPicture : GoodIn wsX3_adjusted wsX3_isPicture := goodIn_r _ [6, 7, 8, 5, 9] (by decide +kernel) (by decide +kernel)
set_option maxRecDepth 20000 in
theorem gX3_adjusted_X3_isPicture : GoodIn wsX3_adjusted (va_wsS RX3 64 yX3_isPicture wsX3_isPicture) := goodIn_app (goodIn_of _ (by decide +kernel)) ggX3_adjusted_X3_isPicture
set_option maxRecDepth 20000 in
theorem ggX3_adjusted_X3_fails : GoodIn wsX3_adjusted wsX3_fails := goodIn_r _ [13, 1, 28, 29, 30, 31, 32, 33, 34, 35, 36, 37, 38, 39, 40, 41, 42, 43, 44, 45, 46] (by decide +kernel) (by decide +kernel)
set_option maxRecDepth 20000 in
theorem gX3_adjusted_X3_fails : GoodIn wsX3_adjusted (wsV RX3 68 RX3 yX3_fails wsX3_fails) := goodIn_app (goodIn_of _ (by decide +kernel)) ggX3_adjusted_X3_fails
set_option maxRecDepth 20000 in
theorem ggX3_adjusted_X3_adjustedOf : GoodIn wsX3_adjusted wsX3_adjustedOf := goodIn_r _ [17, 18, 19, 20, 21, 22, 5, 23, 24, 25, 26, 27, 28, 29, 30, 31, 32, 33, 34, 35, 36, 37, 38, 39, 40, 41, 42, 43, 44, 45, 46] (by decide +kernel) (by decide +kernel)
set_option maxRecDepth 20000 in
theorem gX3_adjusted_X3_adjustedOf : GoodIn wsX3_adjusted (wsV RX3 99 RX3 yX3_adjustedOf wsX3_adjustedOf) := goodIn_app (goodIn_of _ (by decide +kernel)) ggX3_adjusted_X3_adjustedOf
theorem dX3_adjusted_0 : decode cX3_adjusted 0 = .ok (.aload_n 0, 1) := by decide +kernel
theorem dX3_adjusted_1 : decode cX3_adjusted 1 = .ok (.iconst 0, 1) := by decide +kernel
theorem dX3_adjusted_2 : decode cX3_adjusted 2 = .ok (.putfield 56, 3) := by decide +kernel
theorem dX3_adjusted_5 : decode cX3_adjusted 5 = .ok (.iload_n 1, 1) := by decide +kernel
theorem dX3_adjusted_6 : decode cX3_adjusted 6 = .ok (.invokestatic 64, 3) := by decide +kernel
theorem dX3_adjusted_9 : decode cX3_adjusted 9 = .ok (.ifCond .ne 9, 3) := by decide +kernel
theorem dX3_adjusted_12 : decode cX3_adjusted 12 = .ok (.aload_n 0, 1) := by decide +kernel
theorem dX3_adjusted_13 : decode cX3_adjusted 13 = .ok (.iconst 1, 1) := by decide +kernel
theorem dX3_adjusted_14 : decode cX3_adjusted 14 = .ok (.invokevirtual 68, 3) := by decide +kernel
theorem dX3_adjusted_17 : decode cX3_adjusted 17 = .ok (.ireturn, 1) := by decide +kernel
theorem dX3_adjusted_18 : decode cX3_adjusted 18 = .ok (.lconst 0, 1) := by decide +kernel
theorem dX3_adjusted_19 : decode cX3_adjusted 19 = .ok (.lstore_n 2, 1) := by decide +kernel
theorem dX3_adjusted_20 : decode cX3_adjusted 20 = .ok (.iconst 0, 1) := by decide +kernel
theorem dX3_adjusted_21 : decode cX3_adjusted 21 = .ok (.istore 4, 2) := by decide +kernel
theorem dX3_adjusted_23 : decode cX3_adjusted 23 = .ok (.iload 4, 2) := by decide +kernel
theorem dX3_adjusted_25 : decode cX3_adjusted 25 = .ok (.aload_n 0, 1) := by decide +kernel
theorem dX3_adjusted_26 : decode cX3_adjusted 26 = .ok (.getfield 85, 3) := by decide +kernel
theorem dX3_adjusted_29 : decode cX3_adjusted 29 = .ok (.if_icmp .gt 19, 3) := by decide +kernel
theorem dX3_adjusted_32 : decode cX3_adjusted 32 = .ok (.lload_n 2, 1) := by decide +kernel
theorem dX3_adjusted_33 : decode cX3_adjusted 33 = .ok (.aload_n 0, 1) := by decide +kernel
theorem dX3_adjusted_34 : decode cX3_adjusted 34 = .ok (.iload_n 1, 1) := by decide +kernel
theorem dX3_adjusted_35 : decode cX3_adjusted 35 = .ok (.iload 4, 2) := by decide +kernel
theorem dX3_adjusted_37 : decode cX3_adjusted 37 = .ok (.invokevirtual 99, 3) := by decide +kernel
theorem dX3_adjusted_40 : decode cX3_adjusted 40 = .ok (.ladd, 1) := by decide +kernel
theorem dX3_adjusted_41 : decode cX3_adjusted 41 = .ok (.lstore_n 2, 1) := by decide +kernel
theorem dX3_adjusted_42 : decode cX3_adjusted 42 = .ok (.iinc 4 1, 3) := by decide +kernel
theorem dX3_adjusted_45 : decode cX3_adjusted 45 = .ok (.goto (-22), 3) := by decide +kernel
theorem dX3_adjusted_48 : decode cX3_adjusted 48 = .ok (.lload_n 2, 1) := by decide +kernel
theorem dX3_adjusted_49 : decode cX3_adjusted 49 = .ok (.l2i, 1) := by decide +kernel
theorem dX3_adjusted_50 : decode cX3_adjusted 50 = .ok (.ireturn, 1) := by decide +kernel
set_option maxRecDepth 20000 in
theorem ggX3_fees_X3_isPicture : GoodIn wsX3_fees wsX3_isPicture := goodIn_r _ [6, 7, 8, 5, 9] (by decide +kernel) (by decide +kernel)
set_option maxRecDepth 20000 in
theorem gX3_fees_X3_isPicture : GoodIn wsX3_fees (va_wsS RX3 64 yX3_isPicture wsX3_isPicture) := goodIn_app (goodIn_of _ (by decide +kernel)) ggX3_fees_X3_isPicture
set_option maxRecDepth 20000 in
theorem ggX3_fees_X3_fails : GoodIn wsX3_fees wsX3_fails := goodIn_r _ [13, 1, 24, 25, 26, 27, 28, 29, 30, 31, 32, 33, 34, 35, 36, 37, 38, 39, 40, 41, 42] (by decide +kernel) (by decide +kernel)
set_option maxRecDepth 20000 in
theorem gX3_fees_X3_fails : GoodIn wsX3_fees (wsV RX3 68 RX3 yX3_fails wsX3_fails) := goodIn_app (goodIn_of _ (by decide +kernel)) ggX3_fees_X3_fails
set_option maxRecDepth 20000 in
theorem ggX3_fees_X3_feesOf : GoodIn wsX3_fees wsX3_feesOf := goodIn_r _ [17, 18, 19, 20, 21, 22, 5, 23, 24, 25, 26, 27, 28, 29, 30, 31, 32, 33, 34, 35, 36, 37, 38, 39, 40, 41, 42] (by decide +kernel) (by decide +kernel)
set_option maxRecDepth 20000 in
theorem gX3_fees_X3_feesOf : GoodIn wsX3_fees (wsV RX3 111 RX3 yX3_feesOf wsX3_feesOf) := goodIn_app (goodIn_of _ (by decide +kernel)) ggX3_fees_X3_feesOf
theorem dX3_fees_0 : decode cX3_fees 0 = .ok (.aload_n 0, 1) := by decide +kernel
theorem dX3_fees_1 : decode cX3_fees 1 = .ok (.iconst 0, 1) := by decide +kernel
theorem dX3_fees_2 : decode cX3_fees 2 = .ok (.putfield 56, 3) := by decide +kernel
theorem dX3_fees_5 : decode cX3_fees 5 = .ok (.iload_n 1, 1) := by decide +kernel
theorem dX3_fees_6 : decode cX3_fees 6 = .ok (.invokestatic 64, 3) := by decide +kernel
theorem dX3_fees_9 : decode cX3_fees 9 = .ok (.ifCond .ne 9, 3) := by decide +kernel
theorem dX3_fees_12 : decode cX3_fees 12 = .ok (.aload_n 0, 1) := by decide +kernel
theorem dX3_fees_13 : decode cX3_fees 13 = .ok (.iconst 1, 1) := by decide +kernel
theorem dX3_fees_14 : decode cX3_fees 14 = .ok (.invokevirtual 68, 3) := by decide +kernel
theorem dX3_fees_17 : decode cX3_fees 17 = .ok (.ireturn, 1) := by decide +kernel
theorem dX3_fees_18 : decode cX3_fees 18 = .ok (.lconst 0, 1) := by decide +kernel
theorem dX3_fees_19 : decode cX3_fees 19 = .ok (.lstore_n 2, 1) := by decide +kernel
theorem dX3_fees_20 : decode cX3_fees 20 = .ok (.iconst 0, 1) := by decide +kernel
theorem dX3_fees_21 : decode cX3_fees 21 = .ok (.istore 4, 2) := by decide +kernel
theorem dX3_fees_23 : decode cX3_fees 23 = .ok (.iload 4, 2) := by decide +kernel
theorem dX3_fees_25 : decode cX3_fees 25 = .ok (.aload_n 0, 1) := by decide +kernel
theorem dX3_fees_26 : decode cX3_fees 26 = .ok (.getfield 85, 3) := by decide +kernel
theorem dX3_fees_29 : decode cX3_fees 29 = .ok (.if_icmp .gt 19, 3) := by decide +kernel
theorem dX3_fees_32 : decode cX3_fees 32 = .ok (.lload_n 2, 1) := by decide +kernel
theorem dX3_fees_33 : decode cX3_fees 33 = .ok (.aload_n 0, 1) := by decide +kernel
theorem dX3_fees_34 : decode cX3_fees 34 = .ok (.iload_n 1, 1) := by decide +kernel
theorem dX3_fees_35 : decode cX3_fees 35 = .ok (.iload 4, 2) := by decide +kernel
theorem dX3_fees_37 : decode cX3_fees 37 = .ok (.invokevirtual 111, 3) := by decide +kernel
theorem dX3_fees_40 : decode cX3_fees 40 = .ok (.ladd, 1) := by decide +kernel
theorem dX3_fees_41 : decode cX3_fees 41 = .ok (.lstore_n 2, 1) := by decide +kernel
theorem dX3_fees_42 : decode cX3_fees 42 = .ok (.iinc 4 1, 3) := by decide +kernel
theorem dX3_fees_45 : decode cX3_fees 45 = .ok (.goto (-22), 3) := by decide +kernel
theorem dX3_fees_48 : decode cX3_fees 48 = .ok (.lload_n 2, 1) := by decide +kernel
theorem dX3_fees_49 : decode cX3_fees 49 = .ok (.l2i, 1) := by decide +kernel
theorem dX3_fees_50 : decode cX3_fees 50 = .ok (.ireturn, 1) := by decide +kernel
set_option maxRecDepth 20000 in
theorem ggX3_isYear_X3_isPicture : GoodIn wsX3_isYear wsX3_isPicture := goodIn_r _ [6, 7, 8, 5, 9] (by decide +kernel) (by decide +kernel)
set_option maxRecDepth 20000 in
theorem gX3_isYear_X3_isPicture : GoodIn wsX3_isYear (va_wsS RX3 64 yX3_isPicture wsX3_isPicture) := goodIn_app (goodIn_of _ (by decide +kernel)) ggX3_isYear_X3_isPicture
set_option maxRecDepth 20000 in
theorem ggX3_isYear_X3_in : GoodIn wsX3_isYear wsX3_in := goodIn_r _ [9] (by decide +kernel) (by decide +kernel)
set_option maxRecDepth 20000 in
theorem gX3_isYear_X3_in : GoodIn wsX3_isYear (va_wsS RX3 60 yX3_in wsX3_in) := goodIn_app (goodIn_of _ (by decide +kernel)) ggX3_isYear_X3_in
theorem dX3_isYear_0 : decode cX3_isYear 0 = .ok (.aload_n 0, 1) := by decide +kernel
theorem dX3_isYear_1 : decode cX3_isYear 1 = .ok (.iload_n 1, 1) := by decide +kernel
theorem dX3_isYear_2 : decode cX3_isYear 2 = .ok (.invokestatic 64, 3) := by decide +kernel
theorem dX3_isYear_5 : decode cX3_isYear 5 = .ok (.ifCond .ne 7, 3) := by decide +kernel
theorem dX3_isYear_8 : decode cX3_isYear 8 = .ok (.iconst 1, 1) := by decide +kernel
theorem dX3_isYear_9 : decode cX3_isYear 9 = .ok (.goto 20, 3) := by decide +kernel
theorem dX3_isYear_12 : decode cX3_isYear 12 = .ok (.iload_n 2, 1) := by decide +kernel
theorem dX3_isYear_13 : decode cX3_isYear 13 = .ok (.iconst 0, 1) := by decide +kernel
theorem dX3_isYear_14 : decode cX3_isYear 14 = .ok (.aload_n 0, 1) := by decide +kernel
theorem dX3_isYear_15 : decode cX3_isYear 15 = .ok (.getfield 85, 3) := by decide +kernel
theorem dX3_isYear_18 : decode cX3_isYear 18 = .ok (.invokestatic 60, 3) := by decide +kernel
theorem dX3_isYear_21 : decode cX3_isYear 21 = .ok (.ifCond .ne 7, 3) := by decide +kernel
theorem dX3_isYear_24 : decode cX3_isYear 24 = .ok (.iconst 2, 1) := by decide +kernel
theorem dX3_isYear_25 : decode cX3_isYear 25 = .ok (.goto 4, 3) := by decide +kernel
theorem dX3_isYear_28 : decode cX3_isYear 28 = .ok (.iconst 0, 1) := by decide +kernel
theorem dX3_isYear_29 : decode cX3_isYear 29 = .ok (.putfield 56, 3) := by decide +kernel
theorem dX3_isYear_32 : decode cX3_isYear 32 = .ok (.aload_n 0, 1) := by decide +kernel
theorem dX3_isYear_33 : decode cX3_isYear 33 = .ok (.getfield 56, 3) := by decide +kernel
theorem dX3_isYear_36 : decode cX3_isYear 36 = .ok (.ifCond .ne 7, 3) := by decide +kernel
theorem dX3_isYear_39 : decode cX3_isYear 39 = .ok (.iconst 1, 1) := by decide +kernel
theorem dX3_isYear_40 : decode cX3_isYear 40 = .ok (.goto 4, 3) := by decide +kernel
theorem dX3_isYear_43 : decode cX3_isYear 43 = .ok (.iconst 0, 1) := by decide +kernel
theorem dX3_isYear_44 : decode cX3_isYear 44 = .ok (.ireturn, 1) := by decide +kernel
set_option maxRecDepth 20000 in
theorem ggX3_balance_X3_isYear : GoodIn wsX3_balance wsX3_isYear := goodIn_r _ [6, 7, 8, 9, 10, 5, 11, 12, 13, 14, 63, 64, 65, 66, 67, 68, 69, 70, 71, 72, 73, 74, 75, 76, 77, 78, 79, 80, 81] (by decide +kernel) (by decide +kernel)
set_option maxRecDepth 20000 in
theorem gX3_balance_X3_isYear : GoodIn wsX3_balance (wsV RX3 131 RX3 yX3_isYear wsX3_isYear) := goodIn_app (goodIn_of _ (by decide +kernel)) ggX3_balance_X3_isYear
set_option maxRecDepth 20000 in
theorem ggX3_balance_X3_lay : GoodIn wsX3_balance wsX3_lay := goodIn_r _ [18, 7, 1, 19, 20, 21, 22, 23, 24, 25, 26, 27, 28, 29, 30, 31, 5, 32, 33, 34, 35, 36, 37, 38, 39, 40, 41, 42, 43, 44, 45, 46, 47, 48, 49, 50, 51, 52, 53, 54, 55, 56, 57, 58, 59, 60, 61, 62, 63, 64, 65, 66, 67, 68, 69, 70, 71, 72, 73, 74, 75, 76, 77, 78, 79, 80, 81] (by decide +kernel) (by decide +kernel)
set_option maxRecDepth 20000 in
theorem gX3_balance_X3_lay : GoodIn wsX3_balance (wsV RX3 118 RX3 yX3_lay wsX3_lay) := goodIn_app (goodIn_of _ (by decide +kernel)) ggX3_balance_X3_lay
theorem dX3_balance_0 : decode cX3_balance 0 = .ok (.aload_n 0, 1) := by decide +kernel
theorem dX3_balance_1 : decode cX3_balance 1 = .ok (.iload_n 1, 1) := by decide +kernel
theorem dX3_balance_2 : decode cX3_balance 2 = .ok (.iload_n 2, 1) := by decide +kernel
theorem dX3_balance_3 : decode cX3_balance 3 = .ok (.invokevirtual 131, 3) := by decide +kernel
theorem dX3_balance_6 : decode cX3_balance 6 = .ok (.ifCond .ne 5, 3) := by decide +kernel
theorem dX3_balance_9 : decode cX3_balance 9 = .ok (.iconst 0, 1) := by decide +kernel
theorem dX3_balance_10 : decode cX3_balance 10 = .ok (.ireturn, 1) := by decide +kernel
theorem dX3_balance_11 : decode cX3_balance 11 = .ok (.aload_n 0, 1) := by decide +kernel
theorem dX3_balance_12 : decode cX3_balance 12 = .ok (.invokevirtual 118, 3) := by decide +kernel
theorem dX3_balance_15 : decode cX3_balance 15 = .ok (.aload_n 0, 1) := by decide +kernel
theorem dX3_balance_16 : decode cX3_balance 16 = .ok (.getfield 46, 3) := by decide +kernel
theorem dX3_balance_19 : decode cX3_balance 19 = .ok (.bipush 10, 2) := by decide +kernel
theorem dX3_balance_21 : decode cX3_balance 21 = .ok (.iload_n 1, 1) := by decide +kernel
theorem dX3_balance_22 : decode cX3_balance 22 = .ok (.imul, 1) := by decide +kernel
theorem dX3_balance_23 : decode cX3_balance 23 = .ok (.iload_n 2, 1) := by decide +kernel
theorem dX3_balance_24 : decode cX3_balance 24 = .ok (.iadd, 1) := by decide +kernel
theorem dX3_balance_25 : decode cX3_balance 25 = .ok (.laload, 1) := by decide +kernel
theorem dX3_balance_26 : decode cX3_balance 26 = .ok (.l2i, 1) := by decide +kernel
theorem dX3_balance_27 : decode cX3_balance 27 = .ok (.ireturn, 1) := by decide +kernel
set_option maxRecDepth 20000 in
theorem ggX3_profit_X3_isYear : GoodIn wsX3_profit wsX3_isYear := goodIn_r _ [6, 7, 8, 9, 10, 5, 11, 12, 13, 14, 63, 64, 65, 66, 67, 68, 69, 70, 71, 72, 73, 74, 75, 76, 77, 78, 79, 80, 81] (by decide +kernel) (by decide +kernel)
set_option maxRecDepth 20000 in
theorem gX3_profit_X3_isYear : GoodIn wsX3_profit (wsV RX3 131 RX3 yX3_isYear wsX3_isYear) := goodIn_app (goodIn_of _ (by decide +kernel)) ggX3_profit_X3_isYear
set_option maxRecDepth 20000 in
theorem ggX3_profit_X3_lay : GoodIn wsX3_profit wsX3_lay := goodIn_r _ [18, 7, 19, 20, 21, 22, 23, 24, 25, 26, 1, 27, 28, 29, 30, 31, 5, 32, 33, 34, 35, 36, 37, 38, 39, 40, 41, 42, 43, 44, 45, 46, 47, 48, 49, 50, 51, 52, 53, 54, 55, 56, 57, 58, 59, 60, 61, 62, 63, 64, 65, 66, 67, 68, 69, 70, 71, 72, 73, 74, 75, 76, 77, 78, 79, 80, 81] (by decide +kernel) (by decide +kernel)
set_option maxRecDepth 20000 in
theorem gX3_profit_X3_lay : GoodIn wsX3_profit (wsV RX3 118 RX3 yX3_lay wsX3_lay) := goodIn_app (goodIn_of _ (by decide +kernel)) ggX3_profit_X3_lay
theorem dX3_profit_0 : decode cX3_profit 0 = .ok (.aload_n 0, 1) := by decide +kernel
theorem dX3_profit_1 : decode cX3_profit 1 = .ok (.iload_n 1, 1) := by decide +kernel
theorem dX3_profit_2 : decode cX3_profit 2 = .ok (.iload_n 2, 1) := by decide +kernel
theorem dX3_profit_3 : decode cX3_profit 3 = .ok (.invokevirtual 131, 3) := by decide +kernel
theorem dX3_profit_6 : decode cX3_profit 6 = .ok (.ifCond .ne 5, 3) := by decide +kernel
theorem dX3_profit_9 : decode cX3_profit 9 = .ok (.iconst 0, 1) := by decide +kernel
theorem dX3_profit_10 : decode cX3_profit 10 = .ok (.ireturn, 1) := by decide +kernel
theorem dX3_profit_11 : decode cX3_profit 11 = .ok (.aload_n 0, 1) := by decide +kernel
theorem dX3_profit_12 : decode cX3_profit 12 = .ok (.invokevirtual 118, 3) := by decide +kernel
theorem dX3_profit_15 : decode cX3_profit 15 = .ok (.aload_n 0, 1) := by decide +kernel
theorem dX3_profit_16 : decode cX3_profit 16 = .ok (.getfield 50, 3) := by decide +kernel
theorem dX3_profit_19 : decode cX3_profit 19 = .ok (.bipush 10, 2) := by decide +kernel
theorem dX3_profit_21 : decode cX3_profit 21 = .ok (.iload_n 1, 1) := by decide +kernel
theorem dX3_profit_22 : decode cX3_profit 22 = .ok (.imul, 1) := by decide +kernel
theorem dX3_profit_23 : decode cX3_profit 23 = .ok (.iload_n 2, 1) := by decide +kernel
theorem dX3_profit_24 : decode cX3_profit 24 = .ok (.iadd, 1) := by decide +kernel
theorem dX3_profit_25 : decode cX3_profit 25 = .ok (.laload, 1) := by decide +kernel
theorem dX3_profit_26 : decode cX3_profit 26 = .ok (.l2i, 1) := by decide +kernel
theorem dX3_profit_27 : decode cX3_profit 27 = .ok (.ireturn, 1) := by decide +kernel
set_option maxRecDepth 20000 in
theorem ggX3_pool_X3_isPicture : GoodIn wsX3_pool wsX3_isPicture := goodIn_r _ [6, 7, 8, 5, 9] (by decide +kernel) (by decide +kernel)
set_option maxRecDepth 20000 in
theorem gX3_pool_X3_isPicture : GoodIn wsX3_pool (va_wsS RX3 64 yX3_isPicture wsX3_isPicture) := goodIn_app (goodIn_of _ (by decide +kernel)) ggX3_pool_X3_isPicture
set_option maxRecDepth 20000 in
theorem ggX3_pool_X3_fails : GoodIn wsX3_pool wsX3_fails := goodIn_r _ [13, 1, 67, 68, 69, 70, 71, 72, 73, 74, 75, 76, 77, 78, 79, 80, 81, 82, 83, 84, 85] (by decide +kernel) (by decide +kernel)
set_option maxRecDepth 20000 in
theorem gX3_pool_X3_fails : GoodIn wsX3_pool (wsV RX3 68 RX3 yX3_fails wsX3_fails) := goodIn_app (goodIn_of _ (by decide +kernel)) ggX3_pool_X3_fails
set_option maxRecDepth 20000 in
theorem ggX3_pool_X3_lay : GoodIn wsX3_pool wsX3_lay := goodIn_r _ [17, 18, 19, 20, 21, 22, 2, 23, 24, 25, 26, 27, 28, 29, 30, 31, 5, 32, 33, 34, 35, 36, 37, 38, 39, 40, 41, 42, 43, 44, 45, 46, 47, 48, 49, 50, 51, 52, 53, 54, 55, 56, 57, 58, 59, 60, 61, 62, 67, 68, 69, 70, 71, 72, 73, 74, 75, 76, 77, 78, 79, 80, 81, 82, 83, 84, 85] (by decide +kernel) (by decide +kernel)
set_option maxRecDepth 20000 in
theorem gX3_pool_X3_lay : GoodIn wsX3_pool (wsV RX3 118 RX3 yX3_lay wsX3_lay) := goodIn_app (goodIn_of _ (by decide +kernel)) ggX3_pool_X3_lay
set_option maxRecDepth 20000 in
theorem ggX3_pool_X3_deferred : GoodIn wsX3_pool wsX3_deferred := goodIn_r _ [66, 26, 18, 23, 24, 33, 67, 68, 69, 70, 71, 72, 73, 74, 75, 76, 77, 78, 79, 80, 81, 82, 83, 84, 85] (by decide +kernel) (by decide +kernel)
set_option maxRecDepth 20000 in
theorem gX3_pool_X3_deferred : GoodIn wsX3_pool (wsV RX3 121 RX3 yX3_deferred wsX3_deferred) := goodIn_app (goodIn_of _ (by decide +kernel)) ggX3_pool_X3_deferred
theorem dX3_pool_0 : decode cX3_pool 0 = .ok (.aload_n 0, 1) := by decide +kernel
theorem dX3_pool_1 : decode cX3_pool 1 = .ok (.iconst 0, 1) := by decide +kernel
theorem dX3_pool_2 : decode cX3_pool 2 = .ok (.putfield 56, 3) := by decide +kernel
theorem dX3_pool_5 : decode cX3_pool 5 = .ok (.iload_n 1, 1) := by decide +kernel
theorem dX3_pool_6 : decode cX3_pool 6 = .ok (.invokestatic 64, 3) := by decide +kernel
theorem dX3_pool_9 : decode cX3_pool 9 = .ok (.ifCond .ne 9, 3) := by decide +kernel
theorem dX3_pool_12 : decode cX3_pool 12 = .ok (.aload_n 0, 1) := by decide +kernel
theorem dX3_pool_13 : decode cX3_pool 13 = .ok (.iconst 1, 1) := by decide +kernel
theorem dX3_pool_14 : decode cX3_pool 14 = .ok (.invokevirtual 68, 3) := by decide +kernel
theorem dX3_pool_17 : decode cX3_pool 17 = .ok (.ireturn, 1) := by decide +kernel
theorem dX3_pool_18 : decode cX3_pool 18 = .ok (.aload_n 0, 1) := by decide +kernel
theorem dX3_pool_19 : decode cX3_pool 19 = .ok (.invokevirtual 118, 3) := by decide +kernel
theorem dX3_pool_22 : decode cX3_pool 22 = .ok (.aload_n 0, 1) := by decide +kernel
theorem dX3_pool_23 : decode cX3_pool 23 = .ok (.iload_n 1, 1) := by decide +kernel
theorem dX3_pool_24 : decode cX3_pool 24 = .ok (.aload_n 0, 1) := by decide +kernel
theorem dX3_pool_25 : decode cX3_pool 25 = .ok (.getfield 81, 3) := by decide +kernel
theorem dX3_pool_28 : decode cX3_pool 28 = .ok (.invokevirtual 121, 3) := by decide +kernel
theorem dX3_pool_31 : decode cX3_pool 31 = .ok (.l2i, 1) := by decide +kernel
theorem dX3_pool_32 : decode cX3_pool 32 = .ok (.ireturn, 1) := by decide +kernel
theorem dX3_sharers_0 : decode cX3_sharers 0 = .ok (.aload_n 0, 1) := by decide +kernel
theorem dX3_sharers_1 : decode cX3_sharers 1 = .ok (.iconst 0, 1) := by decide +kernel
theorem dX3_sharers_2 : decode cX3_sharers 2 = .ok (.putfield 56, 3) := by decide +kernel
theorem dX3_sharers_5 : decode cX3_sharers 5 = .ok (.aload_n 0, 1) := by decide +kernel
theorem dX3_sharers_6 : decode cX3_sharers 6 = .ok (.getfield 81, 3) := by decide +kernel
theorem dX3_sharers_9 : decode cX3_sharers 9 = .ok (.ireturn, 1) := by decide +kernel
set_option maxRecDepth 20000 in
theorem ggX3_sum_X3_isSharer : GoodIn wsX3_sum wsX3_isSharer := goodIn_r _ [5, 6, 7, 8, 9, 4, 10, 68, 69, 70, 71, 72, 73, 74, 75, 76, 77, 78, 79, 80, 81, 82, 83, 84, 85, 86] (by decide +kernel) (by decide +kernel)
set_option maxRecDepth 20000 in
theorem gX3_sum_X3_isSharer : GoodIn wsX3_sum (wsV RX3 124 RX3 yX3_isSharer wsX3_isSharer) := goodIn_app (goodIn_of _ (by decide +kernel)) ggX3_sum_X3_isSharer
set_option maxRecDepth 20000 in
theorem ggX3_sum_X3_sumOf : GoodIn wsX3_sum wsX3_sumOf := goodIn_r _ [14, 15, 16, 17, 6, 18, 19, 20, 21, 4, 22, 23, 24, 25, 26, 27, 28, 29, 30, 31, 32, 33, 34, 35, 36, 37, 38, 39, 40, 41, 42, 43, 44, 45, 46, 47, 48, 49, 50, 51, 52, 53, 54, 55, 56, 57, 58, 59, 60, 61, 62, 63, 64, 65, 66, 67, 68, 69, 70, 71, 72, 73, 74, 75, 76, 77, 78, 79, 80, 81, 82, 83, 84, 85, 86] (by decide +kernel) (by decide +kernel)
set_option maxRecDepth 20000 in
theorem gX3_sum_X3_sumOf : GoodIn wsX3_sum (wsV RX3 127 RX3 yX3_sumOf wsX3_sumOf) := goodIn_app (goodIn_of _ (by decide +kernel)) ggX3_sum_X3_sumOf
theorem dX3_sum_0 : decode cX3_sum 0 = .ok (.aload_n 0, 1) := by decide +kernel
theorem dX3_sum_1 : decode cX3_sum 1 = .ok (.iload_n 1, 1) := by decide +kernel
theorem dX3_sum_2 : decode cX3_sum 2 = .ok (.invokevirtual 124, 3) := by decide +kernel
theorem dX3_sum_5 : decode cX3_sum 5 = .ok (.ifCond .eq 12, 3) := by decide +kernel
theorem dX3_sum_8 : decode cX3_sum 8 = .ok (.aload_n 0, 1) := by decide +kernel
theorem dX3_sum_9 : decode cX3_sum 9 = .ok (.iload_n 1, 1) := by decide +kernel
theorem dX3_sum_10 : decode cX3_sum 10 = .ok (.invokevirtual 127, 3) := by decide +kernel
theorem dX3_sum_13 : decode cX3_sum 13 = .ok (.l2i, 1) := by decide +kernel
theorem dX3_sum_14 : decode cX3_sum 14 = .ok (.goto 4, 3) := by decide +kernel
theorem dX3_sum_17 : decode cX3_sum 17 = .ok (.iconst 0, 1) := by decide +kernel
theorem dX3_sum_18 : decode cX3_sum 18 = .ok (.ireturn, 1) := by decide +kernel
set_option maxRecDepth 20000 in
theorem ggX3_paid_X3_isSharer : GoodIn wsX3_paid wsX3_isSharer := goodIn_r _ [6, 7, 8, 9, 10, 5, 11, 12, 13, 14, 15, 16, 17, 18, 19, 20, 21, 22, 23, 24, 25, 26, 27, 28, 29, 30] (by decide +kernel) (by decide +kernel)
set_option maxRecDepth 20000 in
theorem gX3_paid_X3_isSharer : GoodIn wsX3_paid (wsV RX3 124 RX3 yX3_isSharer wsX3_isSharer) := goodIn_app (goodIn_of _ (by decide +kernel)) ggX3_paid_X3_isSharer
theorem dX3_paid_0 : decode cX3_paid 0 = .ok (.aload_n 0, 1) := by decide +kernel
theorem dX3_paid_1 : decode cX3_paid 1 = .ok (.iload_n 1, 1) := by decide +kernel
theorem dX3_paid_2 : decode cX3_paid 2 = .ok (.invokevirtual 124, 3) := by decide +kernel
theorem dX3_paid_5 : decode cX3_paid 5 = .ok (.ifCond .eq 12, 3) := by decide +kernel
theorem dX3_paid_8 : decode cX3_paid 8 = .ok (.aload_n 0, 1) := by decide +kernel
theorem dX3_paid_9 : decode cX3_paid 9 = .ok (.getfield 43, 3) := by decide +kernel
theorem dX3_paid_12 : decode cX3_paid 12 = .ok (.iload_n 1, 1) := by decide +kernel
theorem dX3_paid_13 : decode cX3_paid 13 = .ok (.iaload, 1) := by decide +kernel
theorem dX3_paid_14 : decode cX3_paid 14 = .ok (.goto 4, 3) := by decide +kernel
theorem dX3_paid_17 : decode cX3_paid 17 = .ok (.iconst 0, 1) := by decide +kernel
theorem dX3_paid_18 : decode cX3_paid 18 = .ok (.ireturn, 1) := by decide +kernel
set_option maxRecDepth 20000 in
theorem ggX3_owed_X3_isSharer : GoodIn wsX3_owed wsX3_isSharer := goodIn_r _ [6, 7, 8, 9, 10, 5, 11, 69, 70, 71, 72, 73, 74, 75, 76, 77, 78, 79, 80, 81, 82, 83, 84, 85, 86, 87] (by decide +kernel) (by decide +kernel)
set_option maxRecDepth 20000 in
theorem gX3_owed_X3_isSharer : GoodIn wsX3_owed (wsV RX3 124 RX3 yX3_isSharer wsX3_isSharer) := goodIn_app (goodIn_of _ (by decide +kernel)) ggX3_owed_X3_isSharer
set_option maxRecDepth 20000 in
theorem ggX3_owed_X3_sumOf : GoodIn wsX3_owed wsX3_sumOf := goodIn_r _ [15, 16, 17, 18, 7, 19, 20, 21, 22, 5, 23, 24, 25, 26, 27, 28, 29, 30, 31, 32, 33, 34, 35, 36, 37, 38, 39, 40, 41, 42, 43, 44, 45, 46, 47, 48, 49, 50, 51, 52, 53, 54, 55, 56, 57, 58, 59, 60, 61, 62, 63, 64, 65, 66, 67, 68, 69, 70, 71, 72, 73, 74, 75, 76, 77, 78, 79, 80, 81, 82, 83, 84, 85, 86, 87] (by decide +kernel) (by decide +kernel)
set_option maxRecDepth 20000 in
theorem gX3_owed_X3_sumOf : GoodIn wsX3_owed (wsV RX3 127 RX3 yX3_sumOf wsX3_sumOf) := goodIn_app (goodIn_of _ (by decide +kernel)) ggX3_owed_X3_sumOf
theorem dX3_owed_0 : decode cX3_owed 0 = .ok (.aload_n 0, 1) := by decide +kernel
theorem dX3_owed_1 : decode cX3_owed 1 = .ok (.iload_n 1, 1) := by decide +kernel
theorem dX3_owed_2 : decode cX3_owed 2 = .ok (.invokevirtual 124, 3) := by decide +kernel
theorem dX3_owed_5 : decode cX3_owed 5 = .ok (.ifCond .eq 19, 3) := by decide +kernel
theorem dX3_owed_8 : decode cX3_owed 8 = .ok (.aload_n 0, 1) := by decide +kernel
theorem dX3_owed_9 : decode cX3_owed 9 = .ok (.iload_n 1, 1) := by decide +kernel
theorem dX3_owed_10 : decode cX3_owed 10 = .ok (.invokevirtual 127, 3) := by decide +kernel
theorem dX3_owed_13 : decode cX3_owed 13 = .ok (.l2i, 1) := by decide +kernel
theorem dX3_owed_14 : decode cX3_owed 14 = .ok (.aload_n 0, 1) := by decide +kernel
theorem dX3_owed_15 : decode cX3_owed 15 = .ok (.getfield 43, 3) := by decide +kernel
theorem dX3_owed_18 : decode cX3_owed 18 = .ok (.iload_n 1, 1) := by decide +kernel
theorem dX3_owed_19 : decode cX3_owed 19 = .ok (.iaload, 1) := by decide +kernel
theorem dX3_owed_20 : decode cX3_owed 20 = .ok (.isub, 1) := by decide +kernel
theorem dX3_owed_21 : decode cX3_owed 21 = .ok (.goto 4, 3) := by decide +kernel
theorem dX3_owed_24 : decode cX3_owed 24 = .ok (.iconst 0, 1) := by decide +kernel
theorem dX3_owed_25 : decode cX3_owed 25 = .ok (.ireturn, 1) := by decide +kernel
theorem dJ9_max_7cf53_0 : decode cJ9_max_7cf53 0 = .ok (.iload_n 0, 1) := by decide +kernel
theorem dJ9_max_7cf53_1 : decode cJ9_max_7cf53 1 = .ok (.iload_n 1, 1) := by decide +kernel
theorem dJ9_max_7cf53_2 : decode cJ9_max_7cf53 2 = .ok (.if_icmp .lt 7, 3) := by decide +kernel
theorem dJ9_max_7cf53_5 : decode cJ9_max_7cf53 5 = .ok (.iload_n 0, 1) := by decide +kernel
theorem dJ9_max_7cf53_6 : decode cJ9_max_7cf53 6 = .ok (.goto 4, 3) := by decide +kernel
theorem dJ9_max_7cf53_9 : decode cJ9_max_7cf53 9 = .ok (.iload_n 1, 1) := by decide +kernel
theorem dJ9_max_7cf53_10 : decode cJ9_max_7cf53 10 = .ok (.ireturn, 1) := by decide +kernel
theorem dJ9_min_7cf53_0 : decode cJ9_min_7cf53 0 = .ok (.iload_n 0, 1) := by decide +kernel
theorem dJ9_min_7cf53_1 : decode cJ9_min_7cf53 1 = .ok (.iload_n 1, 1) := by decide +kernel
theorem dJ9_min_7cf53_2 : decode cJ9_min_7cf53 2 = .ok (.if_icmp .gt 7, 3) := by decide +kernel
theorem dJ9_min_7cf53_5 : decode cJ9_min_7cf53 5 = .ok (.iload_n 0, 1) := by decide +kernel
theorem dJ9_min_7cf53_6 : decode cJ9_min_7cf53 6 = .ok (.goto 4, 3) := by decide +kernel
theorem dJ9_min_7cf53_9 : decode cJ9_min_7cf53 9 = .ok (.iload_n 1, 1) := by decide +kernel
theorem dJ9_min_7cf53_10 : decode cJ9_min_7cf53 10 = .ok (.ireturn, 1) := by decide +kernel
theorem dJ9_min_f86c9_0 : decode cJ9_min_f86c9 0 = .ok (.lload_n 0, 1) := by decide +kernel
theorem dJ9_min_f86c9_1 : decode cJ9_min_f86c9 1 = .ok (.lload_n 2, 1) := by decide +kernel
theorem dJ9_min_f86c9_2 : decode cJ9_min_f86c9 2 = .ok (.lcmp, 1) := by decide +kernel
theorem dJ9_min_f86c9_3 : decode cJ9_min_f86c9 3 = .ok (.ifCond .gt 7, 3) := by decide +kernel
theorem dJ9_min_f86c9_6 : decode cJ9_min_f86c9 6 = .ok (.lload_n 0, 1) := by decide +kernel
theorem dJ9_min_f86c9_7 : decode cJ9_min_f86c9 7 = .ok (.goto 4, 3) := by decide +kernel
theorem dJ9_min_f86c9_10 : decode cJ9_min_f86c9 10 = .ok (.lload_n 2, 1) := by decide +kernel
theorem dJ9_min_f86c9_11 : decode cJ9_min_f86c9 11 = .ok (.lreturn, 1) := by decide +kernel
theorem dJxa1e45_init_da8c8_0 : decode cJxa1e45_init_da8c8 0 = .ok (.aload_n 0, 1) := by decide +kernel
theorem dJxa1e45_init_da8c8_1 : decode cJxa1e45_init_da8c8 1 = .ok (.invokespecial 1, 3) := by decide +kernel
theorem dJxa1e45_init_da8c8_4 : decode cJxa1e45_init_da8c8 4 = .ok (.return_, 1) := by decide +kernel
set_option maxRecDepth 20000 in
theorem ggJxc12de_init_da8c8_Jxa1e45_init_da8c8 : GoodIn wsJxc12de_init_da8c8 wsJxa1e45_init_da8c8 := goodIn_r _ [5, 6, 7, 8] (by decide +kernel) (by decide +kernel)
set_option maxRecDepth 20000 in
theorem gJxc12de_init_da8c8_Jxa1e45_init_da8c8 : GoodIn wsJxc12de_init_da8c8 (wsJxa1e45_init_da8c8) := ggJxc12de_init_da8c8_Jxa1e45_init_da8c8
theorem dJxc12de_init_da8c8_0 : decode cJxc12de_init_da8c8 0 = .ok (.aload_n 0, 1) := by decide +kernel
theorem dJxc12de_init_da8c8_1 : decode cJxc12de_init_da8c8 1 = .ok (.invokespecial 1, 3) := by decide +kernel
theorem dJxc12de_init_da8c8_4 : decode cJxc12de_init_da8c8 4 = .ok (.aload_n 0, 1) := by decide +kernel
theorem dJxc12de_init_da8c8_5 : decode cJxc12de_init_da8c8 5 = .ok (.iconst 0, 1) := by decide +kernel
theorem dJxc12de_init_da8c8_6 : decode cJxc12de_init_da8c8 6 = .ok (.putfield 7, 3) := by decide +kernel
theorem dJxc12de_init_da8c8_9 : decode cJxc12de_init_da8c8 9 = .ok (.return_, 1) := by decide +kernel
set_option maxRecDepth 20000 in
theorem ggJx4a65c_init_da8c8_Jxc12de_init_da8c8 : GoodIn wsJx4a65c_init_da8c8 wsJxc12de_init_da8c8 := goodIn_r _ [6, 7, 8, 9, 10, 11, 12, 13, 14, 15, 16, 17] (by decide +kernel) (by decide +kernel)
set_option maxRecDepth 20000 in
theorem gJx4a65c_init_da8c8_Jxc12de_init_da8c8 : GoodIn wsJx4a65c_init_da8c8 (wsJxc12de_init_da8c8) := ggJx4a65c_init_da8c8_Jxc12de_init_da8c8
theorem dJx4a65c_init_da8c8_0 : decode cJx4a65c_init_da8c8 0 = .ok (.aload_n 0, 1) := by decide +kernel
theorem dJx4a65c_init_da8c8_1 : decode cJx4a65c_init_da8c8 1 = .ok (.invokespecial 1, 3) := by decide +kernel
theorem dJx4a65c_init_da8c8_4 : decode cJx4a65c_init_da8c8 4 = .ok (.aload_n 0, 1) := by decide +kernel
theorem dJx4a65c_init_da8c8_5 : decode cJx4a65c_init_da8c8 5 = .ok (.getstatic 39, 3) := by decide +kernel
theorem dJx4a65c_init_da8c8_8 : decode cJx4a65c_init_da8c8 8 = .ok (.putfield 9, 3) := by decide +kernel
theorem dJx4a65c_init_da8c8_11 : decode cJx4a65c_init_da8c8 11 = .ok (.return_, 1) := by decide +kernel
set_option maxRecDepth 20000 in
theorem ggJx4a65c_grow_92f84_J8_newLength_cabcc : GoodIn wsJx4a65c_grow_92f84 wsJ8_newLength_cabcc := goodIn_r _ [11, 12, 4, 5, 6, 13, 14, 15, 10, 16] (by decide +kernel) (by decide +kernel)
set_option maxRecDepth 20000 in
theorem gJx4a65c_grow_92f84_J8_newLength_cabcc : GoodIn wsJx4a65c_grow_92f84 (va_wsS RJx4a65c 73 yJ8_newLength_cabcc wsJ8_newLength_cabcc) := goodIn_app (goodIn_of _ (by decide +kernel)) ggJx4a65c_grow_92f84_J8_newLength_cabcc
set_option maxRecDepth 20000 in
theorem ggJx4a65c_grow_92f84_J7_copyOf_1904c : GoodIn wsJx4a65c_grow_92f84 wsJ7_copyOf_1904c := goodIn_r _ [20, 21, 22, 23, 24, 25, 26, 19, 27, 28, 29, 30, 31, 5, 32, 33, 34, 35, 36] (by decide +kernel) (by decide +kernel)
set_option maxRecDepth 20000 in
theorem gJx4a65c_grow_92f84_J7_copyOf_1904c : GoodIn wsJx4a65c_grow_92f84 (va_wsS RJx4a65c 66 yJ7_copyOf_1904c wsJ7_copyOf_1904c) := goodIn_app (goodIn_of _ (by decide +kernel)) ggJx4a65c_grow_92f84_J7_copyOf_1904c
theorem dJx4a65c_grow_92f84_0 : decode cJx4a65c_grow_92f84 0 = .ok (.aload_n 0, 1) := by decide +kernel
theorem dJx4a65c_grow_92f84_1 : decode cJx4a65c_grow_92f84 1 = .ok (.getfield 9, 3) := by decide +kernel
theorem dJx4a65c_grow_92f84_4 : decode cJx4a65c_grow_92f84 4 = .ok (.arraylength, 1) := by decide +kernel
theorem dJx4a65c_grow_92f84_5 : decode cJx4a65c_grow_92f84 5 = .ok (.istore_n 2, 1) := by decide +kernel
theorem dJx4a65c_grow_92f84_6 : decode cJx4a65c_grow_92f84 6 = .ok (.iload_n 2, 1) := by decide +kernel
theorem dJx4a65c_grow_92f84_7 : decode cJx4a65c_grow_92f84 7 = .ok (.ifCond .gt 13, 3) := by decide +kernel
theorem dJx4a65c_grow_92f84_10 : decode cJx4a65c_grow_92f84 10 = .ok (.aload_n 0, 1) := by decide +kernel
theorem dJx4a65c_grow_92f84_11 : decode cJx4a65c_grow_92f84 11 = .ok (.getfield 9, 3) := by decide +kernel
theorem dJx4a65c_grow_92f84_14 : decode cJx4a65c_grow_92f84 14 = .ok (.getstatic 39, 3) := by decide +kernel
theorem dJx4a65c_grow_92f84_17 : decode cJx4a65c_grow_92f84 17 = .ok (.if_acmp .eq 28, 3) := by decide +kernel
theorem dJx4a65c_grow_92f84_20 : decode cJx4a65c_grow_92f84 20 = .ok (.iload_n 2, 1) := by decide +kernel
theorem dJx4a65c_grow_92f84_21 : decode cJx4a65c_grow_92f84 21 = .ok (.iload_n 1, 1) := by decide +kernel
theorem dJx4a65c_grow_92f84_22 : decode cJx4a65c_grow_92f84 22 = .ok (.iload_n 2, 1) := by decide +kernel
theorem dJx4a65c_grow_92f84_23 : decode cJx4a65c_grow_92f84 23 = .ok (.isub, 1) := by decide +kernel
theorem dJx4a65c_grow_92f84_24 : decode cJx4a65c_grow_92f84 24 = .ok (.iload_n 2, 1) := by decide +kernel
theorem dJx4a65c_grow_92f84_25 : decode cJx4a65c_grow_92f84 25 = .ok (.iconst 1, 1) := by decide +kernel
theorem dJx4a65c_grow_92f84_26 : decode cJx4a65c_grow_92f84 26 = .ok (.ishr, 1) := by decide +kernel
theorem dJx4a65c_grow_92f84_27 : decode cJx4a65c_grow_92f84 27 = .ok (.invokestatic 73, 3) := by decide +kernel
theorem dJx4a65c_grow_92f84_30 : decode cJx4a65c_grow_92f84 30 = .ok (.istore_n 3, 1) := by decide +kernel
theorem dJx4a65c_grow_92f84_31 : decode cJx4a65c_grow_92f84 31 = .ok (.aload_n 0, 1) := by decide +kernel
theorem dJx4a65c_grow_92f84_32 : decode cJx4a65c_grow_92f84 32 = .ok (.aload_n 0, 1) := by decide +kernel
theorem dJx4a65c_grow_92f84_33 : decode cJx4a65c_grow_92f84 33 = .ok (.getfield 9, 3) := by decide +kernel
theorem dJx4a65c_grow_92f84_36 : decode cJx4a65c_grow_92f84 36 = .ok (.iload_n 3, 1) := by decide +kernel
theorem dJx4a65c_grow_92f84_37 : decode cJx4a65c_grow_92f84 37 = .ok (.invokestatic 66, 3) := by decide +kernel
theorem dJx4a65c_grow_92f84_40 : decode cJx4a65c_grow_92f84 40 = .ok (.dup_x1, 1) := by decide +kernel
theorem dJx4a65c_grow_92f84_41 : decode cJx4a65c_grow_92f84 41 = .ok (.putfield 9, 3) := by decide +kernel
theorem dJx4a65c_grow_92f84_44 : decode cJx4a65c_grow_92f84 44 = .ok (.areturn, 1) := by decide +kernel
theorem dJx4a65c_grow_92f84_45 : decode cJx4a65c_grow_92f84 45 = .ok (.aload_n 0, 1) := by decide +kernel
theorem dJx4a65c_grow_92f84_46 : decode cJx4a65c_grow_92f84 46 = .ok (.bipush 10, 2) := by decide +kernel
theorem dJx4a65c_grow_92f84_48 : decode cJx4a65c_grow_92f84 48 = .ok (.iload_n 1, 1) := by decide +kernel
theorem dJx4a65c_grow_92f84_49 : decode cJx4a65c_grow_92f84 49 = .ok (.invokestatic 79, 3) := by decide +kernel
theorem dJx4a65c_grow_92f84_52 : decode cJx4a65c_grow_92f84 52 = .ok (.anewarray 7, 3) := by decide +kernel
theorem dJx4a65c_grow_92f84_55 : decode cJx4a65c_grow_92f84 55 = .ok (.dup_x1, 1) := by decide +kernel
theorem dJx4a65c_grow_92f84_56 : decode cJx4a65c_grow_92f84 56 = .ok (.putfield 9, 3) := by decide +kernel
theorem dJx4a65c_grow_92f84_59 : decode cJx4a65c_grow_92f84 59 = .ok (.areturn, 1) := by decide +kernel
set_option maxRecDepth 20000 in
theorem ggJx4a65c_grow_d5877_Jx4a65c_grow_92f84 : GoodIn wsJx4a65c_grow_d5877 wsJx4a65c_grow_92f84 := goodIn_r _ [6, 7, 8, 9, 10, 11, 12, 13, 14, 15, 16, 17, 18, 19, 20, 21, 22, 23, 24, 25, 26, 27, 28, 29, 30, 31, 32, 33, 34, 35, 36, 37, 38, 39, 40, 41, 42, 43, 44, 45] (by decide +kernel) (by decide +kernel)
set_option maxRecDepth 20000 in
theorem gJx4a65c_grow_d5877_Jx4a65c_grow_92f84 : GoodIn wsJx4a65c_grow_d5877 (wsV RJx4a65c 69 RJx4a65c yJx4a65c_grow_92f84 wsJx4a65c_grow_92f84) := goodIn_app (goodIn_of _ (by decide +kernel)) ggJx4a65c_grow_d5877_Jx4a65c_grow_92f84
theorem dJx4a65c_grow_d5877_0 : decode cJx4a65c_grow_d5877 0 = .ok (.aload_n 0, 1) := by decide +kernel
theorem dJx4a65c_grow_d5877_1 : decode cJx4a65c_grow_d5877 1 = .ok (.aload_n 0, 1) := by decide +kernel
theorem dJx4a65c_grow_d5877_2 : decode cJx4a65c_grow_d5877 2 = .ok (.getfield 48, 3) := by decide +kernel
theorem dJx4a65c_grow_d5877_5 : decode cJx4a65c_grow_d5877 5 = .ok (.iconst 1, 1) := by decide +kernel
theorem dJx4a65c_grow_d5877_6 : decode cJx4a65c_grow_d5877 6 = .ok (.iadd, 1) := by decide +kernel
theorem dJx4a65c_grow_d5877_7 : decode cJx4a65c_grow_d5877 7 = .ok (.invokevirtual 69, 3) := by decide +kernel
theorem dJx4a65c_grow_d5877_10 : decode cJx4a65c_grow_d5877 10 = .ok (.areturn, 1) := by decide +kernel
theorem dJx4a65c_size_8abf5_0 : decode cJx4a65c_size_8abf5 0 = .ok (.aload_n 0, 1) := by decide +kernel
theorem dJx4a65c_size_8abf5_1 : decode cJx4a65c_size_8abf5 1 = .ok (.getfield 48, 3) := by decide +kernel
theorem dJx4a65c_size_8abf5_4 : decode cJx4a65c_size_8abf5 4 = .ok (.ireturn, 1) := by decide +kernel
theorem dJx4a65c_elementData_915e3_0 : decode cJx4a65c_elementData_915e3 0 = .ok (.aload_n 0, 1) := by decide +kernel
theorem dJx4a65c_elementData_915e3_1 : decode cJx4a65c_elementData_915e3 1 = .ok (.getfield 9, 3) := by decide +kernel
theorem dJx4a65c_elementData_915e3_4 : decode cJx4a65c_elementData_915e3 4 = .ok (.iload_n 1, 1) := by decide +kernel
theorem dJx4a65c_elementData_915e3_5 : decode cJx4a65c_elementData_915e3 5 = .ok (.aaload, 1) := by decide +kernel
theorem dJx4a65c_elementData_915e3_6 : decode cJx4a65c_elementData_915e3 6 = .ok (.areturn, 1) := by decide +kernel
set_option maxRecDepth 20000 in
theorem ggJx4a65c_get_915e3_J15_checkIndex_7cf53 : GoodIn wsJx4a65c_get_915e3 wsJ15_checkIndex_7cf53 := goodIn_r _ [5, 6, 7, 8, 9] (by decide +kernel) (by decide +kernel)
set_option maxRecDepth 20000 in
theorem gJx4a65c_get_915e3_J15_checkIndex_7cf53 : GoodIn wsJx4a65c_get_915e3 (va_wsS RJx4a65c 118 yJ15_checkIndex_7cf53 wsJ15_checkIndex_7cf53) := goodIn_app (goodIn_of _ (by decide +kernel)) ggJx4a65c_get_915e3_J15_checkIndex_7cf53
set_option maxRecDepth 20000 in
theorem ggJx4a65c_get_915e3_Jx4a65c_elementData_915e3 : GoodIn wsJx4a65c_get_915e3 wsJx4a65c_elementData_915e3 := goodIn_r _ [14, 15, 16, 17, 18] (by decide +kernel) (by decide +kernel)
set_option maxRecDepth 20000 in
theorem gJx4a65c_get_915e3_Jx4a65c_elementData_915e3 : GoodIn wsJx4a65c_get_915e3 (wsV RJx4a65c 123 RJx4a65c yJx4a65c_elementData_915e3 wsJx4a65c_elementData_915e3) := goodIn_app (goodIn_of _ (by decide +kernel)) ggJx4a65c_get_915e3_Jx4a65c_elementData_915e3
theorem dJx4a65c_get_915e3_0 : decode cJx4a65c_get_915e3 0 = .ok (.iload_n 1, 1) := by decide +kernel
theorem dJx4a65c_get_915e3_1 : decode cJx4a65c_get_915e3 1 = .ok (.aload_n 0, 1) := by decide +kernel
theorem dJx4a65c_get_915e3_2 : decode cJx4a65c_get_915e3 2 = .ok (.getfield 48, 3) := by decide +kernel
theorem dJx4a65c_get_915e3_5 : decode cJx4a65c_get_915e3 5 = .ok (.invokestatic 118, 3) := by decide +kernel
theorem dJx4a65c_get_915e3_8 : decode cJx4a65c_get_915e3 8 = .ok (.pop, 1) := by decide +kernel
theorem dJx4a65c_get_915e3_9 : decode cJx4a65c_get_915e3 9 = .ok (.aload_n 0, 1) := by decide +kernel
theorem dJx4a65c_get_915e3_10 : decode cJx4a65c_get_915e3 10 = .ok (.iload_n 1, 1) := by decide +kernel
theorem dJx4a65c_get_915e3_11 : decode cJx4a65c_get_915e3 11 = .ok (.invokevirtual 123, 3) := by decide +kernel
theorem dJx4a65c_get_915e3_14 : decode cJx4a65c_get_915e3 14 = .ok (.areturn, 1) := by decide +kernel
set_option maxRecDepth 20000 in
theorem ggJx4a65c_add_72be8_Jx4a65c_grow_d5877 : GoodIn wsJx4a65c_add_72be8 wsJx4a65c_grow_d5877 := goodIn_r _ [6, 1, 7, 8, 9, 5, 10, 11, 12, 13, 14, 15, 16, 17, 18, 19, 20, 21, 22, 23, 24, 25, 26, 27, 28, 29, 30, 31, 32, 33, 34, 35, 36, 37, 38, 39, 40, 41, 42, 43, 44, 45, 46, 47, 48, 49] (by decide +kernel) (by decide +kernel)
set_option maxRecDepth 20000 in
theorem gJx4a65c_add_72be8_Jx4a65c_grow_d5877 : GoodIn wsJx4a65c_add_72be8 (wsV RJx4a65c 129 RJx4a65c yJx4a65c_grow_d5877 wsJx4a65c_grow_d5877) := goodIn_app (goodIn_of _ (by decide +kernel)) ggJx4a65c_add_72be8_Jx4a65c_grow_d5877
theorem dJx4a65c_add_72be8_0 : decode cJx4a65c_add_72be8 0 = .ok (.iload_n 3, 1) := by decide +kernel
theorem dJx4a65c_add_72be8_1 : decode cJx4a65c_add_72be8 1 = .ok (.aload_n 2, 1) := by decide +kernel
theorem dJx4a65c_add_72be8_2 : decode cJx4a65c_add_72be8 2 = .ok (.arraylength, 1) := by decide +kernel
theorem dJx4a65c_add_72be8_3 : decode cJx4a65c_add_72be8 3 = .ok (.if_icmp .ne 8, 3) := by decide +kernel
theorem dJx4a65c_add_72be8_6 : decode cJx4a65c_add_72be8 6 = .ok (.aload_n 0, 1) := by decide +kernel
theorem dJx4a65c_add_72be8_7 : decode cJx4a65c_add_72be8 7 = .ok (.invokevirtual 129, 3) := by decide +kernel
theorem dJx4a65c_add_72be8_10 : decode cJx4a65c_add_72be8 10 = .ok (.astore_n 2, 1) := by decide +kernel
theorem dJx4a65c_add_72be8_11 : decode cJx4a65c_add_72be8 11 = .ok (.aload_n 2, 1) := by decide +kernel
theorem dJx4a65c_add_72be8_12 : decode cJx4a65c_add_72be8 12 = .ok (.iload_n 3, 1) := by decide +kernel
theorem dJx4a65c_add_72be8_13 : decode cJx4a65c_add_72be8 13 = .ok (.aload_n 1, 1) := by decide +kernel
theorem dJx4a65c_add_72be8_14 : decode cJx4a65c_add_72be8 14 = .ok (.aastore, 1) := by decide +kernel
theorem dJx4a65c_add_72be8_15 : decode cJx4a65c_add_72be8 15 = .ok (.aload_n 0, 1) := by decide +kernel
theorem dJx4a65c_add_72be8_16 : decode cJx4a65c_add_72be8 16 = .ok (.iload_n 3, 1) := by decide +kernel
theorem dJx4a65c_add_72be8_17 : decode cJx4a65c_add_72be8 17 = .ok (.iconst 1, 1) := by decide +kernel
theorem dJx4a65c_add_72be8_18 : decode cJx4a65c_add_72be8 18 = .ok (.iadd, 1) := by decide +kernel
theorem dJx4a65c_add_72be8_19 : decode cJx4a65c_add_72be8 19 = .ok (.putfield 48, 3) := by decide +kernel
theorem dJx4a65c_add_72be8_22 : decode cJx4a65c_add_72be8 22 = .ok (.return_, 1) := by decide +kernel
set_option maxRecDepth 20000 in
theorem ggJx4a65c_add_9ea2d_Jx4a65c_add_72be8 : GoodIn wsJx4a65c_add_9ea2d wsJx4a65c_add_72be8 := goodIn_r _ [9, 4, 10, 11, 12, 8, 13, 14, 15, 16, 17, 3, 18, 19, 20, 21, 22, 23, 24, 25, 26, 27, 28, 29, 30, 31, 32, 33, 34, 35, 36, 37, 38, 39, 40, 41, 42, 43, 44, 45, 46, 47, 48, 49, 50, 51, 52, 53, 54, 55] (by decide +kernel) (by decide +kernel)
set_option maxRecDepth 20000 in
theorem gJx4a65c_add_9ea2d_Jx4a65c_add_72be8 : GoodIn wsJx4a65c_add_9ea2d (wsV RJx4a65c 131 RJx4a65c yJx4a65c_add_72be8 wsJx4a65c_add_72be8) := goodIn_app (goodIn_of _ (by decide +kernel)) ggJx4a65c_add_9ea2d_Jx4a65c_add_72be8
theorem dJx4a65c_add_9ea2d_0 : decode cJx4a65c_add_9ea2d 0 = .ok (.aload_n 0, 1) := by decide +kernel
theorem dJx4a65c_add_9ea2d_1 : decode cJx4a65c_add_9ea2d 1 = .ok (.dup, 1) := by decide +kernel
theorem dJx4a65c_add_9ea2d_2 : decode cJx4a65c_add_9ea2d 2 = .ok (.getfield 63, 3) := by decide +kernel
theorem dJx4a65c_add_9ea2d_5 : decode cJx4a65c_add_9ea2d 5 = .ok (.iconst 1, 1) := by decide +kernel
theorem dJx4a65c_add_9ea2d_6 : decode cJx4a65c_add_9ea2d 6 = .ok (.iadd, 1) := by decide +kernel
theorem dJx4a65c_add_9ea2d_7 : decode cJx4a65c_add_9ea2d 7 = .ok (.putfield 63, 3) := by decide +kernel
theorem dJx4a65c_add_9ea2d_10 : decode cJx4a65c_add_9ea2d 10 = .ok (.aload_n 0, 1) := by decide +kernel
theorem dJx4a65c_add_9ea2d_11 : decode cJx4a65c_add_9ea2d 11 = .ok (.aload_n 1, 1) := by decide +kernel
theorem dJx4a65c_add_9ea2d_12 : decode cJx4a65c_add_9ea2d 12 = .ok (.aload_n 0, 1) := by decide +kernel
theorem dJx4a65c_add_9ea2d_13 : decode cJx4a65c_add_9ea2d 13 = .ok (.getfield 9, 3) := by decide +kernel
theorem dJx4a65c_add_9ea2d_16 : decode cJx4a65c_add_9ea2d 16 = .ok (.aload_n 0, 1) := by decide +kernel
theorem dJx4a65c_add_9ea2d_17 : decode cJx4a65c_add_9ea2d 17 = .ok (.getfield 48, 3) := by decide +kernel
theorem dJx4a65c_add_9ea2d_20 : decode cJx4a65c_add_9ea2d 20 = .ok (.invokevirtual 131, 3) := by decide +kernel
theorem dJx4a65c_add_9ea2d_23 : decode cJx4a65c_add_9ea2d 23 = .ok (.iconst 1, 1) := by decide +kernel
theorem dJx4a65c_add_9ea2d_24 : decode cJx4a65c_add_9ea2d 24 = .ok (.ireturn, 1) := by decide +kernel
set_option maxRecDepth 20000 in
theorem ggJ7_copyOf_1904c_J7_copyOf_6403c : GoodIn wsJ7_copyOf_1904c wsJ7_copyOf_6403c := goodIn_r _ [8, 9, 10, 11, 12, 13, 14, 15, 16, 17, 18] (by decide +kernel) (by decide +kernel)
set_option maxRecDepth 20000 in
theorem gJ7_copyOf_1904c_J7_copyOf_6403c : GoodIn wsJ7_copyOf_1904c (va_wsS RJ7 300 yJ7_copyOf_6403c wsJ7_copyOf_6403c) := goodIn_app (goodIn_of _ (by decide +kernel)) ggJ7_copyOf_1904c_J7_copyOf_6403c
theorem dJ7_copyOf_1904c_0 : decode cJ7_copyOf_1904c 0 = .ok (.aload_n 0, 1) := by decide +kernel
theorem dJ7_copyOf_1904c_1 : decode cJ7_copyOf_1904c 1 = .ok (.iload_n 1, 1) := by decide +kernel
theorem dJ7_copyOf_1904c_2 : decode cJ7_copyOf_1904c 2 = .ok (.aload_n 0, 1) := by decide +kernel
theorem dJ7_copyOf_1904c_3 : decode cJ7_copyOf_1904c 3 = .ok (.invokevirtual 86, 3) := by decide +kernel
theorem dJ7_copyOf_1904c_6 : decode cJ7_copyOf_1904c 6 = .ok (.invokestatic 300, 3) := by decide +kernel
theorem dJ7_copyOf_1904c_9 : decode cJ7_copyOf_1904c 9 = .ok (.areturn, 1) := by decide +kernel
theorem dJ7_copyOf_6403c_0 : decode cJ7_copyOf_6403c 0 = .ok (.aload_n 2, 1) := by decide +kernel
theorem dJ7_copyOf_6403c_1 : decode cJ7_copyOf_6403c 1 = .ok (.ldc 110, 2) := by decide +kernel
theorem dJ7_copyOf_6403c_3 : decode cJ7_copyOf_6403c 3 = .ok (.if_acmp .ne 10, 3) := by decide +kernel
theorem dJ7_copyOf_6403c_6 : decode cJ7_copyOf_6403c 6 = .ok (.iload_n 1, 1) := by decide +kernel
theorem dJ7_copyOf_6403c_7 : decode cJ7_copyOf_6403c 7 = .ok (.anewarray 2, 3) := by decide +kernel
theorem dJ7_copyOf_6403c_10 : decode cJ7_copyOf_6403c 10 = .ok (.goto 14, 3) := by decide +kernel
theorem dJ7_copyOf_6403c_13 : decode cJ7_copyOf_6403c 13 = .ok (.aload_n 2, 1) := by decide +kernel
theorem dJ7_copyOf_6403c_14 : decode cJ7_copyOf_6403c 14 = .ok (.invokevirtual 90, 3) := by decide +kernel
theorem dJ7_copyOf_6403c_17 : decode cJ7_copyOf_6403c 17 = .ok (.iload_n 1, 1) := by decide +kernel
theorem dJ7_copyOf_6403c_18 : decode cJ7_copyOf_6403c 18 = .ok (.invokestatic 95, 3) := by decide +kernel
theorem dJ7_copyOf_6403c_21 : decode cJ7_copyOf_6403c 21 = .ok (.checkcast 110, 3) := by decide +kernel
theorem dJ7_copyOf_6403c_24 : decode cJ7_copyOf_6403c 24 = .ok (.astore_n 3, 1) := by decide +kernel
theorem dJ7_copyOf_6403c_25 : decode cJ7_copyOf_6403c 25 = .ok (.aload_n 0, 1) := by decide +kernel
theorem dJ7_copyOf_6403c_26 : decode cJ7_copyOf_6403c 26 = .ok (.iconst 0, 1) := by decide +kernel
theorem dJ7_copyOf_6403c_27 : decode cJ7_copyOf_6403c 27 = .ok (.aload_n 3, 1) := by decide +kernel
theorem dJ7_copyOf_6403c_28 : decode cJ7_copyOf_6403c 28 = .ok (.iconst 0, 1) := by decide +kernel
theorem dJ7_copyOf_6403c_29 : decode cJ7_copyOf_6403c 29 = .ok (.aload_n 0, 1) := by decide +kernel
theorem dJ7_copyOf_6403c_30 : decode cJ7_copyOf_6403c 30 = .ok (.arraylength, 1) := by decide +kernel
theorem dJ7_copyOf_6403c_31 : decode cJ7_copyOf_6403c 31 = .ok (.iload_n 1, 1) := by decide +kernel
theorem dJ7_copyOf_6403c_32 : decode cJ7_copyOf_6403c 32 = .ok (.invokestatic 304, 3) := by decide +kernel
theorem dJ7_copyOf_6403c_35 : decode cJ7_copyOf_6403c 35 = .ok (.invokestatic 150, 3) := by decide +kernel
theorem dJ7_copyOf_6403c_38 : decode cJ7_copyOf_6403c 38 = .ok (.aload_n 3, 1) := by decide +kernel
theorem dJ7_copyOf_6403c_39 : decode cJ7_copyOf_6403c 39 = .ok (.areturn, 1) := by decide +kernel
set_option maxRecDepth 20000 in
theorem ggJ15_checkIndex_7cf53_J3_checkIndex_8e157 : GoodIn wsJ15_checkIndex_7cf53 wsJ3_checkIndex_8e157 := goodIn_r _ [4] (by decide +kernel) (by decide +kernel)
set_option maxRecDepth 20000 in
theorem gJ15_checkIndex_7cf53_J3_checkIndex_8e157 : GoodIn wsJ15_checkIndex_7cf53 (va_wsS RJ15 105 yJ3_checkIndex_8e157 wsJ3_checkIndex_8e157) := goodIn_app (goodIn_of _ (by decide +kernel)) ggJ15_checkIndex_7cf53_J3_checkIndex_8e157
theorem dJ15_checkIndex_7cf53_0 : decode cJ15_checkIndex_7cf53 0 = .ok (.iload_n 0, 1) := by decide +kernel
theorem dJ15_checkIndex_7cf53_1 : decode cJ15_checkIndex_7cf53 1 = .ok (.iload_n 1, 1) := by decide +kernel
theorem dJ15_checkIndex_7cf53_2 : decode cJ15_checkIndex_7cf53 2 = .ok (.aconst_null, 1) := by decide +kernel
theorem dJ15_checkIndex_7cf53_3 : decode cJ15_checkIndex_7cf53 3 = .ok (.invokestatic 105, 3) := by decide +kernel
theorem dJ15_checkIndex_7cf53_6 : decode cJ15_checkIndex_7cf53 6 = .ok (.ireturn, 1) := by decide +kernel
set_option maxRecDepth 20000 in
theorem ggJ8_newLength_cabcc_J8_hugeLength_7cf53 : GoodIn wsJ8_newLength_cabcc wsJ8_hugeLength_7cf53 := goodIn_r _ [9, 5] (by decide +kernel) (by decide +kernel)
set_option maxRecDepth 20000 in
theorem gJ8_newLength_cabcc_J8_hugeLength_7cf53 : GoodIn wsJ8_newLength_cabcc (va_wsS RJ8 201 yJ8_hugeLength_7cf53 wsJ8_hugeLength_7cf53) := goodIn_app (goodIn_of _ (by decide +kernel)) ggJ8_newLength_cabcc_J8_hugeLength_7cf53
theorem dJ8_newLength_cabcc_0 : decode cJ8_newLength_cabcc 0 = .ok (.iload_n 0, 1) := by decide +kernel
theorem dJ8_newLength_cabcc_1 : decode cJ8_newLength_cabcc 1 = .ok (.iload_n 1, 1) := by decide +kernel
theorem dJ8_newLength_cabcc_2 : decode cJ8_newLength_cabcc 2 = .ok (.iload_n 2, 1) := by decide +kernel
theorem dJ8_newLength_cabcc_3 : decode cJ8_newLength_cabcc 3 = .ok (.invokestatic 194, 3) := by decide +kernel
theorem dJ8_newLength_cabcc_6 : decode cJ8_newLength_cabcc 6 = .ok (.iadd, 1) := by decide +kernel
theorem dJ8_newLength_cabcc_7 : decode cJ8_newLength_cabcc 7 = .ok (.istore_n 3, 1) := by decide +kernel
theorem dJ8_newLength_cabcc_8 : decode cJ8_newLength_cabcc 8 = .ok (.iconst 0, 1) := by decide +kernel
theorem dJ8_newLength_cabcc_9 : decode cJ8_newLength_cabcc 9 = .ok (.iload_n 3, 1) := by decide +kernel
theorem dJ8_newLength_cabcc_10 : decode cJ8_newLength_cabcc 10 = .ok (.if_icmp .ge 11, 3) := by decide +kernel
theorem dJ8_newLength_cabcc_13 : decode cJ8_newLength_cabcc 13 = .ok (.iload_n 3, 1) := by decide +kernel
theorem dJ8_newLength_cabcc_14 : decode cJ8_newLength_cabcc 14 = .ok (.ldc 200, 2) := by decide +kernel
theorem dJ8_newLength_cabcc_16 : decode cJ8_newLength_cabcc 16 = .ok (.if_icmp .gt 5, 3) := by decide +kernel
theorem dJ8_newLength_cabcc_19 : decode cJ8_newLength_cabcc 19 = .ok (.iload_n 3, 1) := by decide +kernel
theorem dJ8_newLength_cabcc_20 : decode cJ8_newLength_cabcc 20 = .ok (.ireturn, 1) := by decide +kernel
theorem dJ8_newLength_cabcc_21 : decode cJ8_newLength_cabcc 21 = .ok (.iload_n 0, 1) := by decide +kernel
theorem dJ8_newLength_cabcc_22 : decode cJ8_newLength_cabcc 22 = .ok (.iload_n 1, 1) := by decide +kernel
theorem dJ8_newLength_cabcc_23 : decode cJ8_newLength_cabcc 23 = .ok (.invokestatic 201, 3) := by decide +kernel
theorem dJ8_newLength_cabcc_26 : decode cJ8_newLength_cabcc 26 = .ok (.ireturn, 1) := by decide +kernel
theorem dJ8_hugeLength_7cf53_0 : decode cJ8_hugeLength_7cf53 0 = .ok (.iload_n 0, 1) := by decide +kernel
theorem dJ8_hugeLength_7cf53_1 : decode cJ8_hugeLength_7cf53 1 = .ok (.iload_n 1, 1) := by decide +kernel
theorem dJ8_hugeLength_7cf53_2 : decode cJ8_hugeLength_7cf53 2 = .ok (.iadd, 1) := by decide +kernel
theorem dJ8_hugeLength_7cf53_3 : decode cJ8_hugeLength_7cf53 3 = .ok (.istore_n 2, 1) := by decide +kernel
theorem dJ8_hugeLength_7cf53_4 : decode cJ8_hugeLength_7cf53 4 = .ok (.iload_n 2, 1) := by decide +kernel
theorem dJ8_hugeLength_7cf53_5 : decode cJ8_hugeLength_7cf53 5 = .ok (.ifCond .ge 44, 3) := by decide +kernel
theorem dJ8_hugeLength_7cf53_8 : decode cJ8_hugeLength_7cf53 8 = .ok (.new 204, 3) := by decide +kernel
theorem dJ8_hugeLength_7cf53_11 : decode cJ8_hugeLength_7cf53 11 = .ok (.dup, 1) := by decide +kernel
theorem dJ8_hugeLength_7cf53_12 : decode cJ8_hugeLength_7cf53 12 = .ok (.new 89, 3) := by decide +kernel
theorem dJ8_hugeLength_7cf53_15 : decode cJ8_hugeLength_7cf53 15 = .ok (.dup, 1) := by decide +kernel
theorem dJ8_hugeLength_7cf53_16 : decode cJ8_hugeLength_7cf53 16 = .ok (.invokespecial 91, 3) := by decide +kernel
theorem dJ8_hugeLength_7cf53_19 : decode cJ8_hugeLength_7cf53 19 = .ok (.ldc 206, 2) := by decide +kernel
theorem dJ8_hugeLength_7cf53_21 : decode cJ8_hugeLength_7cf53 21 = .ok (.invokevirtual 94, 3) := by decide +kernel
theorem dJ8_hugeLength_7cf53_24 : decode cJ8_hugeLength_7cf53 24 = .ok (.iload_n 0, 1) := by decide +kernel
theorem dJ8_hugeLength_7cf53_25 : decode cJ8_hugeLength_7cf53 25 = .ok (.invokevirtual 98, 3) := by decide +kernel
theorem dJ8_hugeLength_7cf53_28 : decode cJ8_hugeLength_7cf53 28 = .ok (.ldc 208, 2) := by decide +kernel
theorem dJ8_hugeLength_7cf53_30 : decode cJ8_hugeLength_7cf53 30 = .ok (.invokevirtual 94, 3) := by decide +kernel
theorem dJ8_hugeLength_7cf53_33 : decode cJ8_hugeLength_7cf53 33 = .ok (.iload_n 1, 1) := by decide +kernel
theorem dJ8_hugeLength_7cf53_34 : decode cJ8_hugeLength_7cf53 34 = .ok (.invokevirtual 98, 3) := by decide +kernel
theorem dJ8_hugeLength_7cf53_37 : decode cJ8_hugeLength_7cf53 37 = .ok (.ldc 210, 2) := by decide +kernel
theorem dJ8_hugeLength_7cf53_39 : decode cJ8_hugeLength_7cf53 39 = .ok (.invokevirtual 94, 3) := by decide +kernel
theorem dJ8_hugeLength_7cf53_42 : decode cJ8_hugeLength_7cf53 42 = .ok (.invokevirtual 101, 3) := by decide +kernel
theorem dJ8_hugeLength_7cf53_45 : decode cJ8_hugeLength_7cf53 45 = .ok (.invokespecial 212, 3) := by decide +kernel
theorem dJ8_hugeLength_7cf53_48 : decode cJ8_hugeLength_7cf53 48 = .ok (.athrow, 1) := by decide +kernel
theorem dJ8_hugeLength_7cf53_49 : decode cJ8_hugeLength_7cf53 49 = .ok (.iload_n 2, 1) := by decide +kernel
theorem dJ8_hugeLength_7cf53_50 : decode cJ8_hugeLength_7cf53 50 = .ok (.ldc 200, 2) := by decide +kernel
theorem dJ8_hugeLength_7cf53_52 : decode cJ8_hugeLength_7cf53 52 = .ok (.if_icmp .gt 6, 3) := by decide +kernel
theorem dJ8_hugeLength_7cf53_55 : decode cJ8_hugeLength_7cf53 55 = .ok (.ldc 200, 2) := by decide +kernel
theorem dJ8_hugeLength_7cf53_57 : decode cJ8_hugeLength_7cf53 57 = .ok (.ireturn, 1) := by decide +kernel
theorem dJ8_hugeLength_7cf53_58 : decode cJ8_hugeLength_7cf53 58 = .ok (.iload_n 2, 1) := by decide +kernel
theorem dJ8_hugeLength_7cf53_59 : decode cJ8_hugeLength_7cf53 59 = .ok (.ireturn, 1) := by decide +kernel
theorem dJ3_checkIndex_8e157_0 : decode cJ3_checkIndex_8e157 0 = .ok (.iload_n 0, 1) := by decide +kernel
theorem dJ3_checkIndex_8e157_1 : decode cJ3_checkIndex_8e157 1 = .ok (.ifCond .lt 8, 3) := by decide +kernel
theorem dJ3_checkIndex_8e157_4 : decode cJ3_checkIndex_8e157 4 = .ok (.iload_n 0, 1) := by decide +kernel
theorem dJ3_checkIndex_8e157_5 : decode cJ3_checkIndex_8e157 5 = .ok (.iload_n 1, 1) := by decide +kernel
theorem dJ3_checkIndex_8e157_6 : decode cJ3_checkIndex_8e157 6 = .ok (.if_icmp .lt 10, 3) := by decide +kernel
theorem dJ3_checkIndex_8e157_9 : decode cJ3_checkIndex_8e157 9 = .ok (.aload_n 2, 1) := by decide +kernel
theorem dJ3_checkIndex_8e157_10 : decode cJ3_checkIndex_8e157 10 = .ok (.iload_n 0, 1) := by decide +kernel
theorem dJ3_checkIndex_8e157_11 : decode cJ3_checkIndex_8e157 11 = .ok (.iload_n 1, 1) := by decide +kernel
theorem dJ3_checkIndex_8e157_12 : decode cJ3_checkIndex_8e157 12 = .ok (.invokestatic 95, 3) := by decide +kernel
theorem dJ3_checkIndex_8e157_15 : decode cJ3_checkIndex_8e157 15 = .ok (.athrow, 1) := by decide +kernel
theorem dJ3_checkIndex_8e157_16 : decode cJ3_checkIndex_8e157 16 = .ok (.iload_n 0, 1) := by decide +kernel
theorem dJ3_checkIndex_8e157_17 : decode cJ3_checkIndex_8e157 17 = .ok (.ireturn, 1) := by decide +kernel
set_option maxRecDepth 20000 in
theorem ggL_setRates_X2_setRates : GoodIn wsL_setRates wsX2_setRates := goodIn_ca (goodIn_ca (goodIn_r _ [7, 8, 9, 10, 11, 12, 6, 13, 14, 15, 16, 17, 18, 19, 20, 21, 22, 23, 24, 25, 26, 27, 28, 29, 30, 31, 32, 33, 34, 35, 36, 37, 38, 39, 40, 41, 42, 43, 44, 45, 46] (by decide +kernel) (by decide +kernel)) (goodIn_sub (fun _ h => List.mem_cons_of_mem _ (List.mem_append_left _ (List.mem_append_right _ h))) (by decide +kernel))) (goodIn_sub (fun _ h => List.mem_cons_of_mem _ (List.mem_append_right _ h)) (by decide +kernel))
set_option maxRecDepth 20000 in
theorem gL_setRates_X2_setRates : GoodIn wsL_setRates (wsV RL 7 RX2 yX2_setRates wsX2_setRates) := goodIn_app (goodIn_of _ (by decide +kernel)) ggL_setRates_X2_setRates
theorem dL_setRates_0 : decode cL_setRates 0 = .ok (.aload_n 0, 1) := by decide +kernel
theorem dL_setRates_1 : decode cL_setRates 1 = .ok (.iload_n 1, 1) := by decide +kernel
theorem dL_setRates_2 : decode cL_setRates 2 = .ok (.iload_n 2, 1) := by decide +kernel
theorem dL_setRates_3 : decode cL_setRates 3 = .ok (.iload_n 3, 1) := by decide +kernel
theorem dL_setRates_4 : decode cL_setRates 4 = .ok (.iload 4, 2) := by decide +kernel
theorem dL_setRates_6 : decode cL_setRates 6 = .ok (.invokevirtual 7, 3) := by decide +kernel
theorem dL_setRates_9 : decode cL_setRates 9 = .ok (.goto 11, 3) := by decide +kernel
theorem dL_setRates_12 : decode cL_setRates 12 = .ok (.astore 5, 2) := by decide +kernel
theorem dL_setRates_14 : decode cL_setRates 14 = .ok (.iconst 1, 1) := by decide +kernel
theorem dL_setRates_15 : decode cL_setRates 15 = .ok (.ireturn, 1) := by decide +kernel
theorem dL_setRates_16 : decode cL_setRates 16 = .ok (.astore 5, 2) := by decide +kernel
theorem dL_setRates_18 : decode cL_setRates 18 = .ok (.iconst 2, 1) := by decide +kernel
theorem dL_setRates_19 : decode cL_setRates 19 = .ok (.ireturn, 1) := by decide +kernel
theorem dL_setRates_20 : decode cL_setRates 20 = .ok (.iconst 0, 1) := by decide +kernel
theorem dL_setRates_21 : decode cL_setRates 21 = .ok (.ireturn, 1) := by decide +kernel
set_option maxRecDepth 20000 in
theorem ggL_setFee_X2_setFee : GoodIn wsL_setFee wsX2_setFee := goodIn_ca (goodIn_ca (goodIn_r _ [7, 8, 9, 10, 6, 11, 12, 13, 14, 15, 16, 17, 18, 19, 20, 21, 22, 23, 24, 25, 26, 27, 28, 29, 30, 31, 32, 33, 34, 35, 36, 37, 38, 39, 40, 41, 42, 43, 44, 45, 46, 47] (by decide +kernel) (by decide +kernel)) (goodIn_sub (fun _ h => List.mem_cons_of_mem _ (List.mem_append_left _ (List.mem_append_right _ h))) (by decide +kernel))) (goodIn_sub (fun _ h => List.mem_cons_of_mem _ (List.mem_append_right _ h)) (by decide +kernel))
set_option maxRecDepth 20000 in
theorem gL_setFee_X2_setFee : GoodIn wsL_setFee (wsV RL 17 RX2 yX2_setFee wsX2_setFee) := goodIn_app (goodIn_of _ (by decide +kernel)) ggL_setFee_X2_setFee
theorem dL_setFee_0 : decode cL_setFee 0 = .ok (.aload 4, 2) := by decide +kernel
theorem dL_setFee_2 : decode cL_setFee 2 = .ok (.iconst 0, 1) := by decide +kernel
theorem dL_setFee_3 : decode cL_setFee 3 = .ok (.aload_n 0, 1) := by decide +kernel
theorem dL_setFee_4 : decode cL_setFee 4 = .ok (.iload_n 1, 1) := by decide +kernel
theorem dL_setFee_5 : decode cL_setFee 5 = .ok (.iload_n 2, 1) := by decide +kernel
theorem dL_setFee_6 : decode cL_setFee 6 = .ok (.iload_n 3, 1) := by decide +kernel
theorem dL_setFee_7 : decode cL_setFee 7 = .ok (.invokevirtual 17, 3) := by decide +kernel
theorem dL_setFee_10 : decode cL_setFee 10 = .ok (.i2l, 1) := by decide +kernel
theorem dL_setFee_11 : decode cL_setFee 11 = .ok (.lastore, 1) := by decide +kernel
theorem dL_setFee_12 : decode cL_setFee 12 = .ok (.goto 11, 3) := by decide +kernel
theorem dL_setFee_15 : decode cL_setFee 15 = .ok (.astore 5, 2) := by decide +kernel
theorem dL_setFee_17 : decode cL_setFee 17 = .ok (.iconst 1, 1) := by decide +kernel
theorem dL_setFee_18 : decode cL_setFee 18 = .ok (.ireturn, 1) := by decide +kernel
theorem dL_setFee_19 : decode cL_setFee 19 = .ok (.astore 5, 2) := by decide +kernel
theorem dL_setFee_21 : decode cL_setFee 21 = .ok (.iconst 2, 1) := by decide +kernel
theorem dL_setFee_22 : decode cL_setFee 22 = .ok (.ireturn, 1) := by decide +kernel
theorem dL_setFee_23 : decode cL_setFee 23 = .ok (.iconst 0, 1) := by decide +kernel
theorem dL_setFee_24 : decode cL_setFee 24 = .ok (.ireturn, 1) := by decide +kernel
set_option maxRecDepth 20000 in
theorem ggL_add_X2_add : GoodIn wsL_add wsX2_add := goodIn_ca (goodIn_ca (goodIn_ca (goodIn_r _ [8, 9, 10, 11, 12, 13, 14, 15, 16, 17, 18, 19, 20, 7, 21, 22, 23, 24, 25, 26, 27, 28, 29, 30, 31, 32, 33, 34, 35, 36, 37, 38, 39, 40, 41, 42, 43, 44, 45, 46, 47, 48, 49, 50, 51, 52, 53, 54, 55, 56, 57, 58, 59, 60, 61, 62, 63, 64, 65, 66, 67, 68, 69, 70, 71, 72, 73, 74, 75, 76, 77, 78, 79, 80, 81, 82, 83, 84, 85, 86, 87, 88, 89, 90, 91, 92, 93, 94, 95, 96, 97, 98, 99, 100, 101, 102, 103, 104, 105, 106, 107, 108, 109, 110, 111, 112, 113, 114, 115, 116, 117, 118, 119, 120, 121, 122, 123, 124, 125, 126, 127, 128, 129, 130, 131, 132, 133, 134, 135, 136, 137, 138, 139, 140, 141, 142, 143, 144, 145, 146, 147, 148, 149, 150, 151, 152, 153, 154, 155, 156, 157, 158, 159, 160, 161, 162, 163, 164, 165, 166, 167] (by decide +kernel) (by decide +kernel)) (goodIn_sub (fun _ h => List.mem_cons_of_mem _ (List.mem_append_left _ (List.mem_append_left _ (List.mem_append_right _ h)))) (by decide +kernel))) (goodIn_sub (fun _ h => List.mem_cons_of_mem _ (List.mem_append_left _ (List.mem_append_right _ h))) (by decide +kernel))) (goodIn_sub (fun _ h => List.mem_cons_of_mem _ (List.mem_append_right _ h)) (by decide +kernel))
set_option maxRecDepth 20000 in
theorem gL_add_X2_add : GoodIn wsL_add (wsV RL 21 RX2 yX2_add wsX2_add) := goodIn_app (goodIn_of _ (by decide +kernel)) ggL_add_X2_add
theorem dL_add_0 : decode cL_add 0 = .ok (.aload 6, 2) := by decide +kernel
theorem dL_add_2 : decode cL_add 2 = .ok (.iconst 0, 1) := by decide +kernel
theorem dL_add_3 : decode cL_add 3 = .ok (.aload_n 0, 1) := by decide +kernel
theorem dL_add_4 : decode cL_add 4 = .ok (.iload_n 1, 1) := by decide +kernel
theorem dL_add_5 : decode cL_add 5 = .ok (.iload_n 2, 1) := by decide +kernel
theorem dL_add_6 : decode cL_add 6 = .ok (.iload_n 3, 1) := by decide +kernel
theorem dL_add_7 : decode cL_add 7 = .ok (.iload 4, 2) := by decide +kernel
theorem dL_add_9 : decode cL_add 9 = .ok (.iload 5, 2) := by decide +kernel
theorem dL_add_11 : decode cL_add 11 = .ok (.invokevirtual 21, 3) := by decide +kernel
theorem dL_add_14 : decode cL_add 14 = .ok (.i2l, 1) := by decide +kernel
theorem dL_add_15 : decode cL_add 15 = .ok (.lastore, 1) := by decide +kernel
theorem dL_add_16 : decode cL_add 16 = .ok (.goto 15, 3) := by decide +kernel
theorem dL_add_19 : decode cL_add 19 = .ok (.astore 7, 2) := by decide +kernel
theorem dL_add_21 : decode cL_add 21 = .ok (.iconst 1, 1) := by decide +kernel
theorem dL_add_22 : decode cL_add 22 = .ok (.ireturn, 1) := by decide +kernel
theorem dL_add_23 : decode cL_add 23 = .ok (.astore 7, 2) := by decide +kernel
theorem dL_add_25 : decode cL_add 25 = .ok (.iconst 2, 1) := by decide +kernel
theorem dL_add_26 : decode cL_add 26 = .ok (.ireturn, 1) := by decide +kernel
theorem dL_add_27 : decode cL_add 27 = .ok (.astore 7, 2) := by decide +kernel
theorem dL_add_29 : decode cL_add 29 = .ok (.iconst 3, 1) := by decide +kernel
theorem dL_add_30 : decode cL_add 30 = .ok (.ireturn, 1) := by decide +kernel
theorem dL_add_31 : decode cL_add 31 = .ok (.iconst 0, 1) := by decide +kernel
theorem dL_add_32 : decode cL_add 32 = .ok (.ireturn, 1) := by decide +kernel
set_option maxRecDepth 20000 in
theorem ggL_receive_X2_receive : GoodIn wsL_receive wsX2_receive := goodIn_ca (goodIn_ca (goodIn_r _ [7, 8, 9, 10, 11, 12, 6, 13, 14, 15, 16, 17, 18, 19, 20, 21, 22, 23, 24, 25, 26, 27, 28, 29, 30, 31, 32, 33, 34, 35, 36, 37, 38, 39, 40, 41, 42, 43, 44, 45, 46, 47, 48, 49] (by decide +kernel) (by decide +kernel)) (goodIn_sub (fun _ h => List.mem_cons_of_mem _ (List.mem_append_left _ (List.mem_append_right _ h))) (by decide +kernel))) (goodIn_sub (fun _ h => List.mem_cons_of_mem _ (List.mem_append_right _ h)) (by decide +kernel))
set_option maxRecDepth 20000 in
theorem gL_receive_X2_receive : GoodIn wsL_receive (wsV RL 27 RX2 yX2_receive wsX2_receive) := goodIn_app (goodIn_of _ (by decide +kernel)) ggL_receive_X2_receive
theorem dL_receive_0 : decode cL_receive 0 = .ok (.aload 4, 2) := by decide +kernel
theorem dL_receive_2 : decode cL_receive 2 = .ok (.iconst 0, 1) := by decide +kernel
theorem dL_receive_3 : decode cL_receive 3 = .ok (.aload_n 0, 1) := by decide +kernel
theorem dL_receive_4 : decode cL_receive 4 = .ok (.iload_n 1, 1) := by decide +kernel
theorem dL_receive_5 : decode cL_receive 5 = .ok (.iload_n 2, 1) := by decide +kernel
theorem dL_receive_6 : decode cL_receive 6 = .ok (.iload_n 3, 1) := by decide +kernel
theorem dL_receive_7 : decode cL_receive 7 = .ok (.invokevirtual 27, 3) := by decide +kernel
theorem dL_receive_10 : decode cL_receive 10 = .ok (.i2l, 1) := by decide +kernel
theorem dL_receive_11 : decode cL_receive 11 = .ok (.lastore, 1) := by decide +kernel
theorem dL_receive_12 : decode cL_receive 12 = .ok (.goto 11, 3) := by decide +kernel
theorem dL_receive_15 : decode cL_receive 15 = .ok (.astore 5, 2) := by decide +kernel
theorem dL_receive_17 : decode cL_receive 17 = .ok (.iconst 1, 1) := by decide +kernel
theorem dL_receive_18 : decode cL_receive 18 = .ok (.ireturn, 1) := by decide +kernel
theorem dL_receive_19 : decode cL_receive 19 = .ok (.astore 5, 2) := by decide +kernel
theorem dL_receive_21 : decode cL_receive 21 = .ok (.iconst 2, 1) := by decide +kernel
theorem dL_receive_22 : decode cL_receive 22 = .ok (.ireturn, 1) := by decide +kernel
theorem dL_receive_23 : decode cL_receive 23 = .ok (.iconst 0, 1) := by decide +kernel
theorem dL_receive_24 : decode cL_receive 24 = .ok (.ireturn, 1) := by decide +kernel
set_option maxRecDepth 20000 in
theorem ggL_spend_X2_spend : GoodIn wsL_spend wsX2_spend := goodIn_ca (goodIn_ca (goodIn_r _ [7, 8, 9, 10, 11, 12, 6, 13, 14, 15, 16, 17, 18, 19, 20, 21, 22, 23, 24, 25, 26, 27, 28, 29, 30, 31, 32, 33, 34, 35, 36, 37, 38, 39, 40, 41, 42, 43, 44, 45, 46] (by decide +kernel) (by decide +kernel)) (goodIn_sub (fun _ h => List.mem_cons_of_mem _ (List.mem_append_left _ (List.mem_append_right _ h))) (by decide +kernel))) (goodIn_sub (fun _ h => List.mem_cons_of_mem _ (List.mem_append_right _ h)) (by decide +kernel))
set_option maxRecDepth 20000 in
theorem gL_spend_X2_spend : GoodIn wsL_spend (wsV RL 30 RX2 yX2_spend wsX2_spend) := goodIn_app (goodIn_of _ (by decide +kernel)) ggL_spend_X2_spend
theorem dL_spend_0 : decode cL_spend 0 = .ok (.aload_n 3, 1) := by decide +kernel
theorem dL_spend_1 : decode cL_spend 1 = .ok (.iconst 0, 1) := by decide +kernel
theorem dL_spend_2 : decode cL_spend 2 = .ok (.aload_n 0, 1) := by decide +kernel
theorem dL_spend_3 : decode cL_spend 3 = .ok (.iload_n 1, 1) := by decide +kernel
theorem dL_spend_4 : decode cL_spend 4 = .ok (.iload_n 2, 1) := by decide +kernel
theorem dL_spend_5 : decode cL_spend 5 = .ok (.invokevirtual 30, 3) := by decide +kernel
theorem dL_spend_8 : decode cL_spend 8 = .ok (.i2l, 1) := by decide +kernel
theorem dL_spend_9 : decode cL_spend 9 = .ok (.lastore, 1) := by decide +kernel
theorem dL_spend_10 : decode cL_spend 10 = .ok (.goto 11, 3) := by decide +kernel
theorem dL_spend_13 : decode cL_spend 13 = .ok (.astore 4, 2) := by decide +kernel
theorem dL_spend_15 : decode cL_spend 15 = .ok (.iconst 1, 1) := by decide +kernel
theorem dL_spend_16 : decode cL_spend 16 = .ok (.ireturn, 1) := by decide +kernel
theorem dL_spend_17 : decode cL_spend 17 = .ok (.astore 4, 2) := by decide +kernel
theorem dL_spend_19 : decode cL_spend 19 = .ok (.iconst 2, 1) := by decide +kernel
theorem dL_spend_20 : decode cL_spend 20 = .ok (.ireturn, 1) := by decide +kernel
theorem dL_spend_21 : decode cL_spend 21 = .ok (.iconst 0, 1) := by decide +kernel
theorem dL_spend_22 : decode cL_spend 22 = .ok (.ireturn, 1) := by decide +kernel
set_option maxRecDepth 20000 in
theorem ggL_audit_X2_audit : GoodIn wsL_audit wsX2_audit := goodIn_ca (goodIn_ca (goodIn_ca (goodIn_r _ [8, 9, 10, 11, 12, 7, 13, 14, 15, 16, 17, 18, 19, 20, 21, 22, 23, 24, 25, 26, 27, 28, 29, 30, 31, 32, 33, 34, 35, 36, 37, 38, 39, 40, 41, 42, 43, 44, 45, 46, 47, 48, 49, 50, 51, 52, 53, 54, 55, 56] (by decide +kernel) (by decide +kernel)) (goodIn_sub (fun _ h => List.mem_cons_of_mem _ (List.mem_append_left _ (List.mem_append_left _ (List.mem_append_right _ h)))) (by decide +kernel))) (goodIn_sub (fun _ h => List.mem_cons_of_mem _ (List.mem_append_left _ (List.mem_append_right _ h))) (by decide +kernel))) (goodIn_sub (fun _ h => List.mem_cons_of_mem _ (List.mem_append_right _ h)) (by decide +kernel))
set_option maxRecDepth 20000 in
theorem gL_audit_X2_audit : GoodIn wsL_audit (wsV RL 34 RX2 yX2_audit wsX2_audit) := goodIn_app (goodIn_of _ (by decide +kernel)) ggL_audit_X2_audit
theorem dL_audit_0 : decode cL_audit 0 = .ok (.aload 5, 2) := by decide +kernel
theorem dL_audit_2 : decode cL_audit 2 = .ok (.iconst 0, 1) := by decide +kernel
theorem dL_audit_3 : decode cL_audit 3 = .ok (.aload_n 0, 1) := by decide +kernel
theorem dL_audit_4 : decode cL_audit 4 = .ok (.iload_n 1, 1) := by decide +kernel
theorem dL_audit_5 : decode cL_audit 5 = .ok (.iload_n 2, 1) := by decide +kernel
theorem dL_audit_6 : decode cL_audit 6 = .ok (.iload_n 3, 1) := by decide +kernel
theorem dL_audit_7 : decode cL_audit 7 = .ok (.iload 4, 2) := by decide +kernel
theorem dL_audit_9 : decode cL_audit 9 = .ok (.invokevirtual 34, 3) := by decide +kernel
theorem dL_audit_12 : decode cL_audit 12 = .ok (.i2l, 1) := by decide +kernel
theorem dL_audit_13 : decode cL_audit 13 = .ok (.lastore, 1) := by decide +kernel
theorem dL_audit_14 : decode cL_audit 14 = .ok (.goto 15, 3) := by decide +kernel
theorem dL_audit_17 : decode cL_audit 17 = .ok (.astore 6, 2) := by decide +kernel
theorem dL_audit_19 : decode cL_audit 19 = .ok (.iconst 1, 1) := by decide +kernel
theorem dL_audit_20 : decode cL_audit 20 = .ok (.ireturn, 1) := by decide +kernel
theorem dL_audit_21 : decode cL_audit 21 = .ok (.astore 6, 2) := by decide +kernel
theorem dL_audit_23 : decode cL_audit 23 = .ok (.iconst 2, 1) := by decide +kernel
theorem dL_audit_24 : decode cL_audit 24 = .ok (.ireturn, 1) := by decide +kernel
theorem dL_audit_25 : decode cL_audit 25 = .ok (.astore 6, 2) := by decide +kernel
theorem dL_audit_27 : decode cL_audit 27 = .ok (.iconst 3, 1) := by decide +kernel
theorem dL_audit_28 : decode cL_audit 28 = .ok (.ireturn, 1) := by decide +kernel
theorem dL_audit_29 : decode cL_audit 29 = .ok (.iconst 0, 1) := by decide +kernel
theorem dL_audit_30 : decode cL_audit 30 = .ok (.ireturn, 1) := by decide +kernel
set_option maxRecDepth 20000 in
theorem ggL_closeYear_X2_closeYear : GoodIn wsL_closeYear wsX2_closeYear := goodIn_ca (goodIn_r _ [6, 7, 8, 9, 10, 11, 12, 13, 14] (by decide +kernel) (by decide +kernel)) (goodIn_sub (fun _ h => List.mem_cons_of_mem _ (List.mem_append_right _ h)) (by decide +kernel))
set_option maxRecDepth 20000 in
theorem gL_closeYear_X2_closeYear : GoodIn wsL_closeYear (wsV RL 38 RX2 yX2_closeYear wsX2_closeYear) := goodIn_app (goodIn_of _ (by decide +kernel)) ggL_closeYear_X2_closeYear
theorem dL_closeYear_0 : decode cL_closeYear 0 = .ok (.aload_n 1, 1) := by decide +kernel
theorem dL_closeYear_1 : decode cL_closeYear 1 = .ok (.iconst 0, 1) := by decide +kernel
theorem dL_closeYear_2 : decode cL_closeYear 2 = .ok (.aload_n 0, 1) := by decide +kernel
theorem dL_closeYear_3 : decode cL_closeYear 3 = .ok (.invokevirtual 38, 3) := by decide +kernel
theorem dL_closeYear_6 : decode cL_closeYear 6 = .ok (.i2l, 1) := by decide +kernel
theorem dL_closeYear_7 : decode cL_closeYear 7 = .ok (.lastore, 1) := by decide +kernel
theorem dL_closeYear_8 : decode cL_closeYear 8 = .ok (.goto 6, 3) := by decide +kernel
theorem dL_closeYear_11 : decode cL_closeYear 11 = .ok (.astore_n 2, 1) := by decide +kernel
theorem dL_closeYear_12 : decode cL_closeYear 12 = .ok (.iconst 1, 1) := by decide +kernel
theorem dL_closeYear_13 : decode cL_closeYear 13 = .ok (.ireturn, 1) := by decide +kernel
theorem dL_closeYear_14 : decode cL_closeYear 14 = .ok (.iconst 0, 1) := by decide +kernel
theorem dL_closeYear_15 : decode cL_closeYear 15 = .ok (.ireturn, 1) := by decide +kernel
set_option maxRecDepth 20000 in
theorem ggL_pay_X2_pay : GoodIn wsL_pay wsX2_pay := goodIn_ca (goodIn_ca (goodIn_r _ [7, 8, 9, 10, 11, 12, 13, 14, 15, 6, 16, 17, 18, 19, 20, 21, 22, 23, 24, 25, 26, 27, 28, 29, 30, 31, 32, 33, 34, 35, 36, 37, 38, 39, 40, 41, 42, 43, 44, 45, 46, 47, 48, 49, 50, 51, 52, 53, 54, 55, 56, 57, 58, 59, 60, 61, 62, 63, 64, 65, 66, 67, 68, 69, 70, 71, 72, 73, 74, 75, 76, 77, 78, 79, 80, 81, 82, 83, 84, 85, 86, 87, 88, 89, 90, 91, 92, 93, 94, 95, 96, 97, 98, 99, 100, 101, 102, 103, 104, 105, 106, 107, 108, 109, 110, 111, 112, 113, 114, 115, 116, 117, 118, 119, 120, 121, 122, 123, 124, 125, 126, 127, 128, 129, 130, 131, 132, 133, 134, 135, 136, 137, 138, 139, 140, 141, 142, 143, 144, 145, 146, 147, 148, 149, 150, 151, 152, 153, 154, 155, 156, 157, 158, 159, 160, 161, 162, 163, 164, 165, 166, 167, 168] (by decide +kernel) (by decide +kernel)) (goodIn_sub (fun _ h => List.mem_cons_of_mem _ (List.mem_append_left _ (List.mem_append_right _ h))) (by decide +kernel))) (goodIn_sub (fun _ h => List.mem_cons_of_mem _ (List.mem_append_right _ h)) (by decide +kernel))
set_option maxRecDepth 20000 in
theorem gL_pay_X2_pay : GoodIn wsL_pay (wsV RL 42 RX2 yX2_pay wsX2_pay) := goodIn_app (goodIn_of _ (by decide +kernel)) ggL_pay_X2_pay
theorem dL_pay_0 : decode cL_pay 0 = .ok (.aload_n 2, 1) := by decide +kernel
theorem dL_pay_1 : decode cL_pay 1 = .ok (.iconst 0, 1) := by decide +kernel
theorem dL_pay_2 : decode cL_pay 2 = .ok (.aload_n 0, 1) := by decide +kernel
theorem dL_pay_3 : decode cL_pay 3 = .ok (.iload_n 1, 1) := by decide +kernel
theorem dL_pay_4 : decode cL_pay 4 = .ok (.invokevirtual 42, 3) := by decide +kernel
theorem dL_pay_7 : decode cL_pay 7 = .ok (.i2l, 1) := by decide +kernel
theorem dL_pay_8 : decode cL_pay 8 = .ok (.lastore, 1) := by decide +kernel
theorem dL_pay_9 : decode cL_pay 9 = .ok (.goto 9, 3) := by decide +kernel
theorem dL_pay_12 : decode cL_pay 12 = .ok (.astore_n 3, 1) := by decide +kernel
theorem dL_pay_13 : decode cL_pay 13 = .ok (.iconst 1, 1) := by decide +kernel
theorem dL_pay_14 : decode cL_pay 14 = .ok (.ireturn, 1) := by decide +kernel
theorem dL_pay_15 : decode cL_pay 15 = .ok (.astore_n 3, 1) := by decide +kernel
theorem dL_pay_16 : decode cL_pay 16 = .ok (.iconst 2, 1) := by decide +kernel
theorem dL_pay_17 : decode cL_pay 17 = .ok (.ireturn, 1) := by decide +kernel
theorem dL_pay_18 : decode cL_pay 18 = .ok (.iconst 0, 1) := by decide +kernel
theorem dL_pay_19 : decode cL_pay 19 = .ok (.ireturn, 1) := by decide +kernel
set_option maxRecDepth 20000 in
theorem ggL_gross_X2_gross : GoodIn wsL_gross wsX2_gross := goodIn_ca (goodIn_r _ [6, 7, 8, 9, 5, 10, 11, 12, 13, 14, 15, 16, 17, 18, 19, 20, 21, 22, 23, 24, 25, 26, 27, 28, 29, 30, 31, 32, 33, 34, 35, 36, 37, 38, 39, 40, 41, 42, 43, 44, 45, 46, 47, 48, 49, 50, 51, 52, 53, 54, 55, 56, 57, 58, 59, 60, 61, 62, 63, 64, 65, 66, 67, 68, 69, 70, 71, 72, 73, 74, 75, 76, 77, 78, 79, 80, 81, 82, 83, 84, 85, 86, 87, 88, 89, 90, 91, 92, 93, 94, 95, 96, 97, 98, 99, 100, 101, 102, 103, 104, 105, 106, 107, 108, 109, 110, 111, 112, 113, 114, 115, 116, 117, 118, 119, 120, 121, 122, 123, 124, 125, 126, 127, 128, 129, 130, 131, 132, 133, 134, 135, 136, 137, 138, 139, 140, 141, 142, 143, 144, 145] (by decide +kernel) (by decide +kernel)) (goodIn_sub (fun _ h => List.mem_cons_of_mem _ (List.mem_append_right _ h)) (by decide +kernel))
set_option maxRecDepth 20000 in
theorem gL_gross_X2_gross : GoodIn wsL_gross (wsV RL 46 RX2 yX2_gross wsX2_gross) := goodIn_app (goodIn_of _ (by decide +kernel)) ggL_gross_X2_gross
theorem dL_gross_0 : decode cL_gross 0 = .ok (.aload_n 2, 1) := by decide +kernel
theorem dL_gross_1 : decode cL_gross 1 = .ok (.iconst 0, 1) := by decide +kernel
theorem dL_gross_2 : decode cL_gross 2 = .ok (.aload_n 0, 1) := by decide +kernel
theorem dL_gross_3 : decode cL_gross 3 = .ok (.iload_n 1, 1) := by decide +kernel
theorem dL_gross_4 : decode cL_gross 4 = .ok (.invokevirtual 46, 3) := by decide +kernel
theorem dL_gross_7 : decode cL_gross 7 = .ok (.i2l, 1) := by decide +kernel
theorem dL_gross_8 : decode cL_gross 8 = .ok (.lastore, 1) := by decide +kernel
theorem dL_gross_9 : decode cL_gross 9 = .ok (.goto 6, 3) := by decide +kernel
theorem dL_gross_12 : decode cL_gross 12 = .ok (.astore_n 3, 1) := by decide +kernel
theorem dL_gross_13 : decode cL_gross 13 = .ok (.iconst 1, 1) := by decide +kernel
theorem dL_gross_14 : decode cL_gross 14 = .ok (.ireturn, 1) := by decide +kernel
theorem dL_gross_15 : decode cL_gross 15 = .ok (.iconst 0, 1) := by decide +kernel
theorem dL_gross_16 : decode cL_gross 16 = .ok (.ireturn, 1) := by decide +kernel
set_option maxRecDepth 20000 in
theorem ggL_adjusted_X2_adjusted : GoodIn wsL_adjusted wsX2_adjusted := goodIn_ca (goodIn_r _ [6, 7, 8, 9, 5, 10, 11, 12, 13, 14, 15, 16, 17, 18, 19, 20, 21, 22, 23, 24, 25, 26, 27, 28, 29, 30, 31, 32, 33, 34, 35, 36, 37, 38, 39, 40, 41, 42, 43, 44, 45, 46, 47, 48, 49, 50, 51, 52, 53, 54, 55, 56, 57, 58, 59, 60, 61, 62, 63, 64, 65, 66, 67, 68, 69, 70, 71, 72, 73, 74, 75, 76, 77, 78, 79, 80, 81, 82, 83, 84, 85, 86, 87, 88, 89, 90, 91, 92, 93, 94, 95, 96, 97, 98, 99, 100, 101, 102, 103, 104, 105, 106, 107, 108, 109, 110, 111, 112, 113, 114, 115, 116, 117, 118, 119, 120, 121, 122, 123, 124, 125, 126, 127, 128, 129, 130, 131, 132, 133, 134, 135, 136, 137, 138, 139, 140, 141, 142, 143, 144, 145] (by decide +kernel) (by decide +kernel)) (goodIn_sub (fun _ h => List.mem_cons_of_mem _ (List.mem_append_right _ h)) (by decide +kernel))
set_option maxRecDepth 20000 in
theorem gL_adjusted_X2_adjusted : GoodIn wsL_adjusted (wsV RL 49 RX2 yX2_adjusted wsX2_adjusted) := goodIn_app (goodIn_of _ (by decide +kernel)) ggL_adjusted_X2_adjusted
theorem dL_adjusted_0 : decode cL_adjusted 0 = .ok (.aload_n 2, 1) := by decide +kernel
theorem dL_adjusted_1 : decode cL_adjusted 1 = .ok (.iconst 0, 1) := by decide +kernel
theorem dL_adjusted_2 : decode cL_adjusted 2 = .ok (.aload_n 0, 1) := by decide +kernel
theorem dL_adjusted_3 : decode cL_adjusted 3 = .ok (.iload_n 1, 1) := by decide +kernel
theorem dL_adjusted_4 : decode cL_adjusted 4 = .ok (.invokevirtual 49, 3) := by decide +kernel
theorem dL_adjusted_7 : decode cL_adjusted 7 = .ok (.i2l, 1) := by decide +kernel
theorem dL_adjusted_8 : decode cL_adjusted 8 = .ok (.lastore, 1) := by decide +kernel
theorem dL_adjusted_9 : decode cL_adjusted 9 = .ok (.goto 6, 3) := by decide +kernel
theorem dL_adjusted_12 : decode cL_adjusted 12 = .ok (.astore_n 3, 1) := by decide +kernel
theorem dL_adjusted_13 : decode cL_adjusted 13 = .ok (.iconst 1, 1) := by decide +kernel
theorem dL_adjusted_14 : decode cL_adjusted 14 = .ok (.ireturn, 1) := by decide +kernel
theorem dL_adjusted_15 : decode cL_adjusted 15 = .ok (.iconst 0, 1) := by decide +kernel
theorem dL_adjusted_16 : decode cL_adjusted 16 = .ok (.ireturn, 1) := by decide +kernel
set_option maxRecDepth 20000 in
theorem ggL_fees_X2_fees : GoodIn wsL_fees wsX2_fees := goodIn_ca (goodIn_r _ [6, 7, 8, 9, 5, 10, 11, 12, 13, 14, 15, 16, 17, 18, 19, 20, 21, 22, 23, 24, 25, 26, 27, 28, 29, 30, 31, 32, 33, 34, 35, 36, 37, 38, 39, 40, 41, 42, 43, 44, 45, 46, 47, 48, 49, 50, 51, 52, 53, 54, 55, 56, 57, 58, 59, 60, 61, 62, 63, 64, 65, 66, 67, 68, 69, 70, 71, 72, 73, 74, 75, 76, 77, 78, 79, 80, 81, 82, 83, 84, 85, 86, 87, 88, 89, 90, 91, 92, 93, 94, 95, 96, 97, 98, 99, 100, 101, 102, 103, 104, 105, 106, 107, 108, 109, 110, 111, 112, 113, 114, 115, 116, 117, 118, 119, 120, 121, 122, 123, 124, 125, 126, 127, 128, 129, 130, 131, 132, 133, 134, 135, 136, 137, 138, 139, 140, 141, 142, 143, 144, 145] (by decide +kernel) (by decide +kernel)) (goodIn_sub (fun _ h => List.mem_cons_of_mem _ (List.mem_append_right _ h)) (by decide +kernel))
set_option maxRecDepth 20000 in
theorem gL_fees_X2_fees : GoodIn wsL_fees (wsV RL 52 RX2 yX2_fees wsX2_fees) := goodIn_app (goodIn_of _ (by decide +kernel)) ggL_fees_X2_fees
theorem dL_fees_0 : decode cL_fees 0 = .ok (.aload_n 2, 1) := by decide +kernel
theorem dL_fees_1 : decode cL_fees 1 = .ok (.iconst 0, 1) := by decide +kernel
theorem dL_fees_2 : decode cL_fees 2 = .ok (.aload_n 0, 1) := by decide +kernel
theorem dL_fees_3 : decode cL_fees 3 = .ok (.iload_n 1, 1) := by decide +kernel
theorem dL_fees_4 : decode cL_fees 4 = .ok (.invokevirtual 52, 3) := by decide +kernel
theorem dL_fees_7 : decode cL_fees 7 = .ok (.i2l, 1) := by decide +kernel
theorem dL_fees_8 : decode cL_fees 8 = .ok (.lastore, 1) := by decide +kernel
theorem dL_fees_9 : decode cL_fees 9 = .ok (.goto 6, 3) := by decide +kernel
theorem dL_fees_12 : decode cL_fees 12 = .ok (.astore_n 3, 1) := by decide +kernel
theorem dL_fees_13 : decode cL_fees 13 = .ok (.iconst 1, 1) := by decide +kernel
theorem dL_fees_14 : decode cL_fees 14 = .ok (.ireturn, 1) := by decide +kernel
theorem dL_fees_15 : decode cL_fees 15 = .ok (.iconst 0, 1) := by decide +kernel
theorem dL_fees_16 : decode cL_fees 16 = .ok (.ireturn, 1) := by decide +kernel
set_option maxRecDepth 20000 in
theorem ggL_balance_X2_balance : GoodIn wsL_balance wsX2_balance := goodIn_ca (goodIn_ca (goodIn_r _ [7, 8, 9, 10, 11, 6, 12, 13, 14, 15, 16, 17, 18, 19, 20, 21, 22, 23, 24, 25, 26, 27, 28, 29, 30, 31, 32, 33, 34, 35, 36, 37, 38, 39, 40, 41, 42, 43, 44, 45, 46, 47, 48, 49, 50, 51, 52, 53, 54, 55, 56, 57, 58, 59, 60, 61, 62, 63, 64, 65, 66, 67, 68, 69, 70, 71, 72, 73, 74, 75, 76, 77, 78, 79, 80, 81, 82, 83, 84, 85, 86, 87, 88, 89, 90, 91, 92, 93, 94, 95, 96, 97, 98, 99, 100, 101, 102, 103, 104, 105, 106, 107, 108, 109, 110, 111, 112, 113, 114, 115, 116, 117, 118, 119, 120, 121, 122, 123, 124, 125, 126, 127, 128, 129, 130, 131, 132, 133, 134, 135, 136, 137, 138, 139, 140, 141, 142, 143, 144, 145, 146, 147, 148, 149, 150, 151] (by decide +kernel) (by decide +kernel)) (goodIn_sub (fun _ h => List.mem_cons_of_mem _ (List.mem_append_left _ (List.mem_append_right _ h))) (by decide +kernel))) (goodIn_sub (fun _ h => List.mem_cons_of_mem _ (List.mem_append_right _ h)) (by decide +kernel))
set_option maxRecDepth 20000 in
theorem gL_balance_X2_balance : GoodIn wsL_balance (wsV RL 55 RX2 yX2_balance wsX2_balance) := goodIn_app (goodIn_of _ (by decide +kernel)) ggL_balance_X2_balance
theorem dL_balance_0 : decode cL_balance 0 = .ok (.aload_n 3, 1) := by decide +kernel
theorem dL_balance_1 : decode cL_balance 1 = .ok (.iconst 0, 1) := by decide +kernel
theorem dL_balance_2 : decode cL_balance 2 = .ok (.aload_n 0, 1) := by decide +kernel
theorem dL_balance_3 : decode cL_balance 3 = .ok (.iload_n 1, 1) := by decide +kernel
theorem dL_balance_4 : decode cL_balance 4 = .ok (.iload_n 2, 1) := by decide +kernel
theorem dL_balance_5 : decode cL_balance 5 = .ok (.invokevirtual 55, 3) := by decide +kernel
theorem dL_balance_8 : decode cL_balance 8 = .ok (.i2l, 1) := by decide +kernel
theorem dL_balance_9 : decode cL_balance 9 = .ok (.lastore, 1) := by decide +kernel
theorem dL_balance_10 : decode cL_balance 10 = .ok (.goto 11, 3) := by decide +kernel
theorem dL_balance_13 : decode cL_balance 13 = .ok (.astore 4, 2) := by decide +kernel
theorem dL_balance_15 : decode cL_balance 15 = .ok (.iconst 1, 1) := by decide +kernel
theorem dL_balance_16 : decode cL_balance 16 = .ok (.ireturn, 1) := by decide +kernel
theorem dL_balance_17 : decode cL_balance 17 = .ok (.astore 4, 2) := by decide +kernel
theorem dL_balance_19 : decode cL_balance 19 = .ok (.iconst 2, 1) := by decide +kernel
theorem dL_balance_20 : decode cL_balance 20 = .ok (.ireturn, 1) := by decide +kernel
theorem dL_balance_21 : decode cL_balance 21 = .ok (.iconst 0, 1) := by decide +kernel
theorem dL_balance_22 : decode cL_balance 22 = .ok (.ireturn, 1) := by decide +kernel
set_option maxRecDepth 20000 in
theorem ggL_profit_X2_profit : GoodIn wsL_profit wsX2_profit := goodIn_ca (goodIn_ca (goodIn_r _ [7, 8, 9, 10, 11, 6, 12, 13, 14, 15, 16, 17, 18, 19, 20, 21, 22, 23, 24, 25, 26, 27, 28, 29, 30, 31, 32, 33, 34, 35, 36, 37, 38, 39, 40, 41, 42, 43, 44, 45, 46, 47, 48, 49, 50, 51, 52, 53, 54, 55, 56, 57, 58, 59, 60, 61, 62, 63, 64, 65, 66, 67, 68, 69, 70, 71, 72, 73, 74, 75, 76, 77, 78, 79, 80, 81, 82, 83, 84, 85, 86, 87, 88, 89, 90, 91, 92, 93, 94, 95, 96, 97, 98, 99, 100, 101, 102, 103, 104, 105, 106, 107, 108, 109, 110, 111, 112, 113, 114, 115, 116, 117, 118, 119, 120, 121, 122, 123, 124, 125, 126, 127, 128, 129, 130, 131, 132, 133, 134, 135, 136, 137, 138, 139, 140, 141, 142, 143, 144, 145, 146, 147, 148, 149, 150, 151] (by decide +kernel) (by decide +kernel)) (goodIn_sub (fun _ h => List.mem_cons_of_mem _ (List.mem_append_left _ (List.mem_append_right _ h))) (by decide +kernel))) (goodIn_sub (fun _ h => List.mem_cons_of_mem _ (List.mem_append_right _ h)) (by decide +kernel))
set_option maxRecDepth 20000 in
theorem gL_profit_X2_profit : GoodIn wsL_profit (wsV RL 58 RX2 yX2_profit wsX2_profit) := goodIn_app (goodIn_of _ (by decide +kernel)) ggL_profit_X2_profit
theorem dL_profit_0 : decode cL_profit 0 = .ok (.aload_n 3, 1) := by decide +kernel
theorem dL_profit_1 : decode cL_profit 1 = .ok (.iconst 0, 1) := by decide +kernel
theorem dL_profit_2 : decode cL_profit 2 = .ok (.aload_n 0, 1) := by decide +kernel
theorem dL_profit_3 : decode cL_profit 3 = .ok (.iload_n 1, 1) := by decide +kernel
theorem dL_profit_4 : decode cL_profit 4 = .ok (.iload_n 2, 1) := by decide +kernel
theorem dL_profit_5 : decode cL_profit 5 = .ok (.invokevirtual 58, 3) := by decide +kernel
theorem dL_profit_8 : decode cL_profit 8 = .ok (.i2l, 1) := by decide +kernel
theorem dL_profit_9 : decode cL_profit 9 = .ok (.lastore, 1) := by decide +kernel
theorem dL_profit_10 : decode cL_profit 10 = .ok (.goto 11, 3) := by decide +kernel
theorem dL_profit_13 : decode cL_profit 13 = .ok (.astore 4, 2) := by decide +kernel
theorem dL_profit_15 : decode cL_profit 15 = .ok (.iconst 1, 1) := by decide +kernel
theorem dL_profit_16 : decode cL_profit 16 = .ok (.ireturn, 1) := by decide +kernel
theorem dL_profit_17 : decode cL_profit 17 = .ok (.astore 4, 2) := by decide +kernel
theorem dL_profit_19 : decode cL_profit 19 = .ok (.iconst 2, 1) := by decide +kernel
theorem dL_profit_20 : decode cL_profit 20 = .ok (.ireturn, 1) := by decide +kernel
theorem dL_profit_21 : decode cL_profit 21 = .ok (.iconst 0, 1) := by decide +kernel
theorem dL_profit_22 : decode cL_profit 22 = .ok (.ireturn, 1) := by decide +kernel
set_option maxRecDepth 20000 in
theorem ggL_pool_X2_pool : GoodIn wsL_pool wsX2_pool := goodIn_ca (goodIn_r _ [6, 7, 8, 5, 9, 10, 11, 12, 13, 14, 15, 16, 17, 18, 19, 20, 21, 22, 23, 24, 25, 26, 27, 28, 29, 30, 31, 32, 33, 34, 35, 36, 37, 38, 39, 40, 41, 42, 43, 44, 45, 46, 47, 48, 49, 50, 51, 52, 53, 54, 55, 56, 57, 58, 59, 60, 61, 62, 63, 64, 65, 66, 67, 68, 69, 70, 71, 72, 73, 74, 75, 76, 77, 78, 79, 80, 81, 82, 83, 84, 85, 86, 87, 88, 89, 90, 91, 92, 93, 94, 95, 96, 97, 98, 99, 100, 101, 102, 103, 104, 105, 106, 107, 108, 109, 110, 111, 112, 113, 114, 115, 116, 117, 118, 119, 120, 121, 122, 123, 124, 125, 126, 127, 128, 129, 130, 131, 132, 133, 134, 135, 136, 137, 138, 139, 140, 141, 142, 143, 144, 145, 146, 147, 148, 149, 150, 151, 152, 153] (by decide +kernel) (by decide +kernel)) (goodIn_sub (fun _ h => List.mem_cons_of_mem _ (List.mem_append_right _ h)) (by decide +kernel))
set_option maxRecDepth 20000 in
theorem gL_pool_X2_pool : GoodIn wsL_pool (wsV RL 61 RX2 yX2_pool wsX2_pool) := goodIn_app (goodIn_of _ (by decide +kernel)) ggL_pool_X2_pool
theorem dL_pool_0 : decode cL_pool 0 = .ok (.aload_n 2, 1) := by decide +kernel
theorem dL_pool_1 : decode cL_pool 1 = .ok (.iconst 0, 1) := by decide +kernel
theorem dL_pool_2 : decode cL_pool 2 = .ok (.aload_n 0, 1) := by decide +kernel
theorem dL_pool_3 : decode cL_pool 3 = .ok (.iload_n 1, 1) := by decide +kernel
theorem dL_pool_4 : decode cL_pool 4 = .ok (.invokevirtual 61, 3) := by decide +kernel
theorem dL_pool_7 : decode cL_pool 7 = .ok (.i2l, 1) := by decide +kernel
theorem dL_pool_8 : decode cL_pool 8 = .ok (.lastore, 1) := by decide +kernel
theorem dL_pool_9 : decode cL_pool 9 = .ok (.goto 6, 3) := by decide +kernel
theorem dL_pool_12 : decode cL_pool 12 = .ok (.astore_n 3, 1) := by decide +kernel
theorem dL_pool_13 : decode cL_pool 13 = .ok (.iconst 1, 1) := by decide +kernel
theorem dL_pool_14 : decode cL_pool 14 = .ok (.ireturn, 1) := by decide +kernel
theorem dL_pool_15 : decode cL_pool 15 = .ok (.iconst 0, 1) := by decide +kernel
theorem dL_pool_16 : decode cL_pool 16 = .ok (.ireturn, 1) := by decide +kernel
set_option maxRecDepth 20000 in
theorem ggL_sum_X2_sum : GoodIn wsL_sum wsX2_sum := goodIn_ca (goodIn_r _ [6, 7, 8, 9, 10, 11, 5, 12, 13, 14, 15, 16, 17, 18, 19, 20, 21, 22, 23, 24, 25, 26, 27, 28, 29, 30, 31, 32, 33, 34, 35, 36, 37, 38, 39, 40, 41, 42, 43, 44, 45, 46, 47, 48, 49, 50, 51, 52, 53, 54, 55, 56, 57, 58, 59, 60, 61, 62, 63, 64, 65, 66, 67, 68, 69, 70, 71, 72, 73, 74, 75, 76, 77, 78, 79, 80, 81, 82, 83, 84, 85, 86, 87, 88, 89, 90, 91, 92, 93, 94, 95, 96, 97, 98, 99, 100, 101, 102, 103, 104, 105, 106, 107, 108, 109, 110, 111, 112, 113, 114, 115, 116, 117, 118, 119, 120, 121, 122, 123, 124, 125, 126, 127, 128, 129, 130, 131, 132, 133, 134, 135, 136, 137, 138, 139, 140, 141, 142, 143, 144, 145, 146, 147, 148, 149, 150, 151, 152, 153, 154, 155, 156, 157, 158, 159, 160, 161, 162, 163, 164] (by decide +kernel) (by decide +kernel)) (goodIn_sub (fun _ h => List.mem_cons_of_mem _ (List.mem_append_right _ h)) (by decide +kernel))
set_option maxRecDepth 20000 in
theorem gL_sum_X2_sum : GoodIn wsL_sum (wsV RL 64 RX2 yX2_sum wsX2_sum) := goodIn_app (goodIn_of _ (by decide +kernel)) ggL_sum_X2_sum
theorem dL_sum_0 : decode cL_sum 0 = .ok (.aload_n 2, 1) := by decide +kernel
theorem dL_sum_1 : decode cL_sum 1 = .ok (.iconst 0, 1) := by decide +kernel
theorem dL_sum_2 : decode cL_sum 2 = .ok (.aload_n 0, 1) := by decide +kernel
theorem dL_sum_3 : decode cL_sum 3 = .ok (.iload_n 1, 1) := by decide +kernel
theorem dL_sum_4 : decode cL_sum 4 = .ok (.invokevirtual 64, 3) := by decide +kernel
theorem dL_sum_7 : decode cL_sum 7 = .ok (.i2l, 1) := by decide +kernel
theorem dL_sum_8 : decode cL_sum 8 = .ok (.lastore, 1) := by decide +kernel
theorem dL_sum_9 : decode cL_sum 9 = .ok (.goto 6, 3) := by decide +kernel
theorem dL_sum_12 : decode cL_sum 12 = .ok (.astore_n 3, 1) := by decide +kernel
theorem dL_sum_13 : decode cL_sum 13 = .ok (.iconst 1, 1) := by decide +kernel
theorem dL_sum_14 : decode cL_sum 14 = .ok (.ireturn, 1) := by decide +kernel
theorem dL_sum_15 : decode cL_sum 15 = .ok (.iconst 0, 1) := by decide +kernel
theorem dL_sum_16 : decode cL_sum 16 = .ok (.ireturn, 1) := by decide +kernel
set_option maxRecDepth 20000 in
theorem ggL_paid_X2_paid : GoodIn wsL_paid wsX2_paid := goodIn_ca (goodIn_r _ [6, 7, 8, 9, 10, 11, 12, 5, 13, 14, 15, 16, 17, 18, 19, 20, 21, 22, 23, 24, 25, 26, 27, 28, 29, 30, 31, 32, 33, 34, 35, 36, 37, 38, 39, 40, 41, 42, 43, 44, 45, 46, 47, 48, 49, 50, 51, 52, 53] (by decide +kernel) (by decide +kernel)) (goodIn_sub (fun _ h => List.mem_cons_of_mem _ (List.mem_append_right _ h)) (by decide +kernel))
set_option maxRecDepth 20000 in
theorem gL_paid_X2_paid : GoodIn wsL_paid (wsV RL 67 RX2 yX2_paid wsX2_paid) := goodIn_app (goodIn_of _ (by decide +kernel)) ggL_paid_X2_paid
theorem dL_paid_0 : decode cL_paid 0 = .ok (.aload_n 2, 1) := by decide +kernel
theorem dL_paid_1 : decode cL_paid 1 = .ok (.iconst 0, 1) := by decide +kernel
theorem dL_paid_2 : decode cL_paid 2 = .ok (.aload_n 0, 1) := by decide +kernel
theorem dL_paid_3 : decode cL_paid 3 = .ok (.iload_n 1, 1) := by decide +kernel
theorem dL_paid_4 : decode cL_paid 4 = .ok (.invokevirtual 67, 3) := by decide +kernel
theorem dL_paid_7 : decode cL_paid 7 = .ok (.i2l, 1) := by decide +kernel
theorem dL_paid_8 : decode cL_paid 8 = .ok (.lastore, 1) := by decide +kernel
theorem dL_paid_9 : decode cL_paid 9 = .ok (.goto 6, 3) := by decide +kernel
theorem dL_paid_12 : decode cL_paid 12 = .ok (.astore_n 3, 1) := by decide +kernel
theorem dL_paid_13 : decode cL_paid 13 = .ok (.iconst 1, 1) := by decide +kernel
theorem dL_paid_14 : decode cL_paid 14 = .ok (.ireturn, 1) := by decide +kernel
theorem dL_paid_15 : decode cL_paid 15 = .ok (.iconst 0, 1) := by decide +kernel
theorem dL_paid_16 : decode cL_paid 16 = .ok (.ireturn, 1) := by decide +kernel
set_option maxRecDepth 20000 in
theorem ggL_owed_X2_owed : GoodIn wsL_owed wsX2_owed := goodIn_ca (goodIn_r _ [6, 7, 8, 9, 10, 11, 12, 5, 13, 14, 15, 16, 17, 18, 19, 20, 21, 22, 23, 24, 25, 26, 27, 28, 29, 30, 31, 32, 33, 34, 35, 36, 37, 38, 39, 40, 41, 42, 43, 44, 45, 46, 47, 48, 49, 50, 51, 52, 53, 54, 55, 56, 57, 58, 59, 60, 61, 62, 63, 64, 65, 66, 67, 68, 69, 70, 71, 72, 73, 74, 75, 76, 77, 78, 79, 80, 81, 82, 83, 84, 85, 86, 87, 88, 89, 90, 91, 92, 93, 94, 95, 96, 97, 98, 99, 100, 101, 102, 103, 104, 105, 106, 107, 108, 109, 110, 111, 112, 113, 114, 115, 116, 117, 118, 119, 120, 121, 122, 123, 124, 125, 126, 127, 128, 129, 130, 131, 132, 133, 134, 135, 136, 137, 138, 139, 140, 141, 142, 143, 144, 145, 146, 147, 148, 149, 150, 151, 152, 153, 154, 155, 156, 157, 158, 159, 160, 161, 162, 163, 164, 165] (by decide +kernel) (by decide +kernel)) (goodIn_sub (fun _ h => List.mem_cons_of_mem _ (List.mem_append_right _ h)) (by decide +kernel))
set_option maxRecDepth 20000 in
theorem gL_owed_X2_owed : GoodIn wsL_owed (wsV RL 70 RX2 yX2_owed wsX2_owed) := goodIn_app (goodIn_of _ (by decide +kernel)) ggL_owed_X2_owed
theorem dL_owed_0 : decode cL_owed 0 = .ok (.aload_n 2, 1) := by decide +kernel
theorem dL_owed_1 : decode cL_owed 1 = .ok (.iconst 0, 1) := by decide +kernel
theorem dL_owed_2 : decode cL_owed 2 = .ok (.aload_n 0, 1) := by decide +kernel
theorem dL_owed_3 : decode cL_owed 3 = .ok (.iload_n 1, 1) := by decide +kernel
theorem dL_owed_4 : decode cL_owed 4 = .ok (.invokevirtual 70, 3) := by decide +kernel
theorem dL_owed_7 : decode cL_owed 7 = .ok (.i2l, 1) := by decide +kernel
theorem dL_owed_8 : decode cL_owed 8 = .ok (.lastore, 1) := by decide +kernel
theorem dL_owed_9 : decode cL_owed 9 = .ok (.goto 6, 3) := by decide +kernel
theorem dL_owed_12 : decode cL_owed 12 = .ok (.astore_n 3, 1) := by decide +kernel
theorem dL_owed_13 : decode cL_owed 13 = .ok (.iconst 1, 1) := by decide +kernel
theorem dL_owed_14 : decode cL_owed 14 = .ok (.ireturn, 1) := by decide +kernel
theorem dL_owed_15 : decode cL_owed 15 = .ok (.iconst 0, 1) := by decide +kernel
theorem dL_owed_16 : decode cL_owed 16 = .ok (.ireturn, 1) := by decide +kernel
set_option maxRecDepth 20000 in
theorem ggL_law_X2_init : GoodIn wsL_law wsX2_init := goodIn_r _ [9, 10, 11, 12, 13, 14, 15, 16, 17, 18, 19, 20, 21, 22, 23, 24, 25, 26, 27, 28, 29, 30, 31, 32, 33, 6, 34, 35, 36, 37, 38, 39, 40, 41, 42, 43, 44, 45, 46, 47, 48, 49, 50, 51, 607, 608, 609, 610, 611, 612, 613, 614, 615, 616, 617, 618, 619, 620, 621, 583, 584, 585, 586, 587, 622, 623, 624] (by decide +kernel) (by decide +kernel)
set_option maxRecDepth 20000 in
theorem gL_law_X2_init : GoodIn wsL_law (wsX2_init) := ggL_law_X2_init
set_option maxRecDepth 20000 in
theorem ggL_law_X3_init : GoodIn wsL_law wsX3_init := goodIn_r _ [54, 55, 11, 12, 28, 56, 57, 58, 59, 60, 61, 62, 63, 64, 65, 66, 67, 6, 68, 69, 70, 588, 589, 590, 591, 592, 593, 594, 595, 596, 597, 598, 599, 600, 601, 602, 603, 604, 605, 606] (by decide +kernel) (by decide +kernel)
set_option maxRecDepth 20000 in
theorem gL_law_X3_init : GoodIn wsL_law (wsX3_init) := ggL_law_X3_init
set_option maxRecDepth 20000 in
theorem ggL_law_L_setRates : GoodIn wsL_law wsL_setRates := goodIn_ca (goodIn_ca (goodIn_r _ [74, 75, 76, 77, 78, 79, 2, 80, 81, 82, 83, 84, 85, 86, 87, 88, 89, 90, 91, 92, 93, 94, 95, 96, 97, 16, 17, 607, 608, 609, 610, 611, 612, 613, 614, 615, 616, 617, 618, 619, 620, 621, 583, 584, 585, 586, 587] (by decide +kernel) (by decide +kernel)) (goodIn_sub (fun _ h => List.mem_append_left _ (List.mem_append_left _ (List.mem_append_right _ h))) (by decide +kernel))) (goodIn_sub (fun _ h => List.mem_append_left _ (List.mem_append_right _ h)) (by decide +kernel))
set_option maxRecDepth 20000 in
theorem gL_law_L_setRates : GoodIn wsL_law (va_wsS RL 77 yL_setRates wsL_setRates) := goodIn_app (goodIn_of _ (by decide +kernel)) ggL_law_L_setRates
set_option maxRecDepth 20000 in
theorem ggL_law_X3_setRates : GoodIn wsL_law wsX3_setRates := goodIn_r _ [101, 102, 59, 60, 61, 103, 104, 5, 105, 106, 107, 108, 109, 110, 111, 112, 588, 589, 590, 591, 592, 593, 594, 595, 596, 597, 598, 599, 600, 601, 602, 603, 604, 605, 606] (by decide +kernel) (by decide +kernel)
set_option maxRecDepth 20000 in
theorem gL_law_X3_setRates : GoodIn wsL_law (wsV RL 82 RX3 yX3_setRates wsX3_setRates) := goodIn_app (goodIn_of _ (by decide +kernel)) ggL_law_X3_setRates
set_option maxRecDepth 20000 in
theorem ggL_law_X3_thrown : GoodIn wsL_law wsX3_thrown := goodIn_r _ [116, 102, 588, 589, 590, 591, 592, 593, 594, 595, 596, 597, 598, 599, 600, 601, 602, 603, 604, 605, 606] (by decide +kernel) (by decide +kernel)
set_option maxRecDepth 20000 in
theorem gL_law_X3_thrown : GoodIn wsL_law (wsV RL 83 RX3 yX3_thrown wsX3_thrown) := goodIn_app (goodIn_of _ (by decide +kernel)) ggL_law_X3_thrown
set_option maxRecDepth 20000 in
theorem ggL_law_L_setFee : GoodIn wsL_law wsL_setFee := goodIn_ca (goodIn_ca (goodIn_r _ [119, 75, 76, 120, 121, 122, 2, 123, 124, 84, 85, 86, 87, 88, 125, 126, 127, 89, 90, 91, 92, 93, 94, 95, 96, 97, 16, 17, 607, 608, 609, 610, 611, 612, 613, 614, 615, 616, 617, 618, 619, 620, 621, 583, 584, 585, 586, 587] (by decide +kernel) (by decide +kernel)) (goodIn_sub (fun _ h => List.mem_append_left _ (List.mem_append_left _ (List.mem_append_right _ h))) (by decide +kernel))) (goodIn_sub (fun _ h => List.mem_append_left _ (List.mem_append_right _ h)) (by decide +kernel))
set_option maxRecDepth 20000 in
theorem gL_law_L_setFee : GoodIn wsL_law (va_wsS RL 86 yL_setFee wsL_setFee) := goodIn_app (goodIn_of _ (by decide +kernel)) ggL_law_L_setFee
set_option maxRecDepth 20000 in
theorem ggL_law_X3_setFee : GoodIn wsL_law wsX3_setFee := goodIn_r _ [131, 102, 58, 132, 133, 5, 134, 103, 104, 105, 106, 107, 108, 109, 110, 111, 112, 588, 589, 590, 591, 592, 593, 594, 595, 596, 597, 598, 599, 600, 601, 602, 603, 604, 605, 606] (by decide +kernel) (by decide +kernel)
set_option maxRecDepth 20000 in
theorem gL_law_X3_setFee : GoodIn wsL_law (wsV RL 89 RX3 yX3_setFee wsX3_setFee) := goodIn_app (goodIn_of _ (by decide +kernel)) ggL_law_X3_setFee
set_option maxRecDepth 20000 in
theorem ggL_law_X2_setCrossed : GoodIn wsL_law wsX2_setCrossed := goodIn_r _ [138, 22, 583, 584, 585, 586, 587] (by decide +kernel) (by decide +kernel)
set_option maxRecDepth 20000 in
theorem gL_law_X2_setCrossed : GoodIn wsL_law (wsV RL 90 RX2 yX2_setCrossed wsX2_setCrossed) := goodIn_app (goodIn_of _ (by decide +kernel)) ggL_law_X2_setCrossed
set_option maxRecDepth 20000 in
theorem ggL_law_X3_setCrossed : GoodIn wsL_law wsX3_setCrossed := goodIn_r _ [142, 102, 143, 588, 589, 590, 591, 592, 593, 594, 595, 596, 597, 598, 599, 600, 601, 602, 603, 604, 605, 606] (by decide +kernel) (by decide +kernel)
set_option maxRecDepth 20000 in
theorem gL_law_X3_setCrossed : GoodIn wsL_law (wsV RL 94 RX3 yX3_setCrossed wsX3_setCrossed) := goodIn_app (goodIn_of _ (by decide +kernel)) ggL_law_X3_setCrossed
set_option maxRecDepth 20000 in
theorem ggL_law_L_add : GoodIn wsL_law wsL_add := goodIn_ca (goodIn_ca (goodIn_ca (goodIn_r _ [146, 75, 76, 147, 148, 149, 150, 2, 151, 152, 153, 154, 155, 156, 157, 158, 159, 160, 21, 84, 85, 86, 87, 88, 89, 90, 91, 92, 93, 94, 95, 96, 97, 16, 17, 161, 162, 163, 164, 165, 166, 167, 168, 169, 20, 170, 171, 172, 173, 174, 15, 175, 33, 176, 177, 178, 179, 180, 181, 182, 183, 184, 185, 186, 187, 188, 189, 190, 191, 192, 193, 194, 195, 196, 197, 40, 198, 199, 200, 201, 11, 12, 202, 203, 204, 205, 206, 207, 208, 209, 210, 211, 212, 213, 214, 215, 216, 217, 218, 219, 220, 221, 222, 223, 224, 225, 39, 226, 227, 228, 229, 230, 231, 232, 233, 234, 235, 236, 237, 238, 239, 240, 241, 242, 243, 244, 245, 246, 247, 248, 249, 250, 251, 252, 253, 254, 255, 256, 625, 626, 627, 628, 629, 630, 631, 607, 608, 609, 610, 611, 612, 613, 614, 615, 616, 617, 618, 619, 620, 621, 583, 584, 585, 586, 587, 622, 623, 624] (by decide +kernel) (by decide +kernel)) (goodIn_sub (fun _ h => List.mem_append_left _ (List.mem_append_left _ (List.mem_append_right _ h))) (by decide +kernel))) (goodIn_sub (fun _ h => List.mem_append_left _ (List.mem_append_right _ h)) (by decide +kernel))) (goodIn_sub (fun _ h => List.mem_append_right _ h) (by decide +kernel))
set_option maxRecDepth 20000 in
theorem gL_law_L_add : GoodIn wsL_law (va_wsS RL 95 yL_add wsL_add) := goodIn_app (goodIn_of _ (by decide +kernel)) ggL_law_L_add
set_option maxRecDepth 20000 in
theorem ggL_law_X3_add : GoodIn wsL_law wsX3_add := goodIn_r _ [260, 102, 261, 262, 63, 62, 65, 66, 64, 103, 104, 5, 105, 106, 107, 108, 109, 110, 111, 112, 588, 589, 590, 591, 592, 593, 594, 595, 596, 597, 598, 599, 600, 601, 602, 603, 604, 605, 606] (by decide +kernel) (by decide +kernel)
set_option maxRecDepth 20000 in
theorem gL_law_X3_add : GoodIn wsL_law (wsV RL 98 RX3 yX3_add wsX3_add) := goodIn_app (goodIn_of _ (by decide +kernel)) ggL_law_X3_add
set_option maxRecDepth 20000 in
theorem ggL_law_L_receive : GoodIn wsL_law wsL_receive := goodIn_ca (goodIn_ca (goodIn_r _ [265, 75, 76, 266, 267, 268, 2, 269, 270, 271, 23, 84, 85, 86, 87, 88, 125, 126, 127, 89, 90, 91, 92, 93, 94, 95, 96, 97, 16, 17, 607, 608, 609, 610, 611, 612, 613, 614, 615, 616, 617, 618, 619, 620, 621, 583, 584, 585, 586, 587] (by decide +kernel) (by decide +kernel)) (goodIn_sub (fun _ h => List.mem_append_left _ (List.mem_append_left _ (List.mem_append_right _ h))) (by decide +kernel))) (goodIn_sub (fun _ h => List.mem_append_left _ (List.mem_append_right _ h)) (by decide +kernel))
set_option maxRecDepth 20000 in
theorem gL_law_L_receive : GoodIn wsL_law (va_wsS RL 99 yL_receive wsL_receive) := goodIn_app (goodIn_of _ (by decide +kernel)) ggL_law_L_receive
set_option maxRecDepth 20000 in
theorem ggL_law_X3_receive : GoodIn wsL_law wsX3_receive := goodIn_r _ [275, 102, 276, 56, 277, 132, 133, 5, 134, 103, 104, 105, 106, 107, 108, 109, 110, 111, 112, 278, 279, 280, 588, 589, 590, 591, 592, 593, 594, 595, 596, 597, 598, 599, 600, 601, 602, 603, 604, 605, 606] (by decide +kernel) (by decide +kernel)
set_option maxRecDepth 20000 in
theorem gL_law_X3_receive : GoodIn wsL_law (wsV RL 101 RX3 yX3_receive wsX3_receive) := goodIn_app (goodIn_of _ (by decide +kernel)) ggL_law_X3_receive
set_option maxRecDepth 20000 in
theorem ggL_law_L_spend : GoodIn wsL_law wsL_spend := goodIn_ca (goodIn_ca (goodIn_r _ [283, 75, 76, 284, 285, 286, 2, 287, 270, 288, 23, 84, 85, 86, 87, 88, 89, 90, 91, 92, 93, 94, 95, 96, 97, 16, 17, 607, 608, 609, 610, 611, 612, 613, 614, 615, 616, 617, 618, 619, 620, 621, 583, 584, 585, 586, 587] (by decide +kernel) (by decide +kernel)) (goodIn_sub (fun _ h => List.mem_append_left _ (List.mem_append_left _ (List.mem_append_right _ h))) (by decide +kernel))) (goodIn_sub (fun _ h => List.mem_append_left _ (List.mem_append_right _ h)) (by decide +kernel))
set_option maxRecDepth 20000 in
theorem gL_law_L_spend : GoodIn wsL_law (va_wsS RL 102 yL_spend wsL_spend) := goodIn_app (goodIn_of _ (by decide +kernel)) ggL_law_L_spend
set_option maxRecDepth 20000 in
theorem ggL_law_X3_spend : GoodIn wsL_law wsX3_spend := goodIn_r _ [292, 102, 276, 57, 277, 103, 104, 5, 105, 106, 107, 108, 109, 110, 111, 112, 588, 589, 590, 591, 592, 593, 594, 595, 596, 597, 598, 599, 600, 601, 602, 603, 604, 605, 606] (by decide +kernel) (by decide +kernel)
set_option maxRecDepth 20000 in
theorem gL_law_X3_spend : GoodIn wsL_law (wsV RL 105 RX3 yX3_spend wsX3_spend) := goodIn_app (goodIn_of _ (by decide +kernel)) ggL_law_X3_spend
set_option maxRecDepth 20000 in
theorem ggL_law_L_audit : GoodIn wsL_law wsL_audit := goodIn_ca (goodIn_ca (goodIn_ca (goodIn_r _ [295, 75, 76, 147, 296, 297, 298, 2, 299, 300, 271, 84, 85, 86, 87, 88, 125, 126, 127, 89, 90, 91, 92, 93, 301, 302, 303, 304, 165, 166, 23, 94, 95, 96, 97, 16, 17, 607, 608, 609, 610, 611, 612, 613, 614, 615, 616, 617, 618, 619, 620, 621, 583, 584, 585, 586, 587] (by decide +kernel) (by decide +kernel)) (goodIn_sub (fun _ h => List.mem_append_left _ (List.mem_append_left _ (List.mem_append_right _ h))) (by decide +kernel))) (goodIn_sub (fun _ h => List.mem_append_left _ (List.mem_append_right _ h)) (by decide +kernel))) (goodIn_sub (fun _ h => List.mem_append_right _ h) (by decide +kernel))
set_option maxRecDepth 20000 in
theorem gL_law_L_audit : GoodIn wsL_law (va_wsS RL 106 yL_audit wsL_audit) := goodIn_app (goodIn_of _ (by decide +kernel)) ggL_law_L_audit
set_option maxRecDepth 20000 in
theorem ggL_law_X3_audit : GoodIn wsL_law wsX3_audit := goodIn_r _ [308, 102, 309, 277, 56, 132, 133, 5, 134, 103, 104, 105, 106, 107, 108, 109, 110, 111, 112, 278, 279, 280, 588, 589, 590, 591, 592, 593, 594, 595, 596, 597, 598, 599, 600, 601, 602, 603, 604, 605, 606] (by decide +kernel) (by decide +kernel)
set_option maxRecDepth 20000 in
theorem gL_law_X3_audit : GoodIn wsL_law (wsV RL 109 RX3 yX3_audit wsX3_audit) := goodIn_app (goodIn_of _ (by decide +kernel)) ggL_law_X3_audit
set_option maxRecDepth 20000 in
theorem ggL_law_L_closeYear : GoodIn wsL_law wsL_closeYear := goodIn_ca (goodIn_r _ [312, 147, 313, 314, 315, 2, 316, 165, 166, 23, 583, 584, 585, 586, 587] (by decide +kernel) (by decide +kernel)) (goodIn_sub (fun _ h => List.mem_append_right _ h) (by decide +kernel))
set_option maxRecDepth 20000 in
theorem gL_law_L_closeYear : GoodIn wsL_law (va_wsS RL 110 yL_closeYear wsL_closeYear) := goodIn_app (goodIn_of _ (by decide +kernel)) ggL_law_L_closeYear
set_option maxRecDepth 20000 in
theorem ggL_law_X3_closeYear : GoodIn wsL_law wsX3_closeYear := goodIn_r _ [320, 102, 277, 109, 110, 111, 5, 112, 588, 589, 590, 591, 592, 593, 594, 595, 596, 597, 598, 599, 600, 601, 602, 603, 604, 605, 606] (by decide +kernel) (by decide +kernel)
set_option maxRecDepth 20000 in
theorem gL_law_X3_closeYear : GoodIn wsL_law (wsV RL 113 RX3 yX3_closeYear wsX3_closeYear) := goodIn_app (goodIn_of _ (by decide +kernel)) ggL_law_X3_closeYear
set_option maxRecDepth 20000 in
theorem ggL_law_L_pay : GoodIn wsL_law wsL_pay := goodIn_ca (goodIn_ca (goodIn_r _ [323, 75, 147, 324, 325, 326, 2, 327, 165, 166, 21, 328, 329, 330, 331, 332, 333, 87, 88, 167, 168, 169, 20, 170, 171, 334, 183, 184, 185, 186, 187, 188, 189, 190, 191, 192, 193, 194, 195, 196, 197, 40, 335, 336, 337, 338, 339, 340, 341, 342, 343, 16, 17, 23, 22, 344, 345, 346, 15, 347, 348, 349, 350, 351, 352, 353, 354, 355, 356, 357, 358, 30, 359, 360, 361, 362, 363, 29, 364, 365, 366, 367, 368, 369, 370, 31, 371, 372, 373, 374, 33, 176, 177, 181, 182, 375, 376, 377, 159, 378, 205, 379, 380, 155, 381, 206, 207, 382, 383, 384, 385, 386, 387, 388, 389, 390, 391, 392, 393, 394, 395, 396, 397, 34, 35, 398, 399, 400, 401, 402, 403, 404, 405, 406, 407, 408, 409, 410, 411, 583, 584, 585, 586, 587, 625, 626, 627, 628, 629, 630, 631, 622, 623, 624, 607, 608, 609, 610, 611, 612, 613, 614, 615, 616, 617, 618, 619, 620, 621] (by decide +kernel) (by decide +kernel)) (goodIn_sub (fun _ h => List.mem_append_right _ h) (by decide +kernel))) (goodIn_sub (fun _ h => List.mem_append_left _ (List.mem_append_left _ (List.mem_append_right _ h))) (by decide +kernel))
set_option maxRecDepth 20000 in
theorem gL_law_L_pay : GoodIn wsL_law (va_wsS RL 114 yL_pay wsL_pay) := goodIn_app (goodIn_of _ (by decide +kernel)) ggL_law_L_pay
set_option maxRecDepth 20000 in
theorem ggL_law_X3_pay : GoodIn wsL_law wsX3_pay := goodIn_r _ [415, 67, 416, 417, 418, 5, 419, 262, 102, 106, 107, 108, 420, 421, 422, 423, 62, 63, 277, 64, 424, 425, 426, 427, 428, 65, 429, 430, 431, 432, 56, 278, 279, 280, 433, 434, 435, 436, 59, 437, 438, 439, 440, 441, 66, 442, 443, 444, 445, 68, 57, 60, 70, 69, 143, 61, 446, 447, 448, 449, 58, 450, 451, 452, 453, 454, 455, 456, 457, 109, 110, 111, 112, 588, 589, 590, 591, 592, 593, 594, 595, 596, 597, 598, 599, 600, 601, 602, 603, 604, 605, 606] (by decide +kernel) (by decide +kernel)
set_option maxRecDepth 20000 in
theorem gL_law_X3_pay : GoodIn wsL_law (wsV RL 117 RX3 yX3_pay wsX3_pay) := goodIn_app (goodIn_of _ (by decide +kernel)) ggL_law_X3_pay
set_option maxRecDepth 20000 in
theorem ggL_law_X2_year : GoodIn wsL_law wsX2_year := goodIn_r _ [461, 23, 583, 584, 585, 586, 587] (by decide +kernel) (by decide +kernel)
set_option maxRecDepth 20000 in
theorem gL_law_X2_year : GoodIn wsL_law (wsV RL 118 RX2 yX2_year wsX2_year) := goodIn_app (goodIn_of _ (by decide +kernel)) ggL_law_X2_year
set_option maxRecDepth 20000 in
theorem ggL_law_X3_year : GoodIn wsL_law wsX3_year := goodIn_r _ [465, 102, 277, 588, 589, 590, 591, 592, 593, 594, 595, 596, 597, 598, 599, 600, 601, 602, 603, 604, 605, 606] (by decide +kernel) (by decide +kernel)
set_option maxRecDepth 20000 in
theorem gL_law_X3_year : GoodIn wsL_law (wsV RL 121 RX3 yX3_year wsX3_year) := goodIn_app (goodIn_of _ (by decide +kernel)) ggL_law_X3_year
set_option maxRecDepth 20000 in
theorem ggL_law_L_gross : GoodIn wsL_law wsL_gross := goodIn_ca (goodIn_r _ [468, 75, 469, 470, 471, 2, 472, 473, 84, 85, 86, 87, 88, 340, 341, 342, 343, 16, 17, 23, 22, 344, 345, 346, 15, 347, 348, 349, 350, 351, 352, 353, 354, 355, 356, 357, 358, 30, 359, 360, 361, 362, 363, 29, 364, 365, 366, 367, 368, 369, 370, 31, 371, 372, 373, 374, 33, 176, 177, 181, 168, 169, 20, 170, 171, 182, 183, 184, 185, 186, 187, 188, 189, 190, 191, 192, 193, 194, 195, 196, 197, 40, 375, 376, 377, 159, 378, 205, 379, 380, 155, 381, 206, 207, 382, 383, 384, 385, 386, 387, 388, 389, 390, 391, 392, 393, 394, 395, 396, 397, 34, 35, 94, 95, 96, 97, 607, 608, 609, 610, 611, 612, 613, 614, 615, 616, 617, 618, 619, 620, 621, 583, 584, 585, 586, 587, 625, 626, 627, 628, 629, 630, 631, 622, 623, 624] (by decide +kernel) (by decide +kernel)) (goodIn_sub (fun _ h => List.mem_append_left _ (List.mem_append_left _ (List.mem_append_right _ h))) (by decide +kernel))
set_option maxRecDepth 20000 in
theorem gL_law_L_gross : GoodIn wsL_law (va_wsS RL 122 yL_gross wsL_gross) := goodIn_app (goodIn_of _ (by decide +kernel)) ggL_law_L_gross
set_option maxRecDepth 20000 in
theorem ggL_law_X3_gross : GoodIn wsL_law wsX3_gross := goodIn_r _ [477, 102, 277, 103, 104, 5, 105, 106, 107, 108, 109, 110, 111, 112, 429, 430, 431, 432, 56, 278, 279, 280, 588, 589, 590, 591, 592, 593, 594, 595, 596, 597, 598, 599, 600, 601, 602, 603, 604, 605, 606] (by decide +kernel) (by decide +kernel)
set_option maxRecDepth 20000 in
theorem gL_law_X3_gross : GoodIn wsL_law (wsV RL 124 RX3 yX3_gross wsX3_gross) := goodIn_app (goodIn_of _ (by decide +kernel)) ggL_law_X3_gross
set_option maxRecDepth 20000 in
theorem ggL_law_L_adjusted : GoodIn wsL_law wsL_adjusted := goodIn_ca (goodIn_r _ [480, 75, 481, 482, 483, 2, 484, 485, 84, 85, 86, 87, 88, 340, 341, 342, 343, 16, 17, 23, 22, 344, 345, 346, 15, 347, 348, 349, 350, 351, 352, 353, 354, 355, 356, 357, 358, 30, 359, 360, 361, 362, 363, 29, 364, 365, 366, 367, 368, 369, 370, 31, 371, 372, 373, 374, 33, 176, 177, 181, 168, 169, 20, 170, 171, 182, 183, 184, 185, 186, 187, 188, 189, 190, 191, 192, 193, 194, 195, 196, 197, 40, 375, 376, 377, 159, 378, 205, 379, 380, 155, 381, 206, 207, 382, 383, 384, 385, 386, 387, 388, 389, 390, 391, 392, 393, 394, 395, 396, 397, 34, 35, 94, 95, 96, 97, 607, 608, 609, 610, 611, 612, 613, 614, 615, 616, 617, 618, 619, 620, 621, 583, 584, 585, 586, 587, 625, 626, 627, 628, 629, 630, 631, 622, 623, 624] (by decide +kernel) (by decide +kernel)) (goodIn_sub (fun _ h => List.mem_append_left _ (List.mem_append_left _ (List.mem_append_right _ h))) (by decide +kernel))
set_option maxRecDepth 20000 in
theorem gL_law_L_adjusted : GoodIn wsL_law (va_wsS RL 125 yL_adjusted wsL_adjusted) := goodIn_app (goodIn_of _ (by decide +kernel)) ggL_law_L_adjusted
set_option maxRecDepth 20000 in
theorem ggL_law_X3_adjusted : GoodIn wsL_law wsX3_adjusted := goodIn_r _ [489, 102, 277, 103, 104, 5, 105, 106, 107, 108, 109, 110, 111, 112, 433, 434, 435, 436, 59, 437, 429, 430, 431, 432, 56, 278, 279, 280, 588, 589, 590, 591, 592, 593, 594, 595, 596, 597, 598, 599, 600, 601, 602, 603, 604, 605, 606] (by decide +kernel) (by decide +kernel)
set_option maxRecDepth 20000 in
theorem gL_law_X3_adjusted : GoodIn wsL_law (wsV RL 127 RX3 yX3_adjusted wsX3_adjusted) := goodIn_app (goodIn_of _ (by decide +kernel)) ggL_law_X3_adjusted
set_option maxRecDepth 20000 in
theorem ggL_law_L_fees : GoodIn wsL_law wsL_fees := goodIn_ca (goodIn_r _ [492, 75, 493, 494, 495, 2, 496, 497, 84, 85, 86, 87, 88, 340, 341, 342, 343, 16, 17, 23, 22, 344, 345, 346, 15, 347, 348, 349, 350, 351, 352, 353, 354, 355, 356, 357, 358, 30, 359, 360, 361, 362, 363, 29, 364, 365, 366, 367, 368, 369, 370, 31, 371, 372, 373, 374, 33, 176, 177, 181, 168, 169, 20, 170, 171, 182, 183, 184, 185, 186, 187, 188, 189, 190, 191, 192, 193, 194, 195, 196, 197, 40, 375, 376, 377, 159, 378, 205, 379, 380, 155, 381, 206, 207, 382, 383, 384, 385, 386, 387, 388, 389, 390, 391, 392, 393, 394, 395, 396, 397, 34, 35, 94, 95, 96, 97, 607, 608, 609, 610, 611, 612, 613, 614, 615, 616, 617, 618, 619, 620, 621, 583, 584, 585, 586, 587, 625, 626, 627, 628, 629, 630, 631, 622, 623, 624] (by decide +kernel) (by decide +kernel)) (goodIn_sub (fun _ h => List.mem_append_left _ (List.mem_append_left _ (List.mem_append_right _ h))) (by decide +kernel))
set_option maxRecDepth 20000 in
theorem gL_law_L_fees : GoodIn wsL_law (va_wsS RL 128 yL_fees wsL_fees) := goodIn_app (goodIn_of _ (by decide +kernel)) ggL_law_L_fees
set_option maxRecDepth 20000 in
theorem ggL_law_X3_fees : GoodIn wsL_law wsX3_fees := goodIn_r _ [501, 102, 277, 103, 104, 5, 105, 106, 107, 108, 109, 110, 111, 112, 446, 447, 448, 449, 56, 58, 437, 278, 279, 280, 588, 589, 590, 591, 592, 593, 594, 595, 596, 597, 598, 599, 600, 601, 602, 603, 604, 605, 606] (by decide +kernel) (by decide +kernel)
set_option maxRecDepth 20000 in
theorem gL_law_X3_fees : GoodIn wsL_law (wsV RL 130 RX3 yX3_fees wsX3_fees) := goodIn_app (goodIn_of _ (by decide +kernel)) ggL_law_X3_fees
set_option maxRecDepth 20000 in
theorem ggL_law_L_balance : GoodIn wsL_law wsL_balance := goodIn_ca (goodIn_ca (goodIn_r _ [504, 75, 76, 505, 506, 507, 2, 508, 23, 509, 84, 85, 86, 87, 88, 89, 90, 91, 92, 93, 340, 341, 342, 343, 16, 17, 22, 344, 345, 346, 15, 347, 348, 349, 350, 351, 352, 353, 354, 355, 356, 357, 358, 30, 359, 360, 361, 362, 363, 29, 364, 365, 366, 367, 368, 369, 370, 31, 371, 372, 373, 374, 33, 176, 177, 181, 168, 169, 20, 170, 171, 182, 183, 184, 185, 186, 187, 188, 189, 190, 191, 192, 193, 194, 195, 196, 197, 40, 375, 376, 377, 159, 378, 205, 379, 380, 155, 381, 206, 207, 382, 383, 384, 385, 386, 387, 388, 389, 390, 391, 392, 393, 394, 395, 396, 397, 34, 35, 94, 95, 96, 97, 583, 584, 585, 586, 587, 607, 608, 609, 610, 611, 612, 613, 614, 615, 616, 617, 618, 619, 620, 621, 625, 626, 627, 628, 629, 630, 631, 622, 623, 624] (by decide +kernel) (by decide +kernel)) (goodIn_sub (fun _ h => List.mem_append_left _ (List.mem_append_left _ (List.mem_append_right _ h))) (by decide +kernel))) (goodIn_sub (fun _ h => List.mem_append_left _ (List.mem_append_right _ h)) (by decide +kernel))
set_option maxRecDepth 20000 in
theorem gL_law_L_balance : GoodIn wsL_law (va_wsS RL 131 yL_balance wsL_balance) := goodIn_app (goodIn_of _ (by decide +kernel)) ggL_law_L_balance
set_option maxRecDepth 20000 in
theorem ggL_law_X3_balance : GoodIn wsL_law wsX3_balance := goodIn_r _ [513, 68, 514, 515, 516, 5, 517, 277, 102, 103, 104, 105, 106, 107, 108, 442, 443, 444, 445, 57, 60, 437, 262, 62, 63, 70, 69, 143, 61, 424, 425, 426, 427, 64, 428, 65, 429, 430, 431, 432, 56, 278, 279, 280, 433, 434, 435, 436, 59, 438, 439, 440, 441, 66, 446, 447, 448, 449, 58, 450, 451, 452, 453, 588, 589, 590, 591, 592, 593, 594, 595, 596, 597, 598, 599, 600, 601, 602, 603, 604, 605, 606] (by decide +kernel) (by decide +kernel)
set_option maxRecDepth 20000 in
theorem gL_law_X3_balance : GoodIn wsL_law (wsV RL 133 RX3 yX3_balance wsX3_balance) := goodIn_app (goodIn_of _ (by decide +kernel)) ggL_law_X3_balance
set_option maxRecDepth 20000 in
theorem ggL_law_L_profit : GoodIn wsL_law wsL_profit := goodIn_ca (goodIn_ca (goodIn_r _ [520, 75, 76, 521, 522, 523, 2, 524, 23, 525, 84, 85, 86, 87, 88, 89, 90, 91, 92, 93, 340, 341, 342, 343, 16, 17, 22, 344, 345, 346, 15, 347, 348, 349, 350, 351, 352, 353, 354, 355, 356, 357, 358, 30, 359, 360, 361, 362, 363, 29, 364, 365, 366, 367, 368, 369, 370, 31, 371, 372, 373, 374, 33, 176, 177, 181, 168, 169, 20, 170, 171, 182, 183, 184, 185, 186, 187, 188, 189, 190, 191, 192, 193, 194, 195, 196, 197, 40, 375, 376, 377, 159, 378, 205, 379, 380, 155, 381, 206, 207, 382, 383, 384, 385, 386, 387, 388, 389, 390, 391, 392, 393, 394, 395, 396, 397, 34, 35, 94, 95, 96, 97, 583, 584, 585, 586, 587, 607, 608, 609, 610, 611, 612, 613, 614, 615, 616, 617, 618, 619, 620, 621, 625, 626, 627, 628, 629, 630, 631, 622, 623, 624] (by decide +kernel) (by decide +kernel)) (goodIn_sub (fun _ h => List.mem_append_left _ (List.mem_append_left _ (List.mem_append_right _ h))) (by decide +kernel))) (goodIn_sub (fun _ h => List.mem_append_left _ (List.mem_append_right _ h)) (by decide +kernel))
set_option maxRecDepth 20000 in
theorem gL_law_L_profit : GoodIn wsL_law (va_wsS RL 134 yL_profit wsL_profit) := goodIn_app (goodIn_of _ (by decide +kernel)) ggL_law_L_profit
set_option maxRecDepth 20000 in
theorem ggL_law_X3_profit : GoodIn wsL_law wsX3_profit := goodIn_r _ [529, 69, 514, 515, 516, 5, 517, 277, 102, 103, 104, 105, 106, 107, 108, 442, 443, 444, 445, 68, 57, 60, 437, 262, 62, 63, 70, 143, 61, 424, 425, 426, 427, 64, 428, 65, 429, 430, 431, 432, 56, 278, 279, 280, 433, 434, 435, 436, 59, 438, 439, 440, 441, 66, 446, 447, 448, 449, 58, 450, 451, 452, 453, 588, 589, 590, 591, 592, 593, 594, 595, 596, 597, 598, 599, 600, 601, 602, 603, 604, 605, 606] (by decide +kernel) (by decide +kernel)
set_option maxRecDepth 20000 in
theorem gL_law_X3_profit : GoodIn wsL_law (wsV RL 136 RX3 yX3_profit wsX3_profit) := goodIn_app (goodIn_of _ (by decide +kernel)) ggL_law_X3_profit
set_option maxRecDepth 20000 in
theorem ggL_law_L_pool : GoodIn wsL_law wsL_pool := goodIn_ca (goodIn_r _ [532, 75, 533, 534, 535, 2, 536, 84, 85, 86, 87, 88, 340, 341, 342, 343, 16, 17, 23, 22, 344, 345, 346, 15, 347, 348, 349, 350, 351, 352, 353, 354, 355, 356, 357, 358, 30, 359, 360, 361, 362, 363, 29, 364, 365, 366, 367, 368, 369, 370, 31, 371, 372, 373, 374, 33, 176, 177, 181, 168, 169, 20, 170, 171, 182, 183, 184, 185, 186, 187, 188, 189, 190, 191, 192, 193, 194, 195, 196, 197, 40, 375, 376, 377, 159, 378, 205, 379, 380, 155, 381, 206, 207, 382, 383, 384, 385, 386, 387, 388, 389, 390, 391, 392, 393, 394, 395, 396, 397, 34, 35, 94, 95, 96, 97, 537, 405, 406, 407, 408, 409, 410, 411, 402, 583, 584, 585, 586, 587, 607, 608, 609, 610, 611, 612, 613, 614, 615, 616, 617, 618, 619, 620, 621, 625, 626, 627, 628, 629, 630, 631, 622, 623, 624] (by decide +kernel) (by decide +kernel)) (goodIn_sub (fun _ h => List.mem_append_left _ (List.mem_append_left _ (List.mem_append_right _ h))) (by decide +kernel))
set_option maxRecDepth 20000 in
theorem gL_law_L_pool : GoodIn wsL_law (va_wsS RL 137 yL_pool wsL_pool) := goodIn_app (goodIn_of _ (by decide +kernel)) ggL_law_L_pool
set_option maxRecDepth 20000 in
theorem ggL_law_X3_pool : GoodIn wsL_law wsX3_pool := goodIn_r _ [541, 102, 262, 103, 104, 5, 105, 106, 107, 108, 109, 110, 111, 112, 442, 443, 444, 445, 277, 68, 57, 60, 437, 62, 63, 70, 69, 143, 61, 424, 425, 426, 427, 64, 428, 65, 429, 430, 431, 432, 56, 278, 279, 280, 433, 434, 435, 436, 59, 438, 439, 440, 441, 66, 446, 447, 448, 449, 58, 450, 451, 452, 453, 454, 455, 456, 457, 588, 589, 590, 591, 592, 593, 594, 595, 596, 597, 598, 599, 600, 601, 602, 603, 604, 605, 606] (by decide +kernel) (by decide +kernel)
set_option maxRecDepth 20000 in
theorem gL_law_X3_pool : GoodIn wsL_law (wsV RL 139 RX3 yX3_pool wsX3_pool) := goodIn_app (goodIn_of _ (by decide +kernel)) ggL_law_X3_pool
set_option maxRecDepth 20000 in
theorem ggL_law_X2_sharers : GoodIn wsL_law wsX2_sharers := goodIn_r _ [545, 21, 167, 168, 169, 20, 170, 171, 583, 584, 585, 586, 587, 622, 623, 624] (by decide +kernel) (by decide +kernel)
set_option maxRecDepth 20000 in
theorem gL_law_X2_sharers : GoodIn wsL_law (wsV RL 140 RX2 yX2_sharers wsX2_sharers) := goodIn_app (goodIn_of _ (by decide +kernel)) ggL_law_X2_sharers
set_option maxRecDepth 20000 in
theorem ggL_law_X3_sharers : GoodIn wsL_law wsX3_sharers := goodIn_r _ [549, 102, 262, 588, 589, 590, 591, 592, 593, 594, 595, 596, 597, 598, 599, 600, 601, 602, 603, 604, 605, 606] (by decide +kernel) (by decide +kernel)
set_option maxRecDepth 20000 in
theorem gL_law_X3_sharers : GoodIn wsL_law (wsV RL 143 RX3 yX3_sharers wsX3_sharers) := goodIn_app (goodIn_of _ (by decide +kernel)) ggL_law_X3_sharers
set_option maxRecDepth 20000 in
theorem ggL_law_L_sum : GoodIn wsL_law wsL_sum := goodIn_ca (goodIn_r _ [552, 75, 553, 554, 555, 2, 556, 21, 328, 330, 331, 332, 333, 87, 88, 167, 168, 169, 20, 170, 171, 334, 183, 184, 185, 186, 187, 188, 189, 190, 191, 192, 193, 194, 195, 196, 197, 40, 335, 336, 337, 338, 339, 340, 341, 342, 343, 16, 17, 23, 22, 344, 345, 346, 15, 347, 348, 349, 350, 351, 352, 353, 354, 355, 356, 357, 358, 30, 359, 360, 361, 362, 363, 29, 364, 365, 366, 367, 368, 369, 370, 31, 371, 372, 373, 374, 33, 176, 177, 181, 182, 375, 376, 377, 159, 378, 205, 379, 380, 155, 381, 206, 207, 382, 383, 384, 385, 386, 387, 388, 389, 390, 391, 392, 393, 394, 395, 396, 397, 34, 35, 398, 399, 400, 401, 402, 403, 404, 405, 406, 407, 408, 409, 410, 411, 583, 584, 585, 586, 587, 622, 623, 624, 625, 626, 627, 628, 629, 630, 631, 607, 608, 609, 610, 611, 612, 613, 614, 615, 616, 617, 618, 619, 620, 621] (by decide +kernel) (by decide +kernel)) (goodIn_sub (fun _ h => List.mem_append_left _ (List.mem_append_left _ (List.mem_append_right _ h))) (by decide +kernel))
set_option maxRecDepth 20000 in
theorem gL_law_L_sum : GoodIn wsL_law (va_wsS RL 144 yL_sum wsL_sum) := goodIn_app (goodIn_of _ (by decide +kernel)) ggL_law_L_sum
set_option maxRecDepth 20000 in
theorem ggL_law_X3_sum : GoodIn wsL_law wsX3_sum := goodIn_r _ [560, 416, 417, 418, 5, 419, 262, 102, 106, 107, 108, 420, 421, 422, 423, 62, 63, 277, 64, 424, 425, 426, 427, 428, 65, 429, 430, 431, 432, 56, 278, 279, 280, 433, 434, 435, 436, 59, 437, 438, 439, 440, 441, 66, 442, 443, 444, 445, 68, 57, 60, 70, 69, 143, 61, 446, 447, 448, 449, 58, 450, 451, 452, 453, 454, 455, 456, 457, 588, 589, 590, 591, 592, 593, 594, 595, 596, 597, 598, 599, 600, 601, 602, 603, 604, 605, 606] (by decide +kernel) (by decide +kernel)
set_option maxRecDepth 20000 in
theorem gL_law_X3_sum : GoodIn wsL_law (wsV RL 146 RX3 yX3_sum wsX3_sum) := goodIn_app (goodIn_of _ (by decide +kernel)) ggL_law_X3_sum
set_option maxRecDepth 20000 in
theorem ggL_law_L_paid : GoodIn wsL_law wsL_paid := goodIn_ca (goodIn_r _ [563, 75, 564, 565, 566, 2, 567, 21, 328, 329, 330, 331, 332, 333, 87, 88, 167, 168, 169, 20, 170, 171, 334, 183, 184, 185, 186, 187, 188, 189, 190, 191, 192, 193, 194, 195, 196, 197, 40, 583, 584, 585, 586, 587, 625, 626, 627, 628, 629, 630, 631, 622, 623, 624] (by decide +kernel) (by decide +kernel)) (goodIn_sub (fun _ h => List.mem_append_left _ (List.mem_append_left _ (List.mem_append_right _ h))) (by decide +kernel))
set_option maxRecDepth 20000 in
theorem gL_law_L_paid : GoodIn wsL_law (va_wsS RL 147 yL_paid wsL_paid) := goodIn_app (goodIn_of _ (by decide +kernel)) ggL_law_L_paid
set_option maxRecDepth 20000 in
theorem ggL_law_X3_paid : GoodIn wsL_law wsX3_paid := goodIn_r _ [571, 67, 416, 417, 418, 5, 419, 262, 102, 106, 107, 108, 588, 589, 590, 591, 592, 593, 594, 595, 596, 597, 598, 599, 600, 601, 602, 603, 604, 605, 606] (by decide +kernel) (by decide +kernel)
set_option maxRecDepth 20000 in
theorem gL_law_X3_paid : GoodIn wsL_law (wsV RL 149 RX3 yX3_paid wsX3_paid) := goodIn_app (goodIn_of _ (by decide +kernel)) ggL_law_X3_paid
set_option maxRecDepth 20000 in
theorem ggL_law_L_owed : GoodIn wsL_law wsL_owed := goodIn_ca (goodIn_r _ [574, 75, 575, 576, 577, 2, 578, 21, 328, 329, 330, 331, 332, 333, 87, 88, 167, 168, 169, 20, 170, 171, 334, 183, 184, 185, 186, 187, 188, 189, 190, 191, 192, 193, 194, 195, 196, 197, 40, 335, 336, 337, 338, 339, 340, 341, 342, 343, 16, 17, 23, 22, 344, 345, 346, 15, 347, 348, 349, 350, 351, 352, 353, 354, 355, 356, 357, 358, 30, 359, 360, 361, 362, 363, 29, 364, 365, 366, 367, 368, 369, 370, 31, 371, 372, 373, 374, 33, 176, 177, 181, 182, 375, 376, 377, 159, 378, 205, 379, 380, 155, 381, 206, 207, 382, 383, 384, 385, 386, 387, 388, 389, 390, 391, 392, 393, 394, 395, 396, 397, 34, 35, 398, 399, 400, 401, 402, 403, 404, 405, 406, 407, 408, 409, 410, 411, 583, 584, 585, 586, 587, 625, 626, 627, 628, 629, 630, 631, 622, 623, 624, 607, 608, 609, 610, 611, 612, 613, 614, 615, 616, 617, 618, 619, 620, 621] (by decide +kernel) (by decide +kernel)) (goodIn_sub (fun _ h => List.mem_append_left _ (List.mem_append_left _ (List.mem_append_right _ h))) (by decide +kernel))
set_option maxRecDepth 20000 in
theorem gL_law_L_owed : GoodIn wsL_law (va_wsS RL 150 yL_owed wsL_owed) := goodIn_app (goodIn_of _ (by decide +kernel)) ggL_law_L_owed
set_option maxRecDepth 20000 in
theorem ggL_law_X3_owed : GoodIn wsL_law wsX3_owed := goodIn_r _ [582, 67, 416, 417, 418, 5, 419, 262, 102, 106, 107, 108, 420, 421, 422, 423, 62, 63, 277, 64, 424, 425, 426, 427, 428, 65, 429, 430, 431, 432, 56, 278, 279, 280, 433, 434, 435, 436, 59, 437, 438, 439, 440, 441, 66, 442, 443, 444, 445, 68, 57, 60, 70, 69, 143, 61, 446, 447, 448, 449, 58, 450, 451, 452, 453, 454, 455, 456, 457, 588, 589, 590, 591, 592, 593, 594, 595, 596, 597, 598, 599, 600, 601, 602, 603, 604, 605, 606] (by decide +kernel) (by decide +kernel)
set_option maxRecDepth 20000 in
theorem gL_law_X3_owed : GoodIn wsL_law (wsV RL 152 RX3 yX3_owed wsX3_owed) := goodIn_app (goodIn_of _ (by decide +kernel)) ggL_law_X3_owed
theorem dL_law_0 : decode cL_law 0 = .ok (.new 8, 3) := by decide +kernel
theorem dL_law_3 : decode cL_law 3 = .ok (.dup, 1) := by decide +kernel
theorem dL_law_4 : decode cL_law 4 = .ok (.invokespecial 73, 3) := by decide +kernel
theorem dL_law_7 : decode cL_law 7 = .ok (.astore_n 1, 1) := by decide +kernel
theorem dL_law_8 : decode cL_law 8 = .ok (.new 74, 3) := by decide +kernel
theorem dL_law_11 : decode cL_law 11 = .ok (.dup, 1) := by decide +kernel
theorem dL_law_12 : decode cL_law 12 = .ok (.invokespecial 76, 3) := by decide +kernel
theorem dL_law_15 : decode cL_law 15 = .ok (.astore_n 2, 1) := by decide +kernel
theorem dL_law_16 : decode cL_law 16 = .ok (.iconst 1, 1) := by decide +kernel
theorem dL_law_17 : decode cL_law 17 = .ok (.newarray .long, 2) := by decide +kernel
theorem dL_law_19 : decode cL_law 19 = .ok (.astore_n 3, 1) := by decide +kernel
theorem dL_law_20 : decode cL_law 20 = .ok (.iconst 0, 1) := by decide +kernel
theorem dL_law_21 : decode cL_law 21 = .ok (.istore 4, 2) := by decide +kernel
theorem dL_law_23 : decode cL_law 23 = .ok (.iload 4, 2) := by decide +kernel
theorem dL_law_25 : decode cL_law 25 = .ok (.aload_n 0, 1) := by decide +kernel
theorem dL_law_26 : decode cL_law 26 = .ok (.arraylength, 1) := by decide +kernel
theorem dL_law_27 : decode cL_law 27 = .ok (.bipush 6, 2) := by decide +kernel
theorem dL_law_29 : decode cL_law 29 = .ok (.isub, 1) := by decide +kernel
theorem dL_law_30 : decode cL_law 30 = .ok (.if_icmp .gt 1303, 3) := by decide +kernel
theorem dL_law_33 : decode cL_law 33 = .ok (.aload_n 0, 1) := by decide +kernel
theorem dL_law_34 : decode cL_law 34 = .ok (.iload 4, 2) := by decide +kernel
theorem dL_law_36 : decode cL_law 36 = .ok (.iaload, 1) := by decide +kernel
theorem dL_law_37 : decode cL_law 37 = .ok (.bipush 31, 2) := by decide +kernel
theorem dL_law_39 : decode cL_law 39 = .ok (.iand, 1) := by decide +kernel
theorem dL_law_40 : decode cL_law 40 = .ok (.tableswitch 1287 0 19 #[96, 168, 248, 289, 393, 473, 541, 633, 677, 733, 746, 802, 858, 914, 982, 1050, 1106, 1119, 1175, 1231], 96) := by decide +kernel
theorem dL_law_136 : decode cL_law 136 = .ok (.aload_n 1, 1) := by decide +kernel
theorem dL_law_137 : decode cL_law 137 = .ok (.aload_n 0, 1) := by decide +kernel
theorem dL_law_138 : decode cL_law 138 = .ok (.iload 4, 2) := by decide +kernel
theorem dL_law_140 : decode cL_law 140 = .ok (.iconst 1, 1) := by decide +kernel
theorem dL_law_141 : decode cL_law 141 = .ok (.iadd, 1) := by decide +kernel
theorem dL_law_142 : decode cL_law 142 = .ok (.iaload, 1) := by decide +kernel
theorem dL_law_143 : decode cL_law 143 = .ok (.aload_n 0, 1) := by decide +kernel
theorem dL_law_144 : decode cL_law 144 = .ok (.iload 4, 2) := by decide +kernel
theorem dL_law_146 : decode cL_law 146 = .ok (.iconst 2, 1) := by decide +kernel
theorem dL_law_147 : decode cL_law 147 = .ok (.iadd, 1) := by decide +kernel
theorem dL_law_148 : decode cL_law 148 = .ok (.iaload, 1) := by decide +kernel
theorem dL_law_149 : decode cL_law 149 = .ok (.aload_n 0, 1) := by decide +kernel
theorem dL_law_150 : decode cL_law 150 = .ok (.iload 4, 2) := by decide +kernel
theorem dL_law_152 : decode cL_law 152 = .ok (.iconst 3, 1) := by decide +kernel
theorem dL_law_153 : decode cL_law 153 = .ok (.iadd, 1) := by decide +kernel
theorem dL_law_154 : decode cL_law 154 = .ok (.iaload, 1) := by decide +kernel
theorem dL_law_155 : decode cL_law 155 = .ok (.aload_n 0, 1) := by decide +kernel
theorem dL_law_156 : decode cL_law 156 = .ok (.iload 4, 2) := by decide +kernel
theorem dL_law_158 : decode cL_law 158 = .ok (.iconst 4, 1) := by decide +kernel
theorem dL_law_159 : decode cL_law 159 = .ok (.iadd, 1) := by decide +kernel
theorem dL_law_160 : decode cL_law 160 = .ok (.iaload, 1) := by decide +kernel
theorem dL_law_161 : decode cL_law 161 = .ok (.invokestatic 77, 3) := by decide +kernel
theorem dL_law_164 : decode cL_law 164 = .ok (.istore 5, 2) := by decide +kernel
theorem dL_law_166 : decode cL_law 166 = .ok (.aload_n 2, 1) := by decide +kernel
theorem dL_law_167 : decode cL_law 167 = .ok (.aload_n 0, 1) := by decide +kernel
theorem dL_law_168 : decode cL_law 168 = .ok (.iload 4, 2) := by decide +kernel
theorem dL_law_170 : decode cL_law 170 = .ok (.iconst 1, 1) := by decide +kernel
theorem dL_law_171 : decode cL_law 171 = .ok (.iadd, 1) := by decide +kernel
theorem dL_law_172 : decode cL_law 172 = .ok (.iaload, 1) := by decide +kernel
theorem dL_law_173 : decode cL_law 173 = .ok (.aload_n 0, 1) := by decide +kernel
theorem dL_law_174 : decode cL_law 174 = .ok (.iload 4, 2) := by decide +kernel
theorem dL_law_176 : decode cL_law 176 = .ok (.iconst 2, 1) := by decide +kernel
theorem dL_law_177 : decode cL_law 177 = .ok (.iadd, 1) := by decide +kernel
theorem dL_law_178 : decode cL_law 178 = .ok (.iaload, 1) := by decide +kernel
theorem dL_law_179 : decode cL_law 179 = .ok (.aload_n 0, 1) := by decide +kernel
theorem dL_law_180 : decode cL_law 180 = .ok (.iload 4, 2) := by decide +kernel
theorem dL_law_182 : decode cL_law 182 = .ok (.iconst 3, 1) := by decide +kernel
theorem dL_law_183 : decode cL_law 183 = .ok (.iadd, 1) := by decide +kernel
theorem dL_law_184 : decode cL_law 184 = .ok (.iaload, 1) := by decide +kernel
theorem dL_law_185 : decode cL_law 185 = .ok (.aload_n 0, 1) := by decide +kernel
theorem dL_law_186 : decode cL_law 186 = .ok (.iload 4, 2) := by decide +kernel
theorem dL_law_188 : decode cL_law 188 = .ok (.iconst 4, 1) := by decide +kernel
theorem dL_law_189 : decode cL_law 189 = .ok (.iadd, 1) := by decide +kernel
theorem dL_law_190 : decode cL_law 190 = .ok (.iaload, 1) := by decide +kernel
theorem dL_law_191 : decode cL_law 191 = .ok (.invokevirtual 82, 3) := by decide +kernel
theorem dL_law_194 : decode cL_law 194 = .ok (.aload_n 2, 1) := by decide +kernel
theorem dL_law_195 : decode cL_law 195 = .ok (.invokevirtual 83, 3) := by decide +kernel
theorem dL_law_198 : decode cL_law 198 = .ok (.iload 5, 2) := by decide +kernel
theorem dL_law_200 : decode cL_law 200 = .ok (.if_icmp .eq 5, 3) := by decide +kernel
theorem dL_law_203 : decode cL_law 203 = .ok (.iconst 0, 1) := by decide +kernel
theorem dL_law_204 : decode cL_law 204 = .ok (.ireturn, 1) := by decide +kernel
theorem dL_law_205 : decode cL_law 205 = .ok (.goto 1122, 3) := by decide +kernel
theorem dL_law_208 : decode cL_law 208 = .ok (.aload_n 1, 1) := by decide +kernel
theorem dL_law_209 : decode cL_law 209 = .ok (.aload_n 0, 1) := by decide +kernel
theorem dL_law_210 : decode cL_law 210 = .ok (.iload 4, 2) := by decide +kernel
theorem dL_law_212 : decode cL_law 212 = .ok (.iconst 1, 1) := by decide +kernel
theorem dL_law_213 : decode cL_law 213 = .ok (.iadd, 1) := by decide +kernel
theorem dL_law_214 : decode cL_law 214 = .ok (.iaload, 1) := by decide +kernel
theorem dL_law_215 : decode cL_law 215 = .ok (.aload_n 0, 1) := by decide +kernel
theorem dL_law_216 : decode cL_law 216 = .ok (.iload 4, 2) := by decide +kernel
theorem dL_law_218 : decode cL_law 218 = .ok (.iconst 2, 1) := by decide +kernel
theorem dL_law_219 : decode cL_law 219 = .ok (.iadd, 1) := by decide +kernel
theorem dL_law_220 : decode cL_law 220 = .ok (.iaload, 1) := by decide +kernel
theorem dL_law_221 : decode cL_law 221 = .ok (.aload_n 0, 1) := by decide +kernel
theorem dL_law_222 : decode cL_law 222 = .ok (.iload 4, 2) := by decide +kernel
theorem dL_law_224 : decode cL_law 224 = .ok (.iconst 3, 1) := by decide +kernel
theorem dL_law_225 : decode cL_law 225 = .ok (.iadd, 1) := by decide +kernel
theorem dL_law_226 : decode cL_law 226 = .ok (.iaload, 1) := by decide +kernel
theorem dL_law_227 : decode cL_law 227 = .ok (.aload_n 3, 1) := by decide +kernel
theorem dL_law_228 : decode cL_law 228 = .ok (.invokestatic 86, 3) := by decide +kernel
theorem dL_law_231 : decode cL_law 231 = .ok (.istore 5, 2) := by decide +kernel
theorem dL_law_233 : decode cL_law 233 = .ok (.aload_n 2, 1) := by decide +kernel
theorem dL_law_234 : decode cL_law 234 = .ok (.aload_n 0, 1) := by decide +kernel
theorem dL_law_235 : decode cL_law 235 = .ok (.iload 4, 2) := by decide +kernel
theorem dL_law_237 : decode cL_law 237 = .ok (.iconst 1, 1) := by decide +kernel
theorem dL_law_238 : decode cL_law 238 = .ok (.iadd, 1) := by decide +kernel
theorem dL_law_239 : decode cL_law 239 = .ok (.iaload, 1) := by decide +kernel
theorem dL_law_240 : decode cL_law 240 = .ok (.aload_n 0, 1) := by decide +kernel
theorem dL_law_241 : decode cL_law 241 = .ok (.iload 4, 2) := by decide +kernel
theorem dL_law_243 : decode cL_law 243 = .ok (.iconst 2, 1) := by decide +kernel
theorem dL_law_244 : decode cL_law 244 = .ok (.iadd, 1) := by decide +kernel
theorem dL_law_245 : decode cL_law 245 = .ok (.iaload, 1) := by decide +kernel
theorem dL_law_246 : decode cL_law 246 = .ok (.aload_n 0, 1) := by decide +kernel
theorem dL_law_247 : decode cL_law 247 = .ok (.iload 4, 2) := by decide +kernel
theorem dL_law_249 : decode cL_law 249 = .ok (.iconst 3, 1) := by decide +kernel
theorem dL_law_250 : decode cL_law 250 = .ok (.iadd, 1) := by decide +kernel
theorem dL_law_251 : decode cL_law 251 = .ok (.iaload, 1) := by decide +kernel
theorem dL_law_252 : decode cL_law 252 = .ok (.invokevirtual 89, 3) := by decide +kernel
theorem dL_law_255 : decode cL_law 255 = .ok (.istore 6, 2) := by decide +kernel
theorem dL_law_257 : decode cL_law 257 = .ok (.aload_n 2, 1) := by decide +kernel
theorem dL_law_258 : decode cL_law 258 = .ok (.invokevirtual 83, 3) := by decide +kernel
theorem dL_law_261 : decode cL_law 261 = .ok (.iload 5, 2) := by decide +kernel
theorem dL_law_263 : decode cL_law 263 = .ok (.if_icmp .eq 5, 3) := by decide +kernel
theorem dL_law_266 : decode cL_law 266 = .ok (.iconst 0, 1) := by decide +kernel
theorem dL_law_267 : decode cL_law 267 = .ok (.ireturn, 1) := by decide +kernel
theorem dL_law_268 : decode cL_law 268 = .ok (.iload 5, 2) := by decide +kernel
theorem dL_law_270 : decode cL_law 270 = .ok (.ifCond .ne 15, 3) := by decide +kernel
theorem dL_law_273 : decode cL_law 273 = .ok (.aload_n 3, 1) := by decide +kernel
theorem dL_law_274 : decode cL_law 274 = .ok (.iconst 0, 1) := by decide +kernel
theorem dL_law_275 : decode cL_law 275 = .ok (.laload, 1) := by decide +kernel
theorem dL_law_276 : decode cL_law 276 = .ok (.iload 6, 2) := by decide +kernel
theorem dL_law_278 : decode cL_law 278 = .ok (.i2l, 1) := by decide +kernel
theorem dL_law_279 : decode cL_law 279 = .ok (.lcmp, 1) := by decide +kernel
theorem dL_law_280 : decode cL_law 280 = .ok (.ifCond .eq 5, 3) := by decide +kernel
theorem dL_law_283 : decode cL_law 283 = .ok (.iconst 0, 1) := by decide +kernel
theorem dL_law_284 : decode cL_law 284 = .ok (.ireturn, 1) := by decide +kernel
theorem dL_law_285 : decode cL_law 285 = .ok (.goto 1042, 3) := by decide +kernel
theorem dL_law_288 : decode cL_law 288 = .ok (.aload_n 1, 1) := by decide +kernel
theorem dL_law_289 : decode cL_law 289 = .ok (.aload_n 0, 1) := by decide +kernel
theorem dL_law_290 : decode cL_law 290 = .ok (.iload 4, 2) := by decide +kernel
theorem dL_law_292 : decode cL_law 292 = .ok (.iconst 1, 1) := by decide +kernel
theorem dL_law_293 : decode cL_law 293 = .ok (.iadd, 1) := by decide +kernel
theorem dL_law_294 : decode cL_law 294 = .ok (.iaload, 1) := by decide +kernel
theorem dL_law_295 : decode cL_law 295 = .ok (.ifCond .eq 7, 3) := by decide +kernel
theorem dL_law_298 : decode cL_law 298 = .ok (.iconst 1, 1) := by decide +kernel
theorem dL_law_299 : decode cL_law 299 = .ok (.goto 4, 3) := by decide +kernel
theorem dL_law_302 : decode cL_law 302 = .ok (.iconst 0, 1) := by decide +kernel
theorem dL_law_303 : decode cL_law 303 = .ok (.invokevirtual 90, 3) := by decide +kernel
theorem dL_law_306 : decode cL_law 306 = .ok (.aload_n 2, 1) := by decide +kernel
theorem dL_law_307 : decode cL_law 307 = .ok (.aload_n 0, 1) := by decide +kernel
theorem dL_law_308 : decode cL_law 308 = .ok (.iload 4, 2) := by decide +kernel
theorem dL_law_310 : decode cL_law 310 = .ok (.iconst 1, 1) := by decide +kernel
theorem dL_law_311 : decode cL_law 311 = .ok (.iadd, 1) := by decide +kernel
theorem dL_law_312 : decode cL_law 312 = .ok (.iaload, 1) := by decide +kernel
theorem dL_law_313 : decode cL_law 313 = .ok (.ifCond .eq 7, 3) := by decide +kernel
theorem dL_law_316 : decode cL_law 316 = .ok (.iconst 1, 1) := by decide +kernel
theorem dL_law_317 : decode cL_law 317 = .ok (.goto 4, 3) := by decide +kernel
theorem dL_law_320 : decode cL_law 320 = .ok (.iconst 0, 1) := by decide +kernel
theorem dL_law_321 : decode cL_law 321 = .ok (.invokevirtual 94, 3) := by decide +kernel
theorem dL_law_324 : decode cL_law 324 = .ok (.if_icmp .eq 1003, 3) := by decide +kernel
theorem dL_law_327 : decode cL_law 327 = .ok (.iconst 0, 1) := by decide +kernel
theorem dL_law_328 : decode cL_law 328 = .ok (.ireturn, 1) := by decide +kernel
theorem dL_law_329 : decode cL_law 329 = .ok (.aload_n 1, 1) := by decide +kernel
theorem dL_law_330 : decode cL_law 330 = .ok (.aload_n 0, 1) := by decide +kernel
theorem dL_law_331 : decode cL_law 331 = .ok (.iload 4, 2) := by decide +kernel
theorem dL_law_333 : decode cL_law 333 = .ok (.iconst 1, 1) := by decide +kernel
theorem dL_law_334 : decode cL_law 334 = .ok (.iadd, 1) := by decide +kernel
theorem dL_law_335 : decode cL_law 335 = .ok (.iaload, 1) := by decide +kernel
theorem dL_law_336 : decode cL_law 336 = .ok (.aload_n 0, 1) := by decide +kernel
theorem dL_law_337 : decode cL_law 337 = .ok (.iload 4, 2) := by decide +kernel
theorem dL_law_339 : decode cL_law 339 = .ok (.iconst 2, 1) := by decide +kernel
theorem dL_law_340 : decode cL_law 340 = .ok (.iadd, 1) := by decide +kernel
theorem dL_law_341 : decode cL_law 341 = .ok (.iaload, 1) := by decide +kernel
theorem dL_law_342 : decode cL_law 342 = .ok (.aload_n 0, 1) := by decide +kernel
theorem dL_law_343 : decode cL_law 343 = .ok (.iload 4, 2) := by decide +kernel
theorem dL_law_345 : decode cL_law 345 = .ok (.iconst 3, 1) := by decide +kernel
theorem dL_law_346 : decode cL_law 346 = .ok (.iadd, 1) := by decide +kernel
theorem dL_law_347 : decode cL_law 347 = .ok (.iaload, 1) := by decide +kernel
theorem dL_law_348 : decode cL_law 348 = .ok (.aload_n 0, 1) := by decide +kernel
theorem dL_law_349 : decode cL_law 349 = .ok (.iload 4, 2) := by decide +kernel
theorem dL_law_351 : decode cL_law 351 = .ok (.iconst 4, 1) := by decide +kernel
theorem dL_law_352 : decode cL_law 352 = .ok (.iadd, 1) := by decide +kernel
theorem dL_law_353 : decode cL_law 353 = .ok (.iaload, 1) := by decide +kernel
theorem dL_law_354 : decode cL_law 354 = .ok (.aload_n 0, 1) := by decide +kernel
theorem dL_law_355 : decode cL_law 355 = .ok (.iload 4, 2) := by decide +kernel
theorem dL_law_357 : decode cL_law 357 = .ok (.iconst 5, 1) := by decide +kernel
theorem dL_law_358 : decode cL_law 358 = .ok (.iadd, 1) := by decide +kernel
theorem dL_law_359 : decode cL_law 359 = .ok (.iaload, 1) := by decide +kernel
theorem dL_law_360 : decode cL_law 360 = .ok (.aload_n 3, 1) := by decide +kernel
theorem dL_law_361 : decode cL_law 361 = .ok (.invokestatic 95, 3) := by decide +kernel
theorem dL_law_364 : decode cL_law 364 = .ok (.istore 5, 2) := by decide +kernel
theorem dL_law_366 : decode cL_law 366 = .ok (.aload_n 2, 1) := by decide +kernel
theorem dL_law_367 : decode cL_law 367 = .ok (.aload_n 0, 1) := by decide +kernel
theorem dL_law_368 : decode cL_law 368 = .ok (.iload 4, 2) := by decide +kernel
theorem dL_law_370 : decode cL_law 370 = .ok (.iconst 1, 1) := by decide +kernel
theorem dL_law_371 : decode cL_law 371 = .ok (.iadd, 1) := by decide +kernel
theorem dL_law_372 : decode cL_law 372 = .ok (.iaload, 1) := by decide +kernel
theorem dL_law_373 : decode cL_law 373 = .ok (.aload_n 0, 1) := by decide +kernel
theorem dL_law_374 : decode cL_law 374 = .ok (.iload 4, 2) := by decide +kernel
theorem dL_law_376 : decode cL_law 376 = .ok (.iconst 2, 1) := by decide +kernel
theorem dL_law_377 : decode cL_law 377 = .ok (.iadd, 1) := by decide +kernel
theorem dL_law_378 : decode cL_law 378 = .ok (.iaload, 1) := by decide +kernel
theorem dL_law_379 : decode cL_law 379 = .ok (.aload_n 0, 1) := by decide +kernel
theorem dL_law_380 : decode cL_law 380 = .ok (.iload 4, 2) := by decide +kernel
theorem dL_law_382 : decode cL_law 382 = .ok (.iconst 3, 1) := by decide +kernel
theorem dL_law_383 : decode cL_law 383 = .ok (.iadd, 1) := by decide +kernel
theorem dL_law_384 : decode cL_law 384 = .ok (.iaload, 1) := by decide +kernel
theorem dL_law_385 : decode cL_law 385 = .ok (.aload_n 0, 1) := by decide +kernel
theorem dL_law_386 : decode cL_law 386 = .ok (.iload 4, 2) := by decide +kernel
theorem dL_law_388 : decode cL_law 388 = .ok (.iconst 4, 1) := by decide +kernel
theorem dL_law_389 : decode cL_law 389 = .ok (.iadd, 1) := by decide +kernel
theorem dL_law_390 : decode cL_law 390 = .ok (.iaload, 1) := by decide +kernel
theorem dL_law_391 : decode cL_law 391 = .ok (.aload_n 0, 1) := by decide +kernel
theorem dL_law_392 : decode cL_law 392 = .ok (.iload 4, 2) := by decide +kernel
theorem dL_law_394 : decode cL_law 394 = .ok (.iconst 5, 1) := by decide +kernel
theorem dL_law_395 : decode cL_law 395 = .ok (.iadd, 1) := by decide +kernel
theorem dL_law_396 : decode cL_law 396 = .ok (.iaload, 1) := by decide +kernel
theorem dL_law_397 : decode cL_law 397 = .ok (.invokevirtual 98, 3) := by decide +kernel
theorem dL_law_400 : decode cL_law 400 = .ok (.istore 6, 2) := by decide +kernel
theorem dL_law_402 : decode cL_law 402 = .ok (.aload_n 2, 1) := by decide +kernel
theorem dL_law_403 : decode cL_law 403 = .ok (.invokevirtual 83, 3) := by decide +kernel
theorem dL_law_406 : decode cL_law 406 = .ok (.iload 5, 2) := by decide +kernel
theorem dL_law_408 : decode cL_law 408 = .ok (.if_icmp .eq 5, 3) := by decide +kernel
theorem dL_law_411 : decode cL_law 411 = .ok (.iconst 0, 1) := by decide +kernel
theorem dL_law_412 : decode cL_law 412 = .ok (.ireturn, 1) := by decide +kernel
theorem dL_law_413 : decode cL_law 413 = .ok (.iload 5, 2) := by decide +kernel
theorem dL_law_415 : decode cL_law 415 = .ok (.ifCond .ne 15, 3) := by decide +kernel
theorem dL_law_418 : decode cL_law 418 = .ok (.aload_n 3, 1) := by decide +kernel
theorem dL_law_419 : decode cL_law 419 = .ok (.iconst 0, 1) := by decide +kernel
theorem dL_law_420 : decode cL_law 420 = .ok (.laload, 1) := by decide +kernel
theorem dL_law_421 : decode cL_law 421 = .ok (.iload 6, 2) := by decide +kernel
theorem dL_law_423 : decode cL_law 423 = .ok (.i2l, 1) := by decide +kernel
theorem dL_law_424 : decode cL_law 424 = .ok (.lcmp, 1) := by decide +kernel
theorem dL_law_425 : decode cL_law 425 = .ok (.ifCond .eq 5, 3) := by decide +kernel
theorem dL_law_428 : decode cL_law 428 = .ok (.iconst 0, 1) := by decide +kernel
theorem dL_law_429 : decode cL_law 429 = .ok (.ireturn, 1) := by decide +kernel
theorem dL_law_430 : decode cL_law 430 = .ok (.goto 897, 3) := by decide +kernel
theorem dL_law_433 : decode cL_law 433 = .ok (.aload_n 1, 1) := by decide +kernel
theorem dL_law_434 : decode cL_law 434 = .ok (.aload_n 0, 1) := by decide +kernel
theorem dL_law_435 : decode cL_law 435 = .ok (.iload 4, 2) := by decide +kernel
theorem dL_law_437 : decode cL_law 437 = .ok (.iconst 1, 1) := by decide +kernel
theorem dL_law_438 : decode cL_law 438 = .ok (.iadd, 1) := by decide +kernel
theorem dL_law_439 : decode cL_law 439 = .ok (.iaload, 1) := by decide +kernel
theorem dL_law_440 : decode cL_law 440 = .ok (.aload_n 0, 1) := by decide +kernel
theorem dL_law_441 : decode cL_law 441 = .ok (.iload 4, 2) := by decide +kernel
theorem dL_law_443 : decode cL_law 443 = .ok (.iconst 2, 1) := by decide +kernel
theorem dL_law_444 : decode cL_law 444 = .ok (.iadd, 1) := by decide +kernel
theorem dL_law_445 : decode cL_law 445 = .ok (.iaload, 1) := by decide +kernel
theorem dL_law_446 : decode cL_law 446 = .ok (.aload_n 0, 1) := by decide +kernel
theorem dL_law_447 : decode cL_law 447 = .ok (.iload 4, 2) := by decide +kernel
theorem dL_law_449 : decode cL_law 449 = .ok (.iconst 3, 1) := by decide +kernel
theorem dL_law_450 : decode cL_law 450 = .ok (.iadd, 1) := by decide +kernel
theorem dL_law_451 : decode cL_law 451 = .ok (.iaload, 1) := by decide +kernel
theorem dL_law_452 : decode cL_law 452 = .ok (.aload_n 3, 1) := by decide +kernel
theorem dL_law_453 : decode cL_law 453 = .ok (.invokestatic 99, 3) := by decide +kernel
theorem dL_law_456 : decode cL_law 456 = .ok (.istore 5, 2) := by decide +kernel
theorem dL_law_458 : decode cL_law 458 = .ok (.aload_n 2, 1) := by decide +kernel
theorem dL_law_459 : decode cL_law 459 = .ok (.aload_n 0, 1) := by decide +kernel
theorem dL_law_460 : decode cL_law 460 = .ok (.iload 4, 2) := by decide +kernel
theorem dL_law_462 : decode cL_law 462 = .ok (.iconst 1, 1) := by decide +kernel
theorem dL_law_463 : decode cL_law 463 = .ok (.iadd, 1) := by decide +kernel
theorem dL_law_464 : decode cL_law 464 = .ok (.iaload, 1) := by decide +kernel
theorem dL_law_465 : decode cL_law 465 = .ok (.aload_n 0, 1) := by decide +kernel
theorem dL_law_466 : decode cL_law 466 = .ok (.iload 4, 2) := by decide +kernel
theorem dL_law_468 : decode cL_law 468 = .ok (.iconst 2, 1) := by decide +kernel
theorem dL_law_469 : decode cL_law 469 = .ok (.iadd, 1) := by decide +kernel
theorem dL_law_470 : decode cL_law 470 = .ok (.iaload, 1) := by decide +kernel
theorem dL_law_471 : decode cL_law 471 = .ok (.aload_n 0, 1) := by decide +kernel
theorem dL_law_472 : decode cL_law 472 = .ok (.iload 4, 2) := by decide +kernel
theorem dL_law_474 : decode cL_law 474 = .ok (.iconst 3, 1) := by decide +kernel
theorem dL_law_475 : decode cL_law 475 = .ok (.iadd, 1) := by decide +kernel
theorem dL_law_476 : decode cL_law 476 = .ok (.iaload, 1) := by decide +kernel
theorem dL_law_477 : decode cL_law 477 = .ok (.invokevirtual 101, 3) := by decide +kernel
theorem dL_law_480 : decode cL_law 480 = .ok (.istore 6, 2) := by decide +kernel
theorem dL_law_482 : decode cL_law 482 = .ok (.aload_n 2, 1) := by decide +kernel
theorem dL_law_483 : decode cL_law 483 = .ok (.invokevirtual 83, 3) := by decide +kernel
theorem dL_law_486 : decode cL_law 486 = .ok (.iload 5, 2) := by decide +kernel
theorem dL_law_488 : decode cL_law 488 = .ok (.if_icmp .eq 5, 3) := by decide +kernel
theorem dL_law_491 : decode cL_law 491 = .ok (.iconst 0, 1) := by decide +kernel
theorem dL_law_492 : decode cL_law 492 = .ok (.ireturn, 1) := by decide +kernel
theorem dL_law_493 : decode cL_law 493 = .ok (.iload 5, 2) := by decide +kernel
theorem dL_law_495 : decode cL_law 495 = .ok (.ifCond .ne 15, 3) := by decide +kernel
theorem dL_law_498 : decode cL_law 498 = .ok (.aload_n 3, 1) := by decide +kernel
theorem dL_law_499 : decode cL_law 499 = .ok (.iconst 0, 1) := by decide +kernel
theorem dL_law_500 : decode cL_law 500 = .ok (.laload, 1) := by decide +kernel
theorem dL_law_501 : decode cL_law 501 = .ok (.iload 6, 2) := by decide +kernel
theorem dL_law_503 : decode cL_law 503 = .ok (.i2l, 1) := by decide +kernel
theorem dL_law_504 : decode cL_law 504 = .ok (.lcmp, 1) := by decide +kernel
theorem dL_law_505 : decode cL_law 505 = .ok (.ifCond .eq 5, 3) := by decide +kernel
theorem dL_law_508 : decode cL_law 508 = .ok (.iconst 0, 1) := by decide +kernel
theorem dL_law_509 : decode cL_law 509 = .ok (.ireturn, 1) := by decide +kernel
theorem dL_law_510 : decode cL_law 510 = .ok (.goto 817, 3) := by decide +kernel
theorem dL_law_513 : decode cL_law 513 = .ok (.aload_n 1, 1) := by decide +kernel
theorem dL_law_514 : decode cL_law 514 = .ok (.aload_n 0, 1) := by decide +kernel
theorem dL_law_515 : decode cL_law 515 = .ok (.iload 4, 2) := by decide +kernel
theorem dL_law_517 : decode cL_law 517 = .ok (.iconst 1, 1) := by decide +kernel
theorem dL_law_518 : decode cL_law 518 = .ok (.iadd, 1) := by decide +kernel
theorem dL_law_519 : decode cL_law 519 = .ok (.iaload, 1) := by decide +kernel
theorem dL_law_520 : decode cL_law 520 = .ok (.aload_n 0, 1) := by decide +kernel
theorem dL_law_521 : decode cL_law 521 = .ok (.iload 4, 2) := by decide +kernel
theorem dL_law_523 : decode cL_law 523 = .ok (.iconst 2, 1) := by decide +kernel
theorem dL_law_524 : decode cL_law 524 = .ok (.iadd, 1) := by decide +kernel
theorem dL_law_525 : decode cL_law 525 = .ok (.iaload, 1) := by decide +kernel
theorem dL_law_526 : decode cL_law 526 = .ok (.aload_n 3, 1) := by decide +kernel
theorem dL_law_527 : decode cL_law 527 = .ok (.invokestatic 102, 3) := by decide +kernel
theorem dL_law_530 : decode cL_law 530 = .ok (.istore 5, 2) := by decide +kernel
theorem dL_law_532 : decode cL_law 532 = .ok (.aload_n 2, 1) := by decide +kernel
theorem dL_law_533 : decode cL_law 533 = .ok (.aload_n 0, 1) := by decide +kernel
theorem dL_law_534 : decode cL_law 534 = .ok (.iload 4, 2) := by decide +kernel
theorem dL_law_536 : decode cL_law 536 = .ok (.iconst 1, 1) := by decide +kernel
theorem dL_law_537 : decode cL_law 537 = .ok (.iadd, 1) := by decide +kernel
theorem dL_law_538 : decode cL_law 538 = .ok (.iaload, 1) := by decide +kernel
theorem dL_law_539 : decode cL_law 539 = .ok (.aload_n 0, 1) := by decide +kernel
theorem dL_law_540 : decode cL_law 540 = .ok (.iload 4, 2) := by decide +kernel
theorem dL_law_542 : decode cL_law 542 = .ok (.iconst 2, 1) := by decide +kernel
theorem dL_law_543 : decode cL_law 543 = .ok (.iadd, 1) := by decide +kernel
theorem dL_law_544 : decode cL_law 544 = .ok (.iaload, 1) := by decide +kernel
theorem dL_law_545 : decode cL_law 545 = .ok (.invokevirtual 105, 3) := by decide +kernel
theorem dL_law_548 : decode cL_law 548 = .ok (.istore 6, 2) := by decide +kernel
theorem dL_law_550 : decode cL_law 550 = .ok (.aload_n 2, 1) := by decide +kernel
theorem dL_law_551 : decode cL_law 551 = .ok (.invokevirtual 83, 3) := by decide +kernel
theorem dL_law_554 : decode cL_law 554 = .ok (.iload 5, 2) := by decide +kernel
theorem dL_law_556 : decode cL_law 556 = .ok (.if_icmp .eq 5, 3) := by decide +kernel
theorem dL_law_559 : decode cL_law 559 = .ok (.iconst 0, 1) := by decide +kernel
theorem dL_law_560 : decode cL_law 560 = .ok (.ireturn, 1) := by decide +kernel
theorem dL_law_561 : decode cL_law 561 = .ok (.iload 5, 2) := by decide +kernel
theorem dL_law_563 : decode cL_law 563 = .ok (.ifCond .ne 15, 3) := by decide +kernel
theorem dL_law_566 : decode cL_law 566 = .ok (.aload_n 3, 1) := by decide +kernel
theorem dL_law_567 : decode cL_law 567 = .ok (.iconst 0, 1) := by decide +kernel
theorem dL_law_568 : decode cL_law 568 = .ok (.laload, 1) := by decide +kernel
theorem dL_law_569 : decode cL_law 569 = .ok (.iload 6, 2) := by decide +kernel
theorem dL_law_571 : decode cL_law 571 = .ok (.i2l, 1) := by decide +kernel
theorem dL_law_572 : decode cL_law 572 = .ok (.lcmp, 1) := by decide +kernel
theorem dL_law_573 : decode cL_law 573 = .ok (.ifCond .eq 5, 3) := by decide +kernel
theorem dL_law_576 : decode cL_law 576 = .ok (.iconst 0, 1) := by decide +kernel
theorem dL_law_577 : decode cL_law 577 = .ok (.ireturn, 1) := by decide +kernel
theorem dL_law_578 : decode cL_law 578 = .ok (.goto 749, 3) := by decide +kernel
theorem dL_law_581 : decode cL_law 581 = .ok (.aload_n 1, 1) := by decide +kernel
theorem dL_law_582 : decode cL_law 582 = .ok (.aload_n 0, 1) := by decide +kernel
theorem dL_law_583 : decode cL_law 583 = .ok (.iload 4, 2) := by decide +kernel
theorem dL_law_585 : decode cL_law 585 = .ok (.iconst 1, 1) := by decide +kernel
theorem dL_law_586 : decode cL_law 586 = .ok (.iadd, 1) := by decide +kernel
theorem dL_law_587 : decode cL_law 587 = .ok (.iaload, 1) := by decide +kernel
theorem dL_law_588 : decode cL_law 588 = .ok (.aload_n 0, 1) := by decide +kernel
theorem dL_law_589 : decode cL_law 589 = .ok (.iload 4, 2) := by decide +kernel
theorem dL_law_591 : decode cL_law 591 = .ok (.iconst 2, 1) := by decide +kernel
theorem dL_law_592 : decode cL_law 592 = .ok (.iadd, 1) := by decide +kernel
theorem dL_law_593 : decode cL_law 593 = .ok (.iaload, 1) := by decide +kernel
theorem dL_law_594 : decode cL_law 594 = .ok (.aload_n 0, 1) := by decide +kernel
theorem dL_law_595 : decode cL_law 595 = .ok (.iload 4, 2) := by decide +kernel
theorem dL_law_597 : decode cL_law 597 = .ok (.iconst 3, 1) := by decide +kernel
theorem dL_law_598 : decode cL_law 598 = .ok (.iadd, 1) := by decide +kernel
theorem dL_law_599 : decode cL_law 599 = .ok (.iaload, 1) := by decide +kernel
theorem dL_law_600 : decode cL_law 600 = .ok (.aload_n 0, 1) := by decide +kernel
theorem dL_law_601 : decode cL_law 601 = .ok (.iload 4, 2) := by decide +kernel
theorem dL_law_603 : decode cL_law 603 = .ok (.iconst 4, 1) := by decide +kernel
theorem dL_law_604 : decode cL_law 604 = .ok (.iadd, 1) := by decide +kernel
theorem dL_law_605 : decode cL_law 605 = .ok (.iaload, 1) := by decide +kernel
theorem dL_law_606 : decode cL_law 606 = .ok (.aload_n 3, 1) := by decide +kernel
theorem dL_law_607 : decode cL_law 607 = .ok (.invokestatic 106, 3) := by decide +kernel
theorem dL_law_610 : decode cL_law 610 = .ok (.istore 5, 2) := by decide +kernel
theorem dL_law_612 : decode cL_law 612 = .ok (.aload_n 2, 1) := by decide +kernel
theorem dL_law_613 : decode cL_law 613 = .ok (.aload_n 0, 1) := by decide +kernel
theorem dL_law_614 : decode cL_law 614 = .ok (.iload 4, 2) := by decide +kernel
theorem dL_law_616 : decode cL_law 616 = .ok (.iconst 1, 1) := by decide +kernel
theorem dL_law_617 : decode cL_law 617 = .ok (.iadd, 1) := by decide +kernel
theorem dL_law_618 : decode cL_law 618 = .ok (.iaload, 1) := by decide +kernel
theorem dL_law_619 : decode cL_law 619 = .ok (.aload_n 0, 1) := by decide +kernel
theorem dL_law_620 : decode cL_law 620 = .ok (.iload 4, 2) := by decide +kernel
theorem dL_law_622 : decode cL_law 622 = .ok (.iconst 2, 1) := by decide +kernel
theorem dL_law_623 : decode cL_law 623 = .ok (.iadd, 1) := by decide +kernel
theorem dL_law_624 : decode cL_law 624 = .ok (.iaload, 1) := by decide +kernel
theorem dL_law_625 : decode cL_law 625 = .ok (.aload_n 0, 1) := by decide +kernel
theorem dL_law_626 : decode cL_law 626 = .ok (.iload 4, 2) := by decide +kernel
theorem dL_law_628 : decode cL_law 628 = .ok (.iconst 3, 1) := by decide +kernel
theorem dL_law_629 : decode cL_law 629 = .ok (.iadd, 1) := by decide +kernel
theorem dL_law_630 : decode cL_law 630 = .ok (.iaload, 1) := by decide +kernel
theorem dL_law_631 : decode cL_law 631 = .ok (.aload_n 0, 1) := by decide +kernel
theorem dL_law_632 : decode cL_law 632 = .ok (.iload 4, 2) := by decide +kernel
theorem dL_law_634 : decode cL_law 634 = .ok (.iconst 4, 1) := by decide +kernel
theorem dL_law_635 : decode cL_law 635 = .ok (.iadd, 1) := by decide +kernel
theorem dL_law_636 : decode cL_law 636 = .ok (.iaload, 1) := by decide +kernel
theorem dL_law_637 : decode cL_law 637 = .ok (.invokevirtual 109, 3) := by decide +kernel
theorem dL_law_640 : decode cL_law 640 = .ok (.istore 6, 2) := by decide +kernel
theorem dL_law_642 : decode cL_law 642 = .ok (.aload_n 2, 1) := by decide +kernel
theorem dL_law_643 : decode cL_law 643 = .ok (.invokevirtual 83, 3) := by decide +kernel
theorem dL_law_646 : decode cL_law 646 = .ok (.iload 5, 2) := by decide +kernel
theorem dL_law_648 : decode cL_law 648 = .ok (.if_icmp .eq 5, 3) := by decide +kernel
theorem dL_law_651 : decode cL_law 651 = .ok (.iconst 0, 1) := by decide +kernel
theorem dL_law_652 : decode cL_law 652 = .ok (.ireturn, 1) := by decide +kernel
theorem dL_law_653 : decode cL_law 653 = .ok (.iload 5, 2) := by decide +kernel
theorem dL_law_655 : decode cL_law 655 = .ok (.ifCond .ne 15, 3) := by decide +kernel
theorem dL_law_658 : decode cL_law 658 = .ok (.aload_n 3, 1) := by decide +kernel
theorem dL_law_659 : decode cL_law 659 = .ok (.iconst 0, 1) := by decide +kernel
theorem dL_law_660 : decode cL_law 660 = .ok (.laload, 1) := by decide +kernel
theorem dL_law_661 : decode cL_law 661 = .ok (.iload 6, 2) := by decide +kernel
theorem dL_law_663 : decode cL_law 663 = .ok (.i2l, 1) := by decide +kernel
theorem dL_law_664 : decode cL_law 664 = .ok (.lcmp, 1) := by decide +kernel
theorem dL_law_665 : decode cL_law 665 = .ok (.ifCond .eq 5, 3) := by decide +kernel
theorem dL_law_668 : decode cL_law 668 = .ok (.iconst 0, 1) := by decide +kernel
theorem dL_law_669 : decode cL_law 669 = .ok (.ireturn, 1) := by decide +kernel
theorem dL_law_670 : decode cL_law 670 = .ok (.goto 657, 3) := by decide +kernel
theorem dL_law_673 : decode cL_law 673 = .ok (.aload_n 1, 1) := by decide +kernel
theorem dL_law_674 : decode cL_law 674 = .ok (.aload_n 3, 1) := by decide +kernel
theorem dL_law_675 : decode cL_law 675 = .ok (.invokestatic 110, 3) := by decide +kernel
theorem dL_law_678 : decode cL_law 678 = .ok (.istore 5, 2) := by decide +kernel
theorem dL_law_680 : decode cL_law 680 = .ok (.aload_n 2, 1) := by decide +kernel
theorem dL_law_681 : decode cL_law 681 = .ok (.invokevirtual 113, 3) := by decide +kernel
theorem dL_law_684 : decode cL_law 684 = .ok (.istore 6, 2) := by decide +kernel
theorem dL_law_686 : decode cL_law 686 = .ok (.aload_n 2, 1) := by decide +kernel
theorem dL_law_687 : decode cL_law 687 = .ok (.invokevirtual 83, 3) := by decide +kernel
theorem dL_law_690 : decode cL_law 690 = .ok (.iload 5, 2) := by decide +kernel
theorem dL_law_692 : decode cL_law 692 = .ok (.if_icmp .eq 5, 3) := by decide +kernel
theorem dL_law_695 : decode cL_law 695 = .ok (.iconst 0, 1) := by decide +kernel
theorem dL_law_696 : decode cL_law 696 = .ok (.ireturn, 1) := by decide +kernel
theorem dL_law_697 : decode cL_law 697 = .ok (.iload 5, 2) := by decide +kernel
theorem dL_law_699 : decode cL_law 699 = .ok (.ifCond .ne 15, 3) := by decide +kernel
theorem dL_law_702 : decode cL_law 702 = .ok (.aload_n 3, 1) := by decide +kernel
theorem dL_law_703 : decode cL_law 703 = .ok (.iconst 0, 1) := by decide +kernel
theorem dL_law_704 : decode cL_law 704 = .ok (.laload, 1) := by decide +kernel
theorem dL_law_705 : decode cL_law 705 = .ok (.iload 6, 2) := by decide +kernel
theorem dL_law_707 : decode cL_law 707 = .ok (.i2l, 1) := by decide +kernel
theorem dL_law_708 : decode cL_law 708 = .ok (.lcmp, 1) := by decide +kernel
theorem dL_law_709 : decode cL_law 709 = .ok (.ifCond .eq 5, 3) := by decide +kernel
theorem dL_law_712 : decode cL_law 712 = .ok (.iconst 0, 1) := by decide +kernel
theorem dL_law_713 : decode cL_law 713 = .ok (.ireturn, 1) := by decide +kernel
theorem dL_law_714 : decode cL_law 714 = .ok (.goto 613, 3) := by decide +kernel
theorem dL_law_717 : decode cL_law 717 = .ok (.aload_n 1, 1) := by decide +kernel
theorem dL_law_718 : decode cL_law 718 = .ok (.aload_n 0, 1) := by decide +kernel
theorem dL_law_719 : decode cL_law 719 = .ok (.iload 4, 2) := by decide +kernel
theorem dL_law_721 : decode cL_law 721 = .ok (.iconst 1, 1) := by decide +kernel
theorem dL_law_722 : decode cL_law 722 = .ok (.iadd, 1) := by decide +kernel
theorem dL_law_723 : decode cL_law 723 = .ok (.iaload, 1) := by decide +kernel
theorem dL_law_724 : decode cL_law 724 = .ok (.aload_n 3, 1) := by decide +kernel
theorem dL_law_725 : decode cL_law 725 = .ok (.invokestatic 114, 3) := by decide +kernel
theorem dL_law_728 : decode cL_law 728 = .ok (.istore 5, 2) := by decide +kernel
theorem dL_law_730 : decode cL_law 730 = .ok (.aload_n 2, 1) := by decide +kernel
theorem dL_law_731 : decode cL_law 731 = .ok (.aload_n 0, 1) := by decide +kernel
theorem dL_law_732 : decode cL_law 732 = .ok (.iload 4, 2) := by decide +kernel
theorem dL_law_734 : decode cL_law 734 = .ok (.iconst 1, 1) := by decide +kernel
theorem dL_law_735 : decode cL_law 735 = .ok (.iadd, 1) := by decide +kernel
theorem dL_law_736 : decode cL_law 736 = .ok (.iaload, 1) := by decide +kernel
theorem dL_law_737 : decode cL_law 737 = .ok (.invokevirtual 117, 3) := by decide +kernel
theorem dL_law_740 : decode cL_law 740 = .ok (.istore 6, 2) := by decide +kernel
theorem dL_law_742 : decode cL_law 742 = .ok (.aload_n 2, 1) := by decide +kernel
theorem dL_law_743 : decode cL_law 743 = .ok (.invokevirtual 83, 3) := by decide +kernel
theorem dL_law_746 : decode cL_law 746 = .ok (.iload 5, 2) := by decide +kernel
theorem dL_law_748 : decode cL_law 748 = .ok (.if_icmp .eq 5, 3) := by decide +kernel
theorem dL_law_751 : decode cL_law 751 = .ok (.iconst 0, 1) := by decide +kernel
theorem dL_law_752 : decode cL_law 752 = .ok (.ireturn, 1) := by decide +kernel
theorem dL_law_753 : decode cL_law 753 = .ok (.iload 5, 2) := by decide +kernel
theorem dL_law_755 : decode cL_law 755 = .ok (.ifCond .ne 15, 3) := by decide +kernel
theorem dL_law_758 : decode cL_law 758 = .ok (.aload_n 3, 1) := by decide +kernel
theorem dL_law_759 : decode cL_law 759 = .ok (.iconst 0, 1) := by decide +kernel
theorem dL_law_760 : decode cL_law 760 = .ok (.laload, 1) := by decide +kernel
theorem dL_law_761 : decode cL_law 761 = .ok (.iload 6, 2) := by decide +kernel
theorem dL_law_763 : decode cL_law 763 = .ok (.i2l, 1) := by decide +kernel
theorem dL_law_764 : decode cL_law 764 = .ok (.lcmp, 1) := by decide +kernel
theorem dL_law_765 : decode cL_law 765 = .ok (.ifCond .eq 5, 3) := by decide +kernel
theorem dL_law_768 : decode cL_law 768 = .ok (.iconst 0, 1) := by decide +kernel
theorem dL_law_769 : decode cL_law 769 = .ok (.ireturn, 1) := by decide +kernel
theorem dL_law_770 : decode cL_law 770 = .ok (.goto 557, 3) := by decide +kernel
theorem dL_law_773 : decode cL_law 773 = .ok (.aload_n 1, 1) := by decide +kernel
theorem dL_law_774 : decode cL_law 774 = .ok (.invokevirtual 118, 3) := by decide +kernel
theorem dL_law_777 : decode cL_law 777 = .ok (.aload_n 2, 1) := by decide +kernel
theorem dL_law_778 : decode cL_law 778 = .ok (.invokevirtual 121, 3) := by decide +kernel
theorem dL_law_781 : decode cL_law 781 = .ok (.if_icmp .eq 546, 3) := by decide +kernel
theorem dL_law_784 : decode cL_law 784 = .ok (.iconst 0, 1) := by decide +kernel
theorem dL_law_785 : decode cL_law 785 = .ok (.ireturn, 1) := by decide +kernel
theorem dL_law_786 : decode cL_law 786 = .ok (.aload_n 1, 1) := by decide +kernel
theorem dL_law_787 : decode cL_law 787 = .ok (.aload_n 0, 1) := by decide +kernel
theorem dL_law_788 : decode cL_law 788 = .ok (.iload 4, 2) := by decide +kernel
theorem dL_law_790 : decode cL_law 790 = .ok (.iconst 1, 1) := by decide +kernel
theorem dL_law_791 : decode cL_law 791 = .ok (.iadd, 1) := by decide +kernel
theorem dL_law_792 : decode cL_law 792 = .ok (.iaload, 1) := by decide +kernel
theorem dL_law_793 : decode cL_law 793 = .ok (.aload_n 3, 1) := by decide +kernel
theorem dL_law_794 : decode cL_law 794 = .ok (.invokestatic 122, 3) := by decide +kernel
theorem dL_law_797 : decode cL_law 797 = .ok (.istore 5, 2) := by decide +kernel
theorem dL_law_799 : decode cL_law 799 = .ok (.aload_n 2, 1) := by decide +kernel
theorem dL_law_800 : decode cL_law 800 = .ok (.aload_n 0, 1) := by decide +kernel
theorem dL_law_801 : decode cL_law 801 = .ok (.iload 4, 2) := by decide +kernel
theorem dL_law_803 : decode cL_law 803 = .ok (.iconst 1, 1) := by decide +kernel
theorem dL_law_804 : decode cL_law 804 = .ok (.iadd, 1) := by decide +kernel
theorem dL_law_805 : decode cL_law 805 = .ok (.iaload, 1) := by decide +kernel
theorem dL_law_806 : decode cL_law 806 = .ok (.invokevirtual 124, 3) := by decide +kernel
theorem dL_law_809 : decode cL_law 809 = .ok (.istore 6, 2) := by decide +kernel
theorem dL_law_811 : decode cL_law 811 = .ok (.aload_n 2, 1) := by decide +kernel
theorem dL_law_812 : decode cL_law 812 = .ok (.invokevirtual 83, 3) := by decide +kernel
theorem dL_law_815 : decode cL_law 815 = .ok (.iload 5, 2) := by decide +kernel
theorem dL_law_817 : decode cL_law 817 = .ok (.if_icmp .eq 5, 3) := by decide +kernel
theorem dL_law_820 : decode cL_law 820 = .ok (.iconst 0, 1) := by decide +kernel
theorem dL_law_821 : decode cL_law 821 = .ok (.ireturn, 1) := by decide +kernel
theorem dL_law_822 : decode cL_law 822 = .ok (.iload 5, 2) := by decide +kernel
theorem dL_law_824 : decode cL_law 824 = .ok (.ifCond .ne 15, 3) := by decide +kernel
theorem dL_law_827 : decode cL_law 827 = .ok (.aload_n 3, 1) := by decide +kernel
theorem dL_law_828 : decode cL_law 828 = .ok (.iconst 0, 1) := by decide +kernel
theorem dL_law_829 : decode cL_law 829 = .ok (.laload, 1) := by decide +kernel
theorem dL_law_830 : decode cL_law 830 = .ok (.iload 6, 2) := by decide +kernel
theorem dL_law_832 : decode cL_law 832 = .ok (.i2l, 1) := by decide +kernel
theorem dL_law_833 : decode cL_law 833 = .ok (.lcmp, 1) := by decide +kernel
theorem dL_law_834 : decode cL_law 834 = .ok (.ifCond .eq 5, 3) := by decide +kernel
theorem dL_law_837 : decode cL_law 837 = .ok (.iconst 0, 1) := by decide +kernel
theorem dL_law_838 : decode cL_law 838 = .ok (.ireturn, 1) := by decide +kernel
theorem dL_law_839 : decode cL_law 839 = .ok (.goto 488, 3) := by decide +kernel
theorem dL_law_842 : decode cL_law 842 = .ok (.aload_n 1, 1) := by decide +kernel
theorem dL_law_843 : decode cL_law 843 = .ok (.aload_n 0, 1) := by decide +kernel
theorem dL_law_844 : decode cL_law 844 = .ok (.iload 4, 2) := by decide +kernel
theorem dL_law_846 : decode cL_law 846 = .ok (.iconst 1, 1) := by decide +kernel
theorem dL_law_847 : decode cL_law 847 = .ok (.iadd, 1) := by decide +kernel
theorem dL_law_848 : decode cL_law 848 = .ok (.iaload, 1) := by decide +kernel
theorem dL_law_849 : decode cL_law 849 = .ok (.aload_n 3, 1) := by decide +kernel
theorem dL_law_850 : decode cL_law 850 = .ok (.invokestatic 125, 3) := by decide +kernel
theorem dL_law_853 : decode cL_law 853 = .ok (.istore 5, 2) := by decide +kernel
theorem dL_law_855 : decode cL_law 855 = .ok (.aload_n 2, 1) := by decide +kernel
theorem dL_law_856 : decode cL_law 856 = .ok (.aload_n 0, 1) := by decide +kernel
theorem dL_law_857 : decode cL_law 857 = .ok (.iload 4, 2) := by decide +kernel
theorem dL_law_859 : decode cL_law 859 = .ok (.iconst 1, 1) := by decide +kernel
theorem dL_law_860 : decode cL_law 860 = .ok (.iadd, 1) := by decide +kernel
theorem dL_law_861 : decode cL_law 861 = .ok (.iaload, 1) := by decide +kernel
theorem dL_law_862 : decode cL_law 862 = .ok (.invokevirtual 127, 3) := by decide +kernel
theorem dL_law_865 : decode cL_law 865 = .ok (.istore 6, 2) := by decide +kernel
theorem dL_law_867 : decode cL_law 867 = .ok (.aload_n 2, 1) := by decide +kernel
theorem dL_law_868 : decode cL_law 868 = .ok (.invokevirtual 83, 3) := by decide +kernel
theorem dL_law_871 : decode cL_law 871 = .ok (.iload 5, 2) := by decide +kernel
theorem dL_law_873 : decode cL_law 873 = .ok (.if_icmp .eq 5, 3) := by decide +kernel
theorem dL_law_876 : decode cL_law 876 = .ok (.iconst 0, 1) := by decide +kernel
theorem dL_law_877 : decode cL_law 877 = .ok (.ireturn, 1) := by decide +kernel
theorem dL_law_878 : decode cL_law 878 = .ok (.iload 5, 2) := by decide +kernel
theorem dL_law_880 : decode cL_law 880 = .ok (.ifCond .ne 15, 3) := by decide +kernel
theorem dL_law_883 : decode cL_law 883 = .ok (.aload_n 3, 1) := by decide +kernel
theorem dL_law_884 : decode cL_law 884 = .ok (.iconst 0, 1) := by decide +kernel
theorem dL_law_885 : decode cL_law 885 = .ok (.laload, 1) := by decide +kernel
theorem dL_law_886 : decode cL_law 886 = .ok (.iload 6, 2) := by decide +kernel
theorem dL_law_888 : decode cL_law 888 = .ok (.i2l, 1) := by decide +kernel
theorem dL_law_889 : decode cL_law 889 = .ok (.lcmp, 1) := by decide +kernel
theorem dL_law_890 : decode cL_law 890 = .ok (.ifCond .eq 5, 3) := by decide +kernel
theorem dL_law_893 : decode cL_law 893 = .ok (.iconst 0, 1) := by decide +kernel
theorem dL_law_894 : decode cL_law 894 = .ok (.ireturn, 1) := by decide +kernel
theorem dL_law_895 : decode cL_law 895 = .ok (.goto 432, 3) := by decide +kernel
theorem dL_law_898 : decode cL_law 898 = .ok (.aload_n 1, 1) := by decide +kernel
theorem dL_law_899 : decode cL_law 899 = .ok (.aload_n 0, 1) := by decide +kernel
theorem dL_law_900 : decode cL_law 900 = .ok (.iload 4, 2) := by decide +kernel
theorem dL_law_902 : decode cL_law 902 = .ok (.iconst 1, 1) := by decide +kernel
theorem dL_law_903 : decode cL_law 903 = .ok (.iadd, 1) := by decide +kernel
theorem dL_law_904 : decode cL_law 904 = .ok (.iaload, 1) := by decide +kernel
theorem dL_law_905 : decode cL_law 905 = .ok (.aload_n 3, 1) := by decide +kernel
theorem dL_law_906 : decode cL_law 906 = .ok (.invokestatic 128, 3) := by decide +kernel
theorem dL_law_909 : decode cL_law 909 = .ok (.istore 5, 2) := by decide +kernel
theorem dL_law_911 : decode cL_law 911 = .ok (.aload_n 2, 1) := by decide +kernel
theorem dL_law_912 : decode cL_law 912 = .ok (.aload_n 0, 1) := by decide +kernel
theorem dL_law_913 : decode cL_law 913 = .ok (.iload 4, 2) := by decide +kernel
theorem dL_law_915 : decode cL_law 915 = .ok (.iconst 1, 1) := by decide +kernel
theorem dL_law_916 : decode cL_law 916 = .ok (.iadd, 1) := by decide +kernel
theorem dL_law_917 : decode cL_law 917 = .ok (.iaload, 1) := by decide +kernel
theorem dL_law_918 : decode cL_law 918 = .ok (.invokevirtual 130, 3) := by decide +kernel
theorem dL_law_921 : decode cL_law 921 = .ok (.istore 6, 2) := by decide +kernel
theorem dL_law_923 : decode cL_law 923 = .ok (.aload_n 2, 1) := by decide +kernel
theorem dL_law_924 : decode cL_law 924 = .ok (.invokevirtual 83, 3) := by decide +kernel
theorem dL_law_927 : decode cL_law 927 = .ok (.iload 5, 2) := by decide +kernel
theorem dL_law_929 : decode cL_law 929 = .ok (.if_icmp .eq 5, 3) := by decide +kernel
theorem dL_law_932 : decode cL_law 932 = .ok (.iconst 0, 1) := by decide +kernel
theorem dL_law_933 : decode cL_law 933 = .ok (.ireturn, 1) := by decide +kernel
theorem dL_law_934 : decode cL_law 934 = .ok (.iload 5, 2) := by decide +kernel
theorem dL_law_936 : decode cL_law 936 = .ok (.ifCond .ne 15, 3) := by decide +kernel
theorem dL_law_939 : decode cL_law 939 = .ok (.aload_n 3, 1) := by decide +kernel
theorem dL_law_940 : decode cL_law 940 = .ok (.iconst 0, 1) := by decide +kernel
theorem dL_law_941 : decode cL_law 941 = .ok (.laload, 1) := by decide +kernel
theorem dL_law_942 : decode cL_law 942 = .ok (.iload 6, 2) := by decide +kernel
theorem dL_law_944 : decode cL_law 944 = .ok (.i2l, 1) := by decide +kernel
theorem dL_law_945 : decode cL_law 945 = .ok (.lcmp, 1) := by decide +kernel
theorem dL_law_946 : decode cL_law 946 = .ok (.ifCond .eq 5, 3) := by decide +kernel
theorem dL_law_949 : decode cL_law 949 = .ok (.iconst 0, 1) := by decide +kernel
theorem dL_law_950 : decode cL_law 950 = .ok (.ireturn, 1) := by decide +kernel
theorem dL_law_951 : decode cL_law 951 = .ok (.goto 376, 3) := by decide +kernel
theorem dL_law_954 : decode cL_law 954 = .ok (.aload_n 1, 1) := by decide +kernel
theorem dL_law_955 : decode cL_law 955 = .ok (.aload_n 0, 1) := by decide +kernel
theorem dL_law_956 : decode cL_law 956 = .ok (.iload 4, 2) := by decide +kernel
theorem dL_law_958 : decode cL_law 958 = .ok (.iconst 1, 1) := by decide +kernel
theorem dL_law_959 : decode cL_law 959 = .ok (.iadd, 1) := by decide +kernel
theorem dL_law_960 : decode cL_law 960 = .ok (.iaload, 1) := by decide +kernel
theorem dL_law_961 : decode cL_law 961 = .ok (.aload_n 0, 1) := by decide +kernel
theorem dL_law_962 : decode cL_law 962 = .ok (.iload 4, 2) := by decide +kernel
theorem dL_law_964 : decode cL_law 964 = .ok (.iconst 2, 1) := by decide +kernel
theorem dL_law_965 : decode cL_law 965 = .ok (.iadd, 1) := by decide +kernel
theorem dL_law_966 : decode cL_law 966 = .ok (.iaload, 1) := by decide +kernel
theorem dL_law_967 : decode cL_law 967 = .ok (.aload_n 3, 1) := by decide +kernel
theorem dL_law_968 : decode cL_law 968 = .ok (.invokestatic 131, 3) := by decide +kernel
theorem dL_law_971 : decode cL_law 971 = .ok (.istore 5, 2) := by decide +kernel
theorem dL_law_973 : decode cL_law 973 = .ok (.aload_n 2, 1) := by decide +kernel
theorem dL_law_974 : decode cL_law 974 = .ok (.aload_n 0, 1) := by decide +kernel
theorem dL_law_975 : decode cL_law 975 = .ok (.iload 4, 2) := by decide +kernel
theorem dL_law_977 : decode cL_law 977 = .ok (.iconst 1, 1) := by decide +kernel
theorem dL_law_978 : decode cL_law 978 = .ok (.iadd, 1) := by decide +kernel
theorem dL_law_979 : decode cL_law 979 = .ok (.iaload, 1) := by decide +kernel
theorem dL_law_980 : decode cL_law 980 = .ok (.aload_n 0, 1) := by decide +kernel
theorem dL_law_981 : decode cL_law 981 = .ok (.iload 4, 2) := by decide +kernel
theorem dL_law_983 : decode cL_law 983 = .ok (.iconst 2, 1) := by decide +kernel
theorem dL_law_984 : decode cL_law 984 = .ok (.iadd, 1) := by decide +kernel
theorem dL_law_985 : decode cL_law 985 = .ok (.iaload, 1) := by decide +kernel
theorem dL_law_986 : decode cL_law 986 = .ok (.invokevirtual 133, 3) := by decide +kernel
theorem dL_law_989 : decode cL_law 989 = .ok (.istore 6, 2) := by decide +kernel
theorem dL_law_991 : decode cL_law 991 = .ok (.aload_n 2, 1) := by decide +kernel
theorem dL_law_992 : decode cL_law 992 = .ok (.invokevirtual 83, 3) := by decide +kernel
theorem dL_law_995 : decode cL_law 995 = .ok (.iload 5, 2) := by decide +kernel
theorem dL_law_997 : decode cL_law 997 = .ok (.if_icmp .eq 5, 3) := by decide +kernel
theorem dL_law_1000 : decode cL_law 1000 = .ok (.iconst 0, 1) := by decide +kernel
theorem dL_law_1001 : decode cL_law 1001 = .ok (.ireturn, 1) := by decide +kernel
theorem dL_law_1002 : decode cL_law 1002 = .ok (.iload 5, 2) := by decide +kernel
theorem dL_law_1004 : decode cL_law 1004 = .ok (.ifCond .ne 15, 3) := by decide +kernel
theorem dL_law_1007 : decode cL_law 1007 = .ok (.aload_n 3, 1) := by decide +kernel
theorem dL_law_1008 : decode cL_law 1008 = .ok (.iconst 0, 1) := by decide +kernel
theorem dL_law_1009 : decode cL_law 1009 = .ok (.laload, 1) := by decide +kernel
theorem dL_law_1010 : decode cL_law 1010 = .ok (.iload 6, 2) := by decide +kernel
theorem dL_law_1012 : decode cL_law 1012 = .ok (.i2l, 1) := by decide +kernel
theorem dL_law_1013 : decode cL_law 1013 = .ok (.lcmp, 1) := by decide +kernel
theorem dL_law_1014 : decode cL_law 1014 = .ok (.ifCond .eq 5, 3) := by decide +kernel
theorem dL_law_1017 : decode cL_law 1017 = .ok (.iconst 0, 1) := by decide +kernel
theorem dL_law_1018 : decode cL_law 1018 = .ok (.ireturn, 1) := by decide +kernel
theorem dL_law_1019 : decode cL_law 1019 = .ok (.goto 308, 3) := by decide +kernel
theorem dL_law_1022 : decode cL_law 1022 = .ok (.aload_n 1, 1) := by decide +kernel
theorem dL_law_1023 : decode cL_law 1023 = .ok (.aload_n 0, 1) := by decide +kernel
theorem dL_law_1024 : decode cL_law 1024 = .ok (.iload 4, 2) := by decide +kernel
theorem dL_law_1026 : decode cL_law 1026 = .ok (.iconst 1, 1) := by decide +kernel
theorem dL_law_1027 : decode cL_law 1027 = .ok (.iadd, 1) := by decide +kernel
theorem dL_law_1028 : decode cL_law 1028 = .ok (.iaload, 1) := by decide +kernel
theorem dL_law_1029 : decode cL_law 1029 = .ok (.aload_n 0, 1) := by decide +kernel
theorem dL_law_1030 : decode cL_law 1030 = .ok (.iload 4, 2) := by decide +kernel
theorem dL_law_1032 : decode cL_law 1032 = .ok (.iconst 2, 1) := by decide +kernel
theorem dL_law_1033 : decode cL_law 1033 = .ok (.iadd, 1) := by decide +kernel
theorem dL_law_1034 : decode cL_law 1034 = .ok (.iaload, 1) := by decide +kernel
theorem dL_law_1035 : decode cL_law 1035 = .ok (.aload_n 3, 1) := by decide +kernel
theorem dL_law_1036 : decode cL_law 1036 = .ok (.invokestatic 134, 3) := by decide +kernel
theorem dL_law_1039 : decode cL_law 1039 = .ok (.istore 5, 2) := by decide +kernel
theorem dL_law_1041 : decode cL_law 1041 = .ok (.aload_n 2, 1) := by decide +kernel
theorem dL_law_1042 : decode cL_law 1042 = .ok (.aload_n 0, 1) := by decide +kernel
theorem dL_law_1043 : decode cL_law 1043 = .ok (.iload 4, 2) := by decide +kernel
theorem dL_law_1045 : decode cL_law 1045 = .ok (.iconst 1, 1) := by decide +kernel
theorem dL_law_1046 : decode cL_law 1046 = .ok (.iadd, 1) := by decide +kernel
theorem dL_law_1047 : decode cL_law 1047 = .ok (.iaload, 1) := by decide +kernel
theorem dL_law_1048 : decode cL_law 1048 = .ok (.aload_n 0, 1) := by decide +kernel
theorem dL_law_1049 : decode cL_law 1049 = .ok (.iload 4, 2) := by decide +kernel
theorem dL_law_1051 : decode cL_law 1051 = .ok (.iconst 2, 1) := by decide +kernel
theorem dL_law_1052 : decode cL_law 1052 = .ok (.iadd, 1) := by decide +kernel
theorem dL_law_1053 : decode cL_law 1053 = .ok (.iaload, 1) := by decide +kernel
theorem dL_law_1054 : decode cL_law 1054 = .ok (.invokevirtual 136, 3) := by decide +kernel
theorem dL_law_1057 : decode cL_law 1057 = .ok (.istore 6, 2) := by decide +kernel
theorem dL_law_1059 : decode cL_law 1059 = .ok (.aload_n 2, 1) := by decide +kernel
theorem dL_law_1060 : decode cL_law 1060 = .ok (.invokevirtual 83, 3) := by decide +kernel
theorem dL_law_1063 : decode cL_law 1063 = .ok (.iload 5, 2) := by decide +kernel
theorem dL_law_1065 : decode cL_law 1065 = .ok (.if_icmp .eq 5, 3) := by decide +kernel
theorem dL_law_1068 : decode cL_law 1068 = .ok (.iconst 0, 1) := by decide +kernel
theorem dL_law_1069 : decode cL_law 1069 = .ok (.ireturn, 1) := by decide +kernel
theorem dL_law_1070 : decode cL_law 1070 = .ok (.iload 5, 2) := by decide +kernel
theorem dL_law_1072 : decode cL_law 1072 = .ok (.ifCond .ne 15, 3) := by decide +kernel
theorem dL_law_1075 : decode cL_law 1075 = .ok (.aload_n 3, 1) := by decide +kernel
theorem dL_law_1076 : decode cL_law 1076 = .ok (.iconst 0, 1) := by decide +kernel
theorem dL_law_1077 : decode cL_law 1077 = .ok (.laload, 1) := by decide +kernel
theorem dL_law_1078 : decode cL_law 1078 = .ok (.iload 6, 2) := by decide +kernel
theorem dL_law_1080 : decode cL_law 1080 = .ok (.i2l, 1) := by decide +kernel
theorem dL_law_1081 : decode cL_law 1081 = .ok (.lcmp, 1) := by decide +kernel
theorem dL_law_1082 : decode cL_law 1082 = .ok (.ifCond .eq 5, 3) := by decide +kernel
theorem dL_law_1085 : decode cL_law 1085 = .ok (.iconst 0, 1) := by decide +kernel
theorem dL_law_1086 : decode cL_law 1086 = .ok (.ireturn, 1) := by decide +kernel
theorem dL_law_1087 : decode cL_law 1087 = .ok (.goto 240, 3) := by decide +kernel
theorem dL_law_1090 : decode cL_law 1090 = .ok (.aload_n 1, 1) := by decide +kernel
theorem dL_law_1091 : decode cL_law 1091 = .ok (.aload_n 0, 1) := by decide +kernel
theorem dL_law_1092 : decode cL_law 1092 = .ok (.iload 4, 2) := by decide +kernel
theorem dL_law_1094 : decode cL_law 1094 = .ok (.iconst 1, 1) := by decide +kernel
theorem dL_law_1095 : decode cL_law 1095 = .ok (.iadd, 1) := by decide +kernel
theorem dL_law_1096 : decode cL_law 1096 = .ok (.iaload, 1) := by decide +kernel
theorem dL_law_1097 : decode cL_law 1097 = .ok (.aload_n 3, 1) := by decide +kernel
theorem dL_law_1098 : decode cL_law 1098 = .ok (.invokestatic 137, 3) := by decide +kernel
theorem dL_law_1101 : decode cL_law 1101 = .ok (.istore 5, 2) := by decide +kernel
theorem dL_law_1103 : decode cL_law 1103 = .ok (.aload_n 2, 1) := by decide +kernel
theorem dL_law_1104 : decode cL_law 1104 = .ok (.aload_n 0, 1) := by decide +kernel
theorem dL_law_1105 : decode cL_law 1105 = .ok (.iload 4, 2) := by decide +kernel
theorem dL_law_1107 : decode cL_law 1107 = .ok (.iconst 1, 1) := by decide +kernel
theorem dL_law_1108 : decode cL_law 1108 = .ok (.iadd, 1) := by decide +kernel
theorem dL_law_1109 : decode cL_law 1109 = .ok (.iaload, 1) := by decide +kernel
theorem dL_law_1110 : decode cL_law 1110 = .ok (.invokevirtual 139, 3) := by decide +kernel
theorem dL_law_1113 : decode cL_law 1113 = .ok (.istore 6, 2) := by decide +kernel
theorem dL_law_1115 : decode cL_law 1115 = .ok (.aload_n 2, 1) := by decide +kernel
theorem dL_law_1116 : decode cL_law 1116 = .ok (.invokevirtual 83, 3) := by decide +kernel
theorem dL_law_1119 : decode cL_law 1119 = .ok (.iload 5, 2) := by decide +kernel
theorem dL_law_1121 : decode cL_law 1121 = .ok (.if_icmp .eq 5, 3) := by decide +kernel
theorem dL_law_1124 : decode cL_law 1124 = .ok (.iconst 0, 1) := by decide +kernel
theorem dL_law_1125 : decode cL_law 1125 = .ok (.ireturn, 1) := by decide +kernel
theorem dL_law_1126 : decode cL_law 1126 = .ok (.iload 5, 2) := by decide +kernel
theorem dL_law_1128 : decode cL_law 1128 = .ok (.ifCond .ne 15, 3) := by decide +kernel
theorem dL_law_1131 : decode cL_law 1131 = .ok (.aload_n 3, 1) := by decide +kernel
theorem dL_law_1132 : decode cL_law 1132 = .ok (.iconst 0, 1) := by decide +kernel
theorem dL_law_1133 : decode cL_law 1133 = .ok (.laload, 1) := by decide +kernel
theorem dL_law_1134 : decode cL_law 1134 = .ok (.iload 6, 2) := by decide +kernel
theorem dL_law_1136 : decode cL_law 1136 = .ok (.i2l, 1) := by decide +kernel
theorem dL_law_1137 : decode cL_law 1137 = .ok (.lcmp, 1) := by decide +kernel
theorem dL_law_1138 : decode cL_law 1138 = .ok (.ifCond .eq 5, 3) := by decide +kernel
theorem dL_law_1141 : decode cL_law 1141 = .ok (.iconst 0, 1) := by decide +kernel
theorem dL_law_1142 : decode cL_law 1142 = .ok (.ireturn, 1) := by decide +kernel
theorem dL_law_1143 : decode cL_law 1143 = .ok (.goto 184, 3) := by decide +kernel
theorem dL_law_1146 : decode cL_law 1146 = .ok (.aload_n 1, 1) := by decide +kernel
theorem dL_law_1147 : decode cL_law 1147 = .ok (.invokevirtual 140, 3) := by decide +kernel
theorem dL_law_1150 : decode cL_law 1150 = .ok (.aload_n 2, 1) := by decide +kernel
theorem dL_law_1151 : decode cL_law 1151 = .ok (.invokevirtual 143, 3) := by decide +kernel
theorem dL_law_1154 : decode cL_law 1154 = .ok (.if_icmp .eq 173, 3) := by decide +kernel
theorem dL_law_1157 : decode cL_law 1157 = .ok (.iconst 0, 1) := by decide +kernel
theorem dL_law_1158 : decode cL_law 1158 = .ok (.ireturn, 1) := by decide +kernel
theorem dL_law_1159 : decode cL_law 1159 = .ok (.aload_n 1, 1) := by decide +kernel
theorem dL_law_1160 : decode cL_law 1160 = .ok (.aload_n 0, 1) := by decide +kernel
theorem dL_law_1161 : decode cL_law 1161 = .ok (.iload 4, 2) := by decide +kernel
theorem dL_law_1163 : decode cL_law 1163 = .ok (.iconst 1, 1) := by decide +kernel
theorem dL_law_1164 : decode cL_law 1164 = .ok (.iadd, 1) := by decide +kernel
theorem dL_law_1165 : decode cL_law 1165 = .ok (.iaload, 1) := by decide +kernel
theorem dL_law_1166 : decode cL_law 1166 = .ok (.aload_n 3, 1) := by decide +kernel
theorem dL_law_1167 : decode cL_law 1167 = .ok (.invokestatic 144, 3) := by decide +kernel
theorem dL_law_1170 : decode cL_law 1170 = .ok (.istore 5, 2) := by decide +kernel
theorem dL_law_1172 : decode cL_law 1172 = .ok (.aload_n 2, 1) := by decide +kernel
theorem dL_law_1173 : decode cL_law 1173 = .ok (.aload_n 0, 1) := by decide +kernel
theorem dL_law_1174 : decode cL_law 1174 = .ok (.iload 4, 2) := by decide +kernel
theorem dL_law_1176 : decode cL_law 1176 = .ok (.iconst 1, 1) := by decide +kernel
theorem dL_law_1177 : decode cL_law 1177 = .ok (.iadd, 1) := by decide +kernel
theorem dL_law_1178 : decode cL_law 1178 = .ok (.iaload, 1) := by decide +kernel
theorem dL_law_1179 : decode cL_law 1179 = .ok (.invokevirtual 146, 3) := by decide +kernel
theorem dL_law_1182 : decode cL_law 1182 = .ok (.istore 6, 2) := by decide +kernel
theorem dL_law_1184 : decode cL_law 1184 = .ok (.aload_n 2, 1) := by decide +kernel
theorem dL_law_1185 : decode cL_law 1185 = .ok (.invokevirtual 83, 3) := by decide +kernel
theorem dL_law_1188 : decode cL_law 1188 = .ok (.iload 5, 2) := by decide +kernel
theorem dL_law_1190 : decode cL_law 1190 = .ok (.if_icmp .eq 5, 3) := by decide +kernel
theorem dL_law_1193 : decode cL_law 1193 = .ok (.iconst 0, 1) := by decide +kernel
theorem dL_law_1194 : decode cL_law 1194 = .ok (.ireturn, 1) := by decide +kernel
theorem dL_law_1195 : decode cL_law 1195 = .ok (.iload 5, 2) := by decide +kernel
theorem dL_law_1197 : decode cL_law 1197 = .ok (.ifCond .ne 15, 3) := by decide +kernel
theorem dL_law_1200 : decode cL_law 1200 = .ok (.aload_n 3, 1) := by decide +kernel
theorem dL_law_1201 : decode cL_law 1201 = .ok (.iconst 0, 1) := by decide +kernel
theorem dL_law_1202 : decode cL_law 1202 = .ok (.laload, 1) := by decide +kernel
theorem dL_law_1203 : decode cL_law 1203 = .ok (.iload 6, 2) := by decide +kernel
theorem dL_law_1205 : decode cL_law 1205 = .ok (.i2l, 1) := by decide +kernel
theorem dL_law_1206 : decode cL_law 1206 = .ok (.lcmp, 1) := by decide +kernel
theorem dL_law_1207 : decode cL_law 1207 = .ok (.ifCond .eq 5, 3) := by decide +kernel
theorem dL_law_1210 : decode cL_law 1210 = .ok (.iconst 0, 1) := by decide +kernel
theorem dL_law_1211 : decode cL_law 1211 = .ok (.ireturn, 1) := by decide +kernel
theorem dL_law_1212 : decode cL_law 1212 = .ok (.goto 115, 3) := by decide +kernel
theorem dL_law_1215 : decode cL_law 1215 = .ok (.aload_n 1, 1) := by decide +kernel
theorem dL_law_1216 : decode cL_law 1216 = .ok (.aload_n 0, 1) := by decide +kernel
theorem dL_law_1217 : decode cL_law 1217 = .ok (.iload 4, 2) := by decide +kernel
theorem dL_law_1219 : decode cL_law 1219 = .ok (.iconst 1, 1) := by decide +kernel
theorem dL_law_1220 : decode cL_law 1220 = .ok (.iadd, 1) := by decide +kernel
theorem dL_law_1221 : decode cL_law 1221 = .ok (.iaload, 1) := by decide +kernel
theorem dL_law_1222 : decode cL_law 1222 = .ok (.aload_n 3, 1) := by decide +kernel
theorem dL_law_1223 : decode cL_law 1223 = .ok (.invokestatic 147, 3) := by decide +kernel
theorem dL_law_1226 : decode cL_law 1226 = .ok (.istore 5, 2) := by decide +kernel
theorem dL_law_1228 : decode cL_law 1228 = .ok (.aload_n 2, 1) := by decide +kernel
theorem dL_law_1229 : decode cL_law 1229 = .ok (.aload_n 0, 1) := by decide +kernel
theorem dL_law_1230 : decode cL_law 1230 = .ok (.iload 4, 2) := by decide +kernel
theorem dL_law_1232 : decode cL_law 1232 = .ok (.iconst 1, 1) := by decide +kernel
theorem dL_law_1233 : decode cL_law 1233 = .ok (.iadd, 1) := by decide +kernel
theorem dL_law_1234 : decode cL_law 1234 = .ok (.iaload, 1) := by decide +kernel
theorem dL_law_1235 : decode cL_law 1235 = .ok (.invokevirtual 149, 3) := by decide +kernel
theorem dL_law_1238 : decode cL_law 1238 = .ok (.istore 6, 2) := by decide +kernel
theorem dL_law_1240 : decode cL_law 1240 = .ok (.aload_n 2, 1) := by decide +kernel
theorem dL_law_1241 : decode cL_law 1241 = .ok (.invokevirtual 83, 3) := by decide +kernel
theorem dL_law_1244 : decode cL_law 1244 = .ok (.iload 5, 2) := by decide +kernel
theorem dL_law_1246 : decode cL_law 1246 = .ok (.if_icmp .eq 5, 3) := by decide +kernel
theorem dL_law_1249 : decode cL_law 1249 = .ok (.iconst 0, 1) := by decide +kernel
theorem dL_law_1250 : decode cL_law 1250 = .ok (.ireturn, 1) := by decide +kernel
theorem dL_law_1251 : decode cL_law 1251 = .ok (.iload 5, 2) := by decide +kernel
theorem dL_law_1253 : decode cL_law 1253 = .ok (.ifCond .ne 15, 3) := by decide +kernel
theorem dL_law_1256 : decode cL_law 1256 = .ok (.aload_n 3, 1) := by decide +kernel
theorem dL_law_1257 : decode cL_law 1257 = .ok (.iconst 0, 1) := by decide +kernel
theorem dL_law_1258 : decode cL_law 1258 = .ok (.laload, 1) := by decide +kernel
theorem dL_law_1259 : decode cL_law 1259 = .ok (.iload 6, 2) := by decide +kernel
theorem dL_law_1261 : decode cL_law 1261 = .ok (.i2l, 1) := by decide +kernel
theorem dL_law_1262 : decode cL_law 1262 = .ok (.lcmp, 1) := by decide +kernel
theorem dL_law_1263 : decode cL_law 1263 = .ok (.ifCond .eq 5, 3) := by decide +kernel
theorem dL_law_1266 : decode cL_law 1266 = .ok (.iconst 0, 1) := by decide +kernel
theorem dL_law_1267 : decode cL_law 1267 = .ok (.ireturn, 1) := by decide +kernel
theorem dL_law_1268 : decode cL_law 1268 = .ok (.goto 59, 3) := by decide +kernel
theorem dL_law_1271 : decode cL_law 1271 = .ok (.aload_n 1, 1) := by decide +kernel
theorem dL_law_1272 : decode cL_law 1272 = .ok (.aload_n 0, 1) := by decide +kernel
theorem dL_law_1273 : decode cL_law 1273 = .ok (.iload 4, 2) := by decide +kernel
theorem dL_law_1275 : decode cL_law 1275 = .ok (.iconst 1, 1) := by decide +kernel
theorem dL_law_1276 : decode cL_law 1276 = .ok (.iadd, 1) := by decide +kernel
theorem dL_law_1277 : decode cL_law 1277 = .ok (.iaload, 1) := by decide +kernel
theorem dL_law_1278 : decode cL_law 1278 = .ok (.aload_n 3, 1) := by decide +kernel
theorem dL_law_1279 : decode cL_law 1279 = .ok (.invokestatic 150, 3) := by decide +kernel
theorem dL_law_1282 : decode cL_law 1282 = .ok (.istore 5, 2) := by decide +kernel
theorem dL_law_1284 : decode cL_law 1284 = .ok (.aload_n 2, 1) := by decide +kernel
theorem dL_law_1285 : decode cL_law 1285 = .ok (.aload_n 0, 1) := by decide +kernel
theorem dL_law_1286 : decode cL_law 1286 = .ok (.iload 4, 2) := by decide +kernel
theorem dL_law_1288 : decode cL_law 1288 = .ok (.iconst 1, 1) := by decide +kernel
theorem dL_law_1289 : decode cL_law 1289 = .ok (.iadd, 1) := by decide +kernel
theorem dL_law_1290 : decode cL_law 1290 = .ok (.iaload, 1) := by decide +kernel
theorem dL_law_1291 : decode cL_law 1291 = .ok (.invokevirtual 152, 3) := by decide +kernel
theorem dL_law_1294 : decode cL_law 1294 = .ok (.istore 6, 2) := by decide +kernel
theorem dL_law_1296 : decode cL_law 1296 = .ok (.aload_n 2, 1) := by decide +kernel
theorem dL_law_1297 : decode cL_law 1297 = .ok (.invokevirtual 83, 3) := by decide +kernel
theorem dL_law_1300 : decode cL_law 1300 = .ok (.iload 5, 2) := by decide +kernel
theorem dL_law_1302 : decode cL_law 1302 = .ok (.if_icmp .eq 5, 3) := by decide +kernel
theorem dL_law_1305 : decode cL_law 1305 = .ok (.iconst 0, 1) := by decide +kernel
theorem dL_law_1306 : decode cL_law 1306 = .ok (.ireturn, 1) := by decide +kernel
theorem dL_law_1307 : decode cL_law 1307 = .ok (.iload 5, 2) := by decide +kernel
theorem dL_law_1309 : decode cL_law 1309 = .ok (.ifCond .ne 15, 3) := by decide +kernel
theorem dL_law_1312 : decode cL_law 1312 = .ok (.aload_n 3, 1) := by decide +kernel
theorem dL_law_1313 : decode cL_law 1313 = .ok (.iconst 0, 1) := by decide +kernel
theorem dL_law_1314 : decode cL_law 1314 = .ok (.laload, 1) := by decide +kernel
theorem dL_law_1315 : decode cL_law 1315 = .ok (.iload 6, 2) := by decide +kernel
theorem dL_law_1317 : decode cL_law 1317 = .ok (.i2l, 1) := by decide +kernel
theorem dL_law_1318 : decode cL_law 1318 = .ok (.lcmp, 1) := by decide +kernel
theorem dL_law_1319 : decode cL_law 1319 = .ok (.ifCond .eq 5, 3) := by decide +kernel
theorem dL_law_1322 : decode cL_law 1322 = .ok (.iconst 0, 1) := by decide +kernel
theorem dL_law_1323 : decode cL_law 1323 = .ok (.ireturn, 1) := by decide +kernel
theorem dL_law_1324 : decode cL_law 1324 = .ok (.goto 3, 3) := by decide +kernel
theorem dL_law_1327 : decode cL_law 1327 = .ok (.iinc 4 6, 3) := by decide +kernel
theorem dL_law_1330 : decode cL_law 1330 = .ok (.goto (-1307), 3) := by decide +kernel
theorem dL_law_1333 : decode cL_law 1333 = .ok (.iconst 1, 1) := by decide +kernel
theorem dL_law_1334 : decode cL_law 1334 = .ok (.ireturn, 1) := by decide +kernel
abbrev vwCl : List vw_C := [(RJx4a65c, TJx4a65c, 3), (RX0, TX0, 15), (RX1, TX1, 7), (RX2, TX2, 5), (RX3, TX3, 19)]
/-! ===== END printed: names ===== -/
end
section
/-! The world as pooled cells: addresses L, kinds K, lengths N, whole numbers I, long numbers J, references R, each by address and slot. -/
def u2 {α : Type} (f : Nat → Nat → α) (a k : Nat) (x : α) : Nat → Nat → α := fun b j => if b = a ∧ j = k then x else f b j
theorem u2_s {α : Type} {f : Nat → Nat → α} {a k : Nat} {x : α} : u2 f a k x a k = x := if_pos ⟨rfl, rfl⟩
theorem u2_a {α : Type} {f : Nat → Nat → α} {a k : Nat} {x : α} {b j : Nat} (h : b ≠ a) : u2 f a k x b j = f b j := if_neg (fun q => h q.1)
theorem u2_k {α : Type} {f : Nat → Nat → α} {a k : Nat} {x : α} {b j : Nat} (h : j ≠ k) : u2 f a k x b j = f b j := if_neg (fun q => h q.2)
theorem u2_ne {α : Type} {f : Nat → Nat → α} {a k : Nat} {x : α} {b j : Nat} (h : b ≠ a ∨ j ≠ k) : u2 f a k x b j = f b j := if_neg (fun q => h.elim (fun z => z q.1) (fun z => z q.2))
/-- the types of an object's slots by its kind: 0 whole, 1 long, 2 reference -/
def lay (k : Nat) : List Nat := if k = 0 then [0, 2, 0] else if k = 1 then [2, 2, 2, 2, 0, 0, 0, 2, 2, 1, 1, 1, 1, 1, 1] else if k = 2 then [2, 0, 0, 0, 0, 0, 1] else if k = 3 then [2, 2, 2, 0, 0] else [2, 2, 2, 2, 2, 2, 0, 0, 2, 2, 2, 2, 2, 2, 0, 2, 2, 2, 0]
def vv (t : Nat) (i : Int32) (j : Int64) (r : Option Nat) : Value := if t = 0 then .int i else if t = 1 then .long j else va_rf r
def fsl (I : Nat → Int32) (J : Nat → Int64) (R : Nat → Option Nat) : List Nat → Nat → List Value
  | [], _ => []
  | t :: ts, k => vv t (I k) (J k) (R k) :: fsl I J R ts (k + 1)
theorem fsl_at {I : Nat → Int32} {J : Nat → Int64} {R : Nat → Option Nat} : ∀ (ts : List Nat) (n k t : Nat), ts[k]? = some t → (fsl I J R ts n)[k]? = some (vv t (I (n + k)) (J (n + k)) (R (n + k)))
  | [], n, k, t, h => by simp at h
  | a :: ts, n, 0, t, h => by
    simp at h
    subst h
    rfl
  | a :: ts, n, k + 1, t, h => by
    have h1 : ts[k]? = some t := by simpa using h
    have h2 := fsl_at (I := I) (J := J) (R := R) ts (n + 1) k t h1
    rw [show n + (k + 1) = n + 1 + k by omega]
    exact h2
theorem fsl_len {I : Nat → Int32} {J : Nat → Int64} {R : Nat → Option Nat} : ∀ (ts : List Nat) (n : Nat), (fsl I J R ts n).length = ts.length
  | [], n => rfl
  | a :: ts, n => congrArg Nat.succ (fsl_len ts (n + 1))
theorem fsl_ext {I I' : Nat → Int32} {J J' : Nat → Int64} {R R' : Nat → Option Nat} : ∀ (ts : List Nat) (n : Nat), (∀ k, n ≤ k → k < n + ts.length → I k = I' k ∧ J k = J' k ∧ R k = R' k) → fsl I J R ts n = fsl I' J' R' ts n
  | [], n, h => rfl
  | a :: ts, n, h => by
    obtain ⟨h1, h2, h3⟩ := h n (Nat.le_refl n) (by simp)
    show vv a (I n) (J n) (R n) :: fsl I J R ts (n + 1) = vv a (I' n) (J' n) (R' n) :: fsl I' J' R' ts (n + 1)
    rw [h1, h2, h3, fsl_ext ts (n + 1) (fun k g1 g2 => h k (by omega) (by simp only [List.length_cons]; omega))]
theorem fsl_set {I I' : Nat → Int32} {J J' : Nat → Int64} {R R' : Nat → Option Nat} {v : Value} : ∀ (ts : List Nat) (n k t : Nat), ts[k]? = some t → v = vv t (I' (n + k)) (J' (n + k)) (R' (n + k)) → (∀ q, q ≠ n + k → I q = I' q ∧ J q = J' q ∧ R q = R' q) → (fsl I J R ts n).set k v = fsl I' J' R' ts n
  | [], n, k, t, h, e, g => by simp at h
  | a :: ts, n, 0, t, h, e, g => by
    simp at h
    subst h
    subst e
    show _ :: fsl I J R ts (n + 1) = _ :: fsl I' J' R' ts (n + 1)
    rw [fsl_ext ts (n + 1) (fun k g1 g2 => g k (by omega))]
    rfl
  | a :: ts, n, k + 1, t, h, e, g => by
    have h1 : ts[k]? = some t := by simpa using h
    obtain ⟨g1, g2, g3⟩ := g n (by omega)
    show vv a (I n) (J n) (R n) :: (fsl I J R ts (n + 1)).set k v = vv a (I' n) (J' n) (R' n) :: fsl I' J' R' ts (n + 1)
    rw [g1, g2, g3, fsl_set ts (n + 1) k t h1 (by rw [e, show n + (k + 1) = n + 1 + k by omega]) (fun q hq => g q (by omega))]
/-- what lies at an address -/
def ce (D : va_G) (K N : Nat → Nat) (I : Nat → Nat → Int32) (J : Nat → Nat → Int64) (R : Nat → Nat → Option Nat) (a : Nat) : va_E :=
  if K a % 16 < 5 then .inr (K a % 16, fsl (I a) (J a) (R a) (lay (K a % 16)) 0) else if K a % 16 = 5 then .inl (D.1 5, N a, .inl (I a)) else if K a % 16 = 6 then .inl (D.1 6, N a, .inr (.inl (J a))) else if K a % 16 = 7 then .inl (D.1 7, N a, .inr (.inr (.inr (.inr (R a))))) else .inl (D.1 8, N a, .inr (.inr (.inr (.inr (R a)))))
def wd (D : va_G) (L : List Nat) (K N : Nat → Nat) (I : Nat → Nat → Int32) (J : Nat → Nat → Int64) (R : Nat → Nat → Option Nat) : va_W := va_pl L (ce D K N I J R)
def At (L : List Nat) (K N : Nat → Nat) (a t n : Nat) : Prop := a ∈ L ∧ K a = t ∧ N a = n
theorem At.m {L : List Nat} {K N : Nat → Nat} {a t n k : Nat} (h : At L K N a t n) (hk : t % 16 = k) : K a % 16 = k := by rw [h.2.1]; exact hk
theorem At.ne {L L' : List Nat} {K N : Nat → Nat} {a b t u n n' : Nat} (h : At L K N a t n) (g : At L' K N b u n') (hne : t ≠ u) : a ≠ b := fun q => hne (by rw [← h.2.1, ← g.2.1, q])
abbrev xtys (D : va_G) : List (ClassId × FieldType) := [(D.1 5, .int), (D.1 6, .long), (D.1 7, .object "java/lang/Object"), (D.1 8, .array .int)]
theorem ce_o {D : va_G} {K N : Nat → Nat} {I : Nat → Nat → Int32} {J : Nat → Nat → Int64} {R : Nat → Nat → Option Nat} {a k : Nat} (h : K a % 16 = k) (h5 : k < 5) : ce D K N I J R a = .inr (k, fsl (I a) (J a) (R a) (lay k) 0) := by
  unfold ce
  rw [h, if_pos h5]
theorem ce_5 {D : va_G} {K N : Nat → Nat} {I : Nat → Nat → Int32} {J : Nat → Nat → Int64} {R : Nat → Nat → Option Nat} {a : Nat} (h : K a % 16 = 5) : ce D K N I J R a = .inl (D.1 5, N a, .inl (I a)) := by
  unfold ce
  rw [h]
  rfl
theorem ce_6 {D : va_G} {K N : Nat → Nat} {I : Nat → Nat → Int32} {J : Nat → Nat → Int64} {R : Nat → Nat → Option Nat} {a : Nat} (h : K a % 16 = 6) : ce D K N I J R a = .inl (D.1 6, N a, .inr (.inl (J a))) := by
  unfold ce
  rw [h]
  rfl
theorem ce_7 {D : va_G} {K N : Nat → Nat} {I : Nat → Nat → Int32} {J : Nat → Nat → Int64} {R : Nat → Nat → Option Nat} {a : Nat} (h : K a % 16 = 7) : ce D K N I J R a = .inl (D.1 7, N a, .inr (.inr (.inr (.inr (R a))))) := by
  unfold ce
  rw [h]
  rfl
theorem ce_8 {D : va_G} {K N : Nat → Nat} {I : Nat → Nat → Int32} {J : Nat → Nat → Int64} {R : Nat → Nat → Option Nat} {a : Nat} (h : K a % 16 = 8) : ce D K N I J R a = .inl (D.1 8, N a, .inr (.inr (.inr (.inr (R a))))) := by
  unfold ce
  rw [h]
  rfl
theorem wd_get {D : va_G} {L : List Nat} {K N : Nat → Nat} {I : Nat → Nat → Int32} {J : Nat → Nat → Int64} {R : Nat → Nat → Option Nat} {a : Nat} (h : a ∈ L) : ∃ k : Nat, (wd D L K N I J R)[k]? = some (a, ce D K N I J R a) := va_pl_get (X := []) h
theorem wd_set {D : va_G} {L : List Nat} {K N : Nat → Nat} {I I' : Nat → Nat → Int32} {J J' : Nat → Nat → Int64} {R R' : Nat → Nat → Option Nat} {A : Nat → Prop} {a k : Nat} {e : va_E} (hD : va_D A (wd D L K N I J R)) (h : a ∈ L) (hk : (wd D L K N I J R)[k]? = some (a, ce D K N I J R a)) (he : e = ce D K N I' J' R' a) (ho : ∀ b, b ≠ a → ce D K N I J R b = ce D K N I' J' R' b) : (wd D L K N I J R).set k (a, e) = wd D L K N I' J' R' := by
  have h1 := va_pl_set (X := []) (e := e) hD h hk
  refine h1.trans ?_
  refine va_pl_congr (fun b => ?_)
  by_cases hb : b = a
  · subst hb
    rw [va_up_self, he]
  · rw [va_up_ne _ _ hb]
    exact ho b hb
theorem ce_cong {D : va_G} {K N : Nat → Nat} {I I' : Nat → Nat → Int32} {J J' : Nat → Nat → Int64} {R R' : Nat → Nat → Option Nat} {b : Nat} (h1 : I b = I' b) (h2 : J b = J' b) (h3 : R b = R' b) : ce D K N I J R b = ce D K N I' J' R' b := by
  unfold ce
  rw [h1, h2, h3]
theorem u2_row {α : Type} {f : Nat → Nat → α} {a k : Nat} {x : α} {b : Nat} (h : b ≠ a) : f b = u2 f a k x b := funext fun j => (u2_a h).symm
theorem wd_setI {D : va_G} {L : List Nat} {K N : Nat → Nat} {I : Nat → Nat → Int32} {J : Nat → Nat → Int64} {R : Nat → Nat → Option Nat} {A : Nat → Prop} {a q k t : Nat} {x : Int32} (hD : va_D A (wd D L K N I J R)) (h : a ∈ L) (hq : (wd D L K N I J R)[q]? = some (a, ce D K N I J R a)) (hK : K a % 16 = t) (h5 : t < 5) (hk : (lay t)[k]? = some 0) : (wd D L K N I J R).set q (a, .inr (t, (fsl (I a) (J a) (R a) (lay t) 0).set k (.int x))) = wd D L K N (u2 I a k x) J R := by
  refine wd_set hD h hq ?_ (fun b hb => ce_cong (u2_row hb) rfl rfl)
  rw [ce_o hK h5, fsl_set (lay t) 0 k 0 hk (v := .int x) (I' := u2 I a k x a) (J' := J a) (R' := R a) (by rw [Nat.zero_add, u2_s]; rfl) (fun q hq => ⟨(u2_k (by omega)).symm, rfl, rfl⟩)]
theorem wd_setJ {D : va_G} {L : List Nat} {K N : Nat → Nat} {I : Nat → Nat → Int32} {J : Nat → Nat → Int64} {R : Nat → Nat → Option Nat} {A : Nat → Prop} {a q k t : Nat} {x : Int64} (hD : va_D A (wd D L K N I J R)) (h : a ∈ L) (hq : (wd D L K N I J R)[q]? = some (a, ce D K N I J R a)) (hK : K a % 16 = t) (h5 : t < 5) (hk : (lay t)[k]? = some 1) : (wd D L K N I J R).set q (a, .inr (t, (fsl (I a) (J a) (R a) (lay t) 0).set k (.long x))) = wd D L K N I (u2 J a k x) R := by
  refine wd_set hD h hq ?_ (fun b hb => ce_cong rfl (u2_row hb) rfl)
  rw [ce_o hK h5, fsl_set (lay t) 0 k 1 hk (v := .long x) (I' := I a) (J' := u2 J a k x a) (R' := R a) (by rw [Nat.zero_add, u2_s]; rfl) (fun q hq => ⟨rfl, (u2_k (by omega)).symm, rfl⟩)]
theorem wd_setR {D : va_G} {L : List Nat} {K N : Nat → Nat} {I : Nat → Nat → Int32} {J : Nat → Nat → Int64} {R : Nat → Nat → Option Nat} {A : Nat → Prop} {a q k t b : Nat} (hD : va_D A (wd D L K N I J R)) (h : a ∈ L) (hq : (wd D L K N I J R)[q]? = some (a, ce D K N I J R a)) (hK : K a % 16 = t) (h5 : t < 5) (hk : (lay t)[k]? = some 2) : (wd D L K N I J R).set q (a, .inr (t, (fsl (I a) (J a) (R a) (lay t) 0).set k (.ref b))) = wd D L K N I J (u2 R a k (some b)) := by
  refine wd_set hD h hq ?_ (fun b hb => ce_cong rfl rfl (u2_row hb))
  rw [ce_o hK h5, fsl_set (lay t) 0 k 2 hk (v := .ref b) (I' := I a) (J' := J a) (R' := u2 R a k (some b) a) (by rw [Nat.zero_add, u2_s]; rfl) (fun q hq => ⟨rfl, rfl, (u2_k (by omega)).symm⟩)]
/-- the things that every method finds: the tables, the statics of the JDK that lie ahead of z, the class's strings -/
def xbad : List Cond := [.castable "java/lang/IndexOutOfBoundsException" "java/lang/IndexOutOfBoundsException", .castable "java/lang/IllegalArgumentException" "java/lang/IllegalArgumentException", .castable "java/lang/IllegalStateException" "java/lang/IllegalStateException", .castable "NetPoints$Sharer" "java/lang/Object", .castable "NetPoints$Sharer" "NetPoints$Sharer", .castable "[Ljava/lang/Object;" "[Ljava/lang/Object;"]

abbrev xstr : List (Nat × String) := [(103, "the last year cannot be closed"), (123, "nothing is owed"), (150, "there is no such picture"), (153, "there is no such window"), (157, "an argument is out of range"), (160, "there is no such sharer"), (162, "there are as many sharers as there can be"), (167, "more than the whole of the net would be given away"), (169, "the year is not closed, or too long ago")]
def EV (D : va_G) (z e0 : Nat) (U : State) : Prop :=
  va_K D vwCl (xtys D) U ∧ vx_Zq Bundle.tN "UNASSIGNED_STACK" Bundle.steD (fun q => z ≤ q) U U.heap ∧ vx_Zq Bundle.tN "SUPPRESSED_SENTINEL" Bundle.listD (fun q => z ≤ q) U U.heap ∧
  (∀ q ∈ xstr, ∃ sa, vk_R RX2 q.1 q.2 sa U) ∧ va_Nw (.methodLinkNest RX2 9 yX0_init RX2) U ∧ va_Nw (.methodLinkNest RX0 89 yX2_part RX2) U ∧
  va_Nw (.castable "java/lang/IndexOutOfBoundsException" "java/lang/IndexOutOfBoundsException") U ∧ va_Nw (.castable "java/lang/IllegalArgumentException" "java/lang/IllegalArgumentException") U ∧ va_Nw (.castable "java/lang/IllegalStateException" "java/lang/IllegalStateException") U ∧
  va_Nc "java/lang/IllegalArgumentException" "java/lang/IndexOutOfBoundsException" U ∧ va_Nc "java/lang/IllegalStateException" "java/lang/IndexOutOfBoundsException" U ∧ va_Nc "java/lang/IllegalStateException" "java/lang/IllegalArgumentException" U ∧
  va_Nw (.castable RX1 "java/lang/Object") U ∧ va_AO "java/lang/Object" U ∧
  va_Z "java/util/ArrayList" "DEFAULTCAPACITY_EMPTY_ELEMENTDATA" "[Ljava/lang/Object;" (.ref e0) (fun q => z ≤ q) U U.heap ∧ va_T (.object "java/lang/Object") e0 0 (fun _ => .null) (fun q => z ≤ q) U U.heap
theorem EV.go {D : va_G} {z e0 : Nat} {s U : State} (h : EV D z e0 s) (hW : s.WarmedH U.vm) (hq : ∀ a : Nat, a < s.heap.size → ¬ z ≤ a → U.heap[a]? = s.heap[a]?) : EV D z e0 U := by
  obtain ⟨h1, h2, h3, h4, h5, h6, h7, h8, h9, h10, h11, h12, h13, h14, h15, h16⟩ := h
  exact ⟨h1.moved hW.alike, (h2.kept hq).moved hW.alike, (h3.kept hq).moved hW.alike, fun q hq => (h4 q hq).elim (fun sa g => ⟨sa, vk_R.warm hW g⟩), va_Nw.warmM hW h5, va_Nw.warmM hW h6, va_Nw.warmC hW h7, va_Nw.warmC hW h8, va_Nw.warmC hW h9, h10.moved hW.alike, h11.moved hW.alike, h12.moved hW.alike, va_Nw.warmC hW h13, va_AO.moved hW.alike h14, (h15.kept hq).moved hW.alike, (h16.kept hq).moved hW.alike⟩
theorem EV.call {D : va_G} {z e0 : Nat} {U : State} (h : EV D z e0 U) (g : JFrame) (mk : MethodId) (a : Array Value) : EV D z e0 (U.calling g mk a) := by
  refine h.go (s := U) (U := U.calling g mk a) (State.WarmedH.refl U) (fun _ _ _ => rfl)
/-- a method's start in the world -/
def PC (D : va_G) (z e0 : Nat) (L : List Nat) (K N : Nat → Nat) (I : Nat → Nat → Int32) (J : Nat → Nat → Int64) (R : Nat → Nat → Option Nat) (av : List Value) : Array Value → State → Prop :=
  va_Pc av (fun U => EV D z e0 U ∧ z ≤ U.heap.size ∧ va_P D vwCl (wd D L K N I J R) U.heap ∧ va_D (fun q => z ≤ q) (wd D L K N I J R))
theorem PC.blind {D : va_G} {z e0 : Nat} {L : List Nat} {K N : Nat → Nat} {I : Nat → Nat → Int32} {J : Nat → Nat → Int64} {R : Nat → Nat → Option Nat} {av : List Value} : FrameBlind (PC D z e0 L K N I J R av) := by
  intro a U g mk h
  obtain ⟨h1, h2, h3, h4, h5⟩ := h
  exact ⟨h1, h2.call g mk a, h3, h4, h5⟩
/-- its end: the answer, the world's whole and long numbers -/
def QG (D : va_G) (z : Nat) (L : List Nat) (K N : Nat → Nat) (R : Nat → Nat → Option Nat) (post : Option Value → (Nat → Nat → Int32) → (Nat → Nat → Int64) → Prop) : Array Value → State → Outcome → State → Prop := fun _ st oc t =>
  (∃ (v : Option Value) (I : Nat → Nat → Int32) (J : Nat → Nat → Int64), oc = .returned v ∧ post v I J ∧ va_P D vwCl (wd D L K N I J R) t.heap ∧ va_D (fun q => z ≤ q) (wd D L K N I J R)) ∧ va_F (fun q => z ≤ q) st t
def MG (l : Launch) (y : MethodName) (ws : List Cond) (rm : Room) (D : va_G) (z e0 : Nat) (L : List Nat) (K N : Nat → Nat) (I : Nat → Nat → Int32) (J : Nat → Nat → Int64) (R : Nat → Nat → Option Nat) (av : List Value) (post : Option Value → (Nat → Nat → Int32) → (Nat → Nat → Int64) → Prop) : Prop :=
  Met l y ws rm (PC D z e0 L K N I J R av) (QG D z L K N R post) rm.cells rm.slots (fun q => z ≤ q)
/-- its end, where cells were made -/
def QF (D : va_G) (z : Nat) (post : Option Value → List Nat → (Nat → Nat) → (Nat → Nat) → (Nat → Nat → Int32) → (Nat → Nat → Int64) → (Nat → Nat → Option Nat) → Prop) : Array Value → State → Outcome → State → Prop := fun _ st oc t =>
  (∃ (v : Option Value) (L : List Nat) (K N : Nat → Nat) (I : Nat → Nat → Int32) (J : Nat → Nat → Int64) (R : Nat → Nat → Option Nat), oc = .returned v ∧ post v L K N I J R ∧ va_P D vwCl (wd D L K N I J R) t.heap ∧ va_D (fun q => z ≤ q) (wd D L K N I J R)) ∧ va_F (fun q => z ≤ q) st t
def MF (l : Launch) (y : MethodName) (ws : List Cond) (rm : Room) (D : va_G) (z e0 : Nat) (L : List Nat) (K N : Nat → Nat) (I : Nat → Nat → Int32) (J : Nat → Nat → Int64) (R : Nat → Nat → Option Nat) (av : List Value) (post : Option Value → List Nat → (Nat → Nat) → (Nat → Nat) → (Nat → Nat → Int32) → (Nat → Nat → Int64) → (Nat → Nat → Option Nat) → Prop) : Prop :=
  Met l y ws rm (PC D z e0 L K N I J R av) (QF D z post) rm.cells rm.slots (fun q => z ≤ q)
/-- a throw of E, the world as it was -/
def QX (D : va_G) (z : Nat) (L : List Nat) (K N : Nat → Nat) (I : Nat → Nat → Int32) (J : Nat → Nat → Int64) (R : Nat → Nat → Option Nat) (E : String) : String → State → State → Prop := fun E' st t => E' = E ∧ va_P D vwCl (wd D L K N I J R) t.heap ∧ va_F (fun q => z ≤ q) st t
def MX (l : Launch) (y : MethodName) (ws : List Cond) (rm : Room) (D : va_G) (z e0 : Nat) (L : List Nat) (K N : Nat → Nat) (I : Nat → Nat → Int32) (J : Nat → Nat → Int64) (R : Nat → Nat → Option Nat) (av : List Value) (E : String) : Prop :=
  vx_Met l y ws rm (PC D z e0 L K N I J R av) (fun _ _ _ _ => False) (QX D z L K N I J R E) rm.cells rm.slots (fun q => z ≤ q)
section XR
variable {p : Program} {l : Launch} {e : Env} {R0 : Room} {s : State} {m : MethodId} {args : Array Value} {below : List Frame} {meth : Method} {c : Code} {D : va_G} {z e0 nL : Nat} {own : String} {Ts : List Cond} {cc : ByteArray} {L : List Nat} {K N : Nat → Nat} {I : Nat → Nat → Int32} {J : Nat → Nat → Int64} {R : Nat → Nat → Option Nat} {cells slots : Nat} {Q : State → Prop} {pc : Nat} {lv : List (Nat × Value)} {st : List Value}
/-- what holds all through a method's body -/
def CT (p : Program) (l : Launch) (s : State) (m : MethodId) (args : Array Value) (meth : Method) (c : Code) (D : va_G) (z e0 : Nat) (cc : ByteArray) (nL : Nat) (own : String) (Ts : List Cond) : Prop :=
  (p.tables.exec = Jvm.exec ∧ c.code = cc ∧ c.maxLocals = nL ∧ s.vm.findClass own = some m.cls ∧ ∀ w ∈ Ts, w.before args s = true) ∧ EV D z e0 s ∧ z ≤ s.heap.size ∧ meth.locks = false
theorem CT.x (h : CT p l s m args meth c D z e0 cc nL own Ts) : p.tables.exec = Jvm.exec := h.1.1
theorem CT.b (h : CT p l s m args meth c D z e0 cc nL own Ts) : c.code = cc := h.1.2.1
theorem CT.ml (h : CT p l s m args meth c D z e0 cc nL own Ts) : c.maxLocals = nL := h.1.2.2.1
theorem CT.o (h : CT p l s m args meth c D z e0 cc nL own Ts) : s.vm.findClass own = some m.cls := h.1.2.2.2.1
theorem CT.w (h : CT p l s m args meth c D z e0 cc nL own Ts) : ∀ w ∈ Ts, w.before args s = true := h.1.2.2.2.2
theorem CT.k (h : CT p l s m args meth c D z e0 cc nL own Ts) : va_K D vwCl (xtys D) s := h.2.1.1
theorem CT.ev (h : CT p l s m args meth c D z e0 cc nL own Ts) : EV D z e0 s := h.2.1
theorem CT.z (h : CT p l s m args meth c D z e0 cc nL own Ts) : ∀ q, s.heap.size ≤ q → (fun q => z ≤ q) q := fun q hq => Nat.le_trans h.2.2.1 hq
/-- from a frame at pc with these locals and this stack, in any heap that holds the world -/
def XW (p : Program) (l : Launch) (e : Env) (R0 : Room) (s : State) (m : MethodId) (args : Array Value) (below : List Frame) (meth : Method) (c : Code) (D : va_G) (z nL : Nat) (L : List Nat) (K N : Nat → Nat) (I : Nat → Nat → Int32) (J : Nat → Nat → Int64) (R : Nat → Nat → Option Nat) (cells slots : Nat) (Q : State → Prop) (pc : Nat) (lv : List (Nat × Value)) (st : List Value) : Prop :=
  ∀ (H : Heap) (locs : List Loc) (ls : Array Slot), va_P D vwCl (wd D L K N I J R) H → va_D (fun q => z ≤ q) (wd D L K N I J R) → va_S (fun q => z ≤ q) s.heap H locs → lv_has ls nL lv → W p l e R0 s m args below meth c H locs cells slots Q (F0 m pc ls st)

theorem x_iconst (hc : CT p l s m args meth c D z e0 cc nL own Ts) {n : Int} {v : Int32} (d : decode cc pc = .ok (.iconst n, 1)) (hv : Int32.ofInt n = v) (k : XW p l e R0 s m args below meth c D z nL L K N I J R cells slots Q (pc + 1) lv (.int v :: st)) : XW p l e R0 s m args below meth c D z nL L K N I J R cells slots Q pc lv (st) := fun H locs ls h1 h2 h3 h4 => lv_iconst hc.x hc.b d hv (k H locs ls h1 h2 h3 h4)
theorem x_bipush (hc : CT p l s m args meth c D z e0 cc nL own Ts) {n : Int} {v : Int32} (d : decode cc pc = .ok (.bipush n, 2)) (hv : (Int8.ofInt n).toInt32 = v) (k : XW p l e R0 s m args below meth c D z nL L K N I J R cells slots Q (pc + 2) lv (.int v :: st)) : XW p l e R0 s m args below meth c D z nL L K N I J R cells slots Q pc lv (st) := fun H locs ls h1 h2 h3 h4 => lv_bipush hc.x hc.b d hv (k H locs ls h1 h2 h3 h4)
theorem x_sipush (hc : CT p l s m args meth c D z e0 cc nL own Ts) {n : Int} {v : Int32} (d : decode cc pc = .ok (.sipush n, 3)) (hv : (Int16.ofInt n).toInt32 = v) (k : XW p l e R0 s m args below meth c D z nL L K N I J R cells slots Q (pc + 3) lv (.int v :: st)) : XW p l e R0 s m args below meth c D z nL L K N I J R cells slots Q pc lv (st) := fun H locs ls h1 h2 h3 h4 => lv_sipush hc.x hc.b d hv (k H locs ls h1 h2 h3 h4)
theorem x_lconst (hc : CT p l s m args meth c D z e0 cc nL own Ts) {n : Fin 2} {v : Int64} (d : decode cc pc = .ok (.lconst n, 1)) (hv : Int64.ofNat (n : Nat) = v) (k : XW p l e R0 s m args below meth c D z nL L K N I J R cells slots Q (pc + 1) lv (.long v :: st)) : XW p l e R0 s m args below meth c D z nL L K N I J R cells slots Q pc lv (st) := fun H locs ls h1 h2 h3 h4 => lv_lconst hc.x hc.b d hv (k H locs ls h1 h2 h3 h4)
theorem x_iload_n (hc : CT p l s m args meth c D z e0 cc nL own Ts) {k0 : Fin 4} {i j : Nat} {x : Int32} (d : decode cc pc = .ok (.iload_n k0, 1)) (hi : (k0 : Nat) = i) (hl : lv[j]? = some (i, .int x)) (k : XW p l e R0 s m args below meth c D z nL L K N I J R cells slots Q (pc + 1) lv (.int x :: st)) : XW p l e R0 s m args below meth c D z nL L K N I J R cells slots Q pc lv (st) := fun H locs ls h1 h2 h3 h4 => lv_iload_n hc.x hc.b d hi (lv_at h4 j hl) (k H locs ls h1 h2 h3 h4)
theorem x_iload (hc : CT p l s m args meth c D z e0 cc nL own Ts) {i j : Nat} {x : Int32} (d : decode cc pc = .ok (.iload i, 2)) (hl : lv[j]? = some (i, .int x)) (k : XW p l e R0 s m args below meth c D z nL L K N I J R cells slots Q (pc + 2) lv (.int x :: st)) : XW p l e R0 s m args below meth c D z nL L K N I J R cells slots Q pc lv (st) := fun H locs ls h1 h2 h3 h4 => lv_iload hc.x hc.b d (lv_at h4 j hl) (k H locs ls h1 h2 h3 h4)
theorem x_istore_n (hc : CT p l s m args meth c D z e0 cc nL own Ts) {k0 : Fin 4} {i : Nat} {x : Int32} {lv' : List (Nat × Value)} (d : decode cc pc = .ok (.istore_n k0, 1)) (hi : (k0 : Nat) = i) (hn : i < nL) (hl : (i, Value.int x) :: lv.filter (fun q => !(q.1 == i) && !(q.1 + 1 == i && q.2.category == 2)) = lv') (k : XW p l e R0 s m args below meth c D z nL L K N I J R cells slots Q (pc + 1) lv' st) : XW p l e R0 s m args below meth c D z nL L K N I J R cells slots Q pc lv (.int x :: st) := fun H locs ls h1 h2 h3 h4 => lv_istore_n hc.x hc.b d hi h4 hn hl (fun ls' h4 => k H locs ls' h1 h2 h3 h4)
theorem x_istore (hc : CT p l s m args meth c D z e0 cc nL own Ts) {i : Nat} {x : Int32} {lv' : List (Nat × Value)} (d : decode cc pc = .ok (.istore i, 2)) (hn : i < nL) (hl : (i, Value.int x) :: lv.filter (fun q => !(q.1 == i) && !(q.1 + 1 == i && q.2.category == 2)) = lv') (k : XW p l e R0 s m args below meth c D z nL L K N I J R cells slots Q (pc + 2) lv' st) : XW p l e R0 s m args below meth c D z nL L K N I J R cells slots Q pc lv (.int x :: st) := fun H locs ls h1 h2 h3 h4 => lv_istore hc.x hc.b d h4 hn hl (fun ls' h4 => k H locs ls' h1 h2 h3 h4)
theorem x_lload_n (hc : CT p l s m args meth c D z e0 cc nL own Ts) {k0 : Fin 4} {i j : Nat} {x : Int64} (d : decode cc pc = .ok (.lload_n k0, 1)) (hi : (k0 : Nat) = i) (hl : lv[j]? = some (i, .long x)) (k : XW p l e R0 s m args below meth c D z nL L K N I J R cells slots Q (pc + 1) lv (.long x :: st)) : XW p l e R0 s m args below meth c D z nL L K N I J R cells slots Q pc lv (st) := fun H locs ls h1 h2 h3 h4 => lv_lload_n hc.x hc.b d hi (lv_at h4 j hl) (k H locs ls h1 h2 h3 h4)
theorem x_lload (hc : CT p l s m args meth c D z e0 cc nL own Ts) {i j : Nat} {x : Int64} (d : decode cc pc = .ok (.lload i, 2)) (hl : lv[j]? = some (i, .long x)) (k : XW p l e R0 s m args below meth c D z nL L K N I J R cells slots Q (pc + 2) lv (.long x :: st)) : XW p l e R0 s m args below meth c D z nL L K N I J R cells slots Q pc lv (st) := fun H locs ls h1 h2 h3 h4 => lv_lload hc.x hc.b d (lv_at h4 j hl) (k H locs ls h1 h2 h3 h4)
theorem x_lstore_n (hc : CT p l s m args meth c D z e0 cc nL own Ts) {k0 : Fin 4} {i : Nat} {x : Int64} {lv' : List (Nat × Value)} (d : decode cc pc = .ok (.lstore_n k0, 1)) (hi : (k0 : Nat) = i) (hn : i + 1 < nL) (hl : (i, Value.long x) :: lv.filter (fun q => !(q.1 == i) && (!(q.1 == i + 1) && !(q.1 + 1 == i && q.2.category == 2))) = lv') (k : XW p l e R0 s m args below meth c D z nL L K N I J R cells slots Q (pc + 1) lv' st) : XW p l e R0 s m args below meth c D z nL L K N I J R cells slots Q pc lv (.long x :: st) := fun H locs ls h1 h2 h3 h4 => lv_lstore_n hc.x hc.b d hi h4 hn hl (fun ls' h4 => k H locs ls' h1 h2 h3 h4)
theorem x_lstore (hc : CT p l s m args meth c D z e0 cc nL own Ts) {i : Nat} {x : Int64} {lv' : List (Nat × Value)} (d : decode cc pc = .ok (.lstore i, 2)) (hn : i + 1 < nL) (hl : (i, Value.long x) :: lv.filter (fun q => !(q.1 == i) && (!(q.1 == i + 1) && !(q.1 + 1 == i && q.2.category == 2))) = lv') (k : XW p l e R0 s m args below meth c D z nL L K N I J R cells slots Q (pc + 2) lv' st) : XW p l e R0 s m args below meth c D z nL L K N I J R cells slots Q pc lv (.long x :: st) := fun H locs ls h1 h2 h3 h4 => lv_lstore hc.x hc.b d h4 hn hl (fun ls' h4 => k H locs ls' h1 h2 h3 h4)
theorem x_aload_n (hc : CT p l s m args meth c D z e0 cc nL own Ts) {k0 : Fin 4} {i j : Nat} {x : Nat} (d : decode cc pc = .ok (.aload_n k0, 1)) (hi : (k0 : Nat) = i) (hl : lv[j]? = some (i, .ref x)) (k : XW p l e R0 s m args below meth c D z nL L K N I J R cells slots Q (pc + 1) lv (.ref x :: st)) : XW p l e R0 s m args below meth c D z nL L K N I J R cells slots Q pc lv (st) := fun H locs ls h1 h2 h3 h4 => lv_aload_n hc.x hc.b d hi (lv_at h4 j hl) (k H locs ls h1 h2 h3 h4)
theorem x_aload (hc : CT p l s m args meth c D z e0 cc nL own Ts) {i j : Nat} {x : Nat} (d : decode cc pc = .ok (.aload i, 2)) (hl : lv[j]? = some (i, .ref x)) (k : XW p l e R0 s m args below meth c D z nL L K N I J R cells slots Q (pc + 2) lv (.ref x :: st)) : XW p l e R0 s m args below meth c D z nL L K N I J R cells slots Q pc lv (st) := fun H locs ls h1 h2 h3 h4 => lv_aload hc.x hc.b d (lv_at h4 j hl) (k H locs ls h1 h2 h3 h4)
theorem x_astore_n (hc : CT p l s m args meth c D z e0 cc nL own Ts) {k0 : Fin 4} {i : Nat} {x : Nat} {lv' : List (Nat × Value)} (d : decode cc pc = .ok (.astore_n k0, 1)) (hi : (k0 : Nat) = i) (hn : i < nL) (hl : (i, Value.ref x) :: lv.filter (fun q => !(q.1 == i) && !(q.1 + 1 == i && q.2.category == 2)) = lv') (k : XW p l e R0 s m args below meth c D z nL L K N I J R cells slots Q (pc + 1) lv' st) : XW p l e R0 s m args below meth c D z nL L K N I J R cells slots Q pc lv (.ref x :: st) := fun H locs ls h1 h2 h3 h4 => lv_astore_n hc.x hc.b d hi h4 hn hl (fun ls' h4 => k H locs ls' h1 h2 h3 h4)
theorem x_astore (hc : CT p l s m args meth c D z e0 cc nL own Ts) {i : Nat} {x : Nat} {lv' : List (Nat × Value)} (d : decode cc pc = .ok (.astore i, 2)) (hn : i < nL) (hl : (i, Value.ref x) :: lv.filter (fun q => !(q.1 == i) && !(q.1 + 1 == i && q.2.category == 2)) = lv') (k : XW p l e R0 s m args below meth c D z nL L K N I J R cells slots Q (pc + 2) lv' st) : XW p l e R0 s m args below meth c D z nL L K N I J R cells slots Q pc lv (.ref x :: st) := fun H locs ls h1 h2 h3 h4 => lv_astore hc.x hc.b d h4 hn hl (fun ls' h4 => k H locs ls' h1 h2 h3 h4)
theorem x_iinc (hc : CT p l s m args meth c D z e0 cc nL own Ts) {i j : Nat} {n : Int} {x v : Int32} {lv' : List (Nat × Value)} (d : decode cc pc = .ok (.iinc i n, 3)) (hk : lv[j]? = some (i, .int x)) (hv : x + Int32.ofInt n = v) (hn : i < nL) (hl : (i, Value.int v) :: lv.filter (fun q => !(q.1 == i) && !(q.1 + 1 == i && q.2.category == 2)) = lv') (k : XW p l e R0 s m args below meth c D z nL L K N I J R cells slots Q (pc + 3) lv' st) : XW p l e R0 s m args below meth c D z nL L K N I J R cells slots Q pc lv st := fun H locs ls h1 h2 h3 h4 => lv_iinc hc.x hc.b d h4 hk hv hn hl (fun ls' h4 => k H locs ls' h1 h2 h3 h4)
theorem x_iadd (hc : CT p l s m args meth c D z e0 cc nL own Ts) {x y : Int32} (d : decode cc pc = .ok (.iadd, 1)) (k : XW p l e R0 s m args below meth c D z nL L K N I J R cells slots Q (pc + 1) lv (.int (x + y) :: st)) : XW p l e R0 s m args below meth c D z nL L K N I J R cells slots Q pc lv (.int y :: .int x :: st) := fun H locs ls h1 h2 h3 h4 => lv_iadd hc.x hc.b d (k H locs ls h1 h2 h3 h4)
theorem x_isub (hc : CT p l s m args meth c D z e0 cc nL own Ts) {x y : Int32} (d : decode cc pc = .ok (.isub, 1)) (k : XW p l e R0 s m args below meth c D z nL L K N I J R cells slots Q (pc + 1) lv (.int (x - y) :: st)) : XW p l e R0 s m args below meth c D z nL L K N I J R cells slots Q pc lv (.int y :: .int x :: st) := fun H locs ls h1 h2 h3 h4 => lv_isub hc.x hc.b d (k H locs ls h1 h2 h3 h4)
theorem x_imul (hc : CT p l s m args meth c D z e0 cc nL own Ts) {x y : Int32} (d : decode cc pc = .ok (.imul, 1)) (k : XW p l e R0 s m args below meth c D z nL L K N I J R cells slots Q (pc + 1) lv (.int (x * y) :: st)) : XW p l e R0 s m args below meth c D z nL L K N I J R cells slots Q pc lv (.int y :: .int x :: st) := fun H locs ls h1 h2 h3 h4 => lv_imul hc.x hc.b d (k H locs ls h1 h2 h3 h4)
theorem x_iand (hc : CT p l s m args meth c D z e0 cc nL own Ts) {x y : Int32} (d : decode cc pc = .ok (.iand, 1)) (k : XW p l e R0 s m args below meth c D z nL L K N I J R cells slots Q (pc + 1) lv (.int (x &&& y) :: st)) : XW p l e R0 s m args below meth c D z nL L K N I J R cells slots Q pc lv (.int y :: .int x :: st) := fun H locs ls h1 h2 h3 h4 => lv_iand hc.x hc.b d (k H locs ls h1 h2 h3 h4)
theorem x_ladd (hc : CT p l s m args meth c D z e0 cc nL own Ts) {x y : Int64} (d : decode cc pc = .ok (.ladd, 1)) (k : XW p l e R0 s m args below meth c D z nL L K N I J R cells slots Q (pc + 1) lv (.long (x + y) :: st)) : XW p l e R0 s m args below meth c D z nL L K N I J R cells slots Q pc lv (.long y :: .long x :: st) := fun H locs ls h1 h2 h3 h4 => lv_ladd hc.x hc.b d (k H locs ls h1 h2 h3 h4)
theorem x_lsub (hc : CT p l s m args meth c D z e0 cc nL own Ts) {x y : Int64} (d : decode cc pc = .ok (.lsub, 1)) (k : XW p l e R0 s m args below meth c D z nL L K N I J R cells slots Q (pc + 1) lv (.long (x - y) :: st)) : XW p l e R0 s m args below meth c D z nL L K N I J R cells slots Q pc lv (.long y :: .long x :: st) := fun H locs ls h1 h2 h3 h4 => lv_lsub hc.x hc.b d (k H locs ls h1 h2 h3 h4)
theorem x_lmul (hc : CT p l s m args meth c D z e0 cc nL own Ts) {x y : Int64} (d : decode cc pc = .ok (.lmul, 1)) (k : XW p l e R0 s m args below meth c D z nL L K N I J R cells slots Q (pc + 1) lv (.long (x * y) :: st)) : XW p l e R0 s m args below meth c D z nL L K N I J R cells slots Q pc lv (.long y :: .long x :: st) := fun H locs ls h1 h2 h3 h4 => lv_lmul hc.x hc.b d (k H locs ls h1 h2 h3 h4)
theorem x_ldiv (hc : CT p l s m args meth c D z e0 cc nL own Ts) {x y : Int64} (d : decode cc pc = .ok (.ldiv, 1)) (hne : ¬ y = 0) (k : XW p l e R0 s m args below meth c D z nL L K N I J R cells slots Q (pc + 1) lv (.long (x / y) :: st)) : XW p l e R0 s m args below meth c D z nL L K N I J R cells slots Q pc lv (.long y :: .long x :: st) := fun H locs ls h1 h2 h3 h4 => lv_ldiv hc.x hc.b d hne (k H locs ls h1 h2 h3 h4)
theorem x_lneg (hc : CT p l s m args meth c D z e0 cc nL own Ts) {x : Int64} (d : decode cc pc = .ok (.lneg, 1)) (k : XW p l e R0 s m args below meth c D z nL L K N I J R cells slots Q (pc + 1) lv (.long (-x) :: st)) : XW p l e R0 s m args below meth c D z nL L K N I J R cells slots Q pc lv (.long x :: st) := fun H locs ls h1 h2 h3 h4 => lv_lneg hc.x hc.b d (k H locs ls h1 h2 h3 h4)
theorem x_i2l (hc : CT p l s m args meth c D z e0 cc nL own Ts) {x : Int32} (d : decode cc pc = .ok (.i2l, 1)) (k : XW p l e R0 s m args below meth c D z nL L K N I J R cells slots Q (pc + 1) lv (.long x.toInt64 :: st)) : XW p l e R0 s m args below meth c D z nL L K N I J R cells slots Q pc lv (.int x :: st) := fun H locs ls h1 h2 h3 h4 => lv_i2l hc.x hc.b d rfl (k H locs ls h1 h2 h3 h4)
theorem x_l2i (hc : CT p l s m args meth c D z e0 cc nL own Ts) {x : Int64} (d : decode cc pc = .ok (.l2i, 1)) (k : XW p l e R0 s m args below meth c D z nL L K N I J R cells slots Q (pc + 1) lv (.int x.toInt32 :: st)) : XW p l e R0 s m args below meth c D z nL L K N I J R cells slots Q pc lv (.long x :: st) := fun H locs ls h1 h2 h3 h4 => lv_l2i hc.x hc.b d rfl (k H locs ls h1 h2 h3 h4)
theorem x_lcmp (hc : CT p l s m args meth c D z e0 cc nL own Ts) {x y : Int64} (d : decode cc pc = .ok (.lcmp, 1)) (k : XW p l e R0 s m args below meth c D z nL L K N I J R cells slots Q (pc + 1) lv (.int (lg_cmp x y) :: st)) : XW p l e R0 s m args below meth c D z nL L K N I J R cells slots Q pc lv (.long y :: .long x :: st) := fun H locs ls h1 h2 h3 h4 => W.lcmp hc.x hc.b d (k H locs ls h1 h2 h3 h4)
theorem x_dup (hc : CT p l s m args meth c D z e0 cc nL own Ts) {v : Value} (d : decode cc pc = .ok (.dup, 1)) (hv : v.category = 1) (k : XW p l e R0 s m args below meth c D z nL L K N I J R cells slots Q (pc + 1) lv (v :: v :: st)) : XW p l e R0 s m args below meth c D z nL L K N I J R cells slots Q pc lv (v :: st) := fun H locs ls h1 h2 h3 h4 => lv_dup hc.x hc.b d hv (k H locs ls h1 h2 h3 h4)
theorem x_pop (hc : CT p l s m args meth c D z e0 cc nL own Ts) {v : Value} (d : decode cc pc = .ok (.pop, 1)) (hv : v.category = 1) (k : XW p l e R0 s m args below meth c D z nL L K N I J R cells slots Q (pc + 1) lv (st)) : XW p l e R0 s m args below meth c D z nL L K N I J R cells slots Q pc lv (v :: st) := fun H locs ls h1 h2 h3 h4 => lv_pop hc.x hc.b d hv (k H locs ls h1 h2 h3 h4)
theorem x_dup_x1 (hc : CT p l s m args meth c D z e0 cc nL own Ts) {v w : Value} (d : decode cc pc = .ok (.dup_x1, 1)) (hv : v.category = 1) (hw : w.category = 1) (k : XW p l e R0 s m args below meth c D z nL L K N I J R cells slots Q (pc + 1) lv (v :: w :: v :: st)) : XW p l e R0 s m args below meth c D z nL L K N I J R cells slots Q pc lv (v :: w :: st) := fun H locs ls h1 h2 h3 h4 => lv_dup_x1 hc.x hc.b d hv hw (k H locs ls h1 h2 h3 h4)
theorem x_dup2 (hc : CT p l s m args meth c D z e0 cc nL own Ts) {v w : Value} (d : decode cc pc = .ok (.dup2, 1)) (hv : v.category = 1) (hw : w.category = 1) (k : XW p l e R0 s m args below meth c D z nL L K N I J R cells slots Q (pc + 1) lv (v :: w :: v :: w :: st)) : XW p l e R0 s m args below meth c D z nL L K N I J R cells slots Q pc lv (v :: w :: st) := fun H locs ls h1 h2 h3 h4 => lv_dup2_11 hc.x hc.b d hv hw (k H locs ls h1 h2 h3 h4)
theorem x_null (hc : CT p l s m args meth c D z e0 cc nL own Ts)  (d : decode cc pc = .ok (.aconst_null, 1)) (k : XW p l e R0 s m args below meth c D z nL L K N I J R cells slots Q (pc + 1) lv (.null :: st)) : XW p l e R0 s m args below meth c D z nL L K N I J R cells slots Q pc lv (st) := fun H locs ls h1 h2 h3 h4 => lv_null hc.x hc.b d (k H locs ls h1 h2 h3 h4)
theorem x_if_eq (hc : CT p l s m args meth c D z e0 cc nL own Ts) {x : Int32} {off : Int} {tgt : Nat} (d : decode cc pc = .ok (.ifCond .eq off, 3)) (ht : (pc : Int) + off = (tgt : Int)) (kt : x = 0 → XW p l e R0 s m args below meth c D z nL L K N I J R cells slots Q tgt lv st) (kf : ¬ x = 0 → XW p l e R0 s m args below meth c D z nL L K N I J R cells slots Q (pc + 3) lv st) : XW p l e R0 s m args below meth c D z nL L K N I J R cells slots Q pc lv (.int x :: st) := fun H locs ls h1 h2 h3 h4 => lv_if_eq hc.x hc.b d ht (fun q => kt q H locs ls h1 h2 h3 h4) (fun q => kf q H locs ls h1 h2 h3 h4)
theorem x_if_ne (hc : CT p l s m args meth c D z e0 cc nL own Ts) {x : Int32} {off : Int} {tgt : Nat} (d : decode cc pc = .ok (.ifCond .ne off, 3)) (ht : (pc : Int) + off = (tgt : Int)) (kt : ¬ x = 0 → XW p l e R0 s m args below meth c D z nL L K N I J R cells slots Q tgt lv st) (kf : x = 0 → XW p l e R0 s m args below meth c D z nL L K N I J R cells slots Q (pc + 3) lv st) : XW p l e R0 s m args below meth c D z nL L K N I J R cells slots Q pc lv (.int x :: st) := fun H locs ls h1 h2 h3 h4 => lv_if_ne hc.x hc.b d ht (fun q => kt q H locs ls h1 h2 h3 h4) (fun q => kf q H locs ls h1 h2 h3 h4)
theorem x_if_lt (hc : CT p l s m args meth c D z e0 cc nL own Ts) {x : Int32} {off : Int} {tgt : Nat} (d : decode cc pc = .ok (.ifCond .lt off, 3)) (ht : (pc : Int) + off = (tgt : Int)) (kt : x < 0 → XW p l e R0 s m args below meth c D z nL L K N I J R cells slots Q tgt lv st) (kf : ¬ x < 0 → XW p l e R0 s m args below meth c D z nL L K N I J R cells slots Q (pc + 3) lv st) : XW p l e R0 s m args below meth c D z nL L K N I J R cells slots Q pc lv (.int x :: st) := fun H locs ls h1 h2 h3 h4 => lv_if_lt hc.x hc.b d ht (fun q => kt q H locs ls h1 h2 h3 h4) (fun q => kf q H locs ls h1 h2 h3 h4)
theorem x_if_ge (hc : CT p l s m args meth c D z e0 cc nL own Ts) {x : Int32} {off : Int} {tgt : Nat} (d : decode cc pc = .ok (.ifCond .ge off, 3)) (ht : (pc : Int) + off = (tgt : Int)) (kt : 0 ≤ x → XW p l e R0 s m args below meth c D z nL L K N I J R cells slots Q tgt lv st) (kf : ¬ 0 ≤ x → XW p l e R0 s m args below meth c D z nL L K N I J R cells slots Q (pc + 3) lv st) : XW p l e R0 s m args below meth c D z nL L K N I J R cells slots Q pc lv (.int x :: st) := fun H locs ls h1 h2 h3 h4 => lv_if_ge hc.x hc.b d ht (fun q => kt q H locs ls h1 h2 h3 h4) (fun q => kf q H locs ls h1 h2 h3 h4)
theorem x_if_gt (hc : CT p l s m args meth c D z e0 cc nL own Ts) {x : Int32} {off : Int} {tgt : Nat} (d : decode cc pc = .ok (.ifCond .gt off, 3)) (ht : (pc : Int) + off = (tgt : Int)) (kt : 0 < x → XW p l e R0 s m args below meth c D z nL L K N I J R cells slots Q tgt lv st) (kf : ¬ 0 < x → XW p l e R0 s m args below meth c D z nL L K N I J R cells slots Q (pc + 3) lv st) : XW p l e R0 s m args below meth c D z nL L K N I J R cells slots Q pc lv (.int x :: st) := fun H locs ls h1 h2 h3 h4 => lv_if_gt hc.x hc.b d ht (fun q => kt q H locs ls h1 h2 h3 h4) (fun q => kf q H locs ls h1 h2 h3 h4)
theorem x_if_le (hc : CT p l s m args meth c D z e0 cc nL own Ts) {x : Int32} {off : Int} {tgt : Nat} (d : decode cc pc = .ok (.ifCond .le off, 3)) (ht : (pc : Int) + off = (tgt : Int)) (kt : x ≤ 0 → XW p l e R0 s m args below meth c D z nL L K N I J R cells slots Q tgt lv st) (kf : ¬ x ≤ 0 → XW p l e R0 s m args below meth c D z nL L K N I J R cells slots Q (pc + 3) lv st) : XW p l e R0 s m args below meth c D z nL L K N I J R cells slots Q pc lv (.int x :: st) := fun H locs ls h1 h2 h3 h4 => lv_if_le hc.x hc.b d ht (fun q => kt q H locs ls h1 h2 h3 h4) (fun q => kf q H locs ls h1 h2 h3 h4)
theorem x_icmp_eq (hc : CT p l s m args meth c D z e0 cc nL own Ts) {x y : Int32} {off : Int} {tgt : Nat} (d : decode cc pc = .ok (.if_icmp .eq off, 3)) (ht : (pc : Int) + off = (tgt : Int)) (kt : x = y → XW p l e R0 s m args below meth c D z nL L K N I J R cells slots Q tgt lv st) (kf : ¬ x = y → XW p l e R0 s m args below meth c D z nL L K N I J R cells slots Q (pc + 3) lv st) : XW p l e R0 s m args below meth c D z nL L K N I J R cells slots Q pc lv (.int y :: .int x :: st) := fun H locs ls h1 h2 h3 h4 => lv_icmp_eq hc.x hc.b d ht (fun q => kt q H locs ls h1 h2 h3 h4) (fun q => kf q H locs ls h1 h2 h3 h4)
theorem x_icmp_ne (hc : CT p l s m args meth c D z e0 cc nL own Ts) {x y : Int32} {off : Int} {tgt : Nat} (d : decode cc pc = .ok (.if_icmp .ne off, 3)) (ht : (pc : Int) + off = (tgt : Int)) (kt : ¬ x = y → XW p l e R0 s m args below meth c D z nL L K N I J R cells slots Q tgt lv st) (kf : x = y → XW p l e R0 s m args below meth c D z nL L K N I J R cells slots Q (pc + 3) lv st) : XW p l e R0 s m args below meth c D z nL L K N I J R cells slots Q pc lv (.int y :: .int x :: st) := fun H locs ls h1 h2 h3 h4 => lv_icmp_ne hc.x hc.b d ht (fun q => kt q H locs ls h1 h2 h3 h4) (fun q => kf q H locs ls h1 h2 h3 h4)
theorem x_icmp_lt (hc : CT p l s m args meth c D z e0 cc nL own Ts) {x y : Int32} {off : Int} {tgt : Nat} (d : decode cc pc = .ok (.if_icmp .lt off, 3)) (ht : (pc : Int) + off = (tgt : Int)) (kt : x < y → XW p l e R0 s m args below meth c D z nL L K N I J R cells slots Q tgt lv st) (kf : ¬ x < y → XW p l e R0 s m args below meth c D z nL L K N I J R cells slots Q (pc + 3) lv st) : XW p l e R0 s m args below meth c D z nL L K N I J R cells slots Q pc lv (.int y :: .int x :: st) := fun H locs ls h1 h2 h3 h4 => lv_icmp_lt hc.x hc.b d ht (fun q => kt q H locs ls h1 h2 h3 h4) (fun q => kf q H locs ls h1 h2 h3 h4)
theorem x_icmp_ge (hc : CT p l s m args meth c D z e0 cc nL own Ts) {x y : Int32} {off : Int} {tgt : Nat} (d : decode cc pc = .ok (.if_icmp .ge off, 3)) (ht : (pc : Int) + off = (tgt : Int)) (kt : y ≤ x → XW p l e R0 s m args below meth c D z nL L K N I J R cells slots Q tgt lv st) (kf : ¬ y ≤ x → XW p l e R0 s m args below meth c D z nL L K N I J R cells slots Q (pc + 3) lv st) : XW p l e R0 s m args below meth c D z nL L K N I J R cells slots Q pc lv (.int y :: .int x :: st) := fun H locs ls h1 h2 h3 h4 => lv_icmp_ge hc.x hc.b d ht (fun q => kt q H locs ls h1 h2 h3 h4) (fun q => kf q H locs ls h1 h2 h3 h4)
theorem x_icmp_gt (hc : CT p l s m args meth c D z e0 cc nL own Ts) {x y : Int32} {off : Int} {tgt : Nat} (d : decode cc pc = .ok (.if_icmp .gt off, 3)) (ht : (pc : Int) + off = (tgt : Int)) (kt : y < x → XW p l e R0 s m args below meth c D z nL L K N I J R cells slots Q tgt lv st) (kf : ¬ y < x → XW p l e R0 s m args below meth c D z nL L K N I J R cells slots Q (pc + 3) lv st) : XW p l e R0 s m args below meth c D z nL L K N I J R cells slots Q pc lv (.int y :: .int x :: st) := fun H locs ls h1 h2 h3 h4 => lv_icmp_gt hc.x hc.b d ht (fun q => kt q H locs ls h1 h2 h3 h4) (fun q => kf q H locs ls h1 h2 h3 h4)
theorem x_icmp_le (hc : CT p l s m args meth c D z e0 cc nL own Ts) {x y : Int32} {off : Int} {tgt : Nat} (d : decode cc pc = .ok (.if_icmp .le off, 3)) (ht : (pc : Int) + off = (tgt : Int)) (kt : x ≤ y → XW p l e R0 s m args below meth c D z nL L K N I J R cells slots Q tgt lv st) (kf : ¬ x ≤ y → XW p l e R0 s m args below meth c D z nL L K N I J R cells slots Q (pc + 3) lv st) : XW p l e R0 s m args below meth c D z nL L K N I J R cells slots Q pc lv (.int y :: .int x :: st) := fun H locs ls h1 h2 h3 h4 => lv_icmp_le hc.x hc.b d ht (fun q => kt q H locs ls h1 h2 h3 h4) (fun q => kf q H locs ls h1 h2 h3 h4)
theorem x_goto (hc : CT p l s m args meth c D z e0 cc nL own Ts) {off : Int} {tgt : Nat} (d : decode cc pc = .ok (.goto off, 3)) (ht : (pc : Int) + off = (tgt : Int)) (k : XW p l e R0 s m args below meth c D z nL L K N I J R cells slots Q tgt lv st) : XW p l e R0 s m args below meth c D z nL L K N I J R cells slots Q pc lv st := fun H locs ls h1 h2 h3 h4 => lv_goto hc.x hc.b d ht (k H locs ls h1 h2 h3 h4)
theorem x_ldc (hc : CT p l s m args meth c D z e0 cc nL own Ts) {index : Nat} {v : Int32} (d : decode cc pc = .ok (.ldc index, 2)) (hw : Jvm.Cond.constant own index v ∈ Ts) (k : XW p l e R0 s m args below meth c D z nL L K N I J R cells slots Q (pc + 2) lv (.int v :: st)) : XW p l e R0 s m args below meth c D z nL L K N I J R cells slots Q pc lv st := fun H locs ls h1 h2 h3 h4 => lv_ldc hc.x hc.b hc.o (hc.w _ hw) d (k H locs ls h1 h2 h3 h4)
theorem x_ldc2 (hc : CT p l s m args meth c D z e0 cc nL own Ts) {index : Nat} {v : Int64} (d : decode cc pc = .ok (.ldc2_w index, 3)) (hw : Jvm.Cond.constantLong own index v ∈ Ts) (k : XW p l e R0 s m args below meth c D z nL L K N I J R cells slots Q (pc + 3) lv (.long v :: st)) : XW p l e R0 s m args below meth c D z nL L K N I J R cells slots Q pc lv st := fun H locs ls h1 h2 h3 h4 => lv_ldc2 hc.x hc.b hc.o (hc.w _ hw) d (k H locs ls h1 h2 h3 h4)
theorem x_tableIn (hc : CT p l s m args meth c D z e0 cc nL own Ts) {dflt lo hi : Int} {offs : Array Int} {len : Nat} {x : Int32} {off : Int} {tgt : Nat} (d : decode cc pc = .ok (.tableswitch dflt lo hi offs, len)) (h1 : ¬ x.toInt < lo) (h2 : ¬ hi < x.toInt) (ho : offs[(x.toInt - lo).toNat]? = some off) (ht : (pc : Int) + off = (tgt : Int)) (k : XW p l e R0 s m args below meth c D z nL L K N I J R cells slots Q tgt lv st) : XW p l e R0 s m args below meth c D z nL L K N I J R cells slots Q pc lv (.int x :: st) := fun H locs ls g1 g2 g3 g4 => lv_tableIn hc.x hc.b d h1 h2 ho ht (k H locs ls g1 g2 g3 g4)
theorem x_tableOut (hc : CT p l s m args meth c D z e0 cc nL own Ts) {dflt lo hi : Int} {offs : Array Int} {len : Nat} {x : Int32} {tgt : Nat} (d : decode cc pc = .ok (.tableswitch dflt lo hi offs, len)) (h : x.toInt < lo ∨ hi < x.toInt) (ht : (pc : Int) + dflt = (tgt : Int)) (k : XW p l e R0 s m args below meth c D z nL L K N I J R cells slots Q tgt lv st) : XW p l e R0 s m args below meth c D z nL L K N I J R cells slots Q pc lv (.int x :: st) := fun H locs ls g1 g2 g3 g4 => lv_tableOut hc.x hc.b d h ht (k H locs ls g1 g2 g3 g4)
theorem x_getI (hc : CT p l s m args meth c D z e0 cc nL own Ts) {C ref : String} {T : u_T} {NN ci index : Nat} {a : Nat} (k0 : Nat) (hin : ∀ w ∈ u_ws C T NN, w ∈ Ts) (hcl : vwCl[ci]? = some (C, T, NN)) (hk : k0 < NN) (hlink : Cond.fieldLink own index ref (T k0).2.1 (T k0).2.2.1 ∈ Ts) (hsame : ∀ x, s.fieldFound? (T k0).1 (T k0).2.1 (T k0).2.2.1 = some x → s.fieldFound? ref (T k0).2.1 (T k0).2.2.1 = some x) {t0 n0 : Nat} (hA : At L K N a t0 n0) (hK : t0 % 16 = ci) (h5 : ci < 5) (ht : (lay ci)[k0]? = some 0) (d : decode cc pc = .ok (.getfield index, 3)) (k : XW p l e R0 s m args below meth c D z nL L K N I J R cells slots Q (pc + 3) lv (.int (I a k0) :: st)) : XW p l e R0 s m args below meth c D z nL L K N I J R cells slots Q pc lv (.ref a :: st) := by
  intro H locs ls h1 h2 h3 h4
  obtain ⟨q, hq⟩ := wd_get (D := D) (K := K) (N := N) (I := I) (J := J) (R := R) hA.1
  rw [ce_o (hA.m hK) h5] at hq
  exact va_get hc.x hc.b hc.w hin hc.o hc.k h1 q hq hcl k0 hk (hc.w _ hlink) hsame ((fsl_at (lay ci) 0 k0 0 ht).trans (by rw [Nat.zero_add]; rfl)) d (k H locs ls h1 h2 h3 h4)
theorem x_getJ (hc : CT p l s m args meth c D z e0 cc nL own Ts) {C ref : String} {T : u_T} {NN ci index : Nat} {a : Nat} (k0 : Nat) (hin : ∀ w ∈ u_ws C T NN, w ∈ Ts) (hcl : vwCl[ci]? = some (C, T, NN)) (hk : k0 < NN) (hlink : Cond.fieldLink own index ref (T k0).2.1 (T k0).2.2.1 ∈ Ts) (hsame : ∀ x, s.fieldFound? (T k0).1 (T k0).2.1 (T k0).2.2.1 = some x → s.fieldFound? ref (T k0).2.1 (T k0).2.2.1 = some x) {t0 n0 : Nat} (hA : At L K N a t0 n0) (hK : t0 % 16 = ci) (h5 : ci < 5) (ht : (lay ci)[k0]? = some 1) (d : decode cc pc = .ok (.getfield index, 3)) (k : XW p l e R0 s m args below meth c D z nL L K N I J R cells slots Q (pc + 3) lv (.long (J a k0) :: st)) : XW p l e R0 s m args below meth c D z nL L K N I J R cells slots Q pc lv (.ref a :: st) := by
  intro H locs ls h1 h2 h3 h4
  obtain ⟨q, hq⟩ := wd_get (D := D) (K := K) (N := N) (I := I) (J := J) (R := R) hA.1
  rw [ce_o (hA.m hK) h5] at hq
  exact va_get hc.x hc.b hc.w hin hc.o hc.k h1 q hq hcl k0 hk (hc.w _ hlink) hsame ((fsl_at (lay ci) 0 k0 1 ht).trans (by rw [Nat.zero_add]; rfl)) d (k H locs ls h1 h2 h3 h4)
theorem x_getR (hc : CT p l s m args meth c D z e0 cc nL own Ts) {b : Nat} {C ref : String} {T : u_T} {NN ci index : Nat} {a : Nat} (k0 : Nat) (hin : ∀ w ∈ u_ws C T NN, w ∈ Ts) (hcl : vwCl[ci]? = some (C, T, NN)) (hk : k0 < NN) (hlink : Cond.fieldLink own index ref (T k0).2.1 (T k0).2.2.1 ∈ Ts) (hsame : ∀ x, s.fieldFound? (T k0).1 (T k0).2.1 (T k0).2.2.1 = some x → s.fieldFound? ref (T k0).2.1 (T k0).2.2.1 = some x) {t0 n0 : Nat} (hA : At L K N a t0 n0) (hK : t0 % 16 = ci) (h5 : ci < 5) (ht : (lay ci)[k0]? = some 2) (hR : R a k0 = some b) (d : decode cc pc = .ok (.getfield index, 3)) (k : XW p l e R0 s m args below meth c D z nL L K N I J R cells slots Q (pc + 3) lv (.ref b :: st)) : XW p l e R0 s m args below meth c D z nL L K N I J R cells slots Q pc lv (.ref a :: st) := by
  intro H locs ls h1 h2 h3 h4
  obtain ⟨q, hq⟩ := wd_get (D := D) (K := K) (N := N) (I := I) (J := J) (R := R) hA.1
  rw [ce_o (hA.m hK) h5] at hq
  exact va_get hc.x hc.b hc.w hin hc.o hc.k h1 q hq hcl k0 hk (hc.w _ hlink) hsame ((fsl_at (lay ci) 0 k0 2 ht).trans (by rw [Nat.zero_add, hR]; rfl)) d (k H locs ls h1 h2 h3 h4)
theorem x_putI (hc : CT p l s m args meth c D z e0 cc nL own Ts) {x : Int32} {C ref : String} {T : u_T} {NN ci index : Nat} {a : Nat} (k0 : Nat) (hin : ∀ w ∈ u_ws C T NN, w ∈ Ts) (hcl : vwCl[ci]? = some (C, T, NN)) (hk : k0 < NN) (hlink : Cond.fieldLink own index ref (T k0).2.1 (T k0).2.2.1 ∈ Ts) (hsame : ∀ x, s.fieldFound? (T k0).1 (T k0).2.1 (T k0).2.2.1 = some x → s.fieldFound? ref (T k0).2.1 (T k0).2.2.1 = some x) (ty0 : Nat → FieldType) (hty : ∀ k, k < NN → parseFieldDescriptor (T k).2.2.1 = some (ty0 k)) (hnm : ∀ a, a < NN → ∀ b, b < NN → a ≠ b → (T a).2.1 ≠ (T b).2.1) {t0 n0 : Nat} (hA : At L K N a t0 n0) (hK : t0 % 16 = ci) (h5 : ci < 5) (ht : (lay ci)[k0]? = some 0) (hfin : (T k0).2.2.2 = false) (hd : parseFieldDescriptor (T k0).2.2.1 = some .int) (d : decode cc pc = .ok (.putfield index, 3)) (k : XW p l e R0 s m args below meth c D z nL L K N (u2 I a k0 x) J R cells slots Q (pc + 3) lv st) : XW p l e R0 s m args below meth c D z nL L K N I J R cells slots Q pc lv (.int x :: .ref a :: st) := by
  intro H locs ls h1 h2 h3 h4
  obtain ⟨q, hq⟩ := wd_get (D := D) (K := K) (N := N) (I := I) (J := J) (R := R) hA.1
  have hq1 := hq
  rw [ce_o (hA.m hK) h5] at hq
  refine va_put hc.x hc.b hc.w hin ty0 hty hnm hc.o hc.k h1 h2 h3 q hq hcl k0 hk (hc.w _ hlink) hsame hfin hd rfl rfl (by rw [fsl_len]; exact (List.getElem?_eq_some_iff.mp ht).1) d (fun H1 locs1 g1 g2 g3 => ?_)
  rw [wd_setI h2 hA.1 hq1 (hA.m hK) h5 ht] at g1 g2
  exact k H1 locs1 ls g1 g2 g3 h4
theorem x_putIF (hc : CT p l s m args meth c D z e0 cc nL own Ts) {x : Int32} {C ref : String} {T : u_T} {NN ci index : Nat} {a : Nat} (k0 : Nat) (hin : ∀ w ∈ u_ws C T NN, w ∈ Ts) (hcl : vwCl[ci]? = some (C, T, NN)) (hk : k0 < NN) (hlink : Cond.fieldLink own index ref (T k0).2.1 (T k0).2.2.1 ∈ Ts) (hsame : ∀ x, s.fieldFound? (T k0).1 (T k0).2.1 (T k0).2.2.1 = some x → s.fieldFound? ref (T k0).2.1 (T k0).2.2.1 = some x) (ty0 : Nat → FieldType) (hty : ∀ k, k < NN → parseFieldDescriptor (T k).2.2.1 = some (ty0 k)) (hnm : ∀ a, a < NN → ∀ b, b < NN → a ≠ b → (T a).2.1 ≠ (T b).2.1) {t0 n0 : Nat} (hA : At L K N a t0 n0) (hK : t0 % 16 = ci) (h5 : ci < 5) (ht : (lay ci)[k0]? = some 0) (hfin : (T k0).2.2.2 = true) (hin2 : meth.name = "<init>") (hdecl : (T k0).1 = own) (hd : parseFieldDescriptor (T k0).2.2.1 = some .int) (d : decode cc pc = .ok (.putfield index, 3)) (k : XW p l e R0 s m args below meth c D z nL L K N (u2 I a k0 x) J R cells slots Q (pc + 3) lv st) : XW p l e R0 s m args below meth c D z nL L K N I J R cells slots Q pc lv (.int x :: .ref a :: st) := by
  intro H locs ls h1 h2 h3 h4
  obtain ⟨q, hq⟩ := wd_get (D := D) (K := K) (N := N) (I := I) (J := J) (R := R) hA.1
  have hq1 := hq
  rw [ce_o (hA.m hK) h5] at hq
  refine va_putF hc.x hc.b hc.w hin ty0 hty hnm hc.o hc.k h1 h2 h3 q hq hcl k0 hk (hc.w _ hlink) hsame hfin hin2 hdecl hd rfl rfl (by rw [fsl_len]; exact (List.getElem?_eq_some_iff.mp ht).1) d (fun H1 locs1 g1 g2 g3 => ?_)
  rw [wd_setI h2 hA.1 hq1 (hA.m hK) h5 ht] at g1 g2
  exact k H1 locs1 ls g1 g2 g3 h4
theorem x_putZ (hc : CT p l s m args meth c D z e0 cc nL own Ts) {x : Int32} {C ref : String} {T : u_T} {NN ci index : Nat} {a : Nat} (k0 : Nat) (hin : ∀ w ∈ u_ws C T NN, w ∈ Ts) (hcl : vwCl[ci]? = some (C, T, NN)) (hk : k0 < NN) (hlink : Cond.fieldLink own index ref (T k0).2.1 (T k0).2.2.1 ∈ Ts) (hsame : ∀ x, s.fieldFound? (T k0).1 (T k0).2.1 (T k0).2.2.1 = some x → s.fieldFound? ref (T k0).2.1 (T k0).2.2.1 = some x) (ty0 : Nat → FieldType) (hty : ∀ k, k < NN → parseFieldDescriptor (T k).2.2.1 = some (ty0 k)) (hnm : ∀ a, a < NN → ∀ b, b < NN → a ≠ b → (T a).2.1 ≠ (T b).2.1) {t0 n0 : Nat} (hA : At L K N a t0 n0) (hK : t0 % 16 = ci) (h5 : ci < 5) (ht : (lay ci)[k0]? = some 0) (hfin : (T k0).2.2.2 = false) (hd : parseFieldDescriptor (T k0).2.2.1 = some .boolean) (hn : narrow .boolean (.int x) = .int x) (hfit : fits .boolean (.int x) = true) (d : decode cc pc = .ok (.putfield index, 3)) (k : XW p l e R0 s m args below meth c D z nL L K N (u2 I a k0 x) J R cells slots Q (pc + 3) lv st) : XW p l e R0 s m args below meth c D z nL L K N I J R cells slots Q pc lv (.int x :: .ref a :: st) := by
  intro H locs ls h1 h2 h3 h4
  obtain ⟨q, hq⟩ := wd_get (D := D) (K := K) (N := N) (I := I) (J := J) (R := R) hA.1
  have hq1 := hq
  rw [ce_o (hA.m hK) h5] at hq
  refine va_put hc.x hc.b hc.w hin ty0 hty hnm hc.o hc.k h1 h2 h3 q hq hcl k0 hk (hc.w _ hlink) hsame hfin hd hn hfit (by rw [fsl_len]; exact (List.getElem?_eq_some_iff.mp ht).1) d (fun H1 locs1 g1 g2 g3 => ?_)
  rw [wd_setI h2 hA.1 hq1 (hA.m hK) h5 ht] at g1 g2
  exact k H1 locs1 ls g1 g2 g3 h4
theorem x_putZF (hc : CT p l s m args meth c D z e0 cc nL own Ts) {x : Int32} {C ref : String} {T : u_T} {NN ci index : Nat} {a : Nat} (k0 : Nat) (hin : ∀ w ∈ u_ws C T NN, w ∈ Ts) (hcl : vwCl[ci]? = some (C, T, NN)) (hk : k0 < NN) (hlink : Cond.fieldLink own index ref (T k0).2.1 (T k0).2.2.1 ∈ Ts) (hsame : ∀ x, s.fieldFound? (T k0).1 (T k0).2.1 (T k0).2.2.1 = some x → s.fieldFound? ref (T k0).2.1 (T k0).2.2.1 = some x) (ty0 : Nat → FieldType) (hty : ∀ k, k < NN → parseFieldDescriptor (T k).2.2.1 = some (ty0 k)) (hnm : ∀ a, a < NN → ∀ b, b < NN → a ≠ b → (T a).2.1 ≠ (T b).2.1) {t0 n0 : Nat} (hA : At L K N a t0 n0) (hK : t0 % 16 = ci) (h5 : ci < 5) (ht : (lay ci)[k0]? = some 0) (hfin : (T k0).2.2.2 = true) (hin2 : meth.name = "<init>") (hdecl : (T k0).1 = own) (hd : parseFieldDescriptor (T k0).2.2.1 = some .boolean) (hn : narrow .boolean (.int x) = .int x) (hfit : fits .boolean (.int x) = true) (d : decode cc pc = .ok (.putfield index, 3)) (k : XW p l e R0 s m args below meth c D z nL L K N (u2 I a k0 x) J R cells slots Q (pc + 3) lv st) : XW p l e R0 s m args below meth c D z nL L K N I J R cells slots Q pc lv (.int x :: .ref a :: st) := by
  intro H locs ls h1 h2 h3 h4
  obtain ⟨q, hq⟩ := wd_get (D := D) (K := K) (N := N) (I := I) (J := J) (R := R) hA.1
  have hq1 := hq
  rw [ce_o (hA.m hK) h5] at hq
  refine va_putF hc.x hc.b hc.w hin ty0 hty hnm hc.o hc.k h1 h2 h3 q hq hcl k0 hk (hc.w _ hlink) hsame hfin hin2 hdecl hd hn hfit (by rw [fsl_len]; exact (List.getElem?_eq_some_iff.mp ht).1) d (fun H1 locs1 g1 g2 g3 => ?_)
  rw [wd_setI h2 hA.1 hq1 (hA.m hK) h5 ht] at g1 g2
  exact k H1 locs1 ls g1 g2 g3 h4
theorem x_putJ (hc : CT p l s m args meth c D z e0 cc nL own Ts) {x : Int64} {C ref : String} {T : u_T} {NN ci index : Nat} {a : Nat} (k0 : Nat) (hin : ∀ w ∈ u_ws C T NN, w ∈ Ts) (hcl : vwCl[ci]? = some (C, T, NN)) (hk : k0 < NN) (hlink : Cond.fieldLink own index ref (T k0).2.1 (T k0).2.2.1 ∈ Ts) (hsame : ∀ x, s.fieldFound? (T k0).1 (T k0).2.1 (T k0).2.2.1 = some x → s.fieldFound? ref (T k0).2.1 (T k0).2.2.1 = some x) (ty0 : Nat → FieldType) (hty : ∀ k, k < NN → parseFieldDescriptor (T k).2.2.1 = some (ty0 k)) (hnm : ∀ a, a < NN → ∀ b, b < NN → a ≠ b → (T a).2.1 ≠ (T b).2.1) {t0 n0 : Nat} (hA : At L K N a t0 n0) (hK : t0 % 16 = ci) (h5 : ci < 5) (ht : (lay ci)[k0]? = some 1) (hfin : (T k0).2.2.2 = false) (hd : parseFieldDescriptor (T k0).2.2.1 = some .long) (d : decode cc pc = .ok (.putfield index, 3)) (k : XW p l e R0 s m args below meth c D z nL L K N I (u2 J a k0 x) R cells slots Q (pc + 3) lv st) : XW p l e R0 s m args below meth c D z nL L K N I J R cells slots Q pc lv (.long x :: .ref a :: st) := by
  intro H locs ls h1 h2 h3 h4
  obtain ⟨q, hq⟩ := wd_get (D := D) (K := K) (N := N) (I := I) (J := J) (R := R) hA.1
  have hq1 := hq
  rw [ce_o (hA.m hK) h5] at hq
  refine va_put hc.x hc.b hc.w hin ty0 hty hnm hc.o hc.k h1 h2 h3 q hq hcl k0 hk (hc.w _ hlink) hsame hfin hd rfl rfl (by rw [fsl_len]; exact (List.getElem?_eq_some_iff.mp ht).1) d (fun H1 locs1 g1 g2 g3 => ?_)
  rw [wd_setJ h2 hA.1 hq1 (hA.m hK) h5 ht] at g1 g2
  exact k H1 locs1 ls g1 g2 g3 h4
theorem x_putJF (hc : CT p l s m args meth c D z e0 cc nL own Ts) {x : Int64} {C ref : String} {T : u_T} {NN ci index : Nat} {a : Nat} (k0 : Nat) (hin : ∀ w ∈ u_ws C T NN, w ∈ Ts) (hcl : vwCl[ci]? = some (C, T, NN)) (hk : k0 < NN) (hlink : Cond.fieldLink own index ref (T k0).2.1 (T k0).2.2.1 ∈ Ts) (hsame : ∀ x, s.fieldFound? (T k0).1 (T k0).2.1 (T k0).2.2.1 = some x → s.fieldFound? ref (T k0).2.1 (T k0).2.2.1 = some x) (ty0 : Nat → FieldType) (hty : ∀ k, k < NN → parseFieldDescriptor (T k).2.2.1 = some (ty0 k)) (hnm : ∀ a, a < NN → ∀ b, b < NN → a ≠ b → (T a).2.1 ≠ (T b).2.1) {t0 n0 : Nat} (hA : At L K N a t0 n0) (hK : t0 % 16 = ci) (h5 : ci < 5) (ht : (lay ci)[k0]? = some 1) (hfin : (T k0).2.2.2 = true) (hin2 : meth.name = "<init>") (hdecl : (T k0).1 = own) (hd : parseFieldDescriptor (T k0).2.2.1 = some .long) (d : decode cc pc = .ok (.putfield index, 3)) (k : XW p l e R0 s m args below meth c D z nL L K N I (u2 J a k0 x) R cells slots Q (pc + 3) lv st) : XW p l e R0 s m args below meth c D z nL L K N I J R cells slots Q pc lv (.long x :: .ref a :: st) := by
  intro H locs ls h1 h2 h3 h4
  obtain ⟨q, hq⟩ := wd_get (D := D) (K := K) (N := N) (I := I) (J := J) (R := R) hA.1
  have hq1 := hq
  rw [ce_o (hA.m hK) h5] at hq
  refine va_putF hc.x hc.b hc.w hin ty0 hty hnm hc.o hc.k h1 h2 h3 q hq hcl k0 hk (hc.w _ hlink) hsame hfin hin2 hdecl hd rfl rfl (by rw [fsl_len]; exact (List.getElem?_eq_some_iff.mp ht).1) d (fun H1 locs1 g1 g2 g3 => ?_)
  rw [wd_setJ h2 hA.1 hq1 (hA.m hK) h5 ht] at g1 g2
  exact k H1 locs1 ls g1 g2 g3 h4
theorem x_putR (hc : CT p l s m args meth c D z e0 cc nL own Ts) {b : Nat} {ty : FieldType} {C ref : String} {T : u_T} {NN ci index : Nat} {a : Nat} (k0 : Nat) (hin : ∀ w ∈ u_ws C T NN, w ∈ Ts) (hcl : vwCl[ci]? = some (C, T, NN)) (hk : k0 < NN) (hlink : Cond.fieldLink own index ref (T k0).2.1 (T k0).2.2.1 ∈ Ts) (hsame : ∀ x, s.fieldFound? (T k0).1 (T k0).2.1 (T k0).2.2.1 = some x → s.fieldFound? ref (T k0).2.1 (T k0).2.2.1 = some x) (ty0 : Nat → FieldType) (hty : ∀ k, k < NN → parseFieldDescriptor (T k).2.2.1 = some (ty0 k)) (hnm : ∀ a, a < NN → ∀ b, b < NN → a ≠ b → (T a).2.1 ≠ (T b).2.1) {t0 n0 : Nat} (hA : At L K N a t0 n0) (hK : t0 % 16 = ci) (h5 : ci < 5) (ht : (lay ci)[k0]? = some 2) (hfin : (T k0).2.2.2 = false) (hd : parseFieldDescriptor (T k0).2.2.1 = some ty) (hn : narrow ty (.ref b) = .ref b) (hfit : fits ty (.ref b) = true) (d : decode cc pc = .ok (.putfield index, 3)) (k : XW p l e R0 s m args below meth c D z nL L K N I J (u2 R a k0 (some b)) cells slots Q (pc + 3) lv st) : XW p l e R0 s m args below meth c D z nL L K N I J R cells slots Q pc lv (.ref b :: .ref a :: st) := by
  intro H locs ls h1 h2 h3 h4
  obtain ⟨q, hq⟩ := wd_get (D := D) (K := K) (N := N) (I := I) (J := J) (R := R) hA.1
  have hq1 := hq
  rw [ce_o (hA.m hK) h5] at hq
  refine va_put hc.x hc.b hc.w hin ty0 hty hnm hc.o hc.k h1 h2 h3 q hq hcl k0 hk (hc.w _ hlink) hsame hfin hd hn hfit (by rw [fsl_len]; exact (List.getElem?_eq_some_iff.mp ht).1) d (fun H1 locs1 g1 g2 g3 => ?_)
  rw [wd_setR h2 hA.1 hq1 (hA.m hK) h5 ht] at g1 g2
  exact k H1 locs1 ls g1 g2 g3 h4
theorem x_putRF (hc : CT p l s m args meth c D z e0 cc nL own Ts) {b : Nat} {ty : FieldType} {C ref : String} {T : u_T} {NN ci index : Nat} {a : Nat} (k0 : Nat) (hin : ∀ w ∈ u_ws C T NN, w ∈ Ts) (hcl : vwCl[ci]? = some (C, T, NN)) (hk : k0 < NN) (hlink : Cond.fieldLink own index ref (T k0).2.1 (T k0).2.2.1 ∈ Ts) (hsame : ∀ x, s.fieldFound? (T k0).1 (T k0).2.1 (T k0).2.2.1 = some x → s.fieldFound? ref (T k0).2.1 (T k0).2.2.1 = some x) (ty0 : Nat → FieldType) (hty : ∀ k, k < NN → parseFieldDescriptor (T k).2.2.1 = some (ty0 k)) (hnm : ∀ a, a < NN → ∀ b, b < NN → a ≠ b → (T a).2.1 ≠ (T b).2.1) {t0 n0 : Nat} (hA : At L K N a t0 n0) (hK : t0 % 16 = ci) (h5 : ci < 5) (ht : (lay ci)[k0]? = some 2) (hfin : (T k0).2.2.2 = true) (hin2 : meth.name = "<init>") (hdecl : (T k0).1 = own) (hd : parseFieldDescriptor (T k0).2.2.1 = some ty) (hn : narrow ty (.ref b) = .ref b) (hfit : fits ty (.ref b) = true) (d : decode cc pc = .ok (.putfield index, 3)) (k : XW p l e R0 s m args below meth c D z nL L K N I J (u2 R a k0 (some b)) cells slots Q (pc + 3) lv st) : XW p l e R0 s m args below meth c D z nL L K N I J R cells slots Q pc lv (.ref b :: .ref a :: st) := by
  intro H locs ls h1 h2 h3 h4
  obtain ⟨q, hq⟩ := wd_get (D := D) (K := K) (N := N) (I := I) (J := J) (R := R) hA.1
  have hq1 := hq
  rw [ce_o (hA.m hK) h5] at hq
  refine va_putF hc.x hc.b hc.w hin ty0 hty hnm hc.o hc.k h1 h2 h3 q hq hcl k0 hk (hc.w _ hlink) hsame hfin hin2 hdecl hd hn hfit (by rw [fsl_len]; exact (List.getElem?_eq_some_iff.mp ht).1) d (fun H1 locs1 g1 g2 g3 => ?_)
  rw [wd_setR h2 hA.1 hq1 (hA.m hK) h5 ht] at g1 g2
  exact k H1 locs1 ls g1 g2 g3 h4
theorem x_iald (hc : CT p l s m args meth c D z e0 cc nL own Ts) {a t0 n0 n : Nat} {i : Int32} (hA : At L K N a t0 n0) (hlen : n0 < 2147483648) (hi : i = nI n) (hn : n < n0) (hK : t0 % 16 = 5) (d : decode cc pc = .ok (.iaload, 1)) (k : XW p l e R0 s m args below meth c D z nL L K N I J R cells slots Q (pc + 1) lv (.int (I a n) :: st)) : XW p l e R0 s m args below meth c D z nL L K N I J R cells slots Q pc lv (.int i :: .ref a :: st) := by
  intro H locs ls h1 h2 h3 h4
  subst hi
  have hin : vp_in (nI n) (N a) := by rw [hA.2.2]; exact vp_in_nI hn hlen
  have hcl : (nI n).toNatClampNeg = n := nI_clamp (Nat.lt_trans hn hlen)
  obtain ⟨q, hq⟩ := wd_get (D := D) (K := K) (N := N) (I := I) (J := J) (R := R) hA.1
  rw [ce_5 (hA.m hK)] at hq
  exact va_iald hc.x hc.b hc.k h1 q 0 hq rfl hin d (by rw [hcl]; exact k H locs ls h1 h2 h3 h4)
theorem x_lald (hc : CT p l s m args meth c D z e0 cc nL own Ts) {a t0 n0 n : Nat} {i : Int32} (hA : At L K N a t0 n0) (hlen : n0 < 2147483648) (hi : i = nI n) (hn : n < n0) (hK : t0 % 16 = 6) (d : decode cc pc = .ok (.laload, 1)) (k : XW p l e R0 s m args below meth c D z nL L K N I J R cells slots Q (pc + 1) lv (.long (J a n) :: st)) : XW p l e R0 s m args below meth c D z nL L K N I J R cells slots Q pc lv (.int i :: .ref a :: st) := by
  intro H locs ls h1 h2 h3 h4
  subst hi
  have hin : vp_in (nI n) (N a) := by rw [hA.2.2]; exact vp_in_nI hn hlen
  have hcl : (nI n).toNatClampNeg = n := nI_clamp (Nat.lt_trans hn hlen)
  obtain ⟨q, hq⟩ := wd_get (D := D) (K := K) (N := N) (I := I) (J := J) (R := R) hA.1
  rw [ce_6 (hA.m hK)] at hq
  exact va_lald hc.x hc.b hc.k h1 q 1 hq rfl hin d (by rw [hcl]; exact k H locs ls h1 h2 h3 h4)
theorem x_aaldO (hc : CT p l s m args meth c D z e0 cc nL own Ts) {b : Nat} {a t0 n0 n : Nat} {i : Int32} (hA : At L K N a t0 n0) (hlen : n0 < 2147483648) (hi : i = nI n) (hn : n < n0) (hK : t0 % 16 = 7) (hR : R a n = some b) (d : decode cc pc = .ok (.aaload, 1)) (k : XW p l e R0 s m args below meth c D z nL L K N I J R cells slots Q (pc + 1) lv (.ref b :: st)) : XW p l e R0 s m args below meth c D z nL L K N I J R cells slots Q pc lv (.int i :: .ref a :: st) := by
  intro H locs ls h1 h2 h3 h4
  subst hi
  have hin : vp_in (nI n) (N a) := by rw [hA.2.2]; exact vp_in_nI hn hlen
  have hcl : (nI n).toNatClampNeg = n := nI_clamp (Nat.lt_trans hn hlen)
  obtain ⟨q, hq⟩ := wd_get (D := D) (K := K) (N := N) (I := I) (J := J) (R := R) hA.1
  rw [ce_7 (hA.m hK)] at hq
  refine va_aldq hc.x hc.b hc.k h1 q 2 hq rfl hin d ?_
  rw [hcl, hR]
  exact k H locs ls h1 h2 h3 h4
theorem x_aaldA (hc : CT p l s m args meth c D z e0 cc nL own Ts) {b : Nat} {a t0 n0 n : Nat} {i : Int32} (hA : At L K N a t0 n0) (hlen : n0 < 2147483648) (hi : i = nI n) (hn : n < n0) (hK : t0 % 16 = 8) (hR : R a n = some b) (d : decode cc pc = .ok (.aaload, 1)) (k : XW p l e R0 s m args below meth c D z nL L K N I J R cells slots Q (pc + 1) lv (.ref b :: st)) : XW p l e R0 s m args below meth c D z nL L K N I J R cells slots Q pc lv (.int i :: .ref a :: st) := by
  intro H locs ls h1 h2 h3 h4
  subst hi
  have hin : vp_in (nI n) (N a) := by rw [hA.2.2]; exact vp_in_nI hn hlen
  have hcl : (nI n).toNatClampNeg = n := nI_clamp (Nat.lt_trans hn hlen)
  obtain ⟨q, hq⟩ := wd_get (D := D) (K := K) (N := N) (I := I) (J := J) (R := R) hA.1
  rw [ce_8 (hA.m hK)] at hq
  have hlt : n < N a := by rw [hA.2.2]; exact hn
  have hcell : H[a]? = some (arrV (D.1 8) (N a) (fun j => va_rf (R a j))) := (h1 q _ hq).trans (congrArg some (vp_cell_q (D.1 8) (N a) (R a)))
  exact W.aald (v := .ref b) (ty := .array .int) hc.x hc.b hcell ((hc.k.2 3 _ rfl).1 (N a) (fun j => va_rf (R a j))) rfl (fun q => by cases q) (by rw [arrV_size]; exact hin) (by rw [hcl, arrV_read _ _ hlt, hR]; rfl) rfl rfl d (k H locs ls h1 h2 h3 h4)
theorem x_iast (hc : CT p l s m args meth c D z e0 cc nL own Ts) {x : Int32} {a t0 n0 n : Nat} {i : Int32} (hA : At L K N a t0 n0) (hlen : n0 < 2147483648) (hi : i = nI n) (hn : n < n0) (hK : t0 % 16 = 5) (d : decode cc pc = .ok (.iastore, 1)) (k : XW p l e R0 s m args below meth c D z nL L K N (u2 I a n x) J R cells slots Q (pc + 1) lv st) : XW p l e R0 s m args below meth c D z nL L K N I J R cells slots Q pc lv (.int x :: .int i :: .ref a :: st) := by
  intro H locs ls h1 h2 h3 h4
  subst hi
  have hin : vp_in (nI n) (N a) := by rw [hA.2.2]; exact vp_in_nI hn hlen
  have hcl : (nI n).toNatClampNeg = n := nI_clamp (Nat.lt_trans hn hlen)
  obtain ⟨q, hq⟩ := wd_get (D := D) (K := K) (N := N) (I := I) (J := J) (R := R) hA.1
  have hq1 := hq
  rw [ce_5 (hA.m hK)] at hq
  refine va_iast hc.x hc.b hc.k h1 h2 h3 q 0 hq rfl hin d (fun H1 locs1 g1 g2 g3 => ?_)
  rw [hcl] at g1 g2
  have hset : (wd D L K N I J R).set q (a, .inl (D.1 5, N a, .inl (upd (I a) n x))) = wd D L K N (u2 I a n x) J R := by
    refine wd_set h2 hA.1 hq1 ?_ (fun b hb => ce_cong (u2_row hb) rfl rfl)
    rw [ce_5 (hA.m hK)]
    congr 4
    funext j
    by_cases hj : j = n
    · subst hj
      rw [u2_s]
      exact if_pos rfl
    · rw [u2_k hj]
      exact if_neg hj
  rw [hset] at g1 g2
  exact k H1 locs1 ls g1 g2 g3 h4
theorem x_last (hc : CT p l s m args meth c D z e0 cc nL own Ts) {x : Int64} {a t0 n0 n : Nat} {i : Int32} (hA : At L K N a t0 n0) (hlen : n0 < 2147483648) (hi : i = nI n) (hn : n < n0) (hK : t0 % 16 = 6) (d : decode cc pc = .ok (.lastore, 1)) (k : XW p l e R0 s m args below meth c D z nL L K N I (u2 J a n x) R cells slots Q (pc + 1) lv st) : XW p l e R0 s m args below meth c D z nL L K N I J R cells slots Q pc lv (.long x :: .int i :: .ref a :: st) := by
  intro H locs ls h1 h2 h3 h4
  subst hi
  have hin : vp_in (nI n) (N a) := by rw [hA.2.2]; exact vp_in_nI hn hlen
  have hcl : (nI n).toNatClampNeg = n := nI_clamp (Nat.lt_trans hn hlen)
  obtain ⟨q, hq⟩ := wd_get (D := D) (K := K) (N := N) (I := I) (J := J) (R := R) hA.1
  have hq1 := hq
  rw [ce_6 (hA.m hK)] at hq
  refine va_last hc.x hc.b hc.k h1 h2 h3 q 1 hq rfl hin d (fun H1 locs1 g1 g2 g3 => ?_)
  rw [hcl] at g1 g2
  have hset : (wd D L K N I J R).set q (a, .inl (D.1 6, N a, .inr (.inl (vp_updL (J a) n x)))) = wd D L K N I (u2 J a n x) R := by
    refine wd_set h2 hA.1 hq1 ?_ (fun b hb => ce_cong rfl (u2_row hb) rfl)
    rw [ce_6 (hA.m hK)]
    congr 5
    funext j
    by_cases hj : j = n
    · subst hj
      rw [u2_s]
      exact if_pos rfl
    · rw [u2_k hj]
      exact if_neg hj
  rw [hset] at g1 g2
  exact k H1 locs1 ls g1 g2 g3 h4
end XR
end
section
section XC
variable {p : Program} {l : Launch} {e : Env} {R0 : Room} {s : State} {m : MethodId} {args : Array Value} {below : List Frame} {meth : Method} {c : Code} {D : va_G} {z e0 nL : Nat} {own : String} {Ts : List Cond} {cc : ByteArray} {L : List Nat} {K N : Nat → Nat} {I : Nat → Nat → Int32} {J : Nat → Nat → Int64} {R : Nat → Nat → Option Nat} {cells slots : Nat} {Q : State → Prop} {pc : Nat} {lv : List (Nat × Value)} {st stk : List Value}
/-- the bodies -/
theorem mg_of {y : MethodName} {ws ws' : List Cond} {rm : Room} {maxL : Nat} {ret : Option FieldType} {av : List Value} {post : Option Value → (Nat → Nat → Int32) → (Nat → Nat → Int64) → Prop} (hy : plainName y.cls = true) (hw : ws = Cond.code y cc maxL ret :: ws') (hown : y.cls = own) (hlen : (lg_sl av).length ≤ maxL)
    (body : ∀ (p : Program) (e : Env) (s : State) (m : MethodId) (args : Array Value) (below : List Frame) (meth : Method) (c : Code), CT p l s m args meth c D z e0 cc maxL own ws → meth.sig.returnType = ret → XW p l e rm s m args below meth c D z maxL L K N I J R 0 0 (MQ below (QG D z L K N R post) args s rm.cells rm.slots (fun q => z ≤ q)) 0 (lv_args 0 av) []) : MG l y ws rm D z e0 L K N I J R av post := by
  refine Met.ofW (cc := cc) (maxL := maxL) (ret := ret) hy hw ?_
  intro p e s m args below meth c s₁ B hml hv
  obtain ⟨rfl, hev, hz, hP, hD⟩ := hv
  have hts := atoms_spec (ws := ws) B.pre
  have ho : s.vm.findClass own = some m.cls := by rw [← hown]; exact findClass_of_methodNamed B.named
  rw [lg_entry_eq]
  exact body p e s m _ below meth c ⟨⟨B.exec, B.bytes, hml, ho, hts⟩, hev, hz, B.notSynchronized⟩ B.returns s.heap [] _ hP hD va_S.rf (lv_entry av hlen)
theorem mf_of {y : MethodName} {ws ws' : List Cond} {rm : Room} {maxL : Nat} {ret : Option FieldType} {av : List Value} {post : Option Value → List Nat → (Nat → Nat) → (Nat → Nat) → (Nat → Nat → Int32) → (Nat → Nat → Int64) → (Nat → Nat → Option Nat) → Prop} (hy : plainName y.cls = true) (hw : ws = Cond.code y cc maxL ret :: ws') (hown : y.cls = own) (hlen : (lg_sl av).length ≤ maxL)
    (body : ∀ (p : Program) (e : Env) (s : State) (m : MethodId) (args : Array Value) (below : List Frame) (meth : Method) (c : Code), CT p l s m args meth c D z e0 cc maxL own ws → meth.sig.returnType = ret → meth.name = y.name → XW p l e rm s m args below meth c D z maxL L K N I J R 0 0 (MQ below (QF D z post) args s rm.cells rm.slots (fun q => z ≤ q)) 0 (lv_args 0 av) []) : MF l y ws rm D z e0 L K N I J R av post := by
  refine Met.ofW (cc := cc) (maxL := maxL) (ret := ret) hy hw ?_
  intro p e s m args below meth c s₁ B hml hv
  obtain ⟨rfl, hev, hz, hP, hD⟩ := hv
  have hts := atoms_spec (ws := ws) B.pre
  have ho : s.vm.findClass own = some m.cls := by rw [← hown]; exact findClass_of_methodNamed B.named
  rw [lg_entry_eq]
  exact body p e s m _ below meth c ⟨⟨B.exec, B.bytes, hml, ho, hts⟩, hev, hz, B.notSynchronized⟩ B.returns (name_of_methodNamed B.named B.method).1 s.heap [] _ hP hD va_S.rf (lv_entry av hlen)
theorem mx_of {y : MethodName} {ws ws' : List Cond} {rm : Room} {maxL : Nat} {ret : Option FieldType} {av : List Value} {E : String} (hy : plainName y.cls = true) (hw : ws = Cond.code y cc maxL ret :: ws') (hown : y.cls = own) (hlen : (lg_sl av).length ≤ maxL)
    (body : ∀ (p : Program) (e : Env) (s : State) (m : MethodId) (args : Array Value) (below : List Frame) (meth : Method) (c : Code), CT p l s m args meth c D z e0 cc maxL own ws → meth.sig.returnType = ret → (∀ x ∈ c.exceptionTable.toList, False) → XW p l e rm s m args below meth c D z maxL L K N I J R 0 0 (vx_MQ below (fun _ _ _ _ => False) (QX D z L K N I J R E) args s rm.cells rm.slots (fun q => z ≤ q)) 0 (lv_args 0 av) []) : MX l y ws rm D z e0 L K N I J R av E := by
  refine vx_ofW (cc := cc) (maxL := maxL) (ret := ret) hy hw ?_
  intro p e s m args below meth c s₁ B hml htab hv
  obtain ⟨rfl, hev, hz, hP, hD⟩ := hv
  have hts := atoms_spec (ws := ws) B.pre
  have ho : s.vm.findClass own = some m.cls := by rw [← hown]; exact findClass_of_methodNamed B.named
  rw [lg_entry_eq]
  exact body p e s m _ below meth c ⟨⟨B.exec, B.bytes, hml, ho, hts⟩, hev, hz, B.notSynchronized⟩ B.returns htab s.heap [] _ hP hD va_S.rf (lv_entry av hlen)
/-- the ends -/
theorem x_iret (hc : CT p l s m args meth c D z e0 cc nL own Ts) {x : Int32} (hr : meth.sig.returnType = some .int) {post : Option Value → (Nat → Nat → Int32) → (Nat → Nat → Int64) → Prop} {mc ms : Nat} (hcl : cells ≤ mc) (hsl : slots ≤ ms) (d : decode cc pc = .ok (.ireturn, 1)) (hp : post (some (.int x)) I J) : XW p l e R0 s m args below meth c D z nL L K N I J R cells slots (MQ below (QG D z L K N R post) args s mc ms (fun q => z ≤ q)) pc lv [.int x] := by
  intro H locs ls h1 h2 h3 h4
  refine W.widen hcl hsl ?_
  exact W.iret hc.x hc.b hr (fun t ht hW => ⟨⟨_, I, J, rfl, hp, by rw [ht]; exact h1, h2⟩, h3.F ht⟩) h3.2.2 d hc.2.2.2
theorem x_iretF (hc : CT p l s m args meth c D z e0 cc nL own Ts) {x : Int32} (hr : meth.sig.returnType = some .int) {post : Option Value → List Nat → (Nat → Nat) → (Nat → Nat) → (Nat → Nat → Int32) → (Nat → Nat → Int64) → (Nat → Nat → Option Nat) → Prop} {mc ms : Nat} (hcl : cells ≤ mc) (hsl : slots ≤ ms) (d : decode cc pc = .ok (.ireturn, 1)) (hp : post (some (.int x)) L K N I J R) : XW p l e R0 s m args below meth c D z nL L K N I J R cells slots (MQ below (QF D z post) args s mc ms (fun q => z ≤ q)) pc lv [.int x] := by
  intro H locs ls h1 h2 h3 h4
  refine W.widen hcl hsl ?_
  exact W.iret hc.x hc.b hr (fun t ht hW => ⟨⟨_, L, K, N, I, J, R, rfl, hp, by rw [ht]; exact h1, h2⟩, h3.F ht⟩) h3.2.2 d hc.2.2.2
theorem x_zret (hc : CT p l s m args meth c D z e0 cc nL own Ts) {x : Int32} {ty : FieldType} (hr : meth.sig.returnType = some ty) (hn : narrow ty (.int x) = .int x) {post : Option Value → (Nat → Nat → Int32) → (Nat → Nat → Int64) → Prop} {mc ms : Nat} (hcl : cells ≤ mc) (hsl : slots ≤ ms) (d : decode cc pc = .ok (.ireturn, 1)) (hp : post (some (.int x)) I J) : XW p l e R0 s m args below meth c D z nL L K N I J R cells slots (MQ below (QG D z L K N R post) args s mc ms (fun q => z ≤ q)) pc lv [.int x] := by
  intro H locs ls h1 h2 h3 h4
  refine W.widen hcl hsl ?_
  exact W.zret hc.x hc.b hr hn (fun t ht hW => ⟨⟨_, I, J, rfl, hp, by rw [ht]; exact h1, h2⟩, h3.F ht⟩) h3.2.2 d hc.2.2.2
theorem x_zretF (hc : CT p l s m args meth c D z e0 cc nL own Ts) {x : Int32} {ty : FieldType} (hr : meth.sig.returnType = some ty) (hn : narrow ty (.int x) = .int x) {post : Option Value → List Nat → (Nat → Nat) → (Nat → Nat) → (Nat → Nat → Int32) → (Nat → Nat → Int64) → (Nat → Nat → Option Nat) → Prop} {mc ms : Nat} (hcl : cells ≤ mc) (hsl : slots ≤ ms) (d : decode cc pc = .ok (.ireturn, 1)) (hp : post (some (.int x)) L K N I J R) : XW p l e R0 s m args below meth c D z nL L K N I J R cells slots (MQ below (QF D z post) args s mc ms (fun q => z ≤ q)) pc lv [.int x] := by
  intro H locs ls h1 h2 h3 h4
  refine W.widen hcl hsl ?_
  exact W.zret hc.x hc.b hr hn (fun t ht hW => ⟨⟨_, L, K, N, I, J, R, rfl, hp, by rw [ht]; exact h1, h2⟩, h3.F ht⟩) h3.2.2 d hc.2.2.2
theorem x_lret (hc : CT p l s m args meth c D z e0 cc nL own Ts) {x : Int64} (hr : meth.sig.returnType = some .long) {post : Option Value → (Nat → Nat → Int32) → (Nat → Nat → Int64) → Prop} {mc ms : Nat} (hcl : cells ≤ mc) (hsl : slots ≤ ms) (d : decode cc pc = .ok (.lreturn, 1)) (hp : post (some (.long x)) I J) : XW p l e R0 s m args below meth c D z nL L K N I J R cells slots (MQ below (QG D z L K N R post) args s mc ms (fun q => z ≤ q)) pc lv [.long x] := by
  intro H locs ls h1 h2 h3 h4
  refine W.widen hcl hsl ?_
  exact W.lret hc.x hc.b hr (fun t ht hW => ⟨⟨_, I, J, rfl, hp, by rw [ht]; exact h1, h2⟩, h3.F ht⟩) h3.2.2 d hc.2.2.2
theorem x_lretF (hc : CT p l s m args meth c D z e0 cc nL own Ts) {x : Int64} (hr : meth.sig.returnType = some .long) {post : Option Value → List Nat → (Nat → Nat) → (Nat → Nat) → (Nat → Nat → Int32) → (Nat → Nat → Int64) → (Nat → Nat → Option Nat) → Prop} {mc ms : Nat} (hcl : cells ≤ mc) (hsl : slots ≤ ms) (d : decode cc pc = .ok (.lreturn, 1)) (hp : post (some (.long x)) L K N I J R) : XW p l e R0 s m args below meth c D z nL L K N I J R cells slots (MQ below (QF D z post) args s mc ms (fun q => z ≤ q)) pc lv [.long x] := by
  intro H locs ls h1 h2 h3 h4
  refine W.widen hcl hsl ?_
  exact W.lret hc.x hc.b hr (fun t ht hW => ⟨⟨_, L, K, N, I, J, R, rfl, hp, by rw [ht]; exact h1, h2⟩, h3.F ht⟩) h3.2.2 d hc.2.2.2
theorem x_vret (hc : CT p l s m args meth c D z e0 cc nL own Ts)  (hr : meth.sig.returnType = none) {post : Option Value → (Nat → Nat → Int32) → (Nat → Nat → Int64) → Prop} {mc ms : Nat} (hcl : cells ≤ mc) (hsl : slots ≤ ms) (d : decode cc pc = .ok (.return_, 1)) (hp : post (none) I J) : XW p l e R0 s m args below meth c D z nL L K N I J R cells slots (MQ below (QG D z L K N R post) args s mc ms (fun q => z ≤ q)) pc lv [] := by
  intro H locs ls h1 h2 h3 h4
  refine W.widen hcl hsl ?_
  exact W.vret hc.x hc.b hr (fun t ht hW => ⟨⟨_, I, J, rfl, hp, by rw [ht]; exact h1, h2⟩, h3.F ht⟩) h3.2.2 d hc.2.2.2
theorem x_vretF (hc : CT p l s m args meth c D z e0 cc nL own Ts)  (hr : meth.sig.returnType = none) {post : Option Value → List Nat → (Nat → Nat) → (Nat → Nat) → (Nat → Nat → Int32) → (Nat → Nat → Int64) → (Nat → Nat → Option Nat) → Prop} {mc ms : Nat} (hcl : cells ≤ mc) (hsl : slots ≤ ms) (d : decode cc pc = .ok (.return_, 1)) (hp : post (none) L K N I J R) : XW p l e R0 s m args below meth c D z nL L K N I J R cells slots (MQ below (QF D z post) args s mc ms (fun q => z ≤ q)) pc lv [] := by
  intro H locs ls h1 h2 h3 h4
  refine W.widen hcl hsl ?_
  exact W.vret hc.x hc.b hr (fun t ht hW => ⟨⟨_, L, K, N, I, J, R, rfl, hp, by rw [ht]; exact h1, h2⟩, h3.F ht⟩) h3.2.2 d hc.2.2.2
theorem x_aret (hc : CT p l s m args meth c D z e0 cc nL own Ts) {b : Nat} {rt : FieldType} (hr : meth.sig.returnType = some rt) (hrt : (∃ n, rt = .object n) ∨ ∃ t, rt = .array t) {post : Option Value → (Nat → Nat → Int32) → (Nat → Nat → Int64) → Prop} {mc ms : Nat} (hcl : cells ≤ mc) (hsl : slots ≤ ms) (d : decode cc pc = .ok (.areturn, 1)) (hp : post (some (.ref b)) I J) : XW p l e R0 s m args below meth c D z nL L K N I J R cells slots (MQ below (QG D z L K N R post) args s mc ms (fun q => z ≤ q)) pc lv [.ref b] := by
  intro H locs ls h1 h2 h3 h4
  refine W.widen hcl hsl ?_
  exact W.aret hc.x hc.b hr hrt (Or.inr ⟨b, rfl⟩) (fun t ht hW => ⟨⟨_, I, J, rfl, hp, by rw [ht]; exact h1, h2⟩, h3.F ht⟩) h3.2.2 d hc.2.2.2
theorem x_aretF (hc : CT p l s m args meth c D z e0 cc nL own Ts) {b : Nat} {rt : FieldType} (hr : meth.sig.returnType = some rt) (hrt : (∃ n, rt = .object n) ∨ ∃ t, rt = .array t) {post : Option Value → List Nat → (Nat → Nat) → (Nat → Nat) → (Nat → Nat → Int32) → (Nat → Nat → Int64) → (Nat → Nat → Option Nat) → Prop} {mc ms : Nat} (hcl : cells ≤ mc) (hsl : slots ≤ ms) (d : decode cc pc = .ok (.areturn, 1)) (hp : post (some (.ref b)) L K N I J R) : XW p l e R0 s m args below meth c D z nL L K N I J R cells slots (MQ below (QF D z post) args s mc ms (fun q => z ≤ q)) pc lv [.ref b] := by
  intro H locs ls h1 h2 h3 h4
  refine W.widen hcl hsl ?_
  exact W.aret hc.x hc.b hr hrt (Or.inr ⟨b, rfl⟩) (fun t ht hW => ⟨⟨_, L, K, N, I, J, R, rfl, hp, by rw [ht]; exact h1, h2⟩, h3.F ht⟩) h3.2.2 d hc.2.2.2
theorem x_widen {k n : Nat} (h1 : cells ≤ k) (h2 : slots ≤ n) (kk : XW p l e R0 s m args below meth c D z nL L K N I J R k n Q pc lv st) : XW p l e R0 s m args below meth c D z nL L K N I J R cells slots Q pc lv st := fun H locs ls g1 g2 g3 g4 => W.widen h1 h2 (kk H locs ls g1 g2 g3 g4)
theorem x_eq {lv' : List (Nat × Value)} {st' : List Value} {pc' : Nat} (h1 : pc = pc') (h2 : lv = lv') (h3 : st = st') (k : XW p l e R0 s m args below meth c D z nL L K N I J R cells slots Q pc' lv' st') : XW p l e R0 s m args below meth c D z nL L K N I J R cells slots Q pc lv st := by
  subst h1; subst h2; subst h3; exact k
theorem x_sub {lv' : List (Nat × Value)} (ks : List Nat) (hl : lv_pick lv ks = lv') (k : XW p l e R0 s m args below meth c D z nL L K N I J R cells slots Q pc lv' st) : XW p l e R0 s m args below meth c D z nL L K N I J R cells slots Q pc lv st := fun H locs ls h1 h2 h3 h4 => k H locs ls h1 h2 h3 (lv_sub h4 ks hl)
/-- what a call's end gives -/
theorem x_use {post : Option Value → (Nat → Nat → Int32) → (Nat → Nat → Int64) → Prop} {a : Array Value} {mc ms : Nat} {H : Heap} {locs : List Loc} {ls : Array Slot} (hr : va_Run p l e R0 s m args below meth c H locs cells slots mc ms (F0 m pc ls stk) st (QG D z L K N R post a) (fun q => z ≤ q)) (h3 : va_S (fun q => z ≤ q) s.heap H locs) (h4 : lv_has ls nL lv)
    (k : ∀ (v : Option Value) (I' : Nat → Nat → Int32) (J' : Nat → Nat → Int64), post v I' J' → XW p l e R0 s m args below meth c D z nL L K N I' J' R (cells + mc) (slots + ms) Q (pc + 3) lv (v.toList ++ st)) : W p l e R0 s m args below meth c H locs cells slots Q (F0 m pc ls stk) := by
  intro T hT X
  obtain ⟨v, st₀, t, T', L', h0, X', hL, e1, e2, ⟨⟨v', I', J', hv, hp, hP, hD⟩, hF⟩, stp⟩ := hr T hT X
  cases hv
  have hS' : va_S (fun q => z ≤ q) s.heap T'.heap (locs ++ L') := (vx_keep h0 e1 h3 (fun _ _ q => q) (fun _ q => q) hL hF).2.2
  obtain ⟨t2, a1, b1⟩ := k v I' J' hp T'.heap (locs ++ L') ls (by rw [e1]; exact hP) hD hS' h4 T' rfl X'
  exact ⟨t2, stp t2 a1, b1⟩
theorem x_useF {post : Option Value → List Nat → (Nat → Nat) → (Nat → Nat) → (Nat → Nat → Int32) → (Nat → Nat → Int64) → (Nat → Nat → Option Nat) → Prop} {a : Array Value} {mc ms : Nat} {H : Heap} {locs : List Loc} {ls : Array Slot} (hr : va_Run p l e R0 s m args below meth c H locs cells slots mc ms (F0 m pc ls stk) st (QF D z post a) (fun q => z ≤ q)) (h3 : va_S (fun q => z ≤ q) s.heap H locs) (h4 : lv_has ls nL lv)
    (k : ∀ (v : Option Value) (L' : List Nat) (K' N' : Nat → Nat) (I' : Nat → Nat → Int32) (J' : Nat → Nat → Int64) (R' : Nat → Nat → Option Nat), post v L' K' N' I' J' R' → XW p l e R0 s m args below meth c D z nL L' K' N' I' J' R' (cells + mc) (slots + ms) Q (pc + 3) lv (v.toList ++ st)) : W p l e R0 s m args below meth c H locs cells slots Q (F0 m pc ls stk) := by
  intro T hT X
  obtain ⟨v, st₀, t, T', L0, h0, X', hL, e1, e2, ⟨⟨v', L', K', N', I', J', R', hv, hp, hP, hD⟩, hF⟩, stp⟩ := hr T hT X
  cases hv
  have hS' : va_S (fun q => z ≤ q) s.heap T'.heap (locs ++ L0) := (vx_keep h0 e1 h3 (fun _ _ q => q) (fun _ q => q) hL hF).2.2
  obtain ⟨t2, a1, b1⟩ := k v L' K' N' I' J' R' hp T'.heap (locs ++ L0) ls (by rw [e1]; exact hP) hD hS' h4 T' rfl X'
  exact ⟨t2, stp t2 a1, b1⟩
/-- a throw over the frame -/
def XX (p : Program) (l : Launch) (e : Env) (R0 : Room) (s : State) (m : MethodId) (args : Array Value) (below : List Frame) (meth : Method) (c : Code) (D : va_G) (z nL : Nat) (L : List Nat) (K N : Nat → Nat) (I : Nat → Nat → Int32) (J : Nat → Nat → Int64) (R : Nat → Nat → Option Nat) (cells slots : Nat) (Q : State → Prop) (E : String) (pc : Nat) (lv : List (Nat × Value)) (st : List Value) : Prop :=
  ∀ (H : Heap) (locs : List Loc) (ls : Array Slot) (ce : Cell) (q : Addr), va_P D vwCl (wd D L K N I J R) H → va_D (fun q => z ≤ q) (wd D L K N I J R) → va_S (fun q => z ≤ q) s.heap H locs → lv_has ls nL lv → H[q]? = some ce → ce.vm = .none → s.vm.findClass E = some ce.cls → vx_W p l e R0 s m args below meth c H locs cells slots Q (F0 m pc ls st) q
theorem x_useX {E : String} {a : Array Value} {mc ms : Nat} {H : Heap} {locs : List Loc} {ls : Array Slot} (hr : vx_Run p l e R0 s m args below meth c H locs cells slots mc ms (F0 m pc ls stk) st (fun _ _ _ => False) (QX D z L K N I J R E) (fun q => z ≤ q)) (h2 : va_D (fun q => z ≤ q) (wd D L K N I J R)) (h3 : va_S (fun q => z ≤ q) s.heap H locs) (h4 : lv_has ls nL lv)
    (k : XX p l e R0 s m args below meth c D z nL L K N I J R (cells + mc) (slots + ms) Q E pc lv st) : W p l e R0 s m args below meth c H locs cells slots Q (F0 m pc ls stk) := by
  intro T hT X
  rcases hr T hT X with ⟨v, st₀, t, T', L', h0, X', hL, e1, e2, hF, stp⟩ | ⟨q, st₀, t, T', L', E', ce, h0, X', hL, e1, e2, ⟨rfl, hP, hF⟩, hce, hcv, hcl, stp⟩
  · exact hF.elim
  · have hS' : va_S (fun q => z ≤ q) s.heap T'.heap (locs ++ L') := (vx_keep h0 e1 h3 (fun _ _ q => q) (fun _ q => q) hL hF).2.2
    obtain ⟨t2, a1, b1⟩ := k T'.heap (locs ++ L') ls ce q (by rw [e1]; exact hP) h2 hS' h4 (by rw [e1]; exact hce) hcv hcl T' rfl X'
    exact ⟨t2, stp.trans a1, b1⟩
theorem x_pre (hc : CT p l s m args meth c D z e0 cc nL own Ts) {H : Heap} {locs : List Loc} {av : List Value} (h1 : va_P D vwCl (wd D L K N I J R) H) (h2 : va_D (fun q => z ≤ q) (wd D L K N I J R)) (h3 : va_S (fun q => z ≤ q) s.heap H locs) : ∀ U : State, U.heap = H → s.WarmedH U.vm → PC D z e0 L K N I J R av av.toArray U := by
  intro U hU hW
  refine ⟨rfl, hc.ev.go hW (fun a g1 g2 => by rw [hU]; exact h3.2.1 a g1 g2), ?_, by rw [hU]; exact h1, h2⟩
  rw [hU]
  exact Nat.le_trans hc.2.2.1 h3.1
/-- the calls -/
theorem x_callV (hc : CT p l s m args meth c D z e0 cc nL own Ts) {C : String} {index n maxL : Nat} {y : MethodName} {ws ws' : List Cond} {bytes : ByteArray} {ret : Option FieldType} {rm : Room} {As : List Value} {post : Option Value → (Nat → Nat → Int32) → (Nat → Nat → Int64) → Prop} {b ci t0 n0 : Nat} {T : u_T} {NN : Nat} (hA : At L K N b t0 n0) (hK : t0 % 16 = ci) (h5 : ci < 5) (hcl : vwCl[ci]? = some (C, T, NN)) (hM : MG l y ws rm D z e0 L K N I J R (.ref b :: As) post) (hT : GoodIn Ts (wsV own index C y ws)) (hw : ws = Cond.code y bytes maxL ret :: ws') (hd : y.cls = C ∧ y.cls ≠ "java/lang/invoke/MethodHandle" ∧ y.cls ≠ "java/lang/invoke/VarHandle" ∧ (parseMethodDescriptor y.desc).map (fun d => d.parameters.length) = some n) (hR : rm.frames + 1 ≤ R0.frames ∧ 8 + (maxL + 11) + rm.locals ≤ R0.locals) (hn : As.length = n) (hst : stk = As.reverse ++ .ref b :: st) (hcs : cells + rm.cells ≤ R0.cells ∧ slots + rm.slots ≤ R0.slots) (hroom : (st.map fun v => v.category).sum ≤ 8) (d : decode cc pc = .ok (.invokevirtual index, 3)) (k : ∀ (v : Option Value) (I' : Nat → Nat → Int32) (J' : Nat → Nat → Int64), post v I' J' → XW p l e R0 s m args below meth c D z nL L K N I' J' R (cells + rm.cells) (slots + rm.slots) Q (pc + 3) lv (v.toList ++ st)) : XW p l e R0 s m args below meth c D z nL L K N I J R cells slots Q pc lv stk := by
  intro H locs ls h1 h2 h3 h4
  obtain ⟨q, hq⟩ := wd_get (D := D) (K := K) (N := N) (I := I) (J := J) (R := R) hA.1
  rw [ce_o (hA.m hK) h5] at hq
  have hrun := va_runV (g := F0 m pc ls stk) (rest := st) hc.1 hM (cwV n hc.w hT hw rfl rfl hd hR) ⟨PC.blind, va_recv hc.k h1 hcl hq, x_pre hc (av := .ref b :: As) h1 h2 h3⟩ rfl hn h4.1 hst (lv_room hroom) d hcs
  exact x_use hrun h3 h4 k
theorem x_callS (hc : CT p l s m args meth c D z e0 cc nL own Ts) {index n maxL : Nat} {y : MethodName} {ws ws' : List Cond} {bytes : ByteArray} {ret : Option FieldType} {rm : Room} {As : List Value} {post : Option Value → (Nat → Nat → Int32) → (Nat → Nat → Int64) → Prop} (hM : MG l y ws rm D z e0 L K N I J R As post) (hT : GoodIn Ts (va_wsS own index y ws)) (hw : ws = Cond.code y bytes maxL ret :: ws') (hd : y.cls ≠ "java/lang/invoke/MethodHandle" ∧ y.cls ≠ "java/lang/invoke/VarHandle" ∧ (parseMethodDescriptor y.desc).map (fun d => d.parameters.length) = some n) (hR : rm.frames + 1 ≤ R0.frames ∧ 8 + (maxL + 11) + rm.locals ≤ R0.locals) (hn : As.length = n) (hst : stk = As.reverse ++ st) (hcs : cells + rm.cells ≤ R0.cells ∧ slots + rm.slots ≤ R0.slots) (hroom : (st.map fun v => v.category).sum ≤ 8) (d : decode cc pc = .ok (.invokestatic index, 3)) (k : ∀ (v : Option Value) (I' : Nat → Nat → Int32) (J' : Nat → Nat → Int64), post v I' J' → XW p l e R0 s m args below meth c D z nL L K N I' J' R (cells + rm.cells) (slots + rm.slots) Q (pc + 3) lv (v.toList ++ st)) : XW p l e R0 s m args below meth c D z nL L K N I J R cells slots Q pc lv stk := by
  intro H locs ls h1 h2 h3 h4
  have hrun := va_runS (g := F0 m pc ls stk) (rest := st) hc.1 hM (va_cwS n hc.w hT hw rfl rfl hd hR) ⟨PC.blind, x_pre hc (av := As) h1 h2 h3⟩ rfl hn h4.1 hst (lv_room hroom) d hcs
  exact x_use hrun h3 h4 k
theorem x_callSN (hc : CT p l s m args meth c D z e0 cc nL own Ts) {host : String} {index n maxL : Nat} {y : MethodName} {ws ws' : List Cond} {bytes : ByteArray} {ret : Option FieldType} {rm : Room} {As : List Value} {post : Option Value → (Nat → Nat → Int32) → (Nat → Nat → Int64) → Prop} (hM : MG l y ws rm D z e0 L K N I J R As post) (hT : GoodIn Ts ws) (hw : ws = Cond.code y bytes maxL ret :: ws') (hd : y.cls ≠ "java/lang/invoke/MethodHandle" ∧ y.cls ≠ "java/lang/invoke/VarHandle" ∧ (parseMethodDescriptor y.desc).map (fun d => d.parameters.length) = some n) (hR : rm.frames + 1 ≤ R0.frames ∧ 8 + (maxL + 11) + rm.locals ≤ R0.locals) (hl : va_Nw (.methodLinkNest own index y host) s) (hini : Cond.initialized y.cls ∈ Ts) (hstc : Cond.static y ∈ Ts) (hn : As.length = n) (hst : stk = As.reverse ++ st) (hcs : cells + rm.cells ≤ R0.cells ∧ slots + rm.slots ≤ R0.slots) (hroom : (st.map fun v => v.category).sum ≤ 8) (d : decode cc pc = .ok (.invokestatic index, 3)) (k : ∀ (v : Option Value) (I' : Nat → Nat → Int32) (J' : Nat → Nat → Int64), post v I' J' → XW p l e R0 s m args below meth c D z nL L K N I' J' R (cells + rm.cells) (slots + rm.slots) Q (pc + 3) lv (v.toList ++ st)) : XW p l e R0 s m args below meth c D z nL L K N I J R cells slots Q pc lv stk := by
  intro H locs ls h1 h2 h3 h4
  have hrun := va_runSN (g := F0 m pc ls stk) (rest := st) hc.1 hM ⟨va_cnB n hc.w hT hw rfl rfl hl (hc.w _ hini) hd hR, hc.w _ hstc, trivial⟩ ⟨PC.blind, x_pre hc (av := As) h1 h2 h3⟩ rfl hn h4.1 hst (lv_room hroom) d hcs
  exact x_use hrun h3 h4 k
theorem x_callI (hc : CT p l s m args meth c D z e0 cc nL own Ts) {b : Nat} {index n maxL : Nat} {y : MethodName} {ws ws' : List Cond} {bytes : ByteArray} {rm : Room} {As : List Value} {post : Option Value → (Nat → Nat → Int32) → (Nat → Nat → Int64) → Prop} (hM : MG l y ws rm D z e0 L K N I J R (.ref b :: As) post) (hT : GoodIn Ts ws) (hw : ws = Cond.code y bytes maxL none :: ws') (hd : y.cls ≠ "java/lang/invoke/MethodHandle" ∧ y.cls ≠ "java/lang/invoke/VarHandle" ∧ (parseMethodDescriptor y.desc).map (fun d => d.parameters.length) = some n) (hR : rm.frames + 1 ≤ R0.frames ∧ 8 + (maxL + 11) + rm.locals ≤ R0.locals) (hy1 : y.name = "<init>") (hini : Cond.initialized y.cls ∈ Ts) (hl : Cond.methodLink own index y ∈ Ts) (hin : Cond.instanceMethod y ∈ Ts) (hn : As.length = n) (hst : stk = As.reverse ++ .ref b :: st) (hcs : cells + rm.cells ≤ R0.cells ∧ slots + rm.slots ≤ R0.slots) (hroom : (st.map fun v => v.category).sum ≤ 8) (d : decode cc pc = .ok (.invokespecial index, 3)) (k : ∀ (v : Option Value) (I' : Nat → Nat → Int32) (J' : Nat → Nat → Int64), post v I' J' → XW p l e R0 s m args below meth c D z nL L K N I' J' R (cells + rm.cells) (slots + rm.slots) Q (pc + 3) lv (v.toList ++ st)) : XW p l e R0 s m args below meth c D z nL L K N I J R cells slots Q pc lv stk := by
  intro H locs ls h1 h2 h3 h4
  have hrun := va_runI (g := F0 m pc ls stk) (rest := st) hc.1 hM (cwI n hc.w hT hw rfl rfl (hc.w _ hini) (hc.w _ hl) (hc.w _ hin) hy1 hd hR) ⟨PC.blind, x_pre hc (av := .ref b :: As) h1 h2 h3⟩ rfl hn h4.1 hst (lv_room hroom) d hcs
  exact x_use hrun h3 h4 k
theorem x_callIN (hc : CT p l s m args meth c D z e0 cc nL own Ts) {host : String} {b : Nat} {index n maxL : Nat} {y : MethodName} {ws ws' : List Cond} {bytes : ByteArray} {rm : Room} {As : List Value} {post : Option Value → (Nat → Nat → Int32) → (Nat → Nat → Int64) → Prop} (hM : MG l y ws rm D z e0 L K N I J R (.ref b :: As) post) (hT : GoodIn Ts ws) (hw : ws = Cond.code y bytes maxL none :: ws') (hd : y.cls ≠ "java/lang/invoke/MethodHandle" ∧ y.cls ≠ "java/lang/invoke/VarHandle" ∧ (parseMethodDescriptor y.desc).map (fun d => d.parameters.length) = some n) (hR : rm.frames + 1 ≤ R0.frames ∧ 8 + (maxL + 11) + rm.locals ≤ R0.locals) (hy1 : y.name = "<init>") (hl : va_Nw (.methodLinkNest own index y host) s) (hini : Cond.initialized y.cls ∈ Ts) (hin : Cond.instanceMethod y ∈ Ts) (hn : As.length = n) (hst : stk = As.reverse ++ .ref b :: st) (hcs : cells + rm.cells ≤ R0.cells ∧ slots + rm.slots ≤ R0.slots) (hroom : (st.map fun v => v.category).sum ≤ 8) (d : decode cc pc = .ok (.invokespecial index, 3)) (k : ∀ (v : Option Value) (I' : Nat → Nat → Int32) (J' : Nat → Nat → Int64), post v I' J' → XW p l e R0 s m args below meth c D z nL L K N I' J' R (cells + rm.cells) (slots + rm.slots) Q (pc + 3) lv (v.toList ++ st)) : XW p l e R0 s m args below meth c D z nL L K N I J R cells slots Q pc lv stk := by
  intro H locs ls h1 h2 h3 h4
  have hrun := va_runIN (g := F0 m pc ls stk) (rest := st) hc.1 hM ⟨va_cnB n hc.w hT hw rfl rfl hl (hc.w _ hini) hd hR, hy1, hc.w _ hin⟩ ⟨PC.blind, x_pre hc (av := .ref b :: As) h1 h2 h3⟩ rfl hn h4.1 hst (lv_room hroom) d hcs
  exact x_use hrun h3 h4 k
theorem x_callVF (hc : CT p l s m args meth c D z e0 cc nL own Ts) {C : String} {index n maxL : Nat} {y : MethodName} {ws ws' : List Cond} {bytes : ByteArray} {ret : Option FieldType} {rm : Room} {As : List Value} {post : Option Value → List Nat → (Nat → Nat) → (Nat → Nat) → (Nat → Nat → Int32) → (Nat → Nat → Int64) → (Nat → Nat → Option Nat) → Prop} {b ci t0 n0 : Nat} {T : u_T} {NN : Nat} (hA : At L K N b t0 n0) (hK : t0 % 16 = ci) (h5 : ci < 5) (hcl : vwCl[ci]? = some (C, T, NN)) (hM : MF l y ws rm D z e0 L K N I J R (.ref b :: As) post) (hT : GoodIn Ts (wsV own index C y ws)) (hw : ws = Cond.code y bytes maxL ret :: ws') (hd : y.cls = C ∧ y.cls ≠ "java/lang/invoke/MethodHandle" ∧ y.cls ≠ "java/lang/invoke/VarHandle" ∧ (parseMethodDescriptor y.desc).map (fun d => d.parameters.length) = some n) (hR : rm.frames + 1 ≤ R0.frames ∧ 8 + (maxL + 11) + rm.locals ≤ R0.locals) (hn : As.length = n) (hst : stk = As.reverse ++ .ref b :: st) (hcs : cells + rm.cells ≤ R0.cells ∧ slots + rm.slots ≤ R0.slots) (hroom : (st.map fun v => v.category).sum ≤ 8) (d : decode cc pc = .ok (.invokevirtual index, 3)) (k : ∀ (v : Option Value) (L' : List Nat) (K' N' : Nat → Nat) (I' : Nat → Nat → Int32) (J' : Nat → Nat → Int64) (R' : Nat → Nat → Option Nat), post v L' K' N' I' J' R' → XW p l e R0 s m args below meth c D z nL L' K' N' I' J' R' (cells + rm.cells) (slots + rm.slots) Q (pc + 3) lv (v.toList ++ st)) : XW p l e R0 s m args below meth c D z nL L K N I J R cells slots Q pc lv stk := by
  intro H locs ls h1 h2 h3 h4
  obtain ⟨q, hq⟩ := wd_get (D := D) (K := K) (N := N) (I := I) (J := J) (R := R) hA.1
  rw [ce_o (hA.m hK) h5] at hq
  have hrun := va_runV (g := F0 m pc ls stk) (rest := st) hc.1 hM (cwV n hc.w hT hw rfl rfl hd hR) ⟨PC.blind, va_recv hc.k h1 hcl hq, x_pre hc (av := .ref b :: As) h1 h2 h3⟩ rfl hn h4.1 hst (lv_room hroom) d hcs
  exact x_useF hrun h3 h4 k
theorem x_callSF (hc : CT p l s m args meth c D z e0 cc nL own Ts) {index n maxL : Nat} {y : MethodName} {ws ws' : List Cond} {bytes : ByteArray} {ret : Option FieldType} {rm : Room} {As : List Value} {post : Option Value → List Nat → (Nat → Nat) → (Nat → Nat) → (Nat → Nat → Int32) → (Nat → Nat → Int64) → (Nat → Nat → Option Nat) → Prop} (hM : MF l y ws rm D z e0 L K N I J R As post) (hT : GoodIn Ts (va_wsS own index y ws)) (hw : ws = Cond.code y bytes maxL ret :: ws') (hd : y.cls ≠ "java/lang/invoke/MethodHandle" ∧ y.cls ≠ "java/lang/invoke/VarHandle" ∧ (parseMethodDescriptor y.desc).map (fun d => d.parameters.length) = some n) (hR : rm.frames + 1 ≤ R0.frames ∧ 8 + (maxL + 11) + rm.locals ≤ R0.locals) (hn : As.length = n) (hst : stk = As.reverse ++ st) (hcs : cells + rm.cells ≤ R0.cells ∧ slots + rm.slots ≤ R0.slots) (hroom : (st.map fun v => v.category).sum ≤ 8) (d : decode cc pc = .ok (.invokestatic index, 3)) (k : ∀ (v : Option Value) (L' : List Nat) (K' N' : Nat → Nat) (I' : Nat → Nat → Int32) (J' : Nat → Nat → Int64) (R' : Nat → Nat → Option Nat), post v L' K' N' I' J' R' → XW p l e R0 s m args below meth c D z nL L' K' N' I' J' R' (cells + rm.cells) (slots + rm.slots) Q (pc + 3) lv (v.toList ++ st)) : XW p l e R0 s m args below meth c D z nL L K N I J R cells slots Q pc lv stk := by
  intro H locs ls h1 h2 h3 h4
  have hrun := va_runS (g := F0 m pc ls stk) (rest := st) hc.1 hM (va_cwS n hc.w hT hw rfl rfl hd hR) ⟨PC.blind, x_pre hc (av := As) h1 h2 h3⟩ rfl hn h4.1 hst (lv_room hroom) d hcs
  exact x_useF hrun h3 h4 k
theorem x_callSNF (hc : CT p l s m args meth c D z e0 cc nL own Ts) {host : String} {index n maxL : Nat} {y : MethodName} {ws ws' : List Cond} {bytes : ByteArray} {ret : Option FieldType} {rm : Room} {As : List Value} {post : Option Value → List Nat → (Nat → Nat) → (Nat → Nat) → (Nat → Nat → Int32) → (Nat → Nat → Int64) → (Nat → Nat → Option Nat) → Prop} (hM : MF l y ws rm D z e0 L K N I J R As post) (hT : GoodIn Ts ws) (hw : ws = Cond.code y bytes maxL ret :: ws') (hd : y.cls ≠ "java/lang/invoke/MethodHandle" ∧ y.cls ≠ "java/lang/invoke/VarHandle" ∧ (parseMethodDescriptor y.desc).map (fun d => d.parameters.length) = some n) (hR : rm.frames + 1 ≤ R0.frames ∧ 8 + (maxL + 11) + rm.locals ≤ R0.locals) (hl : va_Nw (.methodLinkNest own index y host) s) (hini : Cond.initialized y.cls ∈ Ts) (hstc : Cond.static y ∈ Ts) (hn : As.length = n) (hst : stk = As.reverse ++ st) (hcs : cells + rm.cells ≤ R0.cells ∧ slots + rm.slots ≤ R0.slots) (hroom : (st.map fun v => v.category).sum ≤ 8) (d : decode cc pc = .ok (.invokestatic index, 3)) (k : ∀ (v : Option Value) (L' : List Nat) (K' N' : Nat → Nat) (I' : Nat → Nat → Int32) (J' : Nat → Nat → Int64) (R' : Nat → Nat → Option Nat), post v L' K' N' I' J' R' → XW p l e R0 s m args below meth c D z nL L' K' N' I' J' R' (cells + rm.cells) (slots + rm.slots) Q (pc + 3) lv (v.toList ++ st)) : XW p l e R0 s m args below meth c D z nL L K N I J R cells slots Q pc lv stk := by
  intro H locs ls h1 h2 h3 h4
  have hrun := va_runSN (g := F0 m pc ls stk) (rest := st) hc.1 hM ⟨va_cnB n hc.w hT hw rfl rfl hl (hc.w _ hini) hd hR, hc.w _ hstc, trivial⟩ ⟨PC.blind, x_pre hc (av := As) h1 h2 h3⟩ rfl hn h4.1 hst (lv_room hroom) d hcs
  exact x_useF hrun h3 h4 k
theorem x_callIF (hc : CT p l s m args meth c D z e0 cc nL own Ts) {b : Nat} {index n maxL : Nat} {y : MethodName} {ws ws' : List Cond} {bytes : ByteArray} {rm : Room} {As : List Value} {post : Option Value → List Nat → (Nat → Nat) → (Nat → Nat) → (Nat → Nat → Int32) → (Nat → Nat → Int64) → (Nat → Nat → Option Nat) → Prop} (hM : MF l y ws rm D z e0 L K N I J R (.ref b :: As) post) (hT : GoodIn Ts ws) (hw : ws = Cond.code y bytes maxL none :: ws') (hd : y.cls ≠ "java/lang/invoke/MethodHandle" ∧ y.cls ≠ "java/lang/invoke/VarHandle" ∧ (parseMethodDescriptor y.desc).map (fun d => d.parameters.length) = some n) (hR : rm.frames + 1 ≤ R0.frames ∧ 8 + (maxL + 11) + rm.locals ≤ R0.locals) (hy1 : y.name = "<init>") (hini : Cond.initialized y.cls ∈ Ts) (hl : Cond.methodLink own index y ∈ Ts) (hin : Cond.instanceMethod y ∈ Ts) (hn : As.length = n) (hst : stk = As.reverse ++ .ref b :: st) (hcs : cells + rm.cells ≤ R0.cells ∧ slots + rm.slots ≤ R0.slots) (hroom : (st.map fun v => v.category).sum ≤ 8) (d : decode cc pc = .ok (.invokespecial index, 3)) (k : ∀ (v : Option Value) (L' : List Nat) (K' N' : Nat → Nat) (I' : Nat → Nat → Int32) (J' : Nat → Nat → Int64) (R' : Nat → Nat → Option Nat), post v L' K' N' I' J' R' → XW p l e R0 s m args below meth c D z nL L' K' N' I' J' R' (cells + rm.cells) (slots + rm.slots) Q (pc + 3) lv (v.toList ++ st)) : XW p l e R0 s m args below meth c D z nL L K N I J R cells slots Q pc lv stk := by
  intro H locs ls h1 h2 h3 h4
  have hrun := va_runI (g := F0 m pc ls stk) (rest := st) hc.1 hM (cwI n hc.w hT hw rfl rfl (hc.w _ hini) (hc.w _ hl) (hc.w _ hin) hy1 hd hR) ⟨PC.blind, x_pre hc (av := .ref b :: As) h1 h2 h3⟩ rfl hn h4.1 hst (lv_room hroom) d hcs
  exact x_useF hrun h3 h4 k
theorem x_callINF (hc : CT p l s m args meth c D z e0 cc nL own Ts) {host : String} {b : Nat} {index n maxL : Nat} {y : MethodName} {ws ws' : List Cond} {bytes : ByteArray} {rm : Room} {As : List Value} {post : Option Value → List Nat → (Nat → Nat) → (Nat → Nat) → (Nat → Nat → Int32) → (Nat → Nat → Int64) → (Nat → Nat → Option Nat) → Prop} (hM : MF l y ws rm D z e0 L K N I J R (.ref b :: As) post) (hT : GoodIn Ts ws) (hw : ws = Cond.code y bytes maxL none :: ws') (hd : y.cls ≠ "java/lang/invoke/MethodHandle" ∧ y.cls ≠ "java/lang/invoke/VarHandle" ∧ (parseMethodDescriptor y.desc).map (fun d => d.parameters.length) = some n) (hR : rm.frames + 1 ≤ R0.frames ∧ 8 + (maxL + 11) + rm.locals ≤ R0.locals) (hy1 : y.name = "<init>") (hl : va_Nw (.methodLinkNest own index y host) s) (hini : Cond.initialized y.cls ∈ Ts) (hin : Cond.instanceMethod y ∈ Ts) (hn : As.length = n) (hst : stk = As.reverse ++ .ref b :: st) (hcs : cells + rm.cells ≤ R0.cells ∧ slots + rm.slots ≤ R0.slots) (hroom : (st.map fun v => v.category).sum ≤ 8) (d : decode cc pc = .ok (.invokespecial index, 3)) (k : ∀ (v : Option Value) (L' : List Nat) (K' N' : Nat → Nat) (I' : Nat → Nat → Int32) (J' : Nat → Nat → Int64) (R' : Nat → Nat → Option Nat), post v L' K' N' I' J' R' → XW p l e R0 s m args below meth c D z nL L' K' N' I' J' R' (cells + rm.cells) (slots + rm.slots) Q (pc + 3) lv (v.toList ++ st)) : XW p l e R0 s m args below meth c D z nL L K N I J R cells slots Q pc lv stk := by
  intro H locs ls h1 h2 h3 h4
  have hrun := va_runIN (g := F0 m pc ls stk) (rest := st) hc.1 hM ⟨va_cnB n hc.w hT hw rfl rfl hl (hc.w _ hini) hd hR, hy1, hc.w _ hin⟩ ⟨PC.blind, x_pre hc (av := .ref b :: As) h1 h2 h3⟩ rfl hn h4.1 hst (lv_room hroom) d hcs
  exact x_useF hrun h3 h4 k
theorem x_callVX (hc : CT p l s m args meth c D z e0 cc nL own Ts) {C : String} {index n maxL : Nat} {y : MethodName} {ws ws' : List Cond} {bytes : ByteArray} {ret : Option FieldType} {rm : Room} {As : List Value} {E : String} {b ci t0 n0 : Nat} {T : u_T} {NN : Nat} (hA : At L K N b t0 n0) (hK : t0 % 16 = ci) (h5 : ci < 5) (hcl : vwCl[ci]? = some (C, T, NN)) (hM : MX l y ws rm D z e0 L K N I J R (.ref b :: As) E) (hT : GoodIn Ts (wsV own index C y ws)) (hw : ws = Cond.code y bytes maxL ret :: ws') (hd : y.cls = C ∧ y.cls ≠ "java/lang/invoke/MethodHandle" ∧ y.cls ≠ "java/lang/invoke/VarHandle" ∧ (parseMethodDescriptor y.desc).map (fun d => d.parameters.length) = some n) (hR : rm.frames + 1 ≤ R0.frames ∧ 8 + (maxL + 11) + rm.locals ≤ R0.locals) (hn : As.length = n) (hst : stk = As.reverse ++ .ref b :: st) (hcs : cells + rm.cells ≤ R0.cells ∧ slots + rm.slots ≤ R0.slots) (hroom : (st.map fun v => v.category).sum ≤ 8) (d : decode cc pc = .ok (.invokevirtual index, 3)) (k : XX p l e R0 s m args below meth c D z nL L K N I J R (cells + rm.cells) (slots + rm.slots) Q E pc lv st) : XW p l e R0 s m args below meth c D z nL L K N I J R cells slots Q pc lv stk := by
  intro H locs ls h1 h2 h3 h4
  obtain ⟨q, hq⟩ := wd_get (D := D) (K := K) (N := N) (I := I) (J := J) (R := R) hA.1
  rw [ce_o (hA.m hK) h5] at hq
  have hrun := vx_runV (g := F0 m pc ls stk) (rest := st) hc.1 hM (cwV n hc.w hT hw rfl rfl hd hR) ⟨PC.blind, va_recv hc.k h1 hcl hq, x_pre hc (av := .ref b :: As) h1 h2 h3⟩ rfl hn h4.1 hst (lv_room hroom) d hcs
  exact x_useX hrun h2 h3 h4 k
theorem x_callSX (hc : CT p l s m args meth c D z e0 cc nL own Ts) {index n maxL : Nat} {y : MethodName} {ws ws' : List Cond} {bytes : ByteArray} {ret : Option FieldType} {rm : Room} {As : List Value} {E : String} (hM : MX l y ws rm D z e0 L K N I J R As E) (hT : GoodIn Ts (va_wsS own index y ws)) (hw : ws = Cond.code y bytes maxL ret :: ws') (hd : y.cls ≠ "java/lang/invoke/MethodHandle" ∧ y.cls ≠ "java/lang/invoke/VarHandle" ∧ (parseMethodDescriptor y.desc).map (fun d => d.parameters.length) = some n) (hR : rm.frames + 1 ≤ R0.frames ∧ 8 + (maxL + 11) + rm.locals ≤ R0.locals) (hn : As.length = n) (hst : stk = As.reverse ++ st) (hcs : cells + rm.cells ≤ R0.cells ∧ slots + rm.slots ≤ R0.slots) (hroom : (st.map fun v => v.category).sum ≤ 8) (d : decode cc pc = .ok (.invokestatic index, 3)) (k : XX p l e R0 s m args below meth c D z nL L K N I J R (cells + rm.cells) (slots + rm.slots) Q E pc lv st) : XW p l e R0 s m args below meth c D z nL L K N I J R cells slots Q pc lv stk := by
  intro H locs ls h1 h2 h3 h4
  have hrun := vx_runS (g := F0 m pc ls stk) (rest := st) hc.1 hM (va_cwS n hc.w hT hw rfl rfl hd hR) ⟨PC.blind, x_pre hc (av := As) h1 h2 h3⟩ rfl hn h4.1 hst (lv_room hroom) d hcs
  exact x_useX hrun h2 h3 h4 k
theorem xx_out (hc : CT p l s m args meth c D z e0 cc nL own Ts) {E : String} (htab : ∀ x ∈ c.exceptionTable.toList, False) {mc ms : Nat} (hcl : cells ≤ mc) (hsl : slots ≤ ms) : XX p l e R0 s m args below meth c D z nL L K N I J R cells slots (vx_MQ below (fun _ _ _ _ => False) (QX D z L K N I J R E) args s mc ms (fun q => z ≤ q)) E pc lv st := by
  intro H locs ls ce q h1 h2 h3 h4 h5 h6 h7
  exact vx_out (fun x hx => (htab x hx).elim) hc.2.2.2 h5 h6 h7 (fun t ht _ => ⟨rfl, by rw [ht]; exact h1, h3.F ht⟩) h3.2.2 hcl hsl
theorem x_throw (hc : CT p l s m args meth c D z e0 cc nL own Ts) (hfl : l.stackTraces = false) (htab : ∀ x ∈ c.exceptionTable.toList, False) {E text : String} {ik is ic mc ms : Nat} {ws : List Cond} (hown2 : own = RX2) (hE : va_Nw (.castable E E) s) (hstr : (is, text) ∈ xstr) (hcls : Bundle.fit E = true) (hk : Cond.classLink own ik E ∈ Ts) (hini : Cond.initialized E ∈ Ts) (hat : ∀ w ∈ (vx_atS own ic E ["java/lang/RuntimeException", "java/lang/Exception"]).filter goodWord, w ∈ Ts)
    (hnat : (vx_atS own ic E ["java/lang/RuntimeException", "java/lang/Exception"]).filter (fun w => !goodWord w) = [.castable E E]) (hgood : (Cond.classLink own ik E :: Cond.initialized E :: vx_atS own ic E ["java/lang/RuntimeException", "java/lang/Exception"]).all vx_ot = true)
    (d0 : decode cc pc = .ok (.new ik, 3)) (d3 : decode cc (pc + 3) = .ok (.dup, 1)) (d4 : decode cc (pc + 4) = .ok (.ldc is, 2)) (d6 : decode cc (pc + 6) = .ok (.invokespecial ic, 3)) (d9 : decode cc (pc + 9) = .ok (.athrow, 1))
    (hRf : 5 < R0.frames) (hRl : (st.map fun v => v.category).sum + 82 ≤ R0.locals) (hRc : cells + 1 ≤ R0.cells) (hRs : slots + 6 ≤ R0.slots) (hmc : cells + 1 ≤ mc) (hms : slots + 6 ≤ ms) :
    XW p l e R0 s m args below meth c D z nL L K N I J R cells slots (vx_MQ below (fun _ _ _ _ => False) (QX D z L K N I J R E) args s mc ms (fun q => z ≤ q)) pc lv st := by
  intro H locs ls h1 h2 h3 h4
  subst hown2
  obtain ⟨sa, hsa⟩ := hc.ev.2.2.2.1 _ hstr
  refine vx_throwS (names := ["java/lang/RuntimeException", "java/lang/Exception"]) hc.x hc.b hfl hc.o hcls (by decide +kernel) (hc.w _ hk) (hc.w _ hini) hsa (vx_hat (fun w hw => hc.w _ (hat w hw)) (fun w hw => by rw [hnat] at hw; exact hw) (vx_c (va_Nw.use (A := args) rfl hE) vx_n)) (fun w hw => List.all_eq_true.mp hgood w hw) hc.ev.2.1 hc.ev.2.2.1 h3 (by rw [hc.ml]; exact h4.1) d0 d3 d4 d6 d9 (fun x hx => (htab x hx).elim) hRf hRl hRc hRs hc.2.2.2 (fun t hW hsz hq => ?_) h3.2.2 hmc hms
  exact ⟨rfl, h1.kept (fun k q hk => hq q.1 ((h1 k q hk).lt)), ⟨Nat.le_trans h3.1 hsz, fun q g1 g2 => (hq q (Nat.lt_of_lt_of_le g1 h3.1)).trans (h3.2.1 q g1 g2)⟩⟩
end XC
end
