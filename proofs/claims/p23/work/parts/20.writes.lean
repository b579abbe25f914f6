/-! The law's calls that write. -/
section LO
variable {l : Launch} {D : va_G} {z : Nat}
variable {L : List Nat} {K N : Nat → Nat} {I : Nat → Nat → Int32} {J : Nat → Nat → Int64} {R : Nat → Nat → Option Nat}
variable {e0 x ka pa ma na ea ga st su now n : Nat} {pic : Nat → Nat} {tm : Nat → TM} {rc : Nat → Nat → Nat → Int32} {fe co : Nat → Nat → Int32} {cr : Int32} {sv : Nat → Shr} {pd : Nat → Int32}
theorem a_receive (H : LW e0 x ka pa ma na ea ga st su L K N I J R now n pic tm rc fe co cr sv pd) {k w : Nat} {t : Int32} (hk : k < 2) (hw : w < 4) (h1 : 1 ≤ t ∧ t ≤ 200000) (hst : st ≤ 17) : MG l yX2_receive wsX2_receive rm_X2_receive D z e0 L K N I J R [.ref x, .int (nI k), .int (nI w), .int t] (fun r I' J' => r = some (.int (rc k now w + t)) ∧ I' ga = I ga ∧ LW e0 x ka pa ma na ea ga (st + 1) su L K N I' J' R now n pic tm (rcU rc k now w (rc k now w + t)) fe co cr sv pd) := by
  have C := H.1
  have hn := crel_now C
  have e := (C.2.2.1 k hk).2.1 now w hn hw
  have hr := (C.cells.2.2.1 k hk).2.2.1 now hn
  have ht := rng32 h1
  refine (c_receive l D z e0 L K N I J R x now n (fun k => cnt pic k n) C.1 k hk w hw t h1).mono (fun v I' J' h => ?_)
  obtain ⟨h2, h3, h4⟩ := h
  rw [e] at h2 h3
  subst h3
  subst h4
  have hg : ∀ i : Int32, u2 I (rwA R (dr R x k) now) w i ga = I ga := fun i => funext fun j => u2_a (H.2.2.1.2.2.2.2.2.ne hr (by omega))
  exact ⟨h2, hg _, H.cls (C.row hk hn _) (H.2.1.row hk hw ht.1 ht.2 hst).1 (fun a ha g1 => funext fun i => u2_a (fun q => by rw [q, hr.2.1] at g1; omega))⟩
theorem a_spend (H : LW e0 x ka pa ma na ea ga st su L K N I J R now n pic tm rc fe co cr sv pd) {k : Nat} {t : Int32} (hk : k < 2) (h1 : 1 ≤ t ∧ t ≤ 150000) (hsu : su ≤ 17) : MG l yX2_spend wsX2_spend rm_X2_spend D z e0 L K N I J R [.ref x, .int (nI k), .int t] (fun r I' J' => r = some (.int (co k now + t)) ∧ ¬ co k now + t < 1 ∧ LW e0 x ka pa ma na ea ga st (su + 1) L K N I' J' R now n pic tm rc fe (fun a b => if a = k ∧ b = now then co k now + t else co a b) cr sv pd) := by
  have C := H.1
  have hn := crel_now C
  have e := (C.2.2.1 k hk).2.2.2 now hn
  have hr := (C.cells.2.2.1 k hk).2.2.2.1
  have ht := rng32 h1
  have e1 : (1 : Int32).toInt = 1 := rfl
  have e150 : (150000 : Int32).toInt = 150000 := rfl
  have e200 : (200000 : Int32).toInt = 200000 := rfl
  obtain ⟨V, ea9, e09⟩ := H.2.1.cost (k := k) (t := t) hk (by omega) (by omega) hsu
  refine (c_spend l D z e0 L K N I J R x now n (fun k => cnt pic k n) C.1 k hk t ⟨h1.1, Int32.le_iff_toInt_le.mpr (by omega)⟩).mono (fun v I' J' h => ?_)
  obtain ⟨h2, h3, h4⟩ := h
  rw [e] at h2 h3
  subst h3
  subst h4
  refine ⟨h2, fun q => ?_, H.cls (C.cost hk _) V (fun a ha g1 => funext fun i => u2_a (fun q => by rw [q, hr.2.1] at g1; omega))⟩
  have q2 := Int32.lt_iff_toInt_lt.mp q
  omega
theorem a_setRates (H : LW e0 x ka pa ma na ea ga st su L K N I J R now n pic tm rc fe co cr sv pd) {k : Nat} {t o i : Int32} (hk : k < 2) (h1 : 0 ≤ t ∧ t ≤ 10000) (h2 : 0 ≤ o ∧ o ≤ 10000) (h3 : 0 ≤ i ∧ i ≤ 2000) : MG l yX2_setRates wsX2_setRates rm_X2_setRates D z e0 L K N I J R [.ref x, .int (nI k), .int t, .int o, .int i] (fun r I' J' => r = none ∧ LW e0 x ka pa ma na ea ga st su L K N I' J' R now n pic (fun a => if a = k then (t, o, i) else tm a) rc fe co cr sv pd) := by
  have C := H.1
  have hr := (C.cells.2.2.1 k hk).1
  refine (c_setRates l D z e0 L K N I J R x now n (fun k => cnt pic k n) C.1 k hk t o i h1 h2 h3).mono (fun v I' J' h => ?_)
  obtain ⟨g2, g3, g4⟩ := h
  subst g3
  subst g4
  exact ⟨g2, H.cls (C.rates hk t o i) (H.2.1.rates (rat_of h1) (rat_of h2) (rng32 h3)) (fun a ha g1 => funext fun j => by
    have q : a ≠ dr R x k := fun q => by rw [q, hr.2.1] at g1; omega
    rw [u2_a q, u2_a q, u2_a q])⟩
theorem a_setFee (H : LW e0 x ka pa ma na ea ga st su L K N I J R now n pic tm rc fe co cr sv pd) {k w : Nat} {t : Int32} (hk : k < 2) (hw : w < 4) (h1 : 0 ≤ t ∧ t ≤ 10000) : MG l yX2_setFee wsX2_setFee rm_X2_setFee D z e0 L K N I J R [.ref x, .int (nI k), .int (nI w), .int t] (fun r I' J' => r = some (.int (fe k w)) ∧ ¬ fe k w < 0 ∧ LW e0 x ka pa ma na ea ga st su L K N I' J' R now n pic tm rc (fun a b => if a = k ∧ b = w then t else fe a b) co cr sv pd) := by
  have C := H.1
  have e := (C.2.2.1 k hk).2.2.1 w hw
  have hr := (C.cells.2.2.1 k hk).2.2.2.2
  refine (c_setFee l D z e0 L K N I J R x now n (fun k => cnt pic k n) C.1 k hk w hw t h1).mono (fun v I' J' h => ?_)
  obtain ⟨h2, h3, h4⟩ := h
  rw [e] at h2
  subst h3
  subst h4
  exact ⟨h2, i32_nlt (H.2.1.2.2.2.2.1 k w hk hw).1, H.cls (C.fee hk t) (H.2.1.fee (rat_of h1)) (fun a ha g1 => funext fun i => u2_a (fun q => by rw [q, hr.2.1] at g1; omega))⟩
theorem a_setCrossed (H : LW e0 x ka pa ma na ea ga st su L K N I J R now n pic tm rc fe co cr sv pd) {t : Int32} (ht : t = 0 ∨ t = 1) : MG l yX2_setCrossed wsX2_setCrossed rm_X2_setCrossed D z e0 L K N I J R [.ref x, .int t] (fun r I' J' => r = some (.int cr) ∧ LW e0 x ka pa ma na ea ga st su L K N I' J' R now n pic tm rc fe co t sv pd) := by
  have C := H.1
  have hr := C.cells.1
  refine (c_setCrossed l D z e0 L K N I J R x now n (fun k => cnt pic k n) C.1 t ht).mono (fun v I' J' h => ?_)
  obtain ⟨h2, h3, h4⟩ := h
  rw [C.2.1] at h2
  subst h3
  subst h4
  exact ⟨h2, H.cls (C.crossed ht) (H.2.1.crossed ht) (fun a ha g1 => funext fun i => u2_a (fun q => by rw [q, hr.2.1] at g1; omega))⟩
theorem a_closeYear (H : LW e0 x ka pa ma na ea ga st su L K N I J R now n pic tm rc fe co cr sv pd) (h9 : now < 9) : MG l yX2_closeYear wsX2_closeYear rm_X2_closeYear D z e0 L K N I J R [.ref x] (fun r I' J' => r = some (.int (nI (now + 1))) ∧ LW e0 x ka pa ma na ea ga st su L K N I' J' R (now + 1) n pic tm rc fe co cr sv pd) := by
  have C := H.1
  have hr := C.cells.1
  refine (c_closeYear l D z e0 L K N I J R x now n (fun k => cnt pic k n) C.1 h9).mono (fun v I' J' h => ?_)
  obtain ⟨h2, h3, h4⟩ := h
  subst h3
  subst h4
  exact ⟨h2, H.cls (C.close h9) (H.2.1.close h9) (fun a ha g1 => funext fun i => u2_a (fun q => by rw [q, hr.2.1] at g1; omega))⟩
theorem netN_rng {sh : Nat → Shr} : ∀ n : Nat, n ≤ 8 → (∀ i, i < n → SOk (sh i) ∧ (sh i).2.2.1.toInt ≤ 1000 ∧ (sh i).2.2.2.toInt ≤ 1000) → 0 ≤ (netN sh n).toInt ∧ (netN sh n).toInt ≤ 1000 * (n : Int)
  | 0, _, _ => ⟨Int.le_refl _, Int.le_refl _⟩
  | n + 1, hn, h => by
    have ih := netN_rng (sh := sh) n (by omega) (fun i hi => h i (Nat.lt_succ_of_lt hi))
    obtain ⟨h1, h2, h3⟩ := h n (Nat.lt_succ_self n)
    have f := h1.2.2.1.1
    have g := h1.2.2.2.1
    have m : 0 ≤ (mx (sh n).2.2.1 (sh n).2.2.2).toInt ∧ (mx (sh n).2.2.1 (sh n).2.2.2).toInt ≤ 1000 := by
      unfold mx
      split
      · exact ⟨g, h3⟩
      · exact ⟨f, h2⟩
    show 0 ≤ (netS (sh n) (netN sh n)).toInt ∧ (netS (sh n) (netN sh n)).toInt ≤ _
    unfold netS
    split
    · rw [a32 (by omega) (by omega)]
      omega
    · omega
/-- a new sharer: the law then counts it -/
theorem a_add (H : LW e0 x ka pa ma na ea ga st su L K N I J R now n pic tm rc fe co cr sv pd) {k : Nat} {kd li fi se : Int32} (hk : k < 2) (hn8 : n < 8) (h1 : 0 ≤ kd ∧ kd ≤ 3) (h2 : 0 ≤ li ∧ li ≤ 199999) (h3 : 0 ≤ fi ∧ fi ≤ 1000) (h4 : 0 ≤ se ∧ se ≤ 1000) (ek : I ka n = kd) (ep : I pa n = nI k) (em : I ma n = li) :
    MF l yX2_add wsX2_add rm_X2_add D z e0 L K N I J R [.ref x, .int (nI k), .int kd, .int li, .int fi, .int se] (fun r L' K' N' I' J' R' => r = some (.int (nI n)) ∧ At L' K' N' na 1013 1 ∧ I' na 0 = nI n ∧ LW e0 x ka pa ma na ea ga st su L' K' N' (u2 I' na 0 (nI (n + 1))) J' R' now (n + 1) (fun a => if a = n then k else pic a) tm rc fe co cr (fun a => if a = n then (kd, li, fi, se) else sv a) (fun a => if a = n then 0 else pd a)) := by
  obtain ⟨C, V, A, f1, f2, f3⟩ := H
  have t2 := rng32 h2
  have t3 := rng32 h3
  have t4 := rng32 h4
  have e0' : (0 : Int32).toInt = 0 := rfl
  have e1000 : (1000 : Int32).toInt = 1000 := rfl
  have eM : (10000000 : Int32).toInt = 10000000 := rfl
  have eL : (199999 : Int32).toInt = 199999 := rfl
  have hm : (1000 : Int32) ≤ mostR kd := by
    unfold mostR
    split <;> decide
  have hs1 : ∀ i, i < cnt pic k n → (fun i => shV I (shA R (dr R (dr R x k) 3) i)) i = shL pic sv k n i := (crel_agr C hk).2.2.2.2.2.2.2
  have hnet := netN_rng (sh := shL pic sv k n) (cnt pic k n) (Nat.le_trans (cnt_le pic k n) V.2.1) (fun i hi => V.sok hi)
  have hc8 := cnt_le pic k n
  have hmx : 0 ≤ (mx fi se).toInt ∧ (mx fi se).toInt ≤ 1000 := by
    unfold mx
    split <;> omega
  have hroom : kd = 1 → netN (fun i => shV I (shA R (dr R (dr R x k) 3) i)) (cnt pic k n) + mx fi se ≤ 10000 := fun _ => by
    rw [netN_cong _ hs1]
    apply Int32.le_iff_toInt_le.mpr
    rw [a32 (by omega) (by omega), show (10000 : Int32).toInt = 10000 from rfl]
    omega
  refine (c_add l D z e0 L K N I J R x now n (fun k => cnt pic k n) C.1 k hk kd li fi se h1 ⟨h2.1, Int32.le_iff_toInt_le.mpr (by omega)⟩ ⟨h3.1, Int32.le_trans h3.2 hm⟩ ⟨h4.1, Int32.le_trans h4.2 hm⟩ hn8 hroom (Nat.lt_of_le_of_lt hc8 hn8) (fun h => C.2.2.2.2.1 h) (fun h => C.2.2.2.2.2 k hk h)).mono (fun v L' K' N' I' J' R' h => ?_)
  obtain ⟨hv, q, hqL, hq, hr, hi, hj0, s1, s2, s3, m1, m2, m3, E⟩ := h
  have C1 := C.add hk hn8 hq hr hi hj0 s1 s2 s3 m1 m2 m3 E
  have A' : At L' K' N' ka 965 8 ∧ At L' K' N' pa 981 8 ∧ At L' K' N' ma 997 8 ∧ At L' K' N' na 1013 1 ∧ At L' K' N' ea 1029 8 ∧ At L' K' N' ga 1045 8 := ⟨E.cell A.1, E.cell A.2.1, E.cell A.2.2.1, E.cell A.2.2.2.1, E.cell A.2.2.2.2.1, E.cell A.2.2.2.2.2⟩
  have ik : I' ka = I ka := E.i A.1.1 (by rw [A.1.2.1]; omega)
  have ip : I' pa = I pa := E.i A.2.1.1 (by rw [A.2.1.2.1]; omega)
  have im : I' ma = I ma := E.i A.2.2.1.1 (by rw [A.2.2.1.2.1]; omega)
  have iN : I' na = I na := E.i A.2.2.2.1.1 (by rw [A.2.2.2.1.2.1]; omega)
  have ie : I' ea = I ea := E.i A.2.2.2.2.1.1 (by rw [A.2.2.2.2.1.2.1]; omega)
  have hna := A'.2.2.2.1
  refine ⟨hv, hna, by rw [iN]; exact f1, C1.arr hna (by omega), V.add hk hn8 ⟨by show 0 ≤ li.toInt; omega, by show li.toInt ≤ _; omega, ⟨by show 0 ≤ fi.toInt; omega, by show fi.toInt ≤ _; omega⟩, by show 0 ≤ se.toInt; omega, by show se.toInt ≤ _; omega⟩ (kinds_of h1) (by omega) (by omega), A', u2_s, fun j hj => ?_, fun j g1 g2 => ?_⟩
  · rw [u2_a (A'.1.ne hna (by omega)), u2_a (A'.2.1.ne hna (by omega)), u2_a (A'.2.2.1.ne hna (by omega)), u2_a (A'.2.2.2.2.1.ne hna (by omega)), ik, ip, im, ie]
    show I ka j = (if j = n then (kd, li, fi, se) else sv j).1 ∧ I pa j = nI (if j = n then k else pic j) ∧ I ma j = (if j = n then (kd, li, fi, se) else sv j).2.1 ∧ I ea j = if j = n then 0 else pd j
    by_cases e : j = n
    · rw [if_pos e, if_pos e, if_pos e, e]
      exact ⟨ek, ep, em, f3 n (Nat.le_refl n) hn8⟩
    · rw [if_neg e, if_neg e, if_neg e]
      exact f2 j (by omega)
  · rw [u2_a (A'.2.2.2.2.1.ne hna (by omega)), ie]
    exact f3 j (by omega) g2
end LO
