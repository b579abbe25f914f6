/-! The law's own arrays beside the class's state; what its calls make of both. -/
def LW (e0 x ka pa ma na ea ga st su : Nat) (L : List Nat) (K N : Nat → Nat) (I : Nat → Nat → Int32) (J : Nat → Nat → Int64) (R : Nat → Nat → Option Nat) (now n : Nat) (pic : Nat → Nat) (tm : Nat → TM) (rc : Nat → Nat → Nat → Int32) (fe co : Nat → Nat → Int32) (cr : Int32) (sv : Nat → Shr) (pd : Nat → Int32) : Prop :=
  CRel e0 L K N I J R x now n pic tm rc fe co cr sv pd ∧ VL now n pic tm rc fe co cr sv pd st su ∧ (At L K N ka 965 8 ∧ At L K N pa 981 8 ∧ At L K N ma 997 8 ∧ At L K N na 1013 1 ∧ At L K N ea 1029 8 ∧ At L K N ga 1045 8) ∧ I na 0 = nI n ∧
  (∀ j, j < n → I ka j = (sv j).1 ∧ I pa j = nI (pic j) ∧ I ma j = (sv j).2.1 ∧ I ea j = pd j) ∧ ∀ j, n ≤ j → j < 8 → I ea j = 0
abbrev rcU (rc : Nat → Nat → Nat → Int32) (k y w : Nat) (v : Int32) : Nat → Nat → Nat → Int32 := fun a b c => if a = k ∧ b = y ∧ c = w then v else rc a b c
section LB
variable {L : List Nat} {K N : Nat → Nat} {I I' : Nat → Nat → Int32} {J J' : Nat → Nat → Int64} {R : Nat → Nat → Option Nat}
variable {e0 x ka pa ma na ea ga st su now n : Nat} {pic : Nat → Nat} {tm : Nat → TM} {rc : Nat → Nat → Nat → Int32} {fe co : Nat → Nat → Int32} {cr : Int32} {sv : Nat → Shr} {pd : Nat → Int32}
theorem CRel.arr {a t m0 i : Nat} {v : Int32} (C : CRel e0 L K N I J R x now n pic tm rc fe co cr sv pd) (ha : At L K N a t m0) (ht : 965 ≤ t ∧ t < 1600) : CRel e0 L K N (u2 I a i v) J R x now n pic tm rc fe co cr sv pd :=
  C.ext (Ext.setI (x := v) (b := a) (k := i)) (fun b hb hk _ _ e => by rw [e, ha.2.1] at hk; omega)
theorem LW.j (H : LW e0 x ka pa ma na ea ga st su L K N I J R now n pic tm rc fe co cr sv pd) (hJ : JK L K J J') : LW e0 x ka pa ma na ea ga st su L K N I J' R now n pic tm rc fe co cr sv pd := ⟨H.1.j hJ, H.2⟩
theorem LW.wr {a t i : Nat} {v : Int32} (H : LW e0 x ka pa ma na ea ga st su L K N I J R now n pic tm rc fe co cr sv pd) (ha : At L K N a t 8) (ht : t = 965 ∨ t = 981 ∨ t = 997) (hi : n ≤ i) : LW e0 x ka pa ma na ea ga st su L K N (u2 I a i v) J R now n pic tm rc fe co cr sv pd := by
  obtain ⟨C, V, A, h1, h2, h3⟩ := H
  refine ⟨C.arr ha (by omega), V, A, ?_, fun j hj => ?_, fun j g1 g2 => ?_⟩
  · rw [u2_a (A.2.2.2.1.ne ha (by omega))]
    exact h1
  · have q : j ≠ i := by omega
    rw [u2_ne (Or.inr q), u2_ne (Or.inr q), u2_ne (Or.inr q), u2_ne (Or.inr q)]
    exact h2 j hj
  · rw [u2_a (A.2.2.2.2.1.ne ha (by omega))]
    exact h3 j g1 g2
theorem LW.wg {i : Nat} {v : Int32} (H : LW e0 x ka pa ma na ea ga st su L K N I J R now n pic tm rc fe co cr sv pd) : LW e0 x ka pa ma na ea ga st su L K N (u2 I ga i v) J R now n pic tm rc fe co cr sv pd := by
  obtain ⟨C, V, A, h1, h2, h3⟩ := H
  have ha := A.2.2.2.2.2
  refine ⟨C.arr ha (by omega), V, A, ?_, fun j hj => ?_, fun j g1 g2 => ?_⟩
  · rw [u2_a (A.2.2.2.1.ne ha (by omega))]
    exact h1
  · rw [u2_a (A.1.ne ha (by omega)), u2_a (A.2.1.ne ha (by omega)), u2_a (A.2.2.1.ne ha (by omega)), u2_a (A.2.2.2.2.1.ne ha (by omega))]
    exact h2 j hj
  · rw [u2_a (A.2.2.2.2.1.ne ha (by omega))]
    exact h3 j g1 g2
/-- where the class alone was written -/
theorem LW.cls {now' st' su' : Nat} {tm' : Nat → TM} {rc' : Nat → Nat → Nat → Int32} {fe' co' : Nat → Nat → Int32} {cr' : Int32} (H : LW e0 x ka pa ma na ea ga st su L K N I J R now n pic tm rc fe co cr sv pd) (C' : CRel e0 L K N I' J' R x now' n pic tm' rc' fe' co' cr' sv pd) (V' : VL now' n pic tm' rc' fe' co' cr' sv pd st' su') (hI : ∀ a, a ∈ L → 965 ≤ K a → I' a = I a) : LW e0 x ka pa ma na ea ga st' su' L K N I' J' R now' n pic tm' rc' fe' co' cr' sv pd := by
  obtain ⟨C, V, A, h1, h2, h3⟩ := H
  refine ⟨C', V', A, ?_, fun j hj => ?_, fun j g1 g2 => ?_⟩
  · rw [hI _ A.2.2.2.1.1 (by rw [A.2.2.2.1.2.1]; omega)]
    exact h1
  · rw [hI _ A.1.1 (by rw [A.1.2.1]; omega), hI _ A.2.1.1 (by rw [A.2.1.2.1]; omega), hI _ A.2.2.1.1 (by rw [A.2.2.1.2.1]; omega), hI _ A.2.2.2.2.1.1 (by rw [A.2.2.2.2.1.2.1]; omega)]
    exact h2 j hj
  · rw [hI _ A.2.2.2.2.1.1 (by rw [A.2.2.2.2.1.2.1]; omega)]
    exact h3 j g1 g2
theorem LW.paid {j : Nat} {w : Int32} (H : LW e0 x ka pa ma na ea ga st su L K N I J R now n pic tm rc fe co cr sv pd) (hj : j < n) (hw : 0 ≤ w.toInt) (C' : CRel e0 L K N (u2 I ea j w) J' R x now n pic tm rc fe co cr sv (fun a => if a = j then w else pd a)) : LW e0 x ka pa ma na ea ga st su L K N (u2 I ea j w) J' R now n pic tm rc fe co cr sv (fun a => if a = j then w else pd a) := by
  obtain ⟨C, V, A, h1, h2, h3⟩ := H
  have ha := A.2.2.2.2.1
  obtain ⟨v1, v2, v3, v4, v5, v6, v7, v8, v9⟩ := V
  refine ⟨C', ⟨v1, v2, v3, v4, v5, v6, v7, v8, fun i hi => ?_⟩, A, ?_, fun i hi => ?_, fun i g1 g2 => ?_⟩
  · show 0 ≤ (if i = j then w else pd i).toInt
    split
    · exact hw
    · exact v9 i hi
  · rw [u2_a (A.2.2.2.1.ne ha (by omega))]
    exact h1
  · rw [u2_a (A.1.ne ha (by omega)), u2_a (A.2.1.ne ha (by omega)), u2_a (A.2.2.1.ne ha (by omega))]
    obtain ⟨g1, g2, g3, g4⟩ := h2 i hi
    refine ⟨g1, g2, g3, ?_⟩
    show u2 I ea j w ea i = if i = j then w else pd i
    by_cases e : i = j
    · rw [if_pos e, e, u2_s]
    · rw [if_neg e, u2_k e]
      exact g4
  · rw [u2_k (show i ≠ j by omega)]
    exact h3 i g1 g2
theorem VL.row {k w : Nat} {t : Int32} (V : VL now n pic tm rc fe co cr sv pd st su) (hk : k < 2) (hw : w < 4) (h1 : 1 ≤ t.toInt) (h2 : t.toInt ≤ 200000) (hst : st ≤ 17) : VL now n pic tm (rcU rc k now w (rc k now w + t)) fe co cr sv pd (st + 1) su ∧ (rc k now w + t).toInt = (rc k now w).toInt + t.toInt := by
  obtain ⟨v1, v2, v3, v4, v5, v6, v7, v8, v9⟩ := V
  have q0 := (v6 k hk).1 now w v1 hw
  have q1 := el_le (v6 k hk).1 v1 hw
  have q2 := (v6 k hk).2
  have ea := a32 (a := rc k now w) (b := t) (by omega) (by omega)
  refine ⟨⟨v1, v2, v3, v4, v5, fun a ha => ⟨fun b c hb hc => ?_, ?_⟩, v7, v8, v9⟩, ea⟩
  · show 0 ≤ (if a = k ∧ b = now ∧ c = w then rc k now w + t else rc a b c).toInt
    split
    · omega
    · exact (v6 a ha).1 b c hb hc
  · by_cases e : a = k
    · subst e
      have e2 := sumI_upd (f := rc a) (g := fun b c => if a = a ∧ b = now ∧ c = w then rc a now w + t else rc a b c) (y := now) (w := w) (t := rc a now w + t) hw (fun b c => by
        by_cases q : b = now ∧ c = w
        · rw [if_pos ⟨rfl, q⟩, if_pos q]
        · rw [if_neg (fun z => q z.2), if_neg q]) 10
      show sumI (fun b c => if a = a ∧ b = now ∧ c = w then rc a now w + t else rc a b c) 10 ≤ _
      rw [e2, if_pos v1, ea]
      omega
    · have e2 : (fun b c => if a = k ∧ b = now ∧ c = w then rc k now w + t else rc a b c) = rc a := funext fun b => funext fun c => if_neg (fun q => e q.1)
      show sumI (fun b c => if a = k ∧ b = now ∧ c = w then rc k now w + t else rc a b c) 10 ≤ _
      rw [e2]
      have := (v6 a ha).2
      omega
theorem VL.cost {k : Nat} {t : Int32} (V : VL now n pic tm rc fe co cr sv pd st su) (hk : k < 2) (h1 : 1 ≤ t.toInt) (h2 : t.toInt ≤ 150000) (hsu : su ≤ 17) : VL now n pic tm rc fe (fun a b => if a = k ∧ b = now then co k now + t else co a b) cr sv pd st (su + 1) ∧ (co k now + t).toInt = (co k now).toInt + t.toInt ∧ 0 ≤ (co k now).toInt := by
  obtain ⟨v1, v2, v3, v4, v5, v6, v7, v8, v9⟩ := V
  have q := v7 k now hk v1
  have ea := a32 (a := co k now) (b := t) (by omega) (by omega)
  refine ⟨⟨v1, v2, v3, v4, v5, v6, fun a b ha hb => ?_, v8, v9⟩, ea, q.1⟩
  show 0 ≤ (if a = k ∧ b = now then co k now + t else co a b).toInt ∧ (if a = k ∧ b = now then co k now + t else co a b).toInt ≤ _
  split
  · omega
  · have := v7 a b ha hb
    omega
theorem VL.rates {k : Nat} {t ov i : Int32} (V : VL now n pic tm rc fe co cr sv pd st su) (h1 : Rat t) (h2 : Rat ov) (h3 : 0 ≤ i.toInt ∧ i.toInt ≤ 2000) : VL now n pic (fun a => if a = k then (t, ov, i) else tm a) rc fe co cr sv pd st su := by
  obtain ⟨v1, v2, v3, v4, v5, v6, v7, v8, v9⟩ := V
  refine ⟨v1, v2, v3, fun a ha => ?_, v5, v6, v7, v8, v9⟩
  show Rat (if a = k then (t, ov, i) else tm a).1 ∧ Rat (if a = k then (t, ov, i) else tm a).2.1 ∧ 0 ≤ (if a = k then (t, ov, i) else tm a).2.2.toInt ∧ (if a = k then (t, ov, i) else tm a).2.2.toInt ≤ 2000
  by_cases e : a = k
  · rw [if_pos e]
    exact ⟨h1, h2, h3⟩
  · rw [if_neg e]
    exact v4 a ha
theorem VL.fee {k w : Nat} {t : Int32} (V : VL now n pic tm rc fe co cr sv pd st su) (h1 : Rat t) : VL now n pic tm rc (fun a b => if a = k ∧ b = w then t else fe a b) co cr sv pd st su := by
  obtain ⟨v1, v2, v3, v4, v5, v6, v7, v8, v9⟩ := V
  refine ⟨v1, v2, v3, v4, fun a b ha hb => ?_, v6, v7, v8, v9⟩
  show Rat (if a = k ∧ b = w then t else fe a b)
  split
  · exact h1
  · exact v5 a b ha hb
theorem VL.crossed {t : Int32} (V : VL now n pic tm rc fe co cr sv pd st su) (ht : t = 0 ∨ t = 1) : VL now n pic tm rc fe co t sv pd st su := by
  obtain ⟨v1, v2, v3, v4, v5, v6, v7, v8, v9⟩ := V
  exact ⟨v1, v2, ht, v4, v5, v6, v7, v8, v9⟩
theorem VL.close (V : VL now n pic tm rc fe co cr sv pd st su) (h9 : now < 9) : VL (now + 1) n pic tm rc fe co cr sv pd st su := by
  obtain ⟨v1, v2, v3, v4, v5, v6, v7, v8, v9⟩ := V
  exact ⟨by omega, v2, v3, v4, v5, v6, v7, v8, v9⟩
theorem VL.up {st' su' : Nat} (V : VL now n pic tm rc fe co cr sv pd st su) (h1 : st ≤ st') (h2 : su ≤ su') : VL now n pic tm rc fe co cr sv pd st' su' := by
  obtain ⟨v1, v2, v3, v4, v5, v6, v7, v8, v9⟩ := V
  refine ⟨v1, v2, v3, v4, v5, fun k hk => ⟨(v6 k hk).1, ?_⟩, fun k y hk hy => ⟨(v7 k y hk hy).1, ?_⟩, v8, v9⟩
  · have := (v6 k hk).2
    omega
  · have := (v7 k y hk hy).2
    omega
theorem VL.add {k : Nat} {kd li fi se : Int32} (V : VL now n pic tm rc fe co cr sv pd st su) (hk : k < 2) (hn : n < 8) (hs : SOk (kd, li, fi, se)) (hkd : kd = 0 ∨ kd = 1 ∨ kd = 2 ∨ kd = 3) (hf : fi.toInt ≤ 1000) (he : se.toInt ≤ 1000) : VL now (n + 1) (fun a => if a = n then k else pic a) tm rc fe co cr (fun a => if a = n then (kd, li, fi, se) else sv a) (fun a => if a = n then 0 else pd a) st su := by
  obtain ⟨v1, v2, v3, v4, v5, v6, v7, v8, v9⟩ := V
  refine ⟨v1, hn, v3, v4, v5, v6, v7, fun j hj => ?_, fun j hj => ?_⟩
  · show (if j = n then k else pic j) < 2 ∧ SOk (if j = n then (kd, li, fi, se) else sv j) ∧ ((if j = n then (kd, li, fi, se) else sv j).1 = 0 ∨ (if j = n then (kd, li, fi, se) else sv j).1 = 1 ∨ (if j = n then (kd, li, fi, se) else sv j).1 = 2 ∨ (if j = n then (kd, li, fi, se) else sv j).1 = 3) ∧ (if j = n then (kd, li, fi, se) else sv j).2.2.1.toInt ≤ 1000 ∧ (if j = n then (kd, li, fi, se) else sv j).2.2.2.toInt ≤ 1000
    by_cases e : j = n
    · rw [if_pos e, if_pos e]
      exact ⟨hk, hs, hkd, hf, he⟩
    · rw [if_neg e, if_neg e]
      exact v8 j (by omega)
  · show 0 ≤ (if j = n then (0 : Int32) else pd j).toInt
    by_cases e : j = n
    · rw [if_pos e]
      decide
    · rw [if_neg e]
      exact v9 j (by omega)
/-- more receipts make no share of the gross, and no bonus, less -/
theorem VL.grow {st' : Nat} {rc' : Nat → Nat → Nat → Int32} (V : VL now n pic tm rc fe co cr sv pd st su) (V' : VL now n pic tm rc' fe co cr sv pd st' su) (hst : st ≤ 18 ∧ su ≤ 18) (hst' : st' ≤ 18 ∧ su ≤ 18) (hle : ∀ k y w, k < 2 → y < 10 → w < 4 → (rc k y w).toInt ≤ (rc' k y w).toInt) {j : Nat} (hj : j < n) (hkd : (sv j).1 = 0 ∨ (sv j).1 = 3) : ¬ Int64.toInt32 (sumL tm rc fe co cr pic sv n now j) > Int64.toInt32 (sumL tm rc' fe co cr pic sv n now j) := by
  intro q
  have q2 := Int32.lt_iff_toInt_lt.mp q
  rw [(V.sm0 hst hj).1, (V'.sm0 hst' hj).1] at q2
  have hn := V.1
  have v8 := V.2.2.2.2.2.2.2.1 j hj
  have hk := v8.1
  have g := V.gaf hst (y := now + 1) (by omega) hk
  have g' := V'.gaf hst' (y := now + 1) (by omega) hk
  obtain ⟨g1, g2, g3, g4, g5, g6, -⟩ := g
  obtain ⟨k1, k2, k3, k4, k5, k6, -⟩ := g'
  have c1 := V.cok hst hk
  have c2 := V'.cok hst' hk
  have mA := sumA_mono (top := (tm (pic j)).1) (f := rc (pic j)) (g := rc' (pic j)) c1.2.2.2.1 c2.2.2.2.1 (fun y w hy hw => hle (pic j) y w hk hy hw) c1.1 (now + 1) (by omega)
  have mG := sumI_mono2 (f := rc (pic j)) (g := rc' (pic j)) (fun y w hy hw => hle (pic j) y w hk hy hw) (now + 1) (by omega)
  unfold sumL sumF at q2
  rcases hkd with h | h
  · rw [if_pos h, if_pos h, g4, k4] at q2
    have m := shareOf_mono (q := sv j) g5 mA (by omega) v8.2.1
    omega
  · have f0 : ¬ (sv j).1 = 0 := fun e => absurd (e.symm.trans h) (by decide)
    have f1 : ¬ (sv j).1 = 1 := fun e => absurd (e.symm.trans h) (by decide)
    have f2 : ¬ (sv j).1 = 2 := fun e => absurd (e.symm.trans h) (by decide)
    rw [if_neg f0, if_neg f1, if_neg f2, if_neg f0, if_neg f1, if_neg f2] at q2
    have m := bonusAt_mono (g := (yRun cr (lcon tm rc fe co pic sv n) (now + 1) (pic j)).1) (g' := (yRun cr (lcon tm rc' fe co pic sv n) (now + 1) (pic j)).1) (q := sv j) (by rw [g1, k1]; exact mG) v8.2.1
    omega
theorem VL.growG {k w : Nat} {t : Int32} (V : VL now n pic tm rc fe co cr sv pd st su) (V' : VL now n pic tm (rcU rc k now w (rc k now w + t)) fe co cr sv pd (st + 1) su) (hst : st ≤ 17 ∧ su ≤ 18) (hk : k < 2) (hw : w < 4) (ea : (rc k now w + t).toInt = (rc k now w).toInt + t.toInt) : Int64.toInt32 (yRun cr (lcon tm (rcU rc k now w (rc k now w + t)) fe co pic sv n) (now + 1) k).1 = Int64.toInt32 (yRun cr (lcon tm rc fe co pic sv n) (now + 1) k).1 + t := by
  have hn := V.1
  obtain ⟨g1, g2, g3, -⟩ := V.gaf (by omega) (y := now + 1) (by omega) hk
  obtain ⟨k1, k2, k3, -⟩ := V'.gaf (by omega) (y := now + 1) (by omega) hk
  have e2 := sumI_upd (f := rc k) (g := rcU rc k now w (rc k now w + t) k) (y := now) (w := w) (t := rc k now w + t) hw (fun b c => by
    show (if k = k ∧ b = now ∧ c = w then rc k now w + t else rc k b c) = _
    by_cases q : b = now ∧ c = w
    · rw [if_pos ⟨rfl, q⟩, if_pos q]
    · rw [if_neg (fun z => q z.2), if_neg q]) (now + 1)
  rw [if_pos (Nat.lt_succ_self now)] at e2
  have e1 := t32 (S := (yRun cr (lcon tm rc fe co pic sv n) (now + 1) k).1) (by omega) (by omega)
  have e3 := t32 (S := (yRun cr (lcon tm (rcU rc k now w (rc k now w + t)) fe co pic sv n) (now + 1) k).1) (by omega) (by omega)
  apply Int32.toInt_inj.mp
  have b := r32 t
  rw [a32 (by omega) (by omega)]
  omega
end LB
