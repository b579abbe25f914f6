/-! The law's steps: pay, setRates, setCrossed, year, sharers. -/
theorem t32 {S : Int64} (h0 : 0 ≤ S.toInt) (h1 : S.toInt ≤ 512000000) : (Int64.toInt32 S).toInt = S.toInt := by
  rw [Int64.toInt_toInt32]
  exact Int.bmod_eq_of_le (by omega) (by omega)
section WE
variable {l : Launch} {D : va_G} {z : Nat}
variable {L : List Nat} {K N : Nat → Nat} {I : Nat → Nat → Int32} {J : Nat → Nat → Int64} {R : Nat → Nat → Option Nat}
variable {e0 x m ou st : Nat}
theorem op_pay (hfl : l.stackTraces = false) (hst : st ≤ 511) (hR : REL e0 x m ou st L K N I J R) (p0 : Int32) : MG l yL_pay wsL_pay rm_L_pay D z e0 L K N I J R [.ref x, .int p0, .ref ou] (OPost l D z e0 x m ou st L K N R yX3_pay wsX3_pay rm_X3_pay [.ref m, .int p0]) := by
  have hR0 := hR
  obtain ⟨now, n, pic, tm, rc, fe, co, cr, sv, pd, C, M, V, hO⟩ := hR
  have hx := C.1
  have hX := hx.1
  have hmc := rel_mc C M V
  rcases sharer_cases V.2.1 p0 with ⟨j, hj, rfl⟩ | ⟨q1, q2⟩
  · have hs := rel_sh C V hj
    have es := rel_sum C M V hj
    have ep := (C.2.2.2.1 j hj).2.2.2.2.2.2
    have ep2 := (M.2.2.2.2.2.1 j hj).2.2
    have hq := (C.2.2.2.1 j hj).2.1
    obtain ⟨rr0, rr1⟩ := rel_rng C M V (by omega) hj
    have pj := V.2.2.2.2.2.2.2.2 j hj
    have bj := r32 (pd j)
    have e32 := t32 rr0 rr1
    have hd := s64 (rfl : (smf I R m pic (shC I R x) n now j).toInt = _) (w64 (pd j)) (by omega) (by omega)
    have h32 : (Int64.toInt32 (smf I R m pic (shC I R x) n now j) - pd j).toInt = (smf I R m pic (shC I R x) n now j).toInt - (pd j).toInt := by rw [s32 (by omega) (by omega), e32]
    have hJ3 : ∀ (J1 J3 : Nat → Nat → Int64), JF R m J1 J3 → ∀ a, a ∈ L → 1600 ≤ K a → J3 a = J1 a := fun J1 J3 h a ha hk => h a (fun e => by rw [e, (M.1.cel 15 1158 20 (by decide)).2.2.1] at hk; omega) (fun e => by rw [e, (M.1.cel 16 1174 20 (by decide)).2.2.1] at hk; omega) (fun e => by rw [e, (M.1.cel 17 1190 2 (by decide)).2.2.1] at hk; omega)
    by_cases hp : Int64.toInt32 (smf I R m pic (shC I R x) n now j) - pd j > 0
    · have hp2 : 0 < (smf I R m pic (shC I R x) n now j).toInt - (pd j).toInt := by
        have h := Int32.lt_iff_toInt_lt.mp hp
        rw [h32] at h
        exact h
      refine (w_pay l D z e0 L K N I J R x ou (nI j) hX hO _ (c_pay l D z e0 L K N I J R x now n (fun k => cnt pic k n) hx j _ (pic j) (cnt pic (pic j) j) hj rfl hs (by rw [es, ep, Int64.lt_iff_toInt_lt, hd]; exact hp2)) (fun v I' J' h => ⟨_, h.1⟩)).mono (fun v I1 J1 h => ?_)
      obtain ⟨h1', V', J2, ⟨h2', h3', J9, hB, h4'⟩, h5'⟩ := h
      have h3' := h3'.symm
      subst h3'
      cases h2'
      refine ⟨0, _, h1', fun _ => by rw [h5']; exact u2_s, (m_pay l D z e0 L K N I J1 R m now n pic _ hmc j hj (by rw [ep2]; exact hp)).mono (fun v I2 J3 h => ?_)⟩
      obtain ⟨g1, g2, g3⟩ := h
      rw [ep2] at g1 g2
      rw [show pd j + (Int64.toInt32 (smf I R m pic (shC I R x) n now j) - pd j) = Int64.toInt32 (smf I R m pic (shC I R x) n now j) by rw [Int32.add_comm, Int32.sub_add_cancel]] at g2
      have j1 : ∀ a, a ∈ L → 1600 ≤ K a → J3 a = J2 a := fun a ha hk => by
        rw [hJ3 J1 J3 g3 a ha hk, h5']
        exact funext fun i => u2_a (fun e => by rw [e, hO.2.1] at hk; omega)
      have jq : J3 (shA R (dr R x 2) j) 6 = (Int64.toInt32 (smf I R m pic (shC I R x) n now j)).toInt64 := by
        rw [j1 _ hq.1 (by rw [hq.2.1]; omega), h4', u2_s, es, ep]
        apply Int64.toInt_inj.mp
        rw [w64, e32, Int64.add_comm, Int64.sub_add_cancel]
      have jo : ∀ i, i < n → i ≠ j → J3 (shA R (dr R x 2) i) 6 = J (shA R (dr R x 2) i) 6 := fun i hi hij => by
        have hqi := (C.2.2.2.1 i hi).2.1
        have hk : 1600 ≤ K (shA R (dr R x 2) i) := by rw [hqi.2.1]; omega
        rw [j1 _ hqi.1 hk, h4', u2_a (hqi.ne hq (by omega)), bm_keep C hB _ hqi.1 hk]
      have hv : J3 ou 0 = Int32.toInt64 (Int64.toInt32 (sumF (yRun (I x 3) (fun k => pcon I R (dr R x k) (cnt pic k n)) (now + 1) (pic j)).2.1 (yRun (I x 3) (fun k => pcon I R (dr R x k) (cnt pic k n)) (now + 1) (pic j)).1 (yRun (I x 3) (fun k => pcon I R (dr R x k) (cnt pic k n)) (now + 1) (pic j)).2.2.2.2.2 (shV I (shA R (dr R x 2) j)) (fun i => shV I (shA R (dr R (dr R x (pic j)) 3) i)) (cnt pic (pic j) n) (cnt pic (pic j) j) - J (shA R (dr R x 2) j) 6)) := by
        rw [g3 ou (hO.ne (M.1.cel 15 1158 20 (by decide)).2 (by decide)) (hO.ne (M.1.cel 16 1174 20 (by decide)).2 (by decide)) (hO.ne (M.1.cel 17 1190 2 (by decide)).2 (by decide)), h5']
        exact u2_s
      subst g2
      exact ⟨_, g1, (u2_a (M.1.nx 13 1141 8 (by decide)).symm).trans u2_s, fun _ => ⟨by rw [es, ep, Int64.toInt32_sub, Int32.toInt32_toInt64], hv⟩, now, n, pic, tm, rc, fe, co, cr, sv, _, (C.paid (v := Int64.toInt32 (smf I R m pic (shC I R x) n now j)) hj jq jo).at1 (m := m) ((M.1.cel 13 1141 8 (by decide)).2) M.1.1 (fun b h1 h2 => funext fun i => by rw [u2_a h1, u2_a h2]) (by omega) (fun _ _ _ => rfl), (M.thr 0).paid hj _, V.paid (by rw [e32]; exact rr0), hO⟩
    · have hp2 : ¬ 0 < (smf I R m pic (shC I R x) n now j).toInt - (pd j).toInt := fun h => hp (by
        show (0 : Int32) < _
        rw [Int32.lt_iff_toInt_lt, h32]
        exact h)
      refine (w_pay_2 l D z e0 L K N I J R x ou (nI j) hX hO _ (x_pay2 l D z e0 L K N I J R hfl x now n (fun k => cnt pic k n) hx j _ (pic j) (cnt pic (pic j) j) hj rfl hs (by rw [es, ep, Int64.lt_iff_toInt_lt, hd]; exact hp2))).mono (fun v I1 J1 h => ?_)
      obtain ⟨h1', h3', hB⟩ := h
      have h3' := h3'.symm
      subst h3'
      refine ⟨2, 0, h1', fun h => absurd h (by decide), (m_pay2 l D z e0 L K N I J1 R m now n pic _ hmc j hj (by rw [ep2]; exact hp)).mono (fun v I2 J3 h => ?_)⟩
      obtain ⟨g1, g2, g3⟩ := h
      subst g2
      exact ⟨0, g1, u2_s, fun h => absurd h (by decide), rel_keep C M V hO 2 (fun a ha hk => (hJ3 J1 J3 g3 a ha hk).trans (bm_keep C hB a ha hk))⟩
  · exact op_fail (c := 1) hR0 (by decide) (w_pay_1 l D z e0 L K N I J R x ou p0 hX hO _ (x_pay1 l D z e0 L K N I J R hfl x now n (fun k => cnt pic k n) hx p0 q1)) (m_pay1 l D z e0 L K N I J R m now n pic (shC I R x) hmc p0 q2)
theorem op_setRates (hfl : l.stackTraces = false) (hR : REL e0 x m ou st L K N I J R) (p0 p1 p2 p3 : Int32) : MG l yL_setRates wsL_setRates rm_L_setRates D z e0 L K N I J R [.ref x, .int p0, .int p1, .int p2, .int p3] (fun v I1 J1 => ∃ kc : Int32, v = some (.int kc) ∧ MG l yX3_setRates wsX3_setRates rm_X3_setRates D z e0 L K N I1 J1 R [.ref m, .int p0, .int p1, .int p2, .int p3] (fun v I2 J2 => v = none ∧ I2 m 18 = kc ∧ REL e0 x m ou (st + 1) L K N I2 J2 R)) := by
  obtain ⟨now, n, pic, tm, rc, fe, co, cr, sv, pd, C, M, V, hO⟩ := hR
  have hx := C.1
  have hX := hx.1
  rcases two_cases p0 with ⟨k, hk, rfl⟩ | ⟨q1, q2⟩
  · by_cases hp : (0 ≤ p1 ∧ p1 ≤ 10000) ∧ (0 ≤ p2 ∧ p2 ≤ 10000) ∧ (0 ≤ p3 ∧ p3 ≤ 2000)
    · refine (w_setRates l D z e0 L K N I J R x (nI k) p1 p2 p3 hX _ (c_setRates l D z e0 L K N I J R x now n (fun k => cnt pic k n) hx k hk p1 p2 p3 hp.1 hp.2.1 hp.2.2) (fun v I' J' h => h.1)).mono (fun v I1 J1 h => ?_)
      obtain ⟨h1', h2', h3', h4'⟩ := h
      have h4' := h4'.symm
      subst h4'
      have hwI : ∀ b, b ≠ dr R x k → I1 b = I b := fun b hb => by rw [h3']; exact funext fun j => by rw [u2_a hb, u2_a hb, u2_a hb]
      have M1 := M.at1 (I' := I1) ((C.cells.2.2.1 k hk).1) hwI (by omega)
      have C1 := C.rates hk p1 p2 p3
      rw [← h3'] at C1
      refine ⟨0, h1', (m_setRates l D z e0 L K N I1 J R m M1.1 k hk p1 p2 p3 hp.1 hp.2.1 hp.2.2).mono (fun v I2 J3 h => ?_)⟩
      obtain ⟨g1, g2, g3⟩ := h
      have g3 := g3.symm
      subst g3
      subst g2
      have a3 := (M1.1.cel 3 1013 2 (by decide)).2
      have a4 := (M1.1.cel 4 1029 2 (by decide)).2
      have a5 := (M1.1.cel 5 1045 2 (by decide)).2
      have c1 := C1.at1 (I' := u2 (u2 I1 m 18 0) (dr R m 3) k p1) (J' := J) (m := m) a3 M1.1.1 (fun b h1 h2 => funext fun j => by rw [u2_a h1, u2_a h2]) (by omega) (fun _ _ _ => rfl)
      have c2 := c1.at1 (I' := u2 (u2 (u2 I1 m 18 0) (dr R m 3) k p1) (dr R m 4) k p2) (J' := J) (m := m) a4 M1.1.1 (fun b h1 h2 => funext fun j => by rw [u2_a h1]) (by omega) (fun _ _ _ => rfl)
      have c3 := c2.at1 (I' := u2 (u2 (u2 (u2 I1 m 18 0) (dr R m 3) k p1) (dr R m 4) k p2) (dr R m 5) k p3) (J' := J) (m := m) a5 M1.1.1 (fun b h1 h2 => funext fun j => by rw [u2_a h1]) (by omega) (fun _ _ _ => rfl)
      exact ⟨g1, by rw [u2_a (M1.1.nx 5 1045 2 (by decide)).symm, u2_a (M1.1.nx 4 1029 2 (by decide)).symm, u2_a (M1.1.nx 3 1013 2 (by decide)).symm, u2_s], now, n, pic, _, rc, fe, co, cr, sv, pd, c3, (M1.thr 0).rates p1 p2 p3, V.rates (rat_of hp.1) (rat_of hp.2.1) (rat_of2 hp.2.2), hO⟩
    · refine (w_setRates_2 l D z e0 L K N I J R x (nI k) p1 p2 p3 hX _ (x_setRates2 l D z e0 L K N I J R hfl x now n (fun k => cnt pic k n) hx k hk p1 p2 p3 hp)).mono (fun v I1 J1 h => ?_)
      obtain ⟨h1, h2, h3⟩ := h
      have h2 := h2.symm
      subst h2
      have h3 := h3.symm
      subst h3
      refine ⟨2, h1, (m_setRates2 l D z e0 L K N I J R m M.1 k hk p1 p2 p3 hp).mono (fun v I2 J2 h => ?_)⟩
      obtain ⟨g1, g2, g3⟩ := h
      subst g2
      have g3 := g3.symm
      subst g3
      exact ⟨g1, u2_s, rel_keep C M V hO 2 (fun _ _ _ => rfl)⟩
  · refine (w_setRates_1 l D z e0 L K N I J R x p0 p1 p2 p3 hX _ (x_setRates1 l D z e0 L K N I J R hfl x p0 q1 p1 p2 p3)).mono (fun v I1 J1 h => ?_)
    obtain ⟨h1, h2, h3⟩ := h
    have h2 := h2.symm
    subst h2
    have h3 := h3.symm
    subst h3
    refine ⟨1, h1, (m_setRates1 l D z e0 L K N I J R m M.1 p0 q2 p1 p2 p3).mono (fun v I2 J2 h => ?_)⟩
    obtain ⟨g1, g2, g3⟩ := h
    subst g2
    have g3 := g3.symm
    subst g3
    exact ⟨g1, u2_s, rel_keep C M V hO 1 (fun _ _ _ => rfl)⟩
theorem op_setCrossed (hR : REL e0 x m ou st L K N I J R) (t : Int32) (ht : t = 0 ∨ t = 1) : MG l yX2_setCrossed wsX2_setCrossed rm_X2_setCrossed D z e0 L K N I J R [.ref x, .int t] (fun v I1 J1 => ∃ V : Int32, v = some (.int V) ∧ MG l yX3_setCrossed wsX3_setCrossed rm_X3_setCrossed D z e0 L K N I1 J1 R [.ref m, .int t] (fun v I2 J2 => v = some (.int V) ∧ REL e0 x m ou (st + 1) L K N I2 J2 R)) := by
  obtain ⟨now, n, pic, tm, rc, fe, co, cr, sv, pd, C, M, V, hO⟩ := hR
  have hx := C.1
  have hX := hx.1
  have hmc := rel_mc C M V
  refine (c_setCrossed l D z e0 L K N I J R x now n (fun k => cnt pic k n) hx t ht).mono (fun v I1 J1 h => ?_)
  obtain ⟨h1, h2, h3⟩ := h
  have h3 := h3.symm
  subst h3
  have hwI : ∀ b, b ≠ x → I1 b = I b := fun b hb => by rw [h2]; exact funext fun j => u2_a hb
  have M1 := M.at1 (I' := I1) hX hwI (by omega)
  have C1 := C.crossed ht
  rw [← h2] at C1
  refine ⟨_, h1, (m_setCrossed l D z e0 L K N I1 J R m M1.1 (by rw [M1.2.2.2.1]; exact V.2.2.1) t ht).mono (fun v I2 J3 h => ?_)⟩
  obtain ⟨g1, g2, g3⟩ := h
  have g3 := g3.symm
  subst g3
  subst g2
  exact ⟨g1.trans (by rw [M1.2.2.2.1, C.2.1]), now, n, pic, tm, rc, fe, co, t, sv, pd, C1.at1 (m := m) M1.1.1 M1.1.1 (fun b h1 h2 => funext fun j => by rw [u2_a h1, u2_a h2]) (by omega) (fun _ _ _ => rfl), (M1.thr 0).crossed t, V.crossed ht, hO⟩
theorem op_year (hR : REL e0 x m ou st L K N I J R) : MG l yX2_year wsX2_year rm_X2_year D z e0 L K N I J R [.ref x] (fun v I1 J1 => ∃ V : Int32, v = some (.int V) ∧ MG l yX3_year wsX3_year rm_X3_year D z e0 L K N I1 J1 R [.ref m] (fun v I2 J2 => v = some (.int V) ∧ REL e0 x m ou (st + 1) L K N I2 J2 R)) := by
  obtain ⟨now, n, pic, tm, rc, fe, co, cr, sv, pd, C, M, V, hO⟩ := hR
  have hx := C.1
  have hX := hx.1
  have hmc := rel_mc C M V
  refine (c_year l D z e0 L K N I J R x now n (fun k => cnt pic k n) hx).mono (fun v I1 J1 h => ?_)
  obtain ⟨h1, h2, h3⟩ := h
  have h2 := h2.symm
  subst h2
  have h3 := h3.symm
  subst h3
  refine ⟨_, h1, (m_year l D z e0 L K N I J R m now n pic (shC I R x) hmc).mono (fun v I2 J3 h => ?_)⟩
  obtain ⟨g1, g2, g3⟩ := h
  have g3 := g3.symm
  subst g3
  subst g2
  exact ⟨g1, rel_keep C M V hO 0 (fun _ _ _ => rfl)⟩
theorem op_sharers (hR : REL e0 x m ou st L K N I J R) : MG l yX2_sharers wsX2_sharers rm_X2_sharers D z e0 L K N I J R [.ref x] (fun v I1 J1 => ∃ V : Int32, v = some (.int V) ∧ MG l yX3_sharers wsX3_sharers rm_X3_sharers D z e0 L K N I1 J1 R [.ref m] (fun v I2 J2 => v = some (.int V) ∧ REL e0 x m ou (st + 1) L K N I2 J2 R)) := by
  obtain ⟨now, n, pic, tm, rc, fe, co, cr, sv, pd, C, M, V, hO⟩ := hR
  have hx := C.1
  have hX := hx.1
  have hmc := rel_mc C M V
  refine (c_sharers l D z e0 L K N I J R x now n (fun k => cnt pic k n) hx).mono (fun v I1 J1 h => ?_)
  obtain ⟨h1, h2, h3⟩ := h
  have h2 := h2.symm
  subst h2
  have h3 := h3.symm
  subst h3
  refine ⟨_, h1, (m_sharers l D z e0 L K N I J R m now n pic (shC I R x) hmc).mono (fun v I2 J3 h => ?_)⟩
  obtain ⟨g1, g2, g3⟩ := h
  have g3 := g3.symm
  subst g3
  subst g2
  exact ⟨g1, rel_keep C M V hO 0 (fun _ _ _ => rfl)⟩
end WE
