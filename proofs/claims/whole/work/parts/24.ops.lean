/-! The law's steps that change nothing, and those that both refuse. -/
theorem two_cases (q : Int32) : (∃ k, k < 2 ∧ q = nI k) ∨ ((q < 0 ∨ ¬ q < 2) ∧ ¬ (0 ≤ q ∧ q ≤ 1)) := by
  by_cases h0 : q < 0
  · exact Or.inr ⟨Or.inl h0, fun h => absurd h.1 (Int32.not_le.mpr h0)⟩
  · obtain ⟨j, hj, rfl⟩ := nI_of h0
    by_cases h2 : j < 2
    · exact Or.inl ⟨j, h2, rfl⟩
    · refine Or.inr ⟨Or.inr (show ¬ nI j < nI 2 from nI_nlt (by omega) hj), fun h => ?_⟩
      have h3 := (nI_leI (b := 1) hj (by decide)).mp h.2
      omega
theorem four_cases (q : Int32) : (∃ k, k < 4 ∧ q = nI k) ∨ ((q < 0 ∨ ¬ q < 4) ∧ ¬ (0 ≤ q ∧ q ≤ 3)) := by
  by_cases h0 : q < 0
  · exact Or.inr ⟨Or.inl h0, fun h => absurd h.1 (Int32.not_le.mpr h0)⟩
  · obtain ⟨j, hj, rfl⟩ := nI_of h0
    by_cases h2 : j < 4
    · exact Or.inl ⟨j, h2, rfl⟩
    · refine Or.inr ⟨Or.inr (show ¬ nI j < nI 4 from nI_nlt (by omega) hj), fun h => ?_⟩
      have h3 := (nI_leI (b := 3) hj (by decide)).mp h.2
      omega
theorem year_cases {now : Nat} (hn : now < 10) (q : Int32) : (∃ y, y ≤ now ∧ q = nI y) ∨ ¬ (0 ≤ q ∧ q ≤ nI now) := by
  by_cases h : 0 ≤ q ∧ q ≤ nI now
  · obtain ⟨j, hj, rfl⟩ := nI_of (Int32.not_lt.mpr h.1)
    exact Or.inl ⟨j, (nI_leI hj (by omega)).mp h.2, rfl⟩
  · exact Or.inr h
theorem sharer_cases {n : Nat} (hn : n ≤ 8) (q : Int32) : (∃ j, j < n ∧ q = nI j) ∨ ((q < 0 ∨ ¬ q < nI n) ∧ ¬ (0 ≤ q ∧ q ≤ nI n - 1)) := by
  by_cases h0 : q < 0
  · exact Or.inr ⟨Or.inl h0, fun h => absurd h.1 (Int32.not_le.mpr h0)⟩
  · obtain ⟨j, hj, rfl⟩ := nI_of h0
    by_cases h2 : j < n
    · exact Or.inl ⟨j, h2, rfl⟩
    · refine Or.inr ⟨Or.inr (nI_nlt (by omega) hj), fun h => ?_⟩
      by_cases hz : n = 0
      · subst hz
        have h3 : (nI j).toInt ≤ (nI 0 - 1).toInt := Int32.le_iff_toInt_le.mp h.2
        rw [nI_toInt hj] at h3
        have h4 : (nI 0 - 1).toInt = -1 := by decide
        omega
      · rw [nI_sub1 (by omega)] at h
        have h3 := (nI_leI hj (by omega)).mp h.2
        omega
theorem audit_cases {now : Nat} (hn : now < 10) (q : Int32) : (∃ y, y < now ∧ now ≤ y + 3 ∧ q = nI y) ∨ (¬ (¬ q < 0 ∧ ¬ q < nI now - 3 ∧ q < nI now) ∧ ¬ (¬ q < 0 ∧ ¬ nI now ≤ q ∧ nI now - q ≤ 3)) := by
  by_cases h0 : q < 0
  · exact Or.inr ⟨fun h => h.1 h0, fun h => h.1 h0⟩
  · obtain ⟨j, hj, rfl⟩ := nI_of h0
    by_cases h1 : j < now
    · by_cases h2 : now ≤ j + 3
      · exact Or.inl ⟨j, h1, h2, rfl⟩
      · refine Or.inr ⟨fun h => h.2.1 ?_, fun h => sub_gt3 h2 (by omega) h.2.2⟩
        have h3 := pk_sub_toInt (a := now) (b := 3) (by omega) (by decide)
        have e : (nI now - 3).toInt = (now : Int) - 3 := h3
        rw [Int32.lt_iff_toInt_lt, e, nI_toInt hj]
        omega
    · exact Or.inr ⟨fun h => h1 ((nI_ltI hj (by omega)).mp h.2.2), fun h => h.2.1 (nI_le (by omega) hj)⟩
section OA
variable {l : Launch} {D : va_G} {z : Nat}
variable {L : List Nat} {K N : Nat → Nat} {I : Nat → Nat → Int32} {J : Nat → Nat → Int64} {R : Nat → Nat → Option Nat}
variable {e0 x m ou st : Nat}
theorem op_gross (hfl : l.stackTraces = false) (hst : st ≤ 511) (hR : REL e0 x m ou st L K N I J R) (p0 : Int32) : MG l yL_gross wsL_gross rm_L_gross D z e0 L K N I J R [.ref x, .int p0, .ref ou] (OPost l D z e0 x m ou st L K N R yX3_gross wsX3_gross rm_X3_gross [.ref m, .int p0]) := by
  have hR0 := hR
  obtain ⟨now, n, pic, tm, rc, fe, co, cr, sv, pd, C, M, V, hO⟩ := hR
  have hx := C.1
  have hX := hx.1
  have hmc := rel_mc C M V
  rcases two_cases p0 with ⟨k, hk, rfl⟩ | ⟨q1, q2⟩
  · have ez := rel_z C M (show now + 1 ≤ 10 from V.1) hk
    have es := (yRun_sums (I m 6) (mcon I R m pic (shC I R x) n) k (now + 1)).1
    refine op_read hR0 (fun J' h => bm_keep C h) (w_gross l D z e0 L K N I J R x ou (nI k) hX hO _ (c_gross l D z e0 L K N I J R x now n (fun k => cnt pic k n) hx k hk) (fun v I' J' h => ⟨_, h.1⟩)) (fun J1 => (m_gross l D z e0 L K N I J1 R m now n pic (shC I R x) hmc k hk).mono (fun v I' J' h => ⟨h.1.trans ?_, h.2.1, by rw [h.2.2]; exact fun _ _ _ _ => rfl⟩))
    rw [ez, es]; rfl
  · exact op_fail (c := 1) hR0 (by decide) (w_gross_1 l D z e0 L K N I J R x ou p0 hX hO _ (x_gross1 l D z e0 L K N I J R hfl x p0 q1)) (m_gross1 l D z e0 L K N I J R m M.1 p0 q2)
theorem op_adjusted (hfl : l.stackTraces = false) (hst : st ≤ 511) (hR : REL e0 x m ou st L K N I J R) (p0 : Int32) : MG l yL_adjusted wsL_adjusted rm_L_adjusted D z e0 L K N I J R [.ref x, .int p0, .ref ou] (OPost l D z e0 x m ou st L K N R yX3_adjusted wsX3_adjusted rm_X3_adjusted [.ref m, .int p0]) := by
  have hR0 := hR
  obtain ⟨now, n, pic, tm, rc, fe, co, cr, sv, pd, C, M, V, hO⟩ := hR
  have hx := C.1
  have hX := hx.1
  have hmc := rel_mc C M V
  rcases two_cases p0 with ⟨k, hk, rfl⟩ | ⟨q1, q2⟩
  · have ez := rel_z C M (show now + 1 ≤ 10 from V.1) hk
    have es := (yRun_sums (I m 6) (mcon I R m pic (shC I R x) n) k (now + 1)).2.1
    refine op_read hR0 (fun J' h => bm_keep C h) (w_adjusted l D z e0 L K N I J R x ou (nI k) hX hO _ (c_adjusted l D z e0 L K N I J R x now n (fun k => cnt pic k n) hx k hk) (fun v I' J' h => ⟨_, h.1⟩)) (fun J1 => (m_adjusted l D z e0 L K N I J1 R m now n pic (shC I R x) hmc k hk).mono (fun v I' J' h => ⟨h.1.trans ?_, h.2.1, by rw [h.2.2]; exact fun _ _ _ _ => rfl⟩))
    rw [ez, es]; rfl
  · exact op_fail (c := 1) hR0 (by decide) (w_adjusted_1 l D z e0 L K N I J R x ou p0 hX hO _ (x_adjusted1 l D z e0 L K N I J R hfl x p0 q1)) (m_adjusted1 l D z e0 L K N I J R m M.1 p0 q2)
theorem op_fees (hfl : l.stackTraces = false) (hst : st ≤ 511) (hR : REL e0 x m ou st L K N I J R) (p0 : Int32) : MG l yL_fees wsL_fees rm_L_fees D z e0 L K N I J R [.ref x, .int p0, .ref ou] (OPost l D z e0 x m ou st L K N R yX3_fees wsX3_fees rm_X3_fees [.ref m, .int p0]) := by
  have hR0 := hR
  obtain ⟨now, n, pic, tm, rc, fe, co, cr, sv, pd, C, M, V, hO⟩ := hR
  have hx := C.1
  have hX := hx.1
  have hmc := rel_mc C M V
  rcases two_cases p0 with ⟨k, hk, rfl⟩ | ⟨q1, q2⟩
  · have ez := rel_z C M (show now + 1 ≤ 10 from V.1) hk
    have es := (yRun_sums (I m 6) (mcon I R m pic (shC I R x) n) k (now + 1)).2.2.1
    refine op_read hR0 (fun J' h => bm_keep C h) (w_fees l D z e0 L K N I J R x ou (nI k) hX hO _ (c_fees l D z e0 L K N I J R x now n (fun k => cnt pic k n) hx k hk) (fun v I' J' h => ⟨_, h.1⟩)) (fun J1 => (m_fees l D z e0 L K N I J1 R m now n pic (shC I R x) hmc k hk).mono (fun v I' J' h => ⟨h.1.trans ?_, h.2.1, by rw [h.2.2]; exact fun _ _ _ _ => rfl⟩))
    rw [ez, es]; rfl
  · exact op_fail (c := 1) hR0 (by decide) (w_fees_1 l D z e0 L K N I J R x ou p0 hX hO _ (x_fees1 l D z e0 L K N I J R hfl x p0 q1)) (m_fees1 l D z e0 L K N I J R m M.1 p0 q2)
theorem op_pool (hfl : l.stackTraces = false) (hst : st ≤ 511) (hR : REL e0 x m ou st L K N I J R) (p0 : Int32) : MG l yL_pool wsL_pool rm_L_pool D z e0 L K N I J R [.ref x, .int p0, .ref ou] (OPost l D z e0 x m ou st L K N R yX3_pool wsX3_pool rm_X3_pool [.ref m, .int p0]) := by
  have hR0 := hR
  obtain ⟨now, n, pic, tm, rc, fe, co, cr, sv, pd, C, M, V, hO⟩ := hR
  have hx := C.1
  have hX := hx.1
  have hmc := rel_mc C M V
  rcases two_cases p0 with ⟨k, hk, rfl⟩ | ⟨q1, q2⟩
  · have ez := rel_z C M (show now + 1 ≤ 10 from V.1) hk
    refine op_read hR0 (fun J' h => bm_keep C h) (w_pool l D z e0 L K N I J R x ou (nI k) hX hO _ (c_poolP l D z e0 L K N I J R x now n (fun k => cnt pic k n) hx k hk) (fun v I' J' h => ⟨_, h.1⟩)) (fun J1 => (m_pool l D z e0 L K N I J1 R m now n pic (shC I R x) hmc k hk).mono (fun v I' J' h => ⟨h.1.trans ?_, h.2.1, h.2.2⟩))
    rw [ez]; rfl
  · exact op_fail (c := 1) hR0 (by decide) (w_pool_1 l D z e0 L K N I J R x ou p0 hX hO _ (x_pool1 l D z e0 L K N I J R hfl x p0 q1)) (m_pool1 l D z e0 L K N I J R m M.1 p0 q2)
theorem op_balance (hfl : l.stackTraces = false) (hst : st ≤ 511) (hR : REL e0 x m ou st L K N I J R) (p0 p1 : Int32) : MG l yL_balance wsL_balance rm_L_balance D z e0 L K N I J R [.ref x, .int p0, .int p1, .ref ou] (OPost l D z e0 x m ou st L K N R yX3_balance wsX3_balance rm_X3_balance [.ref m, .int p0, .int p1]) := by
  have hR0 := hR
  obtain ⟨now, n, pic, tm, rc, fe, co, cr, sv, pd, C, M, V, hO⟩ := hR
  have hx := C.1
  have hX := hx.1
  have hmc := rel_mc C M V
  rcases two_cases p0 with ⟨k, hk, rfl⟩ | ⟨q1, q2⟩
  · rcases year_cases V.1 p1 with ⟨y, hy, rfl⟩ | q3
    · have ez := rel_z C M (show y + 1 ≤ 10 by have := V.1; omega) hk
      refine op_read hR0 (fun J' h => bm_keep C h) (w_balance l D z e0 L K N I J R x ou (nI k) (nI y) hX hO _ (c_balance l D z e0 L K N I J R x now n (fun k => cnt pic k n) hx k hk y hy) (fun v I' J' h => ⟨_, h.1⟩)) (fun J1 => (m_balance l D z e0 L K N I J1 R m now n pic (shC I R x) hmc k hk y hy).mono (fun v I' J' h => ⟨h.1.trans ?_, h.2.1, h.2.2⟩))
      rw [ez]
    · exact op_fail (c := 2) hR0 (by decide) (w_balance_2 l D z e0 L K N I J R x ou (nI k) p1 hX hO _ (x_balance2 l D z e0 L K N I J R hfl x now n (fun k => cnt pic k n) hx k hk p1 q3)) (m_balance2 l D z e0 L K N I J R m now n pic (shC I R x) hmc k hk p1 q3)
  · exact op_fail (c := 1) hR0 (by decide) (w_balance_1 l D z e0 L K N I J R x ou p0 p1 hX hO _ (x_balance1 l D z e0 L K N I J R hfl x p0 q1 p1)) (m_balance1 l D z e0 L K N I J R m M.1 p0 q2 p1)
theorem op_profit (hfl : l.stackTraces = false) (hst : st ≤ 511) (hR : REL e0 x m ou st L K N I J R) (p0 p1 : Int32) : MG l yL_profit wsL_profit rm_L_profit D z e0 L K N I J R [.ref x, .int p0, .int p1, .ref ou] (OPost l D z e0 x m ou st L K N R yX3_profit wsX3_profit rm_X3_profit [.ref m, .int p0, .int p1]) := by
  have hR0 := hR
  obtain ⟨now, n, pic, tm, rc, fe, co, cr, sv, pd, C, M, V, hO⟩ := hR
  have hx := C.1
  have hX := hx.1
  have hmc := rel_mc C M V
  rcases two_cases p0 with ⟨k, hk, rfl⟩ | ⟨q1, q2⟩
  · rcases year_cases V.1 p1 with ⟨y, hy, rfl⟩ | q3
    · have ez := rel_z C M (show y + 1 ≤ 10 by have := V.1; omega) hk
      refine op_read hR0 (fun J' h => bm_keep C h) (w_profit l D z e0 L K N I J R x ou (nI k) (nI y) hX hO _ (c_profit l D z e0 L K N I J R x now n (fun k => cnt pic k n) hx k hk y hy) (fun v I' J' h => ⟨_, h.1⟩)) (fun J1 => (m_profit l D z e0 L K N I J1 R m now n pic (shC I R x) hmc k hk y hy).mono (fun v I' J' h => ⟨h.1.trans ?_, h.2.1, h.2.2⟩))
      rw [ez]
    · exact op_fail (c := 2) hR0 (by decide) (w_profit_2 l D z e0 L K N I J R x ou (nI k) p1 hX hO _ (x_profit2 l D z e0 L K N I J R hfl x now n (fun k => cnt pic k n) hx k hk p1 q3)) (m_profit2 l D z e0 L K N I J R m now n pic (shC I R x) hmc k hk p1 q3)
  · exact op_fail (c := 1) hR0 (by decide) (w_profit_1 l D z e0 L K N I J R x ou p0 p1 hX hO _ (x_profit1 l D z e0 L K N I J R hfl x p0 q1 p1)) (m_profit1 l D z e0 L K N I J R m M.1 p0 q2 p1)
theorem op_sum (hfl : l.stackTraces = false) (hst : st ≤ 511) (hR : REL e0 x m ou st L K N I J R) (p0 : Int32) : MG l yL_sum wsL_sum rm_L_sum D z e0 L K N I J R [.ref x, .int p0, .ref ou] (OPost l D z e0 x m ou st L K N R yX3_sum wsX3_sum rm_X3_sum [.ref m, .int p0]) := by
  have hR0 := hR
  obtain ⟨now, n, pic, tm, rc, fe, co, cr, sv, pd, C, M, V, hO⟩ := hR
  have hx := C.1
  have hX := hx.1
  have hmc := rel_mc C M V
  rcases sharer_cases V.2.1 p0 with ⟨j, hj, rfl⟩ | ⟨q1, q2⟩
  · have hs := rel_sh C V hj
    have es := rel_sum C M V hj
    have ep := (C.2.2.2.1 j hj).2.2.2.2.2.2
    have ep2 := (M.2.2.2.2.2.1 j hj).2.2
    refine op_read hR0 (fun J' h => bm_keep C h) (w_sum l D z e0 L K N I J R x ou (nI j) hX hO _ (c_sum l D z e0 L K N I J R x now n (fun k => cnt pic k n) hx j _ (pic j) (cnt pic (pic j) j) hj rfl hs) (fun v I' J' h => ⟨_, h.1⟩)) (fun J1 => (m_sum l D z e0 L K N I J1 R m now n pic (shC I R x) hmc j hj).mono (fun v I' J' h => ⟨h.1.trans ?_, h.2.1, h.2.2⟩))
    rw [← es]
  · exact op_fail (c := 1) hR0 (by decide) (w_sum_1 l D z e0 L K N I J R x ou p0 hX hO _ (x_sum1 l D z e0 L K N I J R hfl x now n (fun k => cnt pic k n) hx p0 q1)) (m_sum1 l D z e0 L K N I J R m now n pic (shC I R x) hmc p0 q2)
theorem op_owed (hfl : l.stackTraces = false) (hst : st ≤ 511) (hR : REL e0 x m ou st L K N I J R) (p0 : Int32) : MG l yL_owed wsL_owed rm_L_owed D z e0 L K N I J R [.ref x, .int p0, .ref ou] (OPost l D z e0 x m ou st L K N R yX3_owed wsX3_owed rm_X3_owed [.ref m, .int p0]) := by
  have hR0 := hR
  obtain ⟨now, n, pic, tm, rc, fe, co, cr, sv, pd, C, M, V, hO⟩ := hR
  have hx := C.1
  have hX := hx.1
  have hmc := rel_mc C M V
  rcases sharer_cases V.2.1 p0 with ⟨j, hj, rfl⟩ | ⟨q1, q2⟩
  · have hs := rel_sh C V hj
    have es := rel_sum C M V hj
    have ep := (C.2.2.2.1 j hj).2.2.2.2.2.2
    have ep2 := (M.2.2.2.2.2.1 j hj).2.2
    refine op_read hR0 (fun J' h => bm_keep C h) (w_owed l D z e0 L K N I J R x ou (nI j) hX hO _ (c_owed l D z e0 L K N I J R x now n (fun k => cnt pic k n) hx j _ (pic j) (cnt pic (pic j) j) hj rfl hs) (fun v I' J' h => ⟨_, h.1⟩)) (fun J1 => (m_owed l D z e0 L K N I J1 R m now n pic (shC I R x) hmc j hj).mono (fun v I' J' h => ⟨h.1.trans ?_, h.2.1, h.2.2⟩))
    rw [← es, ep, ep2, Int64.toInt32_sub, Int32.toInt32_toInt64]
  · exact op_fail (c := 1) hR0 (by decide) (w_owed_1 l D z e0 L K N I J R x ou p0 hX hO _ (x_owed1 l D z e0 L K N I J R hfl x now n (fun k => cnt pic k n) hx p0 q1)) (m_owed1 l D z e0 L K N I J R m now n pic (shC I R x) hmc p0 q2)
theorem op_paid (hfl : l.stackTraces = false) (hst : st ≤ 511) (hR : REL e0 x m ou st L K N I J R) (p0 : Int32) : MG l yL_paid wsL_paid rm_L_paid D z e0 L K N I J R [.ref x, .int p0, .ref ou] (OPost l D z e0 x m ou st L K N R yX3_paid wsX3_paid rm_X3_paid [.ref m, .int p0]) := by
  have hR0 := hR
  obtain ⟨now, n, pic, tm, rc, fe, co, cr, sv, pd, C, M, V, hO⟩ := hR
  have hx := C.1
  have hX := hx.1
  have hmc := rel_mc C M V
  rcases sharer_cases V.2.1 p0 with ⟨j, hj, rfl⟩ | ⟨q1, q2⟩
  · have hs := rel_sh C V hj
    have es := rel_sum C M V hj
    have ep := (C.2.2.2.1 j hj).2.2.2.2.2.2
    have ep2 := (M.2.2.2.2.2.1 j hj).2.2
    refine op_read hR0 (B := fun J' => J' = J) (fun J' h a _ _ => by rw [h]) (w_paid l D z e0 L K N I J R x ou (nI j) hX hO _ (c_paid l D z e0 L K N I J R x now n (fun k => cnt pic k n) hx j _ (pic j) (cnt pic (pic j) j) hj rfl hs) (fun v I' J' h => ⟨_, h.1⟩)) (fun J1 => (m_paid l D z e0 L K N I J1 R m now n pic (shC I R x) hmc j hj).mono (fun v I' J' h => ⟨h.1.trans ?_, h.2.1, h.2.2⟩))
    rw [ep, ep2, Int32.toInt32_toInt64]
  · exact op_fail (c := 1) hR0 (by decide) (w_paid_1 l D z e0 L K N I J R x ou p0 hX hO _ (x_paid1 l D z e0 L K N I J R hfl x now n (fun k => cnt pic k n) hx p0 q1)) (m_paid1 l D z e0 L K N I J R m now n pic (shC I R x) hmc p0 q2)
end OA
