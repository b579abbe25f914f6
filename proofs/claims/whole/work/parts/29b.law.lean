/-! The law: calls of its wrappers, reads of its script. -/
section LV
variable {p : Program} {l : Launch} {e : Env} {R0 : Room} {s : State} {m : MethodId} {args : Array Value} {below : List Frame} {meth : Method} {c : Code} {D : va_G} {z e0 nL : Nat} {own : String} {Ts : List Cond} {cc : ByteArray} {L : List Nat} {K N : Nat → Nat} {I : Nat → Nat → Int32} {J : Nat → Nat → Int64} {R : Nat → Nat → Option Nat} {cells slots : Nat} {Q : State → Prop} {pc : Nat} {lv : List (Nat × Value)} {st stk : List Value}
theorem x_callSW (hc : CT p l s m args meth c D z e0 cc nL own Ts) {index n maxL : Nat} {y : MethodName} {ws ws' : List Cond} {bytes : ByteArray} {ret : Option FieldType} {hh : List (Nat × Nat × Nat × Nat)} {rm : Room} {As : List Value} {post : Option Value → (Nat → Nat → Int32) → (Nat → Nat → Int64) → Prop} (hM : MG l y ws rm D z e0 L K N I J R As post) (hT : GoodIn Ts (va_wsS own index y ws)) (hw : ws = Cond.codeWith y bytes maxL ret hh :: ws') (hd : y.cls ≠ "java/lang/invoke/MethodHandle" ∧ y.cls ≠ "java/lang/invoke/VarHandle" ∧ (parseMethodDescriptor y.desc).map (fun d => d.parameters.length) = some n) (hR : rm.frames + 1 ≤ R0.frames ∧ 8 + (maxL + 11) + rm.locals ≤ R0.locals) (hn : As.length = n) (hst : stk = As.reverse ++ st) (hcs : cells + rm.cells ≤ R0.cells ∧ slots + rm.slots ≤ R0.slots) (hroom : (st.map fun v => v.category).sum ≤ 8) (d : decode cc pc = .ok (.invokestatic index, 3)) (k : ∀ (v : Option Value) (I' : Nat → Nat → Int32) (J' : Nat → Nat → Int64), post v I' J' → XW p l e R0 s m args below meth c D z nL L K N I' J' R (cells + rm.cells) (slots + rm.slots) Q (pc + 3) lv (v.toList ++ st)) : XW p l e R0 s m args below meth c D z nL L K N I J R cells slots Q pc lv stk := by
  intro H locs ls h1 h2 h3 h4
  have hrun := vx_runSW (e := e) (meth := meth) (below := below) (locs := locs) (cells := cells) (slots := slots) (g := F0 m pc ls stk) (rest := st) hc.1 hM (vx_cwSW n hc.w hT hw rfl rfl hd hR) ⟨PC.blind, x_pre hc (av := As) h1 h2 h3⟩ rfl hn h4.1 hst (lv_room hroom) d hcs
  exact x_use hrun h3 h4 k
theorem x_callSWF (hc : CT p l s m args meth c D z e0 cc nL own Ts) {index n maxL : Nat} {y : MethodName} {ws ws' : List Cond} {bytes : ByteArray} {ret : Option FieldType} {hh : List (Nat × Nat × Nat × Nat)} {rm : Room} {As : List Value} {post : Option Value → List Nat → (Nat → Nat) → (Nat → Nat) → (Nat → Nat → Int32) → (Nat → Nat → Int64) → (Nat → Nat → Option Nat) → Prop} (hM : MF l y ws rm D z e0 L K N I J R As post) (hT : GoodIn Ts (va_wsS own index y ws)) (hw : ws = Cond.codeWith y bytes maxL ret hh :: ws') (hd : y.cls ≠ "java/lang/invoke/MethodHandle" ∧ y.cls ≠ "java/lang/invoke/VarHandle" ∧ (parseMethodDescriptor y.desc).map (fun d => d.parameters.length) = some n) (hR : rm.frames + 1 ≤ R0.frames ∧ 8 + (maxL + 11) + rm.locals ≤ R0.locals) (hn : As.length = n) (hst : stk = As.reverse ++ st) (hcs : cells + rm.cells ≤ R0.cells ∧ slots + rm.slots ≤ R0.slots) (hroom : (st.map fun v => v.category).sum ≤ 8) (d : decode cc pc = .ok (.invokestatic index, 3)) (k : ∀ (v : Option Value) (L' : List Nat) (K' N' : Nat → Nat) (I' : Nat → Nat → Int32) (J' : Nat → Nat → Int64) (R' : Nat → Nat → Option Nat), post v L' K' N' I' J' R' → XW p l e R0 s m args below meth c D z nL L' K' N' I' J' R' (cells + rm.cells) (slots + rm.slots) Q (pc + 3) lv (v.toList ++ st)) : XW p l e R0 s m args below meth c D z nL L K N I J R cells slots Q pc lv stk := by
  intro H locs ls h1 h2 h3 h4
  have hrun := vx_runSW (e := e) (meth := meth) (below := below) (locs := locs) (cells := cells) (slots := slots) (g := F0 m pc ls stk) (rest := st) hc.1 hM (vx_cwSW n hc.w hT hw rfl rfl hd hR) ⟨PC.blind, x_pre hc (av := As) h1 h2 h3⟩ rfl hn h4.1 hst (lv_room hroom) d hcs
  exact x_useF hrun h3 h4 k
theorem x_sld (hc : CT p l s m args meth c D z e0 cc nL own Ts) {b Ln n : Nat} {xs : Nat → Int32} {i : Int32} (hX : va_X b Ln xs s s.heap) (hbl : b < s.heap.size) (hbz : b < z) (hi : i = nI n) (hn : n < Ln) (hL : Ln ≤ 3072) (d : decode cc pc = .ok (.iaload, 1)) (k : XW p l e R0 s m args below meth c D z nL L K N I J R cells slots Q (pc + 1) lv (.int (xs n) :: st)) : XW p l e R0 s m args below meth c D z nL L K N I J R cells slots Q pc lv (.int i :: .ref b :: st) := by
  intro H locs ls h1 h2 h3 h4
  subst hi
  have hin : vp_in (nI n) Ln := vp_in_nI hn (by omega)
  refine va_sld hc.x hc.b hX hbl (fun h => absurd h (Nat.not_le.mpr hbz)) h3 hin d ?_
  rw [nI_clamp (show n < 2 ^ 31 by omega)]
  exact k H locs ls h1 h2 h3 h4
theorem x_slen (hc : CT p l s m args meth c D z e0 cc nL own Ts) {b Ln : Nat} {xs : Nat → Int32} (hX : va_X b Ln xs s s.heap) (hbl : b < s.heap.size) (hbz : b < z) (d : decode cc pc = .ok (.arraylength, 1)) (k : XW p l e R0 s m args below meth c D z nL L K N I J R cells slots Q (pc + 1) lv (.int (nI Ln) :: st)) : XW p l e R0 s m args below meth c D z nL L K N I J R cells slots Q pc lv (.ref b :: st) := fun H locs ls h1 h2 h3 h4 => va_slen hc.x hc.b hX hbl (fun h => absurd h (Nat.not_le.mpr hbz)) h3 d (k H locs ls h1 h2 h3 h4)
theorem lgc {a b : Int64} (h : a = b) : lg_cmp a b = 0 := by
  subst h
  by_cases h1 : lg_cmp a a < 0
  · exact absurd ((lg_cmp_lt a a).mp h1) Int64.lt_irrefl
  · by_cases h2 : lg_cmp a a > 0
    · exact absurd ((lg_cmp_gt a a).mp h2) Int64.lt_irrefl
    · exact Int32.le_antisymm (Int32.not_lt.mp h2) (Int32.not_lt.mp h1)
end LV
theorem REL.ats {e0 x m ou st : Nat} {L : List Nat} {K N : Nat → Nat} {I : Nat → Nat → Int32} {J : Nat → Nat → Int64} {R : Nat → Nat → Option Nat} (h : REL e0 x m ou st L K N I J R) : At L K N x 3 0 ∧ At L K N m 52 0 ∧ At L K N ou 70 1 ∧ Mdl L K N R m := by
  obtain ⟨now, n, pic, tm, rc, fe, co, cr, sv, pd, C, M, V, hO⟩ := h
  exact ⟨C.1.1, M.1.1, hO, M.1⟩
set_option maxHeartbeats 4000000 in
set_option maxRecDepth 100000 in
theorem law_c0 {pg : Program} {l : Launch} {ev : Env} {s : State} {mi : MethodId} {args : Array Value} {below : List Frame} {meth : Method} {c : Code} {D : va_G} {z e0 : Nat} {L : List Nat} {K N : Nat → Nat} {I : Nat → Nat → Int32} {J : Nat → Nat → Int64} {R : Nat → Nat → Option Nat} {cells slots : Nat} {Q : State → Prop} {b Ln x m ou st i : Nat} {xs : Nat → Int32} (hc : CT pg l s mi args meth c D z e0 cL_law 7 RL wsL_law) (hXs : va_X b Ln xs s s.heap) (hbl : b < s.heap.size) (hbz : b < z) (hLn : Ln ≤ 3072) (hfl : l.stackTraces = false) (hst : st ≤ 511) (hR : REL e0 x m ou st L K N I J R) (hi : i + 6 ≤ Ln) (hcs : cells + 10 ≤ room_1.cells ∧ slots + 70 ≤ room_1.slots) (kont : ∀ L K N I J R, REL e0 x m ou (st + 1) L K N I J R → XW pg l ev room_1 s mi args below meth c D z 7 L K N I J R (cells + 10) (slots + 70) Q 1327 [(4, .int (nI i)), (3, .ref ou), (2, .ref m), (1, .ref x), (0, .ref b)] []) : XW pg l ev room_1 s mi args below meth c D z 7 L K N I J R cells slots Q 136 [(4, .int (nI i)), (3, .ref ou), (2, .ref m), (1, .ref x), (0, .ref b)] [] := by
  obtain ⟨hX, hMm, hO, hMd⟩ := hR.ats
  refine x_aload_n (j := 3) hc dL_law_136 rfl rfl ?_
  refine x_aload_n (j := 4) hc dL_law_137 rfl rfl ?_
  refine x_iload (j := 0) hc dL_law_138 rfl ?_
  refine x_iconst (v := 1) hc dL_law_140 (by decide) ?_
  refine x_iadd hc dL_law_141 ?_
  refine x_vali (nI_add i 1) ?_
  refine x_sld hc hXs hbl hbz rfl (show (i + 1) < Ln by omega) hLn dL_law_142 ?_
  refine x_aload_n (j := 4) hc dL_law_143 rfl rfl ?_
  refine x_iload (j := 0) hc dL_law_144 rfl ?_
  refine x_iconst (v := 2) hc dL_law_146 (by decide) ?_
  refine x_iadd hc dL_law_147 ?_
  refine x_vali (nI_add i 2) ?_
  refine x_sld hc hXs hbl hbz rfl (show (i + 2) < Ln by omega) hLn dL_law_148 ?_
  refine x_aload_n (j := 4) hc dL_law_149 rfl rfl ?_
  refine x_iload (j := 0) hc dL_law_150 rfl ?_
  refine x_iconst (v := 3) hc dL_law_152 (by decide) ?_
  refine x_iadd hc dL_law_153 ?_
  refine x_vali (nI_add i 3) ?_
  refine x_sld hc hXs hbl hbz rfl (show (i + 3) < Ln by omega) hLn dL_law_154 ?_
  refine x_aload_n (j := 4) hc dL_law_155 rfl rfl ?_
  refine x_iload (j := 0) hc dL_law_156 rfl ?_
  refine x_iconst (v := 4) hc dL_law_158 (by decide) ?_
  refine x_iadd hc dL_law_159 ?_
  refine x_vali (nI_add i 4) ?_
  refine x_sld hc hXs hbl hbz rfl (show (i + 4) < Ln by omega) hLn dL_law_160 ?_
  refine x_callSW (As := [.ref x, .int (xs (i + 1)), .int (xs (i + 2)), .int (xs (i + 3)), .int (xs (i + 4))]) (st := []) hc (op_setRates (l := l) (D := D) (z := z) hfl hR (xs (i + 1)) (xs (i + 2)) (xs (i + 3)) (xs (i + 4))) gL_law_L_setRates rfl hdS_L_setRates ⟨Nat.le_of_ble_eq_true rfl, Nat.le_of_ble_eq_true rfl⟩ rfl rfl ⟨Nat.le_trans (show cells + 4 ≤ cells + 10 by omega) hcs.1, Nat.le_trans (show slots + 24 ≤ slots + 70 by omega) hcs.2⟩ (Nat.le_of_ble_eq_true rfl) dL_law_161 (fun v9 I9 J9 hz9 => ?_)
  obtain ⟨kc, hv9, hM2⟩ := hz9
  subst hv9
  refine x_istore (lv' := [(5, .int kc), (4, .int (nI i)), (3, .ref ou), (2, .ref m), (1, .ref x), (0, .ref b)]) hc dL_law_164 (by decide) rfl ?_
  refine x_aload_n (j := 3) hc dL_law_166 rfl rfl ?_
  refine x_aload_n (j := 5) hc dL_law_167 rfl rfl ?_
  refine x_iload (j := 1) hc dL_law_168 rfl ?_
  refine x_iconst (v := 1) hc dL_law_170 (by decide) ?_
  refine x_iadd hc dL_law_171 ?_
  refine x_vali (nI_add i 1) ?_
  refine x_sld hc hXs hbl hbz rfl (show (i + 1) < Ln by omega) hLn dL_law_172 ?_
  refine x_aload_n (j := 5) hc dL_law_173 rfl rfl ?_
  refine x_iload (j := 1) hc dL_law_174 rfl ?_
  refine x_iconst (v := 2) hc dL_law_176 (by decide) ?_
  refine x_iadd hc dL_law_177 ?_
  refine x_vali (nI_add i 2) ?_
  refine x_sld hc hXs hbl hbz rfl (show (i + 2) < Ln by omega) hLn dL_law_178 ?_
  refine x_aload_n (j := 5) hc dL_law_179 rfl rfl ?_
  refine x_iload (j := 1) hc dL_law_180 rfl ?_
  refine x_iconst (v := 3) hc dL_law_182 (by decide) ?_
  refine x_iadd hc dL_law_183 ?_
  refine x_vali (nI_add i 3) ?_
  refine x_sld hc hXs hbl hbz rfl (show (i + 3) < Ln by omega) hLn dL_law_184 ?_
  refine x_aload_n (j := 5) hc dL_law_185 rfl rfl ?_
  refine x_iload (j := 1) hc dL_law_186 rfl ?_
  refine x_iconst (v := 4) hc dL_law_188 (by decide) ?_
  refine x_iadd hc dL_law_189 ?_
  refine x_vali (nI_add i 4) ?_
  refine x_sld hc hXs hbl hbz rfl (show (i + 4) < Ln by omega) hLn dL_law_190 ?_
  refine x_callV (C := RX3) (T := TX3) (NN := 19) (ci := 4) (As := [.int (xs (i + 1)), .int (xs (i + 2)), .int (xs (i + 3)), .int (xs (i + 4))]) (st := []) hc hMm (by omega) (by decide) rfl hM2 gL_law_X3_setRates rfl hdV_X3_setRates ⟨Nat.le_of_ble_eq_true rfl, Nat.le_of_ble_eq_true rfl⟩ rfl rfl ⟨Nat.le_trans (show cells + 4 + 0 ≤ cells + 10 by omega) hcs.1, Nat.le_trans (show slots + 24 + 0 ≤ slots + 70 by omega) hcs.2⟩ (Nat.le_of_ble_eq_true rfl) dL_law_191 (fun v8 I8 J8 hz8 => ?_)
  obtain ⟨hv9, hth, hR2⟩ := hz8
  subst hv9
  refine x_aload_n (j := 3) hc dL_law_194 rfl rfl ?_
  have hMd8 := hR2.ats.2.2.2
  refine x_callV (C := RX3) (T := TX3) (NN := 19) (ci := 4) (As := []) (st := []) hc hMm (by omega) (by decide) rfl (m_thrown l D z e0 L K N I8 J8 R m hMd8) gL_law_X3_thrown rfl hdV_X3_thrown ⟨Nat.le_of_ble_eq_true rfl, Nat.le_of_ble_eq_true rfl⟩ rfl rfl ⟨Nat.le_trans (show cells + 4 + 0 + 0 ≤ cells + 10 by omega) hcs.1, Nat.le_trans (show slots + 24 + 0 + 0 ≤ slots + 70 by omega) hcs.2⟩ (Nat.le_of_ble_eq_true rfl) dL_law_195 (fun v7 I7 J7 hz7 => ?_)
  obtain ⟨rfl, hI7, hJ7⟩ := hz7
  replace hI7 := hI7.symm
  subst hI7
  replace hJ7 := hJ7.symm
  subst hJ7
  refine x_vali (hth) ?_
  refine x_iload (j := 0) hc dL_law_198 rfl ?_
  refine x_icmp_eq (tgt := 205) hc dL_law_200 (by decide) (fun _ => ?_) (fun q9 => absurd (rfl) q9)
  refine x_goto (tgt := 1327) hc dL_law_205 (by decide) ?_
  refine x_sub [1, 2, 3, 4, 5] rfl ?_
  refine x_widen (show cells + 4 + 0 + 0 ≤ cells + 10 by omega) (show slots + 24 + 0 + 0 ≤ slots + 70 by omega) ?_
  exact kont _ _ _ _ _ _ hR2
set_option maxHeartbeats 4000000 in
set_option maxRecDepth 100000 in
theorem law_c1 {pg : Program} {l : Launch} {ev : Env} {s : State} {mi : MethodId} {args : Array Value} {below : List Frame} {meth : Method} {c : Code} {D : va_G} {z e0 : Nat} {L : List Nat} {K N : Nat → Nat} {I : Nat → Nat → Int32} {J : Nat → Nat → Int64} {R : Nat → Nat → Option Nat} {cells slots : Nat} {Q : State → Prop} {b Ln x m ou st i : Nat} {xs : Nat → Int32} (hc : CT pg l s mi args meth c D z e0 cL_law 7 RL wsL_law) (hXs : va_X b Ln xs s s.heap) (hbl : b < s.heap.size) (hbz : b < z) (hLn : Ln ≤ 3072) (hfl : l.stackTraces = false) (hst : st ≤ 511) (hR : REL e0 x m ou st L K N I J R) (hi : i + 6 ≤ Ln) (hcs : cells + 10 ≤ room_1.cells ∧ slots + 70 ≤ room_1.slots) (kont : ∀ L K N I J R, REL e0 x m ou (st + 1) L K N I J R → XW pg l ev room_1 s mi args below meth c D z 7 L K N I J R (cells + 10) (slots + 70) Q 1327 [(4, .int (nI i)), (3, .ref ou), (2, .ref m), (1, .ref x), (0, .ref b)] []) : XW pg l ev room_1 s mi args below meth c D z 7 L K N I J R cells slots Q 208 [(4, .int (nI i)), (3, .ref ou), (2, .ref m), (1, .ref x), (0, .ref b)] [] := by
  obtain ⟨hX, hMm, hO, hMd⟩ := hR.ats
  refine x_aload_n (j := 3) hc dL_law_208 rfl rfl ?_
  refine x_aload_n (j := 4) hc dL_law_209 rfl rfl ?_
  refine x_iload (j := 0) hc dL_law_210 rfl ?_
  refine x_iconst (v := 1) hc dL_law_212 (by decide) ?_
  refine x_iadd hc dL_law_213 ?_
  refine x_vali (nI_add i 1) ?_
  refine x_sld hc hXs hbl hbz rfl (show (i + 1) < Ln by omega) hLn dL_law_214 ?_
  refine x_aload_n (j := 4) hc dL_law_215 rfl rfl ?_
  refine x_iload (j := 0) hc dL_law_216 rfl ?_
  refine x_iconst (v := 2) hc dL_law_218 (by decide) ?_
  refine x_iadd hc dL_law_219 ?_
  refine x_vali (nI_add i 2) ?_
  refine x_sld hc hXs hbl hbz rfl (show (i + 2) < Ln by omega) hLn dL_law_220 ?_
  refine x_aload_n (j := 4) hc dL_law_221 rfl rfl ?_
  refine x_iload (j := 0) hc dL_law_222 rfl ?_
  refine x_iconst (v := 3) hc dL_law_224 (by decide) ?_
  refine x_iadd hc dL_law_225 ?_
  refine x_vali (nI_add i 3) ?_
  refine x_sld hc hXs hbl hbz rfl (show (i + 3) < Ln by omega) hLn dL_law_226 ?_
  refine x_aload_n (j := 1) hc dL_law_227 rfl rfl ?_
  refine x_callSW (As := [.ref x, .int (xs (i + 1)), .int (xs (i + 2)), .int (xs (i + 3)), .ref ou]) (st := []) hc (op_setFee (l := l) (D := D) (z := z) hfl hst hR (xs (i + 1)) (xs (i + 2)) (xs (i + 3))) gL_law_L_setFee rfl hdS_L_setFee ⟨Nat.le_of_ble_eq_true rfl, Nat.le_of_ble_eq_true rfl⟩ rfl rfl ⟨Nat.le_trans (show cells + 3 ≤ cells + 10 by omega) hcs.1, Nat.le_trans (show slots + 18 ≤ slots + 70 by omega) hcs.2⟩ (Nat.le_of_ble_eq_true rfl) dL_law_228 (fun v9 I9 J9 hz9 => ?_)
  obtain ⟨kc, V, hv9, hV, hM2⟩ := hz9
  subst hv9
  refine x_istore (lv' := [(5, .int kc), (4, .int (nI i)), (3, .ref ou), (2, .ref m), (1, .ref x), (0, .ref b)]) hc dL_law_231 (by decide) rfl ?_
  refine x_aload_n (j := 3) hc dL_law_233 rfl rfl ?_
  refine x_aload_n (j := 5) hc dL_law_234 rfl rfl ?_
  refine x_iload (j := 1) hc dL_law_235 rfl ?_
  refine x_iconst (v := 1) hc dL_law_237 (by decide) ?_
  refine x_iadd hc dL_law_238 ?_
  refine x_vali (nI_add i 1) ?_
  refine x_sld hc hXs hbl hbz rfl (show (i + 1) < Ln by omega) hLn dL_law_239 ?_
  refine x_aload_n (j := 5) hc dL_law_240 rfl rfl ?_
  refine x_iload (j := 1) hc dL_law_241 rfl ?_
  refine x_iconst (v := 2) hc dL_law_243 (by decide) ?_
  refine x_iadd hc dL_law_244 ?_
  refine x_vali (nI_add i 2) ?_
  refine x_sld hc hXs hbl hbz rfl (show (i + 2) < Ln by omega) hLn dL_law_245 ?_
  refine x_aload_n (j := 5) hc dL_law_246 rfl rfl ?_
  refine x_iload (j := 1) hc dL_law_247 rfl ?_
  refine x_iconst (v := 3) hc dL_law_249 (by decide) ?_
  refine x_iadd hc dL_law_250 ?_
  refine x_vali (nI_add i 3) ?_
  refine x_sld hc hXs hbl hbz rfl (show (i + 3) < Ln by omega) hLn dL_law_251 ?_
  refine x_callV (C := RX3) (T := TX3) (NN := 19) (ci := 4) (As := [.int (xs (i + 1)), .int (xs (i + 2)), .int (xs (i + 3))]) (st := []) hc hMm (by omega) (by decide) rfl hM2 gL_law_X3_setFee rfl hdV_X3_setFee ⟨Nat.le_of_ble_eq_true rfl, Nat.le_of_ble_eq_true rfl⟩ rfl rfl ⟨Nat.le_trans (show cells + 3 + 0 ≤ cells + 10 by omega) hcs.1, Nat.le_trans (show slots + 18 + 0 ≤ slots + 70 by omega) hcs.2⟩ (Nat.le_of_ble_eq_true rfl) dL_law_252 (fun v8 I8 J8 hz8 => ?_)
  obtain ⟨b9, hv9, hth, hkb, hR2⟩ := hz8
  subst hv9
  refine x_istore (lv' := [(6, .int b9), (5, .int kc), (4, .int (nI i)), (3, .ref ou), (2, .ref m), (1, .ref x), (0, .ref b)]) hc dL_law_255 (by decide) rfl ?_
  refine x_aload_n (j := 4) hc dL_law_257 rfl rfl ?_
  have hMd8 := hR2.ats.2.2.2
  refine x_callV (C := RX3) (T := TX3) (NN := 19) (ci := 4) (As := []) (st := []) hc hMm (by omega) (by decide) rfl (m_thrown l D z e0 L K N I8 J8 R m hMd8) gL_law_X3_thrown rfl hdV_X3_thrown ⟨Nat.le_of_ble_eq_true rfl, Nat.le_of_ble_eq_true rfl⟩ rfl rfl ⟨Nat.le_trans (show cells + 3 + 0 + 0 ≤ cells + 10 by omega) hcs.1, Nat.le_trans (show slots + 18 + 0 + 0 ≤ slots + 70 by omega) hcs.2⟩ (Nat.le_of_ble_eq_true rfl) dL_law_258 (fun v7 I7 J7 hz7 => ?_)
  obtain ⟨rfl, hI7, hJ7⟩ := hz7
  replace hI7 := hI7.symm
  subst hI7
  replace hJ7 := hJ7.symm
  subst hJ7
  refine x_vali (hth) ?_
  refine x_iload (j := 1) hc dL_law_261 rfl ?_
  refine x_icmp_eq (tgt := 268) hc dL_law_263 (by decide) (fun _ => ?_) (fun q9 => absurd (rfl) q9)
  refine x_iload (j := 1) hc dL_law_268 rfl ?_
  refine x_if_ne (tgt := 285) hc dL_law_270 (by decide) (fun qk => ?_) (fun qk => ?_)
  · refine x_goto (tgt := 1327) hc dL_law_285 (by decide) ?_
    refine x_sub [2, 3, 4, 5, 6] rfl ?_
    refine x_widen (show cells + 3 + 0 + 0 ≤ cells + 10 by omega) (show slots + 18 + 0 + 0 ≤ slots + 70 by omega) ?_
    exact kont _ _ _ _ _ _ hR2
  · refine x_aload_n (j := 3) hc dL_law_273 rfl rfl ?_
    refine x_iconst (v := 0) hc dL_law_274 (by decide) ?_
    refine x_lald hc hO (by decide) rfl (by decide) (by omega) dL_law_275 ?_
    refine x_vall (y := Int32.toInt64 V) ((hkb qk).2) ?_
    refine x_iload (j := 0) hc dL_law_276 rfl ?_
    refine x_i2l hc dL_law_278 ?_
    refine x_lcmp hc dL_law_279 ?_
    refine x_if_eq (tgt := 285) hc dL_law_280 (by decide) (fun _ => ?_) (fun q9 => absurd (lgc (by rw [(hkb qk).1])) q9)
    refine x_goto (tgt := 1327) hc dL_law_285 (by decide) ?_
    refine x_sub [2, 3, 4, 5, 6] rfl ?_
    refine x_widen (show cells + 3 + 0 + 0 ≤ cells + 10 by omega) (show slots + 18 + 0 + 0 ≤ slots + 70 by omega) ?_
    exact kont _ _ _ _ _ _ hR2
set_option maxHeartbeats 4000000 in
set_option maxRecDepth 100000 in
theorem law_c2 {pg : Program} {l : Launch} {ev : Env} {s : State} {mi : MethodId} {args : Array Value} {below : List Frame} {meth : Method} {c : Code} {D : va_G} {z e0 : Nat} {L : List Nat} {K N : Nat → Nat} {I : Nat → Nat → Int32} {J : Nat → Nat → Int64} {R : Nat → Nat → Option Nat} {cells slots : Nat} {Q : State → Prop} {b Ln x m ou st i : Nat} {xs : Nat → Int32} (hc : CT pg l s mi args meth c D z e0 cL_law 7 RL wsL_law) (hXs : va_X b Ln xs s s.heap) (hbl : b < s.heap.size) (hbz : b < z) (hLn : Ln ≤ 3072) (hfl : l.stackTraces = false) (hst : st ≤ 511) (hR : REL e0 x m ou st L K N I J R) (hi : i + 6 ≤ Ln) (hcs : cells + 10 ≤ room_1.cells ∧ slots + 70 ≤ room_1.slots) (kont : ∀ L K N I J R, REL e0 x m ou (st + 1) L K N I J R → XW pg l ev room_1 s mi args below meth c D z 7 L K N I J R (cells + 10) (slots + 70) Q 1327 [(4, .int (nI i)), (3, .ref ou), (2, .ref m), (1, .ref x), (0, .ref b)] []) : XW pg l ev room_1 s mi args below meth c D z 7 L K N I J R cells slots Q 288 [(4, .int (nI i)), (3, .ref ou), (2, .ref m), (1, .ref x), (0, .ref b)] [] := by
  obtain ⟨hX, hMm, hO, hMd⟩ := hR.ats
  refine x_aload_n (j := 3) hc dL_law_288 rfl rfl ?_
  refine x_aload_n (j := 4) hc dL_law_289 rfl rfl ?_
  refine x_iload (j := 0) hc dL_law_290 rfl ?_
  refine x_iconst (v := 1) hc dL_law_292 (by decide) ?_
  refine x_iadd hc dL_law_293 ?_
  refine x_vali (nI_add i 1) ?_
  refine x_sld hc hXs hbl hbz rfl (show (i + 1) < Ln by omega) hLn dL_law_294 ?_
  refine x_if_eq (tgt := 302) hc dL_law_295 (by decide) (fun q1 => ?_) (fun q1 => ?_)
  · refine x_iconst (v := 0) hc dL_law_302 (by decide) ?_
    refine x_callV (C := RX2) (T := TX2) (NN := 5) (ci := 3) (As := [.int 0]) (st := []) hc hX (by omega) (by decide) rfl (op_setCrossed (l := l) (D := D) (z := z) hR 0 (Or.inl rfl)) gL_law_X2_setCrossed rfl hdV_X2_setCrossed ⟨Nat.le_of_ble_eq_true rfl, Nat.le_of_ble_eq_true rfl⟩ rfl rfl ⟨Nat.le_trans (show cells + 0 ≤ cells + 10 by omega) hcs.1, Nat.le_trans (show slots + 0 ≤ slots + 70 by omega) hcs.2⟩ (Nat.le_of_ble_eq_true rfl) dL_law_303 (fun v9 I9 J9 hz9 => ?_)
    obtain ⟨V, hv9, hM2⟩ := hz9
    subst hv9
    refine x_aload_n (j := 2) hc dL_law_306 rfl rfl ?_
    refine x_aload_n (j := 4) hc dL_law_307 rfl rfl ?_
    refine x_iload (j := 0) hc dL_law_308 rfl ?_
    refine x_iconst (v := 1) hc dL_law_310 (by decide) ?_
    refine x_iadd hc dL_law_311 ?_
    refine x_vali (nI_add i 1) ?_
    refine x_sld hc hXs hbl hbz rfl (show (i + 1) < Ln by omega) hLn dL_law_312 ?_
    refine x_if_eq (tgt := 320) hc dL_law_313 (by decide) (fun _ => ?_) (fun q9 => absurd (q1) q9)
    refine x_iconst (v := 0) hc dL_law_320 (by decide) ?_
    refine x_callV (C := RX3) (T := TX3) (NN := 19) (ci := 4) (As := [.int 0]) (st := [.int V]) hc hMm (by omega) (by decide) rfl hM2 gL_law_X3_setCrossed rfl hdV_X3_setCrossed ⟨Nat.le_of_ble_eq_true rfl, Nat.le_of_ble_eq_true rfl⟩ rfl rfl ⟨Nat.le_trans (show cells + 0 + 0 ≤ cells + 10 by omega) hcs.1, Nat.le_trans (show slots + 0 + 0 ≤ slots + 70 by omega) hcs.2⟩ (Nat.le_of_ble_eq_true rfl) dL_law_321 (fun v8 I8 J8 hz8 => ?_)
    obtain ⟨hv9, hR2⟩ := hz8
    subst hv9
    refine x_icmp_eq (tgt := 1327) hc dL_law_324 (by decide) (fun _ => ?_) (fun q9 => absurd (rfl) q9)
    refine x_sub [0, 1, 2, 3, 4] rfl ?_
    refine x_widen (show cells + 0 + 0 ≤ cells + 10 by omega) (show slots + 0 + 0 ≤ slots + 70 by omega) ?_
    exact kont _ _ _ _ _ _ hR2
  · refine x_iconst (v := 1) hc dL_law_298 (by decide) ?_
    refine x_goto (tgt := 303) hc dL_law_299 (by decide) ?_
    refine x_callV (C := RX2) (T := TX2) (NN := 5) (ci := 3) (As := [.int 1]) (st := []) hc hX (by omega) (by decide) rfl (op_setCrossed (l := l) (D := D) (z := z) hR 1 (Or.inr rfl)) gL_law_X2_setCrossed rfl hdV_X2_setCrossed ⟨Nat.le_of_ble_eq_true rfl, Nat.le_of_ble_eq_true rfl⟩ rfl rfl ⟨Nat.le_trans (show cells + 0 ≤ cells + 10 by omega) hcs.1, Nat.le_trans (show slots + 0 ≤ slots + 70 by omega) hcs.2⟩ (Nat.le_of_ble_eq_true rfl) dL_law_303 (fun v9 I9 J9 hz9 => ?_)
    obtain ⟨V, hv9, hM2⟩ := hz9
    subst hv9
    refine x_aload_n (j := 2) hc dL_law_306 rfl rfl ?_
    refine x_aload_n (j := 4) hc dL_law_307 rfl rfl ?_
    refine x_iload (j := 0) hc dL_law_308 rfl ?_
    refine x_iconst (v := 1) hc dL_law_310 (by decide) ?_
    refine x_iadd hc dL_law_311 ?_
    refine x_vali (nI_add i 1) ?_
    refine x_sld hc hXs hbl hbz rfl (show (i + 1) < Ln by omega) hLn dL_law_312 ?_
    refine x_if_eq (tgt := 320) hc dL_law_313 (by decide) (fun q9 => absurd q9 (q1)) (fun _ => ?_)
    refine x_iconst (v := 1) hc dL_law_316 (by decide) ?_
    refine x_goto (tgt := 321) hc dL_law_317 (by decide) ?_
    refine x_callV (C := RX3) (T := TX3) (NN := 19) (ci := 4) (As := [.int 1]) (st := [.int V]) hc hMm (by omega) (by decide) rfl hM2 gL_law_X3_setCrossed rfl hdV_X3_setCrossed ⟨Nat.le_of_ble_eq_true rfl, Nat.le_of_ble_eq_true rfl⟩ rfl rfl ⟨Nat.le_trans (show cells + 0 + 0 ≤ cells + 10 by omega) hcs.1, Nat.le_trans (show slots + 0 + 0 ≤ slots + 70 by omega) hcs.2⟩ (Nat.le_of_ble_eq_true rfl) dL_law_321 (fun v8 I8 J8 hz8 => ?_)
    obtain ⟨hv9, hR2⟩ := hz8
    subst hv9
    refine x_icmp_eq (tgt := 1327) hc dL_law_324 (by decide) (fun _ => ?_) (fun q9 => absurd (rfl) q9)
    refine x_sub [0, 1, 2, 3, 4] rfl ?_
    refine x_widen (show cells + 0 + 0 ≤ cells + 10 by omega) (show slots + 0 + 0 ≤ slots + 70 by omega) ?_
    exact kont _ _ _ _ _ _ hR2
set_option maxHeartbeats 4000000 in
set_option maxRecDepth 100000 in
theorem law_c3 {pg : Program} {l : Launch} {ev : Env} {s : State} {mi : MethodId} {args : Array Value} {below : List Frame} {meth : Method} {c : Code} {D : va_G} {z e0 : Nat} {L : List Nat} {K N : Nat → Nat} {I : Nat → Nat → Int32} {J : Nat → Nat → Int64} {R : Nat → Nat → Option Nat} {cells slots : Nat} {Q : State → Prop} {b Ln x m ou st i : Nat} {xs : Nat → Int32} (hc : CT pg l s mi args meth c D z e0 cL_law 7 RL wsL_law) (hXs : va_X b Ln xs s s.heap) (hbl : b < s.heap.size) (hbz : b < z) (hLn : Ln ≤ 3072) (hfl : l.stackTraces = false) (hst : st ≤ 511) (hR : REL e0 x m ou st L K N I J R) (hi : i + 6 ≤ Ln) (hcs : cells + 10 ≤ room_1.cells ∧ slots + 70 ≤ room_1.slots) (kont : ∀ L K N I J R, REL e0 x m ou (st + 1) L K N I J R → XW pg l ev room_1 s mi args below meth c D z 7 L K N I J R (cells + 10) (slots + 70) Q 1327 [(4, .int (nI i)), (3, .ref ou), (2, .ref m), (1, .ref x), (0, .ref b)] []) : XW pg l ev room_1 s mi args below meth c D z 7 L K N I J R cells slots Q 329 [(4, .int (nI i)), (3, .ref ou), (2, .ref m), (1, .ref x), (0, .ref b)] [] := by
  obtain ⟨hX, hMm, hO, hMd⟩ := hR.ats
  refine x_aload_n (j := 3) hc dL_law_329 rfl rfl ?_
  refine x_aload_n (j := 4) hc dL_law_330 rfl rfl ?_
  refine x_iload (j := 0) hc dL_law_331 rfl ?_
  refine x_iconst (v := 1) hc dL_law_333 (by decide) ?_
  refine x_iadd hc dL_law_334 ?_
  refine x_vali (nI_add i 1) ?_
  refine x_sld hc hXs hbl hbz rfl (show (i + 1) < Ln by omega) hLn dL_law_335 ?_
  refine x_aload_n (j := 4) hc dL_law_336 rfl rfl ?_
  refine x_iload (j := 0) hc dL_law_337 rfl ?_
  refine x_iconst (v := 2) hc dL_law_339 (by decide) ?_
  refine x_iadd hc dL_law_340 ?_
  refine x_vali (nI_add i 2) ?_
  refine x_sld hc hXs hbl hbz rfl (show (i + 2) < Ln by omega) hLn dL_law_341 ?_
  refine x_aload_n (j := 4) hc dL_law_342 rfl rfl ?_
  refine x_iload (j := 0) hc dL_law_343 rfl ?_
  refine x_iconst (v := 3) hc dL_law_345 (by decide) ?_
  refine x_iadd hc dL_law_346 ?_
  refine x_vali (nI_add i 3) ?_
  refine x_sld hc hXs hbl hbz rfl (show (i + 3) < Ln by omega) hLn dL_law_347 ?_
  refine x_aload_n (j := 4) hc dL_law_348 rfl rfl ?_
  refine x_iload (j := 0) hc dL_law_349 rfl ?_
  refine x_iconst (v := 4) hc dL_law_351 (by decide) ?_
  refine x_iadd hc dL_law_352 ?_
  refine x_vali (nI_add i 4) ?_
  refine x_sld hc hXs hbl hbz rfl (show (i + 4) < Ln by omega) hLn dL_law_353 ?_
  refine x_aload_n (j := 4) hc dL_law_354 rfl rfl ?_
  refine x_iload (j := 0) hc dL_law_355 rfl ?_
  refine x_iconst (v := 5) hc dL_law_357 (by decide) ?_
  refine x_iadd hc dL_law_358 ?_
  refine x_vali (nI_add i 5) ?_
  refine x_sld hc hXs hbl hbz rfl (show (i + 5) < Ln by omega) hLn dL_law_359 ?_
  refine x_aload_n (j := 1) hc dL_law_360 rfl rfl ?_
  refine x_callSWF (As := [.ref x, .int (xs (i + 1)), .int (xs (i + 2)), .int (xs (i + 3)), .int (xs (i + 4)), .int (xs (i + 5)), .ref ou]) (st := []) hc (op_add (l := l) (D := D) (z := z) hfl hst hR (xs (i + 1)) (xs (i + 2)) (xs (i + 3)) (xs (i + 4)) (xs (i + 5))) gL_law_L_add rfl hdS_L_add ⟨Nat.le_of_ble_eq_true rfl, Nat.le_of_ble_eq_true rfl⟩ rfl rfl ⟨Nat.le_trans (show cells + 9 ≤ cells + 10 by omega) hcs.1, Nat.le_trans (show slots + 63 ≤ slots + 70 by omega) hcs.2⟩ (Nat.le_of_ble_eq_true rfl) dL_law_361 (fun v9 L9 K9 N9 I9 J9 R9 hz9 => ?_)
  obtain ⟨kc, V, hv9, hV, hX9, hM9, hO9, hM2⟩ := hz9
  subst hv9
  refine x_istore (lv' := [(5, .int kc), (4, .int (nI i)), (3, .ref ou), (2, .ref m), (1, .ref x), (0, .ref b)]) hc dL_law_364 (by decide) rfl ?_
  refine x_aload_n (j := 3) hc dL_law_366 rfl rfl ?_
  refine x_aload_n (j := 5) hc dL_law_367 rfl rfl ?_
  refine x_iload (j := 1) hc dL_law_368 rfl ?_
  refine x_iconst (v := 1) hc dL_law_370 (by decide) ?_
  refine x_iadd hc dL_law_371 ?_
  refine x_vali (nI_add i 1) ?_
  refine x_sld hc hXs hbl hbz rfl (show (i + 1) < Ln by omega) hLn dL_law_372 ?_
  refine x_aload_n (j := 5) hc dL_law_373 rfl rfl ?_
  refine x_iload (j := 1) hc dL_law_374 rfl ?_
  refine x_iconst (v := 2) hc dL_law_376 (by decide) ?_
  refine x_iadd hc dL_law_377 ?_
  refine x_vali (nI_add i 2) ?_
  refine x_sld hc hXs hbl hbz rfl (show (i + 2) < Ln by omega) hLn dL_law_378 ?_
  refine x_aload_n (j := 5) hc dL_law_379 rfl rfl ?_
  refine x_iload (j := 1) hc dL_law_380 rfl ?_
  refine x_iconst (v := 3) hc dL_law_382 (by decide) ?_
  refine x_iadd hc dL_law_383 ?_
  refine x_vali (nI_add i 3) ?_
  refine x_sld hc hXs hbl hbz rfl (show (i + 3) < Ln by omega) hLn dL_law_384 ?_
  refine x_aload_n (j := 5) hc dL_law_385 rfl rfl ?_
  refine x_iload (j := 1) hc dL_law_386 rfl ?_
  refine x_iconst (v := 4) hc dL_law_388 (by decide) ?_
  refine x_iadd hc dL_law_389 ?_
  refine x_vali (nI_add i 4) ?_
  refine x_sld hc hXs hbl hbz rfl (show (i + 4) < Ln by omega) hLn dL_law_390 ?_
  refine x_aload_n (j := 5) hc dL_law_391 rfl rfl ?_
  refine x_iload (j := 1) hc dL_law_392 rfl ?_
  refine x_iconst (v := 5) hc dL_law_394 (by decide) ?_
  refine x_iadd hc dL_law_395 ?_
  refine x_vali (nI_add i 5) ?_
  refine x_sld hc hXs hbl hbz rfl (show (i + 5) < Ln by omega) hLn dL_law_396 ?_
  refine x_callV (C := RX3) (T := TX3) (NN := 19) (ci := 4) (As := [.int (xs (i + 1)), .int (xs (i + 2)), .int (xs (i + 3)), .int (xs (i + 4)), .int (xs (i + 5))]) (st := []) hc hM9 (by omega) (by decide) rfl hM2 gL_law_X3_add rfl hdV_X3_add ⟨Nat.le_of_ble_eq_true rfl, Nat.le_of_ble_eq_true rfl⟩ rfl rfl ⟨Nat.le_trans (show cells + 9 + 0 ≤ cells + 10 by omega) hcs.1, Nat.le_trans (show slots + 63 + 0 ≤ slots + 70 by omega) hcs.2⟩ (Nat.le_of_ble_eq_true rfl) dL_law_397 (fun v8 I8 J8 hz8 => ?_)
  obtain ⟨b9, hv9, hth, hkb, hR2⟩ := hz8
  subst hv9
  refine x_istore (lv' := [(6, .int b9), (5, .int kc), (4, .int (nI i)), (3, .ref ou), (2, .ref m), (1, .ref x), (0, .ref b)]) hc dL_law_400 (by decide) rfl ?_
  refine x_aload_n (j := 4) hc dL_law_402 rfl rfl ?_
  have hMd8 := hR2.ats.2.2.2
  refine x_callV (C := RX3) (T := TX3) (NN := 19) (ci := 4) (As := []) (st := []) hc hM9 (by omega) (by decide) rfl (m_thrown l D z e0 L9 K9 N9 I8 J8 R9 m hMd8) gL_law_X3_thrown rfl hdV_X3_thrown ⟨Nat.le_of_ble_eq_true rfl, Nat.le_of_ble_eq_true rfl⟩ rfl rfl ⟨Nat.le_trans (show cells + 9 + 0 + 0 ≤ cells + 10 by omega) hcs.1, Nat.le_trans (show slots + 63 + 0 + 0 ≤ slots + 70 by omega) hcs.2⟩ (Nat.le_of_ble_eq_true rfl) dL_law_403 (fun v7 I7 J7 hz7 => ?_)
  obtain ⟨rfl, hI7, hJ7⟩ := hz7
  replace hI7 := hI7.symm
  subst hI7
  replace hJ7 := hJ7.symm
  subst hJ7
  refine x_vali (hth) ?_
  refine x_iload (j := 1) hc dL_law_406 rfl ?_
  refine x_icmp_eq (tgt := 413) hc dL_law_408 (by decide) (fun _ => ?_) (fun q9 => absurd (rfl) q9)
  refine x_iload (j := 1) hc dL_law_413 rfl ?_
  refine x_if_ne (tgt := 430) hc dL_law_415 (by decide) (fun qk => ?_) (fun qk => ?_)
  · refine x_goto (tgt := 1327) hc dL_law_430 (by decide) ?_
    refine x_sub [2, 3, 4, 5, 6] rfl ?_
    refine x_widen (show cells + 9 + 0 + 0 ≤ cells + 10 by omega) (show slots + 63 + 0 + 0 ≤ slots + 70 by omega) ?_
    exact kont _ _ _ _ _ _ hR2
  · refine x_aload_n (j := 3) hc dL_law_418 rfl rfl ?_
    refine x_iconst (v := 0) hc dL_law_419 (by decide) ?_
    refine x_lald hc hO9 (by decide) rfl (by decide) (by omega) dL_law_420 ?_
    refine x_vall (y := Int32.toInt64 V) ((hkb qk).2) ?_
    refine x_iload (j := 0) hc dL_law_421 rfl ?_
    refine x_i2l hc dL_law_423 ?_
    refine x_lcmp hc dL_law_424 ?_
    refine x_if_eq (tgt := 430) hc dL_law_425 (by decide) (fun _ => ?_) (fun q9 => absurd (lgc (by rw [(hkb qk).1])) q9)
    refine x_goto (tgt := 1327) hc dL_law_430 (by decide) ?_
    refine x_sub [2, 3, 4, 5, 6] rfl ?_
    refine x_widen (show cells + 9 + 0 + 0 ≤ cells + 10 by omega) (show slots + 63 + 0 + 0 ≤ slots + 70 by omega) ?_
    exact kont _ _ _ _ _ _ hR2
set_option maxHeartbeats 4000000 in
set_option maxRecDepth 100000 in
theorem law_c4 {pg : Program} {l : Launch} {ev : Env} {s : State} {mi : MethodId} {args : Array Value} {below : List Frame} {meth : Method} {c : Code} {D : va_G} {z e0 : Nat} {L : List Nat} {K N : Nat → Nat} {I : Nat → Nat → Int32} {J : Nat → Nat → Int64} {R : Nat → Nat → Option Nat} {cells slots : Nat} {Q : State → Prop} {b Ln x m ou st i : Nat} {xs : Nat → Int32} (hc : CT pg l s mi args meth c D z e0 cL_law 7 RL wsL_law) (hXs : va_X b Ln xs s s.heap) (hbl : b < s.heap.size) (hbz : b < z) (hLn : Ln ≤ 3072) (hfl : l.stackTraces = false) (hst : st ≤ 511) (hR : REL e0 x m ou st L K N I J R) (hi : i + 6 ≤ Ln) (hcs : cells + 10 ≤ room_1.cells ∧ slots + 70 ≤ room_1.slots) (kont : ∀ L K N I J R, REL e0 x m ou (st + 1) L K N I J R → XW pg l ev room_1 s mi args below meth c D z 7 L K N I J R (cells + 10) (slots + 70) Q 1327 [(4, .int (nI i)), (3, .ref ou), (2, .ref m), (1, .ref x), (0, .ref b)] []) : XW pg l ev room_1 s mi args below meth c D z 7 L K N I J R cells slots Q 433 [(4, .int (nI i)), (3, .ref ou), (2, .ref m), (1, .ref x), (0, .ref b)] [] := by
  obtain ⟨hX, hMm, hO, hMd⟩ := hR.ats
  refine x_aload_n (j := 3) hc dL_law_433 rfl rfl ?_
  refine x_aload_n (j := 4) hc dL_law_434 rfl rfl ?_
  refine x_iload (j := 0) hc dL_law_435 rfl ?_
  refine x_iconst (v := 1) hc dL_law_437 (by decide) ?_
  refine x_iadd hc dL_law_438 ?_
  refine x_vali (nI_add i 1) ?_
  refine x_sld hc hXs hbl hbz rfl (show (i + 1) < Ln by omega) hLn dL_law_439 ?_
  refine x_aload_n (j := 4) hc dL_law_440 rfl rfl ?_
  refine x_iload (j := 0) hc dL_law_441 rfl ?_
  refine x_iconst (v := 2) hc dL_law_443 (by decide) ?_
  refine x_iadd hc dL_law_444 ?_
  refine x_vali (nI_add i 2) ?_
  refine x_sld hc hXs hbl hbz rfl (show (i + 2) < Ln by omega) hLn dL_law_445 ?_
  refine x_aload_n (j := 4) hc dL_law_446 rfl rfl ?_
  refine x_iload (j := 0) hc dL_law_447 rfl ?_
  refine x_iconst (v := 3) hc dL_law_449 (by decide) ?_
  refine x_iadd hc dL_law_450 ?_
  refine x_vali (nI_add i 3) ?_
  refine x_sld hc hXs hbl hbz rfl (show (i + 3) < Ln by omega) hLn dL_law_451 ?_
  refine x_aload_n (j := 1) hc dL_law_452 rfl rfl ?_
  refine x_callSW (As := [.ref x, .int (xs (i + 1)), .int (xs (i + 2)), .int (xs (i + 3)), .ref ou]) (st := []) hc (op_receive (l := l) (D := D) (z := z) hfl hst hR (xs (i + 1)) (xs (i + 2)) (xs (i + 3))) gL_law_L_receive rfl hdS_L_receive ⟨Nat.le_of_ble_eq_true rfl, Nat.le_of_ble_eq_true rfl⟩ rfl rfl ⟨Nat.le_trans (show cells + 3 ≤ cells + 10 by omega) hcs.1, Nat.le_trans (show slots + 18 ≤ slots + 70 by omega) hcs.2⟩ (Nat.le_of_ble_eq_true rfl) dL_law_453 (fun v9 I9 J9 hz9 => ?_)
  obtain ⟨kc, V, hv9, hV, hM2⟩ := hz9
  subst hv9
  refine x_istore (lv' := [(5, .int kc), (4, .int (nI i)), (3, .ref ou), (2, .ref m), (1, .ref x), (0, .ref b)]) hc dL_law_456 (by decide) rfl ?_
  refine x_aload_n (j := 3) hc dL_law_458 rfl rfl ?_
  refine x_aload_n (j := 5) hc dL_law_459 rfl rfl ?_
  refine x_iload (j := 1) hc dL_law_460 rfl ?_
  refine x_iconst (v := 1) hc dL_law_462 (by decide) ?_
  refine x_iadd hc dL_law_463 ?_
  refine x_vali (nI_add i 1) ?_
  refine x_sld hc hXs hbl hbz rfl (show (i + 1) < Ln by omega) hLn dL_law_464 ?_
  refine x_aload_n (j := 5) hc dL_law_465 rfl rfl ?_
  refine x_iload (j := 1) hc dL_law_466 rfl ?_
  refine x_iconst (v := 2) hc dL_law_468 (by decide) ?_
  refine x_iadd hc dL_law_469 ?_
  refine x_vali (nI_add i 2) ?_
  refine x_sld hc hXs hbl hbz rfl (show (i + 2) < Ln by omega) hLn dL_law_470 ?_
  refine x_aload_n (j := 5) hc dL_law_471 rfl rfl ?_
  refine x_iload (j := 1) hc dL_law_472 rfl ?_
  refine x_iconst (v := 3) hc dL_law_474 (by decide) ?_
  refine x_iadd hc dL_law_475 ?_
  refine x_vali (nI_add i 3) ?_
  refine x_sld hc hXs hbl hbz rfl (show (i + 3) < Ln by omega) hLn dL_law_476 ?_
  refine x_callV (C := RX3) (T := TX3) (NN := 19) (ci := 4) (As := [.int (xs (i + 1)), .int (xs (i + 2)), .int (xs (i + 3))]) (st := []) hc hMm (by omega) (by decide) rfl hM2 gL_law_X3_receive rfl hdV_X3_receive ⟨Nat.le_of_ble_eq_true rfl, Nat.le_of_ble_eq_true rfl⟩ rfl rfl ⟨Nat.le_trans (show cells + 3 + 0 ≤ cells + 10 by omega) hcs.1, Nat.le_trans (show slots + 18 + 0 ≤ slots + 70 by omega) hcs.2⟩ (Nat.le_of_ble_eq_true rfl) dL_law_477 (fun v8 I8 J8 hz8 => ?_)
  obtain ⟨b9, hv9, hth, hkb, hR2⟩ := hz8
  subst hv9
  refine x_istore (lv' := [(6, .int b9), (5, .int kc), (4, .int (nI i)), (3, .ref ou), (2, .ref m), (1, .ref x), (0, .ref b)]) hc dL_law_480 (by decide) rfl ?_
  refine x_aload_n (j := 4) hc dL_law_482 rfl rfl ?_
  have hMd8 := hR2.ats.2.2.2
  refine x_callV (C := RX3) (T := TX3) (NN := 19) (ci := 4) (As := []) (st := []) hc hMm (by omega) (by decide) rfl (m_thrown l D z e0 L K N I8 J8 R m hMd8) gL_law_X3_thrown rfl hdV_X3_thrown ⟨Nat.le_of_ble_eq_true rfl, Nat.le_of_ble_eq_true rfl⟩ rfl rfl ⟨Nat.le_trans (show cells + 3 + 0 + 0 ≤ cells + 10 by omega) hcs.1, Nat.le_trans (show slots + 18 + 0 + 0 ≤ slots + 70 by omega) hcs.2⟩ (Nat.le_of_ble_eq_true rfl) dL_law_483 (fun v7 I7 J7 hz7 => ?_)
  obtain ⟨rfl, hI7, hJ7⟩ := hz7
  replace hI7 := hI7.symm
  subst hI7
  replace hJ7 := hJ7.symm
  subst hJ7
  refine x_vali (hth) ?_
  refine x_iload (j := 1) hc dL_law_486 rfl ?_
  refine x_icmp_eq (tgt := 493) hc dL_law_488 (by decide) (fun _ => ?_) (fun q9 => absurd (rfl) q9)
  refine x_iload (j := 1) hc dL_law_493 rfl ?_
  refine x_if_ne (tgt := 510) hc dL_law_495 (by decide) (fun qk => ?_) (fun qk => ?_)
  · refine x_goto (tgt := 1327) hc dL_law_510 (by decide) ?_
    refine x_sub [2, 3, 4, 5, 6] rfl ?_
    refine x_widen (show cells + 3 + 0 + 0 ≤ cells + 10 by omega) (show slots + 18 + 0 + 0 ≤ slots + 70 by omega) ?_
    exact kont _ _ _ _ _ _ hR2
  · refine x_aload_n (j := 3) hc dL_law_498 rfl rfl ?_
    refine x_iconst (v := 0) hc dL_law_499 (by decide) ?_
    refine x_lald hc hO (by decide) rfl (by decide) (by omega) dL_law_500 ?_
    refine x_vall (y := Int32.toInt64 V) ((hkb qk).2) ?_
    refine x_iload (j := 0) hc dL_law_501 rfl ?_
    refine x_i2l hc dL_law_503 ?_
    refine x_lcmp hc dL_law_504 ?_
    refine x_if_eq (tgt := 510) hc dL_law_505 (by decide) (fun _ => ?_) (fun q9 => absurd (lgc (by rw [(hkb qk).1])) q9)
    refine x_goto (tgt := 1327) hc dL_law_510 (by decide) ?_
    refine x_sub [2, 3, 4, 5, 6] rfl ?_
    refine x_widen (show cells + 3 + 0 + 0 ≤ cells + 10 by omega) (show slots + 18 + 0 + 0 ≤ slots + 70 by omega) ?_
    exact kont _ _ _ _ _ _ hR2
set_option maxHeartbeats 4000000 in
set_option maxRecDepth 100000 in
theorem law_c5 {pg : Program} {l : Launch} {ev : Env} {s : State} {mi : MethodId} {args : Array Value} {below : List Frame} {meth : Method} {c : Code} {D : va_G} {z e0 : Nat} {L : List Nat} {K N : Nat → Nat} {I : Nat → Nat → Int32} {J : Nat → Nat → Int64} {R : Nat → Nat → Option Nat} {cells slots : Nat} {Q : State → Prop} {b Ln x m ou st i : Nat} {xs : Nat → Int32} (hc : CT pg l s mi args meth c D z e0 cL_law 7 RL wsL_law) (hXs : va_X b Ln xs s s.heap) (hbl : b < s.heap.size) (hbz : b < z) (hLn : Ln ≤ 3072) (hfl : l.stackTraces = false) (hst : st ≤ 511) (hR : REL e0 x m ou st L K N I J R) (hi : i + 6 ≤ Ln) (hcs : cells + 10 ≤ room_1.cells ∧ slots + 70 ≤ room_1.slots) (kont : ∀ L K N I J R, REL e0 x m ou (st + 1) L K N I J R → XW pg l ev room_1 s mi args below meth c D z 7 L K N I J R (cells + 10) (slots + 70) Q 1327 [(4, .int (nI i)), (3, .ref ou), (2, .ref m), (1, .ref x), (0, .ref b)] []) : XW pg l ev room_1 s mi args below meth c D z 7 L K N I J R cells slots Q 513 [(4, .int (nI i)), (3, .ref ou), (2, .ref m), (1, .ref x), (0, .ref b)] [] := by
  obtain ⟨hX, hMm, hO, hMd⟩ := hR.ats
  refine x_aload_n (j := 3) hc dL_law_513 rfl rfl ?_
  refine x_aload_n (j := 4) hc dL_law_514 rfl rfl ?_
  refine x_iload (j := 0) hc dL_law_515 rfl ?_
  refine x_iconst (v := 1) hc dL_law_517 (by decide) ?_
  refine x_iadd hc dL_law_518 ?_
  refine x_vali (nI_add i 1) ?_
  refine x_sld hc hXs hbl hbz rfl (show (i + 1) < Ln by omega) hLn dL_law_519 ?_
  refine x_aload_n (j := 4) hc dL_law_520 rfl rfl ?_
  refine x_iload (j := 0) hc dL_law_521 rfl ?_
  refine x_iconst (v := 2) hc dL_law_523 (by decide) ?_
  refine x_iadd hc dL_law_524 ?_
  refine x_vali (nI_add i 2) ?_
  refine x_sld hc hXs hbl hbz rfl (show (i + 2) < Ln by omega) hLn dL_law_525 ?_
  refine x_aload_n (j := 1) hc dL_law_526 rfl rfl ?_
  refine x_callSW (As := [.ref x, .int (xs (i + 1)), .int (xs (i + 2)), .ref ou]) (st := []) hc (op_spend (l := l) (D := D) (z := z) hfl hst hR (xs (i + 1)) (xs (i + 2))) gL_law_L_spend rfl hdS_L_spend ⟨Nat.le_of_ble_eq_true rfl, Nat.le_of_ble_eq_true rfl⟩ rfl rfl ⟨Nat.le_trans (show cells + 2 ≤ cells + 10 by omega) hcs.1, Nat.le_trans (show slots + 12 ≤ slots + 70 by omega) hcs.2⟩ (Nat.le_of_ble_eq_true rfl) dL_law_527 (fun v9 I9 J9 hz9 => ?_)
  obtain ⟨kc, V, hv9, hV, hM2⟩ := hz9
  subst hv9
  refine x_istore (lv' := [(5, .int kc), (4, .int (nI i)), (3, .ref ou), (2, .ref m), (1, .ref x), (0, .ref b)]) hc dL_law_530 (by decide) rfl ?_
  refine x_aload_n (j := 3) hc dL_law_532 rfl rfl ?_
  refine x_aload_n (j := 5) hc dL_law_533 rfl rfl ?_
  refine x_iload (j := 1) hc dL_law_534 rfl ?_
  refine x_iconst (v := 1) hc dL_law_536 (by decide) ?_
  refine x_iadd hc dL_law_537 ?_
  refine x_vali (nI_add i 1) ?_
  refine x_sld hc hXs hbl hbz rfl (show (i + 1) < Ln by omega) hLn dL_law_538 ?_
  refine x_aload_n (j := 5) hc dL_law_539 rfl rfl ?_
  refine x_iload (j := 1) hc dL_law_540 rfl ?_
  refine x_iconst (v := 2) hc dL_law_542 (by decide) ?_
  refine x_iadd hc dL_law_543 ?_
  refine x_vali (nI_add i 2) ?_
  refine x_sld hc hXs hbl hbz rfl (show (i + 2) < Ln by omega) hLn dL_law_544 ?_
  refine x_callV (C := RX3) (T := TX3) (NN := 19) (ci := 4) (As := [.int (xs (i + 1)), .int (xs (i + 2))]) (st := []) hc hMm (by omega) (by decide) rfl hM2 gL_law_X3_spend rfl hdV_X3_spend ⟨Nat.le_of_ble_eq_true rfl, Nat.le_of_ble_eq_true rfl⟩ rfl rfl ⟨Nat.le_trans (show cells + 2 + 0 ≤ cells + 10 by omega) hcs.1, Nat.le_trans (show slots + 12 + 0 ≤ slots + 70 by omega) hcs.2⟩ (Nat.le_of_ble_eq_true rfl) dL_law_545 (fun v8 I8 J8 hz8 => ?_)
  obtain ⟨b9, hv9, hth, hkb, hR2⟩ := hz8
  subst hv9
  refine x_istore (lv' := [(6, .int b9), (5, .int kc), (4, .int (nI i)), (3, .ref ou), (2, .ref m), (1, .ref x), (0, .ref b)]) hc dL_law_548 (by decide) rfl ?_
  refine x_aload_n (j := 4) hc dL_law_550 rfl rfl ?_
  have hMd8 := hR2.ats.2.2.2
  refine x_callV (C := RX3) (T := TX3) (NN := 19) (ci := 4) (As := []) (st := []) hc hMm (by omega) (by decide) rfl (m_thrown l D z e0 L K N I8 J8 R m hMd8) gL_law_X3_thrown rfl hdV_X3_thrown ⟨Nat.le_of_ble_eq_true rfl, Nat.le_of_ble_eq_true rfl⟩ rfl rfl ⟨Nat.le_trans (show cells + 2 + 0 + 0 ≤ cells + 10 by omega) hcs.1, Nat.le_trans (show slots + 12 + 0 + 0 ≤ slots + 70 by omega) hcs.2⟩ (Nat.le_of_ble_eq_true rfl) dL_law_551 (fun v7 I7 J7 hz7 => ?_)
  obtain ⟨rfl, hI7, hJ7⟩ := hz7
  replace hI7 := hI7.symm
  subst hI7
  replace hJ7 := hJ7.symm
  subst hJ7
  refine x_vali (hth) ?_
  refine x_iload (j := 1) hc dL_law_554 rfl ?_
  refine x_icmp_eq (tgt := 561) hc dL_law_556 (by decide) (fun _ => ?_) (fun q9 => absurd (rfl) q9)
  refine x_iload (j := 1) hc dL_law_561 rfl ?_
  refine x_if_ne (tgt := 578) hc dL_law_563 (by decide) (fun qk => ?_) (fun qk => ?_)
  · refine x_goto (tgt := 1327) hc dL_law_578 (by decide) ?_
    refine x_sub [2, 3, 4, 5, 6] rfl ?_
    refine x_widen (show cells + 2 + 0 + 0 ≤ cells + 10 by omega) (show slots + 12 + 0 + 0 ≤ slots + 70 by omega) ?_
    exact kont _ _ _ _ _ _ hR2
  · refine x_aload_n (j := 3) hc dL_law_566 rfl rfl ?_
    refine x_iconst (v := 0) hc dL_law_567 (by decide) ?_
    refine x_lald hc hO (by decide) rfl (by decide) (by omega) dL_law_568 ?_
    refine x_vall (y := Int32.toInt64 V) ((hkb qk).2) ?_
    refine x_iload (j := 0) hc dL_law_569 rfl ?_
    refine x_i2l hc dL_law_571 ?_
    refine x_lcmp hc dL_law_572 ?_
    refine x_if_eq (tgt := 578) hc dL_law_573 (by decide) (fun _ => ?_) (fun q9 => absurd (lgc (by rw [(hkb qk).1])) q9)
    refine x_goto (tgt := 1327) hc dL_law_578 (by decide) ?_
    refine x_sub [2, 3, 4, 5, 6] rfl ?_
    refine x_widen (show cells + 2 + 0 + 0 ≤ cells + 10 by omega) (show slots + 12 + 0 + 0 ≤ slots + 70 by omega) ?_
    exact kont _ _ _ _ _ _ hR2
set_option maxHeartbeats 4000000 in
set_option maxRecDepth 100000 in
theorem law_c6 {pg : Program} {l : Launch} {ev : Env} {s : State} {mi : MethodId} {args : Array Value} {below : List Frame} {meth : Method} {c : Code} {D : va_G} {z e0 : Nat} {L : List Nat} {K N : Nat → Nat} {I : Nat → Nat → Int32} {J : Nat → Nat → Int64} {R : Nat → Nat → Option Nat} {cells slots : Nat} {Q : State → Prop} {b Ln x m ou st i : Nat} {xs : Nat → Int32} (hc : CT pg l s mi args meth c D z e0 cL_law 7 RL wsL_law) (hXs : va_X b Ln xs s s.heap) (hbl : b < s.heap.size) (hbz : b < z) (hLn : Ln ≤ 3072) (hfl : l.stackTraces = false) (hst : st ≤ 511) (hR : REL e0 x m ou st L K N I J R) (hi : i + 6 ≤ Ln) (hcs : cells + 10 ≤ room_1.cells ∧ slots + 70 ≤ room_1.slots) (kont : ∀ L K N I J R, REL e0 x m ou (st + 1) L K N I J R → XW pg l ev room_1 s mi args below meth c D z 7 L K N I J R (cells + 10) (slots + 70) Q 1327 [(4, .int (nI i)), (3, .ref ou), (2, .ref m), (1, .ref x), (0, .ref b)] []) : XW pg l ev room_1 s mi args below meth c D z 7 L K N I J R cells slots Q 581 [(4, .int (nI i)), (3, .ref ou), (2, .ref m), (1, .ref x), (0, .ref b)] [] := by
  obtain ⟨hX, hMm, hO, hMd⟩ := hR.ats
  refine x_aload_n (j := 3) hc dL_law_581 rfl rfl ?_
  refine x_aload_n (j := 4) hc dL_law_582 rfl rfl ?_
  refine x_iload (j := 0) hc dL_law_583 rfl ?_
  refine x_iconst (v := 1) hc dL_law_585 (by decide) ?_
  refine x_iadd hc dL_law_586 ?_
  refine x_vali (nI_add i 1) ?_
  refine x_sld hc hXs hbl hbz rfl (show (i + 1) < Ln by omega) hLn dL_law_587 ?_
  refine x_aload_n (j := 4) hc dL_law_588 rfl rfl ?_
  refine x_iload (j := 0) hc dL_law_589 rfl ?_
  refine x_iconst (v := 2) hc dL_law_591 (by decide) ?_
  refine x_iadd hc dL_law_592 ?_
  refine x_vali (nI_add i 2) ?_
  refine x_sld hc hXs hbl hbz rfl (show (i + 2) < Ln by omega) hLn dL_law_593 ?_
  refine x_aload_n (j := 4) hc dL_law_594 rfl rfl ?_
  refine x_iload (j := 0) hc dL_law_595 rfl ?_
  refine x_iconst (v := 3) hc dL_law_597 (by decide) ?_
  refine x_iadd hc dL_law_598 ?_
  refine x_vali (nI_add i 3) ?_
  refine x_sld hc hXs hbl hbz rfl (show (i + 3) < Ln by omega) hLn dL_law_599 ?_
  refine x_aload_n (j := 4) hc dL_law_600 rfl rfl ?_
  refine x_iload (j := 0) hc dL_law_601 rfl ?_
  refine x_iconst (v := 4) hc dL_law_603 (by decide) ?_
  refine x_iadd hc dL_law_604 ?_
  refine x_vali (nI_add i 4) ?_
  refine x_sld hc hXs hbl hbz rfl (show (i + 4) < Ln by omega) hLn dL_law_605 ?_
  refine x_aload_n (j := 1) hc dL_law_606 rfl rfl ?_
  refine x_callSW (As := [.ref x, .int (xs (i + 1)), .int (xs (i + 2)), .int (xs (i + 3)), .int (xs (i + 4)), .ref ou]) (st := []) hc (op_audit (l := l) (D := D) (z := z) hfl hst hR (xs (i + 1)) (xs (i + 2)) (xs (i + 3)) (xs (i + 4))) gL_law_L_audit rfl hdS_L_audit ⟨Nat.le_of_ble_eq_true rfl, Nat.le_of_ble_eq_true rfl⟩ rfl rfl ⟨Nat.le_trans (show cells + 4 ≤ cells + 10 by omega) hcs.1, Nat.le_trans (show slots + 24 ≤ slots + 70 by omega) hcs.2⟩ (Nat.le_of_ble_eq_true rfl) dL_law_607 (fun v9 I9 J9 hz9 => ?_)
  obtain ⟨kc, V, hv9, hV, hM2⟩ := hz9
  subst hv9
  refine x_istore (lv' := [(5, .int kc), (4, .int (nI i)), (3, .ref ou), (2, .ref m), (1, .ref x), (0, .ref b)]) hc dL_law_610 (by decide) rfl ?_
  refine x_aload_n (j := 3) hc dL_law_612 rfl rfl ?_
  refine x_aload_n (j := 5) hc dL_law_613 rfl rfl ?_
  refine x_iload (j := 1) hc dL_law_614 rfl ?_
  refine x_iconst (v := 1) hc dL_law_616 (by decide) ?_
  refine x_iadd hc dL_law_617 ?_
  refine x_vali (nI_add i 1) ?_
  refine x_sld hc hXs hbl hbz rfl (show (i + 1) < Ln by omega) hLn dL_law_618 ?_
  refine x_aload_n (j := 5) hc dL_law_619 rfl rfl ?_
  refine x_iload (j := 1) hc dL_law_620 rfl ?_
  refine x_iconst (v := 2) hc dL_law_622 (by decide) ?_
  refine x_iadd hc dL_law_623 ?_
  refine x_vali (nI_add i 2) ?_
  refine x_sld hc hXs hbl hbz rfl (show (i + 2) < Ln by omega) hLn dL_law_624 ?_
  refine x_aload_n (j := 5) hc dL_law_625 rfl rfl ?_
  refine x_iload (j := 1) hc dL_law_626 rfl ?_
  refine x_iconst (v := 3) hc dL_law_628 (by decide) ?_
  refine x_iadd hc dL_law_629 ?_
  refine x_vali (nI_add i 3) ?_
  refine x_sld hc hXs hbl hbz rfl (show (i + 3) < Ln by omega) hLn dL_law_630 ?_
  refine x_aload_n (j := 5) hc dL_law_631 rfl rfl ?_
  refine x_iload (j := 1) hc dL_law_632 rfl ?_
  refine x_iconst (v := 4) hc dL_law_634 (by decide) ?_
  refine x_iadd hc dL_law_635 ?_
  refine x_vali (nI_add i 4) ?_
  refine x_sld hc hXs hbl hbz rfl (show (i + 4) < Ln by omega) hLn dL_law_636 ?_
  refine x_callV (C := RX3) (T := TX3) (NN := 19) (ci := 4) (As := [.int (xs (i + 1)), .int (xs (i + 2)), .int (xs (i + 3)), .int (xs (i + 4))]) (st := []) hc hMm (by omega) (by decide) rfl hM2 gL_law_X3_audit rfl hdV_X3_audit ⟨Nat.le_of_ble_eq_true rfl, Nat.le_of_ble_eq_true rfl⟩ rfl rfl ⟨Nat.le_trans (show cells + 4 + 0 ≤ cells + 10 by omega) hcs.1, Nat.le_trans (show slots + 24 + 0 ≤ slots + 70 by omega) hcs.2⟩ (Nat.le_of_ble_eq_true rfl) dL_law_637 (fun v8 I8 J8 hz8 => ?_)
  obtain ⟨b9, hv9, hth, hkb, hR2⟩ := hz8
  subst hv9
  refine x_istore (lv' := [(6, .int b9), (5, .int kc), (4, .int (nI i)), (3, .ref ou), (2, .ref m), (1, .ref x), (0, .ref b)]) hc dL_law_640 (by decide) rfl ?_
  refine x_aload_n (j := 4) hc dL_law_642 rfl rfl ?_
  have hMd8 := hR2.ats.2.2.2
  refine x_callV (C := RX3) (T := TX3) (NN := 19) (ci := 4) (As := []) (st := []) hc hMm (by omega) (by decide) rfl (m_thrown l D z e0 L K N I8 J8 R m hMd8) gL_law_X3_thrown rfl hdV_X3_thrown ⟨Nat.le_of_ble_eq_true rfl, Nat.le_of_ble_eq_true rfl⟩ rfl rfl ⟨Nat.le_trans (show cells + 4 + 0 + 0 ≤ cells + 10 by omega) hcs.1, Nat.le_trans (show slots + 24 + 0 + 0 ≤ slots + 70 by omega) hcs.2⟩ (Nat.le_of_ble_eq_true rfl) dL_law_643 (fun v7 I7 J7 hz7 => ?_)
  obtain ⟨rfl, hI7, hJ7⟩ := hz7
  replace hI7 := hI7.symm
  subst hI7
  replace hJ7 := hJ7.symm
  subst hJ7
  refine x_vali (hth) ?_
  refine x_iload (j := 1) hc dL_law_646 rfl ?_
  refine x_icmp_eq (tgt := 653) hc dL_law_648 (by decide) (fun _ => ?_) (fun q9 => absurd (rfl) q9)
  refine x_iload (j := 1) hc dL_law_653 rfl ?_
  refine x_if_ne (tgt := 670) hc dL_law_655 (by decide) (fun qk => ?_) (fun qk => ?_)
  · refine x_goto (tgt := 1327) hc dL_law_670 (by decide) ?_
    refine x_sub [2, 3, 4, 5, 6] rfl ?_
    refine x_widen (show cells + 4 + 0 + 0 ≤ cells + 10 by omega) (show slots + 24 + 0 + 0 ≤ slots + 70 by omega) ?_
    exact kont _ _ _ _ _ _ hR2
  · refine x_aload_n (j := 3) hc dL_law_658 rfl rfl ?_
    refine x_iconst (v := 0) hc dL_law_659 (by decide) ?_
    refine x_lald hc hO (by decide) rfl (by decide) (by omega) dL_law_660 ?_
    refine x_vall (y := Int32.toInt64 V) ((hkb qk).2) ?_
    refine x_iload (j := 0) hc dL_law_661 rfl ?_
    refine x_i2l hc dL_law_663 ?_
    refine x_lcmp hc dL_law_664 ?_
    refine x_if_eq (tgt := 670) hc dL_law_665 (by decide) (fun _ => ?_) (fun q9 => absurd (lgc (by rw [(hkb qk).1])) q9)
    refine x_goto (tgt := 1327) hc dL_law_670 (by decide) ?_
    refine x_sub [2, 3, 4, 5, 6] rfl ?_
    refine x_widen (show cells + 4 + 0 + 0 ≤ cells + 10 by omega) (show slots + 24 + 0 + 0 ≤ slots + 70 by omega) ?_
    exact kont _ _ _ _ _ _ hR2
set_option maxHeartbeats 4000000 in
set_option maxRecDepth 100000 in
theorem law_c7 {pg : Program} {l : Launch} {ev : Env} {s : State} {mi : MethodId} {args : Array Value} {below : List Frame} {meth : Method} {c : Code} {D : va_G} {z e0 : Nat} {L : List Nat} {K N : Nat → Nat} {I : Nat → Nat → Int32} {J : Nat → Nat → Int64} {R : Nat → Nat → Option Nat} {cells slots : Nat} {Q : State → Prop} {b Ln x m ou st i : Nat} {xs : Nat → Int32} (hc : CT pg l s mi args meth c D z e0 cL_law 7 RL wsL_law) (hXs : va_X b Ln xs s s.heap) (hbl : b < s.heap.size) (hbz : b < z) (hLn : Ln ≤ 3072) (hfl : l.stackTraces = false) (hst : st ≤ 511) (hR : REL e0 x m ou st L K N I J R) (hi : i + 6 ≤ Ln) (hcs : cells + 10 ≤ room_1.cells ∧ slots + 70 ≤ room_1.slots) (kont : ∀ L K N I J R, REL e0 x m ou (st + 1) L K N I J R → XW pg l ev room_1 s mi args below meth c D z 7 L K N I J R (cells + 10) (slots + 70) Q 1327 [(4, .int (nI i)), (3, .ref ou), (2, .ref m), (1, .ref x), (0, .ref b)] []) : XW pg l ev room_1 s mi args below meth c D z 7 L K N I J R cells slots Q 673 [(4, .int (nI i)), (3, .ref ou), (2, .ref m), (1, .ref x), (0, .ref b)] [] := by
  obtain ⟨hX, hMm, hO, hMd⟩ := hR.ats
  refine x_aload_n (j := 3) hc dL_law_673 rfl rfl ?_
  refine x_aload_n (j := 1) hc dL_law_674 rfl rfl ?_
  refine x_callSW (As := [.ref x, .ref ou]) (st := []) hc (op_closeYear (l := l) (D := D) (z := z) hfl hst hR) gL_law_L_closeYear rfl hdS_L_closeYear ⟨Nat.le_of_ble_eq_true rfl, Nat.le_of_ble_eq_true rfl⟩ rfl rfl ⟨Nat.le_trans (show cells + 1 ≤ cells + 10 by omega) hcs.1, Nat.le_trans (show slots + 6 ≤ slots + 70 by omega) hcs.2⟩ (Nat.le_of_ble_eq_true rfl) dL_law_675 (fun v9 I9 J9 hz9 => ?_)
  obtain ⟨kc, V, hv9, hV, hM2⟩ := hz9
  subst hv9
  refine x_istore (lv' := [(5, .int kc), (4, .int (nI i)), (3, .ref ou), (2, .ref m), (1, .ref x), (0, .ref b)]) hc dL_law_678 (by decide) rfl ?_
  refine x_aload_n (j := 3) hc dL_law_680 rfl rfl ?_
  refine x_callV (C := RX3) (T := TX3) (NN := 19) (ci := 4) (As := []) (st := []) hc hMm (by omega) (by decide) rfl hM2 gL_law_X3_closeYear rfl hdV_X3_closeYear ⟨Nat.le_of_ble_eq_true rfl, Nat.le_of_ble_eq_true rfl⟩ rfl rfl ⟨Nat.le_trans (show cells + 1 + 0 ≤ cells + 10 by omega) hcs.1, Nat.le_trans (show slots + 6 + 0 ≤ slots + 70 by omega) hcs.2⟩ (Nat.le_of_ble_eq_true rfl) dL_law_681 (fun v8 I8 J8 hz8 => ?_)
  obtain ⟨b9, hv9, hth, hkb, hR2⟩ := hz8
  subst hv9
  refine x_istore (lv' := [(6, .int b9), (5, .int kc), (4, .int (nI i)), (3, .ref ou), (2, .ref m), (1, .ref x), (0, .ref b)]) hc dL_law_684 (by decide) rfl ?_
  refine x_aload_n (j := 4) hc dL_law_686 rfl rfl ?_
  have hMd8 := hR2.ats.2.2.2
  refine x_callV (C := RX3) (T := TX3) (NN := 19) (ci := 4) (As := []) (st := []) hc hMm (by omega) (by decide) rfl (m_thrown l D z e0 L K N I8 J8 R m hMd8) gL_law_X3_thrown rfl hdV_X3_thrown ⟨Nat.le_of_ble_eq_true rfl, Nat.le_of_ble_eq_true rfl⟩ rfl rfl ⟨Nat.le_trans (show cells + 1 + 0 + 0 ≤ cells + 10 by omega) hcs.1, Nat.le_trans (show slots + 6 + 0 + 0 ≤ slots + 70 by omega) hcs.2⟩ (Nat.le_of_ble_eq_true rfl) dL_law_687 (fun v7 I7 J7 hz7 => ?_)
  obtain ⟨rfl, hI7, hJ7⟩ := hz7
  replace hI7 := hI7.symm
  subst hI7
  replace hJ7 := hJ7.symm
  subst hJ7
  refine x_vali (hth) ?_
  refine x_iload (j := 1) hc dL_law_690 rfl ?_
  refine x_icmp_eq (tgt := 697) hc dL_law_692 (by decide) (fun _ => ?_) (fun q9 => absurd (rfl) q9)
  refine x_iload (j := 1) hc dL_law_697 rfl ?_
  refine x_if_ne (tgt := 714) hc dL_law_699 (by decide) (fun qk => ?_) (fun qk => ?_)
  · refine x_goto (tgt := 1327) hc dL_law_714 (by decide) ?_
    refine x_sub [2, 3, 4, 5, 6] rfl ?_
    refine x_widen (show cells + 1 + 0 + 0 ≤ cells + 10 by omega) (show slots + 6 + 0 + 0 ≤ slots + 70 by omega) ?_
    exact kont _ _ _ _ _ _ hR2
  · refine x_aload_n (j := 3) hc dL_law_702 rfl rfl ?_
    refine x_iconst (v := 0) hc dL_law_703 (by decide) ?_
    refine x_lald hc hO (by decide) rfl (by decide) (by omega) dL_law_704 ?_
    refine x_vall (y := Int32.toInt64 V) ((hkb qk).2) ?_
    refine x_iload (j := 0) hc dL_law_705 rfl ?_
    refine x_i2l hc dL_law_707 ?_
    refine x_lcmp hc dL_law_708 ?_
    refine x_if_eq (tgt := 714) hc dL_law_709 (by decide) (fun _ => ?_) (fun q9 => absurd (lgc (by rw [(hkb qk).1])) q9)
    refine x_goto (tgt := 1327) hc dL_law_714 (by decide) ?_
    refine x_sub [2, 3, 4, 5, 6] rfl ?_
    refine x_widen (show cells + 1 + 0 + 0 ≤ cells + 10 by omega) (show slots + 6 + 0 + 0 ≤ slots + 70 by omega) ?_
    exact kont _ _ _ _ _ _ hR2
set_option maxHeartbeats 4000000 in
set_option maxRecDepth 100000 in
theorem law_c8 {pg : Program} {l : Launch} {ev : Env} {s : State} {mi : MethodId} {args : Array Value} {below : List Frame} {meth : Method} {c : Code} {D : va_G} {z e0 : Nat} {L : List Nat} {K N : Nat → Nat} {I : Nat → Nat → Int32} {J : Nat → Nat → Int64} {R : Nat → Nat → Option Nat} {cells slots : Nat} {Q : State → Prop} {b Ln x m ou st i : Nat} {xs : Nat → Int32} (hc : CT pg l s mi args meth c D z e0 cL_law 7 RL wsL_law) (hXs : va_X b Ln xs s s.heap) (hbl : b < s.heap.size) (hbz : b < z) (hLn : Ln ≤ 3072) (hfl : l.stackTraces = false) (hst : st ≤ 511) (hR : REL e0 x m ou st L K N I J R) (hi : i + 6 ≤ Ln) (hcs : cells + 10 ≤ room_1.cells ∧ slots + 70 ≤ room_1.slots) (kont : ∀ L K N I J R, REL e0 x m ou (st + 1) L K N I J R → XW pg l ev room_1 s mi args below meth c D z 7 L K N I J R (cells + 10) (slots + 70) Q 1327 [(4, .int (nI i)), (3, .ref ou), (2, .ref m), (1, .ref x), (0, .ref b)] []) : XW pg l ev room_1 s mi args below meth c D z 7 L K N I J R cells slots Q 717 [(4, .int (nI i)), (3, .ref ou), (2, .ref m), (1, .ref x), (0, .ref b)] [] := by
  obtain ⟨hX, hMm, hO, hMd⟩ := hR.ats
  refine x_aload_n (j := 3) hc dL_law_717 rfl rfl ?_
  refine x_aload_n (j := 4) hc dL_law_718 rfl rfl ?_
  refine x_iload (j := 0) hc dL_law_719 rfl ?_
  refine x_iconst (v := 1) hc dL_law_721 (by decide) ?_
  refine x_iadd hc dL_law_722 ?_
  refine x_vali (nI_add i 1) ?_
  refine x_sld hc hXs hbl hbz rfl (show (i + 1) < Ln by omega) hLn dL_law_723 ?_
  refine x_aload_n (j := 1) hc dL_law_724 rfl rfl ?_
  refine x_callSW (As := [.ref x, .int (xs (i + 1)), .ref ou]) (st := []) hc (op_pay (l := l) (D := D) (z := z) hfl hst hR (xs (i + 1))) gL_law_L_pay rfl hdS_L_pay ⟨Nat.le_of_ble_eq_true rfl, Nat.le_of_ble_eq_true rfl⟩ rfl rfl ⟨Nat.le_trans (show cells + 2 ≤ cells + 10 by omega) hcs.1, Nat.le_trans (show slots + 12 ≤ slots + 70 by omega) hcs.2⟩ (Nat.le_of_ble_eq_true rfl) dL_law_725 (fun v9 I9 J9 hz9 => ?_)
  obtain ⟨kc, V, hv9, hV, hM2⟩ := hz9
  subst hv9
  refine x_istore (lv' := [(5, .int kc), (4, .int (nI i)), (3, .ref ou), (2, .ref m), (1, .ref x), (0, .ref b)]) hc dL_law_728 (by decide) rfl ?_
  refine x_aload_n (j := 3) hc dL_law_730 rfl rfl ?_
  refine x_aload_n (j := 5) hc dL_law_731 rfl rfl ?_
  refine x_iload (j := 1) hc dL_law_732 rfl ?_
  refine x_iconst (v := 1) hc dL_law_734 (by decide) ?_
  refine x_iadd hc dL_law_735 ?_
  refine x_vali (nI_add i 1) ?_
  refine x_sld hc hXs hbl hbz rfl (show (i + 1) < Ln by omega) hLn dL_law_736 ?_
  refine x_callV (C := RX3) (T := TX3) (NN := 19) (ci := 4) (As := [.int (xs (i + 1))]) (st := []) hc hMm (by omega) (by decide) rfl hM2 gL_law_X3_pay rfl hdV_X3_pay ⟨Nat.le_of_ble_eq_true rfl, Nat.le_of_ble_eq_true rfl⟩ rfl rfl ⟨Nat.le_trans (show cells + 2 + 0 ≤ cells + 10 by omega) hcs.1, Nat.le_trans (show slots + 12 + 0 ≤ slots + 70 by omega) hcs.2⟩ (Nat.le_of_ble_eq_true rfl) dL_law_737 (fun v8 I8 J8 hz8 => ?_)
  obtain ⟨b9, hv9, hth, hkb, hR2⟩ := hz8
  subst hv9
  refine x_istore (lv' := [(6, .int b9), (5, .int kc), (4, .int (nI i)), (3, .ref ou), (2, .ref m), (1, .ref x), (0, .ref b)]) hc dL_law_740 (by decide) rfl ?_
  refine x_aload_n (j := 4) hc dL_law_742 rfl rfl ?_
  have hMd8 := hR2.ats.2.2.2
  refine x_callV (C := RX3) (T := TX3) (NN := 19) (ci := 4) (As := []) (st := []) hc hMm (by omega) (by decide) rfl (m_thrown l D z e0 L K N I8 J8 R m hMd8) gL_law_X3_thrown rfl hdV_X3_thrown ⟨Nat.le_of_ble_eq_true rfl, Nat.le_of_ble_eq_true rfl⟩ rfl rfl ⟨Nat.le_trans (show cells + 2 + 0 + 0 ≤ cells + 10 by omega) hcs.1, Nat.le_trans (show slots + 12 + 0 + 0 ≤ slots + 70 by omega) hcs.2⟩ (Nat.le_of_ble_eq_true rfl) dL_law_743 (fun v7 I7 J7 hz7 => ?_)
  obtain ⟨rfl, hI7, hJ7⟩ := hz7
  replace hI7 := hI7.symm
  subst hI7
  replace hJ7 := hJ7.symm
  subst hJ7
  refine x_vali (hth) ?_
  refine x_iload (j := 1) hc dL_law_746 rfl ?_
  refine x_icmp_eq (tgt := 753) hc dL_law_748 (by decide) (fun _ => ?_) (fun q9 => absurd (rfl) q9)
  refine x_iload (j := 1) hc dL_law_753 rfl ?_
  refine x_if_ne (tgt := 770) hc dL_law_755 (by decide) (fun qk => ?_) (fun qk => ?_)
  · refine x_goto (tgt := 1327) hc dL_law_770 (by decide) ?_
    refine x_sub [2, 3, 4, 5, 6] rfl ?_
    refine x_widen (show cells + 2 + 0 + 0 ≤ cells + 10 by omega) (show slots + 12 + 0 + 0 ≤ slots + 70 by omega) ?_
    exact kont _ _ _ _ _ _ hR2
  · refine x_aload_n (j := 3) hc dL_law_758 rfl rfl ?_
    refine x_iconst (v := 0) hc dL_law_759 (by decide) ?_
    refine x_lald hc hO (by decide) rfl (by decide) (by omega) dL_law_760 ?_
    refine x_vall (y := Int32.toInt64 V) ((hkb qk).2) ?_
    refine x_iload (j := 0) hc dL_law_761 rfl ?_
    refine x_i2l hc dL_law_763 ?_
    refine x_lcmp hc dL_law_764 ?_
    refine x_if_eq (tgt := 770) hc dL_law_765 (by decide) (fun _ => ?_) (fun q9 => absurd (lgc (by rw [(hkb qk).1])) q9)
    refine x_goto (tgt := 1327) hc dL_law_770 (by decide) ?_
    refine x_sub [2, 3, 4, 5, 6] rfl ?_
    refine x_widen (show cells + 2 + 0 + 0 ≤ cells + 10 by omega) (show slots + 12 + 0 + 0 ≤ slots + 70 by omega) ?_
    exact kont _ _ _ _ _ _ hR2
set_option maxHeartbeats 4000000 in
set_option maxRecDepth 100000 in
theorem law_c9 {pg : Program} {l : Launch} {ev : Env} {s : State} {mi : MethodId} {args : Array Value} {below : List Frame} {meth : Method} {c : Code} {D : va_G} {z e0 : Nat} {L : List Nat} {K N : Nat → Nat} {I : Nat → Nat → Int32} {J : Nat → Nat → Int64} {R : Nat → Nat → Option Nat} {cells slots : Nat} {Q : State → Prop} {b Ln x m ou st i : Nat} {xs : Nat → Int32} (hc : CT pg l s mi args meth c D z e0 cL_law 7 RL wsL_law) (hXs : va_X b Ln xs s s.heap) (hbl : b < s.heap.size) (hbz : b < z) (hLn : Ln ≤ 3072) (hfl : l.stackTraces = false) (hst : st ≤ 511) (hR : REL e0 x m ou st L K N I J R) (hi : i + 6 ≤ Ln) (hcs : cells + 10 ≤ room_1.cells ∧ slots + 70 ≤ room_1.slots) (kont : ∀ L K N I J R, REL e0 x m ou (st + 1) L K N I J R → XW pg l ev room_1 s mi args below meth c D z 7 L K N I J R (cells + 10) (slots + 70) Q 1327 [(4, .int (nI i)), (3, .ref ou), (2, .ref m), (1, .ref x), (0, .ref b)] []) : XW pg l ev room_1 s mi args below meth c D z 7 L K N I J R cells slots Q 773 [(4, .int (nI i)), (3, .ref ou), (2, .ref m), (1, .ref x), (0, .ref b)] [] := by
  obtain ⟨hX, hMm, hO, hMd⟩ := hR.ats
  refine x_aload_n (j := 3) hc dL_law_773 rfl rfl ?_
  refine x_callV (C := RX2) (T := TX2) (NN := 5) (ci := 3) (As := []) (st := []) hc hX (by omega) (by decide) rfl (op_year (l := l) (D := D) (z := z) hR) gL_law_X2_year rfl hdV_X2_year ⟨Nat.le_of_ble_eq_true rfl, Nat.le_of_ble_eq_true rfl⟩ rfl rfl ⟨Nat.le_trans (show cells + 0 ≤ cells + 10 by omega) hcs.1, Nat.le_trans (show slots + 0 ≤ slots + 70 by omega) hcs.2⟩ (Nat.le_of_ble_eq_true rfl) dL_law_774 (fun v9 I9 J9 hz9 => ?_)
  obtain ⟨V, hv9, hM2⟩ := hz9
  subst hv9
  refine x_aload_n (j := 2) hc dL_law_777 rfl rfl ?_
  refine x_callV (C := RX3) (T := TX3) (NN := 19) (ci := 4) (As := []) (st := [.int V]) hc hMm (by omega) (by decide) rfl hM2 gL_law_X3_year rfl hdV_X3_year ⟨Nat.le_of_ble_eq_true rfl, Nat.le_of_ble_eq_true rfl⟩ rfl rfl ⟨Nat.le_trans (show cells + 0 + 0 ≤ cells + 10 by omega) hcs.1, Nat.le_trans (show slots + 0 + 0 ≤ slots + 70 by omega) hcs.2⟩ (Nat.le_of_ble_eq_true rfl) dL_law_778 (fun v8 I8 J8 hz8 => ?_)
  obtain ⟨hv9, hR2⟩ := hz8
  subst hv9
  refine x_icmp_eq (tgt := 1327) hc dL_law_781 (by decide) (fun _ => ?_) (fun q9 => absurd (rfl) q9)
  refine x_sub [0, 1, 2, 3, 4] rfl ?_
  refine x_widen (show cells + 0 + 0 ≤ cells + 10 by omega) (show slots + 0 + 0 ≤ slots + 70 by omega) ?_
  exact kont _ _ _ _ _ _ hR2
set_option maxHeartbeats 4000000 in
set_option maxRecDepth 100000 in
theorem law_c10 {pg : Program} {l : Launch} {ev : Env} {s : State} {mi : MethodId} {args : Array Value} {below : List Frame} {meth : Method} {c : Code} {D : va_G} {z e0 : Nat} {L : List Nat} {K N : Nat → Nat} {I : Nat → Nat → Int32} {J : Nat → Nat → Int64} {R : Nat → Nat → Option Nat} {cells slots : Nat} {Q : State → Prop} {b Ln x m ou st i : Nat} {xs : Nat → Int32} (hc : CT pg l s mi args meth c D z e0 cL_law 7 RL wsL_law) (hXs : va_X b Ln xs s s.heap) (hbl : b < s.heap.size) (hbz : b < z) (hLn : Ln ≤ 3072) (hfl : l.stackTraces = false) (hst : st ≤ 511) (hR : REL e0 x m ou st L K N I J R) (hi : i + 6 ≤ Ln) (hcs : cells + 10 ≤ room_1.cells ∧ slots + 70 ≤ room_1.slots) (kont : ∀ L K N I J R, REL e0 x m ou (st + 1) L K N I J R → XW pg l ev room_1 s mi args below meth c D z 7 L K N I J R (cells + 10) (slots + 70) Q 1327 [(4, .int (nI i)), (3, .ref ou), (2, .ref m), (1, .ref x), (0, .ref b)] []) : XW pg l ev room_1 s mi args below meth c D z 7 L K N I J R cells slots Q 786 [(4, .int (nI i)), (3, .ref ou), (2, .ref m), (1, .ref x), (0, .ref b)] [] := by
  obtain ⟨hX, hMm, hO, hMd⟩ := hR.ats
  refine x_aload_n (j := 3) hc dL_law_786 rfl rfl ?_
  refine x_aload_n (j := 4) hc dL_law_787 rfl rfl ?_
  refine x_iload (j := 0) hc dL_law_788 rfl ?_
  refine x_iconst (v := 1) hc dL_law_790 (by decide) ?_
  refine x_iadd hc dL_law_791 ?_
  refine x_vali (nI_add i 1) ?_
  refine x_sld hc hXs hbl hbz rfl (show (i + 1) < Ln by omega) hLn dL_law_792 ?_
  refine x_aload_n (j := 1) hc dL_law_793 rfl rfl ?_
  refine x_callSW (As := [.ref x, .int (xs (i + 1)), .ref ou]) (st := []) hc (op_gross (l := l) (D := D) (z := z) hfl hst hR (xs (i + 1))) gL_law_L_gross rfl hdS_L_gross ⟨Nat.le_of_ble_eq_true rfl, Nat.le_of_ble_eq_true rfl⟩ rfl rfl ⟨Nat.le_trans (show cells + 1 ≤ cells + 10 by omega) hcs.1, Nat.le_trans (show slots + 6 ≤ slots + 70 by omega) hcs.2⟩ (Nat.le_of_ble_eq_true rfl) dL_law_794 (fun v9 I9 J9 hz9 => ?_)
  obtain ⟨kc, V, hv9, hV, hM2⟩ := hz9
  subst hv9
  refine x_istore (lv' := [(5, .int kc), (4, .int (nI i)), (3, .ref ou), (2, .ref m), (1, .ref x), (0, .ref b)]) hc dL_law_797 (by decide) rfl ?_
  refine x_aload_n (j := 3) hc dL_law_799 rfl rfl ?_
  refine x_aload_n (j := 5) hc dL_law_800 rfl rfl ?_
  refine x_iload (j := 1) hc dL_law_801 rfl ?_
  refine x_iconst (v := 1) hc dL_law_803 (by decide) ?_
  refine x_iadd hc dL_law_804 ?_
  refine x_vali (nI_add i 1) ?_
  refine x_sld hc hXs hbl hbz rfl (show (i + 1) < Ln by omega) hLn dL_law_805 ?_
  refine x_callV (C := RX3) (T := TX3) (NN := 19) (ci := 4) (As := [.int (xs (i + 1))]) (st := []) hc hMm (by omega) (by decide) rfl hM2 gL_law_X3_gross rfl hdV_X3_gross ⟨Nat.le_of_ble_eq_true rfl, Nat.le_of_ble_eq_true rfl⟩ rfl rfl ⟨Nat.le_trans (show cells + 1 + 0 ≤ cells + 10 by omega) hcs.1, Nat.le_trans (show slots + 6 + 0 ≤ slots + 70 by omega) hcs.2⟩ (Nat.le_of_ble_eq_true rfl) dL_law_806 (fun v8 I8 J8 hz8 => ?_)
  obtain ⟨b9, hv9, hth, hkb, hR2⟩ := hz8
  subst hv9
  refine x_istore (lv' := [(6, .int b9), (5, .int kc), (4, .int (nI i)), (3, .ref ou), (2, .ref m), (1, .ref x), (0, .ref b)]) hc dL_law_809 (by decide) rfl ?_
  refine x_aload_n (j := 4) hc dL_law_811 rfl rfl ?_
  have hMd8 := hR2.ats.2.2.2
  refine x_callV (C := RX3) (T := TX3) (NN := 19) (ci := 4) (As := []) (st := []) hc hMm (by omega) (by decide) rfl (m_thrown l D z e0 L K N I8 J8 R m hMd8) gL_law_X3_thrown rfl hdV_X3_thrown ⟨Nat.le_of_ble_eq_true rfl, Nat.le_of_ble_eq_true rfl⟩ rfl rfl ⟨Nat.le_trans (show cells + 1 + 0 + 0 ≤ cells + 10 by omega) hcs.1, Nat.le_trans (show slots + 6 + 0 + 0 ≤ slots + 70 by omega) hcs.2⟩ (Nat.le_of_ble_eq_true rfl) dL_law_812 (fun v7 I7 J7 hz7 => ?_)
  obtain ⟨rfl, hI7, hJ7⟩ := hz7
  replace hI7 := hI7.symm
  subst hI7
  replace hJ7 := hJ7.symm
  subst hJ7
  refine x_vali (hth) ?_
  refine x_iload (j := 1) hc dL_law_815 rfl ?_
  refine x_icmp_eq (tgt := 822) hc dL_law_817 (by decide) (fun _ => ?_) (fun q9 => absurd (rfl) q9)
  refine x_iload (j := 1) hc dL_law_822 rfl ?_
  refine x_if_ne (tgt := 839) hc dL_law_824 (by decide) (fun qk => ?_) (fun qk => ?_)
  · refine x_goto (tgt := 1327) hc dL_law_839 (by decide) ?_
    refine x_sub [2, 3, 4, 5, 6] rfl ?_
    refine x_widen (show cells + 1 + 0 + 0 ≤ cells + 10 by omega) (show slots + 6 + 0 + 0 ≤ slots + 70 by omega) ?_
    exact kont _ _ _ _ _ _ hR2
  · refine x_aload_n (j := 3) hc dL_law_827 rfl rfl ?_
    refine x_iconst (v := 0) hc dL_law_828 (by decide) ?_
    refine x_lald hc hO (by decide) rfl (by decide) (by omega) dL_law_829 ?_
    refine x_vall (y := Int32.toInt64 V) ((hkb qk).2) ?_
    refine x_iload (j := 0) hc dL_law_830 rfl ?_
    refine x_i2l hc dL_law_832 ?_
    refine x_lcmp hc dL_law_833 ?_
    refine x_if_eq (tgt := 839) hc dL_law_834 (by decide) (fun _ => ?_) (fun q9 => absurd (lgc (by rw [(hkb qk).1])) q9)
    refine x_goto (tgt := 1327) hc dL_law_839 (by decide) ?_
    refine x_sub [2, 3, 4, 5, 6] rfl ?_
    refine x_widen (show cells + 1 + 0 + 0 ≤ cells + 10 by omega) (show slots + 6 + 0 + 0 ≤ slots + 70 by omega) ?_
    exact kont _ _ _ _ _ _ hR2
set_option maxHeartbeats 4000000 in
set_option maxRecDepth 100000 in
theorem law_c11 {pg : Program} {l : Launch} {ev : Env} {s : State} {mi : MethodId} {args : Array Value} {below : List Frame} {meth : Method} {c : Code} {D : va_G} {z e0 : Nat} {L : List Nat} {K N : Nat → Nat} {I : Nat → Nat → Int32} {J : Nat → Nat → Int64} {R : Nat → Nat → Option Nat} {cells slots : Nat} {Q : State → Prop} {b Ln x m ou st i : Nat} {xs : Nat → Int32} (hc : CT pg l s mi args meth c D z e0 cL_law 7 RL wsL_law) (hXs : va_X b Ln xs s s.heap) (hbl : b < s.heap.size) (hbz : b < z) (hLn : Ln ≤ 3072) (hfl : l.stackTraces = false) (hst : st ≤ 511) (hR : REL e0 x m ou st L K N I J R) (hi : i + 6 ≤ Ln) (hcs : cells + 10 ≤ room_1.cells ∧ slots + 70 ≤ room_1.slots) (kont : ∀ L K N I J R, REL e0 x m ou (st + 1) L K N I J R → XW pg l ev room_1 s mi args below meth c D z 7 L K N I J R (cells + 10) (slots + 70) Q 1327 [(4, .int (nI i)), (3, .ref ou), (2, .ref m), (1, .ref x), (0, .ref b)] []) : XW pg l ev room_1 s mi args below meth c D z 7 L K N I J R cells slots Q 842 [(4, .int (nI i)), (3, .ref ou), (2, .ref m), (1, .ref x), (0, .ref b)] [] := by
  obtain ⟨hX, hMm, hO, hMd⟩ := hR.ats
  refine x_aload_n (j := 3) hc dL_law_842 rfl rfl ?_
  refine x_aload_n (j := 4) hc dL_law_843 rfl rfl ?_
  refine x_iload (j := 0) hc dL_law_844 rfl ?_
  refine x_iconst (v := 1) hc dL_law_846 (by decide) ?_
  refine x_iadd hc dL_law_847 ?_
  refine x_vali (nI_add i 1) ?_
  refine x_sld hc hXs hbl hbz rfl (show (i + 1) < Ln by omega) hLn dL_law_848 ?_
  refine x_aload_n (j := 1) hc dL_law_849 rfl rfl ?_
  refine x_callSW (As := [.ref x, .int (xs (i + 1)), .ref ou]) (st := []) hc (op_adjusted (l := l) (D := D) (z := z) hfl hst hR (xs (i + 1))) gL_law_L_adjusted rfl hdS_L_adjusted ⟨Nat.le_of_ble_eq_true rfl, Nat.le_of_ble_eq_true rfl⟩ rfl rfl ⟨Nat.le_trans (show cells + 1 ≤ cells + 10 by omega) hcs.1, Nat.le_trans (show slots + 6 ≤ slots + 70 by omega) hcs.2⟩ (Nat.le_of_ble_eq_true rfl) dL_law_850 (fun v9 I9 J9 hz9 => ?_)
  obtain ⟨kc, V, hv9, hV, hM2⟩ := hz9
  subst hv9
  refine x_istore (lv' := [(5, .int kc), (4, .int (nI i)), (3, .ref ou), (2, .ref m), (1, .ref x), (0, .ref b)]) hc dL_law_853 (by decide) rfl ?_
  refine x_aload_n (j := 3) hc dL_law_855 rfl rfl ?_
  refine x_aload_n (j := 5) hc dL_law_856 rfl rfl ?_
  refine x_iload (j := 1) hc dL_law_857 rfl ?_
  refine x_iconst (v := 1) hc dL_law_859 (by decide) ?_
  refine x_iadd hc dL_law_860 ?_
  refine x_vali (nI_add i 1) ?_
  refine x_sld hc hXs hbl hbz rfl (show (i + 1) < Ln by omega) hLn dL_law_861 ?_
  refine x_callV (C := RX3) (T := TX3) (NN := 19) (ci := 4) (As := [.int (xs (i + 1))]) (st := []) hc hMm (by omega) (by decide) rfl hM2 gL_law_X3_adjusted rfl hdV_X3_adjusted ⟨Nat.le_of_ble_eq_true rfl, Nat.le_of_ble_eq_true rfl⟩ rfl rfl ⟨Nat.le_trans (show cells + 1 + 0 ≤ cells + 10 by omega) hcs.1, Nat.le_trans (show slots + 6 + 0 ≤ slots + 70 by omega) hcs.2⟩ (Nat.le_of_ble_eq_true rfl) dL_law_862 (fun v8 I8 J8 hz8 => ?_)
  obtain ⟨b9, hv9, hth, hkb, hR2⟩ := hz8
  subst hv9
  refine x_istore (lv' := [(6, .int b9), (5, .int kc), (4, .int (nI i)), (3, .ref ou), (2, .ref m), (1, .ref x), (0, .ref b)]) hc dL_law_865 (by decide) rfl ?_
  refine x_aload_n (j := 4) hc dL_law_867 rfl rfl ?_
  have hMd8 := hR2.ats.2.2.2
  refine x_callV (C := RX3) (T := TX3) (NN := 19) (ci := 4) (As := []) (st := []) hc hMm (by omega) (by decide) rfl (m_thrown l D z e0 L K N I8 J8 R m hMd8) gL_law_X3_thrown rfl hdV_X3_thrown ⟨Nat.le_of_ble_eq_true rfl, Nat.le_of_ble_eq_true rfl⟩ rfl rfl ⟨Nat.le_trans (show cells + 1 + 0 + 0 ≤ cells + 10 by omega) hcs.1, Nat.le_trans (show slots + 6 + 0 + 0 ≤ slots + 70 by omega) hcs.2⟩ (Nat.le_of_ble_eq_true rfl) dL_law_868 (fun v7 I7 J7 hz7 => ?_)
  obtain ⟨rfl, hI7, hJ7⟩ := hz7
  replace hI7 := hI7.symm
  subst hI7
  replace hJ7 := hJ7.symm
  subst hJ7
  refine x_vali (hth) ?_
  refine x_iload (j := 1) hc dL_law_871 rfl ?_
  refine x_icmp_eq (tgt := 878) hc dL_law_873 (by decide) (fun _ => ?_) (fun q9 => absurd (rfl) q9)
  refine x_iload (j := 1) hc dL_law_878 rfl ?_
  refine x_if_ne (tgt := 895) hc dL_law_880 (by decide) (fun qk => ?_) (fun qk => ?_)
  · refine x_goto (tgt := 1327) hc dL_law_895 (by decide) ?_
    refine x_sub [2, 3, 4, 5, 6] rfl ?_
    refine x_widen (show cells + 1 + 0 + 0 ≤ cells + 10 by omega) (show slots + 6 + 0 + 0 ≤ slots + 70 by omega) ?_
    exact kont _ _ _ _ _ _ hR2
  · refine x_aload_n (j := 3) hc dL_law_883 rfl rfl ?_
    refine x_iconst (v := 0) hc dL_law_884 (by decide) ?_
    refine x_lald hc hO (by decide) rfl (by decide) (by omega) dL_law_885 ?_
    refine x_vall (y := Int32.toInt64 V) ((hkb qk).2) ?_
    refine x_iload (j := 0) hc dL_law_886 rfl ?_
    refine x_i2l hc dL_law_888 ?_
    refine x_lcmp hc dL_law_889 ?_
    refine x_if_eq (tgt := 895) hc dL_law_890 (by decide) (fun _ => ?_) (fun q9 => absurd (lgc (by rw [(hkb qk).1])) q9)
    refine x_goto (tgt := 1327) hc dL_law_895 (by decide) ?_
    refine x_sub [2, 3, 4, 5, 6] rfl ?_
    refine x_widen (show cells + 1 + 0 + 0 ≤ cells + 10 by omega) (show slots + 6 + 0 + 0 ≤ slots + 70 by omega) ?_
    exact kont _ _ _ _ _ _ hR2
set_option maxHeartbeats 4000000 in
set_option maxRecDepth 100000 in
theorem law_c12 {pg : Program} {l : Launch} {ev : Env} {s : State} {mi : MethodId} {args : Array Value} {below : List Frame} {meth : Method} {c : Code} {D : va_G} {z e0 : Nat} {L : List Nat} {K N : Nat → Nat} {I : Nat → Nat → Int32} {J : Nat → Nat → Int64} {R : Nat → Nat → Option Nat} {cells slots : Nat} {Q : State → Prop} {b Ln x m ou st i : Nat} {xs : Nat → Int32} (hc : CT pg l s mi args meth c D z e0 cL_law 7 RL wsL_law) (hXs : va_X b Ln xs s s.heap) (hbl : b < s.heap.size) (hbz : b < z) (hLn : Ln ≤ 3072) (hfl : l.stackTraces = false) (hst : st ≤ 511) (hR : REL e0 x m ou st L K N I J R) (hi : i + 6 ≤ Ln) (hcs : cells + 10 ≤ room_1.cells ∧ slots + 70 ≤ room_1.slots) (kont : ∀ L K N I J R, REL e0 x m ou (st + 1) L K N I J R → XW pg l ev room_1 s mi args below meth c D z 7 L K N I J R (cells + 10) (slots + 70) Q 1327 [(4, .int (nI i)), (3, .ref ou), (2, .ref m), (1, .ref x), (0, .ref b)] []) : XW pg l ev room_1 s mi args below meth c D z 7 L K N I J R cells slots Q 898 [(4, .int (nI i)), (3, .ref ou), (2, .ref m), (1, .ref x), (0, .ref b)] [] := by
  obtain ⟨hX, hMm, hO, hMd⟩ := hR.ats
  refine x_aload_n (j := 3) hc dL_law_898 rfl rfl ?_
  refine x_aload_n (j := 4) hc dL_law_899 rfl rfl ?_
  refine x_iload (j := 0) hc dL_law_900 rfl ?_
  refine x_iconst (v := 1) hc dL_law_902 (by decide) ?_
  refine x_iadd hc dL_law_903 ?_
  refine x_vali (nI_add i 1) ?_
  refine x_sld hc hXs hbl hbz rfl (show (i + 1) < Ln by omega) hLn dL_law_904 ?_
  refine x_aload_n (j := 1) hc dL_law_905 rfl rfl ?_
  refine x_callSW (As := [.ref x, .int (xs (i + 1)), .ref ou]) (st := []) hc (op_fees (l := l) (D := D) (z := z) hfl hst hR (xs (i + 1))) gL_law_L_fees rfl hdS_L_fees ⟨Nat.le_of_ble_eq_true rfl, Nat.le_of_ble_eq_true rfl⟩ rfl rfl ⟨Nat.le_trans (show cells + 1 ≤ cells + 10 by omega) hcs.1, Nat.le_trans (show slots + 6 ≤ slots + 70 by omega) hcs.2⟩ (Nat.le_of_ble_eq_true rfl) dL_law_906 (fun v9 I9 J9 hz9 => ?_)
  obtain ⟨kc, V, hv9, hV, hM2⟩ := hz9
  subst hv9
  refine x_istore (lv' := [(5, .int kc), (4, .int (nI i)), (3, .ref ou), (2, .ref m), (1, .ref x), (0, .ref b)]) hc dL_law_909 (by decide) rfl ?_
  refine x_aload_n (j := 3) hc dL_law_911 rfl rfl ?_
  refine x_aload_n (j := 5) hc dL_law_912 rfl rfl ?_
  refine x_iload (j := 1) hc dL_law_913 rfl ?_
  refine x_iconst (v := 1) hc dL_law_915 (by decide) ?_
  refine x_iadd hc dL_law_916 ?_
  refine x_vali (nI_add i 1) ?_
  refine x_sld hc hXs hbl hbz rfl (show (i + 1) < Ln by omega) hLn dL_law_917 ?_
  refine x_callV (C := RX3) (T := TX3) (NN := 19) (ci := 4) (As := [.int (xs (i + 1))]) (st := []) hc hMm (by omega) (by decide) rfl hM2 gL_law_X3_fees rfl hdV_X3_fees ⟨Nat.le_of_ble_eq_true rfl, Nat.le_of_ble_eq_true rfl⟩ rfl rfl ⟨Nat.le_trans (show cells + 1 + 0 ≤ cells + 10 by omega) hcs.1, Nat.le_trans (show slots + 6 + 0 ≤ slots + 70 by omega) hcs.2⟩ (Nat.le_of_ble_eq_true rfl) dL_law_918 (fun v8 I8 J8 hz8 => ?_)
  obtain ⟨b9, hv9, hth, hkb, hR2⟩ := hz8
  subst hv9
  refine x_istore (lv' := [(6, .int b9), (5, .int kc), (4, .int (nI i)), (3, .ref ou), (2, .ref m), (1, .ref x), (0, .ref b)]) hc dL_law_921 (by decide) rfl ?_
  refine x_aload_n (j := 4) hc dL_law_923 rfl rfl ?_
  have hMd8 := hR2.ats.2.2.2
  refine x_callV (C := RX3) (T := TX3) (NN := 19) (ci := 4) (As := []) (st := []) hc hMm (by omega) (by decide) rfl (m_thrown l D z e0 L K N I8 J8 R m hMd8) gL_law_X3_thrown rfl hdV_X3_thrown ⟨Nat.le_of_ble_eq_true rfl, Nat.le_of_ble_eq_true rfl⟩ rfl rfl ⟨Nat.le_trans (show cells + 1 + 0 + 0 ≤ cells + 10 by omega) hcs.1, Nat.le_trans (show slots + 6 + 0 + 0 ≤ slots + 70 by omega) hcs.2⟩ (Nat.le_of_ble_eq_true rfl) dL_law_924 (fun v7 I7 J7 hz7 => ?_)
  obtain ⟨rfl, hI7, hJ7⟩ := hz7
  replace hI7 := hI7.symm
  subst hI7
  replace hJ7 := hJ7.symm
  subst hJ7
  refine x_vali (hth) ?_
  refine x_iload (j := 1) hc dL_law_927 rfl ?_
  refine x_icmp_eq (tgt := 934) hc dL_law_929 (by decide) (fun _ => ?_) (fun q9 => absurd (rfl) q9)
  refine x_iload (j := 1) hc dL_law_934 rfl ?_
  refine x_if_ne (tgt := 951) hc dL_law_936 (by decide) (fun qk => ?_) (fun qk => ?_)
  · refine x_goto (tgt := 1327) hc dL_law_951 (by decide) ?_
    refine x_sub [2, 3, 4, 5, 6] rfl ?_
    refine x_widen (show cells + 1 + 0 + 0 ≤ cells + 10 by omega) (show slots + 6 + 0 + 0 ≤ slots + 70 by omega) ?_
    exact kont _ _ _ _ _ _ hR2
  · refine x_aload_n (j := 3) hc dL_law_939 rfl rfl ?_
    refine x_iconst (v := 0) hc dL_law_940 (by decide) ?_
    refine x_lald hc hO (by decide) rfl (by decide) (by omega) dL_law_941 ?_
    refine x_vall (y := Int32.toInt64 V) ((hkb qk).2) ?_
    refine x_iload (j := 0) hc dL_law_942 rfl ?_
    refine x_i2l hc dL_law_944 ?_
    refine x_lcmp hc dL_law_945 ?_
    refine x_if_eq (tgt := 951) hc dL_law_946 (by decide) (fun _ => ?_) (fun q9 => absurd (lgc (by rw [(hkb qk).1])) q9)
    refine x_goto (tgt := 1327) hc dL_law_951 (by decide) ?_
    refine x_sub [2, 3, 4, 5, 6] rfl ?_
    refine x_widen (show cells + 1 + 0 + 0 ≤ cells + 10 by omega) (show slots + 6 + 0 + 0 ≤ slots + 70 by omega) ?_
    exact kont _ _ _ _ _ _ hR2
set_option maxHeartbeats 4000000 in
set_option maxRecDepth 100000 in
theorem law_c13 {pg : Program} {l : Launch} {ev : Env} {s : State} {mi : MethodId} {args : Array Value} {below : List Frame} {meth : Method} {c : Code} {D : va_G} {z e0 : Nat} {L : List Nat} {K N : Nat → Nat} {I : Nat → Nat → Int32} {J : Nat → Nat → Int64} {R : Nat → Nat → Option Nat} {cells slots : Nat} {Q : State → Prop} {b Ln x m ou st i : Nat} {xs : Nat → Int32} (hc : CT pg l s mi args meth c D z e0 cL_law 7 RL wsL_law) (hXs : va_X b Ln xs s s.heap) (hbl : b < s.heap.size) (hbz : b < z) (hLn : Ln ≤ 3072) (hfl : l.stackTraces = false) (hst : st ≤ 511) (hR : REL e0 x m ou st L K N I J R) (hi : i + 6 ≤ Ln) (hcs : cells + 10 ≤ room_1.cells ∧ slots + 70 ≤ room_1.slots) (kont : ∀ L K N I J R, REL e0 x m ou (st + 1) L K N I J R → XW pg l ev room_1 s mi args below meth c D z 7 L K N I J R (cells + 10) (slots + 70) Q 1327 [(4, .int (nI i)), (3, .ref ou), (2, .ref m), (1, .ref x), (0, .ref b)] []) : XW pg l ev room_1 s mi args below meth c D z 7 L K N I J R cells slots Q 954 [(4, .int (nI i)), (3, .ref ou), (2, .ref m), (1, .ref x), (0, .ref b)] [] := by
  obtain ⟨hX, hMm, hO, hMd⟩ := hR.ats
  refine x_aload_n (j := 3) hc dL_law_954 rfl rfl ?_
  refine x_aload_n (j := 4) hc dL_law_955 rfl rfl ?_
  refine x_iload (j := 0) hc dL_law_956 rfl ?_
  refine x_iconst (v := 1) hc dL_law_958 (by decide) ?_
  refine x_iadd hc dL_law_959 ?_
  refine x_vali (nI_add i 1) ?_
  refine x_sld hc hXs hbl hbz rfl (show (i + 1) < Ln by omega) hLn dL_law_960 ?_
  refine x_aload_n (j := 4) hc dL_law_961 rfl rfl ?_
  refine x_iload (j := 0) hc dL_law_962 rfl ?_
  refine x_iconst (v := 2) hc dL_law_964 (by decide) ?_
  refine x_iadd hc dL_law_965 ?_
  refine x_vali (nI_add i 2) ?_
  refine x_sld hc hXs hbl hbz rfl (show (i + 2) < Ln by omega) hLn dL_law_966 ?_
  refine x_aload_n (j := 1) hc dL_law_967 rfl rfl ?_
  refine x_callSW (As := [.ref x, .int (xs (i + 1)), .int (xs (i + 2)), .ref ou]) (st := []) hc (op_balance (l := l) (D := D) (z := z) hfl hst hR (xs (i + 1)) (xs (i + 2))) gL_law_L_balance rfl hdS_L_balance ⟨Nat.le_of_ble_eq_true rfl, Nat.le_of_ble_eq_true rfl⟩ rfl rfl ⟨Nat.le_trans (show cells + 2 ≤ cells + 10 by omega) hcs.1, Nat.le_trans (show slots + 12 ≤ slots + 70 by omega) hcs.2⟩ (Nat.le_of_ble_eq_true rfl) dL_law_968 (fun v9 I9 J9 hz9 => ?_)
  obtain ⟨kc, V, hv9, hV, hM2⟩ := hz9
  subst hv9
  refine x_istore (lv' := [(5, .int kc), (4, .int (nI i)), (3, .ref ou), (2, .ref m), (1, .ref x), (0, .ref b)]) hc dL_law_971 (by decide) rfl ?_
  refine x_aload_n (j := 3) hc dL_law_973 rfl rfl ?_
  refine x_aload_n (j := 5) hc dL_law_974 rfl rfl ?_
  refine x_iload (j := 1) hc dL_law_975 rfl ?_
  refine x_iconst (v := 1) hc dL_law_977 (by decide) ?_
  refine x_iadd hc dL_law_978 ?_
  refine x_vali (nI_add i 1) ?_
  refine x_sld hc hXs hbl hbz rfl (show (i + 1) < Ln by omega) hLn dL_law_979 ?_
  refine x_aload_n (j := 5) hc dL_law_980 rfl rfl ?_
  refine x_iload (j := 1) hc dL_law_981 rfl ?_
  refine x_iconst (v := 2) hc dL_law_983 (by decide) ?_
  refine x_iadd hc dL_law_984 ?_
  refine x_vali (nI_add i 2) ?_
  refine x_sld hc hXs hbl hbz rfl (show (i + 2) < Ln by omega) hLn dL_law_985 ?_
  refine x_callV (C := RX3) (T := TX3) (NN := 19) (ci := 4) (As := [.int (xs (i + 1)), .int (xs (i + 2))]) (st := []) hc hMm (by omega) (by decide) rfl hM2 gL_law_X3_balance rfl hdV_X3_balance ⟨Nat.le_of_ble_eq_true rfl, Nat.le_of_ble_eq_true rfl⟩ rfl rfl ⟨Nat.le_trans (show cells + 2 + 0 ≤ cells + 10 by omega) hcs.1, Nat.le_trans (show slots + 12 + 0 ≤ slots + 70 by omega) hcs.2⟩ (Nat.le_of_ble_eq_true rfl) dL_law_986 (fun v8 I8 J8 hz8 => ?_)
  obtain ⟨b9, hv9, hth, hkb, hR2⟩ := hz8
  subst hv9
  refine x_istore (lv' := [(6, .int b9), (5, .int kc), (4, .int (nI i)), (3, .ref ou), (2, .ref m), (1, .ref x), (0, .ref b)]) hc dL_law_989 (by decide) rfl ?_
  refine x_aload_n (j := 4) hc dL_law_991 rfl rfl ?_
  have hMd8 := hR2.ats.2.2.2
  refine x_callV (C := RX3) (T := TX3) (NN := 19) (ci := 4) (As := []) (st := []) hc hMm (by omega) (by decide) rfl (m_thrown l D z e0 L K N I8 J8 R m hMd8) gL_law_X3_thrown rfl hdV_X3_thrown ⟨Nat.le_of_ble_eq_true rfl, Nat.le_of_ble_eq_true rfl⟩ rfl rfl ⟨Nat.le_trans (show cells + 2 + 0 + 0 ≤ cells + 10 by omega) hcs.1, Nat.le_trans (show slots + 12 + 0 + 0 ≤ slots + 70 by omega) hcs.2⟩ (Nat.le_of_ble_eq_true rfl) dL_law_992 (fun v7 I7 J7 hz7 => ?_)
  obtain ⟨rfl, hI7, hJ7⟩ := hz7
  replace hI7 := hI7.symm
  subst hI7
  replace hJ7 := hJ7.symm
  subst hJ7
  refine x_vali (hth) ?_
  refine x_iload (j := 1) hc dL_law_995 rfl ?_
  refine x_icmp_eq (tgt := 1002) hc dL_law_997 (by decide) (fun _ => ?_) (fun q9 => absurd (rfl) q9)
  refine x_iload (j := 1) hc dL_law_1002 rfl ?_
  refine x_if_ne (tgt := 1019) hc dL_law_1004 (by decide) (fun qk => ?_) (fun qk => ?_)
  · refine x_goto (tgt := 1327) hc dL_law_1019 (by decide) ?_
    refine x_sub [2, 3, 4, 5, 6] rfl ?_
    refine x_widen (show cells + 2 + 0 + 0 ≤ cells + 10 by omega) (show slots + 12 + 0 + 0 ≤ slots + 70 by omega) ?_
    exact kont _ _ _ _ _ _ hR2
  · refine x_aload_n (j := 3) hc dL_law_1007 rfl rfl ?_
    refine x_iconst (v := 0) hc dL_law_1008 (by decide) ?_
    refine x_lald hc hO (by decide) rfl (by decide) (by omega) dL_law_1009 ?_
    refine x_vall (y := Int32.toInt64 V) ((hkb qk).2) ?_
    refine x_iload (j := 0) hc dL_law_1010 rfl ?_
    refine x_i2l hc dL_law_1012 ?_
    refine x_lcmp hc dL_law_1013 ?_
    refine x_if_eq (tgt := 1019) hc dL_law_1014 (by decide) (fun _ => ?_) (fun q9 => absurd (lgc (by rw [(hkb qk).1])) q9)
    refine x_goto (tgt := 1327) hc dL_law_1019 (by decide) ?_
    refine x_sub [2, 3, 4, 5, 6] rfl ?_
    refine x_widen (show cells + 2 + 0 + 0 ≤ cells + 10 by omega) (show slots + 12 + 0 + 0 ≤ slots + 70 by omega) ?_
    exact kont _ _ _ _ _ _ hR2
set_option maxHeartbeats 4000000 in
set_option maxRecDepth 100000 in
theorem law_c14 {pg : Program} {l : Launch} {ev : Env} {s : State} {mi : MethodId} {args : Array Value} {below : List Frame} {meth : Method} {c : Code} {D : va_G} {z e0 : Nat} {L : List Nat} {K N : Nat → Nat} {I : Nat → Nat → Int32} {J : Nat → Nat → Int64} {R : Nat → Nat → Option Nat} {cells slots : Nat} {Q : State → Prop} {b Ln x m ou st i : Nat} {xs : Nat → Int32} (hc : CT pg l s mi args meth c D z e0 cL_law 7 RL wsL_law) (hXs : va_X b Ln xs s s.heap) (hbl : b < s.heap.size) (hbz : b < z) (hLn : Ln ≤ 3072) (hfl : l.stackTraces = false) (hst : st ≤ 511) (hR : REL e0 x m ou st L K N I J R) (hi : i + 6 ≤ Ln) (hcs : cells + 10 ≤ room_1.cells ∧ slots + 70 ≤ room_1.slots) (kont : ∀ L K N I J R, REL e0 x m ou (st + 1) L K N I J R → XW pg l ev room_1 s mi args below meth c D z 7 L K N I J R (cells + 10) (slots + 70) Q 1327 [(4, .int (nI i)), (3, .ref ou), (2, .ref m), (1, .ref x), (0, .ref b)] []) : XW pg l ev room_1 s mi args below meth c D z 7 L K N I J R cells slots Q 1022 [(4, .int (nI i)), (3, .ref ou), (2, .ref m), (1, .ref x), (0, .ref b)] [] := by
  obtain ⟨hX, hMm, hO, hMd⟩ := hR.ats
  refine x_aload_n (j := 3) hc dL_law_1022 rfl rfl ?_
  refine x_aload_n (j := 4) hc dL_law_1023 rfl rfl ?_
  refine x_iload (j := 0) hc dL_law_1024 rfl ?_
  refine x_iconst (v := 1) hc dL_law_1026 (by decide) ?_
  refine x_iadd hc dL_law_1027 ?_
  refine x_vali (nI_add i 1) ?_
  refine x_sld hc hXs hbl hbz rfl (show (i + 1) < Ln by omega) hLn dL_law_1028 ?_
  refine x_aload_n (j := 4) hc dL_law_1029 rfl rfl ?_
  refine x_iload (j := 0) hc dL_law_1030 rfl ?_
  refine x_iconst (v := 2) hc dL_law_1032 (by decide) ?_
  refine x_iadd hc dL_law_1033 ?_
  refine x_vali (nI_add i 2) ?_
  refine x_sld hc hXs hbl hbz rfl (show (i + 2) < Ln by omega) hLn dL_law_1034 ?_
  refine x_aload_n (j := 1) hc dL_law_1035 rfl rfl ?_
  refine x_callSW (As := [.ref x, .int (xs (i + 1)), .int (xs (i + 2)), .ref ou]) (st := []) hc (op_profit (l := l) (D := D) (z := z) hfl hst hR (xs (i + 1)) (xs (i + 2))) gL_law_L_profit rfl hdS_L_profit ⟨Nat.le_of_ble_eq_true rfl, Nat.le_of_ble_eq_true rfl⟩ rfl rfl ⟨Nat.le_trans (show cells + 2 ≤ cells + 10 by omega) hcs.1, Nat.le_trans (show slots + 12 ≤ slots + 70 by omega) hcs.2⟩ (Nat.le_of_ble_eq_true rfl) dL_law_1036 (fun v9 I9 J9 hz9 => ?_)
  obtain ⟨kc, V, hv9, hV, hM2⟩ := hz9
  subst hv9
  refine x_istore (lv' := [(5, .int kc), (4, .int (nI i)), (3, .ref ou), (2, .ref m), (1, .ref x), (0, .ref b)]) hc dL_law_1039 (by decide) rfl ?_
  refine x_aload_n (j := 3) hc dL_law_1041 rfl rfl ?_
  refine x_aload_n (j := 5) hc dL_law_1042 rfl rfl ?_
  refine x_iload (j := 1) hc dL_law_1043 rfl ?_
  refine x_iconst (v := 1) hc dL_law_1045 (by decide) ?_
  refine x_iadd hc dL_law_1046 ?_
  refine x_vali (nI_add i 1) ?_
  refine x_sld hc hXs hbl hbz rfl (show (i + 1) < Ln by omega) hLn dL_law_1047 ?_
  refine x_aload_n (j := 5) hc dL_law_1048 rfl rfl ?_
  refine x_iload (j := 1) hc dL_law_1049 rfl ?_
  refine x_iconst (v := 2) hc dL_law_1051 (by decide) ?_
  refine x_iadd hc dL_law_1052 ?_
  refine x_vali (nI_add i 2) ?_
  refine x_sld hc hXs hbl hbz rfl (show (i + 2) < Ln by omega) hLn dL_law_1053 ?_
  refine x_callV (C := RX3) (T := TX3) (NN := 19) (ci := 4) (As := [.int (xs (i + 1)), .int (xs (i + 2))]) (st := []) hc hMm (by omega) (by decide) rfl hM2 gL_law_X3_profit rfl hdV_X3_profit ⟨Nat.le_of_ble_eq_true rfl, Nat.le_of_ble_eq_true rfl⟩ rfl rfl ⟨Nat.le_trans (show cells + 2 + 0 ≤ cells + 10 by omega) hcs.1, Nat.le_trans (show slots + 12 + 0 ≤ slots + 70 by omega) hcs.2⟩ (Nat.le_of_ble_eq_true rfl) dL_law_1054 (fun v8 I8 J8 hz8 => ?_)
  obtain ⟨b9, hv9, hth, hkb, hR2⟩ := hz8
  subst hv9
  refine x_istore (lv' := [(6, .int b9), (5, .int kc), (4, .int (nI i)), (3, .ref ou), (2, .ref m), (1, .ref x), (0, .ref b)]) hc dL_law_1057 (by decide) rfl ?_
  refine x_aload_n (j := 4) hc dL_law_1059 rfl rfl ?_
  have hMd8 := hR2.ats.2.2.2
  refine x_callV (C := RX3) (T := TX3) (NN := 19) (ci := 4) (As := []) (st := []) hc hMm (by omega) (by decide) rfl (m_thrown l D z e0 L K N I8 J8 R m hMd8) gL_law_X3_thrown rfl hdV_X3_thrown ⟨Nat.le_of_ble_eq_true rfl, Nat.le_of_ble_eq_true rfl⟩ rfl rfl ⟨Nat.le_trans (show cells + 2 + 0 + 0 ≤ cells + 10 by omega) hcs.1, Nat.le_trans (show slots + 12 + 0 + 0 ≤ slots + 70 by omega) hcs.2⟩ (Nat.le_of_ble_eq_true rfl) dL_law_1060 (fun v7 I7 J7 hz7 => ?_)
  obtain ⟨rfl, hI7, hJ7⟩ := hz7
  replace hI7 := hI7.symm
  subst hI7
  replace hJ7 := hJ7.symm
  subst hJ7
  refine x_vali (hth) ?_
  refine x_iload (j := 1) hc dL_law_1063 rfl ?_
  refine x_icmp_eq (tgt := 1070) hc dL_law_1065 (by decide) (fun _ => ?_) (fun q9 => absurd (rfl) q9)
  refine x_iload (j := 1) hc dL_law_1070 rfl ?_
  refine x_if_ne (tgt := 1087) hc dL_law_1072 (by decide) (fun qk => ?_) (fun qk => ?_)
  · refine x_goto (tgt := 1327) hc dL_law_1087 (by decide) ?_
    refine x_sub [2, 3, 4, 5, 6] rfl ?_
    refine x_widen (show cells + 2 + 0 + 0 ≤ cells + 10 by omega) (show slots + 12 + 0 + 0 ≤ slots + 70 by omega) ?_
    exact kont _ _ _ _ _ _ hR2
  · refine x_aload_n (j := 3) hc dL_law_1075 rfl rfl ?_
    refine x_iconst (v := 0) hc dL_law_1076 (by decide) ?_
    refine x_lald hc hO (by decide) rfl (by decide) (by omega) dL_law_1077 ?_
    refine x_vall (y := Int32.toInt64 V) ((hkb qk).2) ?_
    refine x_iload (j := 0) hc dL_law_1078 rfl ?_
    refine x_i2l hc dL_law_1080 ?_
    refine x_lcmp hc dL_law_1081 ?_
    refine x_if_eq (tgt := 1087) hc dL_law_1082 (by decide) (fun _ => ?_) (fun q9 => absurd (lgc (by rw [(hkb qk).1])) q9)
    refine x_goto (tgt := 1327) hc dL_law_1087 (by decide) ?_
    refine x_sub [2, 3, 4, 5, 6] rfl ?_
    refine x_widen (show cells + 2 + 0 + 0 ≤ cells + 10 by omega) (show slots + 12 + 0 + 0 ≤ slots + 70 by omega) ?_
    exact kont _ _ _ _ _ _ hR2
set_option maxHeartbeats 4000000 in
set_option maxRecDepth 100000 in
theorem law_c15 {pg : Program} {l : Launch} {ev : Env} {s : State} {mi : MethodId} {args : Array Value} {below : List Frame} {meth : Method} {c : Code} {D : va_G} {z e0 : Nat} {L : List Nat} {K N : Nat → Nat} {I : Nat → Nat → Int32} {J : Nat → Nat → Int64} {R : Nat → Nat → Option Nat} {cells slots : Nat} {Q : State → Prop} {b Ln x m ou st i : Nat} {xs : Nat → Int32} (hc : CT pg l s mi args meth c D z e0 cL_law 7 RL wsL_law) (hXs : va_X b Ln xs s s.heap) (hbl : b < s.heap.size) (hbz : b < z) (hLn : Ln ≤ 3072) (hfl : l.stackTraces = false) (hst : st ≤ 511) (hR : REL e0 x m ou st L K N I J R) (hi : i + 6 ≤ Ln) (hcs : cells + 10 ≤ room_1.cells ∧ slots + 70 ≤ room_1.slots) (kont : ∀ L K N I J R, REL e0 x m ou (st + 1) L K N I J R → XW pg l ev room_1 s mi args below meth c D z 7 L K N I J R (cells + 10) (slots + 70) Q 1327 [(4, .int (nI i)), (3, .ref ou), (2, .ref m), (1, .ref x), (0, .ref b)] []) : XW pg l ev room_1 s mi args below meth c D z 7 L K N I J R cells slots Q 1090 [(4, .int (nI i)), (3, .ref ou), (2, .ref m), (1, .ref x), (0, .ref b)] [] := by
  obtain ⟨hX, hMm, hO, hMd⟩ := hR.ats
  refine x_aload_n (j := 3) hc dL_law_1090 rfl rfl ?_
  refine x_aload_n (j := 4) hc dL_law_1091 rfl rfl ?_
  refine x_iload (j := 0) hc dL_law_1092 rfl ?_
  refine x_iconst (v := 1) hc dL_law_1094 (by decide) ?_
  refine x_iadd hc dL_law_1095 ?_
  refine x_vali (nI_add i 1) ?_
  refine x_sld hc hXs hbl hbz rfl (show (i + 1) < Ln by omega) hLn dL_law_1096 ?_
  refine x_aload_n (j := 1) hc dL_law_1097 rfl rfl ?_
  refine x_callSW (As := [.ref x, .int (xs (i + 1)), .ref ou]) (st := []) hc (op_pool (l := l) (D := D) (z := z) hfl hst hR (xs (i + 1))) gL_law_L_pool rfl hdS_L_pool ⟨Nat.le_of_ble_eq_true rfl, Nat.le_of_ble_eq_true rfl⟩ rfl rfl ⟨Nat.le_trans (show cells + 1 ≤ cells + 10 by omega) hcs.1, Nat.le_trans (show slots + 6 ≤ slots + 70 by omega) hcs.2⟩ (Nat.le_of_ble_eq_true rfl) dL_law_1098 (fun v9 I9 J9 hz9 => ?_)
  obtain ⟨kc, V, hv9, hV, hM2⟩ := hz9
  subst hv9
  refine x_istore (lv' := [(5, .int kc), (4, .int (nI i)), (3, .ref ou), (2, .ref m), (1, .ref x), (0, .ref b)]) hc dL_law_1101 (by decide) rfl ?_
  refine x_aload_n (j := 3) hc dL_law_1103 rfl rfl ?_
  refine x_aload_n (j := 5) hc dL_law_1104 rfl rfl ?_
  refine x_iload (j := 1) hc dL_law_1105 rfl ?_
  refine x_iconst (v := 1) hc dL_law_1107 (by decide) ?_
  refine x_iadd hc dL_law_1108 ?_
  refine x_vali (nI_add i 1) ?_
  refine x_sld hc hXs hbl hbz rfl (show (i + 1) < Ln by omega) hLn dL_law_1109 ?_
  refine x_callV (C := RX3) (T := TX3) (NN := 19) (ci := 4) (As := [.int (xs (i + 1))]) (st := []) hc hMm (by omega) (by decide) rfl hM2 gL_law_X3_pool rfl hdV_X3_pool ⟨Nat.le_of_ble_eq_true rfl, Nat.le_of_ble_eq_true rfl⟩ rfl rfl ⟨Nat.le_trans (show cells + 1 + 0 ≤ cells + 10 by omega) hcs.1, Nat.le_trans (show slots + 6 + 0 ≤ slots + 70 by omega) hcs.2⟩ (Nat.le_of_ble_eq_true rfl) dL_law_1110 (fun v8 I8 J8 hz8 => ?_)
  obtain ⟨b9, hv9, hth, hkb, hR2⟩ := hz8
  subst hv9
  refine x_istore (lv' := [(6, .int b9), (5, .int kc), (4, .int (nI i)), (3, .ref ou), (2, .ref m), (1, .ref x), (0, .ref b)]) hc dL_law_1113 (by decide) rfl ?_
  refine x_aload_n (j := 4) hc dL_law_1115 rfl rfl ?_
  have hMd8 := hR2.ats.2.2.2
  refine x_callV (C := RX3) (T := TX3) (NN := 19) (ci := 4) (As := []) (st := []) hc hMm (by omega) (by decide) rfl (m_thrown l D z e0 L K N I8 J8 R m hMd8) gL_law_X3_thrown rfl hdV_X3_thrown ⟨Nat.le_of_ble_eq_true rfl, Nat.le_of_ble_eq_true rfl⟩ rfl rfl ⟨Nat.le_trans (show cells + 1 + 0 + 0 ≤ cells + 10 by omega) hcs.1, Nat.le_trans (show slots + 6 + 0 + 0 ≤ slots + 70 by omega) hcs.2⟩ (Nat.le_of_ble_eq_true rfl) dL_law_1116 (fun v7 I7 J7 hz7 => ?_)
  obtain ⟨rfl, hI7, hJ7⟩ := hz7
  replace hI7 := hI7.symm
  subst hI7
  replace hJ7 := hJ7.symm
  subst hJ7
  refine x_vali (hth) ?_
  refine x_iload (j := 1) hc dL_law_1119 rfl ?_
  refine x_icmp_eq (tgt := 1126) hc dL_law_1121 (by decide) (fun _ => ?_) (fun q9 => absurd (rfl) q9)
  refine x_iload (j := 1) hc dL_law_1126 rfl ?_
  refine x_if_ne (tgt := 1143) hc dL_law_1128 (by decide) (fun qk => ?_) (fun qk => ?_)
  · refine x_goto (tgt := 1327) hc dL_law_1143 (by decide) ?_
    refine x_sub [2, 3, 4, 5, 6] rfl ?_
    refine x_widen (show cells + 1 + 0 + 0 ≤ cells + 10 by omega) (show slots + 6 + 0 + 0 ≤ slots + 70 by omega) ?_
    exact kont _ _ _ _ _ _ hR2
  · refine x_aload_n (j := 3) hc dL_law_1131 rfl rfl ?_
    refine x_iconst (v := 0) hc dL_law_1132 (by decide) ?_
    refine x_lald hc hO (by decide) rfl (by decide) (by omega) dL_law_1133 ?_
    refine x_vall (y := Int32.toInt64 V) ((hkb qk).2) ?_
    refine x_iload (j := 0) hc dL_law_1134 rfl ?_
    refine x_i2l hc dL_law_1136 ?_
    refine x_lcmp hc dL_law_1137 ?_
    refine x_if_eq (tgt := 1143) hc dL_law_1138 (by decide) (fun _ => ?_) (fun q9 => absurd (lgc (by rw [(hkb qk).1])) q9)
    refine x_goto (tgt := 1327) hc dL_law_1143 (by decide) ?_
    refine x_sub [2, 3, 4, 5, 6] rfl ?_
    refine x_widen (show cells + 1 + 0 + 0 ≤ cells + 10 by omega) (show slots + 6 + 0 + 0 ≤ slots + 70 by omega) ?_
    exact kont _ _ _ _ _ _ hR2
set_option maxHeartbeats 4000000 in
set_option maxRecDepth 100000 in
theorem law_c16 {pg : Program} {l : Launch} {ev : Env} {s : State} {mi : MethodId} {args : Array Value} {below : List Frame} {meth : Method} {c : Code} {D : va_G} {z e0 : Nat} {L : List Nat} {K N : Nat → Nat} {I : Nat → Nat → Int32} {J : Nat → Nat → Int64} {R : Nat → Nat → Option Nat} {cells slots : Nat} {Q : State → Prop} {b Ln x m ou st i : Nat} {xs : Nat → Int32} (hc : CT pg l s mi args meth c D z e0 cL_law 7 RL wsL_law) (hXs : va_X b Ln xs s s.heap) (hbl : b < s.heap.size) (hbz : b < z) (hLn : Ln ≤ 3072) (hfl : l.stackTraces = false) (hst : st ≤ 511) (hR : REL e0 x m ou st L K N I J R) (hi : i + 6 ≤ Ln) (hcs : cells + 10 ≤ room_1.cells ∧ slots + 70 ≤ room_1.slots) (kont : ∀ L K N I J R, REL e0 x m ou (st + 1) L K N I J R → XW pg l ev room_1 s mi args below meth c D z 7 L K N I J R (cells + 10) (slots + 70) Q 1327 [(4, .int (nI i)), (3, .ref ou), (2, .ref m), (1, .ref x), (0, .ref b)] []) : XW pg l ev room_1 s mi args below meth c D z 7 L K N I J R cells slots Q 1146 [(4, .int (nI i)), (3, .ref ou), (2, .ref m), (1, .ref x), (0, .ref b)] [] := by
  obtain ⟨hX, hMm, hO, hMd⟩ := hR.ats
  refine x_aload_n (j := 3) hc dL_law_1146 rfl rfl ?_
  refine x_callV (C := RX2) (T := TX2) (NN := 5) (ci := 3) (As := []) (st := []) hc hX (by omega) (by decide) rfl (op_sharers (l := l) (D := D) (z := z) hR) gL_law_X2_sharers rfl hdV_X2_sharers ⟨Nat.le_of_ble_eq_true rfl, Nat.le_of_ble_eq_true rfl⟩ rfl rfl ⟨Nat.le_trans (show cells + 0 ≤ cells + 10 by omega) hcs.1, Nat.le_trans (show slots + 0 ≤ slots + 70 by omega) hcs.2⟩ (Nat.le_of_ble_eq_true rfl) dL_law_1147 (fun v9 I9 J9 hz9 => ?_)
  obtain ⟨V, hv9, hM2⟩ := hz9
  subst hv9
  refine x_aload_n (j := 2) hc dL_law_1150 rfl rfl ?_
  refine x_callV (C := RX3) (T := TX3) (NN := 19) (ci := 4) (As := []) (st := [.int V]) hc hMm (by omega) (by decide) rfl hM2 gL_law_X3_sharers rfl hdV_X3_sharers ⟨Nat.le_of_ble_eq_true rfl, Nat.le_of_ble_eq_true rfl⟩ rfl rfl ⟨Nat.le_trans (show cells + 0 + 0 ≤ cells + 10 by omega) hcs.1, Nat.le_trans (show slots + 0 + 0 ≤ slots + 70 by omega) hcs.2⟩ (Nat.le_of_ble_eq_true rfl) dL_law_1151 (fun v8 I8 J8 hz8 => ?_)
  obtain ⟨hv9, hR2⟩ := hz8
  subst hv9
  refine x_icmp_eq (tgt := 1327) hc dL_law_1154 (by decide) (fun _ => ?_) (fun q9 => absurd (rfl) q9)
  refine x_sub [0, 1, 2, 3, 4] rfl ?_
  refine x_widen (show cells + 0 + 0 ≤ cells + 10 by omega) (show slots + 0 + 0 ≤ slots + 70 by omega) ?_
  exact kont _ _ _ _ _ _ hR2
set_option maxHeartbeats 4000000 in
set_option maxRecDepth 100000 in
theorem law_c17 {pg : Program} {l : Launch} {ev : Env} {s : State} {mi : MethodId} {args : Array Value} {below : List Frame} {meth : Method} {c : Code} {D : va_G} {z e0 : Nat} {L : List Nat} {K N : Nat → Nat} {I : Nat → Nat → Int32} {J : Nat → Nat → Int64} {R : Nat → Nat → Option Nat} {cells slots : Nat} {Q : State → Prop} {b Ln x m ou st i : Nat} {xs : Nat → Int32} (hc : CT pg l s mi args meth c D z e0 cL_law 7 RL wsL_law) (hXs : va_X b Ln xs s s.heap) (hbl : b < s.heap.size) (hbz : b < z) (hLn : Ln ≤ 3072) (hfl : l.stackTraces = false) (hst : st ≤ 511) (hR : REL e0 x m ou st L K N I J R) (hi : i + 6 ≤ Ln) (hcs : cells + 10 ≤ room_1.cells ∧ slots + 70 ≤ room_1.slots) (kont : ∀ L K N I J R, REL e0 x m ou (st + 1) L K N I J R → XW pg l ev room_1 s mi args below meth c D z 7 L K N I J R (cells + 10) (slots + 70) Q 1327 [(4, .int (nI i)), (3, .ref ou), (2, .ref m), (1, .ref x), (0, .ref b)] []) : XW pg l ev room_1 s mi args below meth c D z 7 L K N I J R cells slots Q 1159 [(4, .int (nI i)), (3, .ref ou), (2, .ref m), (1, .ref x), (0, .ref b)] [] := by
  obtain ⟨hX, hMm, hO, hMd⟩ := hR.ats
  refine x_aload_n (j := 3) hc dL_law_1159 rfl rfl ?_
  refine x_aload_n (j := 4) hc dL_law_1160 rfl rfl ?_
  refine x_iload (j := 0) hc dL_law_1161 rfl ?_
  refine x_iconst (v := 1) hc dL_law_1163 (by decide) ?_
  refine x_iadd hc dL_law_1164 ?_
  refine x_vali (nI_add i 1) ?_
  refine x_sld hc hXs hbl hbz rfl (show (i + 1) < Ln by omega) hLn dL_law_1165 ?_
  refine x_aload_n (j := 1) hc dL_law_1166 rfl rfl ?_
  refine x_callSW (As := [.ref x, .int (xs (i + 1)), .ref ou]) (st := []) hc (op_sum (l := l) (D := D) (z := z) hfl hst hR (xs (i + 1))) gL_law_L_sum rfl hdS_L_sum ⟨Nat.le_of_ble_eq_true rfl, Nat.le_of_ble_eq_true rfl⟩ rfl rfl ⟨Nat.le_trans (show cells + 1 ≤ cells + 10 by omega) hcs.1, Nat.le_trans (show slots + 6 ≤ slots + 70 by omega) hcs.2⟩ (Nat.le_of_ble_eq_true rfl) dL_law_1167 (fun v9 I9 J9 hz9 => ?_)
  obtain ⟨kc, V, hv9, hV, hM2⟩ := hz9
  subst hv9
  refine x_istore (lv' := [(5, .int kc), (4, .int (nI i)), (3, .ref ou), (2, .ref m), (1, .ref x), (0, .ref b)]) hc dL_law_1170 (by decide) rfl ?_
  refine x_aload_n (j := 3) hc dL_law_1172 rfl rfl ?_
  refine x_aload_n (j := 5) hc dL_law_1173 rfl rfl ?_
  refine x_iload (j := 1) hc dL_law_1174 rfl ?_
  refine x_iconst (v := 1) hc dL_law_1176 (by decide) ?_
  refine x_iadd hc dL_law_1177 ?_
  refine x_vali (nI_add i 1) ?_
  refine x_sld hc hXs hbl hbz rfl (show (i + 1) < Ln by omega) hLn dL_law_1178 ?_
  refine x_callV (C := RX3) (T := TX3) (NN := 19) (ci := 4) (As := [.int (xs (i + 1))]) (st := []) hc hMm (by omega) (by decide) rfl hM2 gL_law_X3_sum rfl hdV_X3_sum ⟨Nat.le_of_ble_eq_true rfl, Nat.le_of_ble_eq_true rfl⟩ rfl rfl ⟨Nat.le_trans (show cells + 1 + 0 ≤ cells + 10 by omega) hcs.1, Nat.le_trans (show slots + 6 + 0 ≤ slots + 70 by omega) hcs.2⟩ (Nat.le_of_ble_eq_true rfl) dL_law_1179 (fun v8 I8 J8 hz8 => ?_)
  obtain ⟨b9, hv9, hth, hkb, hR2⟩ := hz8
  subst hv9
  refine x_istore (lv' := [(6, .int b9), (5, .int kc), (4, .int (nI i)), (3, .ref ou), (2, .ref m), (1, .ref x), (0, .ref b)]) hc dL_law_1182 (by decide) rfl ?_
  refine x_aload_n (j := 4) hc dL_law_1184 rfl rfl ?_
  have hMd8 := hR2.ats.2.2.2
  refine x_callV (C := RX3) (T := TX3) (NN := 19) (ci := 4) (As := []) (st := []) hc hMm (by omega) (by decide) rfl (m_thrown l D z e0 L K N I8 J8 R m hMd8) gL_law_X3_thrown rfl hdV_X3_thrown ⟨Nat.le_of_ble_eq_true rfl, Nat.le_of_ble_eq_true rfl⟩ rfl rfl ⟨Nat.le_trans (show cells + 1 + 0 + 0 ≤ cells + 10 by omega) hcs.1, Nat.le_trans (show slots + 6 + 0 + 0 ≤ slots + 70 by omega) hcs.2⟩ (Nat.le_of_ble_eq_true rfl) dL_law_1185 (fun v7 I7 J7 hz7 => ?_)
  obtain ⟨rfl, hI7, hJ7⟩ := hz7
  replace hI7 := hI7.symm
  subst hI7
  replace hJ7 := hJ7.symm
  subst hJ7
  refine x_vali (hth) ?_
  refine x_iload (j := 1) hc dL_law_1188 rfl ?_
  refine x_icmp_eq (tgt := 1195) hc dL_law_1190 (by decide) (fun _ => ?_) (fun q9 => absurd (rfl) q9)
  refine x_iload (j := 1) hc dL_law_1195 rfl ?_
  refine x_if_ne (tgt := 1212) hc dL_law_1197 (by decide) (fun qk => ?_) (fun qk => ?_)
  · refine x_goto (tgt := 1327) hc dL_law_1212 (by decide) ?_
    refine x_sub [2, 3, 4, 5, 6] rfl ?_
    refine x_widen (show cells + 1 + 0 + 0 ≤ cells + 10 by omega) (show slots + 6 + 0 + 0 ≤ slots + 70 by omega) ?_
    exact kont _ _ _ _ _ _ hR2
  · refine x_aload_n (j := 3) hc dL_law_1200 rfl rfl ?_
    refine x_iconst (v := 0) hc dL_law_1201 (by decide) ?_
    refine x_lald hc hO (by decide) rfl (by decide) (by omega) dL_law_1202 ?_
    refine x_vall (y := Int32.toInt64 V) ((hkb qk).2) ?_
    refine x_iload (j := 0) hc dL_law_1203 rfl ?_
    refine x_i2l hc dL_law_1205 ?_
    refine x_lcmp hc dL_law_1206 ?_
    refine x_if_eq (tgt := 1212) hc dL_law_1207 (by decide) (fun _ => ?_) (fun q9 => absurd (lgc (by rw [(hkb qk).1])) q9)
    refine x_goto (tgt := 1327) hc dL_law_1212 (by decide) ?_
    refine x_sub [2, 3, 4, 5, 6] rfl ?_
    refine x_widen (show cells + 1 + 0 + 0 ≤ cells + 10 by omega) (show slots + 6 + 0 + 0 ≤ slots + 70 by omega) ?_
    exact kont _ _ _ _ _ _ hR2
set_option maxHeartbeats 4000000 in
set_option maxRecDepth 100000 in
theorem law_c18 {pg : Program} {l : Launch} {ev : Env} {s : State} {mi : MethodId} {args : Array Value} {below : List Frame} {meth : Method} {c : Code} {D : va_G} {z e0 : Nat} {L : List Nat} {K N : Nat → Nat} {I : Nat → Nat → Int32} {J : Nat → Nat → Int64} {R : Nat → Nat → Option Nat} {cells slots : Nat} {Q : State → Prop} {b Ln x m ou st i : Nat} {xs : Nat → Int32} (hc : CT pg l s mi args meth c D z e0 cL_law 7 RL wsL_law) (hXs : va_X b Ln xs s s.heap) (hbl : b < s.heap.size) (hbz : b < z) (hLn : Ln ≤ 3072) (hfl : l.stackTraces = false) (hst : st ≤ 511) (hR : REL e0 x m ou st L K N I J R) (hi : i + 6 ≤ Ln) (hcs : cells + 10 ≤ room_1.cells ∧ slots + 70 ≤ room_1.slots) (kont : ∀ L K N I J R, REL e0 x m ou (st + 1) L K N I J R → XW pg l ev room_1 s mi args below meth c D z 7 L K N I J R (cells + 10) (slots + 70) Q 1327 [(4, .int (nI i)), (3, .ref ou), (2, .ref m), (1, .ref x), (0, .ref b)] []) : XW pg l ev room_1 s mi args below meth c D z 7 L K N I J R cells slots Q 1215 [(4, .int (nI i)), (3, .ref ou), (2, .ref m), (1, .ref x), (0, .ref b)] [] := by
  obtain ⟨hX, hMm, hO, hMd⟩ := hR.ats
  refine x_aload_n (j := 3) hc dL_law_1215 rfl rfl ?_
  refine x_aload_n (j := 4) hc dL_law_1216 rfl rfl ?_
  refine x_iload (j := 0) hc dL_law_1217 rfl ?_
  refine x_iconst (v := 1) hc dL_law_1219 (by decide) ?_
  refine x_iadd hc dL_law_1220 ?_
  refine x_vali (nI_add i 1) ?_
  refine x_sld hc hXs hbl hbz rfl (show (i + 1) < Ln by omega) hLn dL_law_1221 ?_
  refine x_aload_n (j := 1) hc dL_law_1222 rfl rfl ?_
  refine x_callSW (As := [.ref x, .int (xs (i + 1)), .ref ou]) (st := []) hc (op_paid (l := l) (D := D) (z := z) hfl hst hR (xs (i + 1))) gL_law_L_paid rfl hdS_L_paid ⟨Nat.le_of_ble_eq_true rfl, Nat.le_of_ble_eq_true rfl⟩ rfl rfl ⟨Nat.le_trans (show cells + 1 ≤ cells + 10 by omega) hcs.1, Nat.le_trans (show slots + 6 ≤ slots + 70 by omega) hcs.2⟩ (Nat.le_of_ble_eq_true rfl) dL_law_1223 (fun v9 I9 J9 hz9 => ?_)
  obtain ⟨kc, V, hv9, hV, hM2⟩ := hz9
  subst hv9
  refine x_istore (lv' := [(5, .int kc), (4, .int (nI i)), (3, .ref ou), (2, .ref m), (1, .ref x), (0, .ref b)]) hc dL_law_1226 (by decide) rfl ?_
  refine x_aload_n (j := 3) hc dL_law_1228 rfl rfl ?_
  refine x_aload_n (j := 5) hc dL_law_1229 rfl rfl ?_
  refine x_iload (j := 1) hc dL_law_1230 rfl ?_
  refine x_iconst (v := 1) hc dL_law_1232 (by decide) ?_
  refine x_iadd hc dL_law_1233 ?_
  refine x_vali (nI_add i 1) ?_
  refine x_sld hc hXs hbl hbz rfl (show (i + 1) < Ln by omega) hLn dL_law_1234 ?_
  refine x_callV (C := RX3) (T := TX3) (NN := 19) (ci := 4) (As := [.int (xs (i + 1))]) (st := []) hc hMm (by omega) (by decide) rfl hM2 gL_law_X3_paid rfl hdV_X3_paid ⟨Nat.le_of_ble_eq_true rfl, Nat.le_of_ble_eq_true rfl⟩ rfl rfl ⟨Nat.le_trans (show cells + 1 + 0 ≤ cells + 10 by omega) hcs.1, Nat.le_trans (show slots + 6 + 0 ≤ slots + 70 by omega) hcs.2⟩ (Nat.le_of_ble_eq_true rfl) dL_law_1235 (fun v8 I8 J8 hz8 => ?_)
  obtain ⟨b9, hv9, hth, hkb, hR2⟩ := hz8
  subst hv9
  refine x_istore (lv' := [(6, .int b9), (5, .int kc), (4, .int (nI i)), (3, .ref ou), (2, .ref m), (1, .ref x), (0, .ref b)]) hc dL_law_1238 (by decide) rfl ?_
  refine x_aload_n (j := 4) hc dL_law_1240 rfl rfl ?_
  have hMd8 := hR2.ats.2.2.2
  refine x_callV (C := RX3) (T := TX3) (NN := 19) (ci := 4) (As := []) (st := []) hc hMm (by omega) (by decide) rfl (m_thrown l D z e0 L K N I8 J8 R m hMd8) gL_law_X3_thrown rfl hdV_X3_thrown ⟨Nat.le_of_ble_eq_true rfl, Nat.le_of_ble_eq_true rfl⟩ rfl rfl ⟨Nat.le_trans (show cells + 1 + 0 + 0 ≤ cells + 10 by omega) hcs.1, Nat.le_trans (show slots + 6 + 0 + 0 ≤ slots + 70 by omega) hcs.2⟩ (Nat.le_of_ble_eq_true rfl) dL_law_1241 (fun v7 I7 J7 hz7 => ?_)
  obtain ⟨rfl, hI7, hJ7⟩ := hz7
  replace hI7 := hI7.symm
  subst hI7
  replace hJ7 := hJ7.symm
  subst hJ7
  refine x_vali (hth) ?_
  refine x_iload (j := 1) hc dL_law_1244 rfl ?_
  refine x_icmp_eq (tgt := 1251) hc dL_law_1246 (by decide) (fun _ => ?_) (fun q9 => absurd (rfl) q9)
  refine x_iload (j := 1) hc dL_law_1251 rfl ?_
  refine x_if_ne (tgt := 1268) hc dL_law_1253 (by decide) (fun qk => ?_) (fun qk => ?_)
  · refine x_goto (tgt := 1327) hc dL_law_1268 (by decide) ?_
    refine x_sub [2, 3, 4, 5, 6] rfl ?_
    refine x_widen (show cells + 1 + 0 + 0 ≤ cells + 10 by omega) (show slots + 6 + 0 + 0 ≤ slots + 70 by omega) ?_
    exact kont _ _ _ _ _ _ hR2
  · refine x_aload_n (j := 3) hc dL_law_1256 rfl rfl ?_
    refine x_iconst (v := 0) hc dL_law_1257 (by decide) ?_
    refine x_lald hc hO (by decide) rfl (by decide) (by omega) dL_law_1258 ?_
    refine x_vall (y := Int32.toInt64 V) ((hkb qk).2) ?_
    refine x_iload (j := 0) hc dL_law_1259 rfl ?_
    refine x_i2l hc dL_law_1261 ?_
    refine x_lcmp hc dL_law_1262 ?_
    refine x_if_eq (tgt := 1268) hc dL_law_1263 (by decide) (fun _ => ?_) (fun q9 => absurd (lgc (by rw [(hkb qk).1])) q9)
    refine x_goto (tgt := 1327) hc dL_law_1268 (by decide) ?_
    refine x_sub [2, 3, 4, 5, 6] rfl ?_
    refine x_widen (show cells + 1 + 0 + 0 ≤ cells + 10 by omega) (show slots + 6 + 0 + 0 ≤ slots + 70 by omega) ?_
    exact kont _ _ _ _ _ _ hR2
set_option maxHeartbeats 4000000 in
set_option maxRecDepth 100000 in
theorem law_c19 {pg : Program} {l : Launch} {ev : Env} {s : State} {mi : MethodId} {args : Array Value} {below : List Frame} {meth : Method} {c : Code} {D : va_G} {z e0 : Nat} {L : List Nat} {K N : Nat → Nat} {I : Nat → Nat → Int32} {J : Nat → Nat → Int64} {R : Nat → Nat → Option Nat} {cells slots : Nat} {Q : State → Prop} {b Ln x m ou st i : Nat} {xs : Nat → Int32} (hc : CT pg l s mi args meth c D z e0 cL_law 7 RL wsL_law) (hXs : va_X b Ln xs s s.heap) (hbl : b < s.heap.size) (hbz : b < z) (hLn : Ln ≤ 3072) (hfl : l.stackTraces = false) (hst : st ≤ 511) (hR : REL e0 x m ou st L K N I J R) (hi : i + 6 ≤ Ln) (hcs : cells + 10 ≤ room_1.cells ∧ slots + 70 ≤ room_1.slots) (kont : ∀ L K N I J R, REL e0 x m ou (st + 1) L K N I J R → XW pg l ev room_1 s mi args below meth c D z 7 L K N I J R (cells + 10) (slots + 70) Q 1327 [(4, .int (nI i)), (3, .ref ou), (2, .ref m), (1, .ref x), (0, .ref b)] []) : XW pg l ev room_1 s mi args below meth c D z 7 L K N I J R cells slots Q 1271 [(4, .int (nI i)), (3, .ref ou), (2, .ref m), (1, .ref x), (0, .ref b)] [] := by
  obtain ⟨hX, hMm, hO, hMd⟩ := hR.ats
  refine x_aload_n (j := 3) hc dL_law_1271 rfl rfl ?_
  refine x_aload_n (j := 4) hc dL_law_1272 rfl rfl ?_
  refine x_iload (j := 0) hc dL_law_1273 rfl ?_
  refine x_iconst (v := 1) hc dL_law_1275 (by decide) ?_
  refine x_iadd hc dL_law_1276 ?_
  refine x_vali (nI_add i 1) ?_
  refine x_sld hc hXs hbl hbz rfl (show (i + 1) < Ln by omega) hLn dL_law_1277 ?_
  refine x_aload_n (j := 1) hc dL_law_1278 rfl rfl ?_
  refine x_callSW (As := [.ref x, .int (xs (i + 1)), .ref ou]) (st := []) hc (op_owed (l := l) (D := D) (z := z) hfl hst hR (xs (i + 1))) gL_law_L_owed rfl hdS_L_owed ⟨Nat.le_of_ble_eq_true rfl, Nat.le_of_ble_eq_true rfl⟩ rfl rfl ⟨Nat.le_trans (show cells + 1 ≤ cells + 10 by omega) hcs.1, Nat.le_trans (show slots + 6 ≤ slots + 70 by omega) hcs.2⟩ (Nat.le_of_ble_eq_true rfl) dL_law_1279 (fun v9 I9 J9 hz9 => ?_)
  obtain ⟨kc, V, hv9, hV, hM2⟩ := hz9
  subst hv9
  refine x_istore (lv' := [(5, .int kc), (4, .int (nI i)), (3, .ref ou), (2, .ref m), (1, .ref x), (0, .ref b)]) hc dL_law_1282 (by decide) rfl ?_
  refine x_aload_n (j := 3) hc dL_law_1284 rfl rfl ?_
  refine x_aload_n (j := 5) hc dL_law_1285 rfl rfl ?_
  refine x_iload (j := 1) hc dL_law_1286 rfl ?_
  refine x_iconst (v := 1) hc dL_law_1288 (by decide) ?_
  refine x_iadd hc dL_law_1289 ?_
  refine x_vali (nI_add i 1) ?_
  refine x_sld hc hXs hbl hbz rfl (show (i + 1) < Ln by omega) hLn dL_law_1290 ?_
  refine x_callV (C := RX3) (T := TX3) (NN := 19) (ci := 4) (As := [.int (xs (i + 1))]) (st := []) hc hMm (by omega) (by decide) rfl hM2 gL_law_X3_owed rfl hdV_X3_owed ⟨Nat.le_of_ble_eq_true rfl, Nat.le_of_ble_eq_true rfl⟩ rfl rfl ⟨Nat.le_trans (show cells + 1 + 0 ≤ cells + 10 by omega) hcs.1, Nat.le_trans (show slots + 6 + 0 ≤ slots + 70 by omega) hcs.2⟩ (Nat.le_of_ble_eq_true rfl) dL_law_1291 (fun v8 I8 J8 hz8 => ?_)
  obtain ⟨b9, hv9, hth, hkb, hR2⟩ := hz8
  subst hv9
  refine x_istore (lv' := [(6, .int b9), (5, .int kc), (4, .int (nI i)), (3, .ref ou), (2, .ref m), (1, .ref x), (0, .ref b)]) hc dL_law_1294 (by decide) rfl ?_
  refine x_aload_n (j := 4) hc dL_law_1296 rfl rfl ?_
  have hMd8 := hR2.ats.2.2.2
  refine x_callV (C := RX3) (T := TX3) (NN := 19) (ci := 4) (As := []) (st := []) hc hMm (by omega) (by decide) rfl (m_thrown l D z e0 L K N I8 J8 R m hMd8) gL_law_X3_thrown rfl hdV_X3_thrown ⟨Nat.le_of_ble_eq_true rfl, Nat.le_of_ble_eq_true rfl⟩ rfl rfl ⟨Nat.le_trans (show cells + 1 + 0 + 0 ≤ cells + 10 by omega) hcs.1, Nat.le_trans (show slots + 6 + 0 + 0 ≤ slots + 70 by omega) hcs.2⟩ (Nat.le_of_ble_eq_true rfl) dL_law_1297 (fun v7 I7 J7 hz7 => ?_)
  obtain ⟨rfl, hI7, hJ7⟩ := hz7
  replace hI7 := hI7.symm
  subst hI7
  replace hJ7 := hJ7.symm
  subst hJ7
  refine x_vali (hth) ?_
  refine x_iload (j := 1) hc dL_law_1300 rfl ?_
  refine x_icmp_eq (tgt := 1307) hc dL_law_1302 (by decide) (fun _ => ?_) (fun q9 => absurd (rfl) q9)
  refine x_iload (j := 1) hc dL_law_1307 rfl ?_
  refine x_if_ne (tgt := 1324) hc dL_law_1309 (by decide) (fun qk => ?_) (fun qk => ?_)
  · refine x_goto (tgt := 1327) hc dL_law_1324 (by decide) ?_
    refine x_sub [2, 3, 4, 5, 6] rfl ?_
    refine x_widen (show cells + 1 + 0 + 0 ≤ cells + 10 by omega) (show slots + 6 + 0 + 0 ≤ slots + 70 by omega) ?_
    exact kont _ _ _ _ _ _ hR2
  · refine x_aload_n (j := 3) hc dL_law_1312 rfl rfl ?_
    refine x_iconst (v := 0) hc dL_law_1313 (by decide) ?_
    refine x_lald hc hO (by decide) rfl (by decide) (by omega) dL_law_1314 ?_
    refine x_vall (y := Int32.toInt64 V) ((hkb qk).2) ?_
    refine x_iload (j := 0) hc dL_law_1315 rfl ?_
    refine x_i2l hc dL_law_1317 ?_
    refine x_lcmp hc dL_law_1318 ?_
    refine x_if_eq (tgt := 1324) hc dL_law_1319 (by decide) (fun _ => ?_) (fun q9 => absurd (lgc (by rw [(hkb qk).1])) q9)
    refine x_goto (tgt := 1327) hc dL_law_1324 (by decide) ?_
    refine x_sub [2, 3, 4, 5, 6] rfl ?_
    refine x_widen (show cells + 1 + 0 + 0 ≤ cells + 10 by omega) (show slots + 6 + 0 + 0 ≤ slots + 70 by omega) ?_
    exact kont _ _ _ _ _ _ hR2
