set_option maxHeartbeats 4000000 in
set_option maxRecDepth 100000 in
theorem law_c0 {p : Program} {e : Env} {s : State} {m : MethodId} {below : List Frame} {meth : Method} {c : Code} (l : Launch) {b : Nat} {xs : Nat → Int32} (C0 : lw_At p s m meth c b 9 xs) (dC : Nat → ClassId) (dI : Nat → Nat → Nat) (ao am : Nat → Nat) (co cm : Nat → ClassId) (hDo : va_D (fun q : Nat => s.heap.size ≤ q) (wO ao co 600 0 IO JO SO LO)) (hDm : va_D (fun q : Nat => s.heap.size ≤ q) (wM am cm IM JM SM LM)) (hXX : ∀ (i j : Nat) (p q : Nat × va_E), (wO ao co 600 0 IO JO SO LO)[i]? = some p → (wM am cm IM JM SM LM)[j]? = some q → p.1 ≠ q.1) (hKo : va_K (dC, dI) vwCl (tyL co) s) (hKm : va_K (dC, dI) vwCl (tyM cm) s) (H : Heap) (locs : List Loc) (ls : Array Slot) (hPo : va_P (dC, dI) vwCl (wO ao co 600 0 IO JO SO LO) H) (hPm : va_P (dC, dI) vwCl (wM am cm IM JM SM LM) H) (hS : va_S (fun q : Nat => s.heap.size ≤ q) s.heap H locs) (hl : lv_has ls 4 [(3, .int 0), (2, .ref (am 0)), (1, .ref (ao 53)), (0, .ref b)]) : W p l e room_1 s m #[Value.ref b] below meth c H locs 300 60000 (lw_Z below #[Value.ref b] s) (F0 m 108 ls []) := by
  obtain ⟨hx, hb, hr, hml, hown, hts0, hX, hbl, hlocks, hgv⟩ := id C0
  have hts := fun w h => hts0 w (wsL_law_in w h)
  have hA : ∀ q : Nat, s.heap.size ≤ q → (fun q : Nat => s.heap.size ≤ q) q := fun _ h => h
  have hbA : ¬ (fun q : Nat => s.heap.size ≤ q) b := Nat.not_le.mpr hbl
  refine lv_aload_n hx hb dL_law_108 rfl (lv_at hl 2 rfl) ?_
  refine lv_aload_n hx hb dL_law_109 rfl (lv_at hl 3 rfl) ?_
  refine lv_iload_n hx hb dL_law_110 rfl (lv_at hl 0 rfl) ?_
  refine lv_iconst (v := 1) hx hb dL_law_111 (by decide) ?_
  refine lv_iadd hx hb dL_law_112 ?_
  refine va_sld hx hb hX hbl hbA hS (by unfold vp_in; decide) dL_law_113 ?_
  refine lv_aload_n hx hb dL_law_114 rfl (lv_at hl 3 rfl) ?_
  refine lv_iload_n hx hb dL_law_115 rfl (lv_at hl 0 rfl) ?_
  refine lv_iconst (v := 2) hx hb dL_law_116 (by decide) ?_
  refine lv_iadd hx hb dL_law_117 ?_
  refine va_sld hx hb hX hbl hbA hS (by unfold vp_in; decide) dL_law_118 ?_
  refine lv_aload_n hx hb dL_law_119 rfl (lv_at hl 3 rfl) ?_
  refine lv_iload_n hx hb dL_law_120 rfl (lv_at hl 0 rfl) ?_
  refine lv_iconst (v := 3) hx hb dL_law_121 (by decide) ?_
  refine lv_iadd hx hb dL_law_122 ?_
  refine va_sld hx hb hX hbl hbA hS (by unfold vp_in; decide) dL_law_123 ?_
  refine lv_aload_n hx hb dL_law_124 rfl (lv_at hl 3 rfl) ?_
  refine lv_iload_n hx hb dL_law_125 rfl (lv_at hl 0 rfl) ?_
  refine lv_iconst (v := 4) hx hb dL_law_126 (by decide) ?_
  refine lv_iadd hx hb dL_law_127 ?_
  refine va_sld hx hb hX hbl hbA hS (by unfold vp_in; decide) dL_law_128 ?_
  refine lv_aload_n hx hb dL_law_129 rfl (lv_at hl 3 rfl) ?_
  refine lv_iload_n hx hb dL_law_130 rfl (lv_at hl 0 rfl) ?_
  refine lv_iconst (v := 5) hx hb dL_law_131 (by decide) ?_
  refine lv_iadd hx hb dL_law_132 ?_
  refine va_sld hx hb hX hbl hbA hS (by unfold vp_in; decide) dL_law_133 ?_
  refine lv_aload_n hx hb dL_law_134 rfl (lv_at hl 3 rfl) ?_
  refine lv_iload_n hx hb dL_law_135 rfl (lv_at hl 0 rfl) ?_
  refine lv_bipush (v := 6) hx hb dL_law_136 (by decide) ?_
  refine lv_iadd hx hb dL_law_138 ?_
  refine va_sld hx hb hX hbl hbA hS (by unfold vp_in; decide) dL_law_139 ?_
  refine lv_aload_n hx hb dL_law_140 rfl (lv_at hl 3 rfl) ?_
  refine lv_iload_n hx hb dL_law_141 rfl (lv_at hl 0 rfl) ?_
  refine lv_bipush (v := 7) hx hb dL_law_142 (by decide) ?_
  refine lv_iadd hx hb dL_law_144 ?_
  refine va_sld hx hb hX hbl hbA hS (by unfold vp_in; decide) dL_law_145 ?_
  refine lv_aload_n hx hb dL_law_146 rfl (lv_at hl 3 rfl) ?_
  refine lv_iload_n hx hb dL_law_147 rfl (lv_at hl 0 rfl) ?_
  refine lv_bipush (v := 8) hx hb dL_law_148 (by decide) ?_
  refine lv_iadd hx hb dL_law_150 ?_
  refine va_sld hx hb hX hbl hbA hS (by unfold vp_in; decide) dL_law_151 ?_
  refine lcalli (va_runV (As := [.int (xs ((0 : Int32) + 1).toNatClampNeg), .int (xs ((0 : Int32) + 2).toNatClampNeg), .int (xs ((0 : Int32) + 3).toNatClampNeg), .int (xs ((0 : Int32) + 4).toNatClampNeg), .int (xs ((0 : Int32) + 5).toNatClampNeg), .int (xs ((0 : Int32) + 6).toNatClampNeg), .int (xs ((0 : Int32) + 7).toNatClampNeg), .int (xs ((0 : Int32) + 8).toNatClampNeg)]) (rest := []) ⟨hx, hb, hml, hown, hts⟩ (c_X7_share l dC dI ao co 600 0 H.size IO JO SO LO ((xs ((0 : Int32) + 1).toNatClampNeg)) ((xs ((0 : Int32) + 2).toNatClampNeg)) ((xs ((0 : Int32) + 3).toNatClampNeg)) ((xs ((0 : Int32) + 4).toNatClampNeg)) ((xs ((0 : Int32) + 5).toNatClampNeg)) ((xs ((0 : Int32) + 6).toNatClampNeg)) ((xs ((0 : Int32) + 7).toNatClampNeg)) ((xs ((0 : Int32) + 8).toNatClampNeg)) _ (q_X7_share ((xs ((0 : Int32) + 1).toNatClampNeg)) ((xs ((0 : Int32) + 2).toNatClampNeg)) ((xs ((0 : Int32) + 3).toNatClampNeg)) ((xs ((0 : Int32) + 4).toNatClampNeg)) ((xs ((0 : Int32) + 5).toNatClampNeg)) ((xs ((0 : Int32) + 6).toNatClampNeg)) ((xs ((0 : Int32) + 7).toNatClampNeg)) ((xs ((0 : Int32) + 8).toNatClampNeg)))) (cwV 8 hts gL_law_X7_share rfl rfl rfl (by decide +kernel) ⟨(Nat.le_of_ble_eq_true rfl), (Nat.le_of_ble_eq_true rfl)⟩) (g_pV hPo hKo hDo (va_recv hKo hPo (ci := 7) (q0 := 0) rfl (wO_atO _ _ _ _ _ _ _ _)) [.int (xs ((0 : Int32) + 1).toNatClampNeg), .int (xs ((0 : Int32) + 2).toNatClampNeg), .int (xs ((0 : Int32) + 3).toNatClampNeg), .int (xs ((0 : Int32) + 4).toNatClampNeg), .int (xs ((0 : Int32) + 5).toNatClampNeg), .int (xs ((0 : Int32) + 6).toNatClampNeg), .int (xs ((0 : Int32) + 7).toNatClampNeg), .int (xs ((0 : Int32) + 8).toNatClampNeg)]) rfl rfl hl.1 rfl (lv_room (Nat.le_of_ble_eq_true rfl)) dL_law_152 ⟨(Nat.le_of_ble_eq_true rfl), (Nat.le_of_ble_eq_true rfl)⟩) hS hA hDo hPm hXX (fun r1 _ _ _ _ H locs hPm hS h1 => ?_)
  refine lv_aload_n hx hb dL_law_155 rfl (lv_at hl 1 rfl) ?_
  refine lv_aload_n hx hb dL_law_156 rfl (lv_at hl 3 rfl) ?_
  refine lv_iload_n hx hb dL_law_157 rfl (lv_at hl 0 rfl) ?_
  refine lv_iconst (v := 1) hx hb dL_law_158 (by decide) ?_
  refine lv_iadd hx hb dL_law_159 ?_
  refine va_sld hx hb hX hbl hbA hS (by unfold vp_in; decide) dL_law_160 ?_
  refine lv_aload_n hx hb dL_law_161 rfl (lv_at hl 3 rfl) ?_
  refine lv_iload_n hx hb dL_law_162 rfl (lv_at hl 0 rfl) ?_
  refine lv_iconst (v := 2) hx hb dL_law_163 (by decide) ?_
  refine lv_iadd hx hb dL_law_164 ?_
  refine va_sld hx hb hX hbl hbA hS (by unfold vp_in; decide) dL_law_165 ?_
  refine lv_aload_n hx hb dL_law_166 rfl (lv_at hl 3 rfl) ?_
  refine lv_iload_n hx hb dL_law_167 rfl (lv_at hl 0 rfl) ?_
  refine lv_iconst (v := 3) hx hb dL_law_168 (by decide) ?_
  refine lv_iadd hx hb dL_law_169 ?_
  refine va_sld hx hb hX hbl hbA hS (by unfold vp_in; decide) dL_law_170 ?_
  refine lv_aload_n hx hb dL_law_171 rfl (lv_at hl 3 rfl) ?_
  refine lv_iload_n hx hb dL_law_172 rfl (lv_at hl 0 rfl) ?_
  refine lv_iconst (v := 4) hx hb dL_law_173 (by decide) ?_
  refine lv_iadd hx hb dL_law_174 ?_
  refine va_sld hx hb hX hbl hbA hS (by unfold vp_in; decide) dL_law_175 ?_
  refine lv_aload_n hx hb dL_law_176 rfl (lv_at hl 3 rfl) ?_
  refine lv_iload_n hx hb dL_law_177 rfl (lv_at hl 0 rfl) ?_
  refine lv_iconst (v := 5) hx hb dL_law_178 (by decide) ?_
  refine lv_iadd hx hb dL_law_179 ?_
  refine va_sld hx hb hX hbl hbA hS (by unfold vp_in; decide) dL_law_180 ?_
  refine lv_aload_n hx hb dL_law_181 rfl (lv_at hl 3 rfl) ?_
  refine lv_iload_n hx hb dL_law_182 rfl (lv_at hl 0 rfl) ?_
  refine lv_bipush (v := 6) hx hb dL_law_183 (by decide) ?_
  refine lv_iadd hx hb dL_law_185 ?_
  refine va_sld hx hb hX hbl hbA hS (by unfold vp_in; decide) dL_law_186 ?_
  refine lv_aload_n hx hb dL_law_187 rfl (lv_at hl 3 rfl) ?_
  refine lv_iload_n hx hb dL_law_188 rfl (lv_at hl 0 rfl) ?_
  refine lv_bipush (v := 7) hx hb dL_law_189 (by decide) ?_
  refine lv_iadd hx hb dL_law_191 ?_
  refine va_sld hx hb hX hbl hbA hS (by unfold vp_in; decide) dL_law_192 ?_
  refine lv_aload_n hx hb dL_law_193 rfl (lv_at hl 3 rfl) ?_
  refine lv_iload_n hx hb dL_law_194 rfl (lv_at hl 0 rfl) ?_
  refine lv_bipush (v := 8) hx hb dL_law_195 (by decide) ?_
  refine lv_iadd hx hb dL_law_197 ?_
  refine va_sld hx hb hX hbl hbA hS (by unfold vp_in; decide) dL_law_198 ?_
  refine gcalli (va_runV (As := [.int (xs ((0 : Int32) + 1).toNatClampNeg), .int (xs ((0 : Int32) + 2).toNatClampNeg), .int (xs ((0 : Int32) + 3).toNatClampNeg), .int (xs ((0 : Int32) + 4).toNatClampNeg), .int (xs ((0 : Int32) + 5).toNatClampNeg), .int (xs ((0 : Int32) + 6).toNatClampNeg), .int (xs ((0 : Int32) + 7).toNatClampNeg), .int (xs ((0 : Int32) + 8).toNatClampNeg)]) (rest := [.int r1]) ⟨hx, hb, hml, hown, hts⟩ (c_X8_share l dC dI am cm H.size IM JM SM LM ((xs ((0 : Int32) + 1).toNatClampNeg)) ((xs ((0 : Int32) + 2).toNatClampNeg)) ((xs ((0 : Int32) + 3).toNatClampNeg)) ((xs ((0 : Int32) + 4).toNatClampNeg)) ((xs ((0 : Int32) + 5).toNatClampNeg)) ((xs ((0 : Int32) + 6).toNatClampNeg)) ((xs ((0 : Int32) + 7).toNatClampNeg)) ((xs ((0 : Int32) + 8).toNatClampNeg)) _ (q_X8_share ((xs ((0 : Int32) + 1).toNatClampNeg)) ((xs ((0 : Int32) + 2).toNatClampNeg)) ((xs ((0 : Int32) + 3).toNatClampNeg)) ((xs ((0 : Int32) + 4).toNatClampNeg)) ((xs ((0 : Int32) + 5).toNatClampNeg)) ((xs ((0 : Int32) + 6).toNatClampNeg)) ((xs ((0 : Int32) + 7).toNatClampNeg)) ((xs ((0 : Int32) + 8).toNatClampNeg)))) (cwV 8 hts gL_law_X8_share rfl rfl rfl (by decide +kernel) ⟨(Nat.le_of_ble_eq_true rfl), (Nat.le_of_ble_eq_true rfl)⟩) (g_pV hPm hKm hDm (va_recv hKm hPm (ci := 8) (q0 := 0) rfl (wM_at0 _ _ _ _ _ _)) [.int (xs ((0 : Int32) + 1).toNatClampNeg), .int (xs ((0 : Int32) + 2).toNatClampNeg), .int (xs ((0 : Int32) + 3).toNatClampNeg), .int (xs ((0 : Int32) + 4).toNatClampNeg), .int (xs ((0 : Int32) + 5).toNatClampNeg), .int (xs ((0 : Int32) + 6).toNatClampNeg), .int (xs ((0 : Int32) + 7).toNatClampNeg), .int (xs ((0 : Int32) + 8).toNatClampNeg)]) rfl rfl hl.1 rfl (lv_room (Nat.le_of_ble_eq_true rfl)) dL_law_199 ⟨(Nat.le_of_ble_eq_true rfl), (Nat.le_of_ble_eq_true rfl)⟩) hS hA hDm (fun r2 _ _ _ _ H locs hPm _ hS h2 => ?_)
  refine lv_icmp_eq (tgt := 775) hx hb dL_law_202 (by decide) (fun hc => law_next l C0 H locs ls am ao hS hl) (fun hc => absurd (h1.trans h2.symm) hc)
set_option maxHeartbeats 4000000 in
set_option maxRecDepth 100000 in
theorem law_c1 {p : Program} {e : Env} {s : State} {m : MethodId} {below : List Frame} {meth : Method} {c : Code} (l : Launch) {b : Nat} {xs : Nat → Int32} (C0 : lw_At p s m meth c b 9 xs) (dC : Nat → ClassId) (dI : Nat → Nat → Nat) (ao am : Nat → Nat) (co cm : Nat → ClassId) (hDo : va_D (fun q : Nat => s.heap.size ≤ q) (wO ao co 600 0 IO JO SO LO)) (hDm : va_D (fun q : Nat => s.heap.size ≤ q) (wM am cm IM JM SM LM)) (hXX : ∀ (i j : Nat) (p q : Nat × va_E), (wO ao co 600 0 IO JO SO LO)[i]? = some p → (wM am cm IM JM SM LM)[j]? = some q → p.1 ≠ q.1) (hKo : va_K (dC, dI) vwCl (tyL co) s) (hKm : va_K (dC, dI) vwCl (tyM cm) s) (H : Heap) (locs : List Loc) (ls : Array Slot) (hPo : va_P (dC, dI) vwCl (wO ao co 600 0 IO JO SO LO) H) (hPm : va_P (dC, dI) vwCl (wM am cm IM JM SM LM) H) (hS : va_S (fun q : Nat => s.heap.size ≤ q) s.heap H locs) (hl : lv_has ls 4 [(3, .int 0), (2, .ref (am 0)), (1, .ref (ao 53)), (0, .ref b)]) : W p l e room_1 s m #[Value.ref b] below meth c H locs 300 60000 (lw_Z below #[Value.ref b] s) (F0 m 207 ls []) := by
  obtain ⟨hx, hb, hr, hml, hown, hts0, hX, hbl, hlocks, hgv⟩ := id C0
  have hts := fun w h => hts0 w (wsL_law_in w h)
  have hA : ∀ q : Nat, s.heap.size ≤ q → (fun q : Nat => s.heap.size ≤ q) q := fun _ h => h
  have hbA : ¬ (fun q : Nat => s.heap.size ≤ q) b := Nat.not_le.mpr hbl
  refine lv_aload_n hx hb dL_law_207 rfl (lv_at hl 2 rfl) ?_
  refine lv_aload_n hx hb dL_law_208 rfl (lv_at hl 3 rfl) ?_
  refine lv_iload_n hx hb dL_law_209 rfl (lv_at hl 0 rfl) ?_
  refine lv_iconst (v := 1) hx hb dL_law_210 (by decide) ?_
  refine lv_iadd hx hb dL_law_211 ?_
  refine va_sld hx hb hX hbl hbA hS (by unfold vp_in; decide) dL_law_212 ?_
  refine lv_aload_n hx hb dL_law_213 rfl (lv_at hl 3 rfl) ?_
  refine lv_iload_n hx hb dL_law_214 rfl (lv_at hl 0 rfl) ?_
  refine lv_iconst (v := 2) hx hb dL_law_215 (by decide) ?_
  refine lv_iadd hx hb dL_law_216 ?_
  refine va_sld hx hb hX hbl hbA hS (by unfold vp_in; decide) dL_law_217 ?_
  refine lv_aload_n hx hb dL_law_218 rfl (lv_at hl 3 rfl) ?_
  refine lv_iload_n hx hb dL_law_219 rfl (lv_at hl 0 rfl) ?_
  refine lv_iconst (v := 3) hx hb dL_law_220 (by decide) ?_
  refine lv_iadd hx hb dL_law_221 ?_
  refine va_sld hx hb hX hbl hbA hS (by unfold vp_in; decide) dL_law_222 ?_
  refine lv_aload_n hx hb dL_law_223 rfl (lv_at hl 3 rfl) ?_
  refine lv_iload_n hx hb dL_law_224 rfl (lv_at hl 0 rfl) ?_
  refine lv_iconst (v := 4) hx hb dL_law_225 (by decide) ?_
  refine lv_iadd hx hb dL_law_226 ?_
  refine va_sld hx hb hX hbl hbA hS (by unfold vp_in; decide) dL_law_227 ?_
  refine lv_aload_n hx hb dL_law_228 rfl (lv_at hl 3 rfl) ?_
  refine lv_iload_n hx hb dL_law_229 rfl (lv_at hl 0 rfl) ?_
  refine lv_iconst (v := 5) hx hb dL_law_230 (by decide) ?_
  refine lv_iadd hx hb dL_law_231 ?_
  refine va_sld hx hb hX hbl hbA hS (by unfold vp_in; decide) dL_law_232 ?_
  refine lv_aload_n hx hb dL_law_233 rfl (lv_at hl 3 rfl) ?_
  refine lv_iload_n hx hb dL_law_234 rfl (lv_at hl 0 rfl) ?_
  refine lv_bipush (v := 6) hx hb dL_law_235 (by decide) ?_
  refine lv_iadd hx hb dL_law_237 ?_
  refine va_sld hx hb hX hbl hbA hS (by unfold vp_in; decide) dL_law_238 ?_
  refine lv_aload_n hx hb dL_law_239 rfl (lv_at hl 3 rfl) ?_
  refine lv_iload_n hx hb dL_law_240 rfl (lv_at hl 0 rfl) ?_
  refine lv_bipush (v := 7) hx hb dL_law_241 (by decide) ?_
  refine lv_iadd hx hb dL_law_243 ?_
  refine va_sld hx hb hX hbl hbA hS (by unfold vp_in; decide) dL_law_244 ?_
  refine lv_aload_n hx hb dL_law_245 rfl (lv_at hl 3 rfl) ?_
  refine lv_iload_n hx hb dL_law_246 rfl (lv_at hl 0 rfl) ?_
  refine lv_bipush (v := 8) hx hb dL_law_247 (by decide) ?_
  refine lv_iadd hx hb dL_law_249 ?_
  refine va_sld hx hb hX hbl hbA hS (by unfold vp_in; decide) dL_law_250 ?_
  refine lcalli (va_runV (As := [.int (xs ((0 : Int32) + 1).toNatClampNeg), .int (xs ((0 : Int32) + 2).toNatClampNeg), .int (xs ((0 : Int32) + 3).toNatClampNeg), .int (xs ((0 : Int32) + 4).toNatClampNeg), .int (xs ((0 : Int32) + 5).toNatClampNeg), .int (xs ((0 : Int32) + 6).toNatClampNeg), .int (xs ((0 : Int32) + 7).toNatClampNeg), .int (xs ((0 : Int32) + 8).toNatClampNeg)]) (rest := []) ⟨hx, hb, hml, hown, hts⟩ (c_X7_bargain l dC dI ao co 600 0 H.size IO JO SO LO ((xs ((0 : Int32) + 1).toNatClampNeg)) ((xs ((0 : Int32) + 2).toNatClampNeg)) ((xs ((0 : Int32) + 3).toNatClampNeg)) ((xs ((0 : Int32) + 4).toNatClampNeg)) ((xs ((0 : Int32) + 5).toNatClampNeg)) ((xs ((0 : Int32) + 6).toNatClampNeg)) ((xs ((0 : Int32) + 7).toNatClampNeg)) ((xs ((0 : Int32) + 8).toNatClampNeg)) _ (q_X7_bargain ((xs ((0 : Int32) + 1).toNatClampNeg)) ((xs ((0 : Int32) + 2).toNatClampNeg)) ((xs ((0 : Int32) + 3).toNatClampNeg)) ((xs ((0 : Int32) + 4).toNatClampNeg)) ((xs ((0 : Int32) + 5).toNatClampNeg)) ((xs ((0 : Int32) + 6).toNatClampNeg)) ((xs ((0 : Int32) + 7).toNatClampNeg)) ((xs ((0 : Int32) + 8).toNatClampNeg)))) (cwV 8 hts gL_law_X7_bargain rfl rfl rfl (by decide +kernel) ⟨(Nat.le_of_ble_eq_true rfl), (Nat.le_of_ble_eq_true rfl)⟩) (g_pV hPo hKo hDo (va_recv hKo hPo (ci := 7) (q0 := 0) rfl (wO_atO _ _ _ _ _ _ _ _)) [.int (xs ((0 : Int32) + 1).toNatClampNeg), .int (xs ((0 : Int32) + 2).toNatClampNeg), .int (xs ((0 : Int32) + 3).toNatClampNeg), .int (xs ((0 : Int32) + 4).toNatClampNeg), .int (xs ((0 : Int32) + 5).toNatClampNeg), .int (xs ((0 : Int32) + 6).toNatClampNeg), .int (xs ((0 : Int32) + 7).toNatClampNeg), .int (xs ((0 : Int32) + 8).toNatClampNeg)]) rfl rfl hl.1 rfl (lv_room (Nat.le_of_ble_eq_true rfl)) dL_law_251 ⟨(Nat.le_of_ble_eq_true rfl), (Nat.le_of_ble_eq_true rfl)⟩) hS hA hDo hPm hXX (fun r1 _ _ _ _ H locs hPm hS h1 => ?_)
  refine lv_aload_n hx hb dL_law_254 rfl (lv_at hl 1 rfl) ?_
  refine lv_aload_n hx hb dL_law_255 rfl (lv_at hl 3 rfl) ?_
  refine lv_iload_n hx hb dL_law_256 rfl (lv_at hl 0 rfl) ?_
  refine lv_iconst (v := 1) hx hb dL_law_257 (by decide) ?_
  refine lv_iadd hx hb dL_law_258 ?_
  refine va_sld hx hb hX hbl hbA hS (by unfold vp_in; decide) dL_law_259 ?_
  refine lv_aload_n hx hb dL_law_260 rfl (lv_at hl 3 rfl) ?_
  refine lv_iload_n hx hb dL_law_261 rfl (lv_at hl 0 rfl) ?_
  refine lv_iconst (v := 2) hx hb dL_law_262 (by decide) ?_
  refine lv_iadd hx hb dL_law_263 ?_
  refine va_sld hx hb hX hbl hbA hS (by unfold vp_in; decide) dL_law_264 ?_
  refine lv_aload_n hx hb dL_law_265 rfl (lv_at hl 3 rfl) ?_
  refine lv_iload_n hx hb dL_law_266 rfl (lv_at hl 0 rfl) ?_
  refine lv_iconst (v := 3) hx hb dL_law_267 (by decide) ?_
  refine lv_iadd hx hb dL_law_268 ?_
  refine va_sld hx hb hX hbl hbA hS (by unfold vp_in; decide) dL_law_269 ?_
  refine lv_aload_n hx hb dL_law_270 rfl (lv_at hl 3 rfl) ?_
  refine lv_iload_n hx hb dL_law_271 rfl (lv_at hl 0 rfl) ?_
  refine lv_iconst (v := 4) hx hb dL_law_272 (by decide) ?_
  refine lv_iadd hx hb dL_law_273 ?_
  refine va_sld hx hb hX hbl hbA hS (by unfold vp_in; decide) dL_law_274 ?_
  refine lv_aload_n hx hb dL_law_275 rfl (lv_at hl 3 rfl) ?_
  refine lv_iload_n hx hb dL_law_276 rfl (lv_at hl 0 rfl) ?_
  refine lv_iconst (v := 5) hx hb dL_law_277 (by decide) ?_
  refine lv_iadd hx hb dL_law_278 ?_
  refine va_sld hx hb hX hbl hbA hS (by unfold vp_in; decide) dL_law_279 ?_
  refine lv_aload_n hx hb dL_law_280 rfl (lv_at hl 3 rfl) ?_
  refine lv_iload_n hx hb dL_law_281 rfl (lv_at hl 0 rfl) ?_
  refine lv_bipush (v := 6) hx hb dL_law_282 (by decide) ?_
  refine lv_iadd hx hb dL_law_284 ?_
  refine va_sld hx hb hX hbl hbA hS (by unfold vp_in; decide) dL_law_285 ?_
  refine lv_aload_n hx hb dL_law_286 rfl (lv_at hl 3 rfl) ?_
  refine lv_iload_n hx hb dL_law_287 rfl (lv_at hl 0 rfl) ?_
  refine lv_bipush (v := 7) hx hb dL_law_288 (by decide) ?_
  refine lv_iadd hx hb dL_law_290 ?_
  refine va_sld hx hb hX hbl hbA hS (by unfold vp_in; decide) dL_law_291 ?_
  refine lv_aload_n hx hb dL_law_292 rfl (lv_at hl 3 rfl) ?_
  refine lv_iload_n hx hb dL_law_293 rfl (lv_at hl 0 rfl) ?_
  refine lv_bipush (v := 8) hx hb dL_law_294 (by decide) ?_
  refine lv_iadd hx hb dL_law_296 ?_
  refine va_sld hx hb hX hbl hbA hS (by unfold vp_in; decide) dL_law_297 ?_
  refine gcalli (va_runV (As := [.int (xs ((0 : Int32) + 1).toNatClampNeg), .int (xs ((0 : Int32) + 2).toNatClampNeg), .int (xs ((0 : Int32) + 3).toNatClampNeg), .int (xs ((0 : Int32) + 4).toNatClampNeg), .int (xs ((0 : Int32) + 5).toNatClampNeg), .int (xs ((0 : Int32) + 6).toNatClampNeg), .int (xs ((0 : Int32) + 7).toNatClampNeg), .int (xs ((0 : Int32) + 8).toNatClampNeg)]) (rest := [.int r1]) ⟨hx, hb, hml, hown, hts⟩ (c_X8_bargain l dC dI am cm H.size IM JM SM LM ((xs ((0 : Int32) + 1).toNatClampNeg)) ((xs ((0 : Int32) + 2).toNatClampNeg)) ((xs ((0 : Int32) + 3).toNatClampNeg)) ((xs ((0 : Int32) + 4).toNatClampNeg)) ((xs ((0 : Int32) + 5).toNatClampNeg)) ((xs ((0 : Int32) + 6).toNatClampNeg)) ((xs ((0 : Int32) + 7).toNatClampNeg)) ((xs ((0 : Int32) + 8).toNatClampNeg)) _ (q_X8_bargain ((xs ((0 : Int32) + 1).toNatClampNeg)) ((xs ((0 : Int32) + 2).toNatClampNeg)) ((xs ((0 : Int32) + 3).toNatClampNeg)) ((xs ((0 : Int32) + 4).toNatClampNeg)) ((xs ((0 : Int32) + 5).toNatClampNeg)) ((xs ((0 : Int32) + 6).toNatClampNeg)) ((xs ((0 : Int32) + 7).toNatClampNeg)) ((xs ((0 : Int32) + 8).toNatClampNeg)))) (cwV 8 hts gL_law_X8_bargain rfl rfl rfl (by decide +kernel) ⟨(Nat.le_of_ble_eq_true rfl), (Nat.le_of_ble_eq_true rfl)⟩) (g_pV hPm hKm hDm (va_recv hKm hPm (ci := 8) (q0 := 0) rfl (wM_at0 _ _ _ _ _ _)) [.int (xs ((0 : Int32) + 1).toNatClampNeg), .int (xs ((0 : Int32) + 2).toNatClampNeg), .int (xs ((0 : Int32) + 3).toNatClampNeg), .int (xs ((0 : Int32) + 4).toNatClampNeg), .int (xs ((0 : Int32) + 5).toNatClampNeg), .int (xs ((0 : Int32) + 6).toNatClampNeg), .int (xs ((0 : Int32) + 7).toNatClampNeg), .int (xs ((0 : Int32) + 8).toNatClampNeg)]) rfl rfl hl.1 rfl (lv_room (Nat.le_of_ble_eq_true rfl)) dL_law_298 ⟨(Nat.le_of_ble_eq_true rfl), (Nat.le_of_ble_eq_true rfl)⟩) hS hA hDm (fun r2 _ _ _ _ H locs hPm _ hS h2 => ?_)
  refine lv_icmp_eq (tgt := 775) hx hb dL_law_301 (by decide) (fun hc => law_next l C0 H locs ls am ao hS hl) (fun hc => absurd (h1.trans h2.symm) hc)
set_option maxHeartbeats 4000000 in
set_option maxRecDepth 100000 in
theorem law_c2 {p : Program} {e : Env} {s : State} {m : MethodId} {below : List Frame} {meth : Method} {c : Code} (l : Launch) {b : Nat} {xs : Nat → Int32} (C0 : lw_At p s m meth c b 9 xs) (dC : Nat → ClassId) (dI : Nat → Nat → Nat) (ao am : Nat → Nat) (co cm : Nat → ClassId) (hDo : va_D (fun q : Nat => s.heap.size ≤ q) (wO ao co 600 0 IO JO SO LO)) (hDm : va_D (fun q : Nat => s.heap.size ≤ q) (wM am cm IM JM SM LM)) (hXX : ∀ (i j : Nat) (p q : Nat × va_E), (wO ao co 600 0 IO JO SO LO)[i]? = some p → (wM am cm IM JM SM LM)[j]? = some q → p.1 ≠ q.1) (hKo : va_K (dC, dI) vwCl (tyL co) s) (hKm : va_K (dC, dI) vwCl (tyM cm) s) (H : Heap) (locs : List Loc) (ls : Array Slot) (hPo : va_P (dC, dI) vwCl (wO ao co 600 0 IO JO SO LO) H) (hPm : va_P (dC, dI) vwCl (wM am cm IM JM SM LM) H) (hS : va_S (fun q : Nat => s.heap.size ≤ q) s.heap H locs) (hl : lv_has ls 4 [(3, .int 0), (2, .ref (am 0)), (1, .ref (ao 53)), (0, .ref b)]) : W p l e room_1 s m #[Value.ref b] below meth c H locs 300 60000 (lw_Z below #[Value.ref b] s) (F0 m 306 ls []) := by
  obtain ⟨hx, hb, hr, hml, hown, hts0, hX, hbl, hlocks, hgv⟩ := id C0
  have hts := fun w h => hts0 w (wsL_law_in w h)
  have hA : ∀ q : Nat, s.heap.size ≤ q → (fun q : Nat => s.heap.size ≤ q) q := fun _ h => h
  have hbA : ¬ (fun q : Nat => s.heap.size ≤ q) b := Nat.not_le.mpr hbl
  refine lv_aload_n hx hb dL_law_306 rfl (lv_at hl 2 rfl) ?_
  refine lv_aload_n hx hb dL_law_307 rfl (lv_at hl 3 rfl) ?_
  refine lv_iload_n hx hb dL_law_308 rfl (lv_at hl 0 rfl) ?_
  refine lv_iconst (v := 1) hx hb dL_law_309 (by decide) ?_
  refine lv_iadd hx hb dL_law_310 ?_
  refine va_sld hx hb hX hbl hbA hS (by unfold vp_in; decide) dL_law_311 ?_
  refine lv_aload_n hx hb dL_law_312 rfl (lv_at hl 3 rfl) ?_
  refine lv_iload_n hx hb dL_law_313 rfl (lv_at hl 0 rfl) ?_
  refine lv_iconst (v := 2) hx hb dL_law_314 (by decide) ?_
  refine lv_iadd hx hb dL_law_315 ?_
  refine va_sld hx hb hX hbl hbA hS (by unfold vp_in; decide) dL_law_316 ?_
  refine lv_aload_n hx hb dL_law_317 rfl (lv_at hl 3 rfl) ?_
  refine lv_iload_n hx hb dL_law_318 rfl (lv_at hl 0 rfl) ?_
  refine lv_iconst (v := 3) hx hb dL_law_319 (by decide) ?_
  refine lv_iadd hx hb dL_law_320 ?_
  refine va_sld hx hb hX hbl hbA hS (by unfold vp_in; decide) dL_law_321 ?_
  refine lv_aload_n hx hb dL_law_322 rfl (lv_at hl 3 rfl) ?_
  refine lv_iload_n hx hb dL_law_323 rfl (lv_at hl 0 rfl) ?_
  refine lv_iconst (v := 4) hx hb dL_law_324 (by decide) ?_
  refine lv_iadd hx hb dL_law_325 ?_
  refine va_sld hx hb hX hbl hbA hS (by unfold vp_in; decide) dL_law_326 ?_
  refine lv_aload_n hx hb dL_law_327 rfl (lv_at hl 3 rfl) ?_
  refine lv_iload_n hx hb dL_law_328 rfl (lv_at hl 0 rfl) ?_
  refine lv_iconst (v := 5) hx hb dL_law_329 (by decide) ?_
  refine lv_iadd hx hb dL_law_330 ?_
  refine va_sld hx hb hX hbl hbA hS (by unfold vp_in; decide) dL_law_331 ?_
  by_cases hz : (xs ((0 : Int32) + 5).toNatClampNeg) = 0
  · refine lv_if_eq (tgt := 339) hx hb dL_law_332 (by decide) (fun hc => ?_) (fun hc => absurd hz hc)
    refine lv_iconst (v := 0) hx hb dL_law_339 (by decide) ?_
    refine lcalli (va_runV (As := [.int (xs ((0 : Int32) + 1).toNatClampNeg), .int (xs ((0 : Int32) + 2).toNatClampNeg), .int (xs ((0 : Int32) + 3).toNatClampNeg), .int (xs ((0 : Int32) + 4).toNatClampNeg), .int 0]) (rest := []) ⟨hx, hb, hml, hown, hts⟩ (c_X7_report l dC dI ao co 600 0 H.size IO JO SO LO ((xs ((0 : Int32) + 1).toNatClampNeg)) ((xs ((0 : Int32) + 2).toNatClampNeg)) ((xs ((0 : Int32) + 3).toNatClampNeg)) ((xs ((0 : Int32) + 4).toNatClampNeg)) 0 _ (q_X7_report ((xs ((0 : Int32) + 1).toNatClampNeg)) ((xs ((0 : Int32) + 2).toNatClampNeg)) ((xs ((0 : Int32) + 3).toNatClampNeg)) ((xs ((0 : Int32) + 4).toNatClampNeg)) 0)) (cwV 5 hts gL_law_X7_report rfl rfl rfl (by decide +kernel) ⟨(Nat.le_of_ble_eq_true rfl), (Nat.le_of_ble_eq_true rfl)⟩) (g_pV hPo hKo hDo (va_recv hKo hPo (ci := 7) (q0 := 0) rfl (wO_atO _ _ _ _ _ _ _ _)) [.int (xs ((0 : Int32) + 1).toNatClampNeg), .int (xs ((0 : Int32) + 2).toNatClampNeg), .int (xs ((0 : Int32) + 3).toNatClampNeg), .int (xs ((0 : Int32) + 4).toNatClampNeg), .int 0]) rfl rfl hl.1 rfl (lv_room (Nat.le_of_ble_eq_true rfl)) dL_law_340 ⟨(Nat.le_of_ble_eq_true rfl), (Nat.le_of_ble_eq_true rfl)⟩) hS hA hDo hPm hXX (fun r1 _ _ _ _ H locs hPm hS h1 => ?_)
    refine lv_aload_n hx hb dL_law_343 rfl (lv_at hl 1 rfl) ?_
    refine lv_aload_n hx hb dL_law_344 rfl (lv_at hl 3 rfl) ?_
    refine lv_iload_n hx hb dL_law_345 rfl (lv_at hl 0 rfl) ?_
    refine lv_iconst (v := 1) hx hb dL_law_346 (by decide) ?_
    refine lv_iadd hx hb dL_law_347 ?_
    refine va_sld hx hb hX hbl hbA hS (by unfold vp_in; decide) dL_law_348 ?_
    refine lv_aload_n hx hb dL_law_349 rfl (lv_at hl 3 rfl) ?_
    refine lv_iload_n hx hb dL_law_350 rfl (lv_at hl 0 rfl) ?_
    refine lv_iconst (v := 2) hx hb dL_law_351 (by decide) ?_
    refine lv_iadd hx hb dL_law_352 ?_
    refine va_sld hx hb hX hbl hbA hS (by unfold vp_in; decide) dL_law_353 ?_
    refine lv_aload_n hx hb dL_law_354 rfl (lv_at hl 3 rfl) ?_
    refine lv_iload_n hx hb dL_law_355 rfl (lv_at hl 0 rfl) ?_
    refine lv_iconst (v := 3) hx hb dL_law_356 (by decide) ?_
    refine lv_iadd hx hb dL_law_357 ?_
    refine va_sld hx hb hX hbl hbA hS (by unfold vp_in; decide) dL_law_358 ?_
    refine lv_aload_n hx hb dL_law_359 rfl (lv_at hl 3 rfl) ?_
    refine lv_iload_n hx hb dL_law_360 rfl (lv_at hl 0 rfl) ?_
    refine lv_iconst (v := 4) hx hb dL_law_361 (by decide) ?_
    refine lv_iadd hx hb dL_law_362 ?_
    refine va_sld hx hb hX hbl hbA hS (by unfold vp_in; decide) dL_law_363 ?_
    refine lv_aload_n hx hb dL_law_364 rfl (lv_at hl 3 rfl) ?_
    refine lv_iload_n hx hb dL_law_365 rfl (lv_at hl 0 rfl) ?_
    refine lv_iconst (v := 5) hx hb dL_law_366 (by decide) ?_
    refine lv_iadd hx hb dL_law_367 ?_
    refine va_sld hx hb hX hbl hbA hS (by unfold vp_in; decide) dL_law_368 ?_
    refine lv_if_eq (tgt := 376) hx hb dL_law_369 (by decide) (fun hc => ?_) (fun hc => absurd hz hc)
    refine lv_iconst (v := 0) hx hb dL_law_376 (by decide) ?_
    refine gcalli (va_runV (As := [.int (xs ((0 : Int32) + 1).toNatClampNeg), .int (xs ((0 : Int32) + 2).toNatClampNeg), .int (xs ((0 : Int32) + 3).toNatClampNeg), .int (xs ((0 : Int32) + 4).toNatClampNeg), .int 0]) (rest := [.int r1]) ⟨hx, hb, hml, hown, hts⟩ (c_X8_report l dC dI am cm H.size IM JM SM LM ((xs ((0 : Int32) + 1).toNatClampNeg)) ((xs ((0 : Int32) + 2).toNatClampNeg)) ((xs ((0 : Int32) + 3).toNatClampNeg)) ((xs ((0 : Int32) + 4).toNatClampNeg)) 0 _ (q_X8_report ((xs ((0 : Int32) + 1).toNatClampNeg)) ((xs ((0 : Int32) + 2).toNatClampNeg)) ((xs ((0 : Int32) + 3).toNatClampNeg)) ((xs ((0 : Int32) + 4).toNatClampNeg)) 0)) (cwV 5 hts gL_law_X8_report rfl rfl rfl (by decide +kernel) ⟨(Nat.le_of_ble_eq_true rfl), (Nat.le_of_ble_eq_true rfl)⟩) (g_pV hPm hKm hDm (va_recv hKm hPm (ci := 8) (q0 := 0) rfl (wM_at0 _ _ _ _ _ _)) [.int (xs ((0 : Int32) + 1).toNatClampNeg), .int (xs ((0 : Int32) + 2).toNatClampNeg), .int (xs ((0 : Int32) + 3).toNatClampNeg), .int (xs ((0 : Int32) + 4).toNatClampNeg), .int 0]) rfl rfl hl.1 rfl (lv_room (Nat.le_of_ble_eq_true rfl)) dL_law_377 ⟨(Nat.le_of_ble_eq_true rfl), (Nat.le_of_ble_eq_true rfl)⟩) hS hA hDm (fun r2 _ _ _ _ H locs hPm _ hS h2 => ?_)
    refine lv_icmp_eq (tgt := 775) hx hb dL_law_380 (by decide) (fun hc => law_next l C0 H locs ls am ao hS hl) (fun hc => absurd (h1.trans h2.symm) hc)
  · refine lv_if_eq (tgt := 339) hx hb dL_law_332 (by decide) (fun hc => absurd hc hz) (fun hc => ?_)
    refine lv_iconst (v := 1) hx hb dL_law_335 (by decide) ?_
    refine lv_goto (tgt := 340) hx hb dL_law_336 (by decide) ?_
    refine lcalli (va_runV (As := [.int (xs ((0 : Int32) + 1).toNatClampNeg), .int (xs ((0 : Int32) + 2).toNatClampNeg), .int (xs ((0 : Int32) + 3).toNatClampNeg), .int (xs ((0 : Int32) + 4).toNatClampNeg), .int 1]) (rest := []) ⟨hx, hb, hml, hown, hts⟩ (c_X7_report l dC dI ao co 600 0 H.size IO JO SO LO ((xs ((0 : Int32) + 1).toNatClampNeg)) ((xs ((0 : Int32) + 2).toNatClampNeg)) ((xs ((0 : Int32) + 3).toNatClampNeg)) ((xs ((0 : Int32) + 4).toNatClampNeg)) 1 _ (q_X7_report ((xs ((0 : Int32) + 1).toNatClampNeg)) ((xs ((0 : Int32) + 2).toNatClampNeg)) ((xs ((0 : Int32) + 3).toNatClampNeg)) ((xs ((0 : Int32) + 4).toNatClampNeg)) 1)) (cwV 5 hts gL_law_X7_report rfl rfl rfl (by decide +kernel) ⟨(Nat.le_of_ble_eq_true rfl), (Nat.le_of_ble_eq_true rfl)⟩) (g_pV hPo hKo hDo (va_recv hKo hPo (ci := 7) (q0 := 0) rfl (wO_atO _ _ _ _ _ _ _ _)) [.int (xs ((0 : Int32) + 1).toNatClampNeg), .int (xs ((0 : Int32) + 2).toNatClampNeg), .int (xs ((0 : Int32) + 3).toNatClampNeg), .int (xs ((0 : Int32) + 4).toNatClampNeg), .int 1]) rfl rfl hl.1 rfl (lv_room (Nat.le_of_ble_eq_true rfl)) dL_law_340 ⟨(Nat.le_of_ble_eq_true rfl), (Nat.le_of_ble_eq_true rfl)⟩) hS hA hDo hPm hXX (fun r1 _ _ _ _ H locs hPm hS h1 => ?_)
    refine lv_aload_n hx hb dL_law_343 rfl (lv_at hl 1 rfl) ?_
    refine lv_aload_n hx hb dL_law_344 rfl (lv_at hl 3 rfl) ?_
    refine lv_iload_n hx hb dL_law_345 rfl (lv_at hl 0 rfl) ?_
    refine lv_iconst (v := 1) hx hb dL_law_346 (by decide) ?_
    refine lv_iadd hx hb dL_law_347 ?_
    refine va_sld hx hb hX hbl hbA hS (by unfold vp_in; decide) dL_law_348 ?_
    refine lv_aload_n hx hb dL_law_349 rfl (lv_at hl 3 rfl) ?_
    refine lv_iload_n hx hb dL_law_350 rfl (lv_at hl 0 rfl) ?_
    refine lv_iconst (v := 2) hx hb dL_law_351 (by decide) ?_
    refine lv_iadd hx hb dL_law_352 ?_
    refine va_sld hx hb hX hbl hbA hS (by unfold vp_in; decide) dL_law_353 ?_
    refine lv_aload_n hx hb dL_law_354 rfl (lv_at hl 3 rfl) ?_
    refine lv_iload_n hx hb dL_law_355 rfl (lv_at hl 0 rfl) ?_
    refine lv_iconst (v := 3) hx hb dL_law_356 (by decide) ?_
    refine lv_iadd hx hb dL_law_357 ?_
    refine va_sld hx hb hX hbl hbA hS (by unfold vp_in; decide) dL_law_358 ?_
    refine lv_aload_n hx hb dL_law_359 rfl (lv_at hl 3 rfl) ?_
    refine lv_iload_n hx hb dL_law_360 rfl (lv_at hl 0 rfl) ?_
    refine lv_iconst (v := 4) hx hb dL_law_361 (by decide) ?_
    refine lv_iadd hx hb dL_law_362 ?_
    refine va_sld hx hb hX hbl hbA hS (by unfold vp_in; decide) dL_law_363 ?_
    refine lv_aload_n hx hb dL_law_364 rfl (lv_at hl 3 rfl) ?_
    refine lv_iload_n hx hb dL_law_365 rfl (lv_at hl 0 rfl) ?_
    refine lv_iconst (v := 5) hx hb dL_law_366 (by decide) ?_
    refine lv_iadd hx hb dL_law_367 ?_
    refine va_sld hx hb hX hbl hbA hS (by unfold vp_in; decide) dL_law_368 ?_
    refine lv_if_eq (tgt := 376) hx hb dL_law_369 (by decide) (fun hc => absurd hc hz) (fun hc => ?_)
    refine lv_iconst (v := 1) hx hb dL_law_372 (by decide) ?_
    refine lv_goto (tgt := 377) hx hb dL_law_373 (by decide) ?_
    refine gcalli (va_runV (As := [.int (xs ((0 : Int32) + 1).toNatClampNeg), .int (xs ((0 : Int32) + 2).toNatClampNeg), .int (xs ((0 : Int32) + 3).toNatClampNeg), .int (xs ((0 : Int32) + 4).toNatClampNeg), .int 1]) (rest := [.int r1]) ⟨hx, hb, hml, hown, hts⟩ (c_X8_report l dC dI am cm H.size IM JM SM LM ((xs ((0 : Int32) + 1).toNatClampNeg)) ((xs ((0 : Int32) + 2).toNatClampNeg)) ((xs ((0 : Int32) + 3).toNatClampNeg)) ((xs ((0 : Int32) + 4).toNatClampNeg)) 1 _ (q_X8_report ((xs ((0 : Int32) + 1).toNatClampNeg)) ((xs ((0 : Int32) + 2).toNatClampNeg)) ((xs ((0 : Int32) + 3).toNatClampNeg)) ((xs ((0 : Int32) + 4).toNatClampNeg)) 1)) (cwV 5 hts gL_law_X8_report rfl rfl rfl (by decide +kernel) ⟨(Nat.le_of_ble_eq_true rfl), (Nat.le_of_ble_eq_true rfl)⟩) (g_pV hPm hKm hDm (va_recv hKm hPm (ci := 8) (q0 := 0) rfl (wM_at0 _ _ _ _ _ _)) [.int (xs ((0 : Int32) + 1).toNatClampNeg), .int (xs ((0 : Int32) + 2).toNatClampNeg), .int (xs ((0 : Int32) + 3).toNatClampNeg), .int (xs ((0 : Int32) + 4).toNatClampNeg), .int 1]) rfl rfl hl.1 rfl (lv_room (Nat.le_of_ble_eq_true rfl)) dL_law_377 ⟨(Nat.le_of_ble_eq_true rfl), (Nat.le_of_ble_eq_true rfl)⟩) hS hA hDm (fun r2 _ _ _ _ H locs hPm _ hS h2 => ?_)
    refine lv_icmp_eq (tgt := 775) hx hb dL_law_380 (by decide) (fun hc => law_next l C0 H locs ls am ao hS hl) (fun hc => absurd (h1.trans h2.symm) hc)
set_option maxHeartbeats 4000000 in
set_option maxRecDepth 100000 in
theorem law_c3 {p : Program} {e : Env} {s : State} {m : MethodId} {below : List Frame} {meth : Method} {c : Code} (l : Launch) {b : Nat} {xs : Nat → Int32} (C0 : lw_At p s m meth c b 9 xs) (dC : Nat → ClassId) (dI : Nat → Nat → Nat) (ao am : Nat → Nat) (co cm : Nat → ClassId) (hDo : va_D (fun q : Nat => s.heap.size ≤ q) (wO ao co 600 0 IO JO SO LO)) (hDm : va_D (fun q : Nat => s.heap.size ≤ q) (wM am cm IM JM SM LM)) (hXX : ∀ (i j : Nat) (p q : Nat × va_E), (wO ao co 600 0 IO JO SO LO)[i]? = some p → (wM am cm IM JM SM LM)[j]? = some q → p.1 ≠ q.1) (hKo : va_K (dC, dI) vwCl (tyL co) s) (hKm : va_K (dC, dI) vwCl (tyM cm) s) (H : Heap) (locs : List Loc) (ls : Array Slot) (hPo : va_P (dC, dI) vwCl (wO ao co 600 0 IO JO SO LO) H) (hPm : va_P (dC, dI) vwCl (wM am cm IM JM SM LM) H) (hS : va_S (fun q : Nat => s.heap.size ≤ q) s.heap H locs) (hl : lv_has ls 4 [(3, .int 0), (2, .ref (am 0)), (1, .ref (ao 53)), (0, .ref b)]) : W p l e room_1 s m #[Value.ref b] below meth c H locs 300 60000 (lw_Z below #[Value.ref b] s) (F0 m 385 ls []) := by
  obtain ⟨hx, hb, hr, hml, hown, hts0, hX, hbl, hlocks, hgv⟩ := id C0
  have hts := fun w h => hts0 w (wsL_law_in w h)
  have hA : ∀ q : Nat, s.heap.size ≤ q → (fun q : Nat => s.heap.size ≤ q) q := fun _ h => h
  have hbA : ¬ (fun q : Nat => s.heap.size ≤ q) b := Nat.not_le.mpr hbl
  refine lv_aload_n hx hb dL_law_385 rfl (lv_at hl 2 rfl) ?_
  refine lv_aload_n hx hb dL_law_386 rfl (lv_at hl 3 rfl) ?_
  refine lv_iload_n hx hb dL_law_387 rfl (lv_at hl 0 rfl) ?_
  refine lv_iconst (v := 1) hx hb dL_law_388 (by decide) ?_
  refine lv_iadd hx hb dL_law_389 ?_
  refine va_sld hx hb hX hbl hbA hS (by unfold vp_in; decide) dL_law_390 ?_
  refine lcalli (va_runV (As := [.int (xs ((0 : Int32) + 1).toNatClampNeg)]) (rest := []) ⟨hx, hb, hml, hown, hts⟩ (c_X7_tear l dC dI ao co 600 0 H.size IO JO SO LO ((xs ((0 : Int32) + 1).toNatClampNeg)) _ (q_X7_tear ((xs ((0 : Int32) + 1).toNatClampNeg)))) (cwV 1 hts gL_law_X7_tear rfl rfl rfl (by decide +kernel) ⟨(Nat.le_of_ble_eq_true rfl), (Nat.le_of_ble_eq_true rfl)⟩) (g_pV hPo hKo hDo (va_recv hKo hPo (ci := 7) (q0 := 0) rfl (wO_atO _ _ _ _ _ _ _ _)) [.int (xs ((0 : Int32) + 1).toNatClampNeg)]) rfl rfl hl.1 rfl (lv_room (Nat.le_of_ble_eq_true rfl)) dL_law_391 ⟨(Nat.le_of_ble_eq_true rfl), (Nat.le_of_ble_eq_true rfl)⟩) hS hA hDo hPm hXX (fun r1 _ _ _ _ H locs hPm hS h1 => ?_)
  refine lv_aload_n hx hb dL_law_394 rfl (lv_at hl 1 rfl) ?_
  refine lv_aload_n hx hb dL_law_395 rfl (lv_at hl 3 rfl) ?_
  refine lv_iload_n hx hb dL_law_396 rfl (lv_at hl 0 rfl) ?_
  refine lv_iconst (v := 1) hx hb dL_law_397 (by decide) ?_
  refine lv_iadd hx hb dL_law_398 ?_
  refine va_sld hx hb hX hbl hbA hS (by unfold vp_in; decide) dL_law_399 ?_
  refine gcalli (va_runV (As := [.int (xs ((0 : Int32) + 1).toNatClampNeg)]) (rest := [.int r1]) ⟨hx, hb, hml, hown, hts⟩ (c_X8_tear l dC dI am cm H.size IM JM SM LM ((xs ((0 : Int32) + 1).toNatClampNeg)) _ (q_X8_tear ((xs ((0 : Int32) + 1).toNatClampNeg)))) (cwV 1 hts gL_law_X8_tear rfl rfl rfl (by decide +kernel) ⟨(Nat.le_of_ble_eq_true rfl), (Nat.le_of_ble_eq_true rfl)⟩) (g_pV hPm hKm hDm (va_recv hKm hPm (ci := 8) (q0 := 0) rfl (wM_at0 _ _ _ _ _ _)) [.int (xs ((0 : Int32) + 1).toNatClampNeg)]) rfl rfl hl.1 rfl (lv_room (Nat.le_of_ble_eq_true rfl)) dL_law_400 ⟨(Nat.le_of_ble_eq_true rfl), (Nat.le_of_ble_eq_true rfl)⟩) hS hA hDm (fun r2 _ _ _ _ H locs hPm _ hS h2 => ?_)
  refine lv_icmp_eq (tgt := 775) hx hb dL_law_403 (by decide) (fun hc => law_next l C0 H locs ls am ao hS hl) (fun hc => absurd (h1.trans h2.symm) hc)
set_option maxHeartbeats 4000000 in
set_option maxRecDepth 100000 in
theorem law_c4 {p : Program} {e : Env} {s : State} {m : MethodId} {below : List Frame} {meth : Method} {c : Code} (l : Launch) {b : Nat} {xs : Nat → Int32} (C0 : lw_At p s m meth c b 9 xs) (dC : Nat → ClassId) (dI : Nat → Nat → Nat) (ao am : Nat → Nat) (co cm : Nat → ClassId) (hDo : va_D (fun q : Nat => s.heap.size ≤ q) (wO ao co 600 0 IO JO SO LO)) (hDm : va_D (fun q : Nat => s.heap.size ≤ q) (wM am cm IM JM SM LM)) (hXX : ∀ (i j : Nat) (p q : Nat × va_E), (wO ao co 600 0 IO JO SO LO)[i]? = some p → (wM am cm IM JM SM LM)[j]? = some q → p.1 ≠ q.1) (hKo : va_K (dC, dI) vwCl (tyL co) s) (hKm : va_K (dC, dI) vwCl (tyM cm) s) (H : Heap) (locs : List Loc) (ls : Array Slot) (hPo : va_P (dC, dI) vwCl (wO ao co 600 0 IO JO SO LO) H) (hPm : va_P (dC, dI) vwCl (wM am cm IM JM SM LM) H) (hS : va_S (fun q : Nat => s.heap.size ≤ q) s.heap H locs) (hl : lv_has ls 4 [(3, .int 0), (2, .ref (am 0)), (1, .ref (ao 53)), (0, .ref b)]) : W p l e room_1 s m #[Value.ref b] below meth c H locs 300 60000 (lw_Z below #[Value.ref b] s) (F0 m 408 ls []) := by
  obtain ⟨hx, hb, hr, hml, hown, hts0, hX, hbl, hlocks, hgv⟩ := id C0
  have hts := fun w h => hts0 w (wsL_law_in w h)
  have hA : ∀ q : Nat, s.heap.size ≤ q → (fun q : Nat => s.heap.size ≤ q) q := fun _ h => h
  have hbA : ¬ (fun q : Nat => s.heap.size ≤ q) b := Nat.not_le.mpr hbl
  refine lv_aload_n hx hb dL_law_408 rfl (lv_at hl 2 rfl) ?_
  refine lv_aload_n hx hb dL_law_409 rfl (lv_at hl 3 rfl) ?_
  refine lv_iload_n hx hb dL_law_410 rfl (lv_at hl 0 rfl) ?_
  refine lv_iconst (v := 1) hx hb dL_law_411 (by decide) ?_
  refine lv_iadd hx hb dL_law_412 ?_
  refine va_sld hx hb hX hbl hbA hS (by unfold vp_in; decide) dL_law_413 ?_
  refine lv_aload_n hx hb dL_law_414 rfl (lv_at hl 3 rfl) ?_
  refine lv_iload_n hx hb dL_law_415 rfl (lv_at hl 0 rfl) ?_
  refine lv_iconst (v := 2) hx hb dL_law_416 (by decide) ?_
  refine lv_iadd hx hb dL_law_417 ?_
  refine va_sld hx hb hX hbl hbA hS (by unfold vp_in; decide) dL_law_418 ?_
  refine lcalll (va_runV (As := [.int (xs ((0 : Int32) + 1).toNatClampNeg), .int (xs ((0 : Int32) + 2).toNatClampNeg)]) (rest := []) ⟨hx, hb, hml, hown, hts⟩ (c_X7_sent l dC dI ao co 600 0 H.size IO JO SO LO ((xs ((0 : Int32) + 1).toNatClampNeg)) ((xs ((0 : Int32) + 2).toNatClampNeg)) _ (q_X7_sent ((xs ((0 : Int32) + 1).toNatClampNeg)) ((xs ((0 : Int32) + 2).toNatClampNeg)))) (cwV 2 hts gL_law_X7_sent rfl rfl rfl (by decide +kernel) ⟨(Nat.le_of_ble_eq_true rfl), (Nat.le_of_ble_eq_true rfl)⟩) (g_pV hPo hKo hDo (va_recv hKo hPo (ci := 7) (q0 := 0) rfl (wO_atO _ _ _ _ _ _ _ _)) [.int (xs ((0 : Int32) + 1).toNatClampNeg), .int (xs ((0 : Int32) + 2).toNatClampNeg)]) rfl rfl hl.1 rfl (lv_room (Nat.le_of_ble_eq_true rfl)) dL_law_419 ⟨(Nat.le_of_ble_eq_true rfl), (Nat.le_of_ble_eq_true rfl)⟩) hS hA hDo hPm hXX (fun r1 _ _ _ _ H locs hPm hS h1 => ?_)
  refine lv_aload_n hx hb dL_law_422 rfl (lv_at hl 1 rfl) ?_
  refine lv_aload_n hx hb dL_law_423 rfl (lv_at hl 3 rfl) ?_
  refine lv_iload_n hx hb dL_law_424 rfl (lv_at hl 0 rfl) ?_
  refine lv_iconst (v := 1) hx hb dL_law_425 (by decide) ?_
  refine lv_iadd hx hb dL_law_426 ?_
  refine va_sld hx hb hX hbl hbA hS (by unfold vp_in; decide) dL_law_427 ?_
  refine lv_aload_n hx hb dL_law_428 rfl (lv_at hl 3 rfl) ?_
  refine lv_iload_n hx hb dL_law_429 rfl (lv_at hl 0 rfl) ?_
  refine lv_iconst (v := 2) hx hb dL_law_430 (by decide) ?_
  refine lv_iadd hx hb dL_law_431 ?_
  refine va_sld hx hb hX hbl hbA hS (by unfold vp_in; decide) dL_law_432 ?_
  refine gcalll (va_runV (As := [.int (xs ((0 : Int32) + 1).toNatClampNeg), .int (xs ((0 : Int32) + 2).toNatClampNeg)]) (rest := [.long r1]) ⟨hx, hb, hml, hown, hts⟩ (c_X8_sent l dC dI am cm H.size IM JM SM LM ((xs ((0 : Int32) + 1).toNatClampNeg)) ((xs ((0 : Int32) + 2).toNatClampNeg)) _ (q_X8_sent ((xs ((0 : Int32) + 1).toNatClampNeg)) ((xs ((0 : Int32) + 2).toNatClampNeg)))) (cwV 2 hts gL_law_X8_sent rfl rfl rfl (by decide +kernel) ⟨(Nat.le_of_ble_eq_true rfl), (Nat.le_of_ble_eq_true rfl)⟩) (g_pV hPm hKm hDm (va_recv hKm hPm (ci := 8) (q0 := 0) rfl (wM_at0 _ _ _ _ _ _)) [.int (xs ((0 : Int32) + 1).toNatClampNeg), .int (xs ((0 : Int32) + 2).toNatClampNeg)]) rfl rfl hl.1 rfl (lv_room (Nat.le_of_ble_eq_true rfl)) dL_law_433 ⟨(Nat.le_of_ble_eq_true rfl), (Nat.le_of_ble_eq_true rfl)⟩) hS hA hDm (fun r2 _ _ _ _ H locs hPm _ hS h2 => ?_)
  refine W.lcmp hx hb dL_law_436 ?_
  refine lv_if_eq (tgt := 775) hx hb dL_law_437 (by decide) (fun hc => law_next l C0 H locs ls am ao hS hl) (fun hc => absurd (by rw [h1.trans h2.symm]; exact lg_same _) hc)
set_option maxHeartbeats 4000000 in
set_option maxRecDepth 100000 in
theorem law_c5 {p : Program} {e : Env} {s : State} {m : MethodId} {below : List Frame} {meth : Method} {c : Code} (l : Launch) {b : Nat} {xs : Nat → Int32} (C0 : lw_At p s m meth c b 9 xs) (dC : Nat → ClassId) (dI : Nat → Nat → Nat) (ao am : Nat → Nat) (co cm : Nat → ClassId) (hDo : va_D (fun q : Nat => s.heap.size ≤ q) (wO ao co 600 0 IO JO SO LO)) (hDm : va_D (fun q : Nat => s.heap.size ≤ q) (wM am cm IM JM SM LM)) (hXX : ∀ (i j : Nat) (p q : Nat × va_E), (wO ao co 600 0 IO JO SO LO)[i]? = some p → (wM am cm IM JM SM LM)[j]? = some q → p.1 ≠ q.1) (hKo : va_K (dC, dI) vwCl (tyL co) s) (hKm : va_K (dC, dI) vwCl (tyM cm) s) (H : Heap) (locs : List Loc) (ls : Array Slot) (hPo : va_P (dC, dI) vwCl (wO ao co 600 0 IO JO SO LO) H) (hPm : va_P (dC, dI) vwCl (wM am cm IM JM SM LM) H) (hS : va_S (fun q : Nat => s.heap.size ≤ q) s.heap H locs) (hl : lv_has ls 4 [(3, .int 0), (2, .ref (am 0)), (1, .ref (ao 53)), (0, .ref b)]) : W p l e room_1 s m #[Value.ref b] below meth c H locs 300 60000 (lw_Z below #[Value.ref b] s) (F0 m 442 ls []) := by
  obtain ⟨hx, hb, hr, hml, hown, hts0, hX, hbl, hlocks, hgv⟩ := id C0
  have hts := fun w h => hts0 w (wsL_law_in w h)
  have hA : ∀ q : Nat, s.heap.size ≤ q → (fun q : Nat => s.heap.size ≤ q) q := fun _ h => h
  have hbA : ¬ (fun q : Nat => s.heap.size ≤ q) b := Nat.not_le.mpr hbl
  refine lv_aload_n hx hb dL_law_442 rfl (lv_at hl 2 rfl) ?_
  refine lcalli (va_runV (As := []) (rest := []) ⟨hx, hb, hml, hown, hts⟩ (c_X7_close l dC dI ao co 600 0 H.size IO JO SO LO  _ (q_X7_close )) (cwV 0 hts gL_law_X7_close rfl rfl rfl (by decide +kernel) ⟨(Nat.le_of_ble_eq_true rfl), (Nat.le_of_ble_eq_true rfl)⟩) (g_pV hPo hKo hDo (va_recv hKo hPo (ci := 7) (q0 := 0) rfl (wO_atO _ _ _ _ _ _ _ _)) []) rfl rfl hl.1 rfl (lv_room (Nat.le_of_ble_eq_true rfl)) dL_law_443 ⟨(Nat.le_of_ble_eq_true rfl), (Nat.le_of_ble_eq_true rfl)⟩) hS hA hDo hPm hXX (fun r1 _ _ _ _ H locs hPm hS h1 => ?_)
  refine lv_aload_n hx hb dL_law_446 rfl (lv_at hl 1 rfl) ?_
  refine gcalli (va_runV (As := []) (rest := [.int r1]) ⟨hx, hb, hml, hown, hts⟩ (c_X8_close l dC dI am cm H.size IM JM SM LM  _ (q_X8_close )) (cwV 0 hts gL_law_X8_close rfl rfl rfl (by decide +kernel) ⟨(Nat.le_of_ble_eq_true rfl), (Nat.le_of_ble_eq_true rfl)⟩) (g_pV hPm hKm hDm (va_recv hKm hPm (ci := 8) (q0 := 0) rfl (wM_at0 _ _ _ _ _ _)) []) rfl rfl hl.1 rfl (lv_room (Nat.le_of_ble_eq_true rfl)) dL_law_447 ⟨(Nat.le_of_ble_eq_true rfl), (Nat.le_of_ble_eq_true rfl)⟩) hS hA hDm (fun r2 _ _ _ _ H locs hPm _ hS h2 => ?_)
  refine lv_icmp_eq (tgt := 775) hx hb dL_law_450 (by decide) (fun hc => law_next l C0 H locs ls am ao hS hl) (fun hc => absurd (h1.trans h2.symm) hc)
set_option maxHeartbeats 4000000 in
set_option maxRecDepth 100000 in
theorem law_c6 {p : Program} {e : Env} {s : State} {m : MethodId} {below : List Frame} {meth : Method} {c : Code} (l : Launch) {b : Nat} {xs : Nat → Int32} (C0 : lw_At p s m meth c b 9 xs) (dC : Nat → ClassId) (dI : Nat → Nat → Nat) (ao am : Nat → Nat) (co cm : Nat → ClassId) (hDo : va_D (fun q : Nat => s.heap.size ≤ q) (wO ao co 600 0 IO JO SO LO)) (hDm : va_D (fun q : Nat => s.heap.size ≤ q) (wM am cm IM JM SM LM)) (hXX : ∀ (i j : Nat) (p q : Nat × va_E), (wO ao co 600 0 IO JO SO LO)[i]? = some p → (wM am cm IM JM SM LM)[j]? = some q → p.1 ≠ q.1) (hKo : va_K (dC, dI) vwCl (tyL co) s) (hKm : va_K (dC, dI) vwCl (tyM cm) s) (H : Heap) (locs : List Loc) (ls : Array Slot) (hPo : va_P (dC, dI) vwCl (wO ao co 600 0 IO JO SO LO) H) (hPm : va_P (dC, dI) vwCl (wM am cm IM JM SM LM) H) (hS : va_S (fun q : Nat => s.heap.size ≤ q) s.heap H locs) (hl : lv_has ls 4 [(3, .int 0), (2, .ref (am 0)), (1, .ref (ao 53)), (0, .ref b)]) : W p l e room_1 s m #[Value.ref b] below meth c H locs 300 60000 (lw_Z below #[Value.ref b] s) (F0 m 455 ls []) := by
  obtain ⟨hx, hb, hr, hml, hown, hts0, hX, hbl, hlocks, hgv⟩ := id C0
  have hts := fun w h => hts0 w (wsL_law_in w h)
  have hA : ∀ q : Nat, s.heap.size ≤ q → (fun q : Nat => s.heap.size ≤ q) q := fun _ h => h
  have hbA : ¬ (fun q : Nat => s.heap.size ≤ q) b := Nat.not_le.mpr hbl
  refine lv_aload_n hx hb dL_law_455 rfl (lv_at hl 2 rfl) ?_
  refine lv_aload_n hx hb dL_law_456 rfl (lv_at hl 3 rfl) ?_
  refine lv_iload_n hx hb dL_law_457 rfl (lv_at hl 0 rfl) ?_
  refine lv_iconst (v := 1) hx hb dL_law_458 (by decide) ?_
  refine lv_iadd hx hb dL_law_459 ?_
  refine va_sld hx hb hX hbl hbA hS (by unfold vp_in; decide) dL_law_460 ?_
  refine lv_aload_n hx hb dL_law_461 rfl (lv_at hl 3 rfl) ?_
  refine lv_iload_n hx hb dL_law_462 rfl (lv_at hl 0 rfl) ?_
  refine lv_iconst (v := 2) hx hb dL_law_463 (by decide) ?_
  refine lv_iadd hx hb dL_law_464 ?_
  refine va_sld hx hb hX hbl hbA hS (by unfold vp_in; decide) dL_law_465 ?_
  refine lcalli (va_runV (As := [.int (xs ((0 : Int32) + 1).toNatClampNeg), .int (xs ((0 : Int32) + 2).toNatClampNeg)]) (rest := []) ⟨hx, hb, hml, hown, hts⟩ (c_X7_due l dC dI ao co 600 0 H.size IO JO SO LO ((xs ((0 : Int32) + 1).toNatClampNeg)) ((xs ((0 : Int32) + 2).toNatClampNeg)) _ (q_X7_due ((xs ((0 : Int32) + 1).toNatClampNeg)) ((xs ((0 : Int32) + 2).toNatClampNeg)))) (cwV 2 hts gL_law_X7_due rfl rfl rfl (by decide +kernel) ⟨(Nat.le_of_ble_eq_true rfl), (Nat.le_of_ble_eq_true rfl)⟩) (g_pV hPo hKo hDo (va_recv hKo hPo (ci := 7) (q0 := 0) rfl (wO_atO _ _ _ _ _ _ _ _)) [.int (xs ((0 : Int32) + 1).toNatClampNeg), .int (xs ((0 : Int32) + 2).toNatClampNeg)]) rfl rfl hl.1 rfl (lv_room (Nat.le_of_ble_eq_true rfl)) dL_law_466 ⟨(Nat.le_of_ble_eq_true rfl), (Nat.le_of_ble_eq_true rfl)⟩) hS hA hDo hPm hXX (fun r1 _ _ _ _ H locs hPm hS h1 => ?_)
  refine lv_aload_n hx hb dL_law_469 rfl (lv_at hl 1 rfl) ?_
  refine lv_aload_n hx hb dL_law_470 rfl (lv_at hl 3 rfl) ?_
  refine lv_iload_n hx hb dL_law_471 rfl (lv_at hl 0 rfl) ?_
  refine lv_iconst (v := 1) hx hb dL_law_472 (by decide) ?_
  refine lv_iadd hx hb dL_law_473 ?_
  refine va_sld hx hb hX hbl hbA hS (by unfold vp_in; decide) dL_law_474 ?_
  refine lv_aload_n hx hb dL_law_475 rfl (lv_at hl 3 rfl) ?_
  refine lv_iload_n hx hb dL_law_476 rfl (lv_at hl 0 rfl) ?_
  refine lv_iconst (v := 2) hx hb dL_law_477 (by decide) ?_
  refine lv_iadd hx hb dL_law_478 ?_
  refine va_sld hx hb hX hbl hbA hS (by unfold vp_in; decide) dL_law_479 ?_
  refine gcalli (va_runV (As := [.int (xs ((0 : Int32) + 1).toNatClampNeg), .int (xs ((0 : Int32) + 2).toNatClampNeg)]) (rest := [.int r1]) ⟨hx, hb, hml, hown, hts⟩ (c_X8_due l dC dI am cm H.size IM JM SM LM ((xs ((0 : Int32) + 1).toNatClampNeg)) ((xs ((0 : Int32) + 2).toNatClampNeg)) _ (q_X8_due ((xs ((0 : Int32) + 1).toNatClampNeg)) ((xs ((0 : Int32) + 2).toNatClampNeg)))) (cwV 2 hts gL_law_X8_due rfl rfl rfl (by decide +kernel) ⟨(Nat.le_of_ble_eq_true rfl), (Nat.le_of_ble_eq_true rfl)⟩) (g_pV hPm hKm hDm (va_recv hKm hPm (ci := 8) (q0 := 0) rfl (wM_at0 _ _ _ _ _ _)) [.int (xs ((0 : Int32) + 1).toNatClampNeg), .int (xs ((0 : Int32) + 2).toNatClampNeg)]) rfl rfl hl.1 rfl (lv_room (Nat.le_of_ble_eq_true rfl)) dL_law_480 ⟨(Nat.le_of_ble_eq_true rfl), (Nat.le_of_ble_eq_true rfl)⟩) hS hA hDm (fun r2 _ _ _ _ H locs hPm _ hS h2 => ?_)
  refine lv_icmp_eq (tgt := 775) hx hb dL_law_483 (by decide) (fun hc => law_next l C0 H locs ls am ao hS hl) (fun hc => absurd (h1.trans h2.symm) hc)
set_option maxHeartbeats 4000000 in
set_option maxRecDepth 100000 in
theorem law_c7 {p : Program} {e : Env} {s : State} {m : MethodId} {below : List Frame} {meth : Method} {c : Code} (l : Launch) {b : Nat} {xs : Nat → Int32} (C0 : lw_At p s m meth c b 9 xs) (dC : Nat → ClassId) (dI : Nat → Nat → Nat) (ao am : Nat → Nat) (co cm : Nat → ClassId) (hDo : va_D (fun q : Nat => s.heap.size ≤ q) (wO ao co 600 0 IO JO SO LO)) (hDm : va_D (fun q : Nat => s.heap.size ≤ q) (wM am cm IM JM SM LM)) (hXX : ∀ (i j : Nat) (p q : Nat × va_E), (wO ao co 600 0 IO JO SO LO)[i]? = some p → (wM am cm IM JM SM LM)[j]? = some q → p.1 ≠ q.1) (hKo : va_K (dC, dI) vwCl (tyL co) s) (hKm : va_K (dC, dI) vwCl (tyM cm) s) (H : Heap) (locs : List Loc) (ls : Array Slot) (hPo : va_P (dC, dI) vwCl (wO ao co 600 0 IO JO SO LO) H) (hPm : va_P (dC, dI) vwCl (wM am cm IM JM SM LM) H) (hS : va_S (fun q : Nat => s.heap.size ≤ q) s.heap H locs) (hl : lv_has ls 4 [(3, .int 0), (2, .ref (am 0)), (1, .ref (ao 53)), (0, .ref b)]) : W p l e room_1 s m #[Value.ref b] below meth c H locs 300 60000 (lw_Z below #[Value.ref b] s) (F0 m 488 ls []) := by
  obtain ⟨hx, hb, hr, hml, hown, hts0, hX, hbl, hlocks, hgv⟩ := id C0
  have hts := fun w h => hts0 w (wsL_law_in w h)
  have hA : ∀ q : Nat, s.heap.size ≤ q → (fun q : Nat => s.heap.size ≤ q) q := fun _ h => h
  have hbA : ¬ (fun q : Nat => s.heap.size ≤ q) b := Nat.not_le.mpr hbl
  refine lv_aload_n hx hb dL_law_488 rfl (lv_at hl 2 rfl) ?_
  refine lv_aload_n hx hb dL_law_489 rfl (lv_at hl 3 rfl) ?_
  refine lv_iload_n hx hb dL_law_490 rfl (lv_at hl 0 rfl) ?_
  refine lv_iconst (v := 1) hx hb dL_law_491 (by decide) ?_
  refine lv_iadd hx hb dL_law_492 ?_
  refine va_sld hx hb hX hbl hbA hS (by unfold vp_in; decide) dL_law_493 ?_
  refine lv_aload_n hx hb dL_law_494 rfl (lv_at hl 3 rfl) ?_
  refine lv_iload_n hx hb dL_law_495 rfl (lv_at hl 0 rfl) ?_
  refine lv_iconst (v := 2) hx hb dL_law_496 (by decide) ?_
  refine lv_iadd hx hb dL_law_497 ?_
  refine va_sld hx hb hX hbl hbA hS (by unfold vp_in; decide) dL_law_498 ?_
  refine lcalll (va_runV (As := [.int (xs ((0 : Int32) + 1).toNatClampNeg), .int (xs ((0 : Int32) + 2).toNatClampNeg)]) (rest := []) ⟨hx, hb, hml, hown, hts⟩ (c_X7_hand l dC dI ao co 600 0 H.size IO JO SO LO ((xs ((0 : Int32) + 1).toNatClampNeg)) ((xs ((0 : Int32) + 2).toNatClampNeg)) _ (q_X7_hand ((xs ((0 : Int32) + 1).toNatClampNeg)) ((xs ((0 : Int32) + 2).toNatClampNeg)))) (cwV 2 hts gL_law_X7_hand rfl rfl rfl (by decide +kernel) ⟨(Nat.le_of_ble_eq_true rfl), (Nat.le_of_ble_eq_true rfl)⟩) (g_pV hPo hKo hDo (va_recv hKo hPo (ci := 7) (q0 := 0) rfl (wO_atO _ _ _ _ _ _ _ _)) [.int (xs ((0 : Int32) + 1).toNatClampNeg), .int (xs ((0 : Int32) + 2).toNatClampNeg)]) rfl rfl hl.1 rfl (lv_room (Nat.le_of_ble_eq_true rfl)) dL_law_499 ⟨(Nat.le_of_ble_eq_true rfl), (Nat.le_of_ble_eq_true rfl)⟩) hS hA hDo hPm hXX (fun r1 _ _ _ _ H locs hPm hS h1 => ?_)
  refine lv_aload_n hx hb dL_law_502 rfl (lv_at hl 1 rfl) ?_
  refine lv_aload_n hx hb dL_law_503 rfl (lv_at hl 3 rfl) ?_
  refine lv_iload_n hx hb dL_law_504 rfl (lv_at hl 0 rfl) ?_
  refine lv_iconst (v := 1) hx hb dL_law_505 (by decide) ?_
  refine lv_iadd hx hb dL_law_506 ?_
  refine va_sld hx hb hX hbl hbA hS (by unfold vp_in; decide) dL_law_507 ?_
  refine lv_aload_n hx hb dL_law_508 rfl (lv_at hl 3 rfl) ?_
  refine lv_iload_n hx hb dL_law_509 rfl (lv_at hl 0 rfl) ?_
  refine lv_iconst (v := 2) hx hb dL_law_510 (by decide) ?_
  refine lv_iadd hx hb dL_law_511 ?_
  refine va_sld hx hb hX hbl hbA hS (by unfold vp_in; decide) dL_law_512 ?_
  refine gcalll (va_runV (As := [.int (xs ((0 : Int32) + 1).toNatClampNeg), .int (xs ((0 : Int32) + 2).toNatClampNeg)]) (rest := [.long r1]) ⟨hx, hb, hml, hown, hts⟩ (c_X8_hand l dC dI am cm H.size IM JM SM LM ((xs ((0 : Int32) + 1).toNatClampNeg)) ((xs ((0 : Int32) + 2).toNatClampNeg)) _ (q_X8_hand ((xs ((0 : Int32) + 1).toNatClampNeg)) ((xs ((0 : Int32) + 2).toNatClampNeg)))) (cwV 2 hts gL_law_X8_hand rfl rfl rfl (by decide +kernel) ⟨(Nat.le_of_ble_eq_true rfl), (Nat.le_of_ble_eq_true rfl)⟩) (g_pV hPm hKm hDm (va_recv hKm hPm (ci := 8) (q0 := 0) rfl (wM_at0 _ _ _ _ _ _)) [.int (xs ((0 : Int32) + 1).toNatClampNeg), .int (xs ((0 : Int32) + 2).toNatClampNeg)]) rfl rfl hl.1 rfl (lv_room (Nat.le_of_ble_eq_true rfl)) dL_law_513 ⟨(Nat.le_of_ble_eq_true rfl), (Nat.le_of_ble_eq_true rfl)⟩) hS hA hDm (fun r2 _ _ _ _ H locs hPm _ hS h2 => ?_)
  refine W.lcmp hx hb dL_law_516 ?_
  refine lv_if_eq (tgt := 775) hx hb dL_law_517 (by decide) (fun hc => law_next l C0 H locs ls am ao hS hl) (fun hc => absurd (by rw [h1.trans h2.symm]; exact lg_same _) hc)
