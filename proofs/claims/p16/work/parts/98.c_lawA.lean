set_option maxHeartbeats 4000000 in
set_option maxRecDepth 100000 in
theorem law_c0 {p : Program} {e : Env} {s : State} {m : MethodId} {below : List Frame} {meth : Method} {c : Code} (l : Launch) {b L : Nat} {xs : Nat → Int32} (C0 : lw_At p s m meth c b L xs) (hL : L ≤ 4608) (dC : Nat → ClassId) (dI : Nat → Nat → Nat) (ao am : Nat → Nat) (co cm : Nat → ClassId) (hKo : va_K (dC, dI) vwCl (tyL co) s) (hKm : va_K (dC, dI) vwCl (tyM cm) s) (hN : gN s) {k : Nat} (hk : k + 9 ≤ L) (ls : Array Slot) (hl : lv_has ls 4 [(3, .int (nI (k))), (2, .ref (am 0)), (1, .ref (ao 53)), (0, .ref b)]) (K : ∀ (Io : TI) (Jo : TJ) (So : TS) (Lo : TL) (Im : TI) (Jm : TJ) (Sm : TS) (Lm : TL) (H : Heap) (locs : List Loc), RR Io Jo So Lo Im Jm Sm Lm → va_D (fun q : Nat => s.heap.size ≤ q) (wO ao co 600 0 Io Jo So Lo) → va_D (fun q : Nat => s.heap.size ≤ q) (wM am cm Im Jm Sm Lm) → Dis (wO ao co 600 0 Io Jo So Lo) (wM am cm Im Jm Sm Lm) → va_P (dC, dI) vwCl (wO ao co 600 0 Io Jo So Lo) H → va_P (dC, dI) vwCl (wM am cm Im Jm Sm Lm) H → va_S (fun q : Nat => s.heap.size ≤ q) s.heap H locs → W p l e room_1 s m #[Value.ref b] below meth c H locs 300 60000 (lw_Z below #[Value.ref b] s) (F0 m 770 ls [])) (Io : TI) (Jo : TJ) (So : TS) (Lo : TL) (Im : TI) (Jm : TJ) (Sm : TS) (Lm : TL) (H : Heap) (locs : List Loc) (hR : RR Io Jo So Lo Im Jm Sm Lm) (hDo : va_D (fun q : Nat => s.heap.size ≤ q) (wO ao co 600 0 Io Jo So Lo)) (hDm : va_D (fun q : Nat => s.heap.size ≤ q) (wM am cm Im Jm Sm Lm)) (hXX : Dis (wO ao co 600 0 Io Jo So Lo) (wM am cm Im Jm Sm Lm)) (hPo : va_P (dC, dI) vwCl (wO ao co 600 0 Io Jo So Lo) H) (hPm : va_P (dC, dI) vwCl (wM am cm Im Jm Sm Lm) H) (hS : va_S (fun q : Nat => s.heap.size ≤ q) s.heap H locs) : W p l e room_1 s m #[Value.ref b] below meth c H locs 300 60000 (lw_Z below #[Value.ref b] s) (F0 m 108 ls []) := by
  obtain ⟨hx, hb, hr, hml, hown, hts0, hX, hbl, hlocks, hgv⟩ := id C0
  have hts := fun w h => hts0 w (wsL_law_in w h)
  have hA : ∀ q : Nat, s.heap.size ≤ q → (fun q : Nat => s.heap.size ≤ q) q := fun _ h => h
  have hbA : ¬ (fun q : Nat => s.heap.size ≤ q) b := Nat.not_le.mpr hbl
  obtain ⟨cc, b9, q9, Z9, hR⟩ := hR
  refine lv_aload_n hx hb dL_law_108 rfl (lv_at hl 2 rfl) ?_
  refine lv_aload_n hx hb dL_law_109 rfl (lv_at hl 3 rfl) ?_
  refine lv_iload_n hx hb dL_law_110 rfl (lv_at hl 0 rfl) ?_
  refine lv_iconst (v := 1) hx hb dL_law_111 (by decide) ?_
  refine lv_iadd hx hb dL_law_112 ?_
  refine va_sld hx hb hX hbl hbA hS (sc_in1 hk hL) dL_law_113 ?_
  refine lv_aload_n hx hb dL_law_114 rfl (lv_at hl 3 rfl) ?_
  refine lv_iload_n hx hb dL_law_115 rfl (lv_at hl 0 rfl) ?_
  refine lv_iconst (v := 2) hx hb dL_law_116 (by decide) ?_
  refine lv_iadd hx hb dL_law_117 ?_
  refine va_sld hx hb hX hbl hbA hS (sc_in2 hk hL) dL_law_118 ?_
  refine lv_aload_n hx hb dL_law_119 rfl (lv_at hl 3 rfl) ?_
  refine lv_iload_n hx hb dL_law_120 rfl (lv_at hl 0 rfl) ?_
  refine lv_iconst (v := 3) hx hb dL_law_121 (by decide) ?_
  refine lv_iadd hx hb dL_law_122 ?_
  refine va_sld hx hb hX hbl hbA hS (sc_in3 hk hL) dL_law_123 ?_
  refine lv_aload_n hx hb dL_law_124 rfl (lv_at hl 3 rfl) ?_
  refine lv_iload_n hx hb dL_law_125 rfl (lv_at hl 0 rfl) ?_
  refine lv_iconst (v := 4) hx hb dL_law_126 (by decide) ?_
  refine lv_iadd hx hb dL_law_127 ?_
  refine va_sld hx hb hX hbl hbA hS (sc_in4 hk hL) dL_law_128 ?_
  refine lv_aload_n hx hb dL_law_129 rfl (lv_at hl 3 rfl) ?_
  refine lv_iload_n hx hb dL_law_130 rfl (lv_at hl 0 rfl) ?_
  refine lv_iconst (v := 5) hx hb dL_law_131 (by decide) ?_
  refine lv_iadd hx hb dL_law_132 ?_
  refine va_sld hx hb hX hbl hbA hS (sc_in5 hk hL) dL_law_133 ?_
  refine lv_aload_n hx hb dL_law_134 rfl (lv_at hl 3 rfl) ?_
  refine lv_iload_n hx hb dL_law_135 rfl (lv_at hl 0 rfl) ?_
  refine lv_bipush (v := 6) hx hb dL_law_136 (by decide) ?_
  refine lv_iadd hx hb dL_law_138 ?_
  refine va_sld hx hb hX hbl hbA hS (sc_in6 hk hL) dL_law_139 ?_
  refine lv_aload_n hx hb dL_law_140 rfl (lv_at hl 3 rfl) ?_
  refine lv_iload_n hx hb dL_law_141 rfl (lv_at hl 0 rfl) ?_
  refine lv_bipush (v := 7) hx hb dL_law_142 (by decide) ?_
  refine lv_iadd hx hb dL_law_144 ?_
  refine va_sld hx hb hX hbl hbA hS (sc_in7 hk hL) dL_law_145 ?_
  refine lv_aload_n hx hb dL_law_146 rfl (lv_at hl 3 rfl) ?_
  refine lv_iload_n hx hb dL_law_147 rfl (lv_at hl 0 rfl) ?_
  refine lv_bipush (v := 8) hx hb dL_law_148 (by decide) ?_
  refine lv_iadd hx hb dL_law_150 ?_
  refine va_sld hx hb hX hbl hbA hS (sc_in8 hk hL) dL_law_151 ?_
  refine xcalli (va_runV (As := [.int (xs (nI k + 1).toNatClampNeg), .int (xs (nI k + 2).toNatClampNeg), .int (xs (nI k + 3).toNatClampNeg), .int (xs (nI k + 4).toNatClampNeg), .int (xs (nI k + 5).toNatClampNeg), .int (xs (nI k + 6).toNatClampNeg), .int (xs (nI k + 7).toNatClampNeg), .int (xs (nI k + 8).toNatClampNeg)]) (rest := []) ⟨hx, hb, hml, hown, hts⟩ (c_X7_share l dC dI ao co 600 0 H.size Io Jo So Lo ((xs (nI k + 1).toNatClampNeg)) ((xs (nI k + 2).toNatClampNeg)) ((xs (nI k + 3).toNatClampNeg)) ((xs (nI k + 4).toNatClampNeg)) ((xs (nI k + 5).toNatClampNeg)) ((xs (nI k + 6).toNatClampNeg)) ((xs (nI k + 7).toNatClampNeg)) ((xs (nI k + 8).toNatClampNeg)) _ (u_X7_share ((xs (nI k + 1).toNatClampNeg)) ((xs (nI k + 2).toNatClampNeg)) ((xs (nI k + 3).toNatClampNeg)) ((xs (nI k + 4).toNatClampNeg)) ((xs (nI k + 5).toNatClampNeg)) ((xs (nI k + 6).toNatClampNeg)) ((xs (nI k + 7).toNatClampNeg)) ((xs (nI k + 8).toNatClampNeg)) hR)) (cwV 8 hts gL_law_X7_share rfl rfl rfl (by decide +kernel) ⟨(Nat.le_of_ble_eq_true rfl), (Nat.le_of_ble_eq_true rfl)⟩) (g_pV hPo hKo hDo hN (va_recv hKo hPo (ci := 7) (q0 := 0) rfl (wO_atO _ _ _ _ _ _ _ _)) [.int (xs (nI k + 1).toNatClampNeg), .int (xs (nI k + 2).toNatClampNeg), .int (xs (nI k + 3).toNatClampNeg), .int (xs (nI k + 4).toNatClampNeg), .int (xs (nI k + 5).toNatClampNeg), .int (xs (nI k + 6).toNatClampNeg), .int (xs (nI k + 7).toNatClampNeg), .int (xs (nI k + 8).toNatClampNeg)]) rfl rfl hl.1 rfl (lv_room (Nat.le_of_ble_eq_true rfl)) dL_law_152 ⟨(Nat.le_of_ble_eq_true rfl), (Nat.le_of_ble_eq_true rfl)⟩) hS hA hDo hPm hXX (fun r1 Io1 Jo1 So1 Lo1 H locs hPo hDo hPm hS h1 => ?_)
  refine lv_pop hx hb dL_law_155 rfl ?_
  refine lv_aload_n hx hb dL_law_156 rfl (lv_at hl 1 rfl) ?_
  refine lv_aload_n hx hb dL_law_157 rfl (lv_at hl 3 rfl) ?_
  refine lv_iload_n hx hb dL_law_158 rfl (lv_at hl 0 rfl) ?_
  refine lv_iconst (v := 1) hx hb dL_law_159 (by decide) ?_
  refine lv_iadd hx hb dL_law_160 ?_
  refine va_sld hx hb hX hbl hbA hS (sc_in1 hk hL) dL_law_161 ?_
  refine lv_aload_n hx hb dL_law_162 rfl (lv_at hl 3 rfl) ?_
  refine lv_iload_n hx hb dL_law_163 rfl (lv_at hl 0 rfl) ?_
  refine lv_iconst (v := 2) hx hb dL_law_164 (by decide) ?_
  refine lv_iadd hx hb dL_law_165 ?_
  refine va_sld hx hb hX hbl hbA hS (sc_in2 hk hL) dL_law_166 ?_
  refine lv_aload_n hx hb dL_law_167 rfl (lv_at hl 3 rfl) ?_
  refine lv_iload_n hx hb dL_law_168 rfl (lv_at hl 0 rfl) ?_
  refine lv_iconst (v := 3) hx hb dL_law_169 (by decide) ?_
  refine lv_iadd hx hb dL_law_170 ?_
  refine va_sld hx hb hX hbl hbA hS (sc_in3 hk hL) dL_law_171 ?_
  refine lv_aload_n hx hb dL_law_172 rfl (lv_at hl 3 rfl) ?_
  refine lv_iload_n hx hb dL_law_173 rfl (lv_at hl 0 rfl) ?_
  refine lv_iconst (v := 4) hx hb dL_law_174 (by decide) ?_
  refine lv_iadd hx hb dL_law_175 ?_
  refine va_sld hx hb hX hbl hbA hS (sc_in4 hk hL) dL_law_176 ?_
  refine lv_aload_n hx hb dL_law_177 rfl (lv_at hl 3 rfl) ?_
  refine lv_iload_n hx hb dL_law_178 rfl (lv_at hl 0 rfl) ?_
  refine lv_iconst (v := 5) hx hb dL_law_179 (by decide) ?_
  refine lv_iadd hx hb dL_law_180 ?_
  refine va_sld hx hb hX hbl hbA hS (sc_in5 hk hL) dL_law_181 ?_
  refine lv_aload_n hx hb dL_law_182 rfl (lv_at hl 3 rfl) ?_
  refine lv_iload_n hx hb dL_law_183 rfl (lv_at hl 0 rfl) ?_
  refine lv_bipush (v := 6) hx hb dL_law_184 (by decide) ?_
  refine lv_iadd hx hb dL_law_186 ?_
  refine va_sld hx hb hX hbl hbA hS (sc_in6 hk hL) dL_law_187 ?_
  refine lv_aload_n hx hb dL_law_188 rfl (lv_at hl 3 rfl) ?_
  refine lv_iload_n hx hb dL_law_189 rfl (lv_at hl 0 rfl) ?_
  refine lv_bipush (v := 7) hx hb dL_law_190 (by decide) ?_
  refine lv_iadd hx hb dL_law_192 ?_
  refine va_sld hx hb hX hbl hbA hS (sc_in7 hk hL) dL_law_193 ?_
  refine lv_aload_n hx hb dL_law_194 rfl (lv_at hl 3 rfl) ?_
  refine lv_iload_n hx hb dL_law_195 rfl (lv_at hl 0 rfl) ?_
  refine lv_bipush (v := 8) hx hb dL_law_196 (by decide) ?_
  refine lv_iadd hx hb dL_law_198 ?_
  refine va_sld hx hb hX hbl hbA hS (sc_in8 hk hL) dL_law_199 ?_
  have hXX := Dis.tr hXX (wO_adr ao co 600 0 Io Jo So Lo Io1 Jo1 So1 Lo1) (wM_adr am cm Im Jm Sm Lm Im Jm Sm Lm)
  refine xcalli (va_runV (As := [.int (xs (nI k + 1).toNatClampNeg), .int (xs (nI k + 2).toNatClampNeg), .int (xs (nI k + 3).toNatClampNeg), .int (xs (nI k + 4).toNatClampNeg), .int (xs (nI k + 5).toNatClampNeg), .int (xs (nI k + 6).toNatClampNeg), .int (xs (nI k + 7).toNatClampNeg), .int (xs (nI k + 8).toNatClampNeg)]) (rest := []) ⟨hx, hb, hml, hown, hts⟩ (c_X8_share l dC dI am cm H.size Im Jm Sm Lm ((xs (nI k + 1).toNatClampNeg)) ((xs (nI k + 2).toNatClampNeg)) ((xs (nI k + 3).toNatClampNeg)) ((xs (nI k + 4).toNatClampNeg)) ((xs (nI k + 5).toNatClampNeg)) ((xs (nI k + 6).toNatClampNeg)) ((xs (nI k + 7).toNatClampNeg)) ((xs (nI k + 8).toNatClampNeg)) _ (u_X8_share ((xs (nI k + 1).toNatClampNeg)) ((xs (nI k + 2).toNatClampNeg)) ((xs (nI k + 3).toNatClampNeg)) ((xs (nI k + 4).toNatClampNeg)) ((xs (nI k + 5).toNatClampNeg)) ((xs (nI k + 6).toNatClampNeg)) ((xs (nI k + 7).toNatClampNeg)) ((xs (nI k + 8).toNatClampNeg)) hR)) (cwV 8 hts gL_law_X8_share rfl rfl rfl (by decide +kernel) ⟨(Nat.le_of_ble_eq_true rfl), (Nat.le_of_ble_eq_true rfl)⟩) (g_pV hPm hKm hDm hN (va_recv hKm hPm (ci := 8) (q0 := 0) rfl (wM_at0 _ _ _ _ _ _)) [.int (xs (nI k + 1).toNatClampNeg), .int (xs (nI k + 2).toNatClampNeg), .int (xs (nI k + 3).toNatClampNeg), .int (xs (nI k + 4).toNatClampNeg), .int (xs (nI k + 5).toNatClampNeg), .int (xs (nI k + 6).toNatClampNeg), .int (xs (nI k + 7).toNatClampNeg), .int (xs (nI k + 8).toNatClampNeg)]) rfl rfl hl.1 rfl (lv_room (Nat.le_of_ble_eq_true rfl)) dL_law_200 ⟨(Nat.le_of_ble_eq_true rfl), (Nat.le_of_ble_eq_true rfl)⟩) hS hA hDm hPo hXX.sy (fun r2 Im1 Jm1 Sm1 Lm1 H locs hPm hDm hPo hS h2 => ?_)
  have hXX := Dis.tr hXX (wO_adr ao co 600 0 Io1 Jo1 So1 Lo1 Io1 Jo1 So1 Lo1) (wM_adr am cm Im Jm Sm Lm Im1 Jm1 Sm1 Lm1)
  refine lv_pop hx hb dL_law_203 rfl ?_
  refine lv_goto (tgt := 770) hx hb dL_law_204 (by decide) ?_
  exact K _ _ _ _ _ _ _ _ H locs (rr_share hR h1 h2) hDo hDm hXX hPo hPm hS
set_option maxHeartbeats 4000000 in
set_option maxRecDepth 100000 in
theorem law_c1 {p : Program} {e : Env} {s : State} {m : MethodId} {below : List Frame} {meth : Method} {c : Code} (l : Launch) {b L : Nat} {xs : Nat → Int32} (C0 : lw_At p s m meth c b L xs) (hL : L ≤ 4608) (dC : Nat → ClassId) (dI : Nat → Nat → Nat) (ao am : Nat → Nat) (co cm : Nat → ClassId) (hKo : va_K (dC, dI) vwCl (tyL co) s) (hKm : va_K (dC, dI) vwCl (tyM cm) s) (hN : gN s) {k : Nat} (hk : k + 9 ≤ L) (ls : Array Slot) (hl : lv_has ls 4 [(3, .int (nI (k))), (2, .ref (am 0)), (1, .ref (ao 53)), (0, .ref b)]) (K : ∀ (Io : TI) (Jo : TJ) (So : TS) (Lo : TL) (Im : TI) (Jm : TJ) (Sm : TS) (Lm : TL) (H : Heap) (locs : List Loc), RR Io Jo So Lo Im Jm Sm Lm → va_D (fun q : Nat => s.heap.size ≤ q) (wO ao co 600 0 Io Jo So Lo) → va_D (fun q : Nat => s.heap.size ≤ q) (wM am cm Im Jm Sm Lm) → Dis (wO ao co 600 0 Io Jo So Lo) (wM am cm Im Jm Sm Lm) → va_P (dC, dI) vwCl (wO ao co 600 0 Io Jo So Lo) H → va_P (dC, dI) vwCl (wM am cm Im Jm Sm Lm) H → va_S (fun q : Nat => s.heap.size ≤ q) s.heap H locs → W p l e room_1 s m #[Value.ref b] below meth c H locs 300 60000 (lw_Z below #[Value.ref b] s) (F0 m 770 ls [])) (Io : TI) (Jo : TJ) (So : TS) (Lo : TL) (Im : TI) (Jm : TJ) (Sm : TS) (Lm : TL) (H : Heap) (locs : List Loc) (hR : RR Io Jo So Lo Im Jm Sm Lm) (hDo : va_D (fun q : Nat => s.heap.size ≤ q) (wO ao co 600 0 Io Jo So Lo)) (hDm : va_D (fun q : Nat => s.heap.size ≤ q) (wM am cm Im Jm Sm Lm)) (hXX : Dis (wO ao co 600 0 Io Jo So Lo) (wM am cm Im Jm Sm Lm)) (hPo : va_P (dC, dI) vwCl (wO ao co 600 0 Io Jo So Lo) H) (hPm : va_P (dC, dI) vwCl (wM am cm Im Jm Sm Lm) H) (hS : va_S (fun q : Nat => s.heap.size ≤ q) s.heap H locs) : W p l e room_1 s m #[Value.ref b] below meth c H locs 300 60000 (lw_Z below #[Value.ref b] s) (F0 m 207 ls []) := by
  obtain ⟨hx, hb, hr, hml, hown, hts0, hX, hbl, hlocks, hgv⟩ := id C0
  have hts := fun w h => hts0 w (wsL_law_in w h)
  have hA : ∀ q : Nat, s.heap.size ≤ q → (fun q : Nat => s.heap.size ≤ q) q := fun _ h => h
  have hbA : ¬ (fun q : Nat => s.heap.size ≤ q) b := Nat.not_le.mpr hbl
  obtain ⟨cc, b9, q9, Z9, hR⟩ := hR
  refine lv_aload_n hx hb dL_law_207 rfl (lv_at hl 2 rfl) ?_
  refine lv_aload_n hx hb dL_law_208 rfl (lv_at hl 3 rfl) ?_
  refine lv_iload_n hx hb dL_law_209 rfl (lv_at hl 0 rfl) ?_
  refine lv_iconst (v := 1) hx hb dL_law_210 (by decide) ?_
  refine lv_iadd hx hb dL_law_211 ?_
  refine va_sld hx hb hX hbl hbA hS (sc_in1 hk hL) dL_law_212 ?_
  refine lv_aload_n hx hb dL_law_213 rfl (lv_at hl 3 rfl) ?_
  refine lv_iload_n hx hb dL_law_214 rfl (lv_at hl 0 rfl) ?_
  refine lv_iconst (v := 2) hx hb dL_law_215 (by decide) ?_
  refine lv_iadd hx hb dL_law_216 ?_
  refine va_sld hx hb hX hbl hbA hS (sc_in2 hk hL) dL_law_217 ?_
  refine lv_aload_n hx hb dL_law_218 rfl (lv_at hl 3 rfl) ?_
  refine lv_iload_n hx hb dL_law_219 rfl (lv_at hl 0 rfl) ?_
  refine lv_iconst (v := 3) hx hb dL_law_220 (by decide) ?_
  refine lv_iadd hx hb dL_law_221 ?_
  refine va_sld hx hb hX hbl hbA hS (sc_in3 hk hL) dL_law_222 ?_
  refine lv_aload_n hx hb dL_law_223 rfl (lv_at hl 3 rfl) ?_
  refine lv_iload_n hx hb dL_law_224 rfl (lv_at hl 0 rfl) ?_
  refine lv_iconst (v := 4) hx hb dL_law_225 (by decide) ?_
  refine lv_iadd hx hb dL_law_226 ?_
  refine va_sld hx hb hX hbl hbA hS (sc_in4 hk hL) dL_law_227 ?_
  refine lv_aload_n hx hb dL_law_228 rfl (lv_at hl 3 rfl) ?_
  refine lv_iload_n hx hb dL_law_229 rfl (lv_at hl 0 rfl) ?_
  refine lv_iconst (v := 5) hx hb dL_law_230 (by decide) ?_
  refine lv_iadd hx hb dL_law_231 ?_
  refine va_sld hx hb hX hbl hbA hS (sc_in5 hk hL) dL_law_232 ?_
  refine lv_aload_n hx hb dL_law_233 rfl (lv_at hl 3 rfl) ?_
  refine lv_iload_n hx hb dL_law_234 rfl (lv_at hl 0 rfl) ?_
  refine lv_bipush (v := 6) hx hb dL_law_235 (by decide) ?_
  refine lv_iadd hx hb dL_law_237 ?_
  refine va_sld hx hb hX hbl hbA hS (sc_in6 hk hL) dL_law_238 ?_
  refine lv_aload_n hx hb dL_law_239 rfl (lv_at hl 3 rfl) ?_
  refine lv_iload_n hx hb dL_law_240 rfl (lv_at hl 0 rfl) ?_
  refine lv_bipush (v := 7) hx hb dL_law_241 (by decide) ?_
  refine lv_iadd hx hb dL_law_243 ?_
  refine va_sld hx hb hX hbl hbA hS (sc_in7 hk hL) dL_law_244 ?_
  refine lv_aload_n hx hb dL_law_245 rfl (lv_at hl 3 rfl) ?_
  refine lv_iload_n hx hb dL_law_246 rfl (lv_at hl 0 rfl) ?_
  refine lv_bipush (v := 8) hx hb dL_law_247 (by decide) ?_
  refine lv_iadd hx hb dL_law_249 ?_
  refine va_sld hx hb hX hbl hbA hS (sc_in8 hk hL) dL_law_250 ?_
  refine xcalli (va_runV (As := [.int (xs (nI k + 1).toNatClampNeg), .int (xs (nI k + 2).toNatClampNeg), .int (xs (nI k + 3).toNatClampNeg), .int (xs (nI k + 4).toNatClampNeg), .int (xs (nI k + 5).toNatClampNeg), .int (xs (nI k + 6).toNatClampNeg), .int (xs (nI k + 7).toNatClampNeg), .int (xs (nI k + 8).toNatClampNeg)]) (rest := []) ⟨hx, hb, hml, hown, hts⟩ (c_X7_bargain l dC dI ao co 600 0 H.size Io Jo So Lo ((xs (nI k + 1).toNatClampNeg)) ((xs (nI k + 2).toNatClampNeg)) ((xs (nI k + 3).toNatClampNeg)) ((xs (nI k + 4).toNatClampNeg)) ((xs (nI k + 5).toNatClampNeg)) ((xs (nI k + 6).toNatClampNeg)) ((xs (nI k + 7).toNatClampNeg)) ((xs (nI k + 8).toNatClampNeg)) _ (u_X7_bargain ((xs (nI k + 1).toNatClampNeg)) ((xs (nI k + 2).toNatClampNeg)) ((xs (nI k + 3).toNatClampNeg)) ((xs (nI k + 4).toNatClampNeg)) ((xs (nI k + 5).toNatClampNeg)) ((xs (nI k + 6).toNatClampNeg)) ((xs (nI k + 7).toNatClampNeg)) ((xs (nI k + 8).toNatClampNeg)) hR)) (cwV 8 hts gL_law_X7_bargain rfl rfl rfl (by decide +kernel) ⟨(Nat.le_of_ble_eq_true rfl), (Nat.le_of_ble_eq_true rfl)⟩) (g_pV hPo hKo hDo hN (va_recv hKo hPo (ci := 7) (q0 := 0) rfl (wO_atO _ _ _ _ _ _ _ _)) [.int (xs (nI k + 1).toNatClampNeg), .int (xs (nI k + 2).toNatClampNeg), .int (xs (nI k + 3).toNatClampNeg), .int (xs (nI k + 4).toNatClampNeg), .int (xs (nI k + 5).toNatClampNeg), .int (xs (nI k + 6).toNatClampNeg), .int (xs (nI k + 7).toNatClampNeg), .int (xs (nI k + 8).toNatClampNeg)]) rfl rfl hl.1 rfl (lv_room (Nat.le_of_ble_eq_true rfl)) dL_law_251 ⟨(Nat.le_of_ble_eq_true rfl), (Nat.le_of_ble_eq_true rfl)⟩) hS hA hDo hPm hXX (fun r1 Io1 Jo1 So1 Lo1 H locs hPo hDo hPm hS h1 => ?_)
  refine lv_pop hx hb dL_law_254 rfl ?_
  refine lv_aload_n hx hb dL_law_255 rfl (lv_at hl 1 rfl) ?_
  refine lv_aload_n hx hb dL_law_256 rfl (lv_at hl 3 rfl) ?_
  refine lv_iload_n hx hb dL_law_257 rfl (lv_at hl 0 rfl) ?_
  refine lv_iconst (v := 1) hx hb dL_law_258 (by decide) ?_
  refine lv_iadd hx hb dL_law_259 ?_
  refine va_sld hx hb hX hbl hbA hS (sc_in1 hk hL) dL_law_260 ?_
  refine lv_aload_n hx hb dL_law_261 rfl (lv_at hl 3 rfl) ?_
  refine lv_iload_n hx hb dL_law_262 rfl (lv_at hl 0 rfl) ?_
  refine lv_iconst (v := 2) hx hb dL_law_263 (by decide) ?_
  refine lv_iadd hx hb dL_law_264 ?_
  refine va_sld hx hb hX hbl hbA hS (sc_in2 hk hL) dL_law_265 ?_
  refine lv_aload_n hx hb dL_law_266 rfl (lv_at hl 3 rfl) ?_
  refine lv_iload_n hx hb dL_law_267 rfl (lv_at hl 0 rfl) ?_
  refine lv_iconst (v := 3) hx hb dL_law_268 (by decide) ?_
  refine lv_iadd hx hb dL_law_269 ?_
  refine va_sld hx hb hX hbl hbA hS (sc_in3 hk hL) dL_law_270 ?_
  refine lv_aload_n hx hb dL_law_271 rfl (lv_at hl 3 rfl) ?_
  refine lv_iload_n hx hb dL_law_272 rfl (lv_at hl 0 rfl) ?_
  refine lv_iconst (v := 4) hx hb dL_law_273 (by decide) ?_
  refine lv_iadd hx hb dL_law_274 ?_
  refine va_sld hx hb hX hbl hbA hS (sc_in4 hk hL) dL_law_275 ?_
  refine lv_aload_n hx hb dL_law_276 rfl (lv_at hl 3 rfl) ?_
  refine lv_iload_n hx hb dL_law_277 rfl (lv_at hl 0 rfl) ?_
  refine lv_iconst (v := 5) hx hb dL_law_278 (by decide) ?_
  refine lv_iadd hx hb dL_law_279 ?_
  refine va_sld hx hb hX hbl hbA hS (sc_in5 hk hL) dL_law_280 ?_
  refine lv_aload_n hx hb dL_law_281 rfl (lv_at hl 3 rfl) ?_
  refine lv_iload_n hx hb dL_law_282 rfl (lv_at hl 0 rfl) ?_
  refine lv_bipush (v := 6) hx hb dL_law_283 (by decide) ?_
  refine lv_iadd hx hb dL_law_285 ?_
  refine va_sld hx hb hX hbl hbA hS (sc_in6 hk hL) dL_law_286 ?_
  refine lv_aload_n hx hb dL_law_287 rfl (lv_at hl 3 rfl) ?_
  refine lv_iload_n hx hb dL_law_288 rfl (lv_at hl 0 rfl) ?_
  refine lv_bipush (v := 7) hx hb dL_law_289 (by decide) ?_
  refine lv_iadd hx hb dL_law_291 ?_
  refine va_sld hx hb hX hbl hbA hS (sc_in7 hk hL) dL_law_292 ?_
  refine lv_aload_n hx hb dL_law_293 rfl (lv_at hl 3 rfl) ?_
  refine lv_iload_n hx hb dL_law_294 rfl (lv_at hl 0 rfl) ?_
  refine lv_bipush (v := 8) hx hb dL_law_295 (by decide) ?_
  refine lv_iadd hx hb dL_law_297 ?_
  refine va_sld hx hb hX hbl hbA hS (sc_in8 hk hL) dL_law_298 ?_
  have hXX := Dis.tr hXX (wO_adr ao co 600 0 Io Jo So Lo Io1 Jo1 So1 Lo1) (wM_adr am cm Im Jm Sm Lm Im Jm Sm Lm)
  refine xcalli (va_runV (As := [.int (xs (nI k + 1).toNatClampNeg), .int (xs (nI k + 2).toNatClampNeg), .int (xs (nI k + 3).toNatClampNeg), .int (xs (nI k + 4).toNatClampNeg), .int (xs (nI k + 5).toNatClampNeg), .int (xs (nI k + 6).toNatClampNeg), .int (xs (nI k + 7).toNatClampNeg), .int (xs (nI k + 8).toNatClampNeg)]) (rest := []) ⟨hx, hb, hml, hown, hts⟩ (c_X8_bargain l dC dI am cm H.size Im Jm Sm Lm ((xs (nI k + 1).toNatClampNeg)) ((xs (nI k + 2).toNatClampNeg)) ((xs (nI k + 3).toNatClampNeg)) ((xs (nI k + 4).toNatClampNeg)) ((xs (nI k + 5).toNatClampNeg)) ((xs (nI k + 6).toNatClampNeg)) ((xs (nI k + 7).toNatClampNeg)) ((xs (nI k + 8).toNatClampNeg)) _ (u_X8_bargain ((xs (nI k + 1).toNatClampNeg)) ((xs (nI k + 2).toNatClampNeg)) ((xs (nI k + 3).toNatClampNeg)) ((xs (nI k + 4).toNatClampNeg)) ((xs (nI k + 5).toNatClampNeg)) ((xs (nI k + 6).toNatClampNeg)) ((xs (nI k + 7).toNatClampNeg)) ((xs (nI k + 8).toNatClampNeg)) hR)) (cwV 8 hts gL_law_X8_bargain rfl rfl rfl (by decide +kernel) ⟨(Nat.le_of_ble_eq_true rfl), (Nat.le_of_ble_eq_true rfl)⟩) (g_pV hPm hKm hDm hN (va_recv hKm hPm (ci := 8) (q0 := 0) rfl (wM_at0 _ _ _ _ _ _)) [.int (xs (nI k + 1).toNatClampNeg), .int (xs (nI k + 2).toNatClampNeg), .int (xs (nI k + 3).toNatClampNeg), .int (xs (nI k + 4).toNatClampNeg), .int (xs (nI k + 5).toNatClampNeg), .int (xs (nI k + 6).toNatClampNeg), .int (xs (nI k + 7).toNatClampNeg), .int (xs (nI k + 8).toNatClampNeg)]) rfl rfl hl.1 rfl (lv_room (Nat.le_of_ble_eq_true rfl)) dL_law_299 ⟨(Nat.le_of_ble_eq_true rfl), (Nat.le_of_ble_eq_true rfl)⟩) hS hA hDm hPo hXX.sy (fun r2 Im1 Jm1 Sm1 Lm1 H locs hPm hDm hPo hS h2 => ?_)
  have hXX := Dis.tr hXX (wO_adr ao co 600 0 Io1 Jo1 So1 Lo1 Io1 Jo1 So1 Lo1) (wM_adr am cm Im Jm Sm Lm Im1 Jm1 Sm1 Lm1)
  refine lv_pop hx hb dL_law_302 rfl ?_
  refine lv_goto (tgt := 770) hx hb dL_law_303 (by decide) ?_
  exact K _ _ _ _ _ _ _ _ H locs (rr_bargain hR h1 h2) hDo hDm hXX hPo hPm hS
set_option maxHeartbeats 4000000 in
set_option maxRecDepth 100000 in
theorem law_c2 {p : Program} {e : Env} {s : State} {m : MethodId} {below : List Frame} {meth : Method} {c : Code} (l : Launch) {b L : Nat} {xs : Nat → Int32} (C0 : lw_At p s m meth c b L xs) (hL : L ≤ 4608) (dC : Nat → ClassId) (dI : Nat → Nat → Nat) (ao am : Nat → Nat) (co cm : Nat → ClassId) (hKo : va_K (dC, dI) vwCl (tyL co) s) (hKm : va_K (dC, dI) vwCl (tyM cm) s) (hN : gN s) {k : Nat} (hk : k + 9 ≤ L) (ls : Array Slot) (hl : lv_has ls 4 [(3, .int (nI (k))), (2, .ref (am 0)), (1, .ref (ao 53)), (0, .ref b)]) (K : ∀ (Io : TI) (Jo : TJ) (So : TS) (Lo : TL) (Im : TI) (Jm : TJ) (Sm : TS) (Lm : TL) (H : Heap) (locs : List Loc), RR Io Jo So Lo Im Jm Sm Lm → va_D (fun q : Nat => s.heap.size ≤ q) (wO ao co 600 0 Io Jo So Lo) → va_D (fun q : Nat => s.heap.size ≤ q) (wM am cm Im Jm Sm Lm) → Dis (wO ao co 600 0 Io Jo So Lo) (wM am cm Im Jm Sm Lm) → va_P (dC, dI) vwCl (wO ao co 600 0 Io Jo So Lo) H → va_P (dC, dI) vwCl (wM am cm Im Jm Sm Lm) H → va_S (fun q : Nat => s.heap.size ≤ q) s.heap H locs → W p l e room_1 s m #[Value.ref b] below meth c H locs 300 60000 (lw_Z below #[Value.ref b] s) (F0 m 770 ls [])) (Io : TI) (Jo : TJ) (So : TS) (Lo : TL) (Im : TI) (Jm : TJ) (Sm : TS) (Lm : TL) (H : Heap) (locs : List Loc) (hR : RR Io Jo So Lo Im Jm Sm Lm) (hDo : va_D (fun q : Nat => s.heap.size ≤ q) (wO ao co 600 0 Io Jo So Lo)) (hDm : va_D (fun q : Nat => s.heap.size ≤ q) (wM am cm Im Jm Sm Lm)) (hXX : Dis (wO ao co 600 0 Io Jo So Lo) (wM am cm Im Jm Sm Lm)) (hPo : va_P (dC, dI) vwCl (wO ao co 600 0 Io Jo So Lo) H) (hPm : va_P (dC, dI) vwCl (wM am cm Im Jm Sm Lm) H) (hS : va_S (fun q : Nat => s.heap.size ≤ q) s.heap H locs) : W p l e room_1 s m #[Value.ref b] below meth c H locs 300 60000 (lw_Z below #[Value.ref b] s) (F0 m 306 ls []) := by
  obtain ⟨hx, hb, hr, hml, hown, hts0, hX, hbl, hlocks, hgv⟩ := id C0
  have hts := fun w h => hts0 w (wsL_law_in w h)
  have hA : ∀ q : Nat, s.heap.size ≤ q → (fun q : Nat => s.heap.size ≤ q) q := fun _ h => h
  have hbA : ¬ (fun q : Nat => s.heap.size ≤ q) b := Nat.not_le.mpr hbl
  obtain ⟨cc, b9, q9, Z9, hR⟩ := hR
  refine lv_aload_n hx hb dL_law_306 rfl (lv_at hl 2 rfl) ?_
  refine lv_aload_n hx hb dL_law_307 rfl (lv_at hl 3 rfl) ?_
  refine lv_iload_n hx hb dL_law_308 rfl (lv_at hl 0 rfl) ?_
  refine lv_iconst (v := 1) hx hb dL_law_309 (by decide) ?_
  refine lv_iadd hx hb dL_law_310 ?_
  refine va_sld hx hb hX hbl hbA hS (sc_in1 hk hL) dL_law_311 ?_
  refine lv_aload_n hx hb dL_law_312 rfl (lv_at hl 3 rfl) ?_
  refine lv_iload_n hx hb dL_law_313 rfl (lv_at hl 0 rfl) ?_
  refine lv_iconst (v := 2) hx hb dL_law_314 (by decide) ?_
  refine lv_iadd hx hb dL_law_315 ?_
  refine va_sld hx hb hX hbl hbA hS (sc_in2 hk hL) dL_law_316 ?_
  refine lv_aload_n hx hb dL_law_317 rfl (lv_at hl 3 rfl) ?_
  refine lv_iload_n hx hb dL_law_318 rfl (lv_at hl 0 rfl) ?_
  refine lv_iconst (v := 3) hx hb dL_law_319 (by decide) ?_
  refine lv_iadd hx hb dL_law_320 ?_
  refine va_sld hx hb hX hbl hbA hS (sc_in3 hk hL) dL_law_321 ?_
  refine lv_aload_n hx hb dL_law_322 rfl (lv_at hl 3 rfl) ?_
  refine lv_iload_n hx hb dL_law_323 rfl (lv_at hl 0 rfl) ?_
  refine lv_iconst (v := 4) hx hb dL_law_324 (by decide) ?_
  refine lv_iadd hx hb dL_law_325 ?_
  refine va_sld hx hb hX hbl hbA hS (sc_in4 hk hL) dL_law_326 ?_
  refine lv_aload_n hx hb dL_law_327 rfl (lv_at hl 3 rfl) ?_
  refine lv_iload_n hx hb dL_law_328 rfl (lv_at hl 0 rfl) ?_
  refine lv_iconst (v := 5) hx hb dL_law_329 (by decide) ?_
  refine lv_iadd hx hb dL_law_330 ?_
  refine va_sld hx hb hX hbl hbA hS (sc_in5 hk hL) dL_law_331 ?_
  by_cases hz : (xs (nI k + 5).toNatClampNeg) = 0
  · refine lv_if_eq (tgt := 339) hx hb dL_law_332 (by decide) (fun hc => ?_) (fun hc => absurd hz hc)
    refine lv_iconst (v := 0) hx hb dL_law_339 (by decide) ?_
    refine xcalli (va_runV (As := [.int (xs (nI k + 1).toNatClampNeg), .int (xs (nI k + 2).toNatClampNeg), .int (xs (nI k + 3).toNatClampNeg), .int (xs (nI k + 4).toNatClampNeg), .int 0]) (rest := []) ⟨hx, hb, hml, hown, hts⟩ (c_X7_report l dC dI ao co 600 0 H.size Io Jo So Lo ((xs (nI k + 1).toNatClampNeg)) ((xs (nI k + 2).toNatClampNeg)) ((xs (nI k + 3).toNatClampNeg)) ((xs (nI k + 4).toNatClampNeg)) 0 _ (u_X7_report ((xs (nI k + 1).toNatClampNeg)) ((xs (nI k + 2).toNatClampNeg)) ((xs (nI k + 3).toNatClampNeg)) ((xs (nI k + 4).toNatClampNeg)) 0 hR)) (cwV 5 hts gL_law_X7_report rfl rfl rfl (by decide +kernel) ⟨(Nat.le_of_ble_eq_true rfl), (Nat.le_of_ble_eq_true rfl)⟩) (g_pV hPo hKo hDo hN (va_recv hKo hPo (ci := 7) (q0 := 0) rfl (wO_atO _ _ _ _ _ _ _ _)) [.int (xs (nI k + 1).toNatClampNeg), .int (xs (nI k + 2).toNatClampNeg), .int (xs (nI k + 3).toNatClampNeg), .int (xs (nI k + 4).toNatClampNeg), .int 0]) rfl rfl hl.1 rfl (lv_room (Nat.le_of_ble_eq_true rfl)) dL_law_340 ⟨(Nat.le_of_ble_eq_true rfl), (Nat.le_of_ble_eq_true rfl)⟩) hS hA hDo hPm hXX (fun r1 Io1 Jo1 So1 Lo1 H locs hPo hDo hPm hS h1 => ?_)
    refine lv_pop hx hb dL_law_343 rfl ?_
    refine lv_aload_n hx hb dL_law_344 rfl (lv_at hl 1 rfl) ?_
    refine lv_aload_n hx hb dL_law_345 rfl (lv_at hl 3 rfl) ?_
    refine lv_iload_n hx hb dL_law_346 rfl (lv_at hl 0 rfl) ?_
    refine lv_iconst (v := 1) hx hb dL_law_347 (by decide) ?_
    refine lv_iadd hx hb dL_law_348 ?_
    refine va_sld hx hb hX hbl hbA hS (sc_in1 hk hL) dL_law_349 ?_
    refine lv_aload_n hx hb dL_law_350 rfl (lv_at hl 3 rfl) ?_
    refine lv_iload_n hx hb dL_law_351 rfl (lv_at hl 0 rfl) ?_
    refine lv_iconst (v := 2) hx hb dL_law_352 (by decide) ?_
    refine lv_iadd hx hb dL_law_353 ?_
    refine va_sld hx hb hX hbl hbA hS (sc_in2 hk hL) dL_law_354 ?_
    refine lv_aload_n hx hb dL_law_355 rfl (lv_at hl 3 rfl) ?_
    refine lv_iload_n hx hb dL_law_356 rfl (lv_at hl 0 rfl) ?_
    refine lv_iconst (v := 3) hx hb dL_law_357 (by decide) ?_
    refine lv_iadd hx hb dL_law_358 ?_
    refine va_sld hx hb hX hbl hbA hS (sc_in3 hk hL) dL_law_359 ?_
    refine lv_aload_n hx hb dL_law_360 rfl (lv_at hl 3 rfl) ?_
    refine lv_iload_n hx hb dL_law_361 rfl (lv_at hl 0 rfl) ?_
    refine lv_iconst (v := 4) hx hb dL_law_362 (by decide) ?_
    refine lv_iadd hx hb dL_law_363 ?_
    refine va_sld hx hb hX hbl hbA hS (sc_in4 hk hL) dL_law_364 ?_
    refine lv_aload_n hx hb dL_law_365 rfl (lv_at hl 3 rfl) ?_
    refine lv_iload_n hx hb dL_law_366 rfl (lv_at hl 0 rfl) ?_
    refine lv_iconst (v := 5) hx hb dL_law_367 (by decide) ?_
    refine lv_iadd hx hb dL_law_368 ?_
    refine va_sld hx hb hX hbl hbA hS (sc_in5 hk hL) dL_law_369 ?_
    refine lv_if_eq (tgt := 377) hx hb dL_law_370 (by decide) (fun hc => ?_) (fun hc => absurd hz hc)
    refine lv_iconst (v := 0) hx hb dL_law_377 (by decide) ?_
    have hXX := Dis.tr hXX (wO_adr ao co 600 0 Io Jo So Lo Io1 Jo1 So1 Lo1) (wM_adr am cm Im Jm Sm Lm Im Jm Sm Lm)
    refine xcalli (va_runV (As := [.int (xs (nI k + 1).toNatClampNeg), .int (xs (nI k + 2).toNatClampNeg), .int (xs (nI k + 3).toNatClampNeg), .int (xs (nI k + 4).toNatClampNeg), .int 0]) (rest := []) ⟨hx, hb, hml, hown, hts⟩ (c_X8_report l dC dI am cm H.size Im Jm Sm Lm ((xs (nI k + 1).toNatClampNeg)) ((xs (nI k + 2).toNatClampNeg)) ((xs (nI k + 3).toNatClampNeg)) ((xs (nI k + 4).toNatClampNeg)) 0 _ (u_X8_report ((xs (nI k + 1).toNatClampNeg)) ((xs (nI k + 2).toNatClampNeg)) ((xs (nI k + 3).toNatClampNeg)) ((xs (nI k + 4).toNatClampNeg)) 0 hR)) (cwV 5 hts gL_law_X8_report rfl rfl rfl (by decide +kernel) ⟨(Nat.le_of_ble_eq_true rfl), (Nat.le_of_ble_eq_true rfl)⟩) (g_pV hPm hKm hDm hN (va_recv hKm hPm (ci := 8) (q0 := 0) rfl (wM_at0 _ _ _ _ _ _)) [.int (xs (nI k + 1).toNatClampNeg), .int (xs (nI k + 2).toNatClampNeg), .int (xs (nI k + 3).toNatClampNeg), .int (xs (nI k + 4).toNatClampNeg), .int 0]) rfl rfl hl.1 rfl (lv_room (Nat.le_of_ble_eq_true rfl)) dL_law_378 ⟨(Nat.le_of_ble_eq_true rfl), (Nat.le_of_ble_eq_true rfl)⟩) hS hA hDm hPo hXX.sy (fun r2 Im1 Jm1 Sm1 Lm1 H locs hPm hDm hPo hS h2 => ?_)
    have hXX := Dis.tr hXX (wO_adr ao co 600 0 Io1 Jo1 So1 Lo1 Io1 Jo1 So1 Lo1) (wM_adr am cm Im Jm Sm Lm Im1 Jm1 Sm1 Lm1)
    refine lv_pop hx hb dL_law_381 rfl ?_
    refine lv_goto (tgt := 770) hx hb dL_law_382 (by decide) ?_
    exact K _ _ _ _ _ _ _ _ H locs (rr_report hR h1 h2) hDo hDm hXX hPo hPm hS
  · refine lv_if_eq (tgt := 339) hx hb dL_law_332 (by decide) (fun hc => absurd hc hz) (fun hc => ?_)
    refine lv_iconst (v := 1) hx hb dL_law_335 (by decide) ?_
    refine lv_goto (tgt := 340) hx hb dL_law_336 (by decide) ?_
    refine xcalli (va_runV (As := [.int (xs (nI k + 1).toNatClampNeg), .int (xs (nI k + 2).toNatClampNeg), .int (xs (nI k + 3).toNatClampNeg), .int (xs (nI k + 4).toNatClampNeg), .int 1]) (rest := []) ⟨hx, hb, hml, hown, hts⟩ (c_X7_report l dC dI ao co 600 0 H.size Io Jo So Lo ((xs (nI k + 1).toNatClampNeg)) ((xs (nI k + 2).toNatClampNeg)) ((xs (nI k + 3).toNatClampNeg)) ((xs (nI k + 4).toNatClampNeg)) 1 _ (u_X7_report ((xs (nI k + 1).toNatClampNeg)) ((xs (nI k + 2).toNatClampNeg)) ((xs (nI k + 3).toNatClampNeg)) ((xs (nI k + 4).toNatClampNeg)) 1 hR)) (cwV 5 hts gL_law_X7_report rfl rfl rfl (by decide +kernel) ⟨(Nat.le_of_ble_eq_true rfl), (Nat.le_of_ble_eq_true rfl)⟩) (g_pV hPo hKo hDo hN (va_recv hKo hPo (ci := 7) (q0 := 0) rfl (wO_atO _ _ _ _ _ _ _ _)) [.int (xs (nI k + 1).toNatClampNeg), .int (xs (nI k + 2).toNatClampNeg), .int (xs (nI k + 3).toNatClampNeg), .int (xs (nI k + 4).toNatClampNeg), .int 1]) rfl rfl hl.1 rfl (lv_room (Nat.le_of_ble_eq_true rfl)) dL_law_340 ⟨(Nat.le_of_ble_eq_true rfl), (Nat.le_of_ble_eq_true rfl)⟩) hS hA hDo hPm hXX (fun r1 Io1 Jo1 So1 Lo1 H locs hPo hDo hPm hS h1 => ?_)
    refine lv_pop hx hb dL_law_343 rfl ?_
    refine lv_aload_n hx hb dL_law_344 rfl (lv_at hl 1 rfl) ?_
    refine lv_aload_n hx hb dL_law_345 rfl (lv_at hl 3 rfl) ?_
    refine lv_iload_n hx hb dL_law_346 rfl (lv_at hl 0 rfl) ?_
    refine lv_iconst (v := 1) hx hb dL_law_347 (by decide) ?_
    refine lv_iadd hx hb dL_law_348 ?_
    refine va_sld hx hb hX hbl hbA hS (sc_in1 hk hL) dL_law_349 ?_
    refine lv_aload_n hx hb dL_law_350 rfl (lv_at hl 3 rfl) ?_
    refine lv_iload_n hx hb dL_law_351 rfl (lv_at hl 0 rfl) ?_
    refine lv_iconst (v := 2) hx hb dL_law_352 (by decide) ?_
    refine lv_iadd hx hb dL_law_353 ?_
    refine va_sld hx hb hX hbl hbA hS (sc_in2 hk hL) dL_law_354 ?_
    refine lv_aload_n hx hb dL_law_355 rfl (lv_at hl 3 rfl) ?_
    refine lv_iload_n hx hb dL_law_356 rfl (lv_at hl 0 rfl) ?_
    refine lv_iconst (v := 3) hx hb dL_law_357 (by decide) ?_
    refine lv_iadd hx hb dL_law_358 ?_
    refine va_sld hx hb hX hbl hbA hS (sc_in3 hk hL) dL_law_359 ?_
    refine lv_aload_n hx hb dL_law_360 rfl (lv_at hl 3 rfl) ?_
    refine lv_iload_n hx hb dL_law_361 rfl (lv_at hl 0 rfl) ?_
    refine lv_iconst (v := 4) hx hb dL_law_362 (by decide) ?_
    refine lv_iadd hx hb dL_law_363 ?_
    refine va_sld hx hb hX hbl hbA hS (sc_in4 hk hL) dL_law_364 ?_
    refine lv_aload_n hx hb dL_law_365 rfl (lv_at hl 3 rfl) ?_
    refine lv_iload_n hx hb dL_law_366 rfl (lv_at hl 0 rfl) ?_
    refine lv_iconst (v := 5) hx hb dL_law_367 (by decide) ?_
    refine lv_iadd hx hb dL_law_368 ?_
    refine va_sld hx hb hX hbl hbA hS (sc_in5 hk hL) dL_law_369 ?_
    refine lv_if_eq (tgt := 377) hx hb dL_law_370 (by decide) (fun hc => absurd hc hz) (fun hc => ?_)
    refine lv_iconst (v := 1) hx hb dL_law_373 (by decide) ?_
    refine lv_goto (tgt := 378) hx hb dL_law_374 (by decide) ?_
    have hXX := Dis.tr hXX (wO_adr ao co 600 0 Io Jo So Lo Io1 Jo1 So1 Lo1) (wM_adr am cm Im Jm Sm Lm Im Jm Sm Lm)
    refine xcalli (va_runV (As := [.int (xs (nI k + 1).toNatClampNeg), .int (xs (nI k + 2).toNatClampNeg), .int (xs (nI k + 3).toNatClampNeg), .int (xs (nI k + 4).toNatClampNeg), .int 1]) (rest := []) ⟨hx, hb, hml, hown, hts⟩ (c_X8_report l dC dI am cm H.size Im Jm Sm Lm ((xs (nI k + 1).toNatClampNeg)) ((xs (nI k + 2).toNatClampNeg)) ((xs (nI k + 3).toNatClampNeg)) ((xs (nI k + 4).toNatClampNeg)) 1 _ (u_X8_report ((xs (nI k + 1).toNatClampNeg)) ((xs (nI k + 2).toNatClampNeg)) ((xs (nI k + 3).toNatClampNeg)) ((xs (nI k + 4).toNatClampNeg)) 1 hR)) (cwV 5 hts gL_law_X8_report rfl rfl rfl (by decide +kernel) ⟨(Nat.le_of_ble_eq_true rfl), (Nat.le_of_ble_eq_true rfl)⟩) (g_pV hPm hKm hDm hN (va_recv hKm hPm (ci := 8) (q0 := 0) rfl (wM_at0 _ _ _ _ _ _)) [.int (xs (nI k + 1).toNatClampNeg), .int (xs (nI k + 2).toNatClampNeg), .int (xs (nI k + 3).toNatClampNeg), .int (xs (nI k + 4).toNatClampNeg), .int 1]) rfl rfl hl.1 rfl (lv_room (Nat.le_of_ble_eq_true rfl)) dL_law_378 ⟨(Nat.le_of_ble_eq_true rfl), (Nat.le_of_ble_eq_true rfl)⟩) hS hA hDm hPo hXX.sy (fun r2 Im1 Jm1 Sm1 Lm1 H locs hPm hDm hPo hS h2 => ?_)
    have hXX := Dis.tr hXX (wO_adr ao co 600 0 Io1 Jo1 So1 Lo1 Io1 Jo1 So1 Lo1) (wM_adr am cm Im Jm Sm Lm Im1 Jm1 Sm1 Lm1)
    refine lv_pop hx hb dL_law_381 rfl ?_
    refine lv_goto (tgt := 770) hx hb dL_law_382 (by decide) ?_
    exact K _ _ _ _ _ _ _ _ H locs (rr_report hR h1 h2) hDo hDm hXX hPo hPm hS
set_option maxHeartbeats 4000000 in
set_option maxRecDepth 100000 in
theorem law_c3 {p : Program} {e : Env} {s : State} {m : MethodId} {below : List Frame} {meth : Method} {c : Code} (l : Launch) {b L : Nat} {xs : Nat → Int32} (C0 : lw_At p s m meth c b L xs) (hL : L ≤ 4608) (dC : Nat → ClassId) (dI : Nat → Nat → Nat) (ao am : Nat → Nat) (co cm : Nat → ClassId) (hKo : va_K (dC, dI) vwCl (tyL co) s) (hKm : va_K (dC, dI) vwCl (tyM cm) s) (hN : gN s) {k : Nat} (hk : k + 9 ≤ L) (ls : Array Slot) (hl : lv_has ls 4 [(3, .int (nI (k))), (2, .ref (am 0)), (1, .ref (ao 53)), (0, .ref b)]) (K : ∀ (Io : TI) (Jo : TJ) (So : TS) (Lo : TL) (Im : TI) (Jm : TJ) (Sm : TS) (Lm : TL) (H : Heap) (locs : List Loc), RR Io Jo So Lo Im Jm Sm Lm → va_D (fun q : Nat => s.heap.size ≤ q) (wO ao co 600 0 Io Jo So Lo) → va_D (fun q : Nat => s.heap.size ≤ q) (wM am cm Im Jm Sm Lm) → Dis (wO ao co 600 0 Io Jo So Lo) (wM am cm Im Jm Sm Lm) → va_P (dC, dI) vwCl (wO ao co 600 0 Io Jo So Lo) H → va_P (dC, dI) vwCl (wM am cm Im Jm Sm Lm) H → va_S (fun q : Nat => s.heap.size ≤ q) s.heap H locs → W p l e room_1 s m #[Value.ref b] below meth c H locs 300 60000 (lw_Z below #[Value.ref b] s) (F0 m 770 ls [])) (Io : TI) (Jo : TJ) (So : TS) (Lo : TL) (Im : TI) (Jm : TJ) (Sm : TS) (Lm : TL) (H : Heap) (locs : List Loc) (hR : RR Io Jo So Lo Im Jm Sm Lm) (hDo : va_D (fun q : Nat => s.heap.size ≤ q) (wO ao co 600 0 Io Jo So Lo)) (hDm : va_D (fun q : Nat => s.heap.size ≤ q) (wM am cm Im Jm Sm Lm)) (hXX : Dis (wO ao co 600 0 Io Jo So Lo) (wM am cm Im Jm Sm Lm)) (hPo : va_P (dC, dI) vwCl (wO ao co 600 0 Io Jo So Lo) H) (hPm : va_P (dC, dI) vwCl (wM am cm Im Jm Sm Lm) H) (hS : va_S (fun q : Nat => s.heap.size ≤ q) s.heap H locs) : W p l e room_1 s m #[Value.ref b] below meth c H locs 300 60000 (lw_Z below #[Value.ref b] s) (F0 m 385 ls []) := by
  obtain ⟨hx, hb, hr, hml, hown, hts0, hX, hbl, hlocks, hgv⟩ := id C0
  have hts := fun w h => hts0 w (wsL_law_in w h)
  have hA : ∀ q : Nat, s.heap.size ≤ q → (fun q : Nat => s.heap.size ≤ q) q := fun _ h => h
  have hbA : ¬ (fun q : Nat => s.heap.size ≤ q) b := Nat.not_le.mpr hbl
  obtain ⟨cc, b9, q9, Z9, hR⟩ := hR
  refine lv_aload_n hx hb dL_law_385 rfl (lv_at hl 2 rfl) ?_
  refine lv_aload_n hx hb dL_law_386 rfl (lv_at hl 3 rfl) ?_
  refine lv_iload_n hx hb dL_law_387 rfl (lv_at hl 0 rfl) ?_
  refine lv_iconst (v := 1) hx hb dL_law_388 (by decide) ?_
  refine lv_iadd hx hb dL_law_389 ?_
  refine va_sld hx hb hX hbl hbA hS (sc_in1 hk hL) dL_law_390 ?_
  refine xcalli (va_runV (As := [.int (xs (nI k + 1).toNatClampNeg)]) (rest := []) ⟨hx, hb, hml, hown, hts⟩ (c_X7_tear l dC dI ao co 600 0 H.size Io Jo So Lo ((xs (nI k + 1).toNatClampNeg)) _ (u_X7_tear ((xs (nI k + 1).toNatClampNeg)) hR)) (cwV 1 hts gL_law_X7_tear rfl rfl rfl (by decide +kernel) ⟨(Nat.le_of_ble_eq_true rfl), (Nat.le_of_ble_eq_true rfl)⟩) (g_pV hPo hKo hDo hN (va_recv hKo hPo (ci := 7) (q0 := 0) rfl (wO_atO _ _ _ _ _ _ _ _)) [.int (xs (nI k + 1).toNatClampNeg)]) rfl rfl hl.1 rfl (lv_room (Nat.le_of_ble_eq_true rfl)) dL_law_391 ⟨(Nat.le_of_ble_eq_true rfl), (Nat.le_of_ble_eq_true rfl)⟩) hS hA hDo hPm hXX (fun r1 Io1 Jo1 So1 Lo1 H locs hPo hDo hPm hS h1 => ?_)
  refine lv_pop hx hb dL_law_394 rfl ?_
  refine lv_aload_n hx hb dL_law_395 rfl (lv_at hl 1 rfl) ?_
  refine lv_aload_n hx hb dL_law_396 rfl (lv_at hl 3 rfl) ?_
  refine lv_iload_n hx hb dL_law_397 rfl (lv_at hl 0 rfl) ?_
  refine lv_iconst (v := 1) hx hb dL_law_398 (by decide) ?_
  refine lv_iadd hx hb dL_law_399 ?_
  refine va_sld hx hb hX hbl hbA hS (sc_in1 hk hL) dL_law_400 ?_
  have hXX := Dis.tr hXX (wO_adr ao co 600 0 Io Jo So Lo Io1 Jo1 So1 Lo1) (wM_adr am cm Im Jm Sm Lm Im Jm Sm Lm)
  refine xcalli (va_runV (As := [.int (xs (nI k + 1).toNatClampNeg)]) (rest := []) ⟨hx, hb, hml, hown, hts⟩ (c_X8_tear l dC dI am cm H.size Im Jm Sm Lm ((xs (nI k + 1).toNatClampNeg)) _ (u_X8_tear ((xs (nI k + 1).toNatClampNeg)) hR)) (cwV 1 hts gL_law_X8_tear rfl rfl rfl (by decide +kernel) ⟨(Nat.le_of_ble_eq_true rfl), (Nat.le_of_ble_eq_true rfl)⟩) (g_pV hPm hKm hDm hN (va_recv hKm hPm (ci := 8) (q0 := 0) rfl (wM_at0 _ _ _ _ _ _)) [.int (xs (nI k + 1).toNatClampNeg)]) rfl rfl hl.1 rfl (lv_room (Nat.le_of_ble_eq_true rfl)) dL_law_401 ⟨(Nat.le_of_ble_eq_true rfl), (Nat.le_of_ble_eq_true rfl)⟩) hS hA hDm hPo hXX.sy (fun r2 Im1 Jm1 Sm1 Lm1 H locs hPm hDm hPo hS h2 => ?_)
  have hXX := Dis.tr hXX (wO_adr ao co 600 0 Io1 Jo1 So1 Lo1 Io1 Jo1 So1 Lo1) (wM_adr am cm Im Jm Sm Lm Im1 Jm1 Sm1 Lm1)
  refine lv_pop hx hb dL_law_404 rfl ?_
  refine lv_goto (tgt := 770) hx hb dL_law_405 (by decide) ?_
  exact K _ _ _ _ _ _ _ _ H locs (rr_tear hR h1 h2) hDo hDm hXX hPo hPm hS
