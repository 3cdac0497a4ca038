set_option maxHeartbeats 4000000 in
set_option maxRecDepth 100000 in
theorem law_c4 {p : Program} {e : Env} {s : State} {m : MethodId} {below : List Frame} {meth : Method} {c : Code} (l : Launch) {b L : Nat} {xs : Nat → Int32} (C0 : lw_At p s m meth c b L xs) (hL : L ≤ 4608) (dC : Nat → ClassId) (dI : Nat → Nat → Nat) (ao am : Nat → Nat) (co cm : Nat → ClassId) (hKo : va_K (dC, dI) vwCl (tyL co) s) (hKm : va_K (dC, dI) vwCl (tyM cm) s) (hN : gN s) {k : Nat} (hk : k + 9 ≤ L) (ls : Array Slot) (hl : lv_has ls 4 [(3, .int (nI (k))), (2, .ref (am 0)), (1, .ref (ao 53)), (0, .ref b)]) (K : ∀ (Io : TI) (Jo : TJ) (So : TS) (Lo : TL) (Im : TI) (Jm : TJ) (Sm : TS) (Lm : TL) (H : Heap) (locs : List Loc), RR Io Jo So Lo Im Jm Sm Lm → va_D (fun q : Nat => s.heap.size ≤ q) (wO ao co 600 0 Io Jo So Lo) → va_D (fun q : Nat => s.heap.size ≤ q) (wM am cm Im Jm Sm Lm) → Dis (wO ao co 600 0 Io Jo So Lo) (wM am cm Im Jm Sm Lm) → va_P (dC, dI) vwCl (wO ao co 600 0 Io Jo So Lo) H → va_P (dC, dI) vwCl (wM am cm Im Jm Sm Lm) H → va_S (fun q : Nat => s.heap.size ≤ q) s.heap H locs → W p l e room_1 s m #[Value.ref b] below meth c H locs 300 60000 (lw_Z below #[Value.ref b] s) (F0 m 770 ls [])) (Io : TI) (Jo : TJ) (So : TS) (Lo : TL) (Im : TI) (Jm : TJ) (Sm : TS) (Lm : TL) (H : Heap) (locs : List Loc) (hR : RR Io Jo So Lo Im Jm Sm Lm) (hDo : va_D (fun q : Nat => s.heap.size ≤ q) (wO ao co 600 0 Io Jo So Lo)) (hDm : va_D (fun q : Nat => s.heap.size ≤ q) (wM am cm Im Jm Sm Lm)) (hXX : Dis (wO ao co 600 0 Io Jo So Lo) (wM am cm Im Jm Sm Lm)) (hPo : va_P (dC, dI) vwCl (wO ao co 600 0 Io Jo So Lo) H) (hPm : va_P (dC, dI) vwCl (wM am cm Im Jm Sm Lm) H) (hS : va_S (fun q : Nat => s.heap.size ≤ q) s.heap H locs) : W p l e room_1 s m #[Value.ref b] below meth c H locs 300 60000 (lw_Z below #[Value.ref b] s) (F0 m 408 ls []) := by
  obtain ⟨hx, hb, hr, hml, hown, hts0, hX, hbl, hlocks, hgv⟩ := id C0
  have hts := fun w h => hts0 w (wsL_law_in w h)
  have hA : ∀ q : Nat, s.heap.size ≤ q → (fun q : Nat => s.heap.size ≤ q) q := fun _ h => h
  have hbA : ¬ (fun q : Nat => s.heap.size ≤ q) b := Nat.not_le.mpr hbl
  obtain ⟨cc, b9, q9, Z9, hR⟩ := hR
  refine lv_aload_n hx hb dL_law_408 rfl (lv_at hl 2 rfl) ?_
  refine lv_aload_n hx hb dL_law_409 rfl (lv_at hl 3 rfl) ?_
  refine lv_iload_n hx hb dL_law_410 rfl (lv_at hl 0 rfl) ?_
  refine lv_iconst (v := 1) hx hb dL_law_411 (by decide) ?_
  refine lv_iadd hx hb dL_law_412 ?_
  refine va_sld hx hb hX hbl hbA hS (sc_in1 hk hL) dL_law_413 ?_
  refine lv_aload_n hx hb dL_law_414 rfl (lv_at hl 3 rfl) ?_
  refine lv_iload_n hx hb dL_law_415 rfl (lv_at hl 0 rfl) ?_
  refine lv_iconst (v := 2) hx hb dL_law_416 (by decide) ?_
  refine lv_iadd hx hb dL_law_417 ?_
  refine va_sld hx hb hX hbl hbA hS (sc_in2 hk hL) dL_law_418 ?_
  refine xcalll (va_runV (As := [.int (xs (nI k + 1).toNatClampNeg), .int (xs (nI k + 2).toNatClampNeg)]) (rest := []) ⟨hx, hb, hml, hown, hts⟩ (c_X7_sent l dC dI ao co 600 0 H.size Io Jo So Lo ((xs (nI k + 1).toNatClampNeg)) ((xs (nI k + 2).toNatClampNeg)) _ (u_X7_sent ((xs (nI k + 1).toNatClampNeg)) ((xs (nI k + 2).toNatClampNeg)) hR)) (cwV 2 hts gL_law_X7_sent rfl rfl rfl (by decide +kernel) ⟨(Nat.le_of_ble_eq_true rfl), (Nat.le_of_ble_eq_true rfl)⟩) (g_pV hPo hKo hDo hN (va_recv hKo hPo (ci := 7) (q0 := 0) rfl (wO_atO _ _ _ _ _ _ _ _)) [.int (xs (nI k + 1).toNatClampNeg), .int (xs (nI k + 2).toNatClampNeg)]) rfl rfl hl.1 rfl (lv_room (Nat.le_of_ble_eq_true rfl)) dL_law_419 ⟨(Nat.le_of_ble_eq_true rfl), (Nat.le_of_ble_eq_true rfl)⟩) hS hA hDo hPm hXX (fun r1 Io1 Jo1 So1 Lo1 H locs hPo hDo hPm hS h1 => ?_)
  refine lv_pop2_2 hx hb dL_law_422 rfl ?_
  refine lv_aload_n hx hb dL_law_423 rfl (lv_at hl 1 rfl) ?_
  refine lv_aload_n hx hb dL_law_424 rfl (lv_at hl 3 rfl) ?_
  refine lv_iload_n hx hb dL_law_425 rfl (lv_at hl 0 rfl) ?_
  refine lv_iconst (v := 1) hx hb dL_law_426 (by decide) ?_
  refine lv_iadd hx hb dL_law_427 ?_
  refine va_sld hx hb hX hbl hbA hS (sc_in1 hk hL) dL_law_428 ?_
  refine lv_aload_n hx hb dL_law_429 rfl (lv_at hl 3 rfl) ?_
  refine lv_iload_n hx hb dL_law_430 rfl (lv_at hl 0 rfl) ?_
  refine lv_iconst (v := 2) hx hb dL_law_431 (by decide) ?_
  refine lv_iadd hx hb dL_law_432 ?_
  refine va_sld hx hb hX hbl hbA hS (sc_in2 hk hL) dL_law_433 ?_
  have hXX := Dis.tr hXX (wO_adr ao co 600 0 Io Jo So Lo Io1 Jo1 So1 Lo1) (wM_adr am cm Im Jm Sm Lm Im Jm Sm Lm)
  refine xcalll (va_runV (As := [.int (xs (nI k + 1).toNatClampNeg), .int (xs (nI k + 2).toNatClampNeg)]) (rest := []) ⟨hx, hb, hml, hown, hts⟩ (c_X8_sent l dC dI am cm H.size Im Jm Sm Lm ((xs (nI k + 1).toNatClampNeg)) ((xs (nI k + 2).toNatClampNeg)) _ (u_X8_sent ((xs (nI k + 1).toNatClampNeg)) ((xs (nI k + 2).toNatClampNeg)) hR)) (cwV 2 hts gL_law_X8_sent rfl rfl rfl (by decide +kernel) ⟨(Nat.le_of_ble_eq_true rfl), (Nat.le_of_ble_eq_true rfl)⟩) (g_pV hPm hKm hDm hN (va_recv hKm hPm (ci := 8) (q0 := 0) rfl (wM_at0 _ _ _ _ _ _)) [.int (xs (nI k + 1).toNatClampNeg), .int (xs (nI k + 2).toNatClampNeg)]) rfl rfl hl.1 rfl (lv_room (Nat.le_of_ble_eq_true rfl)) dL_law_434 ⟨(Nat.le_of_ble_eq_true rfl), (Nat.le_of_ble_eq_true rfl)⟩) hS hA hDm hPo hXX.sy (fun r2 Im1 Jm1 Sm1 Lm1 H locs hPm hDm hPo hS h2 => ?_)
  have hXX := Dis.tr hXX (wO_adr ao co 600 0 Io1 Jo1 So1 Lo1 Io1 Jo1 So1 Lo1) (wM_adr am cm Im Jm Sm Lm Im1 Jm1 Sm1 Lm1)
  refine lv_pop2_2 hx hb dL_law_437 rfl ?_
  refine lv_goto (tgt := 770) hx hb dL_law_438 (by decide) ?_
  exact K _ _ _ _ _ _ _ _ H locs (rr_sent hR h1 h2) hDo hDm hXX hPo hPm hS
set_option maxHeartbeats 4000000 in
set_option maxRecDepth 100000 in
theorem law_c5 {p : Program} {e : Env} {s : State} {m : MethodId} {below : List Frame} {meth : Method} {c : Code} (l : Launch) {b L : Nat} {xs : Nat → Int32} (C0 : lw_At p s m meth c b L xs) (hL : L ≤ 4608) (dC : Nat → ClassId) (dI : Nat → Nat → Nat) (ao am : Nat → Nat) (co cm : Nat → ClassId) (hKo : va_K (dC, dI) vwCl (tyL co) s) (hKm : va_K (dC, dI) vwCl (tyM cm) s) (hN : gN s) {k : Nat} (hk : k + 9 ≤ L) (ls : Array Slot) (hl : lv_has ls 4 [(3, .int (nI (k))), (2, .ref (am 0)), (1, .ref (ao 53)), (0, .ref b)]) (K : ∀ (Io : TI) (Jo : TJ) (So : TS) (Lo : TL) (Im : TI) (Jm : TJ) (Sm : TS) (Lm : TL) (H : Heap) (locs : List Loc), RR Io Jo So Lo Im Jm Sm Lm → va_D (fun q : Nat => s.heap.size ≤ q) (wO ao co 600 0 Io Jo So Lo) → va_D (fun q : Nat => s.heap.size ≤ q) (wM am cm Im Jm Sm Lm) → Dis (wO ao co 600 0 Io Jo So Lo) (wM am cm Im Jm Sm Lm) → va_P (dC, dI) vwCl (wO ao co 600 0 Io Jo So Lo) H → va_P (dC, dI) vwCl (wM am cm Im Jm Sm Lm) H → va_S (fun q : Nat => s.heap.size ≤ q) s.heap H locs → W p l e room_1 s m #[Value.ref b] below meth c H locs 300 60000 (lw_Z below #[Value.ref b] s) (F0 m 770 ls [])) (Io : TI) (Jo : TJ) (So : TS) (Lo : TL) (Im : TI) (Jm : TJ) (Sm : TS) (Lm : TL) (H : Heap) (locs : List Loc) (hR : RR Io Jo So Lo Im Jm Sm Lm) (hDo : va_D (fun q : Nat => s.heap.size ≤ q) (wO ao co 600 0 Io Jo So Lo)) (hDm : va_D (fun q : Nat => s.heap.size ≤ q) (wM am cm Im Jm Sm Lm)) (hXX : Dis (wO ao co 600 0 Io Jo So Lo) (wM am cm Im Jm Sm Lm)) (hPo : va_P (dC, dI) vwCl (wO ao co 600 0 Io Jo So Lo) H) (hPm : va_P (dC, dI) vwCl (wM am cm Im Jm Sm Lm) H) (hS : va_S (fun q : Nat => s.heap.size ≤ q) s.heap H locs) : W p l e room_1 s m #[Value.ref b] below meth c H locs 300 60000 (lw_Z below #[Value.ref b] s) (F0 m 441 ls []) := by
  obtain ⟨hx, hb, hr, hml, hown, hts0, hX, hbl, hlocks, hgv⟩ := id C0
  have hts := fun w h => hts0 w (wsL_law_in w h)
  have hA : ∀ q : Nat, s.heap.size ≤ q → (fun q : Nat => s.heap.size ≤ q) q := fun _ h => h
  have hbA : ¬ (fun q : Nat => s.heap.size ≤ q) b := Nat.not_le.mpr hbl
  obtain ⟨cc, b9, q9, Z9, hR⟩ := hR
  refine lv_aload_n hx hb dL_law_441 rfl (lv_at hl 2 rfl) ?_
  refine xcalli (va_runV (As := []) (rest := []) ⟨hx, hb, hml, hown, hts⟩ (c_X7_close l dC dI ao co 600 0 H.size Io Jo So Lo  _ (u_X7_close  hR)) (cwV 0 hts gL_law_X7_close rfl rfl rfl (by decide +kernel) ⟨(Nat.le_of_ble_eq_true rfl), (Nat.le_of_ble_eq_true rfl)⟩) (g_pV hPo hKo hDo hN (va_recv hKo hPo (ci := 7) (q0 := 0) rfl (wO_atO _ _ _ _ _ _ _ _)) []) rfl rfl hl.1 rfl (lv_room (Nat.le_of_ble_eq_true rfl)) dL_law_442 ⟨(Nat.le_of_ble_eq_true rfl), (Nat.le_of_ble_eq_true rfl)⟩) hS hA hDo hPm hXX (fun r1 Io1 Jo1 So1 Lo1 H locs hPo hDo hPm hS h1 => ?_)
  refine lv_pop hx hb dL_law_445 rfl ?_
  refine lv_aload_n hx hb dL_law_446 rfl (lv_at hl 1 rfl) ?_
  have hXX := Dis.tr hXX (wO_adr ao co 600 0 Io Jo So Lo Io1 Jo1 So1 Lo1) (wM_adr am cm Im Jm Sm Lm Im Jm Sm Lm)
  refine xcalli (va_runV (As := []) (rest := []) ⟨hx, hb, hml, hown, hts⟩ (c_X8_close l dC dI am cm H.size Im Jm Sm Lm  _ (u_X8_close  hR)) (cwV 0 hts gL_law_X8_close rfl rfl rfl (by decide +kernel) ⟨(Nat.le_of_ble_eq_true rfl), (Nat.le_of_ble_eq_true rfl)⟩) (g_pV hPm hKm hDm hN (va_recv hKm hPm (ci := 8) (q0 := 0) rfl (wM_at0 _ _ _ _ _ _)) []) rfl rfl hl.1 rfl (lv_room (Nat.le_of_ble_eq_true rfl)) dL_law_447 ⟨(Nat.le_of_ble_eq_true rfl), (Nat.le_of_ble_eq_true rfl)⟩) hS hA hDm hPo hXX.sy (fun r2 Im1 Jm1 Sm1 Lm1 H locs hPm hDm hPo hS h2 => ?_)
  have hXX := Dis.tr hXX (wO_adr ao co 600 0 Io1 Jo1 So1 Lo1 Io1 Jo1 So1 Lo1) (wM_adr am cm Im Jm Sm Lm Im1 Jm1 Sm1 Lm1)
  refine lv_pop hx hb dL_law_450 rfl ?_
  refine lv_goto (tgt := 770) hx hb dL_law_451 (by decide) ?_
  exact K _ _ _ _ _ _ _ _ H locs (rr_close hR h1 h2) hDo hDm hXX hPo hPm hS
set_option maxHeartbeats 4000000 in
set_option maxRecDepth 100000 in
theorem law_c6 {p : Program} {e : Env} {s : State} {m : MethodId} {below : List Frame} {meth : Method} {c : Code} (l : Launch) {b L : Nat} {xs : Nat → Int32} (C0 : lw_At p s m meth c b L xs) (hL : L ≤ 4608) (dC : Nat → ClassId) (dI : Nat → Nat → Nat) (ao am : Nat → Nat) (co cm : Nat → ClassId) (hKo : va_K (dC, dI) vwCl (tyL co) s) (hKm : va_K (dC, dI) vwCl (tyM cm) s) (hN : gN s) {k : Nat} (hk : k + 9 ≤ L) (ls : Array Slot) (hl : lv_has ls 4 [(3, .int (nI (k))), (2, .ref (am 0)), (1, .ref (ao 53)), (0, .ref b)]) (K : ∀ (Io : TI) (Jo : TJ) (So : TS) (Lo : TL) (Im : TI) (Jm : TJ) (Sm : TS) (Lm : TL) (H : Heap) (locs : List Loc), RR Io Jo So Lo Im Jm Sm Lm → va_D (fun q : Nat => s.heap.size ≤ q) (wO ao co 600 0 Io Jo So Lo) → va_D (fun q : Nat => s.heap.size ≤ q) (wM am cm Im Jm Sm Lm) → Dis (wO ao co 600 0 Io Jo So Lo) (wM am cm Im Jm Sm Lm) → va_P (dC, dI) vwCl (wO ao co 600 0 Io Jo So Lo) H → va_P (dC, dI) vwCl (wM am cm Im Jm Sm Lm) H → va_S (fun q : Nat => s.heap.size ≤ q) s.heap H locs → W p l e room_1 s m #[Value.ref b] below meth c H locs 300 60000 (lw_Z below #[Value.ref b] s) (F0 m 770 ls [])) (Io : TI) (Jo : TJ) (So : TS) (Lo : TL) (Im : TI) (Jm : TJ) (Sm : TS) (Lm : TL) (H : Heap) (locs : List Loc) (hR : RR Io Jo So Lo Im Jm Sm Lm) (hDo : va_D (fun q : Nat => s.heap.size ≤ q) (wO ao co 600 0 Io Jo So Lo)) (hDm : va_D (fun q : Nat => s.heap.size ≤ q) (wM am cm Im Jm Sm Lm)) (hXX : Dis (wO ao co 600 0 Io Jo So Lo) (wM am cm Im Jm Sm Lm)) (hPo : va_P (dC, dI) vwCl (wO ao co 600 0 Io Jo So Lo) H) (hPm : va_P (dC, dI) vwCl (wM am cm Im Jm Sm Lm) H) (hS : va_S (fun q : Nat => s.heap.size ≤ q) s.heap H locs) : W p l e room_1 s m #[Value.ref b] below meth c H locs 300 60000 (lw_Z below #[Value.ref b] s) (F0 m 454 ls []) := by
  obtain ⟨hx, hb, hr, hml, hown, hts0, hX, hbl, hlocks, hgv⟩ := id C0
  have hts := fun w h => hts0 w (wsL_law_in w h)
  have hA : ∀ q : Nat, s.heap.size ≤ q → (fun q : Nat => s.heap.size ≤ q) q := fun _ h => h
  have hbA : ¬ (fun q : Nat => s.heap.size ≤ q) b := Nat.not_le.mpr hbl
  obtain ⟨cc, b9, q9, Z9, hR⟩ := hR
  refine lv_aload_n hx hb dL_law_454 rfl (lv_at hl 2 rfl) ?_
  refine lv_aload_n hx hb dL_law_455 rfl (lv_at hl 3 rfl) ?_
  refine lv_iload_n hx hb dL_law_456 rfl (lv_at hl 0 rfl) ?_
  refine lv_iconst (v := 1) hx hb dL_law_457 (by decide) ?_
  refine lv_iadd hx hb dL_law_458 ?_
  refine va_sld hx hb hX hbl hbA hS (sc_in1 hk hL) dL_law_459 ?_
  refine lv_aload_n hx hb dL_law_460 rfl (lv_at hl 3 rfl) ?_
  refine lv_iload_n hx hb dL_law_461 rfl (lv_at hl 0 rfl) ?_
  refine lv_iconst (v := 2) hx hb dL_law_462 (by decide) ?_
  refine lv_iadd hx hb dL_law_463 ?_
  refine va_sld hx hb hX hbl hbA hS (sc_in2 hk hL) dL_law_464 ?_
  refine xcalli (va_runV (As := [.int (xs (nI k + 1).toNatClampNeg), .int (xs (nI k + 2).toNatClampNeg)]) (rest := []) ⟨hx, hb, hml, hown, hts⟩ (c_X7_due l dC dI ao co 600 0 H.size Io Jo So Lo ((xs (nI k + 1).toNatClampNeg)) ((xs (nI k + 2).toNatClampNeg)) _ (u_X7_due ((xs (nI k + 1).toNatClampNeg)) ((xs (nI k + 2).toNatClampNeg)) hR)) (cwV 2 hts gL_law_X7_due rfl rfl rfl (by decide +kernel) ⟨(Nat.le_of_ble_eq_true rfl), (Nat.le_of_ble_eq_true rfl)⟩) (g_pV hPo hKo hDo hN (va_recv hKo hPo (ci := 7) (q0 := 0) rfl (wO_atO _ _ _ _ _ _ _ _)) [.int (xs (nI k + 1).toNatClampNeg), .int (xs (nI k + 2).toNatClampNeg)]) rfl rfl hl.1 rfl (lv_room (Nat.le_of_ble_eq_true rfl)) dL_law_465 ⟨(Nat.le_of_ble_eq_true rfl), (Nat.le_of_ble_eq_true rfl)⟩) hS hA hDo hPm hXX (fun r1 Io1 Jo1 So1 Lo1 H locs hPo hDo hPm hS h1 => ?_)
  refine lv_pop hx hb dL_law_468 rfl ?_
  refine lv_aload_n hx hb dL_law_469 rfl (lv_at hl 1 rfl) ?_
  refine lv_aload_n hx hb dL_law_470 rfl (lv_at hl 3 rfl) ?_
  refine lv_iload_n hx hb dL_law_471 rfl (lv_at hl 0 rfl) ?_
  refine lv_iconst (v := 1) hx hb dL_law_472 (by decide) ?_
  refine lv_iadd hx hb dL_law_473 ?_
  refine va_sld hx hb hX hbl hbA hS (sc_in1 hk hL) dL_law_474 ?_
  refine lv_aload_n hx hb dL_law_475 rfl (lv_at hl 3 rfl) ?_
  refine lv_iload_n hx hb dL_law_476 rfl (lv_at hl 0 rfl) ?_
  refine lv_iconst (v := 2) hx hb dL_law_477 (by decide) ?_
  refine lv_iadd hx hb dL_law_478 ?_
  refine va_sld hx hb hX hbl hbA hS (sc_in2 hk hL) dL_law_479 ?_
  have hXX := Dis.tr hXX (wO_adr ao co 600 0 Io Jo So Lo Io1 Jo1 So1 Lo1) (wM_adr am cm Im Jm Sm Lm Im Jm Sm Lm)
  refine xcalli (va_runV (As := [.int (xs (nI k + 1).toNatClampNeg), .int (xs (nI k + 2).toNatClampNeg)]) (rest := []) ⟨hx, hb, hml, hown, hts⟩ (c_X8_due l dC dI am cm H.size Im Jm Sm Lm ((xs (nI k + 1).toNatClampNeg)) ((xs (nI k + 2).toNatClampNeg)) _ (u_X8_due ((xs (nI k + 1).toNatClampNeg)) ((xs (nI k + 2).toNatClampNeg)) hR)) (cwV 2 hts gL_law_X8_due rfl rfl rfl (by decide +kernel) ⟨(Nat.le_of_ble_eq_true rfl), (Nat.le_of_ble_eq_true rfl)⟩) (g_pV hPm hKm hDm hN (va_recv hKm hPm (ci := 8) (q0 := 0) rfl (wM_at0 _ _ _ _ _ _)) [.int (xs (nI k + 1).toNatClampNeg), .int (xs (nI k + 2).toNatClampNeg)]) rfl rfl hl.1 rfl (lv_room (Nat.le_of_ble_eq_true rfl)) dL_law_480 ⟨(Nat.le_of_ble_eq_true rfl), (Nat.le_of_ble_eq_true rfl)⟩) hS hA hDm hPo hXX.sy (fun r2 Im1 Jm1 Sm1 Lm1 H locs hPm hDm hPo hS h2 => ?_)
  have hXX := Dis.tr hXX (wO_adr ao co 600 0 Io1 Jo1 So1 Lo1 Io1 Jo1 So1 Lo1) (wM_adr am cm Im Jm Sm Lm Im1 Jm1 Sm1 Lm1)
  refine lv_pop hx hb dL_law_483 rfl ?_
  refine lv_goto (tgt := 770) hx hb dL_law_484 (by decide) ?_
  exact K _ _ _ _ _ _ _ _ H locs (rr_due hR h1 h2) hDo hDm hXX hPo hPm hS
set_option maxHeartbeats 4000000 in
set_option maxRecDepth 100000 in
theorem law_c7 {p : Program} {e : Env} {s : State} {m : MethodId} {below : List Frame} {meth : Method} {c : Code} (l : Launch) {b L : Nat} {xs : Nat → Int32} (C0 : lw_At p s m meth c b L xs) (hL : L ≤ 4608) (dC : Nat → ClassId) (dI : Nat → Nat → Nat) (ao am : Nat → Nat) (co cm : Nat → ClassId) (hKo : va_K (dC, dI) vwCl (tyL co) s) (hKm : va_K (dC, dI) vwCl (tyM cm) s) (hN : gN s) {k : Nat} (hk : k + 9 ≤ L) (ls : Array Slot) (hl : lv_has ls 4 [(3, .int (nI (k))), (2, .ref (am 0)), (1, .ref (ao 53)), (0, .ref b)]) (K : ∀ (Io : TI) (Jo : TJ) (So : TS) (Lo : TL) (Im : TI) (Jm : TJ) (Sm : TS) (Lm : TL) (H : Heap) (locs : List Loc), RR Io Jo So Lo Im Jm Sm Lm → va_D (fun q : Nat => s.heap.size ≤ q) (wO ao co 600 0 Io Jo So Lo) → va_D (fun q : Nat => s.heap.size ≤ q) (wM am cm Im Jm Sm Lm) → Dis (wO ao co 600 0 Io Jo So Lo) (wM am cm Im Jm Sm Lm) → va_P (dC, dI) vwCl (wO ao co 600 0 Io Jo So Lo) H → va_P (dC, dI) vwCl (wM am cm Im Jm Sm Lm) H → va_S (fun q : Nat => s.heap.size ≤ q) s.heap H locs → W p l e room_1 s m #[Value.ref b] below meth c H locs 300 60000 (lw_Z below #[Value.ref b] s) (F0 m 770 ls [])) (Io : TI) (Jo : TJ) (So : TS) (Lo : TL) (Im : TI) (Jm : TJ) (Sm : TS) (Lm : TL) (H : Heap) (locs : List Loc) (hR : RR Io Jo So Lo Im Jm Sm Lm) (hDo : va_D (fun q : Nat => s.heap.size ≤ q) (wO ao co 600 0 Io Jo So Lo)) (hDm : va_D (fun q : Nat => s.heap.size ≤ q) (wM am cm Im Jm Sm Lm)) (hXX : Dis (wO ao co 600 0 Io Jo So Lo) (wM am cm Im Jm Sm Lm)) (hPo : va_P (dC, dI) vwCl (wO ao co 600 0 Io Jo So Lo) H) (hPm : va_P (dC, dI) vwCl (wM am cm Im Jm Sm Lm) H) (hS : va_S (fun q : Nat => s.heap.size ≤ q) s.heap H locs) : W p l e room_1 s m #[Value.ref b] below meth c H locs 300 60000 (lw_Z below #[Value.ref b] s) (F0 m 487 ls []) := by
  obtain ⟨hx, hb, hr, hml, hown, hts0, hX, hbl, hlocks, hgv⟩ := id C0
  have hts := fun w h => hts0 w (wsL_law_in w h)
  have hA : ∀ q : Nat, s.heap.size ≤ q → (fun q : Nat => s.heap.size ≤ q) q := fun _ h => h
  have hbA : ¬ (fun q : Nat => s.heap.size ≤ q) b := Nat.not_le.mpr hbl
  obtain ⟨cc, b9, q9, Z9, hR⟩ := hR
  refine lv_aload_n hx hb dL_law_487 rfl (lv_at hl 2 rfl) ?_
  refine lv_aload_n hx hb dL_law_488 rfl (lv_at hl 3 rfl) ?_
  refine lv_iload_n hx hb dL_law_489 rfl (lv_at hl 0 rfl) ?_
  refine lv_iconst (v := 1) hx hb dL_law_490 (by decide) ?_
  refine lv_iadd hx hb dL_law_491 ?_
  refine va_sld hx hb hX hbl hbA hS (sc_in1 hk hL) dL_law_492 ?_
  refine lv_aload_n hx hb dL_law_493 rfl (lv_at hl 3 rfl) ?_
  refine lv_iload_n hx hb dL_law_494 rfl (lv_at hl 0 rfl) ?_
  refine lv_iconst (v := 2) hx hb dL_law_495 (by decide) ?_
  refine lv_iadd hx hb dL_law_496 ?_
  refine va_sld hx hb hX hbl hbA hS (sc_in2 hk hL) dL_law_497 ?_
  refine xcalll (va_runV (As := [.int (xs (nI k + 1).toNatClampNeg), .int (xs (nI k + 2).toNatClampNeg)]) (rest := []) ⟨hx, hb, hml, hown, hts⟩ (c_X7_hand l dC dI ao co 600 0 H.size Io Jo So Lo ((xs (nI k + 1).toNatClampNeg)) ((xs (nI k + 2).toNatClampNeg)) _ (u_X7_hand ((xs (nI k + 1).toNatClampNeg)) ((xs (nI k + 2).toNatClampNeg)) hR)) (cwV 2 hts gL_law_X7_hand rfl rfl rfl (by decide +kernel) ⟨(Nat.le_of_ble_eq_true rfl), (Nat.le_of_ble_eq_true rfl)⟩) (g_pV hPo hKo hDo hN (va_recv hKo hPo (ci := 7) (q0 := 0) rfl (wO_atO _ _ _ _ _ _ _ _)) [.int (xs (nI k + 1).toNatClampNeg), .int (xs (nI k + 2).toNatClampNeg)]) rfl rfl hl.1 rfl (lv_room (Nat.le_of_ble_eq_true rfl)) dL_law_498 ⟨(Nat.le_of_ble_eq_true rfl), (Nat.le_of_ble_eq_true rfl)⟩) hS hA hDo hPm hXX (fun r1 Io1 Jo1 So1 Lo1 H locs hPo hDo hPm hS h1 => ?_)
  refine lv_pop2_2 hx hb dL_law_501 rfl ?_
  refine lv_aload_n hx hb dL_law_502 rfl (lv_at hl 1 rfl) ?_
  refine lv_aload_n hx hb dL_law_503 rfl (lv_at hl 3 rfl) ?_
  refine lv_iload_n hx hb dL_law_504 rfl (lv_at hl 0 rfl) ?_
  refine lv_iconst (v := 1) hx hb dL_law_505 (by decide) ?_
  refine lv_iadd hx hb dL_law_506 ?_
  refine va_sld hx hb hX hbl hbA hS (sc_in1 hk hL) dL_law_507 ?_
  refine lv_aload_n hx hb dL_law_508 rfl (lv_at hl 3 rfl) ?_
  refine lv_iload_n hx hb dL_law_509 rfl (lv_at hl 0 rfl) ?_
  refine lv_iconst (v := 2) hx hb dL_law_510 (by decide) ?_
  refine lv_iadd hx hb dL_law_511 ?_
  refine va_sld hx hb hX hbl hbA hS (sc_in2 hk hL) dL_law_512 ?_
  have hXX := Dis.tr hXX (wO_adr ao co 600 0 Io Jo So Lo Io1 Jo1 So1 Lo1) (wM_adr am cm Im Jm Sm Lm Im Jm Sm Lm)
  refine xcalll (va_runV (As := [.int (xs (nI k + 1).toNatClampNeg), .int (xs (nI k + 2).toNatClampNeg)]) (rest := []) ⟨hx, hb, hml, hown, hts⟩ (c_X8_hand l dC dI am cm H.size Im Jm Sm Lm ((xs (nI k + 1).toNatClampNeg)) ((xs (nI k + 2).toNatClampNeg)) _ (u_X8_hand ((xs (nI k + 1).toNatClampNeg)) ((xs (nI k + 2).toNatClampNeg)) hR)) (cwV 2 hts gL_law_X8_hand rfl rfl rfl (by decide +kernel) ⟨(Nat.le_of_ble_eq_true rfl), (Nat.le_of_ble_eq_true rfl)⟩) (g_pV hPm hKm hDm hN (va_recv hKm hPm (ci := 8) (q0 := 0) rfl (wM_at0 _ _ _ _ _ _)) [.int (xs (nI k + 1).toNatClampNeg), .int (xs (nI k + 2).toNatClampNeg)]) rfl rfl hl.1 rfl (lv_room (Nat.le_of_ble_eq_true rfl)) dL_law_513 ⟨(Nat.le_of_ble_eq_true rfl), (Nat.le_of_ble_eq_true rfl)⟩) hS hA hDm hPo hXX.sy (fun r2 Im1 Jm1 Sm1 Lm1 H locs hPm hDm hPo hS h2 => ?_)
  have hXX := Dis.tr hXX (wO_adr ao co 600 0 Io1 Jo1 So1 Lo1 Io1 Jo1 So1 Lo1) (wM_adr am cm Im Jm Sm Lm Im1 Jm1 Sm1 Lm1)
  refine lv_pop2_2 hx hb dL_law_516 rfl ?_
  refine lv_goto (tgt := 770) hx hb dL_law_517 (by decide) ?_
  exact K _ _ _ _ _ _ _ _ H locs (rr_hand hR h1 h2) hDo hDm hXX hPo hPm hS
set_option maxHeartbeats 4000000 in
set_option maxRecDepth 100000 in
theorem law_c8 {p : Program} {e : Env} {s : State} {m : MethodId} {below : List Frame} {meth : Method} {c : Code} (l : Launch) {b L : Nat} {xs : Nat → Int32} (C0 : lw_At p s m meth c b L xs) (hL : L ≤ 4608) (dC : Nat → ClassId) (dI : Nat → Nat → Nat) (ao am : Nat → Nat) (co cm : Nat → ClassId) (hKo : va_K (dC, dI) vwCl (tyL co) s) (hKm : va_K (dC, dI) vwCl (tyM cm) s) (hN : gN s) {k : Nat} (hk : k + 9 ≤ L) (ls : Array Slot) (hl : lv_has ls 4 [(3, .int (nI (k))), (2, .ref (am 0)), (1, .ref (ao 53)), (0, .ref b)]) (K : ∀ (Io : TI) (Jo : TJ) (So : TS) (Lo : TL) (Im : TI) (Jm : TJ) (Sm : TS) (Lm : TL) (H : Heap) (locs : List Loc), RR Io Jo So Lo Im Jm Sm Lm → va_D (fun q : Nat => s.heap.size ≤ q) (wO ao co 600 0 Io Jo So Lo) → va_D (fun q : Nat => s.heap.size ≤ q) (wM am cm Im Jm Sm Lm) → Dis (wO ao co 600 0 Io Jo So Lo) (wM am cm Im Jm Sm Lm) → va_P (dC, dI) vwCl (wO ao co 600 0 Io Jo So Lo) H → va_P (dC, dI) vwCl (wM am cm Im Jm Sm Lm) H → va_S (fun q : Nat => s.heap.size ≤ q) s.heap H locs → W p l e room_1 s m #[Value.ref b] below meth c H locs 300 60000 (lw_Z below #[Value.ref b] s) (F0 m 770 ls [])) (Io : TI) (Jo : TJ) (So : TS) (Lo : TL) (Im : TI) (Jm : TJ) (Sm : TS) (Lm : TL) (H : Heap) (locs : List Loc) (hR : RR Io Jo So Lo Im Jm Sm Lm) (hDo : va_D (fun q : Nat => s.heap.size ≤ q) (wO ao co 600 0 Io Jo So Lo)) (hDm : va_D (fun q : Nat => s.heap.size ≤ q) (wM am cm Im Jm Sm Lm)) (hXX : Dis (wO ao co 600 0 Io Jo So Lo) (wM am cm Im Jm Sm Lm)) (hPo : va_P (dC, dI) vwCl (wO ao co 600 0 Io Jo So Lo) H) (hPm : va_P (dC, dI) vwCl (wM am cm Im Jm Sm Lm) H) (hS : va_S (fun q : Nat => s.heap.size ≤ q) s.heap H locs) : W p l e room_1 s m #[Value.ref b] below meth c H locs 300 60000 (lw_Z below #[Value.ref b] s) (F0 m 520 ls []) := by
  obtain ⟨hx, hb, hr, hml, hown, hts0, hX, hbl, hlocks, hgv⟩ := id C0
  have hts := fun w h => hts0 w (wsL_law_in w h)
  have hA : ∀ q : Nat, s.heap.size ≤ q → (fun q : Nat => s.heap.size ≤ q) q := fun _ h => h
  have hbA : ¬ (fun q : Nat => s.heap.size ≤ q) b := Nat.not_le.mpr hbl
  obtain ⟨cc, b9, q9, Z9, hR⟩ := hR
  refine lv_aload_n hx hb dL_law_520 rfl (lv_at hl 2 rfl) ?_
  refine lv_aload_n hx hb dL_law_521 rfl (lv_at hl 3 rfl) ?_
  refine lv_iload_n hx hb dL_law_522 rfl (lv_at hl 0 rfl) ?_
  refine lv_iconst (v := 1) hx hb dL_law_523 (by decide) ?_
  refine lv_iadd hx hb dL_law_524 ?_
  refine va_sld hx hb hX hbl hbA hS (sc_in1 hk hL) dL_law_525 ?_
  refine lv_aload_n hx hb dL_law_526 rfl (lv_at hl 3 rfl) ?_
  refine lv_iload_n hx hb dL_law_527 rfl (lv_at hl 0 rfl) ?_
  refine lv_iconst (v := 2) hx hb dL_law_528 (by decide) ?_
  refine lv_iadd hx hb dL_law_529 ?_
  refine va_sld hx hb hX hbl hbA hS (sc_in2 hk hL) dL_law_530 ?_
  refine xcalll (va_runV (As := [.int (xs (nI k + 1).toNatClampNeg), .int (xs (nI k + 2).toNatClampNeg)]) (rest := []) ⟨hx, hb, hml, hown, hts⟩ (c_X7_has l dC dI ao co 600 0 H.size Io Jo So Lo ((xs (nI k + 1).toNatClampNeg)) ((xs (nI k + 2).toNatClampNeg)) _ (u_X7_has ((xs (nI k + 1).toNatClampNeg)) ((xs (nI k + 2).toNatClampNeg)) hR)) (cwV 2 hts gL_law_X7_has rfl rfl rfl (by decide +kernel) ⟨(Nat.le_of_ble_eq_true rfl), (Nat.le_of_ble_eq_true rfl)⟩) (g_pV hPo hKo hDo hN (va_recv hKo hPo (ci := 7) (q0 := 0) rfl (wO_atO _ _ _ _ _ _ _ _)) [.int (xs (nI k + 1).toNatClampNeg), .int (xs (nI k + 2).toNatClampNeg)]) rfl rfl hl.1 rfl (lv_room (Nat.le_of_ble_eq_true rfl)) dL_law_531 ⟨(Nat.le_of_ble_eq_true rfl), (Nat.le_of_ble_eq_true rfl)⟩) hS hA hDo hPm hXX (fun r1 Io1 Jo1 So1 Lo1 H locs hPo hDo hPm hS h1 => ?_)
  refine lv_pop2_2 hx hb dL_law_534 rfl ?_
  refine lv_aload_n hx hb dL_law_535 rfl (lv_at hl 1 rfl) ?_
  refine lv_aload_n hx hb dL_law_536 rfl (lv_at hl 3 rfl) ?_
  refine lv_iload_n hx hb dL_law_537 rfl (lv_at hl 0 rfl) ?_
  refine lv_iconst (v := 1) hx hb dL_law_538 (by decide) ?_
  refine lv_iadd hx hb dL_law_539 ?_
  refine va_sld hx hb hX hbl hbA hS (sc_in1 hk hL) dL_law_540 ?_
  refine lv_aload_n hx hb dL_law_541 rfl (lv_at hl 3 rfl) ?_
  refine lv_iload_n hx hb dL_law_542 rfl (lv_at hl 0 rfl) ?_
  refine lv_iconst (v := 2) hx hb dL_law_543 (by decide) ?_
  refine lv_iadd hx hb dL_law_544 ?_
  refine va_sld hx hb hX hbl hbA hS (sc_in2 hk hL) dL_law_545 ?_
  have hXX := Dis.tr hXX (wO_adr ao co 600 0 Io Jo So Lo Io1 Jo1 So1 Lo1) (wM_adr am cm Im Jm Sm Lm Im Jm Sm Lm)
  refine xcalll (va_runV (As := [.int (xs (nI k + 1).toNatClampNeg), .int (xs (nI k + 2).toNatClampNeg)]) (rest := []) ⟨hx, hb, hml, hown, hts⟩ (c_X8_has l dC dI am cm H.size Im Jm Sm Lm ((xs (nI k + 1).toNatClampNeg)) ((xs (nI k + 2).toNatClampNeg)) _ (u_X8_has ((xs (nI k + 1).toNatClampNeg)) ((xs (nI k + 2).toNatClampNeg)) hR)) (cwV 2 hts gL_law_X8_has rfl rfl rfl (by decide +kernel) ⟨(Nat.le_of_ble_eq_true rfl), (Nat.le_of_ble_eq_true rfl)⟩) (g_pV hPm hKm hDm hN (va_recv hKm hPm (ci := 8) (q0 := 0) rfl (wM_at0 _ _ _ _ _ _)) [.int (xs (nI k + 1).toNatClampNeg), .int (xs (nI k + 2).toNatClampNeg)]) rfl rfl hl.1 rfl (lv_room (Nat.le_of_ble_eq_true rfl)) dL_law_546 ⟨(Nat.le_of_ble_eq_true rfl), (Nat.le_of_ble_eq_true rfl)⟩) hS hA hDm hPo hXX.sy (fun r2 Im1 Jm1 Sm1 Lm1 H locs hPm hDm hPo hS h2 => ?_)
  have hXX := Dis.tr hXX (wO_adr ao co 600 0 Io1 Jo1 So1 Lo1 Io1 Jo1 So1 Lo1) (wM_adr am cm Im Jm Sm Lm Im1 Jm1 Sm1 Lm1)
  refine lv_pop2_2 hx hb dL_law_549 rfl ?_
  refine lv_goto (tgt := 770) hx hb dL_law_550 (by decide) ?_
  exact K _ _ _ _ _ _ _ _ H locs (rr_has hR h1 h2) hDo hDm hXX hPo hPm hS
set_option maxHeartbeats 4000000 in
set_option maxRecDepth 100000 in
theorem law_c9 {p : Program} {e : Env} {s : State} {m : MethodId} {below : List Frame} {meth : Method} {c : Code} (l : Launch) {b L : Nat} {xs : Nat → Int32} (C0 : lw_At p s m meth c b L xs) (hL : L ≤ 4608) (dC : Nat → ClassId) (dI : Nat → Nat → Nat) (ao am : Nat → Nat) (co cm : Nat → ClassId) (hKo : va_K (dC, dI) vwCl (tyL co) s) (hKm : va_K (dC, dI) vwCl (tyM cm) s) (hN : gN s) {k : Nat} (hk : k + 9 ≤ L) (ls : Array Slot) (hl : lv_has ls 4 [(3, .int (nI (k))), (2, .ref (am 0)), (1, .ref (ao 53)), (0, .ref b)]) (K : ∀ (Io : TI) (Jo : TJ) (So : TS) (Lo : TL) (Im : TI) (Jm : TJ) (Sm : TS) (Lm : TL) (H : Heap) (locs : List Loc), RR Io Jo So Lo Im Jm Sm Lm → va_D (fun q : Nat => s.heap.size ≤ q) (wO ao co 600 0 Io Jo So Lo) → va_D (fun q : Nat => s.heap.size ≤ q) (wM am cm Im Jm Sm Lm) → Dis (wO ao co 600 0 Io Jo So Lo) (wM am cm Im Jm Sm Lm) → va_P (dC, dI) vwCl (wO ao co 600 0 Io Jo So Lo) H → va_P (dC, dI) vwCl (wM am cm Im Jm Sm Lm) H → va_S (fun q : Nat => s.heap.size ≤ q) s.heap H locs → W p l e room_1 s m #[Value.ref b] below meth c H locs 300 60000 (lw_Z below #[Value.ref b] s) (F0 m 770 ls [])) (Io : TI) (Jo : TJ) (So : TS) (Lo : TL) (Im : TI) (Jm : TJ) (Sm : TS) (Lm : TL) (H : Heap) (locs : List Loc) (hR : RR Io Jo So Lo Im Jm Sm Lm) (hDo : va_D (fun q : Nat => s.heap.size ≤ q) (wO ao co 600 0 Io Jo So Lo)) (hDm : va_D (fun q : Nat => s.heap.size ≤ q) (wM am cm Im Jm Sm Lm)) (hXX : Dis (wO ao co 600 0 Io Jo So Lo) (wM am cm Im Jm Sm Lm)) (hPo : va_P (dC, dI) vwCl (wO ao co 600 0 Io Jo So Lo) H) (hPm : va_P (dC, dI) vwCl (wM am cm Im Jm Sm Lm) H) (hS : va_S (fun q : Nat => s.heap.size ≤ q) s.heap H locs) : W p l e room_1 s m #[Value.ref b] below meth c H locs 300 60000 (lw_Z below #[Value.ref b] s) (F0 m 553 ls []) := by
  obtain ⟨hx, hb, hr, hml, hown, hts0, hX, hbl, hlocks, hgv⟩ := id C0
  have hts := fun w h => hts0 w (wsL_law_in w h)
  have hA : ∀ q : Nat, s.heap.size ≤ q → (fun q : Nat => s.heap.size ≤ q) q := fun _ h => h
  have hbA : ¬ (fun q : Nat => s.heap.size ≤ q) b := Nat.not_le.mpr hbl
  obtain ⟨cc, b9, q9, Z9, hR⟩ := hR
  refine lv_aload_n hx hb dL_law_553 rfl (lv_at hl 2 rfl) ?_
  refine lv_aload_n hx hb dL_law_554 rfl (lv_at hl 3 rfl) ?_
  refine lv_iload_n hx hb dL_law_555 rfl (lv_at hl 0 rfl) ?_
  refine lv_iconst (v := 1) hx hb dL_law_556 (by decide) ?_
  refine lv_iadd hx hb dL_law_557 ?_
  refine va_sld hx hb hX hbl hbA hS (sc_in1 hk hL) dL_law_558 ?_
  refine lv_aload_n hx hb dL_law_559 rfl (lv_at hl 3 rfl) ?_
  refine lv_iload_n hx hb dL_law_560 rfl (lv_at hl 0 rfl) ?_
  refine lv_iconst (v := 2) hx hb dL_law_561 (by decide) ?_
  refine lv_iadd hx hb dL_law_562 ?_
  refine va_sld hx hb hX hbl hbA hS (sc_in2 hk hL) dL_law_563 ?_
  refine lv_aload_n hx hb dL_law_564 rfl (lv_at hl 3 rfl) ?_
  refine lv_iload_n hx hb dL_law_565 rfl (lv_at hl 0 rfl) ?_
  refine lv_iconst (v := 3) hx hb dL_law_566 (by decide) ?_
  refine lv_iadd hx hb dL_law_567 ?_
  refine va_sld hx hb hX hbl hbA hS (sc_in3 hk hL) dL_law_568 ?_
  refine xcalli (va_runV (As := [.int (xs (nI k + 1).toNatClampNeg), .int (xs (nI k + 2).toNatClampNeg), .int (xs (nI k + 3).toNatClampNeg)]) (rest := []) ⟨hx, hb, hml, hown, hts⟩ (c_X7_told l dC dI ao co 600 0 H.size Io Jo So Lo ((xs (nI k + 1).toNatClampNeg)) ((xs (nI k + 2).toNatClampNeg)) ((xs (nI k + 3).toNatClampNeg)) _ (u_X7_told ((xs (nI k + 1).toNatClampNeg)) ((xs (nI k + 2).toNatClampNeg)) ((xs (nI k + 3).toNatClampNeg)) hR)) (cwV 3 hts gL_law_X7_told rfl rfl rfl (by decide +kernel) ⟨(Nat.le_of_ble_eq_true rfl), (Nat.le_of_ble_eq_true rfl)⟩) (g_pV hPo hKo hDo hN (va_recv hKo hPo (ci := 7) (q0 := 0) rfl (wO_atO _ _ _ _ _ _ _ _)) [.int (xs (nI k + 1).toNatClampNeg), .int (xs (nI k + 2).toNatClampNeg), .int (xs (nI k + 3).toNatClampNeg)]) rfl rfl hl.1 rfl (lv_room (Nat.le_of_ble_eq_true rfl)) dL_law_569 ⟨(Nat.le_of_ble_eq_true rfl), (Nat.le_of_ble_eq_true rfl)⟩) hS hA hDo hPm hXX (fun r1 Io1 Jo1 So1 Lo1 H locs hPo hDo hPm hS h1 => ?_)
  refine lv_pop hx hb dL_law_572 rfl ?_
  refine lv_aload_n hx hb dL_law_573 rfl (lv_at hl 1 rfl) ?_
  refine lv_aload_n hx hb dL_law_574 rfl (lv_at hl 3 rfl) ?_
  refine lv_iload_n hx hb dL_law_575 rfl (lv_at hl 0 rfl) ?_
  refine lv_iconst (v := 1) hx hb dL_law_576 (by decide) ?_
  refine lv_iadd hx hb dL_law_577 ?_
  refine va_sld hx hb hX hbl hbA hS (sc_in1 hk hL) dL_law_578 ?_
  refine lv_aload_n hx hb dL_law_579 rfl (lv_at hl 3 rfl) ?_
  refine lv_iload_n hx hb dL_law_580 rfl (lv_at hl 0 rfl) ?_
  refine lv_iconst (v := 2) hx hb dL_law_581 (by decide) ?_
  refine lv_iadd hx hb dL_law_582 ?_
  refine va_sld hx hb hX hbl hbA hS (sc_in2 hk hL) dL_law_583 ?_
  refine lv_aload_n hx hb dL_law_584 rfl (lv_at hl 3 rfl) ?_
  refine lv_iload_n hx hb dL_law_585 rfl (lv_at hl 0 rfl) ?_
  refine lv_iconst (v := 3) hx hb dL_law_586 (by decide) ?_
  refine lv_iadd hx hb dL_law_587 ?_
  refine va_sld hx hb hX hbl hbA hS (sc_in3 hk hL) dL_law_588 ?_
  have hXX := Dis.tr hXX (wO_adr ao co 600 0 Io Jo So Lo Io1 Jo1 So1 Lo1) (wM_adr am cm Im Jm Sm Lm Im Jm Sm Lm)
  refine xcalli (va_runV (As := [.int (xs (nI k + 1).toNatClampNeg), .int (xs (nI k + 2).toNatClampNeg), .int (xs (nI k + 3).toNatClampNeg)]) (rest := []) ⟨hx, hb, hml, hown, hts⟩ (c_X8_told l dC dI am cm H.size Im Jm Sm Lm ((xs (nI k + 1).toNatClampNeg)) ((xs (nI k + 2).toNatClampNeg)) ((xs (nI k + 3).toNatClampNeg)) _ (u_X8_told ((xs (nI k + 1).toNatClampNeg)) ((xs (nI k + 2).toNatClampNeg)) ((xs (nI k + 3).toNatClampNeg)) hR)) (cwV 3 hts gL_law_X8_told rfl rfl rfl (by decide +kernel) ⟨(Nat.le_of_ble_eq_true rfl), (Nat.le_of_ble_eq_true rfl)⟩) (g_pV hPm hKm hDm hN (va_recv hKm hPm (ci := 8) (q0 := 0) rfl (wM_at0 _ _ _ _ _ _)) [.int (xs (nI k + 1).toNatClampNeg), .int (xs (nI k + 2).toNatClampNeg), .int (xs (nI k + 3).toNatClampNeg)]) rfl rfl hl.1 rfl (lv_room (Nat.le_of_ble_eq_true rfl)) dL_law_589 ⟨(Nat.le_of_ble_eq_true rfl), (Nat.le_of_ble_eq_true rfl)⟩) hS hA hDm hPo hXX.sy (fun r2 Im1 Jm1 Sm1 Lm1 H locs hPm hDm hPo hS h2 => ?_)
  have hXX := Dis.tr hXX (wO_adr ao co 600 0 Io1 Jo1 So1 Lo1 Io1 Jo1 So1 Lo1) (wM_adr am cm Im Jm Sm Lm Im1 Jm1 Sm1 Lm1)
  refine lv_pop hx hb dL_law_592 rfl ?_
  refine lv_goto (tgt := 770) hx hb dL_law_593 (by decide) ?_
  exact K _ _ _ _ _ _ _ _ H locs (rr_told hR h1 h2) hDo hDm hXX hPo hPm hS
