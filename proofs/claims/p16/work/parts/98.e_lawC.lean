set_option maxHeartbeats 4000000 in
set_option maxRecDepth 100000 in
theorem law_c10 {p : Program} {e : Env} {s : State} {m : MethodId} {below : List Frame} {meth : Method} {c : Code} (l : Launch) {b L : Nat} {xs : Nat → Int32} (C0 : lw_At p s m meth c b L xs) (hL : L ≤ 4608) (dC : Nat → ClassId) (dI : Nat → Nat → Nat) (ao am : Nat → Nat) (co cm : Nat → ClassId) (hKo : va_K (dC, dI) vwCl (tyL co) s) (hKm : va_K (dC, dI) vwCl (tyM cm) s) (hN : gN s) {k : Nat} (hk : k + 9 ≤ L) (ls : Array Slot) (hl : lv_has ls 4 [(3, .int (nI (k))), (2, .ref (am 0)), (1, .ref (ao 53)), (0, .ref b)]) (K : ∀ (Io : TI) (Jo : TJ) (So : TS) (Lo : TL) (Im : TI) (Jm : TJ) (Sm : TS) (Lm : TL) (H : Heap) (locs : List Loc), RR Io Jo So Lo Im Jm Sm Lm → va_D (fun q : Nat => s.heap.size ≤ q) (wO ao co 600 0 Io Jo So Lo) → va_D (fun q : Nat => s.heap.size ≤ q) (wM am cm Im Jm Sm Lm) → Dis (wO ao co 600 0 Io Jo So Lo) (wM am cm Im Jm Sm Lm) → va_P (dC, dI) vwCl (wO ao co 600 0 Io Jo So Lo) H → va_P (dC, dI) vwCl (wM am cm Im Jm Sm Lm) H → va_S (fun q : Nat => s.heap.size ≤ q) s.heap H locs → W p l e room_1 s m #[Value.ref b] below meth c H locs 300 60000 (lw_Z below #[Value.ref b] s) (F0 m 770 ls [])) (Io : TI) (Jo : TJ) (So : TS) (Lo : TL) (Im : TI) (Jm : TJ) (Sm : TS) (Lm : TL) (H : Heap) (locs : List Loc) (hR : RR Io Jo So Lo Im Jm Sm Lm) (hDo : va_D (fun q : Nat => s.heap.size ≤ q) (wO ao co 600 0 Io Jo So Lo)) (hDm : va_D (fun q : Nat => s.heap.size ≤ q) (wM am cm Im Jm Sm Lm)) (hXX : Dis (wO ao co 600 0 Io Jo So Lo) (wM am cm Im Jm Sm Lm)) (hPo : va_P (dC, dI) vwCl (wO ao co 600 0 Io Jo So Lo) H) (hPm : va_P (dC, dI) vwCl (wM am cm Im Jm Sm Lm) H) (hS : va_S (fun q : Nat => s.heap.size ≤ q) s.heap H locs) : W p l e room_1 s m #[Value.ref b] below meth c H locs 300 60000 (lw_Z below #[Value.ref b] s) (F0 m 596 ls []) := by
  obtain ⟨hx, hb, hr, hml, hown, hts0, hX, hbl, hlocks, hgv⟩ := id C0
  have hts := fun w h => hts0 w (wsL_law_in w h)
  have hA : ∀ q : Nat, s.heap.size ≤ q → (fun q : Nat => s.heap.size ≤ q) q := fun _ h => h
  have hbA : ¬ (fun q : Nat => s.heap.size ≤ q) b := Nat.not_le.mpr hbl
  obtain ⟨cc, b9, q9, Z9, hR⟩ := hR
  refine lv_aload_n hx hb dL_law_596 rfl (lv_at hl 2 rfl) ?_
  refine lv_aload_n hx hb dL_law_597 rfl (lv_at hl 3 rfl) ?_
  refine lv_iload_n hx hb dL_law_598 rfl (lv_at hl 0 rfl) ?_
  refine lv_iconst (v := 1) hx hb dL_law_599 (by decide) ?_
  refine lv_iadd hx hb dL_law_600 ?_
  refine va_sld hx hb hX hbl hbA hS (sc_in1 hk hL) dL_law_601 ?_
  refine lv_aload_n hx hb dL_law_602 rfl (lv_at hl 3 rfl) ?_
  refine lv_iload_n hx hb dL_law_603 rfl (lv_at hl 0 rfl) ?_
  refine lv_iconst (v := 2) hx hb dL_law_604 (by decide) ?_
  refine lv_iadd hx hb dL_law_605 ?_
  refine va_sld hx hb hX hbl hbA hS (sc_in2 hk hL) dL_law_606 ?_
  refine lv_aload_n hx hb dL_law_607 rfl (lv_at hl 3 rfl) ?_
  refine lv_iload_n hx hb dL_law_608 rfl (lv_at hl 0 rfl) ?_
  refine lv_iconst (v := 3) hx hb dL_law_609 (by decide) ?_
  refine lv_iadd hx hb dL_law_610 ?_
  refine va_sld hx hb hX hbl hbA hS (sc_in3 hk hL) dL_law_611 ?_
  refine lv_aload_n hx hb dL_law_612 rfl (lv_at hl 3 rfl) ?_
  refine lv_iload_n hx hb dL_law_613 rfl (lv_at hl 0 rfl) ?_
  refine lv_iconst (v := 4) hx hb dL_law_614 (by decide) ?_
  refine lv_iadd hx hb dL_law_615 ?_
  refine va_sld hx hb hX hbl hbA hS (sc_in4 hk hL) dL_law_616 ?_
  refine lv_aload_n hx hb dL_law_617 rfl (lv_at hl 3 rfl) ?_
  refine lv_iload_n hx hb dL_law_618 rfl (lv_at hl 0 rfl) ?_
  refine lv_iconst (v := 5) hx hb dL_law_619 (by decide) ?_
  refine lv_iadd hx hb dL_law_620 ?_
  refine va_sld hx hb hX hbl hbA hS (sc_in5 hk hL) dL_law_621 ?_
  refine lv_aload_n hx hb dL_law_622 rfl (lv_at hl 3 rfl) ?_
  refine lv_iload_n hx hb dL_law_623 rfl (lv_at hl 0 rfl) ?_
  refine lv_bipush (v := 6) hx hb dL_law_624 (by decide) ?_
  refine lv_iadd hx hb dL_law_626 ?_
  refine va_sld hx hb hX hbl hbA hS (sc_in6 hk hL) dL_law_627 ?_
  by_cases hz : (xs (nI k + 6).toNatClampNeg) = 0
  · refine lv_if_eq (tgt := 635) hx hb dL_law_628 (by decide) (fun hc => ?_) (fun hc => absurd hz hc)
    refine lv_iconst (v := 0) hx hb dL_law_635 (by decide) ?_
    refine xcalli (va_runV (As := [.int (xs (nI k + 1).toNatClampNeg), .int (xs (nI k + 2).toNatClampNeg), .int (xs (nI k + 3).toNatClampNeg), .int (xs (nI k + 4).toNatClampNeg), .int (xs (nI k + 5).toNatClampNeg), .int 0]) (rest := []) ⟨hx, hb, hml, hown, hts⟩ (c_X7_mend l dC dI ao co 600 0 H.size Io Jo So Lo ((xs (nI k + 1).toNatClampNeg)) ((xs (nI k + 2).toNatClampNeg)) ((xs (nI k + 3).toNatClampNeg)) ((xs (nI k + 4).toNatClampNeg)) ((xs (nI k + 5).toNatClampNeg)) 0 _ (u_X7_mend ((xs (nI k + 1).toNatClampNeg)) ((xs (nI k + 2).toNatClampNeg)) ((xs (nI k + 3).toNatClampNeg)) ((xs (nI k + 4).toNatClampNeg)) ((xs (nI k + 5).toNatClampNeg)) 0 hR)) (cwV 6 hts gL_law_X7_mend rfl rfl rfl (by decide +kernel) ⟨(Nat.le_of_ble_eq_true rfl), (Nat.le_of_ble_eq_true rfl)⟩) (g_pV hPo hKo hDo hN (va_recv hKo hPo (ci := 7) (q0 := 0) rfl (wO_atO _ _ _ _ _ _ _ _)) [.int (xs (nI k + 1).toNatClampNeg), .int (xs (nI k + 2).toNatClampNeg), .int (xs (nI k + 3).toNatClampNeg), .int (xs (nI k + 4).toNatClampNeg), .int (xs (nI k + 5).toNatClampNeg), .int 0]) rfl rfl hl.1 rfl (lv_room (Nat.le_of_ble_eq_true rfl)) dL_law_636 ⟨(Nat.le_of_ble_eq_true rfl), (Nat.le_of_ble_eq_true rfl)⟩) hS hA hDo hPm hXX (fun r1 Io1 Jo1 So1 Lo1 H locs hPo hDo hPm hS h1 => ?_)
    refine lv_pop hx hb dL_law_639 rfl ?_
    refine lv_aload_n hx hb dL_law_640 rfl (lv_at hl 1 rfl) ?_
    refine lv_aload_n hx hb dL_law_641 rfl (lv_at hl 3 rfl) ?_
    refine lv_iload_n hx hb dL_law_642 rfl (lv_at hl 0 rfl) ?_
    refine lv_iconst (v := 1) hx hb dL_law_643 (by decide) ?_
    refine lv_iadd hx hb dL_law_644 ?_
    refine va_sld hx hb hX hbl hbA hS (sc_in1 hk hL) dL_law_645 ?_
    refine lv_aload_n hx hb dL_law_646 rfl (lv_at hl 3 rfl) ?_
    refine lv_iload_n hx hb dL_law_647 rfl (lv_at hl 0 rfl) ?_
    refine lv_iconst (v := 2) hx hb dL_law_648 (by decide) ?_
    refine lv_iadd hx hb dL_law_649 ?_
    refine va_sld hx hb hX hbl hbA hS (sc_in2 hk hL) dL_law_650 ?_
    refine lv_aload_n hx hb dL_law_651 rfl (lv_at hl 3 rfl) ?_
    refine lv_iload_n hx hb dL_law_652 rfl (lv_at hl 0 rfl) ?_
    refine lv_iconst (v := 3) hx hb dL_law_653 (by decide) ?_
    refine lv_iadd hx hb dL_law_654 ?_
    refine va_sld hx hb hX hbl hbA hS (sc_in3 hk hL) dL_law_655 ?_
    refine lv_aload_n hx hb dL_law_656 rfl (lv_at hl 3 rfl) ?_
    refine lv_iload_n hx hb dL_law_657 rfl (lv_at hl 0 rfl) ?_
    refine lv_iconst (v := 4) hx hb dL_law_658 (by decide) ?_
    refine lv_iadd hx hb dL_law_659 ?_
    refine va_sld hx hb hX hbl hbA hS (sc_in4 hk hL) dL_law_660 ?_
    refine lv_aload_n hx hb dL_law_661 rfl (lv_at hl 3 rfl) ?_
    refine lv_iload_n hx hb dL_law_662 rfl (lv_at hl 0 rfl) ?_
    refine lv_iconst (v := 5) hx hb dL_law_663 (by decide) ?_
    refine lv_iadd hx hb dL_law_664 ?_
    refine va_sld hx hb hX hbl hbA hS (sc_in5 hk hL) dL_law_665 ?_
    refine lv_aload_n hx hb dL_law_666 rfl (lv_at hl 3 rfl) ?_
    refine lv_iload_n hx hb dL_law_667 rfl (lv_at hl 0 rfl) ?_
    refine lv_bipush (v := 6) hx hb dL_law_668 (by decide) ?_
    refine lv_iadd hx hb dL_law_670 ?_
    refine va_sld hx hb hX hbl hbA hS (sc_in6 hk hL) dL_law_671 ?_
    refine lv_if_eq (tgt := 679) hx hb dL_law_672 (by decide) (fun hc => ?_) (fun hc => absurd hz hc)
    refine lv_iconst (v := 0) hx hb dL_law_679 (by decide) ?_
    have hXX := Dis.tr hXX (wO_adr ao co 600 0 Io Jo So Lo Io1 Jo1 So1 Lo1) (wM_adr am cm Im Jm Sm Lm Im Jm Sm Lm)
    refine xcalli (va_runV (As := [.int (xs (nI k + 1).toNatClampNeg), .int (xs (nI k + 2).toNatClampNeg), .int (xs (nI k + 3).toNatClampNeg), .int (xs (nI k + 4).toNatClampNeg), .int (xs (nI k + 5).toNatClampNeg), .int 0]) (rest := []) ⟨hx, hb, hml, hown, hts⟩ (c_X8_mend l dC dI am cm H.size Im Jm Sm Lm ((xs (nI k + 1).toNatClampNeg)) ((xs (nI k + 2).toNatClampNeg)) ((xs (nI k + 3).toNatClampNeg)) ((xs (nI k + 4).toNatClampNeg)) ((xs (nI k + 5).toNatClampNeg)) 0 _ (u_X8_mend ((xs (nI k + 1).toNatClampNeg)) ((xs (nI k + 2).toNatClampNeg)) ((xs (nI k + 3).toNatClampNeg)) ((xs (nI k + 4).toNatClampNeg)) ((xs (nI k + 5).toNatClampNeg)) 0 hR)) (cwV 6 hts gL_law_X8_mend rfl rfl rfl (by decide +kernel) ⟨(Nat.le_of_ble_eq_true rfl), (Nat.le_of_ble_eq_true rfl)⟩) (g_pV hPm hKm hDm hN (va_recv hKm hPm (ci := 8) (q0 := 0) rfl (wM_at0 _ _ _ _ _ _)) [.int (xs (nI k + 1).toNatClampNeg), .int (xs (nI k + 2).toNatClampNeg), .int (xs (nI k + 3).toNatClampNeg), .int (xs (nI k + 4).toNatClampNeg), .int (xs (nI k + 5).toNatClampNeg), .int 0]) rfl rfl hl.1 rfl (lv_room (Nat.le_of_ble_eq_true rfl)) dL_law_680 ⟨(Nat.le_of_ble_eq_true rfl), (Nat.le_of_ble_eq_true rfl)⟩) hS hA hDm hPo hXX.sy (fun r2 Im1 Jm1 Sm1 Lm1 H locs hPm hDm hPo hS h2 => ?_)
    have hXX := Dis.tr hXX (wO_adr ao co 600 0 Io1 Jo1 So1 Lo1 Io1 Jo1 So1 Lo1) (wM_adr am cm Im Jm Sm Lm Im1 Jm1 Sm1 Lm1)
    refine lv_pop hx hb dL_law_683 rfl ?_
    refine lv_goto (tgt := 770) hx hb dL_law_684 (by decide) ?_
    exact K _ _ _ _ _ _ _ _ H locs (rr_mend hR h1 h2) hDo hDm hXX hPo hPm hS
  · refine lv_if_eq (tgt := 635) hx hb dL_law_628 (by decide) (fun hc => absurd hc hz) (fun hc => ?_)
    refine lv_iconst (v := 1) hx hb dL_law_631 (by decide) ?_
    refine lv_goto (tgt := 636) hx hb dL_law_632 (by decide) ?_
    refine xcalli (va_runV (As := [.int (xs (nI k + 1).toNatClampNeg), .int (xs (nI k + 2).toNatClampNeg), .int (xs (nI k + 3).toNatClampNeg), .int (xs (nI k + 4).toNatClampNeg), .int (xs (nI k + 5).toNatClampNeg), .int 1]) (rest := []) ⟨hx, hb, hml, hown, hts⟩ (c_X7_mend l dC dI ao co 600 0 H.size Io Jo So Lo ((xs (nI k + 1).toNatClampNeg)) ((xs (nI k + 2).toNatClampNeg)) ((xs (nI k + 3).toNatClampNeg)) ((xs (nI k + 4).toNatClampNeg)) ((xs (nI k + 5).toNatClampNeg)) 1 _ (u_X7_mend ((xs (nI k + 1).toNatClampNeg)) ((xs (nI k + 2).toNatClampNeg)) ((xs (nI k + 3).toNatClampNeg)) ((xs (nI k + 4).toNatClampNeg)) ((xs (nI k + 5).toNatClampNeg)) 1 hR)) (cwV 6 hts gL_law_X7_mend rfl rfl rfl (by decide +kernel) ⟨(Nat.le_of_ble_eq_true rfl), (Nat.le_of_ble_eq_true rfl)⟩) (g_pV hPo hKo hDo hN (va_recv hKo hPo (ci := 7) (q0 := 0) rfl (wO_atO _ _ _ _ _ _ _ _)) [.int (xs (nI k + 1).toNatClampNeg), .int (xs (nI k + 2).toNatClampNeg), .int (xs (nI k + 3).toNatClampNeg), .int (xs (nI k + 4).toNatClampNeg), .int (xs (nI k + 5).toNatClampNeg), .int 1]) rfl rfl hl.1 rfl (lv_room (Nat.le_of_ble_eq_true rfl)) dL_law_636 ⟨(Nat.le_of_ble_eq_true rfl), (Nat.le_of_ble_eq_true rfl)⟩) hS hA hDo hPm hXX (fun r1 Io1 Jo1 So1 Lo1 H locs hPo hDo hPm hS h1 => ?_)
    refine lv_pop hx hb dL_law_639 rfl ?_
    refine lv_aload_n hx hb dL_law_640 rfl (lv_at hl 1 rfl) ?_
    refine lv_aload_n hx hb dL_law_641 rfl (lv_at hl 3 rfl) ?_
    refine lv_iload_n hx hb dL_law_642 rfl (lv_at hl 0 rfl) ?_
    refine lv_iconst (v := 1) hx hb dL_law_643 (by decide) ?_
    refine lv_iadd hx hb dL_law_644 ?_
    refine va_sld hx hb hX hbl hbA hS (sc_in1 hk hL) dL_law_645 ?_
    refine lv_aload_n hx hb dL_law_646 rfl (lv_at hl 3 rfl) ?_
    refine lv_iload_n hx hb dL_law_647 rfl (lv_at hl 0 rfl) ?_
    refine lv_iconst (v := 2) hx hb dL_law_648 (by decide) ?_
    refine lv_iadd hx hb dL_law_649 ?_
    refine va_sld hx hb hX hbl hbA hS (sc_in2 hk hL) dL_law_650 ?_
    refine lv_aload_n hx hb dL_law_651 rfl (lv_at hl 3 rfl) ?_
    refine lv_iload_n hx hb dL_law_652 rfl (lv_at hl 0 rfl) ?_
    refine lv_iconst (v := 3) hx hb dL_law_653 (by decide) ?_
    refine lv_iadd hx hb dL_law_654 ?_
    refine va_sld hx hb hX hbl hbA hS (sc_in3 hk hL) dL_law_655 ?_
    refine lv_aload_n hx hb dL_law_656 rfl (lv_at hl 3 rfl) ?_
    refine lv_iload_n hx hb dL_law_657 rfl (lv_at hl 0 rfl) ?_
    refine lv_iconst (v := 4) hx hb dL_law_658 (by decide) ?_
    refine lv_iadd hx hb dL_law_659 ?_
    refine va_sld hx hb hX hbl hbA hS (sc_in4 hk hL) dL_law_660 ?_
    refine lv_aload_n hx hb dL_law_661 rfl (lv_at hl 3 rfl) ?_
    refine lv_iload_n hx hb dL_law_662 rfl (lv_at hl 0 rfl) ?_
    refine lv_iconst (v := 5) hx hb dL_law_663 (by decide) ?_
    refine lv_iadd hx hb dL_law_664 ?_
    refine va_sld hx hb hX hbl hbA hS (sc_in5 hk hL) dL_law_665 ?_
    refine lv_aload_n hx hb dL_law_666 rfl (lv_at hl 3 rfl) ?_
    refine lv_iload_n hx hb dL_law_667 rfl (lv_at hl 0 rfl) ?_
    refine lv_bipush (v := 6) hx hb dL_law_668 (by decide) ?_
    refine lv_iadd hx hb dL_law_670 ?_
    refine va_sld hx hb hX hbl hbA hS (sc_in6 hk hL) dL_law_671 ?_
    refine lv_if_eq (tgt := 679) hx hb dL_law_672 (by decide) (fun hc => absurd hc hz) (fun hc => ?_)
    refine lv_iconst (v := 1) hx hb dL_law_675 (by decide) ?_
    refine lv_goto (tgt := 680) hx hb dL_law_676 (by decide) ?_
    have hXX := Dis.tr hXX (wO_adr ao co 600 0 Io Jo So Lo Io1 Jo1 So1 Lo1) (wM_adr am cm Im Jm Sm Lm Im Jm Sm Lm)
    refine xcalli (va_runV (As := [.int (xs (nI k + 1).toNatClampNeg), .int (xs (nI k + 2).toNatClampNeg), .int (xs (nI k + 3).toNatClampNeg), .int (xs (nI k + 4).toNatClampNeg), .int (xs (nI k + 5).toNatClampNeg), .int 1]) (rest := []) ⟨hx, hb, hml, hown, hts⟩ (c_X8_mend l dC dI am cm H.size Im Jm Sm Lm ((xs (nI k + 1).toNatClampNeg)) ((xs (nI k + 2).toNatClampNeg)) ((xs (nI k + 3).toNatClampNeg)) ((xs (nI k + 4).toNatClampNeg)) ((xs (nI k + 5).toNatClampNeg)) 1 _ (u_X8_mend ((xs (nI k + 1).toNatClampNeg)) ((xs (nI k + 2).toNatClampNeg)) ((xs (nI k + 3).toNatClampNeg)) ((xs (nI k + 4).toNatClampNeg)) ((xs (nI k + 5).toNatClampNeg)) 1 hR)) (cwV 6 hts gL_law_X8_mend rfl rfl rfl (by decide +kernel) ⟨(Nat.le_of_ble_eq_true rfl), (Nat.le_of_ble_eq_true rfl)⟩) (g_pV hPm hKm hDm hN (va_recv hKm hPm (ci := 8) (q0 := 0) rfl (wM_at0 _ _ _ _ _ _)) [.int (xs (nI k + 1).toNatClampNeg), .int (xs (nI k + 2).toNatClampNeg), .int (xs (nI k + 3).toNatClampNeg), .int (xs (nI k + 4).toNatClampNeg), .int (xs (nI k + 5).toNatClampNeg), .int 1]) rfl rfl hl.1 rfl (lv_room (Nat.le_of_ble_eq_true rfl)) dL_law_680 ⟨(Nat.le_of_ble_eq_true rfl), (Nat.le_of_ble_eq_true rfl)⟩) hS hA hDm hPo hXX.sy (fun r2 Im1 Jm1 Sm1 Lm1 H locs hPm hDm hPo hS h2 => ?_)
    have hXX := Dis.tr hXX (wO_adr ao co 600 0 Io1 Jo1 So1 Lo1 Io1 Jo1 So1 Lo1) (wM_adr am cm Im Jm Sm Lm Im1 Jm1 Sm1 Lm1)
    refine lv_pop hx hb dL_law_683 rfl ?_
    refine lv_goto (tgt := 770) hx hb dL_law_684 (by decide) ?_
    exact K _ _ _ _ _ _ _ _ H locs (rr_mend hR h1 h2) hDo hDm hXX hPo hPm hS
set_option maxHeartbeats 4000000 in
set_option maxRecDepth 100000 in
theorem law_c11 {p : Program} {e : Env} {s : State} {m : MethodId} {below : List Frame} {meth : Method} {c : Code} (l : Launch) {b L : Nat} {xs : Nat → Int32} (C0 : lw_At p s m meth c b L xs) (hL : L ≤ 4608) (dC : Nat → ClassId) (dI : Nat → Nat → Nat) (ao am : Nat → Nat) (co cm : Nat → ClassId) (hKo : va_K (dC, dI) vwCl (tyL co) s) (hKm : va_K (dC, dI) vwCl (tyM cm) s) (hN : gN s) {k : Nat} (hk : k + 9 ≤ L) (ls : Array Slot) (hl : lv_has ls 4 [(3, .int (nI (k))), (2, .ref (am 0)), (1, .ref (ao 53)), (0, .ref b)]) (K : ∀ (Io : TI) (Jo : TJ) (So : TS) (Lo : TL) (Im : TI) (Jm : TJ) (Sm : TS) (Lm : TL) (H : Heap) (locs : List Loc), RR Io Jo So Lo Im Jm Sm Lm → va_D (fun q : Nat => s.heap.size ≤ q) (wO ao co 600 0 Io Jo So Lo) → va_D (fun q : Nat => s.heap.size ≤ q) (wM am cm Im Jm Sm Lm) → Dis (wO ao co 600 0 Io Jo So Lo) (wM am cm Im Jm Sm Lm) → va_P (dC, dI) vwCl (wO ao co 600 0 Io Jo So Lo) H → va_P (dC, dI) vwCl (wM am cm Im Jm Sm Lm) H → va_S (fun q : Nat => s.heap.size ≤ q) s.heap H locs → W p l e room_1 s m #[Value.ref b] below meth c H locs 300 60000 (lw_Z below #[Value.ref b] s) (F0 m 770 ls [])) (Io : TI) (Jo : TJ) (So : TS) (Lo : TL) (Im : TI) (Jm : TJ) (Sm : TS) (Lm : TL) (H : Heap) (locs : List Loc) (hR : RR Io Jo So Lo Im Jm Sm Lm) (hDo : va_D (fun q : Nat => s.heap.size ≤ q) (wO ao co 600 0 Io Jo So Lo)) (hDm : va_D (fun q : Nat => s.heap.size ≤ q) (wM am cm Im Jm Sm Lm)) (hXX : Dis (wO ao co 600 0 Io Jo So Lo) (wM am cm Im Jm Sm Lm)) (hPo : va_P (dC, dI) vwCl (wO ao co 600 0 Io Jo So Lo) H) (hPm : va_P (dC, dI) vwCl (wM am cm Im Jm Sm Lm) H) (hS : va_S (fun q : Nat => s.heap.size ≤ q) s.heap H locs) : W p l e room_1 s m #[Value.ref b] below meth c H locs 300 60000 (lw_Z below #[Value.ref b] s) (F0 m 687 ls []) := by
  obtain ⟨hx, hb, hr, hml, hown, hts0, hX, hbl, hlocks, hgv⟩ := id C0
  have hts := fun w h => hts0 w (wsL_law_in w h)
  have hA : ∀ q : Nat, s.heap.size ≤ q → (fun q : Nat => s.heap.size ≤ q) q := fun _ h => h
  have hbA : ¬ (fun q : Nat => s.heap.size ≤ q) b := Nat.not_le.mpr hbl
  obtain ⟨cc, b9, q9, Z9, hR⟩ := hR
  refine lv_aload_n hx hb dL_law_687 rfl (lv_at hl 2 rfl) ?_
  refine xcalll (va_runV (As := []) (rest := []) ⟨hx, hb, hml, hown, hts⟩ (c_X7_owe l dC dI ao co 600 0 H.size Io Jo So Lo  _ (u_X7_owe  hR)) (cwV 0 hts gL_law_X7_owe rfl rfl rfl (by decide +kernel) ⟨(Nat.le_of_ble_eq_true rfl), (Nat.le_of_ble_eq_true rfl)⟩) (g_pV hPo hKo hDo hN (va_recv hKo hPo (ci := 7) (q0 := 0) rfl (wO_atO _ _ _ _ _ _ _ _)) []) rfl rfl hl.1 rfl (lv_room (Nat.le_of_ble_eq_true rfl)) dL_law_688 ⟨(Nat.le_of_ble_eq_true rfl), (Nat.le_of_ble_eq_true rfl)⟩) hS hA hDo hPm hXX (fun r1 Io1 Jo1 So1 Lo1 H locs hPo hDo hPm hS h1 => ?_)
  refine lv_pop2_2 hx hb dL_law_691 rfl ?_
  refine lv_aload_n hx hb dL_law_692 rfl (lv_at hl 1 rfl) ?_
  have hXX := Dis.tr hXX (wO_adr ao co 600 0 Io Jo So Lo Io1 Jo1 So1 Lo1) (wM_adr am cm Im Jm Sm Lm Im Jm Sm Lm)
  refine xcalll (va_runV (As := []) (rest := []) ⟨hx, hb, hml, hown, hts⟩ (c_X8_owe l dC dI am cm H.size Im Jm Sm Lm  _ (u_X8_owe  hR)) (cwV 0 hts gL_law_X8_owe rfl rfl rfl (by decide +kernel) ⟨(Nat.le_of_ble_eq_true rfl), (Nat.le_of_ble_eq_true rfl)⟩) (g_pV hPm hKm hDm hN (va_recv hKm hPm (ci := 8) (q0 := 0) rfl (wM_at0 _ _ _ _ _ _)) []) rfl rfl hl.1 rfl (lv_room (Nat.le_of_ble_eq_true rfl)) dL_law_693 ⟨(Nat.le_of_ble_eq_true rfl), (Nat.le_of_ble_eq_true rfl)⟩) hS hA hDm hPo hXX.sy (fun r2 Im1 Jm1 Sm1 Lm1 H locs hPm hDm hPo hS h2 => ?_)
  have hXX := Dis.tr hXX (wO_adr ao co 600 0 Io1 Jo1 So1 Lo1 Io1 Jo1 So1 Lo1) (wM_adr am cm Im Jm Sm Lm Im1 Jm1 Sm1 Lm1)
  refine lv_pop2_2 hx hb dL_law_696 rfl ?_
  refine lv_goto (tgt := 770) hx hb dL_law_697 (by decide) ?_
  exact K _ _ _ _ _ _ _ _ H locs (rr_owe hR h1 h2) hDo hDm hXX hPo hPm hS
set_option maxHeartbeats 4000000 in
set_option maxRecDepth 100000 in
theorem law_c12 {p : Program} {e : Env} {s : State} {m : MethodId} {below : List Frame} {meth : Method} {c : Code} (l : Launch) {b L : Nat} {xs : Nat → Int32} (C0 : lw_At p s m meth c b L xs) (hL : L ≤ 4608) (dC : Nat → ClassId) (dI : Nat → Nat → Nat) (ao am : Nat → Nat) (co cm : Nat → ClassId) (hKo : va_K (dC, dI) vwCl (tyL co) s) (hKm : va_K (dC, dI) vwCl (tyM cm) s) (hN : gN s) {k : Nat} (hk : k + 9 ≤ L) (ls : Array Slot) (hl : lv_has ls 4 [(3, .int (nI (k))), (2, .ref (am 0)), (1, .ref (ao 53)), (0, .ref b)]) (K : ∀ (Io : TI) (Jo : TJ) (So : TS) (Lo : TL) (Im : TI) (Jm : TJ) (Sm : TS) (Lm : TL) (H : Heap) (locs : List Loc), RR Io Jo So Lo Im Jm Sm Lm → va_D (fun q : Nat => s.heap.size ≤ q) (wO ao co 600 0 Io Jo So Lo) → va_D (fun q : Nat => s.heap.size ≤ q) (wM am cm Im Jm Sm Lm) → Dis (wO ao co 600 0 Io Jo So Lo) (wM am cm Im Jm Sm Lm) → va_P (dC, dI) vwCl (wO ao co 600 0 Io Jo So Lo) H → va_P (dC, dI) vwCl (wM am cm Im Jm Sm Lm) H → va_S (fun q : Nat => s.heap.size ≤ q) s.heap H locs → W p l e room_1 s m #[Value.ref b] below meth c H locs 300 60000 (lw_Z below #[Value.ref b] s) (F0 m 770 ls [])) (Io : TI) (Jo : TJ) (So : TS) (Lo : TL) (Im : TI) (Jm : TJ) (Sm : TS) (Lm : TL) (H : Heap) (locs : List Loc) (hR : RR Io Jo So Lo Im Jm Sm Lm) (hDo : va_D (fun q : Nat => s.heap.size ≤ q) (wO ao co 600 0 Io Jo So Lo)) (hDm : va_D (fun q : Nat => s.heap.size ≤ q) (wM am cm Im Jm Sm Lm)) (hXX : Dis (wO ao co 600 0 Io Jo So Lo) (wM am cm Im Jm Sm Lm)) (hPo : va_P (dC, dI) vwCl (wO ao co 600 0 Io Jo So Lo) H) (hPm : va_P (dC, dI) vwCl (wM am cm Im Jm Sm Lm) H) (hS : va_S (fun q : Nat => s.heap.size ≤ q) s.heap H locs) : W p l e room_1 s m #[Value.ref b] below meth c H locs 300 60000 (lw_Z below #[Value.ref b] s) (F0 m 700 ls []) := by
  obtain ⟨hx, hb, hr, hml, hown, hts0, hX, hbl, hlocks, hgv⟩ := id C0
  have hts := fun w h => hts0 w (wsL_law_in w h)
  have hA : ∀ q : Nat, s.heap.size ≤ q → (fun q : Nat => s.heap.size ≤ q) q := fun _ h => h
  have hbA : ¬ (fun q : Nat => s.heap.size ≤ q) b := Nat.not_le.mpr hbl
  obtain ⟨cc, b9, q9, Z9, hR⟩ := hR
  refine lv_aload_n hx hb dL_law_700 rfl (lv_at hl 2 rfl) ?_
  refine xcalli (va_runV (As := []) (rest := []) ⟨hx, hb, hml, hown, hts⟩ (c_X7_settle l dC dI ao co 600 0 H.size Io Jo So Lo  _ (u_X7_settle  hR)) (cwV 0 hts gL_law_X7_settle rfl rfl rfl (by decide +kernel) ⟨(Nat.le_of_ble_eq_true rfl), (Nat.le_of_ble_eq_true rfl)⟩) (g_pV hPo hKo hDo hN (va_recv hKo hPo (ci := 7) (q0 := 0) rfl (wO_atO _ _ _ _ _ _ _ _)) []) rfl rfl hl.1 rfl (lv_room (Nat.le_of_ble_eq_true rfl)) dL_law_701 ⟨(Nat.le_of_ble_eq_true rfl), (Nat.le_of_ble_eq_true rfl)⟩) hS hA hDo hPm hXX (fun r1 Io1 Jo1 So1 Lo1 H locs hPo hDo hPm hS h1 => ?_)
  refine lv_pop hx hb dL_law_704 rfl ?_
  refine lv_aload_n hx hb dL_law_705 rfl (lv_at hl 1 rfl) ?_
  have hXX := Dis.tr hXX (wO_adr ao co 600 0 Io Jo So Lo Io1 Jo1 So1 Lo1) (wM_adr am cm Im Jm Sm Lm Im Jm Sm Lm)
  refine xcalli (va_runV (As := []) (rest := []) ⟨hx, hb, hml, hown, hts⟩ (c_X8_settle l dC dI am cm H.size Im Jm Sm Lm  _ (u_X8_settle  hR)) (cwV 0 hts gL_law_X8_settle rfl rfl rfl (by decide +kernel) ⟨(Nat.le_of_ble_eq_true rfl), (Nat.le_of_ble_eq_true rfl)⟩) (g_pV hPm hKm hDm hN (va_recv hKm hPm (ci := 8) (q0 := 0) rfl (wM_at0 _ _ _ _ _ _)) []) rfl rfl hl.1 rfl (lv_room (Nat.le_of_ble_eq_true rfl)) dL_law_706 ⟨(Nat.le_of_ble_eq_true rfl), (Nat.le_of_ble_eq_true rfl)⟩) hS hA hDm hPo hXX.sy (fun r2 Im1 Jm1 Sm1 Lm1 H locs hPm hDm hPo hS h2 => ?_)
  have hXX := Dis.tr hXX (wO_adr ao co 600 0 Io1 Jo1 So1 Lo1 Io1 Jo1 So1 Lo1) (wM_adr am cm Im Jm Sm Lm Im1 Jm1 Sm1 Lm1)
  refine lv_pop hx hb dL_law_709 rfl ?_
  refine lv_goto (tgt := 770) hx hb dL_law_710 (by decide) ?_
  exact K _ _ _ _ _ _ _ _ H locs (rr_settle hR h1 h2) hDo hDm hXX hPo hPm hS
set_option maxHeartbeats 4000000 in
set_option maxRecDepth 100000 in
theorem law_c13 {p : Program} {e : Env} {s : State} {m : MethodId} {below : List Frame} {meth : Method} {c : Code} (l : Launch) {b L : Nat} {xs : Nat → Int32} (C0 : lw_At p s m meth c b L xs) (hL : L ≤ 4608) (dC : Nat → ClassId) (dI : Nat → Nat → Nat) (ao am : Nat → Nat) (co cm : Nat → ClassId) (hKo : va_K (dC, dI) vwCl (tyL co) s) (hKm : va_K (dC, dI) vwCl (tyM cm) s) (hN : gN s) {k : Nat} (hk : k + 9 ≤ L) (ls : Array Slot) (hl : lv_has ls 4 [(3, .int (nI (k))), (2, .ref (am 0)), (1, .ref (ao 53)), (0, .ref b)]) (K : ∀ (Io : TI) (Jo : TJ) (So : TS) (Lo : TL) (Im : TI) (Jm : TJ) (Sm : TS) (Lm : TL) (H : Heap) (locs : List Loc), RR Io Jo So Lo Im Jm Sm Lm → va_D (fun q : Nat => s.heap.size ≤ q) (wO ao co 600 0 Io Jo So Lo) → va_D (fun q : Nat => s.heap.size ≤ q) (wM am cm Im Jm Sm Lm) → Dis (wO ao co 600 0 Io Jo So Lo) (wM am cm Im Jm Sm Lm) → va_P (dC, dI) vwCl (wO ao co 600 0 Io Jo So Lo) H → va_P (dC, dI) vwCl (wM am cm Im Jm Sm Lm) H → va_S (fun q : Nat => s.heap.size ≤ q) s.heap H locs → W p l e room_1 s m #[Value.ref b] below meth c H locs 300 60000 (lw_Z below #[Value.ref b] s) (F0 m 770 ls [])) (Io : TI) (Jo : TJ) (So : TS) (Lo : TL) (Im : TI) (Jm : TJ) (Sm : TS) (Lm : TL) (H : Heap) (locs : List Loc) (hR : RR Io Jo So Lo Im Jm Sm Lm) (hDo : va_D (fun q : Nat => s.heap.size ≤ q) (wO ao co 600 0 Io Jo So Lo)) (hDm : va_D (fun q : Nat => s.heap.size ≤ q) (wM am cm Im Jm Sm Lm)) (hXX : Dis (wO ao co 600 0 Io Jo So Lo) (wM am cm Im Jm Sm Lm)) (hPo : va_P (dC, dI) vwCl (wO ao co 600 0 Io Jo So Lo) H) (hPm : va_P (dC, dI) vwCl (wM am cm Im Jm Sm Lm) H) (hS : va_S (fun q : Nat => s.heap.size ≤ q) s.heap H locs) : W p l e room_1 s m #[Value.ref b] below meth c H locs 300 60000 (lw_Z below #[Value.ref b] s) (F0 m 713 ls []) := by
  obtain ⟨hx, hb, hr, hml, hown, hts0, hX, hbl, hlocks, hgv⟩ := id C0
  have hts := fun w h => hts0 w (wsL_law_in w h)
  have hA : ∀ q : Nat, s.heap.size ≤ q → (fun q : Nat => s.heap.size ≤ q) q := fun _ h => h
  have hbA : ¬ (fun q : Nat => s.heap.size ≤ q) b := Nat.not_le.mpr hbl
  obtain ⟨cc, b9, q9, Z9, hR⟩ := hR
  refine lv_aload_n hx hb dL_law_713 rfl (lv_at hl 2 rfl) ?_
  refine lv_aload_n hx hb dL_law_714 rfl (lv_at hl 3 rfl) ?_
  refine lv_iload_n hx hb dL_law_715 rfl (lv_at hl 0 rfl) ?_
  refine lv_iconst (v := 1) hx hb dL_law_716 (by decide) ?_
  refine lv_iadd hx hb dL_law_717 ?_
  refine va_sld hx hb hX hbl hbA hS (sc_in1 hk hL) dL_law_718 ?_
  refine lv_aload_n hx hb dL_law_719 rfl (lv_at hl 3 rfl) ?_
  refine lv_iload_n hx hb dL_law_720 rfl (lv_at hl 0 rfl) ?_
  refine lv_iconst (v := 2) hx hb dL_law_721 (by decide) ?_
  refine lv_iadd hx hb dL_law_722 ?_
  refine va_sld hx hb hX hbl hbA hS (sc_in2 hk hL) dL_law_723 ?_
  refine xcalll (va_runV (As := [.int (xs (nI k + 1).toNatClampNeg), .int (xs (nI k + 2).toNatClampNeg)]) (rest := []) ⟨hx, hb, hml, hown, hts⟩ (c_X7_line l dC dI ao co 600 0 H.size Io Jo So Lo ((xs (nI k + 1).toNatClampNeg)) ((xs (nI k + 2).toNatClampNeg)) _ (u_X7_line ((xs (nI k + 1).toNatClampNeg)) ((xs (nI k + 2).toNatClampNeg)) hR)) (cwV 2 hts gL_law_X7_line rfl rfl rfl (by decide +kernel) ⟨(Nat.le_of_ble_eq_true rfl), (Nat.le_of_ble_eq_true rfl)⟩) (g_pV hPo hKo hDo hN (va_recv hKo hPo (ci := 7) (q0 := 0) rfl (wO_atO _ _ _ _ _ _ _ _)) [.int (xs (nI k + 1).toNatClampNeg), .int (xs (nI k + 2).toNatClampNeg)]) rfl rfl hl.1 rfl (lv_room (Nat.le_of_ble_eq_true rfl)) dL_law_724 ⟨(Nat.le_of_ble_eq_true rfl), (Nat.le_of_ble_eq_true rfl)⟩) hS hA hDo hPm hXX (fun r1 Io1 Jo1 So1 Lo1 H locs hPo hDo hPm hS h1 => ?_)
  refine lv_pop2_2 hx hb dL_law_727 rfl ?_
  refine lv_aload_n hx hb dL_law_728 rfl (lv_at hl 1 rfl) ?_
  refine lv_aload_n hx hb dL_law_729 rfl (lv_at hl 3 rfl) ?_
  refine lv_iload_n hx hb dL_law_730 rfl (lv_at hl 0 rfl) ?_
  refine lv_iconst (v := 1) hx hb dL_law_731 (by decide) ?_
  refine lv_iadd hx hb dL_law_732 ?_
  refine va_sld hx hb hX hbl hbA hS (sc_in1 hk hL) dL_law_733 ?_
  refine lv_aload_n hx hb dL_law_734 rfl (lv_at hl 3 rfl) ?_
  refine lv_iload_n hx hb dL_law_735 rfl (lv_at hl 0 rfl) ?_
  refine lv_iconst (v := 2) hx hb dL_law_736 (by decide) ?_
  refine lv_iadd hx hb dL_law_737 ?_
  refine va_sld hx hb hX hbl hbA hS (sc_in2 hk hL) dL_law_738 ?_
  have hXX := Dis.tr hXX (wO_adr ao co 600 0 Io Jo So Lo Io1 Jo1 So1 Lo1) (wM_adr am cm Im Jm Sm Lm Im Jm Sm Lm)
  refine xcalll (va_runV (As := [.int (xs (nI k + 1).toNatClampNeg), .int (xs (nI k + 2).toNatClampNeg)]) (rest := []) ⟨hx, hb, hml, hown, hts⟩ (c_X8_line l dC dI am cm H.size Im Jm Sm Lm ((xs (nI k + 1).toNatClampNeg)) ((xs (nI k + 2).toNatClampNeg)) _ (u_X8_line ((xs (nI k + 1).toNatClampNeg)) ((xs (nI k + 2).toNatClampNeg)) hR)) (cwV 2 hts gL_law_X8_line rfl rfl rfl (by decide +kernel) ⟨(Nat.le_of_ble_eq_true rfl), (Nat.le_of_ble_eq_true rfl)⟩) (g_pV hPm hKm hDm hN (va_recv hKm hPm (ci := 8) (q0 := 0) rfl (wM_at0 _ _ _ _ _ _)) [.int (xs (nI k + 1).toNatClampNeg), .int (xs (nI k + 2).toNatClampNeg)]) rfl rfl hl.1 rfl (lv_room (Nat.le_of_ble_eq_true rfl)) dL_law_739 ⟨(Nat.le_of_ble_eq_true rfl), (Nat.le_of_ble_eq_true rfl)⟩) hS hA hDm hPo hXX.sy (fun r2 Im1 Jm1 Sm1 Lm1 H locs hPm hDm hPo hS h2 => ?_)
  have hXX := Dis.tr hXX (wO_adr ao co 600 0 Io1 Jo1 So1 Lo1 Io1 Jo1 So1 Lo1) (wM_adr am cm Im Jm Sm Lm Im1 Jm1 Sm1 Lm1)
  refine lv_pop2_2 hx hb dL_law_742 rfl ?_
  refine lv_goto (tgt := 770) hx hb dL_law_743 (by decide) ?_
  exact K _ _ _ _ _ _ _ _ H locs (rr_line hR h1 h2) hDo hDm hXX hPo hPm hS
set_option maxHeartbeats 4000000 in
set_option maxRecDepth 100000 in
theorem law_c14 {p : Program} {e : Env} {s : State} {m : MethodId} {below : List Frame} {meth : Method} {c : Code} (l : Launch) {b L : Nat} {xs : Nat → Int32} (C0 : lw_At p s m meth c b L xs) (hL : L ≤ 4608) (dC : Nat → ClassId) (dI : Nat → Nat → Nat) (ao am : Nat → Nat) (co cm : Nat → ClassId) (hKo : va_K (dC, dI) vwCl (tyL co) s) (hKm : va_K (dC, dI) vwCl (tyM cm) s) (hN : gN s) {k : Nat} (hk : k + 9 ≤ L) (ls : Array Slot) (hl : lv_has ls 4 [(3, .int (nI (k))), (2, .ref (am 0)), (1, .ref (ao 53)), (0, .ref b)]) (K : ∀ (Io : TI) (Jo : TJ) (So : TS) (Lo : TL) (Im : TI) (Jm : TJ) (Sm : TS) (Lm : TL) (H : Heap) (locs : List Loc), RR Io Jo So Lo Im Jm Sm Lm → va_D (fun q : Nat => s.heap.size ≤ q) (wO ao co 600 0 Io Jo So Lo) → va_D (fun q : Nat => s.heap.size ≤ q) (wM am cm Im Jm Sm Lm) → Dis (wO ao co 600 0 Io Jo So Lo) (wM am cm Im Jm Sm Lm) → va_P (dC, dI) vwCl (wO ao co 600 0 Io Jo So Lo) H → va_P (dC, dI) vwCl (wM am cm Im Jm Sm Lm) H → va_S (fun q : Nat => s.heap.size ≤ q) s.heap H locs → W p l e room_1 s m #[Value.ref b] below meth c H locs 300 60000 (lw_Z below #[Value.ref b] s) (F0 m 770 ls [])) (Io : TI) (Jo : TJ) (So : TS) (Lo : TL) (Im : TI) (Jm : TJ) (Sm : TS) (Lm : TL) (H : Heap) (locs : List Loc) (hR : RR Io Jo So Lo Im Jm Sm Lm) (hDo : va_D (fun q : Nat => s.heap.size ≤ q) (wO ao co 600 0 Io Jo So Lo)) (hDm : va_D (fun q : Nat => s.heap.size ≤ q) (wM am cm Im Jm Sm Lm)) (hXX : Dis (wO ao co 600 0 Io Jo So Lo) (wM am cm Im Jm Sm Lm)) (hPo : va_P (dC, dI) vwCl (wO ao co 600 0 Io Jo So Lo) H) (hPm : va_P (dC, dI) vwCl (wM am cm Im Jm Sm Lm) H) (hS : va_S (fun q : Nat => s.heap.size ≤ q) s.heap H locs) : W p l e room_1 s m #[Value.ref b] below meth c H locs 300 60000 (lw_Z below #[Value.ref b] s) (F0 m 746 ls []) := by
  obtain ⟨hx, hb, hr, hml, hown, hts0, hX, hbl, hlocks, hgv⟩ := id C0
  have hts := fun w h => hts0 w (wsL_law_in w h)
  have hA : ∀ q : Nat, s.heap.size ≤ q → (fun q : Nat => s.heap.size ≤ q) q := fun _ h => h
  have hbA : ¬ (fun q : Nat => s.heap.size ≤ q) b := Nat.not_le.mpr hbl
  obtain ⟨cc, b9, q9, Z9, hR⟩ := hR
  refine lv_aload_n hx hb dL_law_746 rfl (lv_at hl 2 rfl) ?_
  refine lv_aload_n hx hb dL_law_747 rfl (lv_at hl 3 rfl) ?_
  refine lv_iload_n hx hb dL_law_748 rfl (lv_at hl 0 rfl) ?_
  refine lv_iconst (v := 1) hx hb dL_law_749 (by decide) ?_
  refine lv_iadd hx hb dL_law_750 ?_
  refine va_sld hx hb hX hbl hbA hS (sc_in1 hk hL) dL_law_751 ?_
  refine xcalll (va_runV (As := [.int (xs (nI k + 1).toNatClampNeg)]) (rest := []) ⟨hx, hb, hml, hown, hts⟩ (c_X7_count l dC dI ao co 600 0 H.size Io Jo So Lo ((xs (nI k + 1).toNatClampNeg)) _ (u_X7_count ((xs (nI k + 1).toNatClampNeg)) hR)) (cwV 1 hts gL_law_X7_count rfl rfl rfl (by decide +kernel) ⟨(Nat.le_of_ble_eq_true rfl), (Nat.le_of_ble_eq_true rfl)⟩) (g_pV hPo hKo hDo hN (va_recv hKo hPo (ci := 7) (q0 := 0) rfl (wO_atO _ _ _ _ _ _ _ _)) [.int (xs (nI k + 1).toNatClampNeg)]) rfl rfl hl.1 rfl (lv_room (Nat.le_of_ble_eq_true rfl)) dL_law_752 ⟨(Nat.le_of_ble_eq_true rfl), (Nat.le_of_ble_eq_true rfl)⟩) hS hA hDo hPm hXX (fun r1 Io1 Jo1 So1 Lo1 H locs hPo hDo hPm hS h1 => ?_)
  refine lv_aload_n hx hb dL_law_755 rfl (lv_at hl 1 rfl) ?_
  refine lv_aload_n hx hb dL_law_756 rfl (lv_at hl 3 rfl) ?_
  refine lv_iload_n hx hb dL_law_757 rfl (lv_at hl 0 rfl) ?_
  refine lv_iconst (v := 1) hx hb dL_law_758 (by decide) ?_
  refine lv_iadd hx hb dL_law_759 ?_
  refine va_sld hx hb hX hbl hbA hS (sc_in1 hk hL) dL_law_760 ?_
  have hXX := Dis.tr hXX (wO_adr ao co 600 0 Io Jo So Lo Io1 Jo1 So1 Lo1) (wM_adr am cm Im Jm Sm Lm Im Jm Sm Lm)
  refine xcalll (va_runV (As := [.int (xs (nI k + 1).toNatClampNeg)]) (rest := [.long r1]) ⟨hx, hb, hml, hown, hts⟩ (c_X8_count l dC dI am cm H.size Im Jm Sm Lm ((xs (nI k + 1).toNatClampNeg)) _ (u_X8_count ((xs (nI k + 1).toNatClampNeg)) hR)) (cwV 1 hts gL_law_X8_count rfl rfl rfl (by decide +kernel) ⟨(Nat.le_of_ble_eq_true rfl), (Nat.le_of_ble_eq_true rfl)⟩) (g_pV hPm hKm hDm hN (va_recv hKm hPm (ci := 8) (q0 := 0) rfl (wM_at0 _ _ _ _ _ _)) [.int (xs (nI k + 1).toNatClampNeg)]) rfl rfl hl.1 rfl (lv_room (Nat.le_of_ble_eq_true rfl)) dL_law_761 ⟨(Nat.le_of_ble_eq_true rfl), (Nat.le_of_ble_eq_true rfl)⟩) hS hA hDm hPo hXX.sy (fun r2 Im1 Jm1 Sm1 Lm1 H locs hPm hDm hPo hS h2 => ?_)
  have hXX := Dis.tr hXX (wO_adr ao co 600 0 Io1 Jo1 So1 Lo1 Io1 Jo1 So1 Lo1) (wM_adr am cm Im Jm Sm Lm Im1 Jm1 Sm1 Lm1)
  refine W.lcmp hx hb dL_law_764 ?_
  refine lv_if_eq (tgt := 770) hx hb dL_law_765 (by decide) (fun hc => K _ _ _ _ _ _ _ _ H locs (rr_count hR h1 h2) hDo hDm hXX hPo hPm hS) (fun hc => absurd (by rw [re_count hR h1 h2]; exact lg_same _) hc)
