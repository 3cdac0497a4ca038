set_option maxHeartbeats 4000000 in
set_option maxRecDepth 100000 in
theorem law_c8 {p : Program} {e : Env} {s : State} {m : MethodId} {below : List Frame} {meth : Method} {c : Code} (l : Launch) {b : Nat} {xs : Nat → Int32} (C0 : lw_At p s m meth c b 9 xs) (dC : Nat → ClassId) (dI : Nat → Nat → Nat) (ao am : Nat → Nat) (co cm : Nat → ClassId) (hDo : va_D (fun q : Nat => s.heap.size ≤ q) (wO ao co 600 0 IO JO SO LO)) (hDm : va_D (fun q : Nat => s.heap.size ≤ q) (wM am cm IM JM SM LM)) (hXX : ∀ (i j : Nat) (p q : Nat × va_E), (wO ao co 600 0 IO JO SO LO)[i]? = some p → (wM am cm IM JM SM LM)[j]? = some q → p.1 ≠ q.1) (hKo : va_K (dC, dI) vwCl (tyL co) s) (hKm : va_K (dC, dI) vwCl (tyM cm) s) (H : Heap) (locs : List Loc) (ls : Array Slot) (hPo : va_P (dC, dI) vwCl (wO ao co 600 0 IO JO SO LO) H) (hPm : va_P (dC, dI) vwCl (wM am cm IM JM SM LM) H) (hS : va_S (fun q : Nat => s.heap.size ≤ q) s.heap H locs) (hl : lv_has ls 4 [(3, .int 0), (2, .ref (am 0)), (1, .ref (ao 53)), (0, .ref b)]) : W p l e room_1 s m #[Value.ref b] below meth c H locs 300 60000 (lw_Z below #[Value.ref b] s) (F0 m 522 ls []) := by
  obtain ⟨hx, hb, hr, hml, hown, hts0, hX, hbl, hlocks, hgv⟩ := id C0
  have hts := fun w h => hts0 w (wsL_law_in w h)
  have hA : ∀ q : Nat, s.heap.size ≤ q → (fun q : Nat => s.heap.size ≤ q) q := fun _ h => h
  have hbA : ¬ (fun q : Nat => s.heap.size ≤ q) b := Nat.not_le.mpr hbl
  refine lv_aload_n hx hb dL_law_522 rfl (lv_at hl 2 rfl) ?_
  refine lv_aload_n hx hb dL_law_523 rfl (lv_at hl 3 rfl) ?_
  refine lv_iload_n hx hb dL_law_524 rfl (lv_at hl 0 rfl) ?_
  refine lv_iconst (v := 1) hx hb dL_law_525 (by decide) ?_
  refine lv_iadd hx hb dL_law_526 ?_
  refine va_sld hx hb hX hbl hbA hS (by unfold vp_in; decide) dL_law_527 ?_
  refine lv_aload_n hx hb dL_law_528 rfl (lv_at hl 3 rfl) ?_
  refine lv_iload_n hx hb dL_law_529 rfl (lv_at hl 0 rfl) ?_
  refine lv_iconst (v := 2) hx hb dL_law_530 (by decide) ?_
  refine lv_iadd hx hb dL_law_531 ?_
  refine va_sld hx hb hX hbl hbA hS (by unfold vp_in; decide) dL_law_532 ?_
  refine lcalll (va_runV (As := [.int (xs ((0 : Int32) + 1).toNatClampNeg), .int (xs ((0 : Int32) + 2).toNatClampNeg)]) (rest := []) ⟨hx, hb, hml, hown, hts⟩ (c_X7_has l dC dI ao co 600 0 H.size IO JO SO LO ((xs ((0 : Int32) + 1).toNatClampNeg)) ((xs ((0 : Int32) + 2).toNatClampNeg)) _ (q_X7_has ((xs ((0 : Int32) + 1).toNatClampNeg)) ((xs ((0 : Int32) + 2).toNatClampNeg)))) (cwV 2 hts gL_law_X7_has rfl rfl rfl (by decide +kernel) ⟨(Nat.le_of_ble_eq_true rfl), (Nat.le_of_ble_eq_true rfl)⟩) (g_pV hPo hKo hDo (va_recv hKo hPo (ci := 7) (q0 := 0) rfl (wO_atO _ _ _ _ _ _ _ _)) [.int (xs ((0 : Int32) + 1).toNatClampNeg), .int (xs ((0 : Int32) + 2).toNatClampNeg)]) rfl rfl hl.1 rfl (lv_room (Nat.le_of_ble_eq_true rfl)) dL_law_533 ⟨(Nat.le_of_ble_eq_true rfl), (Nat.le_of_ble_eq_true rfl)⟩) hS hA hDo hPm hXX (fun r1 _ _ _ _ H locs hPm hS h1 => ?_)
  refine lv_aload_n hx hb dL_law_536 rfl (lv_at hl 1 rfl) ?_
  refine lv_aload_n hx hb dL_law_537 rfl (lv_at hl 3 rfl) ?_
  refine lv_iload_n hx hb dL_law_538 rfl (lv_at hl 0 rfl) ?_
  refine lv_iconst (v := 1) hx hb dL_law_539 (by decide) ?_
  refine lv_iadd hx hb dL_law_540 ?_
  refine va_sld hx hb hX hbl hbA hS (by unfold vp_in; decide) dL_law_541 ?_
  refine lv_aload_n hx hb dL_law_542 rfl (lv_at hl 3 rfl) ?_
  refine lv_iload_n hx hb dL_law_543 rfl (lv_at hl 0 rfl) ?_
  refine lv_iconst (v := 2) hx hb dL_law_544 (by decide) ?_
  refine lv_iadd hx hb dL_law_545 ?_
  refine va_sld hx hb hX hbl hbA hS (by unfold vp_in; decide) dL_law_546 ?_
  refine gcalll (va_runV (As := [.int (xs ((0 : Int32) + 1).toNatClampNeg), .int (xs ((0 : Int32) + 2).toNatClampNeg)]) (rest := [.long r1]) ⟨hx, hb, hml, hown, hts⟩ (c_X8_has l dC dI am cm H.size IM JM SM LM ((xs ((0 : Int32) + 1).toNatClampNeg)) ((xs ((0 : Int32) + 2).toNatClampNeg)) _ (q_X8_has ((xs ((0 : Int32) + 1).toNatClampNeg)) ((xs ((0 : Int32) + 2).toNatClampNeg)))) (cwV 2 hts gL_law_X8_has rfl rfl rfl (by decide +kernel) ⟨(Nat.le_of_ble_eq_true rfl), (Nat.le_of_ble_eq_true rfl)⟩) (g_pV hPm hKm hDm (va_recv hKm hPm (ci := 8) (q0 := 0) rfl (wM_at0 _ _ _ _ _ _)) [.int (xs ((0 : Int32) + 1).toNatClampNeg), .int (xs ((0 : Int32) + 2).toNatClampNeg)]) rfl rfl hl.1 rfl (lv_room (Nat.le_of_ble_eq_true rfl)) dL_law_547 ⟨(Nat.le_of_ble_eq_true rfl), (Nat.le_of_ble_eq_true rfl)⟩) hS hA hDm (fun r2 _ _ _ _ H locs hPm _ hS h2 => ?_)
  refine W.lcmp hx hb dL_law_550 ?_
  refine lv_if_eq (tgt := 775) hx hb dL_law_551 (by decide) (fun hc => law_next l C0 H locs ls am ao hS hl) (fun hc => absurd (by rw [h1.trans h2.symm]; exact lg_same _) hc)
set_option maxHeartbeats 4000000 in
set_option maxRecDepth 100000 in
theorem law_c9 {p : Program} {e : Env} {s : State} {m : MethodId} {below : List Frame} {meth : Method} {c : Code} (l : Launch) {b : Nat} {xs : Nat → Int32} (C0 : lw_At p s m meth c b 9 xs) (dC : Nat → ClassId) (dI : Nat → Nat → Nat) (ao am : Nat → Nat) (co cm : Nat → ClassId) (hDo : va_D (fun q : Nat => s.heap.size ≤ q) (wO ao co 600 0 IO JO SO LO)) (hDm : va_D (fun q : Nat => s.heap.size ≤ q) (wM am cm IM JM SM LM)) (hXX : ∀ (i j : Nat) (p q : Nat × va_E), (wO ao co 600 0 IO JO SO LO)[i]? = some p → (wM am cm IM JM SM LM)[j]? = some q → p.1 ≠ q.1) (hKo : va_K (dC, dI) vwCl (tyL co) s) (hKm : va_K (dC, dI) vwCl (tyM cm) s) (H : Heap) (locs : List Loc) (ls : Array Slot) (hPo : va_P (dC, dI) vwCl (wO ao co 600 0 IO JO SO LO) H) (hPm : va_P (dC, dI) vwCl (wM am cm IM JM SM LM) H) (hS : va_S (fun q : Nat => s.heap.size ≤ q) s.heap H locs) (hl : lv_has ls 4 [(3, .int 0), (2, .ref (am 0)), (1, .ref (ao 53)), (0, .ref b)]) : W p l e room_1 s m #[Value.ref b] below meth c H locs 300 60000 (lw_Z below #[Value.ref b] s) (F0 m 556 ls []) := by
  obtain ⟨hx, hb, hr, hml, hown, hts0, hX, hbl, hlocks, hgv⟩ := id C0
  have hts := fun w h => hts0 w (wsL_law_in w h)
  have hA : ∀ q : Nat, s.heap.size ≤ q → (fun q : Nat => s.heap.size ≤ q) q := fun _ h => h
  have hbA : ¬ (fun q : Nat => s.heap.size ≤ q) b := Nat.not_le.mpr hbl
  refine lv_aload_n hx hb dL_law_556 rfl (lv_at hl 2 rfl) ?_
  refine lv_aload_n hx hb dL_law_557 rfl (lv_at hl 3 rfl) ?_
  refine lv_iload_n hx hb dL_law_558 rfl (lv_at hl 0 rfl) ?_
  refine lv_iconst (v := 1) hx hb dL_law_559 (by decide) ?_
  refine lv_iadd hx hb dL_law_560 ?_
  refine va_sld hx hb hX hbl hbA hS (by unfold vp_in; decide) dL_law_561 ?_
  refine lv_aload_n hx hb dL_law_562 rfl (lv_at hl 3 rfl) ?_
  refine lv_iload_n hx hb dL_law_563 rfl (lv_at hl 0 rfl) ?_
  refine lv_iconst (v := 2) hx hb dL_law_564 (by decide) ?_
  refine lv_iadd hx hb dL_law_565 ?_
  refine va_sld hx hb hX hbl hbA hS (by unfold vp_in; decide) dL_law_566 ?_
  refine lv_aload_n hx hb dL_law_567 rfl (lv_at hl 3 rfl) ?_
  refine lv_iload_n hx hb dL_law_568 rfl (lv_at hl 0 rfl) ?_
  refine lv_iconst (v := 3) hx hb dL_law_569 (by decide) ?_
  refine lv_iadd hx hb dL_law_570 ?_
  refine va_sld hx hb hX hbl hbA hS (by unfold vp_in; decide) dL_law_571 ?_
  refine lcalli (va_runV (As := [.int (xs ((0 : Int32) + 1).toNatClampNeg), .int (xs ((0 : Int32) + 2).toNatClampNeg), .int (xs ((0 : Int32) + 3).toNatClampNeg)]) (rest := []) ⟨hx, hb, hml, hown, hts⟩ (c_X7_told l dC dI ao co 600 0 H.size IO JO SO LO ((xs ((0 : Int32) + 1).toNatClampNeg)) ((xs ((0 : Int32) + 2).toNatClampNeg)) ((xs ((0 : Int32) + 3).toNatClampNeg)) _ (q_X7_told ((xs ((0 : Int32) + 1).toNatClampNeg)) ((xs ((0 : Int32) + 2).toNatClampNeg)) ((xs ((0 : Int32) + 3).toNatClampNeg)))) (cwV 3 hts gL_law_X7_told rfl rfl rfl (by decide +kernel) ⟨(Nat.le_of_ble_eq_true rfl), (Nat.le_of_ble_eq_true rfl)⟩) (g_pV hPo hKo hDo (va_recv hKo hPo (ci := 7) (q0 := 0) rfl (wO_atO _ _ _ _ _ _ _ _)) [.int (xs ((0 : Int32) + 1).toNatClampNeg), .int (xs ((0 : Int32) + 2).toNatClampNeg), .int (xs ((0 : Int32) + 3).toNatClampNeg)]) rfl rfl hl.1 rfl (lv_room (Nat.le_of_ble_eq_true rfl)) dL_law_572 ⟨(Nat.le_of_ble_eq_true rfl), (Nat.le_of_ble_eq_true rfl)⟩) hS hA hDo hPm hXX (fun r1 _ _ _ _ H locs hPm hS h1 => ?_)
  refine lv_aload_n hx hb dL_law_575 rfl (lv_at hl 1 rfl) ?_
  refine lv_aload_n hx hb dL_law_576 rfl (lv_at hl 3 rfl) ?_
  refine lv_iload_n hx hb dL_law_577 rfl (lv_at hl 0 rfl) ?_
  refine lv_iconst (v := 1) hx hb dL_law_578 (by decide) ?_
  refine lv_iadd hx hb dL_law_579 ?_
  refine va_sld hx hb hX hbl hbA hS (by unfold vp_in; decide) dL_law_580 ?_
  refine lv_aload_n hx hb dL_law_581 rfl (lv_at hl 3 rfl) ?_
  refine lv_iload_n hx hb dL_law_582 rfl (lv_at hl 0 rfl) ?_
  refine lv_iconst (v := 2) hx hb dL_law_583 (by decide) ?_
  refine lv_iadd hx hb dL_law_584 ?_
  refine va_sld hx hb hX hbl hbA hS (by unfold vp_in; decide) dL_law_585 ?_
  refine lv_aload_n hx hb dL_law_586 rfl (lv_at hl 3 rfl) ?_
  refine lv_iload_n hx hb dL_law_587 rfl (lv_at hl 0 rfl) ?_
  refine lv_iconst (v := 3) hx hb dL_law_588 (by decide) ?_
  refine lv_iadd hx hb dL_law_589 ?_
  refine va_sld hx hb hX hbl hbA hS (by unfold vp_in; decide) dL_law_590 ?_
  refine gcalli (va_runV (As := [.int (xs ((0 : Int32) + 1).toNatClampNeg), .int (xs ((0 : Int32) + 2).toNatClampNeg), .int (xs ((0 : Int32) + 3).toNatClampNeg)]) (rest := [.int r1]) ⟨hx, hb, hml, hown, hts⟩ (c_X8_told l dC dI am cm H.size IM JM SM LM ((xs ((0 : Int32) + 1).toNatClampNeg)) ((xs ((0 : Int32) + 2).toNatClampNeg)) ((xs ((0 : Int32) + 3).toNatClampNeg)) _ (q_X8_told ((xs ((0 : Int32) + 1).toNatClampNeg)) ((xs ((0 : Int32) + 2).toNatClampNeg)) ((xs ((0 : Int32) + 3).toNatClampNeg)))) (cwV 3 hts gL_law_X8_told rfl rfl rfl (by decide +kernel) ⟨(Nat.le_of_ble_eq_true rfl), (Nat.le_of_ble_eq_true rfl)⟩) (g_pV hPm hKm hDm (va_recv hKm hPm (ci := 8) (q0 := 0) rfl (wM_at0 _ _ _ _ _ _)) [.int (xs ((0 : Int32) + 1).toNatClampNeg), .int (xs ((0 : Int32) + 2).toNatClampNeg), .int (xs ((0 : Int32) + 3).toNatClampNeg)]) rfl rfl hl.1 rfl (lv_room (Nat.le_of_ble_eq_true rfl)) dL_law_591 ⟨(Nat.le_of_ble_eq_true rfl), (Nat.le_of_ble_eq_true rfl)⟩) hS hA hDm (fun r2 _ _ _ _ H locs hPm _ hS h2 => ?_)
  refine lv_icmp_eq (tgt := 775) hx hb dL_law_594 (by decide) (fun hc => law_next l C0 H locs ls am ao hS hl) (fun hc => absurd (h1.trans h2.symm) hc)
set_option maxHeartbeats 4000000 in
set_option maxRecDepth 100000 in
theorem law_c10 {p : Program} {e : Env} {s : State} {m : MethodId} {below : List Frame} {meth : Method} {c : Code} (l : Launch) {b : Nat} {xs : Nat → Int32} (C0 : lw_At p s m meth c b 9 xs) (dC : Nat → ClassId) (dI : Nat → Nat → Nat) (ao am : Nat → Nat) (co cm : Nat → ClassId) (hDo : va_D (fun q : Nat => s.heap.size ≤ q) (wO ao co 600 0 IO JO SO LO)) (hDm : va_D (fun q : Nat => s.heap.size ≤ q) (wM am cm IM JM SM LM)) (hXX : ∀ (i j : Nat) (p q : Nat × va_E), (wO ao co 600 0 IO JO SO LO)[i]? = some p → (wM am cm IM JM SM LM)[j]? = some q → p.1 ≠ q.1) (hKo : va_K (dC, dI) vwCl (tyL co) s) (hKm : va_K (dC, dI) vwCl (tyM cm) s) (H : Heap) (locs : List Loc) (ls : Array Slot) (hPo : va_P (dC, dI) vwCl (wO ao co 600 0 IO JO SO LO) H) (hPm : va_P (dC, dI) vwCl (wM am cm IM JM SM LM) H) (hS : va_S (fun q : Nat => s.heap.size ≤ q) s.heap H locs) (hl : lv_has ls 4 [(3, .int 0), (2, .ref (am 0)), (1, .ref (ao 53)), (0, .ref b)]) : W p l e room_1 s m #[Value.ref b] below meth c H locs 300 60000 (lw_Z below #[Value.ref b] s) (F0 m 599 ls []) := by
  obtain ⟨hx, hb, hr, hml, hown, hts0, hX, hbl, hlocks, hgv⟩ := id C0
  have hts := fun w h => hts0 w (wsL_law_in w h)
  have hA : ∀ q : Nat, s.heap.size ≤ q → (fun q : Nat => s.heap.size ≤ q) q := fun _ h => h
  have hbA : ¬ (fun q : Nat => s.heap.size ≤ q) b := Nat.not_le.mpr hbl
  refine lv_aload_n hx hb dL_law_599 rfl (lv_at hl 2 rfl) ?_
  refine lv_aload_n hx hb dL_law_600 rfl (lv_at hl 3 rfl) ?_
  refine lv_iload_n hx hb dL_law_601 rfl (lv_at hl 0 rfl) ?_
  refine lv_iconst (v := 1) hx hb dL_law_602 (by decide) ?_
  refine lv_iadd hx hb dL_law_603 ?_
  refine va_sld hx hb hX hbl hbA hS (by unfold vp_in; decide) dL_law_604 ?_
  refine lv_aload_n hx hb dL_law_605 rfl (lv_at hl 3 rfl) ?_
  refine lv_iload_n hx hb dL_law_606 rfl (lv_at hl 0 rfl) ?_
  refine lv_iconst (v := 2) hx hb dL_law_607 (by decide) ?_
  refine lv_iadd hx hb dL_law_608 ?_
  refine va_sld hx hb hX hbl hbA hS (by unfold vp_in; decide) dL_law_609 ?_
  refine lv_aload_n hx hb dL_law_610 rfl (lv_at hl 3 rfl) ?_
  refine lv_iload_n hx hb dL_law_611 rfl (lv_at hl 0 rfl) ?_
  refine lv_iconst (v := 3) hx hb dL_law_612 (by decide) ?_
  refine lv_iadd hx hb dL_law_613 ?_
  refine va_sld hx hb hX hbl hbA hS (by unfold vp_in; decide) dL_law_614 ?_
  refine lv_aload_n hx hb dL_law_615 rfl (lv_at hl 3 rfl) ?_
  refine lv_iload_n hx hb dL_law_616 rfl (lv_at hl 0 rfl) ?_
  refine lv_iconst (v := 4) hx hb dL_law_617 (by decide) ?_
  refine lv_iadd hx hb dL_law_618 ?_
  refine va_sld hx hb hX hbl hbA hS (by unfold vp_in; decide) dL_law_619 ?_
  refine lv_aload_n hx hb dL_law_620 rfl (lv_at hl 3 rfl) ?_
  refine lv_iload_n hx hb dL_law_621 rfl (lv_at hl 0 rfl) ?_
  refine lv_iconst (v := 5) hx hb dL_law_622 (by decide) ?_
  refine lv_iadd hx hb dL_law_623 ?_
  refine va_sld hx hb hX hbl hbA hS (by unfold vp_in; decide) dL_law_624 ?_
  refine lv_aload_n hx hb dL_law_625 rfl (lv_at hl 3 rfl) ?_
  refine lv_iload_n hx hb dL_law_626 rfl (lv_at hl 0 rfl) ?_
  refine lv_bipush (v := 6) hx hb dL_law_627 (by decide) ?_
  refine lv_iadd hx hb dL_law_629 ?_
  refine va_sld hx hb hX hbl hbA hS (by unfold vp_in; decide) dL_law_630 ?_
  by_cases hz : (xs ((0 : Int32) + 6).toNatClampNeg) = 0
  · refine lv_if_eq (tgt := 638) hx hb dL_law_631 (by decide) (fun hc => ?_) (fun hc => absurd hz hc)
    refine lv_iconst (v := 0) hx hb dL_law_638 (by decide) ?_
    refine lcalli (va_runV (As := [.int (xs ((0 : Int32) + 1).toNatClampNeg), .int (xs ((0 : Int32) + 2).toNatClampNeg), .int (xs ((0 : Int32) + 3).toNatClampNeg), .int (xs ((0 : Int32) + 4).toNatClampNeg), .int (xs ((0 : Int32) + 5).toNatClampNeg), .int 0]) (rest := []) ⟨hx, hb, hml, hown, hts⟩ (c_X7_mend l dC dI ao co 600 0 H.size IO JO SO LO ((xs ((0 : Int32) + 1).toNatClampNeg)) ((xs ((0 : Int32) + 2).toNatClampNeg)) ((xs ((0 : Int32) + 3).toNatClampNeg)) ((xs ((0 : Int32) + 4).toNatClampNeg)) ((xs ((0 : Int32) + 5).toNatClampNeg)) 0 _ (q_X7_mend ((xs ((0 : Int32) + 1).toNatClampNeg)) ((xs ((0 : Int32) + 2).toNatClampNeg)) ((xs ((0 : Int32) + 3).toNatClampNeg)) ((xs ((0 : Int32) + 4).toNatClampNeg)) ((xs ((0 : Int32) + 5).toNatClampNeg)) 0)) (cwV 6 hts gL_law_X7_mend rfl rfl rfl (by decide +kernel) ⟨(Nat.le_of_ble_eq_true rfl), (Nat.le_of_ble_eq_true rfl)⟩) (g_pV hPo hKo hDo (va_recv hKo hPo (ci := 7) (q0 := 0) rfl (wO_atO _ _ _ _ _ _ _ _)) [.int (xs ((0 : Int32) + 1).toNatClampNeg), .int (xs ((0 : Int32) + 2).toNatClampNeg), .int (xs ((0 : Int32) + 3).toNatClampNeg), .int (xs ((0 : Int32) + 4).toNatClampNeg), .int (xs ((0 : Int32) + 5).toNatClampNeg), .int 0]) rfl rfl hl.1 rfl (lv_room (Nat.le_of_ble_eq_true rfl)) dL_law_639 ⟨(Nat.le_of_ble_eq_true rfl), (Nat.le_of_ble_eq_true rfl)⟩) hS hA hDo hPm hXX (fun r1 _ _ _ _ H locs hPm hS h1 => ?_)
    refine lv_aload_n hx hb dL_law_642 rfl (lv_at hl 1 rfl) ?_
    refine lv_aload_n hx hb dL_law_643 rfl (lv_at hl 3 rfl) ?_
    refine lv_iload_n hx hb dL_law_644 rfl (lv_at hl 0 rfl) ?_
    refine lv_iconst (v := 1) hx hb dL_law_645 (by decide) ?_
    refine lv_iadd hx hb dL_law_646 ?_
    refine va_sld hx hb hX hbl hbA hS (by unfold vp_in; decide) dL_law_647 ?_
    refine lv_aload_n hx hb dL_law_648 rfl (lv_at hl 3 rfl) ?_
    refine lv_iload_n hx hb dL_law_649 rfl (lv_at hl 0 rfl) ?_
    refine lv_iconst (v := 2) hx hb dL_law_650 (by decide) ?_
    refine lv_iadd hx hb dL_law_651 ?_
    refine va_sld hx hb hX hbl hbA hS (by unfold vp_in; decide) dL_law_652 ?_
    refine lv_aload_n hx hb dL_law_653 rfl (lv_at hl 3 rfl) ?_
    refine lv_iload_n hx hb dL_law_654 rfl (lv_at hl 0 rfl) ?_
    refine lv_iconst (v := 3) hx hb dL_law_655 (by decide) ?_
    refine lv_iadd hx hb dL_law_656 ?_
    refine va_sld hx hb hX hbl hbA hS (by unfold vp_in; decide) dL_law_657 ?_
    refine lv_aload_n hx hb dL_law_658 rfl (lv_at hl 3 rfl) ?_
    refine lv_iload_n hx hb dL_law_659 rfl (lv_at hl 0 rfl) ?_
    refine lv_iconst (v := 4) hx hb dL_law_660 (by decide) ?_
    refine lv_iadd hx hb dL_law_661 ?_
    refine va_sld hx hb hX hbl hbA hS (by unfold vp_in; decide) dL_law_662 ?_
    refine lv_aload_n hx hb dL_law_663 rfl (lv_at hl 3 rfl) ?_
    refine lv_iload_n hx hb dL_law_664 rfl (lv_at hl 0 rfl) ?_
    refine lv_iconst (v := 5) hx hb dL_law_665 (by decide) ?_
    refine lv_iadd hx hb dL_law_666 ?_
    refine va_sld hx hb hX hbl hbA hS (by unfold vp_in; decide) dL_law_667 ?_
    refine lv_aload_n hx hb dL_law_668 rfl (lv_at hl 3 rfl) ?_
    refine lv_iload_n hx hb dL_law_669 rfl (lv_at hl 0 rfl) ?_
    refine lv_bipush (v := 6) hx hb dL_law_670 (by decide) ?_
    refine lv_iadd hx hb dL_law_672 ?_
    refine va_sld hx hb hX hbl hbA hS (by unfold vp_in; decide) dL_law_673 ?_
    refine lv_if_eq (tgt := 681) hx hb dL_law_674 (by decide) (fun hc => ?_) (fun hc => absurd hz hc)
    refine lv_iconst (v := 0) hx hb dL_law_681 (by decide) ?_
    refine gcalli (va_runV (As := [.int (xs ((0 : Int32) + 1).toNatClampNeg), .int (xs ((0 : Int32) + 2).toNatClampNeg), .int (xs ((0 : Int32) + 3).toNatClampNeg), .int (xs ((0 : Int32) + 4).toNatClampNeg), .int (xs ((0 : Int32) + 5).toNatClampNeg), .int 0]) (rest := [.int r1]) ⟨hx, hb, hml, hown, hts⟩ (c_X8_mend l dC dI am cm H.size IM JM SM LM ((xs ((0 : Int32) + 1).toNatClampNeg)) ((xs ((0 : Int32) + 2).toNatClampNeg)) ((xs ((0 : Int32) + 3).toNatClampNeg)) ((xs ((0 : Int32) + 4).toNatClampNeg)) ((xs ((0 : Int32) + 5).toNatClampNeg)) 0 _ (q_X8_mend ((xs ((0 : Int32) + 1).toNatClampNeg)) ((xs ((0 : Int32) + 2).toNatClampNeg)) ((xs ((0 : Int32) + 3).toNatClampNeg)) ((xs ((0 : Int32) + 4).toNatClampNeg)) ((xs ((0 : Int32) + 5).toNatClampNeg)) 0)) (cwV 6 hts gL_law_X8_mend rfl rfl rfl (by decide +kernel) ⟨(Nat.le_of_ble_eq_true rfl), (Nat.le_of_ble_eq_true rfl)⟩) (g_pV hPm hKm hDm (va_recv hKm hPm (ci := 8) (q0 := 0) rfl (wM_at0 _ _ _ _ _ _)) [.int (xs ((0 : Int32) + 1).toNatClampNeg), .int (xs ((0 : Int32) + 2).toNatClampNeg), .int (xs ((0 : Int32) + 3).toNatClampNeg), .int (xs ((0 : Int32) + 4).toNatClampNeg), .int (xs ((0 : Int32) + 5).toNatClampNeg), .int 0]) rfl rfl hl.1 rfl (lv_room (Nat.le_of_ble_eq_true rfl)) dL_law_682 ⟨(Nat.le_of_ble_eq_true rfl), (Nat.le_of_ble_eq_true rfl)⟩) hS hA hDm (fun r2 _ _ _ _ H locs hPm _ hS h2 => ?_)
    refine lv_icmp_eq (tgt := 775) hx hb dL_law_685 (by decide) (fun hc => law_next l C0 H locs ls am ao hS hl) (fun hc => absurd (h1.trans h2.symm) hc)
  · refine lv_if_eq (tgt := 638) hx hb dL_law_631 (by decide) (fun hc => absurd hc hz) (fun hc => ?_)
    refine lv_iconst (v := 1) hx hb dL_law_634 (by decide) ?_
    refine lv_goto (tgt := 639) hx hb dL_law_635 (by decide) ?_
    refine lcalli (va_runV (As := [.int (xs ((0 : Int32) + 1).toNatClampNeg), .int (xs ((0 : Int32) + 2).toNatClampNeg), .int (xs ((0 : Int32) + 3).toNatClampNeg), .int (xs ((0 : Int32) + 4).toNatClampNeg), .int (xs ((0 : Int32) + 5).toNatClampNeg), .int 1]) (rest := []) ⟨hx, hb, hml, hown, hts⟩ (c_X7_mend l dC dI ao co 600 0 H.size IO JO SO LO ((xs ((0 : Int32) + 1).toNatClampNeg)) ((xs ((0 : Int32) + 2).toNatClampNeg)) ((xs ((0 : Int32) + 3).toNatClampNeg)) ((xs ((0 : Int32) + 4).toNatClampNeg)) ((xs ((0 : Int32) + 5).toNatClampNeg)) 1 _ (q_X7_mend ((xs ((0 : Int32) + 1).toNatClampNeg)) ((xs ((0 : Int32) + 2).toNatClampNeg)) ((xs ((0 : Int32) + 3).toNatClampNeg)) ((xs ((0 : Int32) + 4).toNatClampNeg)) ((xs ((0 : Int32) + 5).toNatClampNeg)) 1)) (cwV 6 hts gL_law_X7_mend rfl rfl rfl (by decide +kernel) ⟨(Nat.le_of_ble_eq_true rfl), (Nat.le_of_ble_eq_true rfl)⟩) (g_pV hPo hKo hDo (va_recv hKo hPo (ci := 7) (q0 := 0) rfl (wO_atO _ _ _ _ _ _ _ _)) [.int (xs ((0 : Int32) + 1).toNatClampNeg), .int (xs ((0 : Int32) + 2).toNatClampNeg), .int (xs ((0 : Int32) + 3).toNatClampNeg), .int (xs ((0 : Int32) + 4).toNatClampNeg), .int (xs ((0 : Int32) + 5).toNatClampNeg), .int 1]) rfl rfl hl.1 rfl (lv_room (Nat.le_of_ble_eq_true rfl)) dL_law_639 ⟨(Nat.le_of_ble_eq_true rfl), (Nat.le_of_ble_eq_true rfl)⟩) hS hA hDo hPm hXX (fun r1 _ _ _ _ H locs hPm hS h1 => ?_)
    refine lv_aload_n hx hb dL_law_642 rfl (lv_at hl 1 rfl) ?_
    refine lv_aload_n hx hb dL_law_643 rfl (lv_at hl 3 rfl) ?_
    refine lv_iload_n hx hb dL_law_644 rfl (lv_at hl 0 rfl) ?_
    refine lv_iconst (v := 1) hx hb dL_law_645 (by decide) ?_
    refine lv_iadd hx hb dL_law_646 ?_
    refine va_sld hx hb hX hbl hbA hS (by unfold vp_in; decide) dL_law_647 ?_
    refine lv_aload_n hx hb dL_law_648 rfl (lv_at hl 3 rfl) ?_
    refine lv_iload_n hx hb dL_law_649 rfl (lv_at hl 0 rfl) ?_
    refine lv_iconst (v := 2) hx hb dL_law_650 (by decide) ?_
    refine lv_iadd hx hb dL_law_651 ?_
    refine va_sld hx hb hX hbl hbA hS (by unfold vp_in; decide) dL_law_652 ?_
    refine lv_aload_n hx hb dL_law_653 rfl (lv_at hl 3 rfl) ?_
    refine lv_iload_n hx hb dL_law_654 rfl (lv_at hl 0 rfl) ?_
    refine lv_iconst (v := 3) hx hb dL_law_655 (by decide) ?_
    refine lv_iadd hx hb dL_law_656 ?_
    refine va_sld hx hb hX hbl hbA hS (by unfold vp_in; decide) dL_law_657 ?_
    refine lv_aload_n hx hb dL_law_658 rfl (lv_at hl 3 rfl) ?_
    refine lv_iload_n hx hb dL_law_659 rfl (lv_at hl 0 rfl) ?_
    refine lv_iconst (v := 4) hx hb dL_law_660 (by decide) ?_
    refine lv_iadd hx hb dL_law_661 ?_
    refine va_sld hx hb hX hbl hbA hS (by unfold vp_in; decide) dL_law_662 ?_
    refine lv_aload_n hx hb dL_law_663 rfl (lv_at hl 3 rfl) ?_
    refine lv_iload_n hx hb dL_law_664 rfl (lv_at hl 0 rfl) ?_
    refine lv_iconst (v := 5) hx hb dL_law_665 (by decide) ?_
    refine lv_iadd hx hb dL_law_666 ?_
    refine va_sld hx hb hX hbl hbA hS (by unfold vp_in; decide) dL_law_667 ?_
    refine lv_aload_n hx hb dL_law_668 rfl (lv_at hl 3 rfl) ?_
    refine lv_iload_n hx hb dL_law_669 rfl (lv_at hl 0 rfl) ?_
    refine lv_bipush (v := 6) hx hb dL_law_670 (by decide) ?_
    refine lv_iadd hx hb dL_law_672 ?_
    refine va_sld hx hb hX hbl hbA hS (by unfold vp_in; decide) dL_law_673 ?_
    refine lv_if_eq (tgt := 681) hx hb dL_law_674 (by decide) (fun hc => absurd hc hz) (fun hc => ?_)
    refine lv_iconst (v := 1) hx hb dL_law_677 (by decide) ?_
    refine lv_goto (tgt := 682) hx hb dL_law_678 (by decide) ?_
    refine gcalli (va_runV (As := [.int (xs ((0 : Int32) + 1).toNatClampNeg), .int (xs ((0 : Int32) + 2).toNatClampNeg), .int (xs ((0 : Int32) + 3).toNatClampNeg), .int (xs ((0 : Int32) + 4).toNatClampNeg), .int (xs ((0 : Int32) + 5).toNatClampNeg), .int 1]) (rest := [.int r1]) ⟨hx, hb, hml, hown, hts⟩ (c_X8_mend l dC dI am cm H.size IM JM SM LM ((xs ((0 : Int32) + 1).toNatClampNeg)) ((xs ((0 : Int32) + 2).toNatClampNeg)) ((xs ((0 : Int32) + 3).toNatClampNeg)) ((xs ((0 : Int32) + 4).toNatClampNeg)) ((xs ((0 : Int32) + 5).toNatClampNeg)) 1 _ (q_X8_mend ((xs ((0 : Int32) + 1).toNatClampNeg)) ((xs ((0 : Int32) + 2).toNatClampNeg)) ((xs ((0 : Int32) + 3).toNatClampNeg)) ((xs ((0 : Int32) + 4).toNatClampNeg)) ((xs ((0 : Int32) + 5).toNatClampNeg)) 1)) (cwV 6 hts gL_law_X8_mend rfl rfl rfl (by decide +kernel) ⟨(Nat.le_of_ble_eq_true rfl), (Nat.le_of_ble_eq_true rfl)⟩) (g_pV hPm hKm hDm (va_recv hKm hPm (ci := 8) (q0 := 0) rfl (wM_at0 _ _ _ _ _ _)) [.int (xs ((0 : Int32) + 1).toNatClampNeg), .int (xs ((0 : Int32) + 2).toNatClampNeg), .int (xs ((0 : Int32) + 3).toNatClampNeg), .int (xs ((0 : Int32) + 4).toNatClampNeg), .int (xs ((0 : Int32) + 5).toNatClampNeg), .int 1]) rfl rfl hl.1 rfl (lv_room (Nat.le_of_ble_eq_true rfl)) dL_law_682 ⟨(Nat.le_of_ble_eq_true rfl), (Nat.le_of_ble_eq_true rfl)⟩) hS hA hDm (fun r2 _ _ _ _ H locs hPm _ hS h2 => ?_)
    refine lv_icmp_eq (tgt := 775) hx hb dL_law_685 (by decide) (fun hc => law_next l C0 H locs ls am ao hS hl) (fun hc => absurd (h1.trans h2.symm) hc)
set_option maxHeartbeats 4000000 in
set_option maxRecDepth 100000 in
theorem law_c11 {p : Program} {e : Env} {s : State} {m : MethodId} {below : List Frame} {meth : Method} {c : Code} (l : Launch) {b : Nat} {xs : Nat → Int32} (C0 : lw_At p s m meth c b 9 xs) (dC : Nat → ClassId) (dI : Nat → Nat → Nat) (ao am : Nat → Nat) (co cm : Nat → ClassId) (hDo : va_D (fun q : Nat => s.heap.size ≤ q) (wO ao co 600 0 IO JO SO LO)) (hDm : va_D (fun q : Nat => s.heap.size ≤ q) (wM am cm IM JM SM LM)) (hXX : ∀ (i j : Nat) (p q : Nat × va_E), (wO ao co 600 0 IO JO SO LO)[i]? = some p → (wM am cm IM JM SM LM)[j]? = some q → p.1 ≠ q.1) (hKo : va_K (dC, dI) vwCl (tyL co) s) (hKm : va_K (dC, dI) vwCl (tyM cm) s) (H : Heap) (locs : List Loc) (ls : Array Slot) (hPo : va_P (dC, dI) vwCl (wO ao co 600 0 IO JO SO LO) H) (hPm : va_P (dC, dI) vwCl (wM am cm IM JM SM LM) H) (hS : va_S (fun q : Nat => s.heap.size ≤ q) s.heap H locs) (hl : lv_has ls 4 [(3, .int 0), (2, .ref (am 0)), (1, .ref (ao 53)), (0, .ref b)]) : W p l e room_1 s m #[Value.ref b] below meth c H locs 300 60000 (lw_Z below #[Value.ref b] s) (F0 m 690 ls []) := by
  obtain ⟨hx, hb, hr, hml, hown, hts0, hX, hbl, hlocks, hgv⟩ := id C0
  have hts := fun w h => hts0 w (wsL_law_in w h)
  have hA : ∀ q : Nat, s.heap.size ≤ q → (fun q : Nat => s.heap.size ≤ q) q := fun _ h => h
  have hbA : ¬ (fun q : Nat => s.heap.size ≤ q) b := Nat.not_le.mpr hbl
  refine lv_aload_n hx hb dL_law_690 rfl (lv_at hl 2 rfl) ?_
  refine lcalll (va_runV (As := []) (rest := []) ⟨hx, hb, hml, hown, hts⟩ (c_X7_owe l dC dI ao co 600 0 H.size IO JO SO LO  _ (q_X7_owe )) (cwV 0 hts gL_law_X7_owe rfl rfl rfl (by decide +kernel) ⟨(Nat.le_of_ble_eq_true rfl), (Nat.le_of_ble_eq_true rfl)⟩) (g_pV hPo hKo hDo (va_recv hKo hPo (ci := 7) (q0 := 0) rfl (wO_atO _ _ _ _ _ _ _ _)) []) rfl rfl hl.1 rfl (lv_room (Nat.le_of_ble_eq_true rfl)) dL_law_691 ⟨(Nat.le_of_ble_eq_true rfl), (Nat.le_of_ble_eq_true rfl)⟩) hS hA hDo hPm hXX (fun r1 _ _ _ _ H locs hPm hS h1 => ?_)
  refine lv_aload_n hx hb dL_law_694 rfl (lv_at hl 1 rfl) ?_
  refine gcalll (va_runV (As := []) (rest := [.long r1]) ⟨hx, hb, hml, hown, hts⟩ (c_X8_owe l dC dI am cm H.size IM JM SM LM  _ (q_X8_owe )) (cwV 0 hts gL_law_X8_owe rfl rfl rfl (by decide +kernel) ⟨(Nat.le_of_ble_eq_true rfl), (Nat.le_of_ble_eq_true rfl)⟩) (g_pV hPm hKm hDm (va_recv hKm hPm (ci := 8) (q0 := 0) rfl (wM_at0 _ _ _ _ _ _)) []) rfl rfl hl.1 rfl (lv_room (Nat.le_of_ble_eq_true rfl)) dL_law_695 ⟨(Nat.le_of_ble_eq_true rfl), (Nat.le_of_ble_eq_true rfl)⟩) hS hA hDm (fun r2 _ _ _ _ H locs hPm _ hS h2 => ?_)
  refine W.lcmp hx hb dL_law_698 ?_
  refine lv_if_eq (tgt := 775) hx hb dL_law_699 (by decide) (fun hc => law_next l C0 H locs ls am ao hS hl) (fun hc => absurd (by rw [h1.trans h2.symm]; exact lg_same _) hc)
set_option maxHeartbeats 4000000 in
set_option maxRecDepth 100000 in
theorem law_c12 {p : Program} {e : Env} {s : State} {m : MethodId} {below : List Frame} {meth : Method} {c : Code} (l : Launch) {b : Nat} {xs : Nat → Int32} (C0 : lw_At p s m meth c b 9 xs) (dC : Nat → ClassId) (dI : Nat → Nat → Nat) (ao am : Nat → Nat) (co cm : Nat → ClassId) (hDo : va_D (fun q : Nat => s.heap.size ≤ q) (wO ao co 600 0 IO JO SO LO)) (hDm : va_D (fun q : Nat => s.heap.size ≤ q) (wM am cm IM JM SM LM)) (hXX : ∀ (i j : Nat) (p q : Nat × va_E), (wO ao co 600 0 IO JO SO LO)[i]? = some p → (wM am cm IM JM SM LM)[j]? = some q → p.1 ≠ q.1) (hKo : va_K (dC, dI) vwCl (tyL co) s) (hKm : va_K (dC, dI) vwCl (tyM cm) s) (H : Heap) (locs : List Loc) (ls : Array Slot) (hPo : va_P (dC, dI) vwCl (wO ao co 600 0 IO JO SO LO) H) (hPm : va_P (dC, dI) vwCl (wM am cm IM JM SM LM) H) (hS : va_S (fun q : Nat => s.heap.size ≤ q) s.heap H locs) (hl : lv_has ls 4 [(3, .int 0), (2, .ref (am 0)), (1, .ref (ao 53)), (0, .ref b)]) : W p l e room_1 s m #[Value.ref b] below meth c H locs 300 60000 (lw_Z below #[Value.ref b] s) (F0 m 704 ls []) := by
  obtain ⟨hx, hb, hr, hml, hown, hts0, hX, hbl, hlocks, hgv⟩ := id C0
  have hts := fun w h => hts0 w (wsL_law_in w h)
  have hA : ∀ q : Nat, s.heap.size ≤ q → (fun q : Nat => s.heap.size ≤ q) q := fun _ h => h
  have hbA : ¬ (fun q : Nat => s.heap.size ≤ q) b := Nat.not_le.mpr hbl
  refine lv_aload_n hx hb dL_law_704 rfl (lv_at hl 2 rfl) ?_
  refine lcalli (va_runV (As := []) (rest := []) ⟨hx, hb, hml, hown, hts⟩ (c_X7_settle l dC dI ao co 600 0 H.size IO JO SO LO  _ (q_X7_settle )) (cwV 0 hts gL_law_X7_settle rfl rfl rfl (by decide +kernel) ⟨(Nat.le_of_ble_eq_true rfl), (Nat.le_of_ble_eq_true rfl)⟩) (g_pV hPo hKo hDo (va_recv hKo hPo (ci := 7) (q0 := 0) rfl (wO_atO _ _ _ _ _ _ _ _)) []) rfl rfl hl.1 rfl (lv_room (Nat.le_of_ble_eq_true rfl)) dL_law_705 ⟨(Nat.le_of_ble_eq_true rfl), (Nat.le_of_ble_eq_true rfl)⟩) hS hA hDo hPm hXX (fun r1 _ _ _ _ H locs hPm hS h1 => ?_)
  refine lv_aload_n hx hb dL_law_708 rfl (lv_at hl 1 rfl) ?_
  refine gcalli (va_runV (As := []) (rest := [.int r1]) ⟨hx, hb, hml, hown, hts⟩ (c_X8_settle l dC dI am cm H.size IM JM SM LM  _ (q_X8_settle )) (cwV 0 hts gL_law_X8_settle rfl rfl rfl (by decide +kernel) ⟨(Nat.le_of_ble_eq_true rfl), (Nat.le_of_ble_eq_true rfl)⟩) (g_pV hPm hKm hDm (va_recv hKm hPm (ci := 8) (q0 := 0) rfl (wM_at0 _ _ _ _ _ _)) []) rfl rfl hl.1 rfl (lv_room (Nat.le_of_ble_eq_true rfl)) dL_law_709 ⟨(Nat.le_of_ble_eq_true rfl), (Nat.le_of_ble_eq_true rfl)⟩) hS hA hDm (fun r2 _ _ _ _ H locs hPm _ hS h2 => ?_)
  refine lv_icmp_eq (tgt := 775) hx hb dL_law_712 (by decide) (fun hc => law_next l C0 H locs ls am ao hS hl) (fun hc => absurd (h1.trans h2.symm) hc)
set_option maxHeartbeats 4000000 in
set_option maxRecDepth 100000 in
theorem law_c13 {p : Program} {e : Env} {s : State} {m : MethodId} {below : List Frame} {meth : Method} {c : Code} (l : Launch) {b : Nat} {xs : Nat → Int32} (C0 : lw_At p s m meth c b 9 xs) (dC : Nat → ClassId) (dI : Nat → Nat → Nat) (ao am : Nat → Nat) (co cm : Nat → ClassId) (hDo : va_D (fun q : Nat => s.heap.size ≤ q) (wO ao co 600 0 IO JO SO LO)) (hDm : va_D (fun q : Nat => s.heap.size ≤ q) (wM am cm IM JM SM LM)) (hXX : ∀ (i j : Nat) (p q : Nat × va_E), (wO ao co 600 0 IO JO SO LO)[i]? = some p → (wM am cm IM JM SM LM)[j]? = some q → p.1 ≠ q.1) (hKo : va_K (dC, dI) vwCl (tyL co) s) (hKm : va_K (dC, dI) vwCl (tyM cm) s) (H : Heap) (locs : List Loc) (ls : Array Slot) (hPo : va_P (dC, dI) vwCl (wO ao co 600 0 IO JO SO LO) H) (hPm : va_P (dC, dI) vwCl (wM am cm IM JM SM LM) H) (hS : va_S (fun q : Nat => s.heap.size ≤ q) s.heap H locs) (hl : lv_has ls 4 [(3, .int 0), (2, .ref (am 0)), (1, .ref (ao 53)), (0, .ref b)]) : W p l e room_1 s m #[Value.ref b] below meth c H locs 300 60000 (lw_Z below #[Value.ref b] s) (F0 m 717 ls []) := by
  obtain ⟨hx, hb, hr, hml, hown, hts0, hX, hbl, hlocks, hgv⟩ := id C0
  have hts := fun w h => hts0 w (wsL_law_in w h)
  have hA : ∀ q : Nat, s.heap.size ≤ q → (fun q : Nat => s.heap.size ≤ q) q := fun _ h => h
  have hbA : ¬ (fun q : Nat => s.heap.size ≤ q) b := Nat.not_le.mpr hbl
  refine lv_aload_n hx hb dL_law_717 rfl (lv_at hl 2 rfl) ?_
  refine lv_aload_n hx hb dL_law_718 rfl (lv_at hl 3 rfl) ?_
  refine lv_iload_n hx hb dL_law_719 rfl (lv_at hl 0 rfl) ?_
  refine lv_iconst (v := 1) hx hb dL_law_720 (by decide) ?_
  refine lv_iadd hx hb dL_law_721 ?_
  refine va_sld hx hb hX hbl hbA hS (by unfold vp_in; decide) dL_law_722 ?_
  refine lv_aload_n hx hb dL_law_723 rfl (lv_at hl 3 rfl) ?_
  refine lv_iload_n hx hb dL_law_724 rfl (lv_at hl 0 rfl) ?_
  refine lv_iconst (v := 2) hx hb dL_law_725 (by decide) ?_
  refine lv_iadd hx hb dL_law_726 ?_
  refine va_sld hx hb hX hbl hbA hS (by unfold vp_in; decide) dL_law_727 ?_
  refine lcalll (va_runV (As := [.int (xs ((0 : Int32) + 1).toNatClampNeg), .int (xs ((0 : Int32) + 2).toNatClampNeg)]) (rest := []) ⟨hx, hb, hml, hown, hts⟩ (c_X7_line l dC dI ao co 600 0 H.size IO JO SO LO ((xs ((0 : Int32) + 1).toNatClampNeg)) ((xs ((0 : Int32) + 2).toNatClampNeg)) _ (q_X7_line ((xs ((0 : Int32) + 1).toNatClampNeg)) ((xs ((0 : Int32) + 2).toNatClampNeg)))) (cwV 2 hts gL_law_X7_line rfl rfl rfl (by decide +kernel) ⟨(Nat.le_of_ble_eq_true rfl), (Nat.le_of_ble_eq_true rfl)⟩) (g_pV hPo hKo hDo (va_recv hKo hPo (ci := 7) (q0 := 0) rfl (wO_atO _ _ _ _ _ _ _ _)) [.int (xs ((0 : Int32) + 1).toNatClampNeg), .int (xs ((0 : Int32) + 2).toNatClampNeg)]) rfl rfl hl.1 rfl (lv_room (Nat.le_of_ble_eq_true rfl)) dL_law_728 ⟨(Nat.le_of_ble_eq_true rfl), (Nat.le_of_ble_eq_true rfl)⟩) hS hA hDo hPm hXX (fun r1 _ _ _ _ H locs hPm hS h1 => ?_)
  refine lv_aload_n hx hb dL_law_731 rfl (lv_at hl 1 rfl) ?_
  refine lv_aload_n hx hb dL_law_732 rfl (lv_at hl 3 rfl) ?_
  refine lv_iload_n hx hb dL_law_733 rfl (lv_at hl 0 rfl) ?_
  refine lv_iconst (v := 1) hx hb dL_law_734 (by decide) ?_
  refine lv_iadd hx hb dL_law_735 ?_
  refine va_sld hx hb hX hbl hbA hS (by unfold vp_in; decide) dL_law_736 ?_
  refine lv_aload_n hx hb dL_law_737 rfl (lv_at hl 3 rfl) ?_
  refine lv_iload_n hx hb dL_law_738 rfl (lv_at hl 0 rfl) ?_
  refine lv_iconst (v := 2) hx hb dL_law_739 (by decide) ?_
  refine lv_iadd hx hb dL_law_740 ?_
  refine va_sld hx hb hX hbl hbA hS (by unfold vp_in; decide) dL_law_741 ?_
  refine gcalll (va_runV (As := [.int (xs ((0 : Int32) + 1).toNatClampNeg), .int (xs ((0 : Int32) + 2).toNatClampNeg)]) (rest := [.long r1]) ⟨hx, hb, hml, hown, hts⟩ (c_X8_line l dC dI am cm H.size IM JM SM LM ((xs ((0 : Int32) + 1).toNatClampNeg)) ((xs ((0 : Int32) + 2).toNatClampNeg)) _ (q_X8_line ((xs ((0 : Int32) + 1).toNatClampNeg)) ((xs ((0 : Int32) + 2).toNatClampNeg)))) (cwV 2 hts gL_law_X8_line rfl rfl rfl (by decide +kernel) ⟨(Nat.le_of_ble_eq_true rfl), (Nat.le_of_ble_eq_true rfl)⟩) (g_pV hPm hKm hDm (va_recv hKm hPm (ci := 8) (q0 := 0) rfl (wM_at0 _ _ _ _ _ _)) [.int (xs ((0 : Int32) + 1).toNatClampNeg), .int (xs ((0 : Int32) + 2).toNatClampNeg)]) rfl rfl hl.1 rfl (lv_room (Nat.le_of_ble_eq_true rfl)) dL_law_742 ⟨(Nat.le_of_ble_eq_true rfl), (Nat.le_of_ble_eq_true rfl)⟩) hS hA hDm (fun r2 _ _ _ _ H locs hPm _ hS h2 => ?_)
  refine W.lcmp hx hb dL_law_745 ?_
  refine lv_if_eq (tgt := 775) hx hb dL_law_746 (by decide) (fun hc => law_next l C0 H locs ls am ao hS hl) (fun hc => absurd (by rw [h1.trans h2.symm]; exact lg_same _) hc)
set_option maxHeartbeats 4000000 in
set_option maxRecDepth 100000 in
theorem law_c14 {p : Program} {e : Env} {s : State} {m : MethodId} {below : List Frame} {meth : Method} {c : Code} (l : Launch) {b : Nat} {xs : Nat → Int32} (C0 : lw_At p s m meth c b 9 xs) (dC : Nat → ClassId) (dI : Nat → Nat → Nat) (ao am : Nat → Nat) (co cm : Nat → ClassId) (hDo : va_D (fun q : Nat => s.heap.size ≤ q) (wO ao co 600 0 IO JO SO LO)) (hDm : va_D (fun q : Nat => s.heap.size ≤ q) (wM am cm IM JM SM LM)) (hXX : ∀ (i j : Nat) (p q : Nat × va_E), (wO ao co 600 0 IO JO SO LO)[i]? = some p → (wM am cm IM JM SM LM)[j]? = some q → p.1 ≠ q.1) (hKo : va_K (dC, dI) vwCl (tyL co) s) (hKm : va_K (dC, dI) vwCl (tyM cm) s) (H : Heap) (locs : List Loc) (ls : Array Slot) (hPo : va_P (dC, dI) vwCl (wO ao co 600 0 IO JO SO LO) H) (hPm : va_P (dC, dI) vwCl (wM am cm IM JM SM LM) H) (hS : va_S (fun q : Nat => s.heap.size ≤ q) s.heap H locs) (hl : lv_has ls 4 [(3, .int 0), (2, .ref (am 0)), (1, .ref (ao 53)), (0, .ref b)]) : W p l e room_1 s m #[Value.ref b] below meth c H locs 300 60000 (lw_Z below #[Value.ref b] s) (F0 m 751 ls []) := by
  obtain ⟨hx, hb, hr, hml, hown, hts0, hX, hbl, hlocks, hgv⟩ := id C0
  have hts := fun w h => hts0 w (wsL_law_in w h)
  have hA : ∀ q : Nat, s.heap.size ≤ q → (fun q : Nat => s.heap.size ≤ q) q := fun _ h => h
  have hbA : ¬ (fun q : Nat => s.heap.size ≤ q) b := Nat.not_le.mpr hbl
  refine lv_aload_n hx hb dL_law_751 rfl (lv_at hl 2 rfl) ?_
  refine lv_aload_n hx hb dL_law_752 rfl (lv_at hl 3 rfl) ?_
  refine lv_iload_n hx hb dL_law_753 rfl (lv_at hl 0 rfl) ?_
  refine lv_iconst (v := 1) hx hb dL_law_754 (by decide) ?_
  refine lv_iadd hx hb dL_law_755 ?_
  refine va_sld hx hb hX hbl hbA hS (by unfold vp_in; decide) dL_law_756 ?_
  refine lcalll (va_runV (As := [.int (xs ((0 : Int32) + 1).toNatClampNeg)]) (rest := []) ⟨hx, hb, hml, hown, hts⟩ (c_X7_count l dC dI ao co 600 0 H.size IO JO SO LO ((xs ((0 : Int32) + 1).toNatClampNeg)) _ (q_X7_count ((xs ((0 : Int32) + 1).toNatClampNeg)))) (cwV 1 hts gL_law_X7_count rfl rfl rfl (by decide +kernel) ⟨(Nat.le_of_ble_eq_true rfl), (Nat.le_of_ble_eq_true rfl)⟩) (g_pV hPo hKo hDo (va_recv hKo hPo (ci := 7) (q0 := 0) rfl (wO_atO _ _ _ _ _ _ _ _)) [.int (xs ((0 : Int32) + 1).toNatClampNeg)]) rfl rfl hl.1 rfl (lv_room (Nat.le_of_ble_eq_true rfl)) dL_law_757 ⟨(Nat.le_of_ble_eq_true rfl), (Nat.le_of_ble_eq_true rfl)⟩) hS hA hDo hPm hXX (fun r1 _ _ _ _ H locs hPm hS h1 => ?_)
  refine lv_aload_n hx hb dL_law_760 rfl (lv_at hl 1 rfl) ?_
  refine lv_aload_n hx hb dL_law_761 rfl (lv_at hl 3 rfl) ?_
  refine lv_iload_n hx hb dL_law_762 rfl (lv_at hl 0 rfl) ?_
  refine lv_iconst (v := 1) hx hb dL_law_763 (by decide) ?_
  refine lv_iadd hx hb dL_law_764 ?_
  refine va_sld hx hb hX hbl hbA hS (by unfold vp_in; decide) dL_law_765 ?_
  refine gcalll (va_runV (As := [.int (xs ((0 : Int32) + 1).toNatClampNeg)]) (rest := [.long r1]) ⟨hx, hb, hml, hown, hts⟩ (c_X8_count l dC dI am cm H.size IM JM SM LM ((xs ((0 : Int32) + 1).toNatClampNeg)) _ (q_X8_count ((xs ((0 : Int32) + 1).toNatClampNeg)))) (cwV 1 hts gL_law_X8_count rfl rfl rfl (by decide +kernel) ⟨(Nat.le_of_ble_eq_true rfl), (Nat.le_of_ble_eq_true rfl)⟩) (g_pV hPm hKm hDm (va_recv hKm hPm (ci := 8) (q0 := 0) rfl (wM_at0 _ _ _ _ _ _)) [.int (xs ((0 : Int32) + 1).toNatClampNeg)]) rfl rfl hl.1 rfl (lv_room (Nat.le_of_ble_eq_true rfl)) dL_law_766 ⟨(Nat.le_of_ble_eq_true rfl), (Nat.le_of_ble_eq_true rfl)⟩) hS hA hDm (fun r2 _ _ _ _ H locs hPm _ hS h2 => ?_)
  refine W.lcmp hx hb dL_law_769 ?_
  refine lv_if_eq (tgt := 775) hx hb dL_law_770 (by decide) (fun hc => law_next l C0 H locs ls am ao hS hl) (fun hc => absurd (by rw [h1.trans h2.symm]; exact lg_same _) hc)
