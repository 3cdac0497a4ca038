set_option maxHeartbeats 4000000 in
set_option maxRecDepth 100000 in
theorem law_body {p : Program} {e : Env} {s : State} {m : MethodId} {below : List Frame} {meth : Method} {c : Code} (l : Launch) {b L : Nat} {xs : Nat → Int32} (C0 : lw_At p s m meth c b L xs) (hL : L ≤ 4608) (dC : Nat → ClassId) (dI : Nat → Nat → Nat) (ao am : Nat → Nat) (co cm : Nat → ClassId) (hKo : va_K (dC, dI) vwCl (tyL co) s) (hKm : va_K (dC, dI) vwCl (tyM cm) s) (hN : gN s) {k : Nat} (hk : k + 9 ≤ L) (ls : Array Slot) (hl : lv_has ls 4 [(3, .int (nI (k))), (2, .ref (am 0)), (1, .ref (ao 53)), (0, .ref b)]) (K : ∀ (Io : TI) (Jo : TJ) (So : TS) (Lo : TL) (Im : TI) (Jm : TJ) (Sm : TS) (Lm : TL) (H : Heap) (locs : List Loc), RR Io Jo So Lo Im Jm Sm Lm → va_D (fun q : Nat => s.heap.size ≤ q) (wO ao co 600 0 Io Jo So Lo) → va_D (fun q : Nat => s.heap.size ≤ q) (wM am cm Im Jm Sm Lm) → Dis (wO ao co 600 0 Io Jo So Lo) (wM am cm Im Jm Sm Lm) → va_P (dC, dI) vwCl (wO ao co 600 0 Io Jo So Lo) H → va_P (dC, dI) vwCl (wM am cm Im Jm Sm Lm) H → va_S (fun q : Nat => s.heap.size ≤ q) s.heap H locs → W p l e room_1 s m #[Value.ref b] below meth c H locs 300 60000 (lw_Z below #[Value.ref b] s) (F0 m 770 ls [])) (Io : TI) (Jo : TJ) (So : TS) (Lo : TL) (Im : TI) (Jm : TJ) (Sm : TS) (Lm : TL) (H : Heap) (locs : List Loc) (hR : RR Io Jo So Lo Im Jm Sm Lm) (hDo : va_D (fun q : Nat => s.heap.size ≤ q) (wO ao co 600 0 Io Jo So Lo)) (hDm : va_D (fun q : Nat => s.heap.size ≤ q) (wM am cm Im Jm Sm Lm)) (hXX : Dis (wO ao co 600 0 Io Jo So Lo) (wM am cm Im Jm Sm Lm)) (hPo : va_P (dC, dI) vwCl (wO ao co 600 0 Io Jo So Lo) H) (hPm : va_P (dC, dI) vwCl (wM am cm Im Jm Sm Lm) H) (hS : va_S (fun q : Nat => s.heap.size ≤ q) s.heap H locs) : W p l e room_1 s m #[Value.ref b] below meth c H locs 300 60000 (lw_Z below #[Value.ref b] s) (F0 m 27 ls []) := by
  obtain ⟨hx, hb, hr, hml, hown, hts0, hX, hbl, hlocks, hgv⟩ := id C0
  have hts := fun w h => hts0 w (wsL_law_in w h)
  have hA : ∀ q : Nat, s.heap.size ≤ q → (fun q : Nat => s.heap.size ≤ q) q := fun _ h => h
  have hbA : ¬ (fun q : Nat => s.heap.size ≤ q) b := Nat.not_le.mpr hbl
  refine lv_aload_n hx hb dL_law_27 rfl (lv_at hl 3 rfl) ?_
  refine lv_iload_n hx hb dL_law_28 rfl (lv_at hl 0 rfl) ?_
  refine va_sld hx hb hX hbl hbA hS (sc_in0 hk hL) dL_law_29 ?_
  refine lv_bipush (v := 15) hx hb dL_law_30 (by decide) ?_
  refine lv_iand hx hb dL_law_32 ?_
  refine lv_topi (fun x ex => ?_)
  by_cases hc0 : x = nI 0
  · refine lv_tableIn (off := 75) (tgt := 108) hx hb dL_law_33 (by rw [hc0]; decide) (by rw [hc0]; decide) (by rw [hc0]; decide) (by decide) ?_
    exact law_c0 l C0 hL dC dI ao am co cm hKo hKm hN hk ls hl K Io Jo So Lo Im Jm Sm Lm H locs hR hDo hDm hXX hPo hPm hS
  by_cases hc1 : x = nI 1
  · refine lv_tableIn (off := 174) (tgt := 207) hx hb dL_law_33 (by rw [hc1]; decide) (by rw [hc1]; decide) (by rw [hc1]; decide) (by decide) ?_
    exact law_c1 l C0 hL dC dI ao am co cm hKo hKm hN hk ls hl K Io Jo So Lo Im Jm Sm Lm H locs hR hDo hDm hXX hPo hPm hS
  by_cases hc2 : x = nI 2
  · refine lv_tableIn (off := 273) (tgt := 306) hx hb dL_law_33 (by rw [hc2]; decide) (by rw [hc2]; decide) (by rw [hc2]; decide) (by decide) ?_
    exact law_c2 l C0 hL dC dI ao am co cm hKo hKm hN hk ls hl K Io Jo So Lo Im Jm Sm Lm H locs hR hDo hDm hXX hPo hPm hS
  by_cases hc3 : x = nI 3
  · refine lv_tableIn (off := 352) (tgt := 385) hx hb dL_law_33 (by rw [hc3]; decide) (by rw [hc3]; decide) (by rw [hc3]; decide) (by decide) ?_
    exact law_c3 l C0 hL dC dI ao am co cm hKo hKm hN hk ls hl K Io Jo So Lo Im Jm Sm Lm H locs hR hDo hDm hXX hPo hPm hS
  by_cases hc4 : x = nI 4
  · refine lv_tableIn (off := 375) (tgt := 408) hx hb dL_law_33 (by rw [hc4]; decide) (by rw [hc4]; decide) (by rw [hc4]; decide) (by decide) ?_
    exact law_c4 l C0 hL dC dI ao am co cm hKo hKm hN hk ls hl K Io Jo So Lo Im Jm Sm Lm H locs hR hDo hDm hXX hPo hPm hS
  by_cases hc5 : x = nI 5
  · refine lv_tableIn (off := 408) (tgt := 441) hx hb dL_law_33 (by rw [hc5]; decide) (by rw [hc5]; decide) (by rw [hc5]; decide) (by decide) ?_
    exact law_c5 l C0 hL dC dI ao am co cm hKo hKm hN hk ls hl K Io Jo So Lo Im Jm Sm Lm H locs hR hDo hDm hXX hPo hPm hS
  by_cases hc6 : x = nI 6
  · refine lv_tableIn (off := 421) (tgt := 454) hx hb dL_law_33 (by rw [hc6]; decide) (by rw [hc6]; decide) (by rw [hc6]; decide) (by decide) ?_
    exact law_c6 l C0 hL dC dI ao am co cm hKo hKm hN hk ls hl K Io Jo So Lo Im Jm Sm Lm H locs hR hDo hDm hXX hPo hPm hS
  by_cases hc7 : x = nI 7
  · refine lv_tableIn (off := 454) (tgt := 487) hx hb dL_law_33 (by rw [hc7]; decide) (by rw [hc7]; decide) (by rw [hc7]; decide) (by decide) ?_
    exact law_c7 l C0 hL dC dI ao am co cm hKo hKm hN hk ls hl K Io Jo So Lo Im Jm Sm Lm H locs hR hDo hDm hXX hPo hPm hS
  by_cases hc8 : x = nI 8
  · refine lv_tableIn (off := 487) (tgt := 520) hx hb dL_law_33 (by rw [hc8]; decide) (by rw [hc8]; decide) (by rw [hc8]; decide) (by decide) ?_
    exact law_c8 l C0 hL dC dI ao am co cm hKo hKm hN hk ls hl K Io Jo So Lo Im Jm Sm Lm H locs hR hDo hDm hXX hPo hPm hS
  by_cases hc9 : x = nI 9
  · refine lv_tableIn (off := 520) (tgt := 553) hx hb dL_law_33 (by rw [hc9]; decide) (by rw [hc9]; decide) (by rw [hc9]; decide) (by decide) ?_
    exact law_c9 l C0 hL dC dI ao am co cm hKo hKm hN hk ls hl K Io Jo So Lo Im Jm Sm Lm H locs hR hDo hDm hXX hPo hPm hS
  by_cases hc10 : x = nI 10
  · refine lv_tableIn (off := 563) (tgt := 596) hx hb dL_law_33 (by rw [hc10]; decide) (by rw [hc10]; decide) (by rw [hc10]; decide) (by decide) ?_
    exact law_c10 l C0 hL dC dI ao am co cm hKo hKm hN hk ls hl K Io Jo So Lo Im Jm Sm Lm H locs hR hDo hDm hXX hPo hPm hS
  by_cases hc11 : x = nI 11
  · refine lv_tableIn (off := 654) (tgt := 687) hx hb dL_law_33 (by rw [hc11]; decide) (by rw [hc11]; decide) (by rw [hc11]; decide) (by decide) ?_
    exact law_c11 l C0 hL dC dI ao am co cm hKo hKm hN hk ls hl K Io Jo So Lo Im Jm Sm Lm H locs hR hDo hDm hXX hPo hPm hS
  by_cases hc12 : x = nI 12
  · refine lv_tableIn (off := 667) (tgt := 700) hx hb dL_law_33 (by rw [hc12]; decide) (by rw [hc12]; decide) (by rw [hc12]; decide) (by decide) ?_
    exact law_c12 l C0 hL dC dI ao am co cm hKo hKm hN hk ls hl K Io Jo So Lo Im Jm Sm Lm H locs hR hDo hDm hXX hPo hPm hS
  by_cases hc13 : x = nI 13
  · refine lv_tableIn (off := 680) (tgt := 713) hx hb dL_law_33 (by rw [hc13]; decide) (by rw [hc13]; decide) (by rw [hc13]; decide) (by decide) ?_
    exact law_c13 l C0 hL dC dI ao am co cm hKo hKm hN hk ls hl K Io Jo So Lo Im Jm Sm Lm H locs hR hDo hDm hXX hPo hPm hS
  by_cases hc14 : x = nI 14
  · refine lv_tableIn (off := 713) (tgt := 746) hx hb dL_law_33 (by rw [hc14]; decide) (by rw [hc14]; decide) (by rw [hc14]; decide) (by decide) ?_
    exact law_c14 l C0 hL dC dI ao am co cm hKo hKm hN hk ls hl K Io Jo So Lo Im Jm Sm Lm H locs hR hDo hDm hXX hPo hPm hS
  have hno : ∀ k, k < 15 → ¬ x = nI k := fun k hk => by rcases (show k = 0 ∨ k = 1 ∨ k = 2 ∨ k = 3 ∨ k = 4 ∨ k = 5 ∨ k = 6 ∨ k = 7 ∨ k = 8 ∨ k = 9 ∨ k = 10 ∨ k = 11 ∨ k = 12 ∨ k = 13 ∨ k = 14 by omega) with rfl | rfl | rfl | rfl | rfl | rfl | rfl | rfl | rfl | rfl | rfl | rfl | rfl | rfl | rfl <;> assumption
  refine lv_tableOut (tgt := 770) hx hb dL_law_33 (sw_out 15 (by decide) hno) (by decide) ?_
  exact K Io Jo So Lo Im Jm Sm Lm H locs hR hDo hDm hXX hPo hPm hS
set_option maxHeartbeats 4000000 in
set_option maxRecDepth 100000 in
theorem law_loop {p : Program} {e : Env} {s : State} {m : MethodId} {below : List Frame} {meth : Method} {c : Code} (l : Launch) {b L : Nat} {xs : Nat → Int32} (C0 : lw_At p s m meth c b L xs) (hL : L ≤ 4608) (dC : Nat → ClassId) (dI : Nat → Nat → Nat) (ao am : Nat → Nat) (co cm : Nat → ClassId) (hKo : va_K (dC, dI) vwCl (tyL co) s) (hKm : va_K (dC, dI) vwCl (tyM cm) s) (hN : gN s) : ∀ (n k : Nat), L ≤ k + n → k ≤ 9000 → ∀ (ls : Array Slot), lv_has ls 4 [(3, .int (nI (k))), (2, .ref (am 0)), (1, .ref (ao 53)), (0, .ref b)] → ∀ (Io : TI) (Jo : TJ) (So : TS) (Lo : TL) (Im : TI) (Jm : TJ) (Sm : TS) (Lm : TL) (H : Heap) (locs : List Loc), RR Io Jo So Lo Im Jm Sm Lm → va_D (fun q : Nat => s.heap.size ≤ q) (wO ao co 600 0 Io Jo So Lo) → va_D (fun q : Nat => s.heap.size ≤ q) (wM am cm Im Jm Sm Lm) → Dis (wO ao co 600 0 Io Jo So Lo) (wM am cm Im Jm Sm Lm) → va_P (dC, dI) vwCl (wO ao co 600 0 Io Jo So Lo) H → va_P (dC, dI) vwCl (wM am cm Im Jm Sm Lm) H → va_S (fun q : Nat => s.heap.size ≤ q) s.heap H locs → W p l e room_1 s m #[Value.ref b] below meth c H locs 300 60000 (lw_Z below #[Value.ref b] s) (F0 m 18 ls []) := by
  obtain ⟨hx, hb, hr, hml, hown, hts0, hX, hbl, hlocks, hgv⟩ := id C0
  have hts := fun w h => hts0 w (wsL_law_in w h)
  have hA : ∀ q : Nat, s.heap.size ≤ q → (fun q : Nat => s.heap.size ≤ q) q := fun _ h => h
  have hbA : ¬ (fun q : Nat => s.heap.size ≤ q) b := Nat.not_le.mpr hbl
  intro n
  induction n with
  | zero =>
    intro k hn hk0 ls hl Io Jo So Lo Im Jm Sm Lm H locs hR hDo hDm hXX hPo hPm hS
    refine lv_iload_n hx hb dL_law_18 rfl (lv_at hl 0 rfl) ?_
    refine lv_aload_n hx hb dL_law_19 rfl (lv_at hl 3 rfl) ?_
    refine va_slen hx hb hX hbl hbA hS dL_law_20 ?_
    refine lv_bipush (v := 9) hx hb dL_law_21 (by decide) ?_
    refine lv_isub hx hb dL_law_23 ?_
    refine lv_icmp_gt (tgt := 776) hx hb dL_law_24 (by decide) (fun hc => ?_) (fun hc => ?_)
    · exact law_true l C0 H locs ls hS
    · exfalso
      have := sc_le (L := L) (k := k) hL (by omega) hc
      omega
  | succ n ih =>
    intro k hn hk0 ls hl Io Jo So Lo Im Jm Sm Lm H locs hR hDo hDm hXX hPo hPm hS
    refine lv_iload_n hx hb dL_law_18 rfl (lv_at hl 0 rfl) ?_
    refine lv_aload_n hx hb dL_law_19 rfl (lv_at hl 3 rfl) ?_
    refine va_slen hx hb hX hbl hbA hS dL_law_20 ?_
    refine lv_bipush (v := 9) hx hb dL_law_21 (by decide) ?_
    refine lv_isub hx hb dL_law_23 ?_
    refine lv_icmp_gt (tgt := 776) hx hb dL_law_24 (by decide) (fun hc => ?_) (fun hc => ?_)
    · exact law_true l C0 H locs ls hS
    · have hk := sc_le (L := L) (k := k) hL (by omega) hc
      refine law_body l C0 hL dC dI ao am co cm hKo hKm hN hk ls hl ?_ Io Jo So Lo Im Jm Sm Lm H locs hR hDo hDm hXX hPo hPm hS
      intro Io Jo So Lo Im Jm Sm Lm H locs hR hDo hDm hXX hPo hPm hS
      refine lv_iinc (v := nI (k + 9)) (lv' := [(3, .int (nI (k + 9))), (2, .ref (am 0)), (1, .ref (ao 53)), (0, .ref b)]) hx hb dL_law_770 hl (k := 0) rfl (by rw [← nI_add]; rfl) (by decide) rfl (fun ls hl => ?_)
      refine lv_goto (tgt := 18) hx hb dL_law_773 (by decide) ?_
      exact ih (k + 9) (by omega) (by omega) ls hl Io Jo So Lo Im Jm Sm Lm H locs hR hDo hDm hXX hPo hPm hS
