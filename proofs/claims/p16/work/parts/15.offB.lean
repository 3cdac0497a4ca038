def wp_X7_due (n0 n1 : Nat) (I : TI) (J : TJ) (S : TS) (L : TL) (p0 : Int32) (p1 : Int32) (Φ : Int32 → TI → TJ → TS → TL → Prop) : Prop := wp_X7_isHand I J S L p0 (fun (r_5 : Int32) (I_1 : TI) (J_2 : TJ) (S_3 : TS) (L_4 : TL) => (∃ B_6 : TI → TJ → TS → TL → Prop, (∀ (I_7 : TI) (J_8 : TJ) (S_9 : TS) (L_10 : TL), B_6 I_7 J_8 S_9 L_10 → (Φ (-1 : Int32) I_7 J_8 S_9 L_10)) ∧ (((r_5 = 0) → (B_6 I_1 J_2 S_3 L_4)) ∧ ((¬ r_5 = 0) → (wp_X7_isClosed n0 n1 I_1 J_2 S_3 L_4 p1 (fun (r_15 : Int32) (I_11 : TI) (J_12 : TJ) (S_13 : TS) (L_14 : TL) => (((¬ r_15 = 0) → ((vp_in ((p0 * (40 : Int32)) + p1) 480) ∧ (Φ (I_11 29 (((p0 * (40 : Int32)) + p1)).toNatClampNeg) I_11 J_12 S_13 L_14))) ∧ ((r_15 = 0) → (B_6 I_11 J_12 S_13 L_14)))))))))
theorem nX7_due_X2 : ∀ w ∈ wsX20, w ∈ wsX7_due := fun _ h => List.mem_cons_of_mem _ (List.mem_append_right _ h)
theorem kX7_due_2 : Cond.fieldLink RX7 144 "SongOffice$Ledger" "dues" "[I" ∈ wsX7_due := List.mem_of_getElem? (i := 2) rfl
theorem nX7_due_X7 : ∀ w ∈ wsX70, w ∈ wsX7_due := fun _ h => List.mem_cons_of_mem _ (List.mem_append_left _ (List.mem_append_right _ h))
theorem kX7_due_1 : Cond.fieldLink RX7 47 "SongOffice" "standing" "LSongOffice$Ledger;" ∈ wsX7_due := List.mem_of_getElem? (i := 1) rfl
abbrev rmX7_due : Room := { frames := 1, cells := 0, slots := 0, locals := 21 }
set_option maxHeartbeats 4000000 in
set_option maxRecDepth 100000 in
theorem c_X7_due (l : Launch) (dC : Nat → ClassId) (dI : Nat → Nat → Nat) (a : Nat → Nat) (cy : Nat → ClassId) (n0 n1 : Nat) (sz : Nat) (I : TI) (J : TJ) (S : TS) (L : TL) (p0 : Int32) (p1 : Int32) (Φ : Int32 → TI → TJ → TS → TL → Prop) (h : wp_X7_due n0 n1 I J S L p0 p1 Φ) : Met l yX7_due wsX7_due rmX7_due (va_Pc [.ref (a 53), .int p0, .int p1] (gpre dC dI (wO a cy n0 n1 I J S L) (tyL cy) sz)) (gQi dC dI (wO a cy n0 n1) (tyL cy) (va_A (wO a cy n0 n1 I J S L) sz) Φ) 0 0 (va_A (wO a cy n0 n1 I J S L) sz) := by
  refine Met.ofW (cc := cX7_due) (maxL := 3) (ret := (some .int)) (by decide) rfl ?_
  intro p e s m args below meth c s₁ B hml hv
  obtain ⟨hargs, hsz, hP, hK, hD0, hN⟩ := hv
  have hx := B.exec
  have hb := B.bytes
  have hr := B.returns
  have hts := atoms_spec (ws := wsX7_due) B.pre
  have hown : s.vm.findClass RX7 = some m.cls := findClass_of_methodNamed B.named
  have hlocks := B.notSynchronized
  subst hsz
  have hD := hD0.self (sz := s.heap.size)
  generalize hAe : va_A (wO a cy n0 n1 I J S L) s.heap.size = A at hD ⊢
  have hA : ∀ q : Nat, s.heap.size ≤ q → A q := fun q h => by rw [← hAe]; exact Or.inr h
  obtain ⟨H, hH⟩ : ∃ z : Heap, z = s.heap := ⟨_, rfl⟩
  rw [← hH] at hP
  have hS : va_S A s.heap H [] := by rw [hH]; exact va_S.rf
  have hl := lv_entry ([.ref (a 53), .int p0, .int p1]) (n := 3) (Nat.le_of_ble_eq_true rfl)
  have hE : entryFrame m args 3 = F0 m 0 ((lg_sl ([.ref (a 53), .int p0, .int p1]) ++ List.replicate (3 - (lg_sl ([.ref (a 53), .int p0, .int p1])).length) Slot.unset).toArray) [] := by rw [hargs]; exact lg_entry_eq m _ _
  rw [hE, ← hH]
  clear hE
  generalize (lg_sl ([.ref (a 53), .int p0, .int p1]) ++ List.replicate (3 - (lg_sl ([.ref (a 53), .int p0, .int p1])).length) Slot.unset).toArray = ls at hl ⊢
  have hl : lv_has ls 3 [(0, .ref (a 53)), (1, .int p0), (2, .int p1)] := hl
  unfold wp_X7_due at h
  refine lv_iload_n hx hb dX7_due_0 rfl (lv_at hl 1 rfl) ?_
  refine gcalli (va_runS (As := [.int p0]) (rest := []) ⟨hx, hb, hml, hown, hts⟩ (c_X7_isHand l dC dI (wO a cy n0 n1) (tyL cy) H.size I J S L p0 _ h) (va_cwS 1 hts gX7_due_X7_isHand rfl rfl rfl (by decide +kernel) ⟨(Nat.le_of_ble_eq_true rfl), (Nat.le_of_ble_eq_true rfl)⟩) (g_pS hP hK hD hN [.int p0]) rfl rfl hl.1 rfl (lv_room (Nat.le_of_ble_eq_true rfl)) dX7_due_1 ⟨(Nat.le_of_ble_eq_true rfl), (Nat.le_of_ble_eq_true rfl)⟩) hS hA hD (fun r_5 I_1 J_2 S_3 L_4 H locs hP hD hS h => ?_)
  obtain ⟨B_6, hB_6, h⟩ := h
  have jB_6 : ∀ (I_7 : TI) (J_8 : TJ) (S_9 : TS) (L_10 : TL) (H : Heap) (locs : List Loc) (ls : Array Slot), va_P (dC, dI) vwCl (wO a cy n0 n1 I_7 J_8 S_9 L_10) H → va_D A (wO a cy n0 n1 I_7 J_8 S_9 L_10) → va_S A s.heap H locs → lv_has ls 3 [] → B_6 I_7 J_8 S_9 L_10 → W p l e (headSpec wsX7_due rmX7_due).room s m args below meth c H locs 0 0 (MQ below (gQi dC dI (wO a cy n0 n1) (tyL cy) A Φ) args s 0 0 A) (F0 m 15 ls []) := by
    intro I_7 J_8 S_9 L_10 H locs ls hP hD hS hl h
    have h := hB_6 I_7 J_8 S_9 L_10 h
    refine lv_iconst (v := -1) hx hb dX7_due_15 (by decide) ?_
    exact gri hx hb hr hlocks hP hK hD hS h dX7_due_16
  refine lv_if_eq (tgt := 15) hx hb dX7_due_4 (by decide) (fun hc => ?_) (fun hc => ?_)
  · have h := h.1 hc
    exact jB_6 I_1 J_2 S_3 L_4 _ _ _ hP hD hS (lv_sub hl [] rfl) h
  · have h := h.2 hc
    refine lv_aload_n hx hb dX7_due_7 rfl (lv_at hl 0 rfl) ?_
    refine lv_iload_n hx hb dX7_due_8 rfl (lv_at hl 2 rfl) ?_
    refine gcalli (va_runV (As := [.int p1]) (rest := []) ⟨hx, hb, hml, hown, hts⟩ (c_X7_isClosed l dC dI a cy n0 n1 H.size I_1 J_2 S_3 L_4 p1 _ h) (cwV 1 hts gX7_due_X7_isClosed rfl rfl rfl (by decide +kernel) ⟨(Nat.le_of_ble_eq_true rfl), (Nat.le_of_ble_eq_true rfl)⟩) (g_pV hP hK hD hN (va_recv hK hP (ci := 7) (q0 := 0) rfl (wO_atO _ _ _ _ _ _ _ _)) [.int p1]) rfl rfl hl.1 rfl (lv_room (Nat.le_of_ble_eq_true rfl)) dX7_due_9 ⟨(Nat.le_of_ble_eq_true rfl), (Nat.le_of_ble_eq_true rfl)⟩) hS hA hD (fun r_15 I_11 J_12 S_13 L_14 H locs hP hD hS h => ?_)
    refine lv_if_ne (tgt := 17) hx hb dX7_due_12 (by decide) (fun hc => ?_) (fun hc => ?_)
    · have h := h.1 hc
      refine lv_aload_n hx hb dX7_due_17 rfl (lv_at hl 0 rfl) ?_
      refine va_get (D := (dC, dI)) (ci := 7) (v := .ref (a 25)) (C := RX7) (T := TX7) (N := 7) hx hb hts nX7_due_X7 hown hK hP 0 (wO_atO _ _ _ _ _ _ _ _) rfl 4 (by decide) (hts (.fieldLink RX7 47 "SongOffice" "standing" "LSongOffice$Ledger;") kX7_due_1) (fun _ h9 => h9) rfl dX7_due_18 ?_
      refine va_get (D := (dC, dI)) (ci := 2) (v := .ref (a 29)) (C := RX2) (T := TX2) (N := 16) hx hb hts nX7_due_X2 hown hK hP 26 (wO_at25 _ _ _ _ _ _ _ _) rfl 3 (by decide) (hts (.fieldLink RX7 144 "SongOffice$Ledger" "dues" "[I") kX7_due_2) (fun _ h9 => h9) rfl dX7_due_21 ?_
      refine lv_iload_n hx hb dX7_due_24 rfl (lv_at hl 1 rfl) ?_
      refine lv_bipush (v := 40) hx hb dX7_due_25 (by decide) ?_
      refine lv_imul hx hb dX7_due_27 ?_
      refine lv_iload_n hx hb dX7_due_28 rfl (lv_at hl 2 rfl) ?_
      refine lv_iadd hx hb dX7_due_29 ?_
      obtain ⟨hi, h⟩ := h
      refine va_iald hx hb hK hP 30 24 (wO_at29 _ _ _ _ _ _ _ _) rfl hi dX7_due_30 ?_
      exact gri hx hb hr hlocks hP hK hD hS h dX7_due_31
    · have h := h.2 hc
      exact jB_6 I_11 J_12 S_13 L_14 _ _ _ hP hD hS (lv_sub hl [] rfl) h
def wp_X7_hand (n0 n1 : Nat) (I : TI) (J : TJ) (S : TS) (L : TL) (p0 : Int32) (p1 : Int32) (Φ : Int64 → TI → TJ → TS → TL → Prop) : Prop := wp_X7_isHand I J S L p0 (fun (r_5 : Int32) (I_1 : TI) (J_2 : TJ) (S_3 : TS) (L_4 : TL) => (((¬ r_5 = 0) → (((p1 = nI 0) → ((vp_in p0 12) ∧ (Φ (J_2 26 (p0).toNatClampNeg) I_1 J_2 S_3 L_4))) ∧ ((p1 = nI 1) → ((vp_in p0 12) ∧ (Φ (J_2 27 (p0).toNatClampNeg) I_1 J_2 S_3 L_4))) ∧ ((p1 = nI 2) → (wp_X2_allDues_O n0 n1 I_1 J_2 S_3 L_4 p0 (fun (r_10 : Int64) (I_6 : TI) (J_7 : TJ) (S_8 : TS) (L_9 : TL) => (Φ r_10 I_6 J_7 S_8 L_9)))) ∧ ((p1 = nI 3) → ((vp_in p0 12) ∧ (Φ (J_2 28 (p0).toNatClampNeg) I_1 J_2 S_3 L_4))) ∧ ((p1 = nI 4) → (wp_X2_reckonTo_Op n0 n1 I_1 J_2 S_3 L_4 (S_3 3) (fun (I_11 : TI) (J_12 : TJ) (S_13 : TS) (L_14 : TL) => (wp_X7_owedTo n0 n1 I_11 J_12 S_13 L_14 p0 (fun (r_19 : Int64) (I_15 : TI) (J_16 : TJ) (S_17 : TS) (L_18 : TL) => (Φ r_19 I_15 J_16 S_17 L_18)))))) ∧ ((∀ k, k < 5 → ¬ p1 = nI k) → (Φ (-1 : Int64) I_1 J_2 S_3 L_4)))) ∧ ((r_5 = 0) → (Φ (-1 : Int64) I_1 J_2 S_3 L_4))))
theorem nX7_hand_X2 : ∀ w ∈ wsX20, w ∈ wsX7_hand := fun _ h => List.mem_cons_of_mem _ (List.mem_append_left _ (List.mem_append_left _ (List.mem_append_left _ (List.mem_append_left _ (List.mem_append_left _ (List.mem_append_right _ h))))))
theorem kX7_hand_3 : Cond.fieldLink RX7 147 "SongOffice$Ledger" "purse" "[J" ∈ wsX7_hand := List.mem_of_getElem? (i := 3) rfl
theorem nX7_hand_X7 : ∀ w ∈ wsX70, w ∈ wsX7_hand := fun _ h => List.mem_cons_of_mem _ (List.mem_append_left _ (List.mem_append_left _ (List.mem_append_left _ (List.mem_append_left _ (List.mem_append_left _ (List.mem_append_left _ (List.mem_append_right _ h)))))))
theorem kX7_hand_2 : Cond.fieldLink RX7 47 "SongOffice" "standing" "LSongOffice$Ledger;" ∈ wsX7_hand := List.mem_of_getElem? (i := 2) rfl
theorem kX7_hand_4 : Cond.fieldLink RX7 151 "SongOffice$Ledger" "debt" "[J" ∈ wsX7_hand := List.mem_of_getElem? (i := 4) rfl
theorem kX7_hand_5 : Cond.fieldLink RX7 158 "SongOffice$Ledger" "filled" "[J" ∈ wsX7_hand := List.mem_of_getElem? (i := 5) rfl
theorem kX7_hand_7 : Cond.fieldLink RX7 105 "SongOffice$Ledger" "closed" "I" ∈ wsX7_hand := List.mem_of_getElem? (i := 7) rfl
theorem kX7_hand_6 : Cond.fieldLink RX7 51 "SongOffice" "anew" "LSongOffice$Ledger;" ∈ wsX7_hand := List.mem_of_getElem? (i := 6) rfl
theorem kX7_hand_1 : Cond.constantLong RX7 128 (-1) ∈ wsX7_hand := List.mem_of_getElem? (i := 1) rfl
abbrev rmX7_hand : Room := { frames := 8, cells := 0, slots := 0, locals := 243 }
set_option maxHeartbeats 4000000 in
set_option maxRecDepth 100000 in
theorem c_X7_hand (l : Launch) (dC : Nat → ClassId) (dI : Nat → Nat → Nat) (a : Nat → Nat) (cy : Nat → ClassId) (n0 n1 : Nat) (sz : Nat) (I : TI) (J : TJ) (S : TS) (L : TL) (p0 : Int32) (p1 : Int32) (Φ : Int64 → TI → TJ → TS → TL → Prop) (h : wp_X7_hand n0 n1 I J S L p0 p1 Φ) : Met l yX7_hand wsX7_hand rmX7_hand (va_Pc [.ref (a 53), .int p0, .int p1] (gpre dC dI (wO a cy n0 n1 I J S L) (tyL cy) sz)) (gQl dC dI (wO a cy n0 n1) (tyL cy) (va_A (wO a cy n0 n1 I J S L) sz) Φ) 0 0 (va_A (wO a cy n0 n1 I J S L) sz) := by
  refine Met.ofW (cc := cX7_hand) (maxL := 3) (ret := (some .long)) (by decide) rfl ?_
  intro p e s m args below meth c s₁ B hml hv
  obtain ⟨hargs, hsz, hP, hK, hD0, hN⟩ := hv
  have hx := B.exec
  have hb := B.bytes
  have hr := B.returns
  have hts := atoms_spec (ws := wsX7_hand) B.pre
  have hown : s.vm.findClass RX7 = some m.cls := findClass_of_methodNamed B.named
  have hlocks := B.notSynchronized
  subst hsz
  have hD := hD0.self (sz := s.heap.size)
  generalize hAe : va_A (wO a cy n0 n1 I J S L) s.heap.size = A at hD ⊢
  have hA : ∀ q : Nat, s.heap.size ≤ q → A q := fun q h => by rw [← hAe]; exact Or.inr h
  obtain ⟨H, hH⟩ : ∃ z : Heap, z = s.heap := ⟨_, rfl⟩
  rw [← hH] at hP
  have hS : va_S A s.heap H [] := by rw [hH]; exact va_S.rf
  have hl := lv_entry ([.ref (a 53), .int p0, .int p1]) (n := 3) (Nat.le_of_ble_eq_true rfl)
  have hE : entryFrame m args 3 = F0 m 0 ((lg_sl ([.ref (a 53), .int p0, .int p1]) ++ List.replicate (3 - (lg_sl ([.ref (a 53), .int p0, .int p1])).length) Slot.unset).toArray) [] := by rw [hargs]; exact lg_entry_eq m _ _
  rw [hE, ← hH]
  clear hE
  generalize (lg_sl ([.ref (a 53), .int p0, .int p1]) ++ List.replicate (3 - (lg_sl ([.ref (a 53), .int p0, .int p1])).length) Slot.unset).toArray = ls at hl ⊢
  have hl : lv_has ls 3 [(0, .ref (a 53)), (1, .int p0), (2, .int p1)] := hl
  unfold wp_X7_hand at h
  refine lv_iload_n hx hb dX7_hand_0 rfl (lv_at hl 1 rfl) ?_
  refine gcalli (va_runS (As := [.int p0]) (rest := []) ⟨hx, hb, hml, hown, hts⟩ (c_X7_isHand l dC dI (wO a cy n0 n1) (tyL cy) H.size I J S L p0 _ h) (va_cwS 1 hts gX7_hand_X7_isHand rfl rfl rfl (by decide +kernel) ⟨(Nat.le_of_ble_eq_true rfl), (Nat.le_of_ble_eq_true rfl)⟩) (g_pS hP hK hD hN [.int p0]) rfl rfl hl.1 rfl (lv_room (Nat.le_of_ble_eq_true rfl)) dX7_hand_1 ⟨(Nat.le_of_ble_eq_true rfl), (Nat.le_of_ble_eq_true rfl)⟩) hS hA hD (fun r_5 I_1 J_2 S_3 L_4 H locs hP hD hS h => ?_)
  refine lv_if_ne (tgt := 11) hx hb dX7_hand_4 (by decide) (fun hc => ?_) (fun hc => ?_)
  · have h := h.1 hc
    refine lv_iload_n hx hb dX7_hand_11 rfl (lv_at hl 2 rfl) ?_
    by_cases hc0 : p1 = nI 0
    · have h := h.1 hc0
      refine lv_tableIn (off := 36) (tgt := 48) hx hb dX7_hand_12 (by rw [hc0]; decide) (by rw [hc0]; decide) (by rw [hc0]; decide) (by decide) ?_
      refine lv_aload_n hx hb dX7_hand_48 rfl (lv_at hl 0 rfl) ?_
      refine va_get (D := (dC, dI)) (ci := 7) (v := .ref (a 25)) (C := RX7) (T := TX7) (N := 7) hx hb hts nX7_hand_X7 hown hK hP 0 (wO_atO _ _ _ _ _ _ _ _) rfl 4 (by decide) (hts (.fieldLink RX7 47 "SongOffice" "standing" "LSongOffice$Ledger;") kX7_hand_2) (fun _ h9 => h9) rfl dX7_hand_49 ?_
      refine va_get (D := (dC, dI)) (ci := 2) (v := .ref (a 26)) (C := RX2) (T := TX2) (N := 16) hx hb hts nX7_hand_X2 hown hK hP 26 (wO_at25 _ _ _ _ _ _ _ _) rfl 0 (by decide) (hts (.fieldLink RX7 147 "SongOffice$Ledger" "purse" "[J") kX7_hand_3) (fun _ h9 => h9) rfl dX7_hand_52 ?_
      refine lv_iload_n hx hb dX7_hand_55 rfl (lv_at hl 1 rfl) ?_
      obtain ⟨hi, h⟩ := h
      refine va_lald hx hb hK hP 27 21 (wO_at26 _ _ _ _ _ _ _ _) rfl hi dX7_hand_56 ?_
      exact grl hx hb hr hlocks hP hK hD hS h dX7_hand_57
    by_cases hc1 : p1 = nI 1
    · have h := h.2.1 hc1
      refine lv_tableIn (off := 46) (tgt := 58) hx hb dX7_hand_12 (by rw [hc1]; decide) (by rw [hc1]; decide) (by rw [hc1]; decide) (by decide) ?_
      refine lv_aload_n hx hb dX7_hand_58 rfl (lv_at hl 0 rfl) ?_
      refine va_get (D := (dC, dI)) (ci := 7) (v := .ref (a 25)) (C := RX7) (T := TX7) (N := 7) hx hb hts nX7_hand_X7 hown hK hP 0 (wO_atO _ _ _ _ _ _ _ _) rfl 4 (by decide) (hts (.fieldLink RX7 47 "SongOffice" "standing" "LSongOffice$Ledger;") kX7_hand_2) (fun _ h9 => h9) rfl dX7_hand_59 ?_
      refine va_get (D := (dC, dI)) (ci := 2) (v := .ref (a 27)) (C := RX2) (T := TX2) (N := 16) hx hb hts nX7_hand_X2 hown hK hP 26 (wO_at25 _ _ _ _ _ _ _ _) rfl 1 (by decide) (hts (.fieldLink RX7 151 "SongOffice$Ledger" "debt" "[J") kX7_hand_4) (fun _ h9 => h9) rfl dX7_hand_62 ?_
      refine lv_iload_n hx hb dX7_hand_65 rfl (lv_at hl 1 rfl) ?_
      obtain ⟨hi, h⟩ := h
      refine va_lald hx hb hK hP 28 22 (wO_at27 _ _ _ _ _ _ _ _) rfl hi dX7_hand_66 ?_
      exact grl hx hb hr hlocks hP hK hD hS h dX7_hand_67
    by_cases hc2 : p1 = nI 2
    · have h := h.2.2.1 hc2
      refine lv_tableIn (off := 56) (tgt := 68) hx hb dX7_hand_12 (by rw [hc2]; decide) (by rw [hc2]; decide) (by rw [hc2]; decide) (by decide) ?_
      refine lv_aload_n hx hb dX7_hand_68 rfl (lv_at hl 0 rfl) ?_
      refine va_get (D := (dC, dI)) (ci := 7) (v := .ref (a 25)) (C := RX7) (T := TX7) (N := 7) hx hb hts nX7_hand_X7 hown hK hP 0 (wO_atO _ _ _ _ _ _ _ _) rfl 4 (by decide) (hts (.fieldLink RX7 47 "SongOffice" "standing" "LSongOffice$Ledger;") kX7_hand_2) (fun _ h9 => h9) rfl dX7_hand_69 ?_
      refine lv_iload_n hx hb dX7_hand_72 rfl (lv_at hl 1 rfl) ?_
      refine gcalll (va_runV (As := [.int p0]) (rest := []) ⟨hx, hb, hml, hown, hts⟩ (c_X2_allDues_O l dC dI a cy n0 n1 H.size I_1 J_2 S_3 L_4 p0 _ h) (cwV 1 hts gX7_hand_X2_allDues rfl rfl rfl (by decide +kernel) ⟨(Nat.le_of_ble_eq_true rfl), (Nat.le_of_ble_eq_true rfl)⟩) (g_pV hP hK hD hN (va_recv hK hP (ci := 2) (q0 := 26) rfl (wO_at25 _ _ _ _ _ _ _ _)) [.int p0]) rfl rfl hl.1 rfl (lv_room (Nat.le_of_ble_eq_true rfl)) dX7_hand_73 ⟨(Nat.le_of_ble_eq_true rfl), (Nat.le_of_ble_eq_true rfl)⟩) hS hA hD (fun r_10 I_6 J_7 S_8 L_9 H locs hP hD hS h => ?_)
      exact grl hx hb hr hlocks hP hK hD hS h dX7_hand_76
    by_cases hc3 : p1 = nI 3
    · have h := h.2.2.2.1 hc3
      refine lv_tableIn (off := 65) (tgt := 77) hx hb dX7_hand_12 (by rw [hc3]; decide) (by rw [hc3]; decide) (by rw [hc3]; decide) (by decide) ?_
      refine lv_aload_n hx hb dX7_hand_77 rfl (lv_at hl 0 rfl) ?_
      refine va_get (D := (dC, dI)) (ci := 7) (v := .ref (a 25)) (C := RX7) (T := TX7) (N := 7) hx hb hts nX7_hand_X7 hown hK hP 0 (wO_atO _ _ _ _ _ _ _ _) rfl 4 (by decide) (hts (.fieldLink RX7 47 "SongOffice" "standing" "LSongOffice$Ledger;") kX7_hand_2) (fun _ h9 => h9) rfl dX7_hand_78 ?_
      refine va_get (D := (dC, dI)) (ci := 2) (v := .ref (a 28)) (C := RX2) (T := TX2) (N := 16) hx hb hts nX7_hand_X2 hown hK hP 26 (wO_at25 _ _ _ _ _ _ _ _) rfl 2 (by decide) (hts (.fieldLink RX7 158 "SongOffice$Ledger" "filled" "[J") kX7_hand_5) (fun _ h9 => h9) rfl dX7_hand_81 ?_
      refine lv_iload_n hx hb dX7_hand_84 rfl (lv_at hl 1 rfl) ?_
      obtain ⟨hi, h⟩ := h
      refine va_lald hx hb hK hP 29 23 (wO_at28 _ _ _ _ _ _ _ _) rfl hi dX7_hand_85 ?_
      exact grl hx hb hr hlocks hP hK hD hS h dX7_hand_86
    by_cases hc4 : p1 = nI 4
    · have h := h.2.2.2.2.1 hc4
      refine lv_tableIn (off := 75) (tgt := 87) hx hb dX7_hand_12 (by rw [hc4]; decide) (by rw [hc4]; decide) (by rw [hc4]; decide) (by decide) ?_
      refine lv_aload_n hx hb dX7_hand_87 rfl (lv_at hl 0 rfl) ?_
      refine va_get (D := (dC, dI)) (ci := 7) (v := .ref (a 39)) (C := RX7) (T := TX7) (N := 7) hx hb hts nX7_hand_X7 hown hK hP 0 (wO_atO _ _ _ _ _ _ _ _) rfl 5 (by decide) (hts (.fieldLink RX7 51 "SongOffice" "anew" "LSongOffice$Ledger;") kX7_hand_6) (fun _ h9 => h9) rfl dX7_hand_88 ?_
      refine lv_aload_n hx hb dX7_hand_91 rfl (lv_at hl 0 rfl) ?_
      refine va_get (D := (dC, dI)) (ci := 7) (v := .ref (a 25)) (C := RX7) (T := TX7) (N := 7) hx hb hts nX7_hand_X7 hown hK hP 0 (wO_atO _ _ _ _ _ _ _ _) rfl 4 (by decide) (hts (.fieldLink RX7 47 "SongOffice" "standing" "LSongOffice$Ledger;") kX7_hand_2) (fun _ h9 => h9) rfl dX7_hand_92 ?_
      refine va_get (D := (dC, dI)) (ci := 2) (v := .int (S_3 3)) (C := RX2) (T := TX2) (N := 16) hx hb hts nX7_hand_X2 hown hK hP 26 (wO_at25 _ _ _ _ _ _ _ _) rfl 10 (by decide) (hts (.fieldLink RX7 105 "SongOffice$Ledger" "closed" "I") kX7_hand_7) (fun _ h9 => h9) rfl dX7_hand_95 ?_
      refine gcallv (va_runV (As := [.int (S_3 3)]) (rest := []) ⟨hx, hb, hml, hown, hts⟩ (c_X2_reckonTo_Op l dC dI a cy n0 n1 H.size I_1 J_2 S_3 L_4 (S_3 3) _ h) (cwV 1 hts gX7_hand_X2_reckonTo rfl rfl rfl (by decide +kernel) ⟨(Nat.le_of_ble_eq_true rfl), (Nat.le_of_ble_eq_true rfl)⟩) (g_pV hP hK hD hN (va_recv hK hP (ci := 2) (q0 := 40) rfl (wO_at39 _ _ _ _ _ _ _ _)) [.int (S_3 3)]) rfl rfl hl.1 rfl (lv_room (Nat.le_of_ble_eq_true rfl)) dX7_hand_98 ⟨(Nat.le_of_ble_eq_true rfl), (Nat.le_of_ble_eq_true rfl)⟩) hS hA hD (fun I_11 J_12 S_13 L_14 H locs hP hD hS h => ?_)
      refine lv_aload_n hx hb dX7_hand_101 rfl (lv_at hl 0 rfl) ?_
      refine lv_iload_n hx hb dX7_hand_102 rfl (lv_at hl 1 rfl) ?_
      refine gcalll (va_runV (As := [.int p0]) (rest := []) ⟨hx, hb, hml, hown, hts⟩ (c_X7_owedTo l dC dI a cy n0 n1 H.size I_11 J_12 S_13 L_14 p0 _ h) (cwV 1 hts gX7_hand_X7_owedTo rfl rfl rfl (by decide +kernel) ⟨(Nat.le_of_ble_eq_true rfl), (Nat.le_of_ble_eq_true rfl)⟩) (g_pV hP hK hD hN (va_recv hK hP (ci := 7) (q0 := 0) rfl (wO_atO _ _ _ _ _ _ _ _)) [.int p0]) rfl rfl hl.1 rfl (lv_room (Nat.le_of_ble_eq_true rfl)) dX7_hand_103 ⟨(Nat.le_of_ble_eq_true rfl), (Nat.le_of_ble_eq_true rfl)⟩) hS hA hD (fun r_19 I_15 J_16 S_17 L_18 H locs hP hD hS h => ?_)
      exact grl hx hb hr hlocks hP hK hD hS h dX7_hand_106
    have hno : ∀ k, k < 5 → ¬ p1 = nI k := fun k hk => by rcases (show k = 0 ∨ k = 1 ∨ k = 2 ∨ k = 3 ∨ k = 4 by omega) with rfl | rfl | rfl | rfl | rfl <;> assumption
    have h := h.2.2.2.2.2 hno
    refine lv_tableOut (tgt := 107) hx hb dX7_hand_12 (sw_out 5 (by decide) hno) (by decide) ?_
    refine lv_ldc2 (v := -1) hx hb hown (hts (.constantLong RX7 128 (-1)) kX7_hand_1) dX7_hand_107 ?_
    exact grl hx hb hr hlocks hP hK hD hS h dX7_hand_110
  · have h := h.2 hc
    refine lv_ldc2 (v := -1) hx hb hown (hts (.constantLong RX7 128 (-1)) kX7_hand_1) dX7_hand_7 ?_
    exact grl hx hb hr hlocks hP hK hD hS h dX7_hand_10
def wp_X7_has (n0 n1 : Nat) (I : TI) (J : TJ) (S : TS) (L : TL) (p0 : Int32) (p1 : Int32) (Φ : Int64 → TI → TJ → TS → TL → Prop) : Prop := ∃ B_1 : TI → TJ → TS → TL → Prop, (∀ (I_2 : TI) (J_3 : TJ) (S_4 : TS) (L_5 : TL), B_1 I_2 J_3 S_4 L_5 → (Φ (-1 : Int64) I_2 J_3 S_4 L_5)) ∧ (((p0 < 0) → (B_1 I J S L)) ∧ ((¬ p0 < 0) → (((p0 < (S 1)) → (((¬ p1 = 0) → (((¬ p1 = (1 : Int32)) → (((¬ p1 = (2 : Int32)) → (∃ B_6 : TI → TJ → TS → TL → Prop, (∀ (I_7 : TI) (J_8 : TJ) (S_9 : TS) (L_10 : TL), B_6 I_7 J_8 S_9 L_10 → (Φ (0 : Int64) I_7 J_8 S_9 L_10)) ∧ (((p1 < (20 : Int32)) → (B_6 I J S L)) ∧ ((¬ p1 < (20 : Int32)) → ((((60 : Int32) ≤ p1) → (B_6 I J S L)) ∧ ((¬ (60 : Int32) ≤ p1) → ((vp_in (((p0 * (40 : Int32)) + p1) - (20 : Int32)) 960) ∧ (Φ (J 32 ((((p0 * (40 : Int32)) + p1) - (20 : Int32))).toNatClampNeg) I J S L)))))))) ∧ ((p1 = (2 : Int32)) → (wp_X2_stillIn_O n0 n1 I J S L p0 (fun (r_15 : Int64) (I_11 : TI) (J_12 : TJ) (S_13 : TS) (L_14 : TL) => (Φ r_15 I_11 J_12 S_13 L_14)))))) ∧ ((p1 = (1 : Int32)) → ((vp_in p0 24) ∧ (Φ (J 31 (p0).toNatClampNeg) I J S L))))) ∧ ((p1 = 0) → ((vp_in p0 24) ∧ (Φ (J 30 (p0).toNatClampNeg) I J S L))))) ∧ ((¬ p0 < (S 1)) → (B_1 I J S L)))))
theorem kX7_has_3 : Cond.constantLong RX7 128 (-1) ∈ wsX7_has := List.mem_of_getElem? (i := 3) rfl
theorem nX7_has_X2 : ∀ w ∈ wsX20, w ∈ wsX7_has := fun _ h => List.mem_cons_of_mem _ (List.mem_append_right _ h)
theorem kX7_has_7 : Cond.fieldLink RX7 173 "SongOffice$Ledger" "bags" "[J" ∈ wsX7_has := List.mem_of_getElem? (i := 7) rfl
theorem nX7_has_X7 : ∀ w ∈ wsX70, w ∈ wsX7_has := fun _ h => List.mem_cons_of_mem _ (List.mem_append_left _ (List.mem_append_left _ (List.mem_append_right _ h)))
theorem kX7_has_4 : Cond.fieldLink RX7 47 "SongOffice" "standing" "LSongOffice$Ledger;" ∈ wsX7_has := List.mem_of_getElem? (i := 4) rfl
theorem kX7_has_6 : Cond.fieldLink RX7 167 "SongOffice$Ledger" "came" "[J" ∈ wsX7_has := List.mem_of_getElem? (i := 6) rfl
theorem kX7_has_5 : Cond.fieldLink RX7 164 "SongOffice$Ledger" "kept" "[J" ∈ wsX7_has := List.mem_of_getElem? (i := 5) rfl
theorem nX7_has_X0 : ∀ w ∈ wsX00, w ∈ wsX7_has := fun _ h => List.mem_cons_of_mem _ (List.mem_append_left _ (List.mem_append_right _ h))
theorem kX7_has_2 : Cond.fieldLink RX7 86 "SongOffice$BargainBook" "size" "I" ∈ wsX7_has := List.mem_of_getElem? (i := 2) rfl
theorem kX7_has_1 : Cond.fieldLink RX7 19 "SongOffice" "bargains" "LSongOffice$BargainBook;" ∈ wsX7_has := List.mem_of_getElem? (i := 1) rfl
abbrev rmX7_has : Room := { frames := 1, cells := 0, slots := 0, locals := 24 }
set_option maxHeartbeats 4000000 in
set_option maxRecDepth 100000 in
theorem c_X7_has (l : Launch) (dC : Nat → ClassId) (dI : Nat → Nat → Nat) (a : Nat → Nat) (cy : Nat → ClassId) (n0 n1 : Nat) (sz : Nat) (I : TI) (J : TJ) (S : TS) (L : TL) (p0 : Int32) (p1 : Int32) (Φ : Int64 → TI → TJ → TS → TL → Prop) (h : wp_X7_has n0 n1 I J S L p0 p1 Φ) : Met l yX7_has wsX7_has rmX7_has (va_Pc [.ref (a 53), .int p0, .int p1] (gpre dC dI (wO a cy n0 n1 I J S L) (tyL cy) sz)) (gQl dC dI (wO a cy n0 n1) (tyL cy) (va_A (wO a cy n0 n1 I J S L) sz) Φ) 0 0 (va_A (wO a cy n0 n1 I J S L) sz) := by
  refine Met.ofW (cc := cX7_has) (maxL := 3) (ret := (some .long)) (by decide) rfl ?_
  intro p e s m args below meth c s₁ B hml hv
  obtain ⟨hargs, hsz, hP, hK, hD0, hN⟩ := hv
  have hx := B.exec
  have hb := B.bytes
  have hr := B.returns
  have hts := atoms_spec (ws := wsX7_has) B.pre
  have hown : s.vm.findClass RX7 = some m.cls := findClass_of_methodNamed B.named
  have hlocks := B.notSynchronized
  subst hsz
  have hD := hD0.self (sz := s.heap.size)
  generalize hAe : va_A (wO a cy n0 n1 I J S L) s.heap.size = A at hD ⊢
  have hA : ∀ q : Nat, s.heap.size ≤ q → A q := fun q h => by rw [← hAe]; exact Or.inr h
  obtain ⟨H, hH⟩ : ∃ z : Heap, z = s.heap := ⟨_, rfl⟩
  rw [← hH] at hP
  have hS : va_S A s.heap H [] := by rw [hH]; exact va_S.rf
  have hl := lv_entry ([.ref (a 53), .int p0, .int p1]) (n := 3) (Nat.le_of_ble_eq_true rfl)
  have hE : entryFrame m args 3 = F0 m 0 ((lg_sl ([.ref (a 53), .int p0, .int p1]) ++ List.replicate (3 - (lg_sl ([.ref (a 53), .int p0, .int p1])).length) Slot.unset).toArray) [] := by rw [hargs]; exact lg_entry_eq m _ _
  rw [hE, ← hH]
  clear hE
  generalize (lg_sl ([.ref (a 53), .int p0, .int p1]) ++ List.replicate (3 - (lg_sl ([.ref (a 53), .int p0, .int p1])).length) Slot.unset).toArray = ls at hl ⊢
  have hl : lv_has ls 3 [(0, .ref (a 53)), (1, .int p0), (2, .int p1)] := hl
  unfold wp_X7_has at h
  refine lv_iload_n hx hb dX7_has_0 rfl (lv_at hl 1 rfl) ?_
  obtain ⟨B_1, hB_1, h⟩ := h
  have jB_1 : ∀ (I_2 : TI) (J_3 : TJ) (S_4 : TS) (L_5 : TL) (H : Heap) (locs : List Loc) (ls : Array Slot), va_P (dC, dI) vwCl (wO a cy n0 n1 I_2 J_3 S_4 L_5) H → va_D A (wO a cy n0 n1 I_2 J_3 S_4 L_5) → va_S A s.heap H locs → lv_has ls 3 [] → B_1 I_2 J_3 S_4 L_5 → W p l e (headSpec wsX7_has rmX7_has).room s m args below meth c H locs 0 0 (MQ below (gQl dC dI (wO a cy n0 n1) (tyL cy) A Φ) args s 0 0 A) (F0 m 15 ls []) := by
    intro I_2 J_3 S_4 L_5 H locs ls hP hD hS hl h
    have h := hB_1 I_2 J_3 S_4 L_5 h
    refine lv_ldc2 (v := -1) hx hb hown (hts (.constantLong RX7 128 (-1)) kX7_has_3) dX7_has_15 ?_
    exact grl hx hb hr hlocks hP hK hD hS h dX7_has_18
  refine lv_if_lt (tgt := 15) hx hb dX7_has_1 (by decide) (fun hc => ?_) (fun hc => ?_)
  · have h := h.1 hc
    exact jB_1 I J S L _ _ _ hP hD hS (lv_sub hl [] rfl) h
  · have h := h.2 hc
    refine lv_iload_n hx hb dX7_has_4 rfl (lv_at hl 1 rfl) ?_
    refine lv_aload_n hx hb dX7_has_5 rfl (lv_at hl 0 rfl) ?_
    refine va_get (D := (dC, dI)) (ci := 7) (v := .ref (a 5)) (C := RX7) (T := TX7) (N := 7) hx hb hts nX7_has_X7 hown hK hP 0 (wO_atO _ _ _ _ _ _ _ _) rfl 1 (by decide) (hts (.fieldLink RX7 19 "SongOffice" "bargains" "LSongOffice$BargainBook;") kX7_has_1) (fun _ h9 => h9) rfl dX7_has_6 ?_
    refine va_get (D := (dC, dI)) (ci := 0) (v := .int (S 1)) (C := RX0) (T := TX0) (N := 9) hx hb hts nX7_has_X0 hown hK hP 6 (wO_at5 _ _ _ _ _ _ _ _) rfl 8 (by decide) (hts (.fieldLink RX7 86 "SongOffice$BargainBook" "size" "I") kX7_has_2) (fun _ h9 => h9) rfl dX7_has_9 ?_
    refine lv_icmp_lt (tgt := 19) hx hb dX7_has_12 (by decide) (fun hc => ?_) (fun hc => ?_)
    · have h := h.1 hc
      refine lv_iload_n hx hb dX7_has_19 rfl (lv_at hl 2 rfl) ?_
      refine lv_if_ne (tgt := 33) hx hb dX7_has_20 (by decide) (fun hc => ?_) (fun hc => ?_)
      · have h := h.1 hc
        refine lv_iload_n hx hb dX7_has_33 rfl (lv_at hl 2 rfl) ?_
        refine lv_iconst (v := 1) hx hb dX7_has_34 (by decide) ?_
        refine lv_icmp_ne (tgt := 48) hx hb dX7_has_35 (by decide) (fun hc => ?_) (fun hc => ?_)
        · have h := h.1 hc
          refine lv_iload_n hx hb dX7_has_48 rfl (lv_at hl 2 rfl) ?_
          refine lv_iconst (v := 2) hx hb dX7_has_49 (by decide) ?_
          refine lv_icmp_ne (tgt := 62) hx hb dX7_has_50 (by decide) (fun hc => ?_) (fun hc => ?_)
          · have h := h.1 hc
            refine lv_iload_n hx hb dX7_has_62 rfl (lv_at hl 2 rfl) ?_
            refine lv_bipush (v := 20) hx hb dX7_has_63 (by decide) ?_
            obtain ⟨B_6, hB_6, h⟩ := h
            have jB_6 : ∀ (I_7 : TI) (J_8 : TJ) (S_9 : TS) (L_10 : TL) (H : Heap) (locs : List Loc) (ls : Array Slot), va_P (dC, dI) vwCl (wO a cy n0 n1 I_7 J_8 S_9 L_10) H → va_D A (wO a cy n0 n1 I_7 J_8 S_9 L_10) → va_S A s.heap H locs → lv_has ls 3 [] → B_6 I_7 J_8 S_9 L_10 → W p l e (headSpec wsX7_has rmX7_has).room s m args below meth c H locs 0 0 (MQ below (gQl dC dI (wO a cy n0 n1) (tyL cy) A Φ) args s 0 0 A) (F0 m 92 ls []) := by
              intro I_7 J_8 S_9 L_10 H locs ls hP hD hS hl h
              have h := hB_6 I_7 J_8 S_9 L_10 h
              refine lv_lconst (v := 0) hx hb dX7_has_92 (by decide) ?_
              exact grl hx hb hr hlocks hP hK hD hS h dX7_has_93
            refine lv_icmp_lt (tgt := 92) hx hb dX7_has_65 (by decide) (fun hc => ?_) (fun hc => ?_)
            · have h := h.1 hc
              exact jB_6 I J S L _ _ _ hP hD hS (lv_sub hl [] rfl) h
            · have h := h.2 hc
              refine lv_iload_n hx hb dX7_has_68 rfl (lv_at hl 2 rfl) ?_
              refine lv_bipush (v := 60) hx hb dX7_has_69 (by decide) ?_
              refine lv_icmp_ge (tgt := 92) hx hb dX7_has_71 (by decide) (fun hc => ?_) (fun hc => ?_)
              · have h := h.1 hc
                exact jB_6 I J S L _ _ _ hP hD hS (lv_sub hl [] rfl) h
              · have h := h.2 hc
                refine lv_aload_n hx hb dX7_has_74 rfl (lv_at hl 0 rfl) ?_
                refine va_get (D := (dC, dI)) (ci := 7) (v := .ref (a 25)) (C := RX7) (T := TX7) (N := 7) hx hb hts nX7_has_X7 hown hK hP 0 (wO_atO _ _ _ _ _ _ _ _) rfl 4 (by decide) (hts (.fieldLink RX7 47 "SongOffice" "standing" "LSongOffice$Ledger;") kX7_has_4) (fun _ h9 => h9) rfl dX7_has_75 ?_
                refine va_get (D := (dC, dI)) (ci := 2) (v := .ref (a 32)) (C := RX2) (T := TX2) (N := 16) hx hb hts nX7_has_X2 hown hK hP 26 (wO_at25 _ _ _ _ _ _ _ _) rfl 6 (by decide) (hts (.fieldLink RX7 173 "SongOffice$Ledger" "bags" "[J") kX7_has_7) (fun _ h9 => h9) rfl dX7_has_78 ?_
                refine lv_iload_n hx hb dX7_has_81 rfl (lv_at hl 1 rfl) ?_
                refine lv_bipush (v := 40) hx hb dX7_has_82 (by decide) ?_
                refine lv_imul hx hb dX7_has_84 ?_
                refine lv_iload_n hx hb dX7_has_85 rfl (lv_at hl 2 rfl) ?_
                refine lv_iadd hx hb dX7_has_86 ?_
                refine lv_bipush (v := 20) hx hb dX7_has_87 (by decide) ?_
                refine lv_isub hx hb dX7_has_89 ?_
                obtain ⟨hi, h⟩ := h
                refine va_lald hx hb hK hP 33 27 (wO_at32 _ _ _ _ _ _ _ _) rfl hi dX7_has_90 ?_
                exact grl hx hb hr hlocks hP hK hD hS h dX7_has_91
          · have h := h.2 hc
            refine lv_aload_n hx hb dX7_has_53 rfl (lv_at hl 0 rfl) ?_
            refine va_get (D := (dC, dI)) (ci := 7) (v := .ref (a 25)) (C := RX7) (T := TX7) (N := 7) hx hb hts nX7_has_X7 hown hK hP 0 (wO_atO _ _ _ _ _ _ _ _) rfl 4 (by decide) (hts (.fieldLink RX7 47 "SongOffice" "standing" "LSongOffice$Ledger;") kX7_has_4) (fun _ h9 => h9) rfl dX7_has_54 ?_
            refine lv_iload_n hx hb dX7_has_57 rfl (lv_at hl 1 rfl) ?_
            refine gcalll (va_runV (As := [.int p0]) (rest := []) ⟨hx, hb, hml, hown, hts⟩ (c_X2_stillIn_O l dC dI a cy n0 n1 H.size I J S L p0 _ h) (cwV 1 hts gX7_has_X2_stillIn rfl rfl rfl (by decide +kernel) ⟨(Nat.le_of_ble_eq_true rfl), (Nat.le_of_ble_eq_true rfl)⟩) (g_pV hP hK hD hN (va_recv hK hP (ci := 2) (q0 := 26) rfl (wO_at25 _ _ _ _ _ _ _ _)) [.int p0]) rfl rfl hl.1 rfl (lv_room (Nat.le_of_ble_eq_true rfl)) dX7_has_58 ⟨(Nat.le_of_ble_eq_true rfl), (Nat.le_of_ble_eq_true rfl)⟩) hS hA hD (fun r_15 I_11 J_12 S_13 L_14 H locs hP hD hS h => ?_)
            exact grl hx hb hr hlocks hP hK hD hS h dX7_has_61
        · have h := h.2 hc
          refine lv_aload_n hx hb dX7_has_38 rfl (lv_at hl 0 rfl) ?_
          refine va_get (D := (dC, dI)) (ci := 7) (v := .ref (a 25)) (C := RX7) (T := TX7) (N := 7) hx hb hts nX7_has_X7 hown hK hP 0 (wO_atO _ _ _ _ _ _ _ _) rfl 4 (by decide) (hts (.fieldLink RX7 47 "SongOffice" "standing" "LSongOffice$Ledger;") kX7_has_4) (fun _ h9 => h9) rfl dX7_has_39 ?_
          refine va_get (D := (dC, dI)) (ci := 2) (v := .ref (a 31)) (C := RX2) (T := TX2) (N := 16) hx hb hts nX7_has_X2 hown hK hP 26 (wO_at25 _ _ _ _ _ _ _ _) rfl 5 (by decide) (hts (.fieldLink RX7 167 "SongOffice$Ledger" "came" "[J") kX7_has_6) (fun _ h9 => h9) rfl dX7_has_42 ?_
          refine lv_iload_n hx hb dX7_has_45 rfl (lv_at hl 1 rfl) ?_
          obtain ⟨hi, h⟩ := h
          refine va_lald hx hb hK hP 32 26 (wO_at31 _ _ _ _ _ _ _ _) rfl hi dX7_has_46 ?_
          exact grl hx hb hr hlocks hP hK hD hS h dX7_has_47
      · have h := h.2 hc
        refine lv_aload_n hx hb dX7_has_23 rfl (lv_at hl 0 rfl) ?_
        refine va_get (D := (dC, dI)) (ci := 7) (v := .ref (a 25)) (C := RX7) (T := TX7) (N := 7) hx hb hts nX7_has_X7 hown hK hP 0 (wO_atO _ _ _ _ _ _ _ _) rfl 4 (by decide) (hts (.fieldLink RX7 47 "SongOffice" "standing" "LSongOffice$Ledger;") kX7_has_4) (fun _ h9 => h9) rfl dX7_has_24 ?_
        refine va_get (D := (dC, dI)) (ci := 2) (v := .ref (a 30)) (C := RX2) (T := TX2) (N := 16) hx hb hts nX7_has_X2 hown hK hP 26 (wO_at25 _ _ _ _ _ _ _ _) rfl 4 (by decide) (hts (.fieldLink RX7 164 "SongOffice$Ledger" "kept" "[J") kX7_has_5) (fun _ h9 => h9) rfl dX7_has_27 ?_
        refine lv_iload_n hx hb dX7_has_30 rfl (lv_at hl 1 rfl) ?_
        obtain ⟨hi, h⟩ := h
        refine va_lald hx hb hK hP 31 25 (wO_at30 _ _ _ _ _ _ _ _) rfl hi dX7_has_31 ?_
        exact grl hx hb hr hlocks hP hK hD hS h dX7_has_32
    · have h := h.2 hc
      exact jB_1 I J S L _ _ _ hP hD hS (lv_sub hl [] rfl) h
def wp_X7_told (n0 n1 : Nat) (I : TI) (J : TJ) (S : TS) (L : TL) (p0 : Int32) (p1 : Int32) (p2 : Int32) (Φ : Int32 → TI → TJ → TS → TL → Prop) : Prop := wp_X7_isClosed n0 n1 I J S L p0 (fun (r_5 : Int32) (I_1 : TI) (J_2 : TJ) (S_3 : TS) (L_4 : TL) => (∃ B_6 : TI → TJ → TS → TL → Int32 → Prop, (∀ (I_7 : TI) (J_8 : TJ) (S_9 : TS) (L_10 : TL) (s_11 : Int32), B_6 I_7 J_8 S_9 L_10 s_11 → (∃ B_12 : TI → TJ → TS → TL → Prop, (∀ (I_13 : TI) (J_14 : TJ) (S_15 : TS) (L_16 : TL), B_12 I_13 J_14 S_15 L_16 → (Φ (-1 : Int32) I_13 J_14 S_15 L_16)) ∧ (((s_11 = 0) → (B_12 I_7 J_8 S_9 L_10)) ∧ ((¬ s_11 = 0) → (wp_X7_isWork I_7 J_8 S_9 L_10 p1 (fun (r_21 : Int32) (I_17 : TI) (J_18 : TJ) (S_19 : TS) (L_20 : TL) => (((¬ r_21 = 0) → (((p2 = nI 0) → (wp_X4_coinsOf_O n0 n1 I_17 J_18 S_19 L_20 p0 p1 p2 (fun (r_26 : Int32) (I_22 : TI) (J_23 : TJ) (S_24 : TS) (L_25 : TL) => (Φ r_26 I_22 J_23 S_24 L_25)))) ∧ ((p2 = nI 1) → (wp_X4_coinsOf_O n0 n1 I_17 J_18 S_19 L_20 p0 p1 p2 (fun (r_31 : Int32) (I_27 : TI) (J_28 : TJ) (S_29 : TS) (L_30 : TL) => (Φ r_31 I_27 J_28 S_29 L_30)))) ∧ ((p2 = nI 2) → (wp_X4_coinsOf_O n0 n1 I_17 J_18 S_19 L_20 p0 p1 p2 (fun (r_36 : Int32) (I_32 : TI) (J_33 : TJ) (S_34 : TS) (L_35 : TL) => (Φ r_36 I_32 J_33 S_34 L_35)))) ∧ ((p2 = nI 3) → (wp_X4_wayOf_O n0 n1 I_17 J_18 S_19 L_20 p0 p1 (fun (r_41 : Int32) (I_37 : TI) (J_38 : TJ) (S_39 : TS) (L_40 : TL) => (wp_X4_isOpen_O n0 n1 I_37 J_38 S_39 L_40 p0 p1 (fun (r_46 : Int32) (I_42 : TI) (J_43 : TJ) (S_44 : TS) (L_45 : TL) => (∃ B_47 : TI → TJ → TS → TL → Int32 → Int32 → Prop, (∀ (I_48 : TI) (J_49 : TJ) (S_50 : TS) (L_51 : TL) (s_52 : Int32) (s_53 : Int32), B_47 I_48 J_49 S_50 L_51 s_52 s_53 → (Φ (s_52 + s_53) I_48 J_49 S_50 L_51)) ∧ (((r_46 = 0) → (B_47 I_42 J_43 S_44 L_45 r_41 (0 : Int32))) ∧ ((¬ r_46 = 0) → (B_47 I_42 J_43 S_44 L_45 r_41 (4 : Int32)))))))))) ∧ ((p2 = nI 4) → (wp_X4_placeOf_O n0 n1 I_17 J_18 S_19 L_20 p0 p1 (fun (r_58 : Int32) (I_54 : TI) (J_55 : TJ) (S_56 : TS) (L_57 : TL) => (Φ r_58 I_54 J_55 S_56 L_57)))) ∧ ((∀ k, k < 5 → ¬ p2 = nI k) → (Φ (-1 : Int32) I_17 J_18 S_19 L_20)))) ∧ ((r_21 = 0) → (B_12 I_17 J_18 S_19 L_20))))))))) ∧ (∃ B_59 : TI → TJ → TS → TL → Prop, (∀ (I_60 : TI) (J_61 : TJ) (S_62 : TS) (L_63 : TL), B_59 I_60 J_61 S_62 L_63 → (B_6 I_60 J_61 S_62 L_63 (1 : Int32))) ∧ (((¬ r_5 = 0) → (B_59 I_1 J_2 S_3 L_4)) ∧ ((r_5 = 0) → (wp_X7_isTheTerm n0 n1 I_1 J_2 S_3 L_4 p0 (fun (r_68 : Int32) (I_64 : TI) (J_65 : TJ) (S_66 : TS) (L_67 : TL) => (((r_68 = 0) → (B_6 I_64 J_65 S_66 L_67 (0 : Int32))) ∧ ((¬ r_68 = 0) → (B_59 I_64 J_65 S_66 L_67))))))))))
theorem nX7_told_X7 : ∀ w ∈ wsX70, w ∈ wsX7_told := fun _ h => List.mem_cons_of_mem _ (List.mem_append_left _ (List.mem_append_left _ (List.mem_append_right _ h)))
theorem kX7_told_1 : Cond.fieldLink RX7 26 "SongOffice" "reports" "LSongOffice$ReportBook;" ∈ wsX7_told := List.mem_of_getElem? (i := 1) rfl
abbrev rmX7_told : Room := { frames := 1, cells := 0, slots := 0, locals := 23 }
set_option maxHeartbeats 4000000 in
set_option maxRecDepth 100000 in
theorem c_X7_told (l : Launch) (dC : Nat → ClassId) (dI : Nat → Nat → Nat) (a : Nat → Nat) (cy : Nat → ClassId) (n0 n1 : Nat) (sz : Nat) (I : TI) (J : TJ) (S : TS) (L : TL) (p0 : Int32) (p1 : Int32) (p2 : Int32) (Φ : Int32 → TI → TJ → TS → TL → Prop) (h : wp_X7_told n0 n1 I J S L p0 p1 p2 Φ) : Met l yX7_told wsX7_told rmX7_told (va_Pc [.ref (a 53), .int p0, .int p1, .int p2] (gpre dC dI (wO a cy n0 n1 I J S L) (tyL cy) sz)) (gQi dC dI (wO a cy n0 n1) (tyL cy) (va_A (wO a cy n0 n1 I J S L) sz) Φ) 0 0 (va_A (wO a cy n0 n1 I J S L) sz) := by
  refine Met.ofW (cc := cX7_told) (maxL := 5) (ret := (some .int)) (by decide) rfl ?_
  intro p e s m args below meth c s₁ B hml hv
  obtain ⟨hargs, hsz, hP, hK, hD0, hN⟩ := hv
  have hx := B.exec
  have hb := B.bytes
  have hr := B.returns
  have hts := atoms_spec (ws := wsX7_told) B.pre
  have hown : s.vm.findClass RX7 = some m.cls := findClass_of_methodNamed B.named
  have hlocks := B.notSynchronized
  subst hsz
  have hD := hD0.self (sz := s.heap.size)
  generalize hAe : va_A (wO a cy n0 n1 I J S L) s.heap.size = A at hD ⊢
  have hA : ∀ q : Nat, s.heap.size ≤ q → A q := fun q h => by rw [← hAe]; exact Or.inr h
  obtain ⟨H, hH⟩ : ∃ z : Heap, z = s.heap := ⟨_, rfl⟩
  rw [← hH] at hP
  have hS : va_S A s.heap H [] := by rw [hH]; exact va_S.rf
  have hl := lv_entry ([.ref (a 53), .int p0, .int p1, .int p2]) (n := 5) (Nat.le_of_ble_eq_true rfl)
  have hE : entryFrame m args 5 = F0 m 0 ((lg_sl ([.ref (a 53), .int p0, .int p1, .int p2]) ++ List.replicate (5 - (lg_sl ([.ref (a 53), .int p0, .int p1, .int p2])).length) Slot.unset).toArray) [] := by rw [hargs]; exact lg_entry_eq m _ _
  rw [hE, ← hH]
  clear hE
  generalize (lg_sl ([.ref (a 53), .int p0, .int p1, .int p2]) ++ List.replicate (5 - (lg_sl ([.ref (a 53), .int p0, .int p1, .int p2])).length) Slot.unset).toArray = ls at hl ⊢
  have hl : lv_has ls 5 [(0, .ref (a 53)), (1, .int p0), (2, .int p1), (3, .int p2)] := hl
  unfold wp_X7_told at h
  refine lv_aload_n hx hb dX7_told_0 rfl (lv_at hl 0 rfl) ?_
  refine lv_iload_n hx hb dX7_told_1 rfl (lv_at hl 1 rfl) ?_
  refine gcalli (va_runV (As := [.int p0]) (rest := []) ⟨hx, hb, hml, hown, hts⟩ (c_X7_isClosed l dC dI a cy n0 n1 H.size I J S L p0 _ h) (cwV 1 hts gX7_told_X7_isClosed rfl rfl rfl (by decide +kernel) ⟨(Nat.le_of_ble_eq_true rfl), (Nat.le_of_ble_eq_true rfl)⟩) (g_pV hP hK hD hN (va_recv hK hP (ci := 7) (q0 := 0) rfl (wO_atO _ _ _ _ _ _ _ _)) [.int p0]) rfl rfl hl.1 rfl (lv_room (Nat.le_of_ble_eq_true rfl)) dX7_told_2 ⟨(Nat.le_of_ble_eq_true rfl), (Nat.le_of_ble_eq_true rfl)⟩) hS hA hD (fun r_5 I_1 J_2 S_3 L_4 H locs hP hD hS h => ?_)
  obtain ⟨B_6, hB_6, h⟩ := h
  have jB_6 : ∀ (I_7 : TI) (J_8 : TJ) (S_9 : TS) (L_10 : TL) (s_11 : Int32) (H : Heap) (locs : List Loc) (ls : Array Slot), va_P (dC, dI) vwCl (wO a cy n0 n1 I_7 J_8 S_9 L_10) H → va_D A (wO a cy n0 n1 I_7 J_8 S_9 L_10) → va_S A s.heap H locs → lv_has ls 5 [(0, .ref (a 53)), (1, .int p0), (2, .int p1), (3, .int p2)] → B_6 I_7 J_8 S_9 L_10 s_11 → W p l e (headSpec wsX7_told rmX7_told).room s m args below meth c H locs 0 0 (MQ below (gQi dC dI (wO a cy n0 n1) (tyL cy) A Φ) args s 0 0 A) (F0 m 21 ls [.int s_11]) := by
    intro I_7 J_8 S_9 L_10 s_11 H locs ls hP hD hS hl h
    have h := hB_6 I_7 J_8 S_9 L_10 s_11 h
    refine lv_istore (lv' := [(4, .int s_11), (0, .ref (a 53)), (1, .int p0), (2, .int p1), (3, .int p2)]) hx hb dX7_told_21 hl (by decide) rfl (fun ls hl => ?_)
    refine lv_iload hx hb dX7_told_23 (lv_at hl 0 rfl) ?_
    obtain ⟨B_12, hB_12, h⟩ := h
    have jB_12 : ∀ (I_13 : TI) (J_14 : TJ) (S_15 : TS) (L_16 : TL) (H : Heap) (locs : List Loc) (ls : Array Slot), va_P (dC, dI) vwCl (wO a cy n0 n1 I_13 J_14 S_15 L_16) H → va_D A (wO a cy n0 n1 I_13 J_14 S_15 L_16) → va_S A s.heap H locs → lv_has ls 5 [] → B_12 I_13 J_14 S_15 L_16 → W p l e (headSpec wsX7_told rmX7_told).room s m args below meth c H locs 0 0 (MQ below (gQi dC dI (wO a cy n0 n1) (tyL cy) A Φ) args s 0 0 A) (F0 m 35 ls []) := by
      intro I_13 J_14 S_15 L_16 H locs ls hP hD hS hl h
      have h := hB_12 I_13 J_14 S_15 L_16 h
      refine lv_iconst (v := -1) hx hb dX7_told_35 (by decide) ?_
      exact gri hx hb hr hlocks hP hK hD hS h dX7_told_36
    refine lv_if_eq (tgt := 35) hx hb dX7_told_25 (by decide) (fun hc => ?_) (fun hc => ?_)
    · have h := h.1 hc
      exact jB_12 I_7 J_8 S_9 L_10 _ _ _ hP hD hS (lv_sub hl [] rfl) h
    · have h := h.2 hc
      refine lv_iload_n hx hb dX7_told_28 rfl (lv_at hl 3 rfl) ?_
      refine gcalli (va_runS (As := [.int p1]) (rest := []) ⟨hx, hb, hml, hown, hts⟩ (c_X7_isWork l dC dI (wO a cy n0 n1) (tyL cy) H.size I_7 J_8 S_9 L_10 p1 _ h) (va_cwS 1 hts gX7_told_X7_isWork rfl rfl rfl (by decide +kernel) ⟨(Nat.le_of_ble_eq_true rfl), (Nat.le_of_ble_eq_true rfl)⟩) (g_pS hP hK hD hN [.int p1]) rfl rfl hl.1 rfl (lv_room (Nat.le_of_ble_eq_true rfl)) dX7_told_29 ⟨(Nat.le_of_ble_eq_true rfl), (Nat.le_of_ble_eq_true rfl)⟩) hS hA hD (fun r_21 I_17 J_18 S_19 L_20 H locs hP hD hS h => ?_)
      refine lv_if_ne (tgt := 37) hx hb dX7_told_32 (by decide) (fun hc => ?_) (fun hc => ?_)
      · have h := h.1 hc
        refine lv_iload_n hx hb dX7_told_37 rfl (lv_at hl 4 rfl) ?_
        by_cases hc0 : p2 = nI 0
        · have h := h.1 hc0
          refine lv_tableIn (off := 34) (tgt := 72) hx hb dX7_told_38 (by rw [hc0]; decide) (by rw [hc0]; decide) (by rw [hc0]; decide) (by decide) ?_
          refine lv_aload_n hx hb dX7_told_72 rfl (lv_at hl 1 rfl) ?_
          refine va_get (D := (dC, dI)) (ci := 7) (v := .ref (a 14)) (C := RX7) (T := TX7) (N := 7) hx hb hts nX7_told_X7 hown hK hP 0 (wO_atO _ _ _ _ _ _ _ _) rfl 2 (by decide) (hts (.fieldLink RX7 26 "SongOffice" "reports" "LSongOffice$ReportBook;") kX7_told_1) (fun _ h9 => h9) rfl dX7_told_73 ?_
          refine lv_iload_n hx hb dX7_told_76 rfl (lv_at hl 2 rfl) ?_
          refine lv_iload_n hx hb dX7_told_77 rfl (lv_at hl 3 rfl) ?_
          refine lv_iload_n hx hb dX7_told_78 rfl (lv_at hl 4 rfl) ?_
          refine gcalli (va_runV (As := [.int p0, .int p1, .int p2]) (rest := []) ⟨hx, hb, hml, hown, hts⟩ (c_X4_coinsOf_O l dC dI a cy n0 n1 H.size I_17 J_18 S_19 L_20 p0 p1 p2 _ h) (cwV 3 hts gX7_told_X4_coinsOf rfl rfl rfl (by decide +kernel) ⟨(Nat.le_of_ble_eq_true rfl), (Nat.le_of_ble_eq_true rfl)⟩) (g_pV hP hK hD hN (va_recv hK hP (ci := 4) (q0 := 15) rfl (wO_at14 _ _ _ _ _ _ _ _)) [.int p0, .int p1, .int p2]) rfl rfl hl.1 rfl (lv_room (Nat.le_of_ble_eq_true rfl)) dX7_told_79 ⟨(Nat.le_of_ble_eq_true rfl), (Nat.le_of_ble_eq_true rfl)⟩) hS hA hD (fun r_26 I_22 J_23 S_24 L_25 H locs hP hD hS h => ?_)
          exact gri hx hb hr hlocks hP hK hD hS h dX7_told_82
        by_cases hc1 : p2 = nI 1
        · have h := h.2.1 hc1
          refine lv_tableIn (off := 34) (tgt := 72) hx hb dX7_told_38 (by rw [hc1]; decide) (by rw [hc1]; decide) (by rw [hc1]; decide) (by decide) ?_
          refine lv_aload_n hx hb dX7_told_72 rfl (lv_at hl 1 rfl) ?_
          refine va_get (D := (dC, dI)) (ci := 7) (v := .ref (a 14)) (C := RX7) (T := TX7) (N := 7) hx hb hts nX7_told_X7 hown hK hP 0 (wO_atO _ _ _ _ _ _ _ _) rfl 2 (by decide) (hts (.fieldLink RX7 26 "SongOffice" "reports" "LSongOffice$ReportBook;") kX7_told_1) (fun _ h9 => h9) rfl dX7_told_73 ?_
          refine lv_iload_n hx hb dX7_told_76 rfl (lv_at hl 2 rfl) ?_
          refine lv_iload_n hx hb dX7_told_77 rfl (lv_at hl 3 rfl) ?_
          refine lv_iload_n hx hb dX7_told_78 rfl (lv_at hl 4 rfl) ?_
          refine gcalli (va_runV (As := [.int p0, .int p1, .int p2]) (rest := []) ⟨hx, hb, hml, hown, hts⟩ (c_X4_coinsOf_O l dC dI a cy n0 n1 H.size I_17 J_18 S_19 L_20 p0 p1 p2 _ h) (cwV 3 hts gX7_told_X4_coinsOf rfl rfl rfl (by decide +kernel) ⟨(Nat.le_of_ble_eq_true rfl), (Nat.le_of_ble_eq_true rfl)⟩) (g_pV hP hK hD hN (va_recv hK hP (ci := 4) (q0 := 15) rfl (wO_at14 _ _ _ _ _ _ _ _)) [.int p0, .int p1, .int p2]) rfl rfl hl.1 rfl (lv_room (Nat.le_of_ble_eq_true rfl)) dX7_told_79 ⟨(Nat.le_of_ble_eq_true rfl), (Nat.le_of_ble_eq_true rfl)⟩) hS hA hD (fun r_31 I_27 J_28 S_29 L_30 H locs hP hD hS h => ?_)
          exact gri hx hb hr hlocks hP hK hD hS h dX7_told_82
        by_cases hc2 : p2 = nI 2
        · have h := h.2.2.1 hc2
          refine lv_tableIn (off := 34) (tgt := 72) hx hb dX7_told_38 (by rw [hc2]; decide) (by rw [hc2]; decide) (by rw [hc2]; decide) (by decide) ?_
          refine lv_aload_n hx hb dX7_told_72 rfl (lv_at hl 1 rfl) ?_
          refine va_get (D := (dC, dI)) (ci := 7) (v := .ref (a 14)) (C := RX7) (T := TX7) (N := 7) hx hb hts nX7_told_X7 hown hK hP 0 (wO_atO _ _ _ _ _ _ _ _) rfl 2 (by decide) (hts (.fieldLink RX7 26 "SongOffice" "reports" "LSongOffice$ReportBook;") kX7_told_1) (fun _ h9 => h9) rfl dX7_told_73 ?_
          refine lv_iload_n hx hb dX7_told_76 rfl (lv_at hl 2 rfl) ?_
          refine lv_iload_n hx hb dX7_told_77 rfl (lv_at hl 3 rfl) ?_
          refine lv_iload_n hx hb dX7_told_78 rfl (lv_at hl 4 rfl) ?_
          refine gcalli (va_runV (As := [.int p0, .int p1, .int p2]) (rest := []) ⟨hx, hb, hml, hown, hts⟩ (c_X4_coinsOf_O l dC dI a cy n0 n1 H.size I_17 J_18 S_19 L_20 p0 p1 p2 _ h) (cwV 3 hts gX7_told_X4_coinsOf rfl rfl rfl (by decide +kernel) ⟨(Nat.le_of_ble_eq_true rfl), (Nat.le_of_ble_eq_true rfl)⟩) (g_pV hP hK hD hN (va_recv hK hP (ci := 4) (q0 := 15) rfl (wO_at14 _ _ _ _ _ _ _ _)) [.int p0, .int p1, .int p2]) rfl rfl hl.1 rfl (lv_room (Nat.le_of_ble_eq_true rfl)) dX7_told_79 ⟨(Nat.le_of_ble_eq_true rfl), (Nat.le_of_ble_eq_true rfl)⟩) hS hA hD (fun r_36 I_32 J_33 S_34 L_35 H locs hP hD hS h => ?_)
          exact gri hx hb hr hlocks hP hK hD hS h dX7_told_82
        by_cases hc3 : p2 = nI 3
        · have h := h.2.2.2.1 hc3
          refine lv_tableIn (off := 45) (tgt := 83) hx hb dX7_told_38 (by rw [hc3]; decide) (by rw [hc3]; decide) (by rw [hc3]; decide) (by decide) ?_
          refine lv_aload_n hx hb dX7_told_83 rfl (lv_at hl 1 rfl) ?_
          refine va_get (D := (dC, dI)) (ci := 7) (v := .ref (a 14)) (C := RX7) (T := TX7) (N := 7) hx hb hts nX7_told_X7 hown hK hP 0 (wO_atO _ _ _ _ _ _ _ _) rfl 2 (by decide) (hts (.fieldLink RX7 26 "SongOffice" "reports" "LSongOffice$ReportBook;") kX7_told_1) (fun _ h9 => h9) rfl dX7_told_84 ?_
          refine lv_iload_n hx hb dX7_told_87 rfl (lv_at hl 2 rfl) ?_
          refine lv_iload_n hx hb dX7_told_88 rfl (lv_at hl 3 rfl) ?_
          refine gcalli (va_runV (As := [.int p0, .int p1]) (rest := []) ⟨hx, hb, hml, hown, hts⟩ (c_X4_wayOf_O l dC dI a cy n0 n1 H.size I_17 J_18 S_19 L_20 p0 p1 _ h) (cwV 2 hts gX7_told_X4_wayOf rfl rfl rfl (by decide +kernel) ⟨(Nat.le_of_ble_eq_true rfl), (Nat.le_of_ble_eq_true rfl)⟩) (g_pV hP hK hD hN (va_recv hK hP (ci := 4) (q0 := 15) rfl (wO_at14 _ _ _ _ _ _ _ _)) [.int p0, .int p1]) rfl rfl hl.1 rfl (lv_room (Nat.le_of_ble_eq_true rfl)) dX7_told_89 ⟨(Nat.le_of_ble_eq_true rfl), (Nat.le_of_ble_eq_true rfl)⟩) hS hA hD (fun r_41 I_37 J_38 S_39 L_40 H locs hP hD hS h => ?_)
          refine lv_aload_n hx hb dX7_told_92 rfl (lv_at hl 1 rfl) ?_
          refine va_get (D := (dC, dI)) (ci := 7) (v := .ref (a 14)) (C := RX7) (T := TX7) (N := 7) hx hb hts nX7_told_X7 hown hK hP 0 (wO_atO _ _ _ _ _ _ _ _) rfl 2 (by decide) (hts (.fieldLink RX7 26 "SongOffice" "reports" "LSongOffice$ReportBook;") kX7_told_1) (fun _ h9 => h9) rfl dX7_told_93 ?_
          refine lv_iload_n hx hb dX7_told_96 rfl (lv_at hl 2 rfl) ?_
          refine lv_iload_n hx hb dX7_told_97 rfl (lv_at hl 3 rfl) ?_
          refine gcalli (va_runV (As := [.int p0, .int p1]) (rest := [.int r_41]) ⟨hx, hb, hml, hown, hts⟩ (c_X4_isOpen_O l dC dI a cy n0 n1 H.size I_37 J_38 S_39 L_40 p0 p1 _ h) (cwV 2 hts gX7_told_X4_isOpen rfl rfl rfl (by decide +kernel) ⟨(Nat.le_of_ble_eq_true rfl), (Nat.le_of_ble_eq_true rfl)⟩) (g_pV hP hK hD hN (va_recv hK hP (ci := 4) (q0 := 15) rfl (wO_at14 _ _ _ _ _ _ _ _)) [.int p0, .int p1]) rfl rfl hl.1 rfl (lv_room (Nat.le_of_ble_eq_true rfl)) dX7_told_98 ⟨(Nat.le_of_ble_eq_true rfl), (Nat.le_of_ble_eq_true rfl)⟩) hS hA hD (fun r_46 I_42 J_43 S_44 L_45 H locs hP hD hS h => ?_)
          obtain ⟨B_47, hB_47, h⟩ := h
          have jB_47 : ∀ (I_48 : TI) (J_49 : TJ) (S_50 : TS) (L_51 : TL) (s_52 : Int32) (s_53 : Int32) (H : Heap) (locs : List Loc) (ls : Array Slot), va_P (dC, dI) vwCl (wO a cy n0 n1 I_48 J_49 S_50 L_51) H → va_D A (wO a cy n0 n1 I_48 J_49 S_50 L_51) → va_S A s.heap H locs → lv_has ls 5 [] → B_47 I_48 J_49 S_50 L_51 s_52 s_53 → W p l e (headSpec wsX7_told rmX7_told).room s m args below meth c H locs 0 0 (MQ below (gQi dC dI (wO a cy n0 n1) (tyL cy) A Φ) args s 0 0 A) (F0 m 109 ls [.int s_53, .int s_52]) := by
            intro I_48 J_49 S_50 L_51 s_52 s_53 H locs ls hP hD hS hl h
            have h := hB_47 I_48 J_49 S_50 L_51 s_52 s_53 h
            refine lv_iadd hx hb dX7_told_109 ?_
            exact gri hx hb hr hlocks hP hK hD hS h dX7_told_110
          refine lv_if_eq (tgt := 108) hx hb dX7_told_101 (by decide) (fun hc => ?_) (fun hc => ?_)
          · have h := h.1 hc
            refine lv_iconst (v := 0) hx hb dX7_told_108 (by decide) ?_
            exact jB_47 I_42 J_43 S_44 L_45 r_41 (0 : Int32) _ _ _ hP hD hS (lv_sub hl [] rfl) h
          · have h := h.2 hc
            refine lv_iconst (v := 4) hx hb dX7_told_104 (by decide) ?_
            refine lv_goto (tgt := 109) hx hb dX7_told_105 (by decide) ?_
            exact jB_47 I_42 J_43 S_44 L_45 r_41 (4 : Int32) _ _ _ hP hD hS (lv_sub hl [] rfl) h
        by_cases hc4 : p2 = nI 4
        · have h := h.2.2.2.2.1 hc4
          refine lv_tableIn (off := 73) (tgt := 111) hx hb dX7_told_38 (by rw [hc4]; decide) (by rw [hc4]; decide) (by rw [hc4]; decide) (by decide) ?_
          refine lv_aload_n hx hb dX7_told_111 rfl (lv_at hl 1 rfl) ?_
          refine va_get (D := (dC, dI)) (ci := 7) (v := .ref (a 14)) (C := RX7) (T := TX7) (N := 7) hx hb hts nX7_told_X7 hown hK hP 0 (wO_atO _ _ _ _ _ _ _ _) rfl 2 (by decide) (hts (.fieldLink RX7 26 "SongOffice" "reports" "LSongOffice$ReportBook;") kX7_told_1) (fun _ h9 => h9) rfl dX7_told_112 ?_
          refine lv_iload_n hx hb dX7_told_115 rfl (lv_at hl 2 rfl) ?_
          refine lv_iload_n hx hb dX7_told_116 rfl (lv_at hl 3 rfl) ?_
          refine gcalli (va_runV (As := [.int p0, .int p1]) (rest := []) ⟨hx, hb, hml, hown, hts⟩ (c_X4_placeOf_O l dC dI a cy n0 n1 H.size I_17 J_18 S_19 L_20 p0 p1 _ h) (cwV 2 hts gX7_told_X4_placeOf rfl rfl rfl (by decide +kernel) ⟨(Nat.le_of_ble_eq_true rfl), (Nat.le_of_ble_eq_true rfl)⟩) (g_pV hP hK hD hN (va_recv hK hP (ci := 4) (q0 := 15) rfl (wO_at14 _ _ _ _ _ _ _ _)) [.int p0, .int p1]) rfl rfl hl.1 rfl (lv_room (Nat.le_of_ble_eq_true rfl)) dX7_told_117 ⟨(Nat.le_of_ble_eq_true rfl), (Nat.le_of_ble_eq_true rfl)⟩) hS hA hD (fun r_58 I_54 J_55 S_56 L_57 H locs hP hD hS h => ?_)
          exact gri hx hb hr hlocks hP hK hD hS h dX7_told_120
        have hno : ∀ k, k < 5 → ¬ p2 = nI k := fun k hk => by rcases (show k = 0 ∨ k = 1 ∨ k = 2 ∨ k = 3 ∨ k = 4 by omega) with rfl | rfl | rfl | rfl | rfl <;> assumption
        have h := h.2.2.2.2.2 hno
        refine lv_tableOut (tgt := 121) hx hb dX7_told_38 (sw_out 5 (by decide) hno) (by decide) ?_
        refine lv_iconst (v := -1) hx hb dX7_told_121 (by decide) ?_
        exact gri hx hb hr hlocks hP hK hD hS h dX7_told_122
      · have h := h.2 hc
        exact jB_12 I_17 J_18 S_19 L_20 _ _ _ hP hD hS (lv_sub hl [] rfl) h
  obtain ⟨B_59, hB_59, h⟩ := h
  have jB_59 : ∀ (I_60 : TI) (J_61 : TJ) (S_62 : TS) (L_63 : TL) (H : Heap) (locs : List Loc) (ls : Array Slot), va_P (dC, dI) vwCl (wO a cy n0 n1 I_60 J_61 S_62 L_63) H → va_D A (wO a cy n0 n1 I_60 J_61 S_62 L_63) → va_S A s.heap H locs → lv_has ls 5 [(0, .ref (a 53)), (1, .int p0), (2, .int p1), (3, .int p2)] → B_59 I_60 J_61 S_62 L_63 → W p l e (headSpec wsX7_told rmX7_told).room s m args below meth c H locs 0 0 (MQ below (gQi dC dI (wO a cy n0 n1) (tyL cy) A Φ) args s 0 0 A) (F0 m 16 ls []) := by
    intro I_60 J_61 S_62 L_63 H locs ls hP hD hS hl h
    have h := hB_59 I_60 J_61 S_62 L_63 h
    refine lv_iconst (v := 1) hx hb dX7_told_16 (by decide) ?_
    refine lv_goto (tgt := 21) hx hb dX7_told_17 (by decide) ?_
    exact jB_6 I_60 J_61 S_62 L_63 (1 : Int32) _ _ _ hP hD hS (lv_sub hl [0, 1, 2, 3] rfl) h
  refine lv_if_ne (tgt := 16) hx hb dX7_told_5 (by decide) (fun hc => ?_) (fun hc => ?_)
  · have h := h.1 hc
    exact jB_59 I_1 J_2 S_3 L_4 _ _ _ hP hD hS (lv_sub hl [0, 1, 2, 3] rfl) h
  · have h := h.2 hc
    refine lv_aload_n hx hb dX7_told_8 rfl (lv_at hl 0 rfl) ?_
    refine lv_iload_n hx hb dX7_told_9 rfl (lv_at hl 1 rfl) ?_
    refine gcalli (va_runV (As := [.int p0]) (rest := []) ⟨hx, hb, hml, hown, hts⟩ (c_X7_isTheTerm l dC dI a cy n0 n1 H.size I_1 J_2 S_3 L_4 p0 _ h) (cwV 1 hts gX7_told_X7_isTheTerm rfl rfl rfl (by decide +kernel) ⟨(Nat.le_of_ble_eq_true rfl), (Nat.le_of_ble_eq_true rfl)⟩) (g_pV hP hK hD hN (va_recv hK hP (ci := 7) (q0 := 0) rfl (wO_atO _ _ _ _ _ _ _ _)) [.int p0]) rfl rfl hl.1 rfl (lv_room (Nat.le_of_ble_eq_true rfl)) dX7_told_10 ⟨(Nat.le_of_ble_eq_true rfl), (Nat.le_of_ble_eq_true rfl)⟩) hS hA hD (fun r_68 I_64 J_65 S_66 L_67 H locs hP hD hS h => ?_)
    refine lv_if_eq (tgt := 20) hx hb dX7_told_13 (by decide) (fun hc => ?_) (fun hc => ?_)
    · have h := h.1 hc
      refine lv_iconst (v := 0) hx hb dX7_told_20 (by decide) ?_
      exact jB_6 I_64 J_65 S_66 L_67 (0 : Int32) _ _ _ hP hD hS (lv_sub hl [0, 1, 2, 3] rfl) h
    · have h := h.2 hc
      exact jB_59 I_64 J_65 S_66 L_67 _ _ _ hP hD hS (lv_sub hl [0, 1, 2, 3] rfl) h
def wp_X7_mend (n0 n1 : Nat) (I : TI) (J : TJ) (S : TS) (L : TL) (p0 : Int32) (p1 : Int32) (p2 : Int32) (p3 : Int32) (p4 : Int32) (p5 : Int32) (Φ : Int32 → TI → TJ → TS → TL → Prop) : Prop := wp_X7_isClosed n0 n1 I J S L p0 (fun (r_5 : Int32) (I_1 : TI) (J_2 : TJ) (S_3 : TS) (L_4 : TL) => (∃ B_6 : TI → TJ → TS → TL → Prop, (∀ (I_7 : TI) (J_8 : TJ) (S_9 : TS) (L_10 : TL), B_6 I_7 J_8 S_9 L_10 → (Φ (0 : Int32) I_7 J_8 S_9 L_10)) ∧ (((r_5 = 0) → (B_6 I_1 J_2 S_3 L_4)) ∧ ((¬ r_5 = 0) → (wp_X7_reportFits n0 n1 I_1 J_2 S_3 L_4 p1 p2 p3 p4 p5 (fun (r_15 : Int32) (I_11 : TI) (J_12 : TJ) (S_13 : TS) (L_14 : TL) => (((¬ r_15 = 0) → (wp_X4_put_O n0 n1 I_11 J_12 S_13 L_14 p0 p1 p2 p3 p4 p5 (fun (I_16 : TI) (J_17 : TJ) (S_18 : TS) (L_19 : TL) => (wp_X4_bringBack_O n0 n1 I_16 J_17 S_18 L_19 p0 p1 (fun (I_20 : TI) (J_21 : TJ) (S_22 : TS) (L_23 : TL) => (∃ B_24 : TI → TJ → TS → TL → Prop, (∀ (I_25 : TI) (J_26 : TJ) (S_27 : TS) (L_28 : TL), B_24 I_25 J_26 S_27 L_28 → (Φ (1 : Int32) I_25 J_26 S_27 L_28)) ∧ ((((S_22 7) ≤ p0) → (B_24 I_20 J_21 S_22 L_23)) ∧ ((¬ (S_22 7) ≤ p0) → (wp_X2_clear_Op n0 n1 I_20 J_21 S_22 L_23 (fun (I_29 : TI) (J_30 : TJ) (S_31 : TS) (L_32 : TL) => (B_24 I_29 J_30 S_31 L_32))))))))))) ∧ ((r_15 = 0) → (B_6 I_11 J_12 S_13 L_14)))))))))
theorem nX7_mend_X7 : ∀ w ∈ wsX70, w ∈ wsX7_mend := fun _ h => List.mem_cons_of_mem _ (List.mem_append_left _ (List.mem_append_left _ (List.mem_append_left _ (List.mem_append_right _ h))))
theorem kX7_mend_2 : Cond.fieldLink RX7 51 "SongOffice" "anew" "LSongOffice$Ledger;" ∈ wsX7_mend := List.mem_of_getElem? (i := 2) rfl
theorem nX7_mend_X2 : ∀ w ∈ wsX20, w ∈ wsX7_mend := fun _ h => List.mem_cons_of_mem _ (List.mem_append_left _ (List.mem_append_left _ (List.mem_append_right _ h)))
theorem kX7_mend_3 : Cond.fieldLink RX7 105 "SongOffice$Ledger" "closed" "I" ∈ wsX7_mend := List.mem_of_getElem? (i := 3) rfl
theorem kX7_mend_1 : Cond.fieldLink RX7 26 "SongOffice" "reports" "LSongOffice$ReportBook;" ∈ wsX7_mend := List.mem_of_getElem? (i := 1) rfl
abbrev rmX7_mend : Room := { frames := 2, cells := 0, slots := 0, locals := 45 }
set_option maxHeartbeats 4000000 in
set_option maxRecDepth 100000 in
theorem c_X7_mend (l : Launch) (dC : Nat → ClassId) (dI : Nat → Nat → Nat) (a : Nat → Nat) (cy : Nat → ClassId) (n0 n1 : Nat) (sz : Nat) (I : TI) (J : TJ) (S : TS) (L : TL) (p0 : Int32) (p1 : Int32) (p2 : Int32) (p3 : Int32) (p4 : Int32) (p5 : Int32) (Φ : Int32 → TI → TJ → TS → TL → Prop) (h : wp_X7_mend n0 n1 I J S L p0 p1 p2 p3 p4 p5 Φ) : Met l yX7_mend wsX7_mend rmX7_mend (va_Pc [.ref (a 53), .int p0, .int p1, .int p2, .int p3, .int p4, .int p5] (gpre dC dI (wO a cy n0 n1 I J S L) (tyL cy) sz)) (gQi dC dI (wO a cy n0 n1) (tyL cy) (va_A (wO a cy n0 n1 I J S L) sz) Φ) 0 0 (va_A (wO a cy n0 n1 I J S L) sz) := by
  refine Met.ofW (cc := cX7_mend) (maxL := 7) (ret := (some .boolean)) (by decide) rfl ?_
  intro p e s m args below meth c s₁ B hml hv
  obtain ⟨hargs, hsz, hP, hK, hD0, hN⟩ := hv
  have hx := B.exec
  have hb := B.bytes
  have hr := B.returns
  have hts := atoms_spec (ws := wsX7_mend) B.pre
  have hown : s.vm.findClass RX7 = some m.cls := findClass_of_methodNamed B.named
  have hlocks := B.notSynchronized
  subst hsz
  have hD := hD0.self (sz := s.heap.size)
  generalize hAe : va_A (wO a cy n0 n1 I J S L) s.heap.size = A at hD ⊢
  have hA : ∀ q : Nat, s.heap.size ≤ q → A q := fun q h => by rw [← hAe]; exact Or.inr h
  obtain ⟨H, hH⟩ : ∃ z : Heap, z = s.heap := ⟨_, rfl⟩
  rw [← hH] at hP
  have hS : va_S A s.heap H [] := by rw [hH]; exact va_S.rf
  have hl := lv_entry ([.ref (a 53), .int p0, .int p1, .int p2, .int p3, .int p4, .int p5]) (n := 7) (Nat.le_of_ble_eq_true rfl)
  have hE : entryFrame m args 7 = F0 m 0 ((lg_sl ([.ref (a 53), .int p0, .int p1, .int p2, .int p3, .int p4, .int p5]) ++ List.replicate (7 - (lg_sl ([.ref (a 53), .int p0, .int p1, .int p2, .int p3, .int p4, .int p5])).length) Slot.unset).toArray) [] := by rw [hargs]; exact lg_entry_eq m _ _
  rw [hE, ← hH]
  clear hE
  generalize (lg_sl ([.ref (a 53), .int p0, .int p1, .int p2, .int p3, .int p4, .int p5]) ++ List.replicate (7 - (lg_sl ([.ref (a 53), .int p0, .int p1, .int p2, .int p3, .int p4, .int p5])).length) Slot.unset).toArray = ls at hl ⊢
  have hl : lv_has ls 7 [(0, .ref (a 53)), (1, .int p0), (2, .int p1), (3, .int p2), (4, .int p3), (5, .int p4), (6, .int p5)] := hl
  unfold wp_X7_mend at h
  refine lv_aload_n hx hb dX7_mend_0 rfl (lv_at hl 0 rfl) ?_
  refine lv_iload_n hx hb dX7_mend_1 rfl (lv_at hl 1 rfl) ?_
  refine gcalli (va_runV (As := [.int p0]) (rest := []) ⟨hx, hb, hml, hown, hts⟩ (c_X7_isClosed l dC dI a cy n0 n1 H.size I J S L p0 _ h) (cwV 1 hts gX7_mend_X7_isClosed rfl rfl rfl (by decide +kernel) ⟨(Nat.le_of_ble_eq_true rfl), (Nat.le_of_ble_eq_true rfl)⟩) (g_pV hP hK hD hN (va_recv hK hP (ci := 7) (q0 := 0) rfl (wO_atO _ _ _ _ _ _ _ _)) [.int p0]) rfl rfl hl.1 rfl (lv_room (Nat.le_of_ble_eq_true rfl)) dX7_mend_2 ⟨(Nat.le_of_ble_eq_true rfl), (Nat.le_of_ble_eq_true rfl)⟩) hS hA hD (fun r_5 I_1 J_2 S_3 L_4 H locs hP hD hS h => ?_)
  obtain ⟨B_6, hB_6, h⟩ := h
  have jB_6 : ∀ (I_7 : TI) (J_8 : TJ) (S_9 : TS) (L_10 : TL) (H : Heap) (locs : List Loc) (ls : Array Slot), va_P (dC, dI) vwCl (wO a cy n0 n1 I_7 J_8 S_9 L_10) H → va_D A (wO a cy n0 n1 I_7 J_8 S_9 L_10) → va_S A s.heap H locs → lv_has ls 7 [] → B_6 I_7 J_8 S_9 L_10 → W p l e (headSpec wsX7_mend rmX7_mend).room s m args below meth c H locs 0 0 (MQ below (gQi dC dI (wO a cy n0 n1) (tyL cy) A Φ) args s 0 0 A) (F0 m 23 ls []) := by
    intro I_7 J_8 S_9 L_10 H locs ls hP hD hS hl h
    have h := hB_6 I_7 J_8 S_9 L_10 h
    refine lv_iconst (v := 0) hx hb dX7_mend_23 (by decide) ?_
    exact grz hx hb hr hlocks hP hK hD hS ⟨Or.inl rfl, h⟩ dX7_mend_24
  refine lv_if_eq (tgt := 23) hx hb dX7_mend_5 (by decide) (fun hc => ?_) (fun hc => ?_)
  · have h := h.1 hc
    exact jB_6 I_1 J_2 S_3 L_4 _ _ _ hP hD hS (lv_sub hl [] rfl) h
  · have h := h.2 hc
    refine lv_aload_n hx hb dX7_mend_8 rfl (lv_at hl 0 rfl) ?_
    refine lv_iload_n hx hb dX7_mend_9 rfl (lv_at hl 2 rfl) ?_
    refine lv_iload_n hx hb dX7_mend_10 rfl (lv_at hl 3 rfl) ?_
    refine lv_iload hx hb dX7_mend_11 (lv_at hl 4 rfl) ?_
    refine lv_iload hx hb dX7_mend_13 (lv_at hl 5 rfl) ?_
    refine lv_iload hx hb dX7_mend_15 (lv_at hl 6 rfl) ?_
    refine gcalli (va_runV (As := [.int p1, .int p2, .int p3, .int p4, .int p5]) (rest := []) ⟨hx, hb, hml, hown, hts⟩ (c_X7_reportFits l dC dI a cy n0 n1 H.size I_1 J_2 S_3 L_4 p1 p2 p3 p4 p5 _ h) (cwV 5 hts gX7_mend_X7_reportFits rfl rfl rfl (by decide +kernel) ⟨(Nat.le_of_ble_eq_true rfl), (Nat.le_of_ble_eq_true rfl)⟩) (g_pV hP hK hD hN (va_recv hK hP (ci := 7) (q0 := 0) rfl (wO_atO _ _ _ _ _ _ _ _)) [.int p1, .int p2, .int p3, .int p4, .int p5]) rfl rfl hl.1 rfl (lv_room (Nat.le_of_ble_eq_true rfl)) dX7_mend_17 ⟨(Nat.le_of_ble_eq_true rfl), (Nat.le_of_ble_eq_true rfl)⟩) hS hA hD (fun r_15 I_11 J_12 S_13 L_14 H locs hP hD hS h => ?_)
    refine lv_if_ne (tgt := 25) hx hb dX7_mend_20 (by decide) (fun hc => ?_) (fun hc => ?_)
    · have h := h.1 hc
      refine lv_aload_n hx hb dX7_mend_25 rfl (lv_at hl 0 rfl) ?_
      refine va_get (D := (dC, dI)) (ci := 7) (v := .ref (a 14)) (C := RX7) (T := TX7) (N := 7) hx hb hts nX7_mend_X7 hown hK hP 0 (wO_atO _ _ _ _ _ _ _ _) rfl 2 (by decide) (hts (.fieldLink RX7 26 "SongOffice" "reports" "LSongOffice$ReportBook;") kX7_mend_1) (fun _ h9 => h9) rfl dX7_mend_26 ?_
      refine lv_iload_n hx hb dX7_mend_29 rfl (lv_at hl 1 rfl) ?_
      refine lv_iload_n hx hb dX7_mend_30 rfl (lv_at hl 2 rfl) ?_
      refine lv_iload_n hx hb dX7_mend_31 rfl (lv_at hl 3 rfl) ?_
      refine lv_iload hx hb dX7_mend_32 (lv_at hl 4 rfl) ?_
      refine lv_iload hx hb dX7_mend_34 (lv_at hl 5 rfl) ?_
      refine lv_iload hx hb dX7_mend_36 (lv_at hl 6 rfl) ?_
      refine gcallv (va_runV (As := [.int p0, .int p1, .int p2, .int p3, .int p4, .int p5]) (rest := []) ⟨hx, hb, hml, hown, hts⟩ (c_X4_put_O l dC dI a cy n0 n1 H.size I_11 J_12 S_13 L_14 p0 p1 p2 p3 p4 p5 _ h) (cwV 6 hts gX7_mend_X4_put rfl rfl rfl (by decide +kernel) ⟨(Nat.le_of_ble_eq_true rfl), (Nat.le_of_ble_eq_true rfl)⟩) (g_pV hP hK hD hN (va_recv hK hP (ci := 4) (q0 := 15) rfl (wO_at14 _ _ _ _ _ _ _ _)) [.int p0, .int p1, .int p2, .int p3, .int p4, .int p5]) rfl rfl hl.1 rfl (lv_room (Nat.le_of_ble_eq_true rfl)) dX7_mend_38 ⟨(Nat.le_of_ble_eq_true rfl), (Nat.le_of_ble_eq_true rfl)⟩) hS hA hD (fun I_16 J_17 S_18 L_19 H locs hP hD hS h => ?_)
      refine lv_aload_n hx hb dX7_mend_41 rfl (lv_at hl 0 rfl) ?_
      refine va_get (D := (dC, dI)) (ci := 7) (v := .ref (a 14)) (C := RX7) (T := TX7) (N := 7) hx hb hts nX7_mend_X7 hown hK hP 0 (wO_atO _ _ _ _ _ _ _ _) rfl 2 (by decide) (hts (.fieldLink RX7 26 "SongOffice" "reports" "LSongOffice$ReportBook;") kX7_mend_1) (fun _ h9 => h9) rfl dX7_mend_42 ?_
      refine lv_iload_n hx hb dX7_mend_45 rfl (lv_at hl 1 rfl) ?_
      refine lv_iload_n hx hb dX7_mend_46 rfl (lv_at hl 2 rfl) ?_
      refine gcallv (va_runV (As := [.int p0, .int p1]) (rest := []) ⟨hx, hb, hml, hown, hts⟩ (c_X4_bringBack_O l dC dI a cy n0 n1 H.size I_16 J_17 S_18 L_19 p0 p1 _ h) (cwV 2 hts gX7_mend_X4_bringBack rfl rfl rfl (by decide +kernel) ⟨(Nat.le_of_ble_eq_true rfl), (Nat.le_of_ble_eq_true rfl)⟩) (g_pV hP hK hD hN (va_recv hK hP (ci := 4) (q0 := 15) rfl (wO_at14 _ _ _ _ _ _ _ _)) [.int p0, .int p1]) rfl rfl hl.1 rfl (lv_room (Nat.le_of_ble_eq_true rfl)) dX7_mend_47 ⟨(Nat.le_of_ble_eq_true rfl), (Nat.le_of_ble_eq_true rfl)⟩) hS hA hD (fun I_20 J_21 S_22 L_23 H locs hP hD hS h => ?_)
      refine lv_iload_n hx hb dX7_mend_50 rfl (lv_at hl 1 rfl) ?_
      refine lv_aload_n hx hb dX7_mend_51 rfl (lv_at hl 0 rfl) ?_
      refine va_get (D := (dC, dI)) (ci := 7) (v := .ref (a 39)) (C := RX7) (T := TX7) (N := 7) hx hb hts nX7_mend_X7 hown hK hP 0 (wO_atO _ _ _ _ _ _ _ _) rfl 5 (by decide) (hts (.fieldLink RX7 51 "SongOffice" "anew" "LSongOffice$Ledger;") kX7_mend_2) (fun _ h9 => h9) rfl dX7_mend_52 ?_
      refine va_get (D := (dC, dI)) (ci := 2) (v := .int (S_22 7)) (C := RX2) (T := TX2) (N := 16) hx hb hts nX7_mend_X2 hown hK hP 40 (wO_at39 _ _ _ _ _ _ _ _) rfl 10 (by decide) (hts (.fieldLink RX7 105 "SongOffice$Ledger" "closed" "I") kX7_mend_3) (fun _ h9 => h9) rfl dX7_mend_55 ?_
      obtain ⟨B_24, hB_24, h⟩ := h
      have jB_24 : ∀ (I_25 : TI) (J_26 : TJ) (S_27 : TS) (L_28 : TL) (H : Heap) (locs : List Loc) (ls : Array Slot), va_P (dC, dI) vwCl (wO a cy n0 n1 I_25 J_26 S_27 L_28) H → va_D A (wO a cy n0 n1 I_25 J_26 S_27 L_28) → va_S A s.heap H locs → lv_has ls 7 [] → B_24 I_25 J_26 S_27 L_28 → W p l e (headSpec wsX7_mend rmX7_mend).room s m args below meth c H locs 0 0 (MQ below (gQi dC dI (wO a cy n0 n1) (tyL cy) A Φ) args s 0 0 A) (F0 m 68 ls []) := by
        intro I_25 J_26 S_27 L_28 H locs ls hP hD hS hl h
        have h := hB_24 I_25 J_26 S_27 L_28 h
        refine lv_iconst (v := 1) hx hb dX7_mend_68 (by decide) ?_
        exact grz hx hb hr hlocks hP hK hD hS ⟨Or.inr rfl, h⟩ dX7_mend_69
      refine lv_icmp_ge (tgt := 68) hx hb dX7_mend_58 (by decide) (fun hc => ?_) (fun hc => ?_)
      · have h := h.1 hc
        exact jB_24 I_20 J_21 S_22 L_23 _ _ _ hP hD hS (lv_sub hl [] rfl) h
      · have h := h.2 hc
        refine lv_aload_n hx hb dX7_mend_61 rfl (lv_at hl 0 rfl) ?_
        refine va_get (D := (dC, dI)) (ci := 7) (v := .ref (a 39)) (C := RX7) (T := TX7) (N := 7) hx hb hts nX7_mend_X7 hown hK hP 0 (wO_atO _ _ _ _ _ _ _ _) rfl 5 (by decide) (hts (.fieldLink RX7 51 "SongOffice" "anew" "LSongOffice$Ledger;") kX7_mend_2) (fun _ h9 => h9) rfl dX7_mend_62 ?_
        refine gcallv (va_runV (As := []) (rest := []) ⟨hx, hb, hml, hown, hts⟩ (c_X2_clear_Op l dC dI a cy n0 n1 H.size I_20 J_21 S_22 L_23 _ h) (cwV 0 hts gX7_mend_X2_clear rfl rfl rfl (by decide +kernel) ⟨(Nat.le_of_ble_eq_true rfl), (Nat.le_of_ble_eq_true rfl)⟩) (g_pV hP hK hD hN (va_recv hK hP (ci := 2) (q0 := 40) rfl (wO_at39 _ _ _ _ _ _ _ _)) []) rfl rfl hl.1 rfl (lv_room (Nat.le_of_ble_eq_true rfl)) dX7_mend_65 ⟨(Nat.le_of_ble_eq_true rfl), (Nat.le_of_ble_eq_true rfl)⟩) hS hA hD (fun I_29 J_30 S_31 L_32 H locs hP hD hS h => ?_)
        exact jB_24 I_29 J_30 S_31 L_32 _ _ _ hP hD hS (lv_sub hl [] rfl) h
    · have h := h.2 hc
      exact jB_6 I_11 J_12 S_13 L_14 _ _ _ hP hD hS (lv_sub hl [] rfl) h
def wp_X7_owe (n0 n1 : Nat) (I : TI) (J : TJ) (S : TS) (L : TL) (Φ : Int64 → TI → TJ → TS → TL → Prop) : Prop := wp_X2_reckonTo_Op n0 n1 I J S L (S 3) (fun (I_1 : TI) (J_2 : TJ) (S_3 : TS) (L_4 : TL) => (∃ V_5 : Nat → TI → TJ → TS → TL → Int64 → Int32 → Prop, (∃ n_7, V_5 n_7 I_1 J_2 S_3 L_4 (0 : Int64) (0 : Int32)) ∧ ∀ (n_6 : Nat) (I_8 : TI) (J_9 : TJ) (S_10 : TS) (L_11 : TL) (y_12 : Int64) (x_13 : Int32), V_5 n_6 I_8 J_9 S_10 L_11 y_12 x_13 → ((((12 : Int32) ≤ x_13) → (Φ y_12 I_8 J_9 S_10 L_11)) ∧ ((¬ (12 : Int32) ≤ x_13) → (wp_X7_owedTo n0 n1 I_8 J_9 S_10 L_11 x_13 (fun (r_18 : Int64) (I_14 : TI) (J_15 : TJ) (S_16 : TS) (L_17 : TL) => (∀ y_19 : Int64, y_19 = (y_12 + r_18) → (∀ x_20 : Int32, x_20 = x_13 + 1 → (∃ n_21, n_21 < n_6 ∧ V_5 n_21 I_14 J_15 S_16 L_17 y_19 x_20)))))))))
theorem nX7_owe_X2 : ∀ w ∈ wsX20, w ∈ wsX7_owe := fun _ h => List.mem_cons_of_mem _ (List.mem_append_left _ (List.mem_append_left _ (List.mem_append_left _ (List.mem_append_left _ (List.mem_append_left _ (List.mem_append_right _ h))))))
theorem kX7_owe_3 : Cond.fieldLink RX7 105 "SongOffice$Ledger" "closed" "I" ∈ wsX7_owe := List.mem_of_getElem? (i := 3) rfl
theorem nX7_owe_X7 : ∀ w ∈ wsX70, w ∈ wsX7_owe := fun _ h => List.mem_cons_of_mem _ (List.mem_append_left _ (List.mem_append_left _ (List.mem_append_left _ (List.mem_append_left _ (List.mem_append_left _ (List.mem_append_left _ (List.mem_append_right _ h)))))))
theorem kX7_owe_2 : Cond.fieldLink RX7 47 "SongOffice" "standing" "LSongOffice$Ledger;" ∈ wsX7_owe := List.mem_of_getElem? (i := 2) rfl
theorem kX7_owe_1 : Cond.fieldLink RX7 51 "SongOffice" "anew" "LSongOffice$Ledger;" ∈ wsX7_owe := List.mem_of_getElem? (i := 1) rfl
abbrev rmX7_owe : Room := { frames := 8, cells := 0, slots := 0, locals := 243 }
set_option maxHeartbeats 4000000 in
set_option maxRecDepth 100000 in
theorem c_X7_owe (l : Launch) (dC : Nat → ClassId) (dI : Nat → Nat → Nat) (a : Nat → Nat) (cy : Nat → ClassId) (n0 n1 : Nat) (sz : Nat) (I : TI) (J : TJ) (S : TS) (L : TL) (Φ : Int64 → TI → TJ → TS → TL → Prop) (h : wp_X7_owe n0 n1 I J S L Φ) : Met l yX7_owe wsX7_owe rmX7_owe (va_Pc [.ref (a 53)] (gpre dC dI (wO a cy n0 n1 I J S L) (tyL cy) sz)) (gQl dC dI (wO a cy n0 n1) (tyL cy) (va_A (wO a cy n0 n1 I J S L) sz) Φ) 0 0 (va_A (wO a cy n0 n1 I J S L) sz) := by
  refine Met.ofW (cc := cX7_owe) (maxL := 4) (ret := (some .long)) (by decide) rfl ?_
  intro p e s m args below meth c s₁ B hml hv
  obtain ⟨hargs, hsz, hP, hK, hD0, hN⟩ := hv
  have hx := B.exec
  have hb := B.bytes
  have hr := B.returns
  have hts := atoms_spec (ws := wsX7_owe) B.pre
  have hown : s.vm.findClass RX7 = some m.cls := findClass_of_methodNamed B.named
  have hlocks := B.notSynchronized
  subst hsz
  have hD := hD0.self (sz := s.heap.size)
  generalize hAe : va_A (wO a cy n0 n1 I J S L) s.heap.size = A at hD ⊢
  have hA : ∀ q : Nat, s.heap.size ≤ q → A q := fun q h => by rw [← hAe]; exact Or.inr h
  obtain ⟨H, hH⟩ : ∃ z : Heap, z = s.heap := ⟨_, rfl⟩
  rw [← hH] at hP
  have hS : va_S A s.heap H [] := by rw [hH]; exact va_S.rf
  have hl := lv_entry ([.ref (a 53)]) (n := 4) (Nat.le_of_ble_eq_true rfl)
  have hE : entryFrame m args 4 = F0 m 0 ((lg_sl ([.ref (a 53)]) ++ List.replicate (4 - (lg_sl ([.ref (a 53)])).length) Slot.unset).toArray) [] := by rw [hargs]; exact lg_entry_eq m _ _
  rw [hE, ← hH]
  clear hE
  generalize (lg_sl ([.ref (a 53)]) ++ List.replicate (4 - (lg_sl ([.ref (a 53)])).length) Slot.unset).toArray = ls at hl ⊢
  have hl : lv_has ls 4 [(0, .ref (a 53))] := hl
  unfold wp_X7_owe at h
  refine lv_aload_n hx hb dX7_owe_0 rfl (lv_at hl 0 rfl) ?_
  refine va_get (D := (dC, dI)) (ci := 7) (v := .ref (a 39)) (C := RX7) (T := TX7) (N := 7) hx hb hts nX7_owe_X7 hown hK hP 0 (wO_atO _ _ _ _ _ _ _ _) rfl 5 (by decide) (hts (.fieldLink RX7 51 "SongOffice" "anew" "LSongOffice$Ledger;") kX7_owe_1) (fun _ h9 => h9) rfl dX7_owe_1 ?_
  refine lv_aload_n hx hb dX7_owe_4 rfl (lv_at hl 0 rfl) ?_
  refine va_get (D := (dC, dI)) (ci := 7) (v := .ref (a 25)) (C := RX7) (T := TX7) (N := 7) hx hb hts nX7_owe_X7 hown hK hP 0 (wO_atO _ _ _ _ _ _ _ _) rfl 4 (by decide) (hts (.fieldLink RX7 47 "SongOffice" "standing" "LSongOffice$Ledger;") kX7_owe_2) (fun _ h9 => h9) rfl dX7_owe_5 ?_
  refine va_get (D := (dC, dI)) (ci := 2) (v := .int (S 3)) (C := RX2) (T := TX2) (N := 16) hx hb hts nX7_owe_X2 hown hK hP 26 (wO_at25 _ _ _ _ _ _ _ _) rfl 10 (by decide) (hts (.fieldLink RX7 105 "SongOffice$Ledger" "closed" "I") kX7_owe_3) (fun _ h9 => h9) rfl dX7_owe_8 ?_
  refine gcallv (va_runV (As := [.int (S 3)]) (rest := []) ⟨hx, hb, hml, hown, hts⟩ (c_X2_reckonTo_Op l dC dI a cy n0 n1 H.size I J S L (S 3) _ h) (cwV 1 hts gX7_owe_X2_reckonTo rfl rfl rfl (by decide +kernel) ⟨(Nat.le_of_ble_eq_true rfl), (Nat.le_of_ble_eq_true rfl)⟩) (g_pV hP hK hD hN (va_recv hK hP (ci := 2) (q0 := 40) rfl (wO_at39 _ _ _ _ _ _ _ _)) [.int (S 3)]) rfl rfl hl.1 rfl (lv_room (Nat.le_of_ble_eq_true rfl)) dX7_owe_11 ⟨(Nat.le_of_ble_eq_true rfl), (Nat.le_of_ble_eq_true rfl)⟩) hS hA hD (fun I_1 J_2 S_3 L_4 H locs hP hD hS h => ?_)
  refine lv_lconst (v := 0) hx hb dX7_owe_14 (by decide) ?_
  refine lv_lstore_n (lv' := [(1, .long (0 : Int64)), (0, .ref (a 53))]) hx hb dX7_owe_15 rfl hl (by decide) rfl (fun ls hl => ?_)
  refine lv_iconst (v := 0) hx hb dX7_owe_16 (by decide) ?_
  refine lv_istore_n (lv' := [(3, .int (0 : Int32)), (1, .long (0 : Int64)), (0, .ref (a 53))]) hx hb dX7_owe_17 rfl hl (by decide) rfl (fun ls hl => ?_)
  obtain ⟨V_5, ⟨n_7, h0V_5⟩, hV_5⟩ := h
  have lV_5 : ∀ (n_6 : Nat) (I_8 : TI) (J_9 : TJ) (S_10 : TS) (L_11 : TL) (y_12 : Int64) (x_13 : Int32) (H : Heap) (locs : List Loc) (ls : Array Slot), va_P (dC, dI) vwCl (wO a cy n0 n1 I_8 J_9 S_10 L_11) H → va_D A (wO a cy n0 n1 I_8 J_9 S_10 L_11) → va_S A s.heap H locs → lv_has ls 4 [(0, .ref (a 53)), (1, .long y_12), (3, .int x_13)] → V_5 n_6 I_8 J_9 S_10 L_11 y_12 x_13 → W p l e (headSpec wsX7_owe rmX7_owe).room s m args below meth c H locs 0 0 (MQ below (gQl dC dI (wO a cy n0 n1) (tyL cy) A Φ) args s 0 0 A) (F0 m 18 ls []) := by
    intro n_6
    induction n_6 using Nat.strongRecOn with
    | ind n_6 ihV_5 =>
        intro I_8 J_9 S_10 L_11 y_12 x_13 H locs ls hP hD hS hl h
        have h := hV_5 n_6 I_8 J_9 S_10 L_11 y_12 x_13 h
        refine lv_iload_n hx hb dX7_owe_18 rfl (lv_at hl 2 rfl) ?_
        refine lv_bipush (v := 12) hx hb dX7_owe_19 (by decide) ?_
        refine lv_icmp_ge (tgt := 38) hx hb dX7_owe_21 (by decide) (fun hc => ?_) (fun hc => ?_)
        · have h := h.1 hc
          refine lv_lload_n hx hb dX7_owe_38 rfl (lv_at hl 1 rfl) ?_
          exact grl hx hb hr hlocks hP hK hD hS h dX7_owe_39
        · have h := h.2 hc
          refine lv_lload_n hx hb dX7_owe_24 rfl (lv_at hl 1 rfl) ?_
          refine lv_aload_n hx hb dX7_owe_25 rfl (lv_at hl 0 rfl) ?_
          refine lv_iload_n hx hb dX7_owe_26 rfl (lv_at hl 2 rfl) ?_
          refine gcalll (va_runV (As := [.int x_13]) (rest := [.long y_12]) ⟨hx, hb, hml, hown, hts⟩ (c_X7_owedTo l dC dI a cy n0 n1 H.size I_8 J_9 S_10 L_11 x_13 _ h) (cwV 1 hts gX7_owe_X7_owedTo rfl rfl rfl (by decide +kernel) ⟨(Nat.le_of_ble_eq_true rfl), (Nat.le_of_ble_eq_true rfl)⟩) (g_pV hP hK hD hN (va_recv hK hP (ci := 7) (q0 := 0) rfl (wO_atO _ _ _ _ _ _ _ _)) [.int x_13]) rfl rfl hl.1 rfl (lv_room (Nat.le_of_ble_eq_true rfl)) dX7_owe_27 ⟨(Nat.le_of_ble_eq_true rfl), (Nat.le_of_ble_eq_true rfl)⟩) hS hA hD (fun r_18 I_14 J_15 S_16 L_17 H locs hP hD hS h => ?_)
          refine lv_ladd hx hb dX7_owe_30 ?_
          refine lv_topl (fun y_19 ey_19 => ?_)
          have h := h y_19 ey_19
          refine lv_lstore_n (lv' := [(1, .long y_19), (0, .ref (a 53)), (3, .int x_13)]) hx hb dX7_owe_31 rfl hl (by decide) rfl (fun ls hl => ?_)
          obtain ⟨x_20, ex_20⟩ : ∃ z : Int32, z = x_13 + 1 := ⟨_, rfl⟩
          have h := h x_20 ex_20
          refine lv_iinc (v := x_20) (lv' := [(3, .int x_20), (1, .long y_19), (0, .ref (a 53))]) hx hb dX7_owe_32 hl (k := 2) rfl (by rw [ex_20]; rfl) (by decide) rfl (fun ls hl => ?_)
          refine lv_goto (tgt := 18) hx hb dX7_owe_35 (by decide) ?_
          obtain ⟨n_21, hn2, h⟩ := h
          exact ihV_5 n_21 hn2 I_14 J_15 S_16 L_17 y_19 x_20 _ _ _ hP hD hS (lv_sub hl [2, 1, 0] rfl) h
  exact lV_5 n_7 I_1 J_2 S_3 L_4 (0 : Int64) (0 : Int32) _ _ _ hP hD hS (lv_sub hl [2, 1, 0] rfl) h0V_5
def wp_X7_settle (n0 n1 : Nat) (I : TI) (J : TJ) (S : TS) (L : TL) (Φ : Int32 → TI → TJ → TS → TL → Prop) : Prop := wp_X2_reckonTo_Op n0 n1 I J S L (S 3) (fun (I_1 : TI) (J_2 : TJ) (S_3 : TS) (L_4 : TL) => (∃ V_5 : Nat → TI → TJ → TS → TL → Int32 → Int32 → Prop, (∃ n_7, V_5 n_7 I_1 J_2 S_3 L_4 (0 : Int32) (0 : Int32)) ∧ ∀ (n_6 : Nat) (I_8 : TI) (J_9 : TJ) (S_10 : TS) (L_11 : TL) (x_12 : Int32) (x_13 : Int32), V_5 n_6 I_8 J_9 S_10 L_11 x_12 x_13 → ((((12 : Int32) ≤ x_13) → (wp_X2_becomeLike_O n0 n1 I_8 J_9 S_10 L_11 (fun (I_14 : TI) (J_15 : TJ) (S_16 : TS) (L_17 : TL) => (∀ S_18 : TS, S_18 = va_up S_16 0 ((S_16 0) + (1 : Int32)) → (Φ x_12 I_14 J_15 S_18 L_17))))) ∧ ((¬ (12 : Int32) ≤ x_13) → (wp_X7_owedTo n0 n1 I_8 J_9 S_10 L_11 x_13 (fun (r_23 : Int64) (I_19 : TI) (J_20 : TJ) (S_21 : TS) (L_22 : TL) => (∃ B_24 : TI → TJ → TS → TL → Int32 → Int32 → Prop, (∀ (I_25 : TI) (J_26 : TJ) (S_27 : TS) (L_28 : TL) (x_29 : Int32) (x_30 : Int32), B_24 I_25 J_26 S_27 L_28 x_29 x_30 → (∀ x_31 : Int32, x_31 = x_30 + 1 → (∃ n_32, n_32 < n_6 ∧ V_5 n_32 I_25 J_26 S_27 L_28 x_29 x_31))) ∧ ((((lg_cmp r_23 (0 : Int64)) = 0) → (B_24 I_19 J_20 S_21 L_22 x_12 x_13)) ∧ ((¬ (lg_cmp r_23 (0 : Int64)) = 0) → (∀ x_33 : Int32, x_33 = x_12 + 1 → (B_24 I_19 J_20 S_21 L_22 x_33 x_13)))))))))))
theorem nX7_settle_X7 : ∀ w ∈ wsX70, w ∈ wsX7_settle := fun _ h => List.mem_cons_of_mem _ (List.mem_append_left _ (List.mem_append_left _ (List.mem_append_left _ (List.mem_append_left _ (List.mem_append_left _ (List.mem_append_left _ (List.mem_append_right _ h)))))))
theorem kX7_settle_4 : Cond.fieldLink RX7 202 "SongOffice" "settled" "I" ∈ wsX7_settle := List.mem_of_getElem? (i := 4) rfl
theorem kX7_settle_1 : Cond.fieldLink RX7 51 "SongOffice" "anew" "LSongOffice$Ledger;" ∈ wsX7_settle := List.mem_of_getElem? (i := 1) rfl
theorem kX7_settle_2 : Cond.fieldLink RX7 47 "SongOffice" "standing" "LSongOffice$Ledger;" ∈ wsX7_settle := List.mem_of_getElem? (i := 2) rfl
theorem nX7_settle_X2 : ∀ w ∈ wsX20, w ∈ wsX7_settle := fun _ h => List.mem_cons_of_mem _ (List.mem_append_left _ (List.mem_append_left _ (List.mem_append_left _ (List.mem_append_left _ (List.mem_append_left _ (List.mem_append_right _ h))))))
theorem kX7_settle_3 : Cond.fieldLink RX7 105 "SongOffice$Ledger" "closed" "I" ∈ wsX7_settle := List.mem_of_getElem? (i := 3) rfl
abbrev rmX7_settle : Room := { frames := 8, cells := 0, slots := 0, locals := 243 }
set_option maxHeartbeats 4000000 in
set_option maxRecDepth 100000 in
theorem c_X7_settle (l : Launch) (dC : Nat → ClassId) (dI : Nat → Nat → Nat) (a : Nat → Nat) (cy : Nat → ClassId) (n0 n1 : Nat) (sz : Nat) (I : TI) (J : TJ) (S : TS) (L : TL) (Φ : Int32 → TI → TJ → TS → TL → Prop) (h : wp_X7_settle n0 n1 I J S L Φ) : Met l yX7_settle wsX7_settle rmX7_settle (va_Pc [.ref (a 53)] (gpre dC dI (wO a cy n0 n1 I J S L) (tyL cy) sz)) (gQi dC dI (wO a cy n0 n1) (tyL cy) (va_A (wO a cy n0 n1 I J S L) sz) Φ) 0 0 (va_A (wO a cy n0 n1 I J S L) sz) := by
  refine Met.ofW (cc := cX7_settle) (maxL := 3) (ret := (some .int)) (by decide) rfl ?_
  intro p e s m args below meth c s₁ B hml hv
  obtain ⟨hargs, hsz, hP, hK, hD0, hN⟩ := hv
  have hx := B.exec
  have hb := B.bytes
  have hr := B.returns
  have hts := atoms_spec (ws := wsX7_settle) B.pre
  have hown : s.vm.findClass RX7 = some m.cls := findClass_of_methodNamed B.named
  have hlocks := B.notSynchronized
  subst hsz
  have hD := hD0.self (sz := s.heap.size)
  generalize hAe : va_A (wO a cy n0 n1 I J S L) s.heap.size = A at hD ⊢
  have hA : ∀ q : Nat, s.heap.size ≤ q → A q := fun q h => by rw [← hAe]; exact Or.inr h
  obtain ⟨H, hH⟩ : ∃ z : Heap, z = s.heap := ⟨_, rfl⟩
  rw [← hH] at hP
  have hS : va_S A s.heap H [] := by rw [hH]; exact va_S.rf
  have hl := lv_entry ([.ref (a 53)]) (n := 3) (Nat.le_of_ble_eq_true rfl)
  have hE : entryFrame m args 3 = F0 m 0 ((lg_sl ([.ref (a 53)]) ++ List.replicate (3 - (lg_sl ([.ref (a 53)])).length) Slot.unset).toArray) [] := by rw [hargs]; exact lg_entry_eq m _ _
  rw [hE, ← hH]
  clear hE
  generalize (lg_sl ([.ref (a 53)]) ++ List.replicate (3 - (lg_sl ([.ref (a 53)])).length) Slot.unset).toArray = ls at hl ⊢
  have hl : lv_has ls 3 [(0, .ref (a 53))] := hl
  unfold wp_X7_settle at h
  refine lv_aload_n hx hb dX7_settle_0 rfl (lv_at hl 0 rfl) ?_
  refine va_get (D := (dC, dI)) (ci := 7) (v := .ref (a 39)) (C := RX7) (T := TX7) (N := 7) hx hb hts nX7_settle_X7 hown hK hP 0 (wO_atO _ _ _ _ _ _ _ _) rfl 5 (by decide) (hts (.fieldLink RX7 51 "SongOffice" "anew" "LSongOffice$Ledger;") kX7_settle_1) (fun _ h9 => h9) rfl dX7_settle_1 ?_
  refine lv_aload_n hx hb dX7_settle_4 rfl (lv_at hl 0 rfl) ?_
  refine va_get (D := (dC, dI)) (ci := 7) (v := .ref (a 25)) (C := RX7) (T := TX7) (N := 7) hx hb hts nX7_settle_X7 hown hK hP 0 (wO_atO _ _ _ _ _ _ _ _) rfl 4 (by decide) (hts (.fieldLink RX7 47 "SongOffice" "standing" "LSongOffice$Ledger;") kX7_settle_2) (fun _ h9 => h9) rfl dX7_settle_5 ?_
  refine va_get (D := (dC, dI)) (ci := 2) (v := .int (S 3)) (C := RX2) (T := TX2) (N := 16) hx hb hts nX7_settle_X2 hown hK hP 26 (wO_at25 _ _ _ _ _ _ _ _) rfl 10 (by decide) (hts (.fieldLink RX7 105 "SongOffice$Ledger" "closed" "I") kX7_settle_3) (fun _ h9 => h9) rfl dX7_settle_8 ?_
  refine gcallv (va_runV (As := [.int (S 3)]) (rest := []) ⟨hx, hb, hml, hown, hts⟩ (c_X2_reckonTo_Op l dC dI a cy n0 n1 H.size I J S L (S 3) _ h) (cwV 1 hts gX7_settle_X2_reckonTo rfl rfl rfl (by decide +kernel) ⟨(Nat.le_of_ble_eq_true rfl), (Nat.le_of_ble_eq_true rfl)⟩) (g_pV hP hK hD hN (va_recv hK hP (ci := 2) (q0 := 40) rfl (wO_at39 _ _ _ _ _ _ _ _)) [.int (S 3)]) rfl rfl hl.1 rfl (lv_room (Nat.le_of_ble_eq_true rfl)) dX7_settle_11 ⟨(Nat.le_of_ble_eq_true rfl), (Nat.le_of_ble_eq_true rfl)⟩) hS hA hD (fun I_1 J_2 S_3 L_4 H locs hP hD hS h => ?_)
  refine lv_iconst (v := 0) hx hb dX7_settle_14 (by decide) ?_
  refine lv_istore_n (lv' := [(1, .int (0 : Int32)), (0, .ref (a 53))]) hx hb dX7_settle_15 rfl hl (by decide) rfl (fun ls hl => ?_)
  refine lv_iconst (v := 0) hx hb dX7_settle_16 (by decide) ?_
  refine lv_istore_n (lv' := [(2, .int (0 : Int32)), (1, .int (0 : Int32)), (0, .ref (a 53))]) hx hb dX7_settle_17 rfl hl (by decide) rfl (fun ls hl => ?_)
  obtain ⟨V_5, ⟨n_7, h0V_5⟩, hV_5⟩ := h
  have lV_5 : ∀ (n_6 : Nat) (I_8 : TI) (J_9 : TJ) (S_10 : TS) (L_11 : TL) (x_12 : Int32) (x_13 : Int32) (H : Heap) (locs : List Loc) (ls : Array Slot), va_P (dC, dI) vwCl (wO a cy n0 n1 I_8 J_9 S_10 L_11) H → va_D A (wO a cy n0 n1 I_8 J_9 S_10 L_11) → va_S A s.heap H locs → lv_has ls 3 [(0, .ref (a 53)), (1, .int x_12), (2, .int x_13)] → V_5 n_6 I_8 J_9 S_10 L_11 x_12 x_13 → W p l e (headSpec wsX7_settle rmX7_settle).room s m args below meth c H locs 0 0 (MQ below (gQi dC dI (wO a cy n0 n1) (tyL cy) A Φ) args s 0 0 A) (F0 m 18 ls []) := by
    intro n_6
    induction n_6 using Nat.strongRecOn with
    | ind n_6 ihV_5 =>
        intro I_8 J_9 S_10 L_11 x_12 x_13 H locs ls hP hD hS hl h
        have h := hV_5 n_6 I_8 J_9 S_10 L_11 x_12 x_13 h
        refine lv_iload_n hx hb dX7_settle_18 rfl (lv_at hl 2 rfl) ?_
        refine lv_bipush (v := 12) hx hb dX7_settle_19 (by decide) ?_
        refine lv_icmp_ge (tgt := 43) hx hb dX7_settle_21 (by decide) (fun hc => ?_) (fun hc => ?_)
        · have h := h.1 hc
          refine lv_aload_n hx hb dX7_settle_43 rfl (lv_at hl 0 rfl) ?_
          refine va_get (D := (dC, dI)) (ci := 7) (v := .ref (a 25)) (C := RX7) (T := TX7) (N := 7) hx hb hts nX7_settle_X7 hown hK hP 0 (wO_atO _ _ _ _ _ _ _ _) rfl 4 (by decide) (hts (.fieldLink RX7 47 "SongOffice" "standing" "LSongOffice$Ledger;") kX7_settle_2) (fun _ h9 => h9) rfl dX7_settle_44 ?_
          refine lv_aload_n hx hb dX7_settle_47 rfl (lv_at hl 0 rfl) ?_
          refine va_get (D := (dC, dI)) (ci := 7) (v := .ref (a 39)) (C := RX7) (T := TX7) (N := 7) hx hb hts nX7_settle_X7 hown hK hP 0 (wO_atO _ _ _ _ _ _ _ _) rfl 5 (by decide) (hts (.fieldLink RX7 51 "SongOffice" "anew" "LSongOffice$Ledger;") kX7_settle_1) (fun _ h9 => h9) rfl dX7_settle_48 ?_
          refine gcallv (va_runV (As := [.ref (a 39)]) (rest := []) ⟨hx, hb, hml, hown, hts⟩ (c_X2_becomeLike_O l dC dI a cy n0 n1 H.size I_8 J_9 S_10 L_11 _ h) (cwV 1 hts gX7_settle_X2_becomeLike rfl rfl rfl (by decide +kernel) ⟨(Nat.le_of_ble_eq_true rfl), (Nat.le_of_ble_eq_true rfl)⟩) (g_pV hP hK hD hN (va_recv hK hP (ci := 2) (q0 := 26) rfl (wO_at25 _ _ _ _ _ _ _ _)) [.ref (a 39)]) rfl rfl hl.1 rfl (lv_room (Nat.le_of_ble_eq_true rfl)) dX7_settle_51 ⟨(Nat.le_of_ble_eq_true rfl), (Nat.le_of_ble_eq_true rfl)⟩) hS hA hD (fun I_14 J_15 S_16 L_17 H locs hP hD hS h => ?_)
          refine lv_aload_n hx hb dX7_settle_54 rfl (lv_at hl 0 rfl) ?_
          refine lv_dup hx hb dX7_settle_55 rfl ?_
          refine va_get (D := (dC, dI)) (ci := 7) (v := .int (S_16 0)) (C := RX7) (T := TX7) (N := 7) hx hb hts nX7_settle_X7 hown hK hP 0 (wO_atO _ _ _ _ _ _ _ _) rfl 6 (by decide) (hts (.fieldLink RX7 202 "SongOffice" "settled" "I") kX7_settle_4) (fun _ h9 => h9) rfl dX7_settle_56 ?_
          refine lv_iconst (v := 1) hx hb dX7_settle_59 (by decide) ?_
          refine lv_iadd hx hb dX7_settle_60 ?_
          obtain ⟨S_18, eS_18⟩ : ∃ z : TS, z = va_up S_16 0 ((S_16 0) + (1 : Int32)) := ⟨_, rfl⟩
          have h := h S_18 eS_18
          refine va_put (D := (dC, dI)) (ci := 7) (v := .int ((S_16 0) + (1 : Int32))) (ty := .int) (C := RX7) (T := TX7) (N := 7) hx hb hts nX7_settle_X7 tyX7 tyX7_ok nmX7 hown hK hP hD hS 0 (wO_atO _ _ _ _ _ _ _ _) rfl 6 (by decide) (hts (.fieldLink RX7 202 "SongOffice" "settled" "I") kX7_settle_4) (fun _ h9 => h9) rfl (by decide +kernel) rfl rfl (Nat.le_of_ble_eq_true rfl) dX7_settle_61 (fun H locs hP hD hS => ?_)
          have hP : va_P (dC, dI) vwCl (wO a cy n0 n1 I_14 J_15 S_18 L_17) H := by rw [eS_18]; exact setP hP (wO_setS0 _ _ _ _ _ _ _ _ _)
          have hD : va_D A (wO a cy n0 n1 I_14 J_15 S_18 L_17) := by rw [eS_18]; exact setD hD (wO_setS0 _ _ _ _ _ _ _ _ _)
          refine lv_iload_n hx hb dX7_settle_64 rfl (lv_at hl 1 rfl) ?_
          exact gri hx hb hr hlocks hP hK hD hS h dX7_settle_65
        · have h := h.2 hc
          refine lv_aload_n hx hb dX7_settle_24 rfl (lv_at hl 0 rfl) ?_
          refine lv_iload_n hx hb dX7_settle_25 rfl (lv_at hl 2 rfl) ?_
          refine gcalll (va_runV (As := [.int x_13]) (rest := []) ⟨hx, hb, hml, hown, hts⟩ (c_X7_owedTo l dC dI a cy n0 n1 H.size I_8 J_9 S_10 L_11 x_13 _ h) (cwV 1 hts gX7_settle_X7_owedTo rfl rfl rfl (by decide +kernel) ⟨(Nat.le_of_ble_eq_true rfl), (Nat.le_of_ble_eq_true rfl)⟩) (g_pV hP hK hD hN (va_recv hK hP (ci := 7) (q0 := 0) rfl (wO_atO _ _ _ _ _ _ _ _)) [.int x_13]) rfl rfl hl.1 rfl (lv_room (Nat.le_of_ble_eq_true rfl)) dX7_settle_26 ⟨(Nat.le_of_ble_eq_true rfl), (Nat.le_of_ble_eq_true rfl)⟩) hS hA hD (fun r_23 I_19 J_20 S_21 L_22 H locs hP hD hS h => ?_)
          refine lv_lconst (v := 0) hx hb dX7_settle_29 (by decide) ?_
          refine W.lcmp hx hb dX7_settle_30 ?_
          obtain ⟨B_24, hB_24, h⟩ := h
          have jB_24 : ∀ (I_25 : TI) (J_26 : TJ) (S_27 : TS) (L_28 : TL) (x_29 : Int32) (x_30 : Int32) (H : Heap) (locs : List Loc) (ls : Array Slot), va_P (dC, dI) vwCl (wO a cy n0 n1 I_25 J_26 S_27 L_28) H → va_D A (wO a cy n0 n1 I_25 J_26 S_27 L_28) → va_S A s.heap H locs → lv_has ls 3 [(0, .ref (a 53)), (1, .int x_29), (2, .int x_30)] → B_24 I_25 J_26 S_27 L_28 x_29 x_30 → W p l e (headSpec wsX7_settle rmX7_settle).room s m args below meth c H locs 0 0 (MQ below (gQi dC dI (wO a cy n0 n1) (tyL cy) A Φ) args s 0 0 A) (F0 m 37 ls []) := by
            intro I_25 J_26 S_27 L_28 x_29 x_30 H locs ls hP hD hS hl h
            have h := hB_24 I_25 J_26 S_27 L_28 x_29 x_30 h
            obtain ⟨x_31, ex_31⟩ : ∃ z : Int32, z = x_30 + 1 := ⟨_, rfl⟩
            have h := h x_31 ex_31
            refine lv_iinc (v := x_31) (lv' := [(2, .int x_31), (0, .ref (a 53)), (1, .int x_29)]) hx hb dX7_settle_37 hl (k := 2) rfl (by rw [ex_31]; rfl) (by decide) rfl (fun ls hl => ?_)
            refine lv_goto (tgt := 18) hx hb dX7_settle_40 (by decide) ?_
            obtain ⟨n_32, hn2, h⟩ := h
            exact ihV_5 n_32 hn2 I_25 J_26 S_27 L_28 x_29 x_31 _ _ _ hP hD hS (lv_sub hl [1, 2, 0] rfl) h
          refine lv_if_eq (tgt := 37) hx hb dX7_settle_31 (by decide) (fun hc => ?_) (fun hc => ?_)
          · have h := h.1 hc
            exact jB_24 I_19 J_20 S_21 L_22 x_12 x_13 _ _ _ hP hD hS (lv_sub hl [0, 1, 2] rfl) h
          · have h := h.2 hc
            obtain ⟨x_33, ex_33⟩ : ∃ z : Int32, z = x_12 + 1 := ⟨_, rfl⟩
            have h := h x_33 ex_33
            refine lv_iinc (v := x_33) (lv' := [(1, .int x_33), (0, .ref (a 53)), (2, .int x_13)]) hx hb dX7_settle_34 hl (k := 1) rfl (by rw [ex_33]; rfl) (by decide) rfl (fun ls hl => ?_)
            exact jB_24 I_19 J_20 S_21 L_22 x_33 x_13 _ _ _ hP hD hS (lv_sub hl [1, 0, 2] rfl) h
  exact lV_5 n_7 I_1 J_2 S_3 L_4 (0 : Int32) (0 : Int32) _ _ _ hP hD hS (lv_sub hl [2, 1, 0] rfl) h0V_5
def wp_X7_line (n0 n1 : Nat) (I : TI) (J : TJ) (S : TS) (L : TL) (p0 : Int32) (p1 : Int32) (Φ : Int64 → TI → TJ → TS → TL → Prop) : Prop := ∃ B_1 : TI → TJ → TS → TL → Prop, (∀ (I_2 : TI) (J_3 : TJ) (S_4 : TS) (L_5 : TL), B_1 I_2 J_3 S_4 L_5 → (Φ (-1 : Int64) I_2 J_3 S_4 L_5)) ∧ (((p0 < 0) → (B_1 I J S L)) ∧ ((¬ p0 < 0) → (wp_X3_kept_O n0 n1 I J S L (fun (r_10 : Int32) (I_6 : TI) (J_7 : TJ) (S_8 : TS) (L_9 : TL) => (((p0 < r_10) → (((p1 = nI 0) → ((vp_in p0 n0) ∧ (Φ (((I_6 34 (p0).toNatClampNeg)).toInt64) I_6 J_7 S_8 L_9))) ∧ ((p1 = nI 1) → ((vp_in p0 n0) ∧ (Φ (((I_6 35 (p0).toNatClampNeg)).toInt64) I_6 J_7 S_8 L_9))) ∧ ((p1 = nI 2) → ((vp_in p0 n0) ∧ (Φ (((I_6 36 (p0).toNatClampNeg)).toInt64) I_6 J_7 S_8 L_9))) ∧ ((p1 = nI 3) → ((vp_in p0 n0) ∧ (Φ (J_7 37 (p0).toNatClampNeg) I_6 J_7 S_8 L_9))) ∧ ((p1 = nI 4) → ((vp_in p0 n0) ∧ (Φ (J_7 38 (p0).toNatClampNeg) I_6 J_7 S_8 L_9))) ∧ ((∀ k, k < 5 → ¬ p1 = nI k) → (Φ (-1 : Int64) I_6 J_7 S_8 L_9)))) ∧ ((¬ p0 < r_10) → (B_1 I_6 J_7 S_8 L_9)))))))
theorem kX7_line_3 : Cond.constantLong RX7 128 (-1) ∈ wsX7_line := List.mem_of_getElem? (i := 3) rfl
theorem nX7_line_X3 : ∀ w ∈ wsX30, w ∈ wsX7_line := fun _ h => List.mem_cons_of_mem _ (List.mem_append_right _ h)
theorem kX7_line_4 : Cond.fieldLink RX7 214 "SongOffice$LineBook" "work" "[I" ∈ wsX7_line := List.mem_of_getElem? (i := 4) rfl
theorem kX7_line_5 : Cond.fieldLink RX7 217 "SongOffice$LineBook" "owner" "[I" ∈ wsX7_line := List.mem_of_getElem? (i := 5) rfl
theorem kX7_line_6 : Cond.fieldLink RX7 220 "SongOffice$LineBook" "from" "[I" ∈ wsX7_line := List.mem_of_getElem? (i := 6) rfl
theorem kX7_line_7 : Cond.fieldLink RX7 223 "SongOffice$LineBook" "began" "[J" ∈ wsX7_line := List.mem_of_getElem? (i := 7) rfl
theorem kX7_line_8 : Cond.fieldLink RX7 226 "SongOffice$LineBook" "ended" "[J" ∈ wsX7_line := List.mem_of_getElem? (i := 8) rfl
theorem nX7_line_X2 : ∀ w ∈ wsX20, w ∈ wsX7_line := fun _ h => List.mem_cons_of_mem _ (List.mem_append_left _ (List.mem_append_right _ h))
theorem kX7_line_2 : Cond.fieldLink RX7 205 "SongOffice$Ledger" "lines" "LSongOffice$LineBook;" ∈ wsX7_line := List.mem_of_getElem? (i := 2) rfl
theorem nX7_line_X7 : ∀ w ∈ wsX70, w ∈ wsX7_line := fun _ h => List.mem_cons_of_mem _ (List.mem_append_left _ (List.mem_append_left _ (List.mem_append_right _ h)))
theorem kX7_line_1 : Cond.fieldLink RX7 47 "SongOffice" "standing" "LSongOffice$Ledger;" ∈ wsX7_line := List.mem_of_getElem? (i := 1) rfl
abbrev rmX7_line : Room := { frames := 2, cells := 0, slots := 0, locals := 60 }
set_option maxHeartbeats 4000000 in
set_option maxRecDepth 100000 in
theorem c_X7_line (l : Launch) (dC : Nat → ClassId) (dI : Nat → Nat → Nat) (a : Nat → Nat) (cy : Nat → ClassId) (n0 n1 : Nat) (sz : Nat) (I : TI) (J : TJ) (S : TS) (L : TL) (p0 : Int32) (p1 : Int32) (Φ : Int64 → TI → TJ → TS → TL → Prop) (h : wp_X7_line n0 n1 I J S L p0 p1 Φ) : Met l yX7_line wsX7_line rmX7_line (va_Pc [.ref (a 53), .int p0, .int p1] (gpre dC dI (wO a cy n0 n1 I J S L) (tyL cy) sz)) (gQl dC dI (wO a cy n0 n1) (tyL cy) (va_A (wO a cy n0 n1 I J S L) sz) Φ) 0 0 (va_A (wO a cy n0 n1 I J S L) sz) := by
  refine Met.ofW (cc := cX7_line) (maxL := 4) (ret := (some .long)) (by decide) rfl ?_
  intro p e s m args below meth c s₁ B hml hv
  obtain ⟨hargs, hsz, hP, hK, hD0, hN⟩ := hv
  have hx := B.exec
  have hb := B.bytes
  have hr := B.returns
  have hts := atoms_spec (ws := wsX7_line) B.pre
  have hown : s.vm.findClass RX7 = some m.cls := findClass_of_methodNamed B.named
  have hlocks := B.notSynchronized
  subst hsz
  have hD := hD0.self (sz := s.heap.size)
  generalize hAe : va_A (wO a cy n0 n1 I J S L) s.heap.size = A at hD ⊢
  have hA : ∀ q : Nat, s.heap.size ≤ q → A q := fun q h => by rw [← hAe]; exact Or.inr h
  obtain ⟨H, hH⟩ : ∃ z : Heap, z = s.heap := ⟨_, rfl⟩
  rw [← hH] at hP
  have hS : va_S A s.heap H [] := by rw [hH]; exact va_S.rf
  have hl := lv_entry ([.ref (a 53), .int p0, .int p1]) (n := 4) (Nat.le_of_ble_eq_true rfl)
  have hE : entryFrame m args 4 = F0 m 0 ((lg_sl ([.ref (a 53), .int p0, .int p1]) ++ List.replicate (4 - (lg_sl ([.ref (a 53), .int p0, .int p1])).length) Slot.unset).toArray) [] := by rw [hargs]; exact lg_entry_eq m _ _
  rw [hE, ← hH]
  clear hE
  generalize (lg_sl ([.ref (a 53), .int p0, .int p1]) ++ List.replicate (4 - (lg_sl ([.ref (a 53), .int p0, .int p1])).length) Slot.unset).toArray = ls at hl ⊢
  have hl : lv_has ls 4 [(0, .ref (a 53)), (1, .int p0), (2, .int p1)] := hl
  unfold wp_X7_line at h
  refine lv_aload_n hx hb dX7_line_0 rfl (lv_at hl 0 rfl) ?_
  refine va_get (D := (dC, dI)) (ci := 7) (v := .ref (a 25)) (C := RX7) (T := TX7) (N := 7) hx hb hts nX7_line_X7 hown hK hP 0 (wO_atO _ _ _ _ _ _ _ _) rfl 4 (by decide) (hts (.fieldLink RX7 47 "SongOffice" "standing" "LSongOffice$Ledger;") kX7_line_1) (fun _ h9 => h9) rfl dX7_line_1 ?_
  refine va_get (D := (dC, dI)) (ci := 2) (v := .ref (a 33)) (C := RX2) (T := TX2) (N := 16) hx hb hts nX7_line_X2 hown hK hP 26 (wO_at25 _ _ _ _ _ _ _ _) rfl 7 (by decide) (hts (.fieldLink RX7 205 "SongOffice$Ledger" "lines" "LSongOffice$LineBook;") kX7_line_2) (fun _ h9 => h9) rfl dX7_line_4 ?_
  refine lv_astore_n (lv' := [(3, .ref (a 33)), (0, .ref (a 53)), (1, .int p0), (2, .int p1)]) hx hb dX7_line_7 rfl hl (by decide) rfl (fun ls hl => ?_)
  refine lv_iload_n hx hb dX7_line_8 rfl (lv_at hl 2 rfl) ?_
  obtain ⟨B_1, hB_1, h⟩ := h
  have jB_1 : ∀ (I_2 : TI) (J_3 : TJ) (S_4 : TS) (L_5 : TL) (H : Heap) (locs : List Loc) (ls : Array Slot), va_P (dC, dI) vwCl (wO a cy n0 n1 I_2 J_3 S_4 L_5) H → va_D A (wO a cy n0 n1 I_2 J_3 S_4 L_5) → va_S A s.heap H locs → lv_has ls 4 [] → B_1 I_2 J_3 S_4 L_5 → W p l e (headSpec wsX7_line rmX7_line).room s m args below meth c H locs 0 0 (MQ below (gQl dC dI (wO a cy n0 n1) (tyL cy) A Φ) args s 0 0 A) (F0 m 20 ls []) := by
    intro I_2 J_3 S_4 L_5 H locs ls hP hD hS hl h
    have h := hB_1 I_2 J_3 S_4 L_5 h
    refine lv_ldc2 (v := -1) hx hb hown (hts (.constantLong RX7 128 (-1)) kX7_line_3) dX7_line_20 ?_
    exact grl hx hb hr hlocks hP hK hD hS h dX7_line_23
  refine lv_if_lt (tgt := 20) hx hb dX7_line_9 (by decide) (fun hc => ?_) (fun hc => ?_)
  · have h := h.1 hc
    exact jB_1 I J S L _ _ _ hP hD hS (lv_sub hl [] rfl) h
  · have h := h.2 hc
    refine lv_iload_n hx hb dX7_line_12 rfl (lv_at hl 2 rfl) ?_
    refine lv_aload_n hx hb dX7_line_13 rfl (lv_at hl 0 rfl) ?_
    refine gcalli (va_runV (As := []) (rest := [.int p0]) ⟨hx, hb, hml, hown, hts⟩ (c_X3_kept_O l dC dI a cy n0 n1 H.size I J S L _ h) (cwV 0 hts gX7_line_X3_kept rfl rfl rfl (by decide +kernel) ⟨(Nat.le_of_ble_eq_true rfl), (Nat.le_of_ble_eq_true rfl)⟩) (g_pV hP hK hD hN (va_recv hK hP (ci := 3) (q0 := 34) rfl (wO_at33 _ _ _ _ _ _ _ _)) []) rfl rfl hl.1 rfl (lv_room (Nat.le_of_ble_eq_true rfl)) dX7_line_14 ⟨(Nat.le_of_ble_eq_true rfl), (Nat.le_of_ble_eq_true rfl)⟩) hS hA hD (fun r_10 I_6 J_7 S_8 L_9 H locs hP hD hS h => ?_)
    refine lv_icmp_lt (tgt := 24) hx hb dX7_line_17 (by decide) (fun hc => ?_) (fun hc => ?_)
    · have h := h.1 hc
      refine lv_iload_n hx hb dX7_line_24 rfl (lv_at hl 3 rfl) ?_
      by_cases hc0 : p1 = nI 0
      · have h := h.1 hc0
        refine lv_tableIn (off := 35) (tgt := 60) hx hb dX7_line_25 (by rw [hc0]; decide) (by rw [hc0]; decide) (by rw [hc0]; decide) (by decide) ?_
        refine lv_aload_n hx hb dX7_line_60 rfl (lv_at hl 0 rfl) ?_
        refine va_get (D := (dC, dI)) (ci := 3) (v := .ref (a 34)) (C := RX3) (T := TX3) (N := 7) hx hb hts nX7_line_X3 hown hK hP 34 (wO_at33 _ _ _ _ _ _ _ _) rfl 1 (by decide) (hts (.fieldLink RX7 214 "SongOffice$LineBook" "work" "[I") kX7_line_4) (fun _ h9 => h9) rfl dX7_line_61 ?_
        refine lv_iload_n hx hb dX7_line_64 rfl (lv_at hl 2 rfl) ?_
        obtain ⟨hi, h⟩ := h
        refine va_iald hx hb hK hP 35 28 (wO_at34 _ _ _ _ _ _ _ _) rfl hi dX7_line_65 ?_
        refine lv_i2l (v := (((I_6 34 (p0).toNatClampNeg)).toInt64)) hx hb dX7_line_66 rfl ?_
        exact grl hx hb hr hlocks hP hK hD hS h dX7_line_67
      by_cases hc1 : p1 = nI 1
      · have h := h.2.1 hc1
        refine lv_tableIn (off := 43) (tgt := 68) hx hb dX7_line_25 (by rw [hc1]; decide) (by rw [hc1]; decide) (by rw [hc1]; decide) (by decide) ?_
        refine lv_aload_n hx hb dX7_line_68 rfl (lv_at hl 0 rfl) ?_
        refine va_get (D := (dC, dI)) (ci := 3) (v := .ref (a 35)) (C := RX3) (T := TX3) (N := 7) hx hb hts nX7_line_X3 hown hK hP 34 (wO_at33 _ _ _ _ _ _ _ _) rfl 2 (by decide) (hts (.fieldLink RX7 217 "SongOffice$LineBook" "owner" "[I") kX7_line_5) (fun _ h9 => h9) rfl dX7_line_69 ?_
        refine lv_iload_n hx hb dX7_line_72 rfl (lv_at hl 2 rfl) ?_
        obtain ⟨hi, h⟩ := h
        refine va_iald hx hb hK hP 36 29 (wO_at35 _ _ _ _ _ _ _ _) rfl hi dX7_line_73 ?_
        refine lv_i2l (v := (((I_6 35 (p0).toNatClampNeg)).toInt64)) hx hb dX7_line_74 rfl ?_
        exact grl hx hb hr hlocks hP hK hD hS h dX7_line_75
      by_cases hc2 : p1 = nI 2
      · have h := h.2.2.1 hc2
        refine lv_tableIn (off := 51) (tgt := 76) hx hb dX7_line_25 (by rw [hc2]; decide) (by rw [hc2]; decide) (by rw [hc2]; decide) (by decide) ?_
        refine lv_aload_n hx hb dX7_line_76 rfl (lv_at hl 0 rfl) ?_
        refine va_get (D := (dC, dI)) (ci := 3) (v := .ref (a 36)) (C := RX3) (T := TX3) (N := 7) hx hb hts nX7_line_X3 hown hK hP 34 (wO_at33 _ _ _ _ _ _ _ _) rfl 3 (by decide) (hts (.fieldLink RX7 220 "SongOffice$LineBook" "from" "[I") kX7_line_6) (fun _ h9 => h9) rfl dX7_line_77 ?_
        refine lv_iload_n hx hb dX7_line_80 rfl (lv_at hl 2 rfl) ?_
        obtain ⟨hi, h⟩ := h
        refine va_iald hx hb hK hP 37 30 (wO_at36 _ _ _ _ _ _ _ _) rfl hi dX7_line_81 ?_
        refine lv_i2l (v := (((I_6 36 (p0).toNatClampNeg)).toInt64)) hx hb dX7_line_82 rfl ?_
        exact grl hx hb hr hlocks hP hK hD hS h dX7_line_83
      by_cases hc3 : p1 = nI 3
      · have h := h.2.2.2.1 hc3
        refine lv_tableIn (off := 59) (tgt := 84) hx hb dX7_line_25 (by rw [hc3]; decide) (by rw [hc3]; decide) (by rw [hc3]; decide) (by decide) ?_
        refine lv_aload_n hx hb dX7_line_84 rfl (lv_at hl 0 rfl) ?_
        refine va_get (D := (dC, dI)) (ci := 3) (v := .ref (a 37)) (C := RX3) (T := TX3) (N := 7) hx hb hts nX7_line_X3 hown hK hP 34 (wO_at33 _ _ _ _ _ _ _ _) rfl 4 (by decide) (hts (.fieldLink RX7 223 "SongOffice$LineBook" "began" "[J") kX7_line_7) (fun _ h9 => h9) rfl dX7_line_85 ?_
        refine lv_iload_n hx hb dX7_line_88 rfl (lv_at hl 2 rfl) ?_
        obtain ⟨hi, h⟩ := h
        refine va_lald hx hb hK hP 38 31 (wO_at37 _ _ _ _ _ _ _ _) rfl hi dX7_line_89 ?_
        exact grl hx hb hr hlocks hP hK hD hS h dX7_line_90
      by_cases hc4 : p1 = nI 4
      · have h := h.2.2.2.2.1 hc4
        refine lv_tableIn (off := 66) (tgt := 91) hx hb dX7_line_25 (by rw [hc4]; decide) (by rw [hc4]; decide) (by rw [hc4]; decide) (by decide) ?_
        refine lv_aload_n hx hb dX7_line_91 rfl (lv_at hl 0 rfl) ?_
        refine va_get (D := (dC, dI)) (ci := 3) (v := .ref (a 38)) (C := RX3) (T := TX3) (N := 7) hx hb hts nX7_line_X3 hown hK hP 34 (wO_at33 _ _ _ _ _ _ _ _) rfl 5 (by decide) (hts (.fieldLink RX7 226 "SongOffice$LineBook" "ended" "[J") kX7_line_8) (fun _ h9 => h9) rfl dX7_line_92 ?_
        refine lv_iload_n hx hb dX7_line_95 rfl (lv_at hl 2 rfl) ?_
        obtain ⟨hi, h⟩ := h
        refine va_lald hx hb hK hP 39 32 (wO_at38 _ _ _ _ _ _ _ _) rfl hi dX7_line_96 ?_
        exact grl hx hb hr hlocks hP hK hD hS h dX7_line_97
      have hno : ∀ k, k < 5 → ¬ p1 = nI k := fun k hk => by rcases (show k = 0 ∨ k = 1 ∨ k = 2 ∨ k = 3 ∨ k = 4 by omega) with rfl | rfl | rfl | rfl | rfl <;> assumption
      have h := h.2.2.2.2.2 hno
      refine lv_tableOut (tgt := 98) hx hb dX7_line_25 (sw_out 5 (by decide) hno) (by decide) ?_
      refine lv_ldc2 (v := -1) hx hb hown (hts (.constantLong RX7 128 (-1)) kX7_line_3) dX7_line_98 ?_
      exact grl hx hb hr hlocks hP hK hD hS h dX7_line_101
    · have h := h.2 hc
      exact jB_1 I_6 J_7 S_8 L_9 _ _ _ hP hD hS (lv_sub hl [] rfl) h
def wp_X7_count (n0 n1 : Nat) (I : TI) (J : TJ) (S : TS) (L : TL) (p0 : Int32) (Φ : Int64 → TI → TJ → TS → TL → Prop) : Prop := ((p0 = nI 0) → (Φ (((S 3)).toInt64) I J S L)) ∧ ((p0 = nI 1) → (Φ (((S 1)).toInt64) I J S L)) ∧ ((p0 = nI 2) → (Φ (((S 5)).toInt64) I J S L)) ∧ ((p0 = nI 3) → (Φ (L 1) I J S L)) ∧ ((p0 = nI 4) → (wp_X2_allFilled_O n0 n1 I J S L (fun (r_5 : Int64) (I_1 : TI) (J_2 : TJ) (S_3 : TS) (L_4 : TL) => (Φ r_5 I_1 J_2 S_3 L_4)))) ∧ ((p0 = nI 5) → (Φ ((L 0) * (1000000 : Int64)) I J S L)) ∧ ((p0 = nI 6) → (∃ B_6 : TI → TJ → TS → TL → Int64 → Prop, (∀ (I_7 : TI) (J_8 : TJ) (S_9 : TS) (L_10 : TL) (s_11 : Int64), B_6 I_7 J_8 S_9 L_10 s_11 → (Φ s_11 I_7 J_8 S_9 L_10)) ∧ ((((40 : Int32) ≤ (S 3)) → (B_6 I J S L (-1 : Int64))) ∧ ((¬ (40 : Int32) ≤ (S 3)) → (wp_X4_tornAt_O n0 n1 I J S L (S 3) (fun (r_16 : Int32) (I_12 : TI) (J_13 : TJ) (S_14 : TS) (L_15 : TL) => (B_6 I_12 J_13 S_14 L_15 ((r_16).toInt64)))))))) ∧ ((p0 = nI 7) → (Φ (((S 0)).toInt64) I J S L)) ∧ ((∀ k, k < 8 → ¬ p0 = nI k) → (Φ (-1 : Int64) I J S L))
theorem nX7_count_X2 : ∀ w ∈ wsX20, w ∈ wsX7_count := fun _ h => List.mem_cons_of_mem _ (List.mem_append_left _ (List.mem_append_left _ (List.mem_append_left _ (List.mem_append_left _ (List.mem_append_right _ h)))))
theorem kX7_count_2 : Cond.fieldLink RX7 105 "SongOffice$Ledger" "closed" "I" ∈ wsX7_count := List.mem_of_getElem? (i := 2) rfl
theorem nX7_count_X7 : ∀ w ∈ wsX70, w ∈ wsX7_count := fun _ h => List.mem_cons_of_mem _ (List.mem_append_left _ (List.mem_append_left _ (List.mem_append_left _ (List.mem_append_left _ (List.mem_append_left _ (List.mem_append_right _ h))))))
theorem kX7_count_1 : Cond.fieldLink RX7 47 "SongOffice" "standing" "LSongOffice$Ledger;" ∈ wsX7_count := List.mem_of_getElem? (i := 1) rfl
theorem nX7_count_X0 : ∀ w ∈ wsX00, w ∈ wsX7_count := fun _ h => List.mem_cons_of_mem _ (List.mem_append_left _ (List.mem_append_left _ (List.mem_append_left _ (List.mem_append_right _ h))))
theorem kX7_count_4 : Cond.fieldLink RX7 86 "SongOffice$BargainBook" "size" "I" ∈ wsX7_count := List.mem_of_getElem? (i := 4) rfl
theorem kX7_count_3 : Cond.fieldLink RX7 19 "SongOffice" "bargains" "LSongOffice$BargainBook;" ∈ wsX7_count := List.mem_of_getElem? (i := 3) rfl
theorem nX7_count_X3 : ∀ w ∈ wsX30, w ∈ wsX7_count := fun _ h => List.mem_cons_of_mem _ (List.mem_append_left _ (List.mem_append_left _ (List.mem_append_right _ h)))
theorem kX7_count_6 : Cond.fieldLink RX7 229 "SongOffice$LineBook" "size" "I" ∈ wsX7_count := List.mem_of_getElem? (i := 6) rfl
theorem kX7_count_5 : Cond.fieldLink RX7 205 "SongOffice$Ledger" "lines" "LSongOffice$LineBook;" ∈ wsX7_count := List.mem_of_getElem? (i := 5) rfl
theorem kX7_count_7 : Cond.fieldLink RX7 230 "SongOffice$Ledger" "cameIn" "J" ∈ wsX7_count := List.mem_of_getElem? (i := 7) rfl
theorem kX7_count_10 : Cond.constantLong RX7 240 (1000000) ∈ wsX7_count := List.mem_of_getElem? (i := 10) rfl
theorem nX7_count_X5 : ∀ w ∈ wsX50, w ∈ wsX7_count := fun _ h => List.mem_cons_of_mem _ (List.mem_append_left _ (List.mem_append_right _ h))
theorem kX7_count_9 : Cond.fieldLink RX7 237 "SongOffice$SentBook" "coinsInAll" "J" ∈ wsX7_count := List.mem_of_getElem? (i := 9) rfl
theorem kX7_count_8 : Cond.fieldLink RX7 33 "SongOffice" "sentBack" "LSongOffice$SentBook;" ∈ wsX7_count := List.mem_of_getElem? (i := 8) rfl
theorem kX7_count_12 : Cond.constantLong RX7 128 (-1) ∈ wsX7_count := List.mem_of_getElem? (i := 12) rfl
theorem kX7_count_11 : Cond.fieldLink RX7 26 "SongOffice" "reports" "LSongOffice$ReportBook;" ∈ wsX7_count := List.mem_of_getElem? (i := 11) rfl
theorem kX7_count_13 : Cond.fieldLink RX7 202 "SongOffice" "settled" "I" ∈ wsX7_count := List.mem_of_getElem? (i := 13) rfl
abbrev rmX7_count : Room := { frames := 2, cells := 0, slots := 0, locals := 41 }
set_option maxHeartbeats 4000000 in
set_option maxRecDepth 100000 in
theorem c_X7_count (l : Launch) (dC : Nat → ClassId) (dI : Nat → Nat → Nat) (a : Nat → Nat) (cy : Nat → ClassId) (n0 n1 : Nat) (sz : Nat) (I : TI) (J : TJ) (S : TS) (L : TL) (p0 : Int32) (Φ : Int64 → TI → TJ → TS → TL → Prop) (h : wp_X7_count n0 n1 I J S L p0 Φ) : Met l yX7_count wsX7_count rmX7_count (va_Pc [.ref (a 53), .int p0] (gpre dC dI (wO a cy n0 n1 I J S L) (tyL cy) sz)) (gQl dC dI (wO a cy n0 n1) (tyL cy) (va_A (wO a cy n0 n1 I J S L) sz) Φ) 0 0 (va_A (wO a cy n0 n1 I J S L) sz) := by
  refine Met.ofW (cc := cX7_count) (maxL := 2) (ret := (some .long)) (by decide) rfl ?_
  intro p e s m args below meth c s₁ B hml hv
  obtain ⟨hargs, hsz, hP, hK, hD0, hN⟩ := hv
  have hx := B.exec
  have hb := B.bytes
  have hr := B.returns
  have hts := atoms_spec (ws := wsX7_count) B.pre
  have hown : s.vm.findClass RX7 = some m.cls := findClass_of_methodNamed B.named
  have hlocks := B.notSynchronized
  subst hsz
  have hD := hD0.self (sz := s.heap.size)
  generalize hAe : va_A (wO a cy n0 n1 I J S L) s.heap.size = A at hD ⊢
  have hA : ∀ q : Nat, s.heap.size ≤ q → A q := fun q h => by rw [← hAe]; exact Or.inr h
  obtain ⟨H, hH⟩ : ∃ z : Heap, z = s.heap := ⟨_, rfl⟩
  rw [← hH] at hP
  have hS : va_S A s.heap H [] := by rw [hH]; exact va_S.rf
  have hl := lv_entry ([.ref (a 53), .int p0]) (n := 2) (Nat.le_of_ble_eq_true rfl)
  have hE : entryFrame m args 2 = F0 m 0 ((lg_sl ([.ref (a 53), .int p0]) ++ List.replicate (2 - (lg_sl ([.ref (a 53), .int p0])).length) Slot.unset).toArray) [] := by rw [hargs]; exact lg_entry_eq m _ _
  rw [hE, ← hH]
  clear hE
  generalize (lg_sl ([.ref (a 53), .int p0]) ++ List.replicate (2 - (lg_sl ([.ref (a 53), .int p0])).length) Slot.unset).toArray = ls at hl ⊢
  have hl : lv_has ls 2 [(0, .ref (a 53)), (1, .int p0)] := hl
  unfold wp_X7_count at h
  refine lv_iload_n hx hb dX7_count_0 rfl (lv_at hl 1 rfl) ?_
  by_cases hc0 : p0 = nI 0
  · have h := h.1 hc0
    refine lv_tableIn (off := 47) (tgt := 48) hx hb dX7_count_1 (by rw [hc0]; decide) (by rw [hc0]; decide) (by rw [hc0]; decide) (by decide) ?_
    refine lv_aload_n hx hb dX7_count_48 rfl (lv_at hl 0 rfl) ?_
    refine va_get (D := (dC, dI)) (ci := 7) (v := .ref (a 25)) (C := RX7) (T := TX7) (N := 7) hx hb hts nX7_count_X7 hown hK hP 0 (wO_atO _ _ _ _ _ _ _ _) rfl 4 (by decide) (hts (.fieldLink RX7 47 "SongOffice" "standing" "LSongOffice$Ledger;") kX7_count_1) (fun _ h9 => h9) rfl dX7_count_49 ?_
    refine va_get (D := (dC, dI)) (ci := 2) (v := .int (S 3)) (C := RX2) (T := TX2) (N := 16) hx hb hts nX7_count_X2 hown hK hP 26 (wO_at25 _ _ _ _ _ _ _ _) rfl 10 (by decide) (hts (.fieldLink RX7 105 "SongOffice$Ledger" "closed" "I") kX7_count_2) (fun _ h9 => h9) rfl dX7_count_52 ?_
    refine lv_i2l (v := (((S 3)).toInt64)) hx hb dX7_count_55 rfl ?_
    exact grl hx hb hr hlocks hP hK hD hS h dX7_count_56
  by_cases hc1 : p0 = nI 1
  · have h := h.2.1 hc1
    refine lv_tableIn (off := 56) (tgt := 57) hx hb dX7_count_1 (by rw [hc1]; decide) (by rw [hc1]; decide) (by rw [hc1]; decide) (by decide) ?_
    refine lv_aload_n hx hb dX7_count_57 rfl (lv_at hl 0 rfl) ?_
    refine va_get (D := (dC, dI)) (ci := 7) (v := .ref (a 5)) (C := RX7) (T := TX7) (N := 7) hx hb hts nX7_count_X7 hown hK hP 0 (wO_atO _ _ _ _ _ _ _ _) rfl 1 (by decide) (hts (.fieldLink RX7 19 "SongOffice" "bargains" "LSongOffice$BargainBook;") kX7_count_3) (fun _ h9 => h9) rfl dX7_count_58 ?_
    refine va_get (D := (dC, dI)) (ci := 0) (v := .int (S 1)) (C := RX0) (T := TX0) (N := 9) hx hb hts nX7_count_X0 hown hK hP 6 (wO_at5 _ _ _ _ _ _ _ _) rfl 8 (by decide) (hts (.fieldLink RX7 86 "SongOffice$BargainBook" "size" "I") kX7_count_4) (fun _ h9 => h9) rfl dX7_count_61 ?_
    refine lv_i2l (v := (((S 1)).toInt64)) hx hb dX7_count_64 rfl ?_
    exact grl hx hb hr hlocks hP hK hD hS h dX7_count_65
  by_cases hc2 : p0 = nI 2
  · have h := h.2.2.1 hc2
    refine lv_tableIn (off := 65) (tgt := 66) hx hb dX7_count_1 (by rw [hc2]; decide) (by rw [hc2]; decide) (by rw [hc2]; decide) (by decide) ?_
    refine lv_aload_n hx hb dX7_count_66 rfl (lv_at hl 0 rfl) ?_
    refine va_get (D := (dC, dI)) (ci := 7) (v := .ref (a 25)) (C := RX7) (T := TX7) (N := 7) hx hb hts nX7_count_X7 hown hK hP 0 (wO_atO _ _ _ _ _ _ _ _) rfl 4 (by decide) (hts (.fieldLink RX7 47 "SongOffice" "standing" "LSongOffice$Ledger;") kX7_count_1) (fun _ h9 => h9) rfl dX7_count_67 ?_
    refine va_get (D := (dC, dI)) (ci := 2) (v := .ref (a 33)) (C := RX2) (T := TX2) (N := 16) hx hb hts nX7_count_X2 hown hK hP 26 (wO_at25 _ _ _ _ _ _ _ _) rfl 7 (by decide) (hts (.fieldLink RX7 205 "SongOffice$Ledger" "lines" "LSongOffice$LineBook;") kX7_count_5) (fun _ h9 => h9) rfl dX7_count_70 ?_
    refine va_get (D := (dC, dI)) (ci := 3) (v := .int (S 5)) (C := RX3) (T := TX3) (N := 7) hx hb hts nX7_count_X3 hown hK hP 34 (wO_at33 _ _ _ _ _ _ _ _) rfl 6 (by decide) (hts (.fieldLink RX7 229 "SongOffice$LineBook" "size" "I") kX7_count_6) (fun _ h9 => h9) rfl dX7_count_73 ?_
    refine lv_i2l (v := (((S 5)).toInt64)) hx hb dX7_count_76 rfl ?_
    exact grl hx hb hr hlocks hP hK hD hS h dX7_count_77
  by_cases hc3 : p0 = nI 3
  · have h := h.2.2.2.1 hc3
    refine lv_tableIn (off := 77) (tgt := 78) hx hb dX7_count_1 (by rw [hc3]; decide) (by rw [hc3]; decide) (by rw [hc3]; decide) (by decide) ?_
    refine lv_aload_n hx hb dX7_count_78 rfl (lv_at hl 0 rfl) ?_
    refine va_get (D := (dC, dI)) (ci := 7) (v := .ref (a 25)) (C := RX7) (T := TX7) (N := 7) hx hb hts nX7_count_X7 hown hK hP 0 (wO_atO _ _ _ _ _ _ _ _) rfl 4 (by decide) (hts (.fieldLink RX7 47 "SongOffice" "standing" "LSongOffice$Ledger;") kX7_count_1) (fun _ h9 => h9) rfl dX7_count_79 ?_
    refine va_get (D := (dC, dI)) (ci := 2) (v := .long (L 1)) (C := RX2) (T := TX2) (N := 16) hx hb hts nX7_count_X2 hown hK hP 26 (wO_at25 _ _ _ _ _ _ _ _) rfl 8 (by decide) (hts (.fieldLink RX7 230 "SongOffice$Ledger" "cameIn" "J") kX7_count_7) (fun _ h9 => h9) rfl dX7_count_82 ?_
    exact grl hx hb hr hlocks hP hK hD hS h dX7_count_85
  by_cases hc4 : p0 = nI 4
  · have h := h.2.2.2.2.1 hc4
    refine lv_tableIn (off := 85) (tgt := 86) hx hb dX7_count_1 (by rw [hc4]; decide) (by rw [hc4]; decide) (by rw [hc4]; decide) (by decide) ?_
    refine lv_aload_n hx hb dX7_count_86 rfl (lv_at hl 0 rfl) ?_
    refine va_get (D := (dC, dI)) (ci := 7) (v := .ref (a 25)) (C := RX7) (T := TX7) (N := 7) hx hb hts nX7_count_X7 hown hK hP 0 (wO_atO _ _ _ _ _ _ _ _) rfl 4 (by decide) (hts (.fieldLink RX7 47 "SongOffice" "standing" "LSongOffice$Ledger;") kX7_count_1) (fun _ h9 => h9) rfl dX7_count_87 ?_
    refine gcalll (va_runV (As := []) (rest := []) ⟨hx, hb, hml, hown, hts⟩ (c_X2_allFilled_O l dC dI a cy n0 n1 H.size I J S L _ h) (cwV 0 hts gX7_count_X2_allFilled rfl rfl rfl (by decide +kernel) ⟨(Nat.le_of_ble_eq_true rfl), (Nat.le_of_ble_eq_true rfl)⟩) (g_pV hP hK hD hN (va_recv hK hP (ci := 2) (q0 := 26) rfl (wO_at25 _ _ _ _ _ _ _ _)) []) rfl rfl hl.1 rfl (lv_room (Nat.le_of_ble_eq_true rfl)) dX7_count_90 ⟨(Nat.le_of_ble_eq_true rfl), (Nat.le_of_ble_eq_true rfl)⟩) hS hA hD (fun r_5 I_1 J_2 S_3 L_4 H locs hP hD hS h => ?_)
    exact grl hx hb hr hlocks hP hK hD hS h dX7_count_93
  by_cases hc5 : p0 = nI 5
  · have h := h.2.2.2.2.2.1 hc5
    refine lv_tableIn (off := 93) (tgt := 94) hx hb dX7_count_1 (by rw [hc5]; decide) (by rw [hc5]; decide) (by rw [hc5]; decide) (by decide) ?_
    refine lv_aload_n hx hb dX7_count_94 rfl (lv_at hl 0 rfl) ?_
    refine va_get (D := (dC, dI)) (ci := 7) (v := .ref (a 21)) (C := RX7) (T := TX7) (N := 7) hx hb hts nX7_count_X7 hown hK hP 0 (wO_atO _ _ _ _ _ _ _ _) rfl 3 (by decide) (hts (.fieldLink RX7 33 "SongOffice" "sentBack" "LSongOffice$SentBook;") kX7_count_8) (fun _ h9 => h9) rfl dX7_count_95 ?_
    refine va_get (D := (dC, dI)) (ci := 5) (v := .long (L 0)) (C := RX5) (T := TX5) (N := 5) hx hb hts nX7_count_X5 hown hK hP 22 (wO_at21 _ _ _ _ _ _ _ _) rfl 4 (by decide) (hts (.fieldLink RX7 237 "SongOffice$SentBook" "coinsInAll" "J") kX7_count_9) (fun _ h9 => h9) rfl dX7_count_98 ?_
    refine lv_ldc2 (v := 1000000) hx hb hown (hts (.constantLong RX7 240 (1000000)) kX7_count_10) dX7_count_101 ?_
    refine lv_lmul hx hb dX7_count_104 ?_
    exact grl hx hb hr hlocks hP hK hD hS h dX7_count_105
  by_cases hc6 : p0 = nI 6
  · have h := h.2.2.2.2.2.2.1 hc6
    refine lv_tableIn (off := 105) (tgt := 106) hx hb dX7_count_1 (by rw [hc6]; decide) (by rw [hc6]; decide) (by rw [hc6]; decide) (by decide) ?_
    refine lv_aload_n hx hb dX7_count_106 rfl (lv_at hl 0 rfl) ?_
    refine va_get (D := (dC, dI)) (ci := 7) (v := .ref (a 25)) (C := RX7) (T := TX7) (N := 7) hx hb hts nX7_count_X7 hown hK hP 0 (wO_atO _ _ _ _ _ _ _ _) rfl 4 (by decide) (hts (.fieldLink RX7 47 "SongOffice" "standing" "LSongOffice$Ledger;") kX7_count_1) (fun _ h9 => h9) rfl dX7_count_107 ?_
    refine va_get (D := (dC, dI)) (ci := 2) (v := .int (S 3)) (C := RX2) (T := TX2) (N := 16) hx hb hts nX7_count_X2 hown hK hP 26 (wO_at25 _ _ _ _ _ _ _ _) rfl 10 (by decide) (hts (.fieldLink RX7 105 "SongOffice$Ledger" "closed" "I") kX7_count_2) (fun _ h9 => h9) rfl dX7_count_110 ?_
    refine lv_bipush (v := 40) hx hb dX7_count_113 (by decide) ?_
    obtain ⟨B_6, hB_6, h⟩ := h
    have jB_6 : ∀ (I_7 : TI) (J_8 : TJ) (S_9 : TS) (L_10 : TL) (s_11 : Int64) (H : Heap) (locs : List Loc) (ls : Array Slot), va_P (dC, dI) vwCl (wO a cy n0 n1 I_7 J_8 S_9 L_10) H → va_D A (wO a cy n0 n1 I_7 J_8 S_9 L_10) → va_S A s.heap H locs → lv_has ls 2 [] → B_6 I_7 J_8 S_9 L_10 s_11 → W p l e (headSpec wsX7_count rmX7_count).room s m args below meth c H locs 0 0 (MQ below (gQl dC dI (wO a cy n0 n1) (tyL cy) A Φ) args s 0 0 A) (F0 m 139 ls [.long s_11]) := by
      intro I_7 J_8 S_9 L_10 s_11 H locs ls hP hD hS hl h
      have h := hB_6 I_7 J_8 S_9 L_10 s_11 h
      exact grl hx hb hr hlocks hP hK hD hS h dX7_count_139
    refine lv_icmp_ge (tgt := 136) hx hb dX7_count_115 (by decide) (fun hc => ?_) (fun hc => ?_)
    · have h := h.1 hc
      refine lv_ldc2 (v := -1) hx hb hown (hts (.constantLong RX7 128 (-1)) kX7_count_12) dX7_count_136 ?_
      exact jB_6 I J S L (-1 : Int64) _ _ _ hP hD hS (lv_sub hl [] rfl) h
    · have h := h.2 hc
      refine lv_aload_n hx hb dX7_count_118 rfl (lv_at hl 0 rfl) ?_
      refine va_get (D := (dC, dI)) (ci := 7) (v := .ref (a 14)) (C := RX7) (T := TX7) (N := 7) hx hb hts nX7_count_X7 hown hK hP 0 (wO_atO _ _ _ _ _ _ _ _) rfl 2 (by decide) (hts (.fieldLink RX7 26 "SongOffice" "reports" "LSongOffice$ReportBook;") kX7_count_11) (fun _ h9 => h9) rfl dX7_count_119 ?_
      refine lv_aload_n hx hb dX7_count_122 rfl (lv_at hl 0 rfl) ?_
      refine va_get (D := (dC, dI)) (ci := 7) (v := .ref (a 25)) (C := RX7) (T := TX7) (N := 7) hx hb hts nX7_count_X7 hown hK hP 0 (wO_atO _ _ _ _ _ _ _ _) rfl 4 (by decide) (hts (.fieldLink RX7 47 "SongOffice" "standing" "LSongOffice$Ledger;") kX7_count_1) (fun _ h9 => h9) rfl dX7_count_123 ?_
      refine va_get (D := (dC, dI)) (ci := 2) (v := .int (S 3)) (C := RX2) (T := TX2) (N := 16) hx hb hts nX7_count_X2 hown hK hP 26 (wO_at25 _ _ _ _ _ _ _ _) rfl 10 (by decide) (hts (.fieldLink RX7 105 "SongOffice$Ledger" "closed" "I") kX7_count_2) (fun _ h9 => h9) rfl dX7_count_126 ?_
      refine gcalli (va_runV (As := [.int (S 3)]) (rest := []) ⟨hx, hb, hml, hown, hts⟩ (c_X4_tornAt_O l dC dI a cy n0 n1 H.size I J S L (S 3) _ h) (cwV 1 hts gX7_count_X4_tornAt rfl rfl rfl (by decide +kernel) ⟨(Nat.le_of_ble_eq_true rfl), (Nat.le_of_ble_eq_true rfl)⟩) (g_pV hP hK hD hN (va_recv hK hP (ci := 4) (q0 := 15) rfl (wO_at14 _ _ _ _ _ _ _ _)) [.int (S 3)]) rfl rfl hl.1 rfl (lv_room (Nat.le_of_ble_eq_true rfl)) dX7_count_129 ⟨(Nat.le_of_ble_eq_true rfl), (Nat.le_of_ble_eq_true rfl)⟩) hS hA hD (fun r_16 I_12 J_13 S_14 L_15 H locs hP hD hS h => ?_)
      refine lv_i2l (v := ((r_16).toInt64)) hx hb dX7_count_132 rfl ?_
      refine lv_goto (tgt := 139) hx hb dX7_count_133 (by decide) ?_
      exact jB_6 I_12 J_13 S_14 L_15 ((r_16).toInt64) _ _ _ hP hD hS (lv_sub hl [] rfl) h
  by_cases hc7 : p0 = nI 7
  · have h := h.2.2.2.2.2.2.2.1 hc7
    refine lv_tableIn (off := 139) (tgt := 140) hx hb dX7_count_1 (by rw [hc7]; decide) (by rw [hc7]; decide) (by rw [hc7]; decide) (by decide) ?_
    refine lv_aload_n hx hb dX7_count_140 rfl (lv_at hl 0 rfl) ?_
    refine va_get (D := (dC, dI)) (ci := 7) (v := .int (S 0)) (C := RX7) (T := TX7) (N := 7) hx hb hts nX7_count_X7 hown hK hP 0 (wO_atO _ _ _ _ _ _ _ _) rfl 6 (by decide) (hts (.fieldLink RX7 202 "SongOffice" "settled" "I") kX7_count_13) (fun _ h9 => h9) rfl dX7_count_141 ?_
    refine lv_i2l (v := (((S 0)).toInt64)) hx hb dX7_count_144 rfl ?_
    exact grl hx hb hr hlocks hP hK hD hS h dX7_count_145
  have hno : ∀ k, k < 8 → ¬ p0 = nI k := fun k hk => by rcases (show k = 0 ∨ k = 1 ∨ k = 2 ∨ k = 3 ∨ k = 4 ∨ k = 5 ∨ k = 6 ∨ k = 7 by omega) with rfl | rfl | rfl | rfl | rfl | rfl | rfl | rfl <;> assumption
  have h := h.2.2.2.2.2.2.2.2 hno
  refine lv_tableOut (tgt := 146) hx hb dX7_count_1 (sw_out 8 (by decide) hno) (by decide) ?_
  refine lv_ldc2 (v := -1) hx hb hown (hts (.constantLong RX7 128 (-1)) kX7_count_12) dX7_count_146 ?_
  exact grl hx hb hr hlocks hP hK hD hS h dX7_count_149
