def wp_X7_isClosed (n0 n1 : Nat) (I : TI) (J : TJ) (S : TS) (L : TL) (p0 : Int32) (Φ : Int32 → TI → TJ → TS → TL → Prop) : Prop := ∃ B_1 : TI → TJ → TS → TL → Int32 → Prop, (∀ (I_2 : TI) (J_3 : TJ) (S_4 : TS) (L_5 : TL) (s_6 : Int32), B_1 I_2 J_3 S_4 L_5 s_6 → ((s_6 = 0 ∨ s_6 = 1) ∧ Φ s_6 I_2 J_3 S_4 L_5)) ∧ (∃ B_7 : TI → TJ → TS → TL → Prop, (∀ (I_8 : TI) (J_9 : TJ) (S_10 : TS) (L_11 : TL), B_7 I_8 J_9 S_10 L_11 → (B_1 I_8 J_9 S_10 L_11 (0 : Int32))) ∧ (((p0 < 0) → (B_7 I J S L)) ∧ ((¬ p0 < 0) → ((((S 3) ≤ p0) → (B_7 I J S L)) ∧ ((¬ (S 3) ≤ p0) → (B_1 I J S L (1 : Int32)))))))
theorem nX7_isClosed_X2 : ∀ w ∈ wsX20, w ∈ wsX7_isClosed := fun _ h => List.mem_cons_of_mem _ (List.mem_append_right _ h)
theorem kX7_isClosed_2 : Cond.fieldLink RX7 105 "SongOffice$Ledger" "closed" "I" ∈ wsX7_isClosed := List.mem_of_getElem? (i := 2) rfl
theorem nX7_isClosed_X7 : ∀ w ∈ wsX70, w ∈ wsX7_isClosed := fun _ h => List.mem_cons_of_mem _ (List.mem_append_left _ (List.mem_append_right _ h))
theorem kX7_isClosed_1 : Cond.fieldLink RX7 47 "SongOffice" "standing" "LSongOffice$Ledger;" ∈ wsX7_isClosed := List.mem_of_getElem? (i := 1) rfl
abbrev rmX7_isClosed : Room := { frames := 0, cells := 0, slots := 0, locals := 0 }
set_option maxHeartbeats 4000000 in
set_option maxRecDepth 100000 in
theorem c_X7_isClosed (l : Launch) (dC : Nat → ClassId) (dI : Nat → Nat → Nat) (a : Nat → Nat) (cy : Nat → ClassId) (n0 n1 : Nat) (sz : Nat) (I : TI) (J : TJ) (S : TS) (L : TL) (p0 : Int32) (Φ : Int32 → TI → TJ → TS → TL → Prop) (h : wp_X7_isClosed n0 n1 I J S L p0 Φ) : Met l yX7_isClosed wsX7_isClosed rmX7_isClosed (va_Pc [.ref (a 53), .int p0] (gpre dC dI (wO a cy n0 n1 I J S L) (tyL cy) sz)) (gQi dC dI (wO a cy n0 n1) (tyL cy) (va_A (wO a cy n0 n1 I J S L) sz) Φ) 0 0 (va_A (wO a cy n0 n1 I J S L) sz) := by
  refine Met.ofW (cc := cX7_isClosed) (maxL := 2) (ret := (some .boolean)) (by decide) rfl ?_
  intro p e s m args below meth c s₁ B hml hv
  obtain ⟨hargs, hsz, hP, hK, hD0, hN⟩ := hv
  have hx := B.exec
  have hb := B.bytes
  have hr := B.returns
  have hts := atoms_spec (ws := wsX7_isClosed) B.pre
  have hown : s.vm.findClass RX7 = some m.cls := findClass_of_methodNamed B.named
  have hlocks := B.notSynchronized
  subst hsz
  have hD := hD0.self (sz := s.heap.size)
  generalize hAe : va_A (wO a cy n0 n1 I J S L) s.heap.size = A at hD ⊢
  have hA : ∀ q : Nat, s.heap.size ≤ q → A q := fun q h => by rw [← hAe]; exact Or.inr h
  obtain ⟨H, hH⟩ : ∃ z : Heap, z = s.heap := ⟨_, rfl⟩
  rw [← hH] at hP
  have hS : va_S A s.heap H [] := by rw [hH]; exact va_S.rf
  have hl := lv_entry ([.ref (a 53), .int p0]) (n := 2) (Nat.le_of_ble_eq_true rfl)
  have hE : entryFrame m args 2 = F0 m 0 ((lg_sl ([.ref (a 53), .int p0]) ++ List.replicate (2 - (lg_sl ([.ref (a 53), .int p0])).length) Slot.unset).toArray) [] := by rw [hargs]; exact lg_entry_eq m _ _
  rw [hE, ← hH]
  clear hE
  generalize (lg_sl ([.ref (a 53), .int p0]) ++ List.replicate (2 - (lg_sl ([.ref (a 53), .int p0])).length) Slot.unset).toArray = ls at hl ⊢
  have hl : lv_has ls 2 [(0, .ref (a 53)), (1, .int p0)] := hl
  unfold wp_X7_isClosed at h
  refine lv_iload_n hx hb dX7_isClosed_0 rfl (lv_at hl 1 rfl) ?_
  obtain ⟨B_1, hB_1, h⟩ := h
  have jB_1 : ∀ (I_2 : TI) (J_3 : TJ) (S_4 : TS) (L_5 : TL) (s_6 : Int32) (H : Heap) (locs : List Loc) (ls : Array Slot), va_P (dC, dI) vwCl (wO a cy n0 n1 I_2 J_3 S_4 L_5) H → va_D A (wO a cy n0 n1 I_2 J_3 S_4 L_5) → va_S A s.heap H locs → lv_has ls 2 [] → B_1 I_2 J_3 S_4 L_5 s_6 → W p l e (headSpec wsX7_isClosed rmX7_isClosed).room s m args below meth c H locs 0 0 (MQ below (gQi dC dI (wO a cy n0 n1) (tyL cy) A Φ) args s 0 0 A) (F0 m 20 ls [.int s_6]) := by
    intro I_2 J_3 S_4 L_5 s_6 H locs ls hP hD hS hl h
    have h := hB_1 I_2 J_3 S_4 L_5 s_6 h
    exact grz hx hb hr hlocks hP hK hD hS h dX7_isClosed_20
  obtain ⟨B_7, hB_7, h⟩ := h
  have jB_7 : ∀ (I_8 : TI) (J_9 : TJ) (S_10 : TS) (L_11 : TL) (H : Heap) (locs : List Loc) (ls : Array Slot), va_P (dC, dI) vwCl (wO a cy n0 n1 I_8 J_9 S_10 L_11) H → va_D A (wO a cy n0 n1 I_8 J_9 S_10 L_11) → va_S A s.heap H locs → lv_has ls 2 [] → B_7 I_8 J_9 S_10 L_11 → W p l e (headSpec wsX7_isClosed rmX7_isClosed).room s m args below meth c H locs 0 0 (MQ below (gQi dC dI (wO a cy n0 n1) (tyL cy) A Φ) args s 0 0 A) (F0 m 19 ls []) := by
    intro I_8 J_9 S_10 L_11 H locs ls hP hD hS hl h
    have h := hB_7 I_8 J_9 S_10 L_11 h
    refine lv_iconst (v := 0) hx hb dX7_isClosed_19 (by decide) ?_
    exact jB_1 I_8 J_9 S_10 L_11 (0 : Int32) _ _ _ hP hD hS (lv_sub hl [] rfl) h
  refine lv_if_lt (tgt := 19) hx hb dX7_isClosed_1 (by decide) (fun hc => ?_) (fun hc => ?_)
  · have h := h.1 hc
    exact jB_7 I J S L _ _ _ hP hD hS (lv_sub hl [] rfl) h
  · have h := h.2 hc
    refine lv_iload_n hx hb dX7_isClosed_4 rfl (lv_at hl 1 rfl) ?_
    refine lv_aload_n hx hb dX7_isClosed_5 rfl (lv_at hl 0 rfl) ?_
    refine va_get (D := (dC, dI)) (ci := 7) (v := .ref (a 25)) (C := RX7) (T := TX7) (N := 7) hx hb hts nX7_isClosed_X7 hown hK hP 0 (wO_atO _ _ _ _ _ _ _ _) rfl 4 (by decide) (hts (.fieldLink RX7 47 "SongOffice" "standing" "LSongOffice$Ledger;") kX7_isClosed_1) (fun _ h9 => h9) rfl dX7_isClosed_6 ?_
    refine va_get (D := (dC, dI)) (ci := 2) (v := .int (S 3)) (C := RX2) (T := TX2) (N := 16) hx hb hts nX7_isClosed_X2 hown hK hP 26 (wO_at25 _ _ _ _ _ _ _ _) rfl 10 (by decide) (hts (.fieldLink RX7 105 "SongOffice$Ledger" "closed" "I") kX7_isClosed_2) (fun _ h9 => h9) rfl dX7_isClosed_9 ?_
    refine lv_icmp_ge (tgt := 19) hx hb dX7_isClosed_12 (by decide) (fun hc => ?_) (fun hc => ?_)
    · have h := h.1 hc
      exact jB_7 I J S L _ _ _ hP hD hS (lv_sub hl [] rfl) h
    · have h := h.2 hc
      refine lv_iconst (v := 1) hx hb dX7_isClosed_15 (by decide) ?_
      refine lv_goto (tgt := 20) hx hb dX7_isClosed_16 (by decide) ?_
      exact jB_1 I J S L (1 : Int32) _ _ _ hP hD hS (lv_sub hl [] rfl) h
def wp_X7_isTheTerm (n0 n1 : Nat) (I : TI) (J : TJ) (S : TS) (L : TL) (p0 : Int32) (Φ : Int32 → TI → TJ → TS → TL → Prop) : Prop := ∃ B_1 : TI → TJ → TS → TL → Int32 → Prop, (∀ (I_2 : TI) (J_3 : TJ) (S_4 : TS) (L_5 : TL) (s_6 : Int32), B_1 I_2 J_3 S_4 L_5 s_6 → ((s_6 = 0 ∨ s_6 = 1) ∧ Φ s_6 I_2 J_3 S_4 L_5)) ∧ (∃ B_7 : TI → TJ → TS → TL → Prop, (∀ (I_8 : TI) (J_9 : TJ) (S_10 : TS) (L_11 : TL), B_7 I_8 J_9 S_10 L_11 → (B_1 I_8 J_9 S_10 L_11 (0 : Int32))) ∧ (((¬ p0 = (S 3)) → (B_7 I J S L)) ∧ ((p0 = (S 3)) → ((((40 : Int32) ≤ p0) → (B_7 I J S L)) ∧ ((¬ (40 : Int32) ≤ p0) → (B_1 I J S L (1 : Int32)))))))
theorem nX7_isTheTerm_X2 : ∀ w ∈ wsX20, w ∈ wsX7_isTheTerm := fun _ h => List.mem_cons_of_mem _ (List.mem_append_right _ h)
theorem kX7_isTheTerm_2 : Cond.fieldLink RX7 105 "SongOffice$Ledger" "closed" "I" ∈ wsX7_isTheTerm := List.mem_of_getElem? (i := 2) rfl
theorem nX7_isTheTerm_X7 : ∀ w ∈ wsX70, w ∈ wsX7_isTheTerm := fun _ h => List.mem_cons_of_mem _ (List.mem_append_left _ (List.mem_append_right _ h))
theorem kX7_isTheTerm_1 : Cond.fieldLink RX7 47 "SongOffice" "standing" "LSongOffice$Ledger;" ∈ wsX7_isTheTerm := List.mem_of_getElem? (i := 1) rfl
abbrev rmX7_isTheTerm : Room := { frames := 0, cells := 0, slots := 0, locals := 0 }
set_option maxHeartbeats 4000000 in
set_option maxRecDepth 100000 in
theorem c_X7_isTheTerm (l : Launch) (dC : Nat → ClassId) (dI : Nat → Nat → Nat) (a : Nat → Nat) (cy : Nat → ClassId) (n0 n1 : Nat) (sz : Nat) (I : TI) (J : TJ) (S : TS) (L : TL) (p0 : Int32) (Φ : Int32 → TI → TJ → TS → TL → Prop) (h : wp_X7_isTheTerm n0 n1 I J S L p0 Φ) : Met l yX7_isTheTerm wsX7_isTheTerm rmX7_isTheTerm (va_Pc [.ref (a 53), .int p0] (gpre dC dI (wO a cy n0 n1 I J S L) (tyL cy) sz)) (gQi dC dI (wO a cy n0 n1) (tyL cy) (va_A (wO a cy n0 n1 I J S L) sz) Φ) 0 0 (va_A (wO a cy n0 n1 I J S L) sz) := by
  refine Met.ofW (cc := cX7_isTheTerm) (maxL := 2) (ret := (some .boolean)) (by decide) rfl ?_
  intro p e s m args below meth c s₁ B hml hv
  obtain ⟨hargs, hsz, hP, hK, hD0, hN⟩ := hv
  have hx := B.exec
  have hb := B.bytes
  have hr := B.returns
  have hts := atoms_spec (ws := wsX7_isTheTerm) B.pre
  have hown : s.vm.findClass RX7 = some m.cls := findClass_of_methodNamed B.named
  have hlocks := B.notSynchronized
  subst hsz
  have hD := hD0.self (sz := s.heap.size)
  generalize hAe : va_A (wO a cy n0 n1 I J S L) s.heap.size = A at hD ⊢
  have hA : ∀ q : Nat, s.heap.size ≤ q → A q := fun q h => by rw [← hAe]; exact Or.inr h
  obtain ⟨H, hH⟩ : ∃ z : Heap, z = s.heap := ⟨_, rfl⟩
  rw [← hH] at hP
  have hS : va_S A s.heap H [] := by rw [hH]; exact va_S.rf
  have hl := lv_entry ([.ref (a 53), .int p0]) (n := 2) (Nat.le_of_ble_eq_true rfl)
  have hE : entryFrame m args 2 = F0 m 0 ((lg_sl ([.ref (a 53), .int p0]) ++ List.replicate (2 - (lg_sl ([.ref (a 53), .int p0])).length) Slot.unset).toArray) [] := by rw [hargs]; exact lg_entry_eq m _ _
  rw [hE, ← hH]
  clear hE
  generalize (lg_sl ([.ref (a 53), .int p0]) ++ List.replicate (2 - (lg_sl ([.ref (a 53), .int p0])).length) Slot.unset).toArray = ls at hl ⊢
  have hl : lv_has ls 2 [(0, .ref (a 53)), (1, .int p0)] := hl
  unfold wp_X7_isTheTerm at h
  refine lv_iload_n hx hb dX7_isTheTerm_0 rfl (lv_at hl 1 rfl) ?_
  refine lv_aload_n hx hb dX7_isTheTerm_1 rfl (lv_at hl 0 rfl) ?_
  refine va_get (D := (dC, dI)) (ci := 7) (v := .ref (a 25)) (C := RX7) (T := TX7) (N := 7) hx hb hts nX7_isTheTerm_X7 hown hK hP 0 (wO_atO _ _ _ _ _ _ _ _) rfl 4 (by decide) (hts (.fieldLink RX7 47 "SongOffice" "standing" "LSongOffice$Ledger;") kX7_isTheTerm_1) (fun _ h9 => h9) rfl dX7_isTheTerm_2 ?_
  refine va_get (D := (dC, dI)) (ci := 2) (v := .int (S 3)) (C := RX2) (T := TX2) (N := 16) hx hb hts nX7_isTheTerm_X2 hown hK hP 26 (wO_at25 _ _ _ _ _ _ _ _) rfl 10 (by decide) (hts (.fieldLink RX7 105 "SongOffice$Ledger" "closed" "I") kX7_isTheTerm_2) (fun _ h9 => h9) rfl dX7_isTheTerm_5 ?_
  obtain ⟨B_1, hB_1, h⟩ := h
  have jB_1 : ∀ (I_2 : TI) (J_3 : TJ) (S_4 : TS) (L_5 : TL) (s_6 : Int32) (H : Heap) (locs : List Loc) (ls : Array Slot), va_P (dC, dI) vwCl (wO a cy n0 n1 I_2 J_3 S_4 L_5) H → va_D A (wO a cy n0 n1 I_2 J_3 S_4 L_5) → va_S A s.heap H locs → lv_has ls 2 [] → B_1 I_2 J_3 S_4 L_5 s_6 → W p l e (headSpec wsX7_isTheTerm rmX7_isTheTerm).room s m args below meth c H locs 0 0 (MQ below (gQi dC dI (wO a cy n0 n1) (tyL cy) A Φ) args s 0 0 A) (F0 m 22 ls [.int s_6]) := by
    intro I_2 J_3 S_4 L_5 s_6 H locs ls hP hD hS hl h
    have h := hB_1 I_2 J_3 S_4 L_5 s_6 h
    exact grz hx hb hr hlocks hP hK hD hS h dX7_isTheTerm_22
  obtain ⟨B_7, hB_7, h⟩ := h
  have jB_7 : ∀ (I_8 : TI) (J_9 : TJ) (S_10 : TS) (L_11 : TL) (H : Heap) (locs : List Loc) (ls : Array Slot), va_P (dC, dI) vwCl (wO a cy n0 n1 I_8 J_9 S_10 L_11) H → va_D A (wO a cy n0 n1 I_8 J_9 S_10 L_11) → va_S A s.heap H locs → lv_has ls 2 [] → B_7 I_8 J_9 S_10 L_11 → W p l e (headSpec wsX7_isTheTerm rmX7_isTheTerm).room s m args below meth c H locs 0 0 (MQ below (gQi dC dI (wO a cy n0 n1) (tyL cy) A Φ) args s 0 0 A) (F0 m 21 ls []) := by
    intro I_8 J_9 S_10 L_11 H locs ls hP hD hS hl h
    have h := hB_7 I_8 J_9 S_10 L_11 h
    refine lv_iconst (v := 0) hx hb dX7_isTheTerm_21 (by decide) ?_
    exact jB_1 I_8 J_9 S_10 L_11 (0 : Int32) _ _ _ hP hD hS (lv_sub hl [] rfl) h
  refine lv_icmp_ne (tgt := 21) hx hb dX7_isTheTerm_8 (by decide) (fun hc => ?_) (fun hc => ?_)
  · have h := h.1 hc
    exact jB_7 I J S L _ _ _ hP hD hS (lv_sub hl [] rfl) h
  · have h := h.2 hc
    refine lv_iload_n hx hb dX7_isTheTerm_11 rfl (lv_at hl 1 rfl) ?_
    refine lv_bipush (v := 40) hx hb dX7_isTheTerm_12 (by decide) ?_
    refine lv_icmp_ge (tgt := 21) hx hb dX7_isTheTerm_14 (by decide) (fun hc => ?_) (fun hc => ?_)
    · have h := h.1 hc
      exact jB_7 I J S L _ _ _ hP hD hS (lv_sub hl [] rfl) h
    · have h := h.2 hc
      refine lv_iconst (v := 1) hx hb dX7_isTheTerm_17 (by decide) ?_
      refine lv_goto (tgt := 22) hx hb dX7_isTheTerm_18 (by decide) ?_
      exact jB_1 I J S L (1 : Int32) _ _ _ hP hD hS (lv_sub hl [] rfl) h
def wp_X7_isDayAhead (n0 n1 : Nat) (I : TI) (J : TJ) (S : TS) (L : TL) (p0 : Int32) (Φ : Int32 → TI → TJ → TS → TL → Prop) : Prop := ∃ B_1 : TI → TJ → TS → TL → Int32 → Prop, (∀ (I_2 : TI) (J_3 : TJ) (S_4 : TS) (L_5 : TL) (s_6 : Int32), B_1 I_2 J_3 S_4 L_5 s_6 → ((s_6 = 0 ∨ s_6 = 1) ∧ Φ s_6 I_2 J_3 S_4 L_5)) ∧ (∃ B_7 : TI → TJ → TS → TL → Prop, (∀ (I_8 : TI) (J_9 : TJ) (S_10 : TS) (L_11 : TL), B_7 I_8 J_9 S_10 L_11 → (B_1 I_8 J_9 S_10 L_11 (0 : Int32))) ∧ (((p0 < ((S 3) * (90 : Int32))) → (B_7 I J S L)) ∧ ((¬ p0 < ((S 3) * (90 : Int32))) → ((((3599 : Int32) < p0) → (B_7 I J S L)) ∧ ((¬ (3599 : Int32) < p0) → (B_1 I J S L (1 : Int32)))))))
theorem nX7_isDayAhead_X2 : ∀ w ∈ wsX20, w ∈ wsX7_isDayAhead := fun _ h => List.mem_cons_of_mem _ (List.mem_append_right _ h)
theorem kX7_isDayAhead_2 : Cond.fieldLink RX7 105 "SongOffice$Ledger" "closed" "I" ∈ wsX7_isDayAhead := List.mem_of_getElem? (i := 2) rfl
theorem nX7_isDayAhead_X7 : ∀ w ∈ wsX70, w ∈ wsX7_isDayAhead := fun _ h => List.mem_cons_of_mem _ (List.mem_append_left _ (List.mem_append_right _ h))
theorem kX7_isDayAhead_1 : Cond.fieldLink RX7 47 "SongOffice" "standing" "LSongOffice$Ledger;" ∈ wsX7_isDayAhead := List.mem_of_getElem? (i := 1) rfl
abbrev rmX7_isDayAhead : Room := { frames := 0, cells := 0, slots := 0, locals := 0 }
set_option maxHeartbeats 4000000 in
set_option maxRecDepth 100000 in
theorem c_X7_isDayAhead (l : Launch) (dC : Nat → ClassId) (dI : Nat → Nat → Nat) (a : Nat → Nat) (cy : Nat → ClassId) (n0 n1 : Nat) (sz : Nat) (I : TI) (J : TJ) (S : TS) (L : TL) (p0 : Int32) (Φ : Int32 → TI → TJ → TS → TL → Prop) (h : wp_X7_isDayAhead n0 n1 I J S L p0 Φ) : Met l yX7_isDayAhead wsX7_isDayAhead rmX7_isDayAhead (va_Pc [.ref (a 53), .int p0] (gpre dC dI (wO a cy n0 n1 I J S L) (tyL cy) sz)) (gQi dC dI (wO a cy n0 n1) (tyL cy) (va_A (wO a cy n0 n1 I J S L) sz) Φ) 0 0 (va_A (wO a cy n0 n1 I J S L) sz) := by
  refine Met.ofW (cc := cX7_isDayAhead) (maxL := 2) (ret := (some .boolean)) (by decide) rfl ?_
  intro p e s m args below meth c s₁ B hml hv
  obtain ⟨hargs, hsz, hP, hK, hD0, hN⟩ := hv
  have hx := B.exec
  have hb := B.bytes
  have hr := B.returns
  have hts := atoms_spec (ws := wsX7_isDayAhead) B.pre
  have hown : s.vm.findClass RX7 = some m.cls := findClass_of_methodNamed B.named
  have hlocks := B.notSynchronized
  subst hsz
  have hD := hD0.self (sz := s.heap.size)
  generalize hAe : va_A (wO a cy n0 n1 I J S L) s.heap.size = A at hD ⊢
  have hA : ∀ q : Nat, s.heap.size ≤ q → A q := fun q h => by rw [← hAe]; exact Or.inr h
  obtain ⟨H, hH⟩ : ∃ z : Heap, z = s.heap := ⟨_, rfl⟩
  rw [← hH] at hP
  have hS : va_S A s.heap H [] := by rw [hH]; exact va_S.rf
  have hl := lv_entry ([.ref (a 53), .int p0]) (n := 2) (Nat.le_of_ble_eq_true rfl)
  have hE : entryFrame m args 2 = F0 m 0 ((lg_sl ([.ref (a 53), .int p0]) ++ List.replicate (2 - (lg_sl ([.ref (a 53), .int p0])).length) Slot.unset).toArray) [] := by rw [hargs]; exact lg_entry_eq m _ _
  rw [hE, ← hH]
  clear hE
  generalize (lg_sl ([.ref (a 53), .int p0]) ++ List.replicate (2 - (lg_sl ([.ref (a 53), .int p0])).length) Slot.unset).toArray = ls at hl ⊢
  have hl : lv_has ls 2 [(0, .ref (a 53)), (1, .int p0)] := hl
  unfold wp_X7_isDayAhead at h
  refine lv_iload_n hx hb dX7_isDayAhead_0 rfl (lv_at hl 1 rfl) ?_
  refine lv_aload_n hx hb dX7_isDayAhead_1 rfl (lv_at hl 0 rfl) ?_
  refine va_get (D := (dC, dI)) (ci := 7) (v := .ref (a 25)) (C := RX7) (T := TX7) (N := 7) hx hb hts nX7_isDayAhead_X7 hown hK hP 0 (wO_atO _ _ _ _ _ _ _ _) rfl 4 (by decide) (hts (.fieldLink RX7 47 "SongOffice" "standing" "LSongOffice$Ledger;") kX7_isDayAhead_1) (fun _ h9 => h9) rfl dX7_isDayAhead_2 ?_
  refine va_get (D := (dC, dI)) (ci := 2) (v := .int (S 3)) (C := RX2) (T := TX2) (N := 16) hx hb hts nX7_isDayAhead_X2 hown hK hP 26 (wO_at25 _ _ _ _ _ _ _ _) rfl 10 (by decide) (hts (.fieldLink RX7 105 "SongOffice$Ledger" "closed" "I") kX7_isDayAhead_2) (fun _ h9 => h9) rfl dX7_isDayAhead_5 ?_
  refine lv_bipush (v := 90) hx hb dX7_isDayAhead_8 (by decide) ?_
  refine lv_imul hx hb dX7_isDayAhead_10 ?_
  obtain ⟨B_1, hB_1, h⟩ := h
  have jB_1 : ∀ (I_2 : TI) (J_3 : TJ) (S_4 : TS) (L_5 : TL) (s_6 : Int32) (H : Heap) (locs : List Loc) (ls : Array Slot), va_P (dC, dI) vwCl (wO a cy n0 n1 I_2 J_3 S_4 L_5) H → va_D A (wO a cy n0 n1 I_2 J_3 S_4 L_5) → va_S A s.heap H locs → lv_has ls 2 [] → B_1 I_2 J_3 S_4 L_5 s_6 → W p l e (headSpec wsX7_isDayAhead rmX7_isDayAhead).room s m args below meth c H locs 0 0 (MQ below (gQi dC dI (wO a cy n0 n1) (tyL cy) A Φ) args s 0 0 A) (F0 m 26 ls [.int s_6]) := by
    intro I_2 J_3 S_4 L_5 s_6 H locs ls hP hD hS hl h
    have h := hB_1 I_2 J_3 S_4 L_5 s_6 h
    exact grz hx hb hr hlocks hP hK hD hS h dX7_isDayAhead_26
  obtain ⟨B_7, hB_7, h⟩ := h
  have jB_7 : ∀ (I_8 : TI) (J_9 : TJ) (S_10 : TS) (L_11 : TL) (H : Heap) (locs : List Loc) (ls : Array Slot), va_P (dC, dI) vwCl (wO a cy n0 n1 I_8 J_9 S_10 L_11) H → va_D A (wO a cy n0 n1 I_8 J_9 S_10 L_11) → va_S A s.heap H locs → lv_has ls 2 [] → B_7 I_8 J_9 S_10 L_11 → W p l e (headSpec wsX7_isDayAhead rmX7_isDayAhead).room s m args below meth c H locs 0 0 (MQ below (gQi dC dI (wO a cy n0 n1) (tyL cy) A Φ) args s 0 0 A) (F0 m 25 ls []) := by
    intro I_8 J_9 S_10 L_11 H locs ls hP hD hS hl h
    have h := hB_7 I_8 J_9 S_10 L_11 h
    refine lv_iconst (v := 0) hx hb dX7_isDayAhead_25 (by decide) ?_
    exact jB_1 I_8 J_9 S_10 L_11 (0 : Int32) _ _ _ hP hD hS (lv_sub hl [] rfl) h
  refine lv_icmp_lt (tgt := 25) hx hb dX7_isDayAhead_11 (by decide) (fun hc => ?_) (fun hc => ?_)
  · have h := h.1 hc
    exact jB_7 I J S L _ _ _ hP hD hS (lv_sub hl [] rfl) h
  · have h := h.2 hc
    refine lv_iload_n hx hb dX7_isDayAhead_14 rfl (lv_at hl 1 rfl) ?_
    refine lv_sipush (v := 3599) hx hb dX7_isDayAhead_15 (by decide) ?_
    refine lv_icmp_gt (tgt := 25) hx hb dX7_isDayAhead_18 (by decide) (fun hc => ?_) (fun hc => ?_)
    · have h := h.1 hc
      exact jB_7 I J S L _ _ _ hP hD hS (lv_sub hl [] rfl) h
    · have h := h.2 hc
      refine lv_iconst (v := 1) hx hb dX7_isDayAhead_21 (by decide) ?_
      refine lv_goto (tgt := 26) hx hb dX7_isDayAhead_22 (by decide) ?_
      exact jB_1 I J S L (1 : Int32) _ _ _ hP hD hS (lv_sub hl [] rfl) h
def wp_X7_reportFits (n0 n1 : Nat) (I : TI) (J : TJ) (S : TS) (L : TL) (p0 : Int32) (p1 : Int32) (p2 : Int32) (p3 : Int32) (p4 : Int32) (Φ : Int32 → TI → TJ → TS → TL → Prop) : Prop := wp_X7_isWork I J S L p0 (fun (r_5 : Int32) (I_1 : TI) (J_2 : TJ) (S_3 : TS) (L_4 : TL) => (∃ B_6 : TI → TJ → TS → TL → Prop, (∀ (I_7 : TI) (J_8 : TJ) (S_9 : TS) (L_10 : TL), B_6 I_7 J_8 S_9 L_10 → (Φ (0 : Int32) I_7 J_8 S_9 L_10)) ∧ (((r_5 = 0) → (B_6 I_1 J_2 S_3 L_4)) ∧ ((¬ r_5 = 0) → ((vp_in p0 12) ∧ ((((I_1 1 (p0).toNatClampNeg) = 0) → (B_6 I_1 J_2 S_3 L_4)) ∧ ((¬ (I_1 1 (p0).toNatClampNeg) = 0) → (wp_X7_isTold I_1 J_2 S_3 L_4 p1 (fun (r_15 : Int32) (I_11 : TI) (J_12 : TJ) (S_13 : TS) (L_14 : TL) => (((¬ r_15 = 0) → (∃ B_16 : TI → TJ → TS → TL → Int32 → Prop, (∀ (I_17 : TI) (J_18 : TJ) (S_19 : TS) (L_20 : TL) (s_21 : Int32), B_16 I_17 J_18 S_19 L_20 s_21 → ((s_21 = 0 ∨ s_21 = 1) ∧ Φ s_21 I_17 J_18 S_19 L_20)) ∧ (∃ B_22 : TI → TJ → TS → TL → Prop, (∀ (I_23 : TI) (J_24 : TJ) (S_25 : TS) (L_26 : TL), B_22 I_23 J_24 S_25 L_26 → (B_16 I_23 J_24 S_25 L_26 (1 : Int32))) ∧ (((p4 = 0) → (B_22 I_11 J_12 S_13 L_14)) ∧ ((¬ p4 = 0) → (wp_X7_isTold I_11 J_12 S_13 L_14 p2 (fun (r_31 : Int32) (I_27 : TI) (J_28 : TJ) (S_29 : TS) (L_30 : TL) => (∃ B_32 : TI → TJ → TS → TL → Prop, (∀ (I_33 : TI) (J_34 : TJ) (S_35 : TS) (L_36 : TL), B_32 I_33 J_34 S_35 L_36 → (B_16 I_33 J_34 S_35 L_36 (0 : Int32))) ∧ (((r_31 = 0) → (B_32 I_27 J_28 S_29 L_30)) ∧ ((¬ r_31 = 0) → (wp_X7_isTold I_27 J_28 S_29 L_30 p3 (fun (r_41 : Int32) (I_37 : TI) (J_38 : TJ) (S_39 : TS) (L_40 : TL) => (((r_41 = 0) → (B_32 I_37 J_38 S_39 L_40)) ∧ ((¬ r_41 = 0) → (B_22 I_37 J_38 S_39 L_40))))))))))))))) ∧ ((r_15 = 0) → (B_6 I_11 J_12 S_13 L_14))))))))))))
theorem nX7_reportFits_X6 : ∀ w ∈ wsX60, w ∈ wsX7_reportFits := fun _ h => List.mem_cons_of_mem _ (List.mem_append_right _ h)
theorem kX7_reportFits_2 : Cond.fieldLink RX7 82 "SongOffice$ShareBook" "sets" "[I" ∈ wsX7_reportFits := List.mem_of_getElem? (i := 2) rfl
theorem nX7_reportFits_X7 : ∀ w ∈ wsX70, w ∈ wsX7_reportFits := fun _ h => List.mem_cons_of_mem _ (List.mem_append_left _ (List.mem_append_right _ h))
theorem kX7_reportFits_1 : Cond.fieldLink RX7 10 "SongOffice" "shares" "LSongOffice$ShareBook;" ∈ wsX7_reportFits := List.mem_of_getElem? (i := 1) rfl
abbrev rmX7_reportFits : Room := { frames := 1, cells := 0, slots := 0, locals := 20 }
set_option maxHeartbeats 4000000 in
set_option maxRecDepth 100000 in
theorem c_X7_reportFits (l : Launch) (dC : Nat → ClassId) (dI : Nat → Nat → Nat) (a : Nat → Nat) (cy : Nat → ClassId) (n0 n1 : Nat) (sz : Nat) (I : TI) (J : TJ) (S : TS) (L : TL) (p0 : Int32) (p1 : Int32) (p2 : Int32) (p3 : Int32) (p4 : Int32) (Φ : Int32 → TI → TJ → TS → TL → Prop) (h : wp_X7_reportFits n0 n1 I J S L p0 p1 p2 p3 p4 Φ) : Met l yX7_reportFits wsX7_reportFits rmX7_reportFits (va_Pc [.ref (a 53), .int p0, .int p1, .int p2, .int p3, .int p4] (gpre dC dI (wO a cy n0 n1 I J S L) (tyL cy) sz)) (gQi dC dI (wO a cy n0 n1) (tyL cy) (va_A (wO a cy n0 n1 I J S L) sz) Φ) 0 0 (va_A (wO a cy n0 n1 I J S L) sz) := by
  refine Met.ofW (cc := cX7_reportFits) (maxL := 6) (ret := (some .boolean)) (by decide) rfl ?_
  intro p e s m args below meth c s₁ B hml hv
  obtain ⟨hargs, hsz, hP, hK, hD0, hN⟩ := hv
  have hx := B.exec
  have hb := B.bytes
  have hr := B.returns
  have hts := atoms_spec (ws := wsX7_reportFits) B.pre
  have hown : s.vm.findClass RX7 = some m.cls := findClass_of_methodNamed B.named
  have hlocks := B.notSynchronized
  subst hsz
  have hD := hD0.self (sz := s.heap.size)
  generalize hAe : va_A (wO a cy n0 n1 I J S L) s.heap.size = A at hD ⊢
  have hA : ∀ q : Nat, s.heap.size ≤ q → A q := fun q h => by rw [← hAe]; exact Or.inr h
  obtain ⟨H, hH⟩ : ∃ z : Heap, z = s.heap := ⟨_, rfl⟩
  rw [← hH] at hP
  have hS : va_S A s.heap H [] := by rw [hH]; exact va_S.rf
  have hl := lv_entry ([.ref (a 53), .int p0, .int p1, .int p2, .int p3, .int p4]) (n := 6) (Nat.le_of_ble_eq_true rfl)
  have hE : entryFrame m args 6 = F0 m 0 ((lg_sl ([.ref (a 53), .int p0, .int p1, .int p2, .int p3, .int p4]) ++ List.replicate (6 - (lg_sl ([.ref (a 53), .int p0, .int p1, .int p2, .int p3, .int p4])).length) Slot.unset).toArray) [] := by rw [hargs]; exact lg_entry_eq m _ _
  rw [hE, ← hH]
  clear hE
  generalize (lg_sl ([.ref (a 53), .int p0, .int p1, .int p2, .int p3, .int p4]) ++ List.replicate (6 - (lg_sl ([.ref (a 53), .int p0, .int p1, .int p2, .int p3, .int p4])).length) Slot.unset).toArray = ls at hl ⊢
  have hl : lv_has ls 6 [(0, .ref (a 53)), (1, .int p0), (2, .int p1), (3, .int p2), (4, .int p3), (5, .int p4)] := hl
  unfold wp_X7_reportFits at h
  refine lv_iload_n hx hb dX7_reportFits_0 rfl (lv_at hl 1 rfl) ?_
  refine gcalli (va_runS (As := [.int p0]) (rest := []) ⟨hx, hb, hml, hown, hts⟩ (c_X7_isWork l dC dI (wO a cy n0 n1) (tyL cy) H.size I J S L p0 _ h) (va_cwS 1 hts gX7_reportFits_X7_isWork rfl rfl rfl (by decide +kernel) ⟨(Nat.le_of_ble_eq_true rfl), (Nat.le_of_ble_eq_true rfl)⟩) (g_pS hP hK hD hN [.int p0]) rfl rfl hl.1 rfl (lv_room (Nat.le_of_ble_eq_true rfl)) dX7_reportFits_1 ⟨(Nat.le_of_ble_eq_true rfl), (Nat.le_of_ble_eq_true rfl)⟩) hS hA hD (fun r_5 I_1 J_2 S_3 L_4 H locs hP hD hS h => ?_)
  obtain ⟨B_6, hB_6, h⟩ := h
  have jB_6 : ∀ (I_7 : TI) (J_8 : TJ) (S_9 : TS) (L_10 : TL) (H : Heap) (locs : List Loc) (ls : Array Slot), va_P (dC, dI) vwCl (wO a cy n0 n1 I_7 J_8 S_9 L_10) H → va_D A (wO a cy n0 n1 I_7 J_8 S_9 L_10) → va_S A s.heap H locs → lv_has ls 6 [] → B_6 I_7 J_8 S_9 L_10 → W p l e (headSpec wsX7_reportFits rmX7_reportFits).room s m args below meth c H locs 0 0 (MQ below (gQi dC dI (wO a cy n0 n1) (tyL cy) A Φ) args s 0 0 A) (F0 m 26 ls []) := by
    intro I_7 J_8 S_9 L_10 H locs ls hP hD hS hl h
    have h := hB_6 I_7 J_8 S_9 L_10 h
    refine lv_iconst (v := 0) hx hb dX7_reportFits_26 (by decide) ?_
    exact grz hx hb hr hlocks hP hK hD hS ⟨Or.inl rfl, h⟩ dX7_reportFits_27
  refine lv_if_eq (tgt := 26) hx hb dX7_reportFits_4 (by decide) (fun hc => ?_) (fun hc => ?_)
  · have h := h.1 hc
    exact jB_6 I_1 J_2 S_3 L_4 _ _ _ hP hD hS (lv_sub hl [] rfl) h
  · have h := h.2 hc
    refine lv_aload_n hx hb dX7_reportFits_7 rfl (lv_at hl 0 rfl) ?_
    refine va_get (D := (dC, dI)) (ci := 7) (v := .ref (a 0)) (C := RX7) (T := TX7) (N := 7) hx hb hts nX7_reportFits_X7 hown hK hP 0 (wO_atO _ _ _ _ _ _ _ _) rfl 0 (by decide) (hts (.fieldLink RX7 10 "SongOffice" "shares" "LSongOffice$ShareBook;") kX7_reportFits_1) (fun _ h9 => h9) rfl dX7_reportFits_8 ?_
    refine va_get (D := (dC, dI)) (ci := 6) (v := .ref (a 1)) (C := RX6) (T := TX6) (N := 4) hx hb hts nX7_reportFits_X6 hown hK hP 1 (wO_at0 _ _ _ _ _ _ _ _) rfl 0 (by decide) (hts (.fieldLink RX7 82 "SongOffice$ShareBook" "sets" "[I") kX7_reportFits_2) (fun _ h9 => h9) rfl dX7_reportFits_11 ?_
    refine lv_iload_n hx hb dX7_reportFits_14 rfl (lv_at hl 1 rfl) ?_
    obtain ⟨hi, h⟩ := h
    refine va_iald hx hb hK hP 2 0 (wO_at1 _ _ _ _ _ _ _ _) rfl hi dX7_reportFits_15 ?_
    refine lv_if_eq (tgt := 26) hx hb dX7_reportFits_16 (by decide) (fun hc => ?_) (fun hc => ?_)
    · have h := h.1 hc
      exact jB_6 I_1 J_2 S_3 L_4 _ _ _ hP hD hS (lv_sub hl [] rfl) h
    · have h := h.2 hc
      refine lv_iload_n hx hb dX7_reportFits_19 rfl (lv_at hl 2 rfl) ?_
      refine gcalli (va_runS (As := [.int p1]) (rest := []) ⟨hx, hb, hml, hown, hts⟩ (c_X7_isTold l dC dI (wO a cy n0 n1) (tyL cy) H.size I_1 J_2 S_3 L_4 p1 _ h) (va_cwS 1 hts gX7_reportFits_X7_isTold rfl rfl rfl (by decide +kernel) ⟨(Nat.le_of_ble_eq_true rfl), (Nat.le_of_ble_eq_true rfl)⟩) (g_pS hP hK hD hN [.int p1]) rfl rfl hl.1 rfl (lv_room (Nat.le_of_ble_eq_true rfl)) dX7_reportFits_20 ⟨(Nat.le_of_ble_eq_true rfl), (Nat.le_of_ble_eq_true rfl)⟩) hS hA hD (fun r_15 I_11 J_12 S_13 L_14 H locs hP hD hS h => ?_)
      refine lv_if_ne (tgt := 28) hx hb dX7_reportFits_23 (by decide) (fun hc => ?_) (fun hc => ?_)
      · have h := h.1 hc
        refine lv_iload hx hb dX7_reportFits_28 (lv_at hl 5 rfl) ?_
        obtain ⟨B_16, hB_16, h⟩ := h
        have jB_16 : ∀ (I_17 : TI) (J_18 : TJ) (S_19 : TS) (L_20 : TL) (s_21 : Int32) (H : Heap) (locs : List Loc) (ls : Array Slot), va_P (dC, dI) vwCl (wO a cy n0 n1 I_17 J_18 S_19 L_20) H → va_D A (wO a cy n0 n1 I_17 J_18 S_19 L_20) → va_S A s.heap H locs → lv_has ls 6 [] → B_16 I_17 J_18 S_19 L_20 s_21 → W p l e (headSpec wsX7_reportFits rmX7_reportFits).room s m args below meth c H locs 0 0 (MQ below (gQi dC dI (wO a cy n0 n1) (tyL cy) A Φ) args s 0 0 A) (F0 m 53 ls [.int s_21]) := by
          intro I_17 J_18 S_19 L_20 s_21 H locs ls hP hD hS hl h
          have h := hB_16 I_17 J_18 S_19 L_20 s_21 h
          exact grz hx hb hr hlocks hP hK hD hS h dX7_reportFits_53
        obtain ⟨B_22, hB_22, h⟩ := h
        have jB_22 : ∀ (I_23 : TI) (J_24 : TJ) (S_25 : TS) (L_26 : TL) (H : Heap) (locs : List Loc) (ls : Array Slot), va_P (dC, dI) vwCl (wO a cy n0 n1 I_23 J_24 S_25 L_26) H → va_D A (wO a cy n0 n1 I_23 J_24 S_25 L_26) → va_S A s.heap H locs → lv_has ls 6 [] → B_22 I_23 J_24 S_25 L_26 → W p l e (headSpec wsX7_reportFits rmX7_reportFits).room s m args below meth c H locs 0 0 (MQ below (gQi dC dI (wO a cy n0 n1) (tyL cy) A Φ) args s 0 0 A) (F0 m 48 ls []) := by
          intro I_23 J_24 S_25 L_26 H locs ls hP hD hS hl h
          have h := hB_22 I_23 J_24 S_25 L_26 h
          refine lv_iconst (v := 1) hx hb dX7_reportFits_48 (by decide) ?_
          refine lv_goto (tgt := 53) hx hb dX7_reportFits_49 (by decide) ?_
          exact jB_16 I_23 J_24 S_25 L_26 (1 : Int32) _ _ _ hP hD hS (lv_sub hl [] rfl) h
        refine lv_if_eq (tgt := 48) hx hb dX7_reportFits_30 (by decide) (fun hc => ?_) (fun hc => ?_)
        · have h := h.1 hc
          exact jB_22 I_11 J_12 S_13 L_14 _ _ _ hP hD hS (lv_sub hl [] rfl) h
        · have h := h.2 hc
          refine lv_iload_n hx hb dX7_reportFits_33 rfl (lv_at hl 3 rfl) ?_
          refine gcalli (va_runS (As := [.int p2]) (rest := []) ⟨hx, hb, hml, hown, hts⟩ (c_X7_isTold l dC dI (wO a cy n0 n1) (tyL cy) H.size I_11 J_12 S_13 L_14 p2 _ h) (va_cwS 1 hts gX7_reportFits_X7_isTold rfl rfl rfl (by decide +kernel) ⟨(Nat.le_of_ble_eq_true rfl), (Nat.le_of_ble_eq_true rfl)⟩) (g_pS hP hK hD hN [.int p2]) rfl rfl hl.1 rfl (lv_room (Nat.le_of_ble_eq_true rfl)) dX7_reportFits_34 ⟨(Nat.le_of_ble_eq_true rfl), (Nat.le_of_ble_eq_true rfl)⟩) hS hA hD (fun r_31 I_27 J_28 S_29 L_30 H locs hP hD hS h => ?_)
          obtain ⟨B_32, hB_32, h⟩ := h
          have jB_32 : ∀ (I_33 : TI) (J_34 : TJ) (S_35 : TS) (L_36 : TL) (H : Heap) (locs : List Loc) (ls : Array Slot), va_P (dC, dI) vwCl (wO a cy n0 n1 I_33 J_34 S_35 L_36) H → va_D A (wO a cy n0 n1 I_33 J_34 S_35 L_36) → va_S A s.heap H locs → lv_has ls 6 [] → B_32 I_33 J_34 S_35 L_36 → W p l e (headSpec wsX7_reportFits rmX7_reportFits).room s m args below meth c H locs 0 0 (MQ below (gQi dC dI (wO a cy n0 n1) (tyL cy) A Φ) args s 0 0 A) (F0 m 52 ls []) := by
            intro I_33 J_34 S_35 L_36 H locs ls hP hD hS hl h
            have h := hB_32 I_33 J_34 S_35 L_36 h
            refine lv_iconst (v := 0) hx hb dX7_reportFits_52 (by decide) ?_
            exact jB_16 I_33 J_34 S_35 L_36 (0 : Int32) _ _ _ hP hD hS (lv_sub hl [] rfl) h
          refine lv_if_eq (tgt := 52) hx hb dX7_reportFits_37 (by decide) (fun hc => ?_) (fun hc => ?_)
          · have h := h.1 hc
            exact jB_32 I_27 J_28 S_29 L_30 _ _ _ hP hD hS (lv_sub hl [] rfl) h
          · have h := h.2 hc
            refine lv_iload hx hb dX7_reportFits_40 (lv_at hl 4 rfl) ?_
            refine gcalli (va_runS (As := [.int p3]) (rest := []) ⟨hx, hb, hml, hown, hts⟩ (c_X7_isTold l dC dI (wO a cy n0 n1) (tyL cy) H.size I_27 J_28 S_29 L_30 p3 _ h) (va_cwS 1 hts gX7_reportFits_X7_isTold rfl rfl rfl (by decide +kernel) ⟨(Nat.le_of_ble_eq_true rfl), (Nat.le_of_ble_eq_true rfl)⟩) (g_pS hP hK hD hN [.int p3]) rfl rfl hl.1 rfl (lv_room (Nat.le_of_ble_eq_true rfl)) dX7_reportFits_42 ⟨(Nat.le_of_ble_eq_true rfl), (Nat.le_of_ble_eq_true rfl)⟩) hS hA hD (fun r_41 I_37 J_38 S_39 L_40 H locs hP hD hS h => ?_)
            refine lv_if_eq (tgt := 52) hx hb dX7_reportFits_45 (by decide) (fun hc => ?_) (fun hc => ?_)
            · have h := h.1 hc
              exact jB_32 I_37 J_38 S_39 L_40 _ _ _ hP hD hS (lv_sub hl [] rfl) h
            · have h := h.2 hc
              exact jB_22 I_37 J_38 S_39 L_40 _ _ _ hP hD hS (lv_sub hl [] rfl) h
      · have h := h.2 hc
        exact jB_6 I_11 J_12 S_13 L_14 _ _ _ hP hD hS (lv_sub hl [] rfl) h
def wp_X7_owedTo (n0 n1 : Nat) (I : TI) (J : TJ) (S : TS) (L : TL) (p0 : Int32) (Φ : Int64 → TI → TJ → TS → TL → Prop) : Prop := wp_X2_worth_Op n0 n1 I J S L p0 (fun (r_5 : Int64) (I_1 : TI) (J_2 : TJ) (S_3 : TS) (L_4 : TL) => (wp_X2_worth_O n0 n1 I_1 J_2 S_3 L_4 p0 (fun (r_10 : Int64) (I_6 : TI) (J_7 : TJ) (S_8 : TS) (L_9 : TL) => (Φ (r_5 - r_10) I_6 J_7 S_8 L_9))))
theorem nX7_owedTo_X7 : ∀ w ∈ wsX70, w ∈ wsX7_owedTo := fun _ h => List.mem_cons_of_mem _ (List.mem_append_left _ (List.mem_append_right _ h))
theorem kX7_owedTo_2 : Cond.fieldLink RX7 47 "SongOffice" "standing" "LSongOffice$Ledger;" ∈ wsX7_owedTo := List.mem_of_getElem? (i := 2) rfl
theorem kX7_owedTo_1 : Cond.fieldLink RX7 51 "SongOffice" "anew" "LSongOffice$Ledger;" ∈ wsX7_owedTo := List.mem_of_getElem? (i := 1) rfl
abbrev rmX7_owedTo : Room := { frames := 3, cells := 0, slots := 0, locals := 68 }
set_option maxHeartbeats 4000000 in
set_option maxRecDepth 100000 in
theorem c_X7_owedTo (l : Launch) (dC : Nat → ClassId) (dI : Nat → Nat → Nat) (a : Nat → Nat) (cy : Nat → ClassId) (n0 n1 : Nat) (sz : Nat) (I : TI) (J : TJ) (S : TS) (L : TL) (p0 : Int32) (Φ : Int64 → TI → TJ → TS → TL → Prop) (h : wp_X7_owedTo n0 n1 I J S L p0 Φ) : Met l yX7_owedTo wsX7_owedTo rmX7_owedTo (va_Pc [.ref (a 53), .int p0] (gpre dC dI (wO a cy n0 n1 I J S L) (tyL cy) sz)) (gQl dC dI (wO a cy n0 n1) (tyL cy) (va_A (wO a cy n0 n1 I J S L) sz) Φ) 0 0 (va_A (wO a cy n0 n1 I J S L) sz) := by
  refine Met.ofW (cc := cX7_owedTo) (maxL := 2) (ret := (some .long)) (by decide) rfl ?_
  intro p e s m args below meth c s₁ B hml hv
  obtain ⟨hargs, hsz, hP, hK, hD0, hN⟩ := hv
  have hx := B.exec
  have hb := B.bytes
  have hr := B.returns
  have hts := atoms_spec (ws := wsX7_owedTo) B.pre
  have hown : s.vm.findClass RX7 = some m.cls := findClass_of_methodNamed B.named
  have hlocks := B.notSynchronized
  subst hsz
  have hD := hD0.self (sz := s.heap.size)
  generalize hAe : va_A (wO a cy n0 n1 I J S L) s.heap.size = A at hD ⊢
  have hA : ∀ q : Nat, s.heap.size ≤ q → A q := fun q h => by rw [← hAe]; exact Or.inr h
  obtain ⟨H, hH⟩ : ∃ z : Heap, z = s.heap := ⟨_, rfl⟩
  rw [← hH] at hP
  have hS : va_S A s.heap H [] := by rw [hH]; exact va_S.rf
  have hl := lv_entry ([.ref (a 53), .int p0]) (n := 2) (Nat.le_of_ble_eq_true rfl)
  have hE : entryFrame m args 2 = F0 m 0 ((lg_sl ([.ref (a 53), .int p0]) ++ List.replicate (2 - (lg_sl ([.ref (a 53), .int p0])).length) Slot.unset).toArray) [] := by rw [hargs]; exact lg_entry_eq m _ _
  rw [hE, ← hH]
  clear hE
  generalize (lg_sl ([.ref (a 53), .int p0]) ++ List.replicate (2 - (lg_sl ([.ref (a 53), .int p0])).length) Slot.unset).toArray = ls at hl ⊢
  have hl : lv_has ls 2 [(0, .ref (a 53)), (1, .int p0)] := hl
  unfold wp_X7_owedTo at h
  refine lv_aload_n hx hb dX7_owedTo_0 rfl (lv_at hl 0 rfl) ?_
  refine va_get (D := (dC, dI)) (ci := 7) (v := .ref (a 39)) (C := RX7) (T := TX7) (N := 7) hx hb hts nX7_owedTo_X7 hown hK hP 0 (wO_atO _ _ _ _ _ _ _ _) rfl 5 (by decide) (hts (.fieldLink RX7 51 "SongOffice" "anew" "LSongOffice$Ledger;") kX7_owedTo_1) (fun _ h9 => h9) rfl dX7_owedTo_1 ?_
  refine lv_iload_n hx hb dX7_owedTo_4 rfl (lv_at hl 1 rfl) ?_
  refine gcalll (va_runV (As := [.int p0]) (rest := []) ⟨hx, hb, hml, hown, hts⟩ (c_X2_worth_Op l dC dI a cy n0 n1 H.size I J S L p0 _ h) (cwV 1 hts gX7_owedTo_X2_worth rfl rfl rfl (by decide +kernel) ⟨(Nat.le_of_ble_eq_true rfl), (Nat.le_of_ble_eq_true rfl)⟩) (g_pV hP hK hD hN (va_recv hK hP (ci := 2) (q0 := 40) rfl (wO_at39 _ _ _ _ _ _ _ _)) [.int p0]) rfl rfl hl.1 rfl (lv_room (Nat.le_of_ble_eq_true rfl)) dX7_owedTo_5 ⟨(Nat.le_of_ble_eq_true rfl), (Nat.le_of_ble_eq_true rfl)⟩) hS hA hD (fun r_5 I_1 J_2 S_3 L_4 H locs hP hD hS h => ?_)
  refine lv_aload_n hx hb dX7_owedTo_8 rfl (lv_at hl 0 rfl) ?_
  refine va_get (D := (dC, dI)) (ci := 7) (v := .ref (a 25)) (C := RX7) (T := TX7) (N := 7) hx hb hts nX7_owedTo_X7 hown hK hP 0 (wO_atO _ _ _ _ _ _ _ _) rfl 4 (by decide) (hts (.fieldLink RX7 47 "SongOffice" "standing" "LSongOffice$Ledger;") kX7_owedTo_2) (fun _ h9 => h9) rfl dX7_owedTo_9 ?_
  refine lv_iload_n hx hb dX7_owedTo_12 rfl (lv_at hl 1 rfl) ?_
  refine gcalll (va_runV (As := [.int p0]) (rest := [.long r_5]) ⟨hx, hb, hml, hown, hts⟩ (c_X2_worth_O l dC dI a cy n0 n1 H.size I_1 J_2 S_3 L_4 p0 _ h) (cwV 1 hts gX7_owedTo_X2_worth rfl rfl rfl (by decide +kernel) ⟨(Nat.le_of_ble_eq_true rfl), (Nat.le_of_ble_eq_true rfl)⟩) (g_pV hP hK hD hN (va_recv hK hP (ci := 2) (q0 := 26) rfl (wO_at25 _ _ _ _ _ _ _ _)) [.int p0]) rfl rfl hl.1 rfl (lv_room (Nat.le_of_ble_eq_true rfl)) dX7_owedTo_13 ⟨(Nat.le_of_ble_eq_true rfl), (Nat.le_of_ble_eq_true rfl)⟩) hS hA hD (fun r_10 I_6 J_7 S_8 L_9 H locs hP hD hS h => ?_)
  refine lv_lsub hx hb dX7_owedTo_16 ?_
  exact grl hx hb hr hlocks hP hK hD hS h dX7_owedTo_17
def wp_X7_share (n0 n1 : Nat) (I : TI) (J : TJ) (S : TS) (L : TL) (p0 : Int32) (p1 : Int32) (p2 : Int32) (p3 : Int32) (p4 : Int32) (p5 : Int32) (p6 : Int32) (p7 : Int32) (Φ : Int32 → TI → TJ → TS → TL → Prop) : Prop := wp_X7_isWork I J S L p0 (fun (r_5 : Int32) (I_1 : TI) (J_2 : TJ) (S_3 : TS) (L_4 : TL) => (∃ B_6 : TI → TJ → TS → TL → Prop, (∀ (I_7 : TI) (J_8 : TJ) (S_9 : TS) (L_10 : TL), B_6 I_7 J_8 S_9 L_10 → (Φ (-1 : Int32) I_7 J_8 S_9 L_10)) ∧ (((r_5 = 0) → (B_6 I_1 J_2 S_3 L_4)) ∧ ((¬ r_5 = 0) → (wp_X7_isDayAhead n0 n1 I_1 J_2 S_3 L_4 p1 (fun (r_15 : Int32) (I_11 : TI) (J_12 : TJ) (S_13 : TS) (L_14 : TL) => (((r_15 = 0) → (B_6 I_11 J_12 S_13 L_14)) ∧ ((¬ r_15 = 0) → (wp_X6_hasRoom_O n0 n1 I_11 J_12 S_13 L_14 p0 p1 (fun (r_20 : Int32) (I_16 : TI) (J_17 : TJ) (S_18 : TS) (L_19 : TL) => (((¬ r_20 = 0) → (wp_X7_isHand I_16 J_17 S_18 L_19 p2 (fun (r_25 : Int32) (I_21 : TI) (J_22 : TJ) (S_23 : TS) (L_24 : TL) => (∃ B_26 : TI → TJ → TS → TL → Prop, (∀ (I_27 : TI) (J_28 : TJ) (S_29 : TS) (L_30 : TL), B_26 I_27 J_28 S_29 L_30 → (Φ (-1 : Int32) I_27 J_28 S_29 L_30)) ∧ (((r_25 = 0) → (B_26 I_21 J_22 S_23 L_24)) ∧ ((¬ r_25 = 0) → (wp_X7_isPart I_21 J_22 S_23 L_24 p3 (fun (r_35 : Int32) (I_31 : TI) (J_32 : TJ) (S_33 : TS) (L_34 : TL) => (((r_35 = 0) → (B_26 I_31 J_32 S_33 L_34)) ∧ ((¬ r_35 = 0) → (wp_X7_isSharer I_31 J_32 S_33 L_34 p4 p5 (fun (r_40 : Int32) (I_36 : TI) (J_37 : TJ) (S_38 : TS) (L_39 : TL) => (((r_40 = 0) → (B_26 I_36 J_37 S_38 L_39)) ∧ ((¬ r_40 = 0) → (wp_X7_isSharer I_36 J_37 S_38 L_39 p6 p7 (fun (r_45 : Int32) (I_41 : TI) (J_42 : TJ) (S_43 : TS) (L_44 : TL) => (((¬ r_45 = 0) → (∃ B_46 : TI → TJ → TS → TL → Int32 → Prop, (∀ (I_47 : TI) (J_48 : TJ) (S_49 : TS) (L_50 : TL) (s_51 : Int32), B_46 I_47 J_48 S_49 L_50 s_51 → (∃ B_52 : TI → TJ → TS → TL → Int32 → Int32 → Prop, (∀ (I_53 : TI) (J_54 : TJ) (S_55 : TS) (L_56 : TL) (x_57 : Int32) (s_58 : Int32), B_52 I_53 J_54 S_55 L_56 x_57 s_58 → (∃ B_59 : TI → TJ → TS → TL → Prop, (∀ (I_60 : TI) (J_61 : TJ) (S_62 : TS) (L_63 : TL), B_59 I_60 J_61 S_62 L_63 → (Φ (-1 : Int32) I_60 J_61 S_62 L_63)) ∧ (((¬ x_57 = 0) → (B_59 I_53 J_54 S_55 L_56)) ∧ ((x_57 = 0) → (((¬ s_58 = 0) → (B_59 I_53 J_54 S_55 L_56)) ∧ ((s_58 = 0) → (((((p3 + p5) + p7) = (1000 : Int32)) → (wp_X6_addSet_O n0 n1 I_53 J_54 S_55 L_56 p0 p1 (fun (r_68 : Int32) (I_64 : TI) (J_65 : TJ) (S_66 : TS) (L_67 : TL) => (wp_X6_put_O n0 n1 I_64 J_65 S_66 L_67 r_68 (0 : Int32) p2 p3 (fun (I_69 : TI) (J_70 : TJ) (S_71 : TS) (L_72 : TL) => (wp_X6_put_O n0 n1 I_69 J_70 S_71 L_72 r_68 (1 : Int32) p4 p5 (fun (I_73 : TI) (J_74 : TJ) (S_75 : TS) (L_76 : TL) => (wp_X6_put_O n0 n1 I_73 J_74 S_75 L_76 r_68 (2 : Int32) p6 p7 (fun (I_77 : TI) (J_78 : TJ) (S_79 : TS) (L_80 : TL) => ((vp_in p0 12) ∧ (Φ (I_77 1 (p0).toNatClampNeg) I_77 J_78 S_79 L_80))))))))))) ∧ ((¬ ((p3 + p5) + p7) = (1000 : Int32)) → (B_59 I_53 J_54 S_55 L_56))))))))) ∧ (∃ B_81 : TI → TJ → TS → TL → Int32 → Prop, (∀ (I_82 : TI) (J_83 : TJ) (S_84 : TS) (L_85 : TL) (x_86 : Int32), B_81 I_82 J_83 S_84 L_85 x_86 → (B_52 I_82 J_83 S_84 L_85 x_86 (1 : Int32))) ∧ (((p2 = p4) → (B_81 I_47 J_48 S_49 L_50 s_51)) ∧ ((¬ p2 = p4) → (((p2 = p6) → (B_81 I_47 J_48 S_49 L_50 s_51)) ∧ ((¬ p2 = p6) → (∃ B_87 : TI → TJ → TS → TL → Int32 → Prop, (∀ (I_88 : TI) (J_89 : TJ) (S_90 : TS) (L_91 : TL) (x_92 : Int32), B_87 I_88 J_89 S_90 L_91 x_92 → (B_52 I_88 J_89 S_90 L_91 x_92 (0 : Int32))) ∧ (((p4 = (-1 : Int32)) → (B_87 I_47 J_48 S_49 L_50 s_51)) ∧ ((¬ p4 = (-1 : Int32)) → (((¬ p4 = p6) → (B_87 I_47 J_48 S_49 L_50 s_51)) ∧ ((p4 = p6) → (B_81 I_47 J_48 S_49 L_50 s_51))))))))))))) ∧ (∃ B_93 : TI → TJ → TS → TL → Prop, (∀ (I_94 : TI) (J_95 : TJ) (S_96 : TS) (L_97 : TL), B_93 I_94 J_95 S_96 L_97 → (B_46 I_94 J_95 S_96 L_97 (0 : Int32))) ∧ (((¬ p4 = (-1 : Int32)) → (B_93 I_41 J_42 S_43 L_44)) ∧ ((p4 = (-1 : Int32)) → (((p6 = (-1 : Int32)) → (B_93 I_41 J_42 S_43 L_44)) ∧ ((¬ p6 = (-1 : Int32)) → (B_46 I_41 J_42 S_43 L_44 (1 : Int32))))))))) ∧ ((r_45 = 0) → (B_26 I_41 J_42 S_43 L_44))))))))))))))))))) ∧ ((r_20 = 0) → (B_6 I_16 J_17 S_18 L_19)))))))))))))
theorem nX7_share_X6 : ∀ w ∈ wsX60, w ∈ wsX7_share := fun _ h => List.mem_cons_of_mem _ (List.mem_append_left _ (List.mem_append_right _ h))
theorem kX7_share_2 : Cond.fieldLink RX7 82 "SongOffice$ShareBook" "sets" "[I" ∈ wsX7_share := List.mem_of_getElem? (i := 2) rfl
theorem nX7_share_X7 : ∀ w ∈ wsX70, w ∈ wsX7_share := fun _ h => List.mem_cons_of_mem _ (List.mem_append_left _ (List.mem_append_left _ (List.mem_append_right _ h)))
theorem kX7_share_1 : Cond.fieldLink RX7 10 "SongOffice" "shares" "LSongOffice$ShareBook;" ∈ wsX7_share := List.mem_of_getElem? (i := 1) rfl
abbrev rmX7_share : Room := { frames := 2, cells := 0, slots := 0, locals := 41 }
set_option maxHeartbeats 4000000 in
set_option maxRecDepth 100000 in
theorem c_X7_share (l : Launch) (dC : Nat → ClassId) (dI : Nat → Nat → Nat) (a : Nat → Nat) (cy : Nat → ClassId) (n0 n1 : Nat) (sz : Nat) (I : TI) (J : TJ) (S : TS) (L : TL) (p0 : Int32) (p1 : Int32) (p2 : Int32) (p3 : Int32) (p4 : Int32) (p5 : Int32) (p6 : Int32) (p7 : Int32) (Φ : Int32 → TI → TJ → TS → TL → Prop) (h : wp_X7_share n0 n1 I J S L p0 p1 p2 p3 p4 p5 p6 p7 Φ) : Met l yX7_share wsX7_share rmX7_share (va_Pc [.ref (a 53), .int p0, .int p1, .int p2, .int p3, .int p4, .int p5, .int p6, .int p7] (gpre dC dI (wO a cy n0 n1 I J S L) (tyL cy) sz)) (gQi dC dI (wO a cy n0 n1) (tyL cy) (va_A (wO a cy n0 n1 I J S L) sz) Φ) 0 0 (va_A (wO a cy n0 n1 I J S L) sz) := by
  refine Met.ofW (cc := cX7_share) (maxL := 12) (ret := (some .int)) (by decide) rfl ?_
  intro p e s m args below meth c s₁ B hml hv
  obtain ⟨hargs, hsz, hP, hK, hD0, hN⟩ := hv
  have hx := B.exec
  have hb := B.bytes
  have hr := B.returns
  have hts := atoms_spec (ws := wsX7_share) B.pre
  have hown : s.vm.findClass RX7 = some m.cls := findClass_of_methodNamed B.named
  have hlocks := B.notSynchronized
  subst hsz
  have hD := hD0.self (sz := s.heap.size)
  generalize hAe : va_A (wO a cy n0 n1 I J S L) s.heap.size = A at hD ⊢
  have hA : ∀ q : Nat, s.heap.size ≤ q → A q := fun q h => by rw [← hAe]; exact Or.inr h
  obtain ⟨H, hH⟩ : ∃ z : Heap, z = s.heap := ⟨_, rfl⟩
  rw [← hH] at hP
  have hS : va_S A s.heap H [] := by rw [hH]; exact va_S.rf
  have hl := lv_entry ([.ref (a 53), .int p0, .int p1, .int p2, .int p3, .int p4, .int p5, .int p6, .int p7]) (n := 12) (Nat.le_of_ble_eq_true rfl)
  have hE : entryFrame m args 12 = F0 m 0 ((lg_sl ([.ref (a 53), .int p0, .int p1, .int p2, .int p3, .int p4, .int p5, .int p6, .int p7]) ++ List.replicate (12 - (lg_sl ([.ref (a 53), .int p0, .int p1, .int p2, .int p3, .int p4, .int p5, .int p6, .int p7])).length) Slot.unset).toArray) [] := by rw [hargs]; exact lg_entry_eq m _ _
  rw [hE, ← hH]
  clear hE
  generalize (lg_sl ([.ref (a 53), .int p0, .int p1, .int p2, .int p3, .int p4, .int p5, .int p6, .int p7]) ++ List.replicate (12 - (lg_sl ([.ref (a 53), .int p0, .int p1, .int p2, .int p3, .int p4, .int p5, .int p6, .int p7])).length) Slot.unset).toArray = ls at hl ⊢
  have hl : lv_has ls 12 [(0, .ref (a 53)), (1, .int p0), (2, .int p1), (3, .int p2), (4, .int p3), (5, .int p4), (6, .int p5), (7, .int p6), (8, .int p7)] := hl
  unfold wp_X7_share at h
  refine lv_iload_n hx hb dX7_share_0 rfl (lv_at hl 1 rfl) ?_
  refine gcalli (va_runS (As := [.int p0]) (rest := []) ⟨hx, hb, hml, hown, hts⟩ (c_X7_isWork l dC dI (wO a cy n0 n1) (tyL cy) H.size I J S L p0 _ h) (va_cwS 1 hts gX7_share_X7_isWork rfl rfl rfl (by decide +kernel) ⟨(Nat.le_of_ble_eq_true rfl), (Nat.le_of_ble_eq_true rfl)⟩) (g_pS hP hK hD hN [.int p0]) rfl rfl hl.1 rfl (lv_room (Nat.le_of_ble_eq_true rfl)) dX7_share_1 ⟨(Nat.le_of_ble_eq_true rfl), (Nat.le_of_ble_eq_true rfl)⟩) hS hA hD (fun r_5 I_1 J_2 S_3 L_4 H locs hP hD hS h => ?_)
  obtain ⟨B_6, hB_6, h⟩ := h
  have jB_6 : ∀ (I_7 : TI) (J_8 : TJ) (S_9 : TS) (L_10 : TL) (H : Heap) (locs : List Loc) (ls : Array Slot), va_P (dC, dI) vwCl (wO a cy n0 n1 I_7 J_8 S_9 L_10) H → va_D A (wO a cy n0 n1 I_7 J_8 S_9 L_10) → va_S A s.heap H locs → lv_has ls 12 [] → B_6 I_7 J_8 S_9 L_10 → W p l e (headSpec wsX7_share rmX7_share).room s m args below meth c H locs 0 0 (MQ below (gQi dC dI (wO a cy n0 n1) (tyL cy) A Φ) args s 0 0 A) (F0 m 27 ls []) := by
    intro I_7 J_8 S_9 L_10 H locs ls hP hD hS hl h
    have h := hB_6 I_7 J_8 S_9 L_10 h
    refine lv_iconst (v := -1) hx hb dX7_share_27 (by decide) ?_
    exact gri hx hb hr hlocks hP hK hD hS h dX7_share_28
  refine lv_if_eq (tgt := 27) hx hb dX7_share_4 (by decide) (fun hc => ?_) (fun hc => ?_)
  · have h := h.1 hc
    exact jB_6 I_1 J_2 S_3 L_4 _ _ _ hP hD hS (lv_sub hl [] rfl) h
  · have h := h.2 hc
    refine lv_aload_n hx hb dX7_share_7 rfl (lv_at hl 0 rfl) ?_
    refine lv_iload_n hx hb dX7_share_8 rfl (lv_at hl 2 rfl) ?_
    refine gcalli (va_runV (As := [.int p1]) (rest := []) ⟨hx, hb, hml, hown, hts⟩ (c_X7_isDayAhead l dC dI a cy n0 n1 H.size I_1 J_2 S_3 L_4 p1 _ h) (cwV 1 hts gX7_share_X7_isDayAhead rfl rfl rfl (by decide +kernel) ⟨(Nat.le_of_ble_eq_true rfl), (Nat.le_of_ble_eq_true rfl)⟩) (g_pV hP hK hD hN (va_recv hK hP (ci := 7) (q0 := 0) rfl (wO_atO _ _ _ _ _ _ _ _)) [.int p1]) rfl rfl hl.1 rfl (lv_room (Nat.le_of_ble_eq_true rfl)) dX7_share_9 ⟨(Nat.le_of_ble_eq_true rfl), (Nat.le_of_ble_eq_true rfl)⟩) hS hA hD (fun r_15 I_11 J_12 S_13 L_14 H locs hP hD hS h => ?_)
    refine lv_if_eq (tgt := 27) hx hb dX7_share_12 (by decide) (fun hc => ?_) (fun hc => ?_)
    · have h := h.1 hc
      exact jB_6 I_11 J_12 S_13 L_14 _ _ _ hP hD hS (lv_sub hl [] rfl) h
    · have h := h.2 hc
      refine lv_aload_n hx hb dX7_share_15 rfl (lv_at hl 0 rfl) ?_
      refine va_get (D := (dC, dI)) (ci := 7) (v := .ref (a 0)) (C := RX7) (T := TX7) (N := 7) hx hb hts nX7_share_X7 hown hK hP 0 (wO_atO _ _ _ _ _ _ _ _) rfl 0 (by decide) (hts (.fieldLink RX7 10 "SongOffice" "shares" "LSongOffice$ShareBook;") kX7_share_1) (fun _ h9 => h9) rfl dX7_share_16 ?_
      refine lv_iload_n hx hb dX7_share_19 rfl (lv_at hl 1 rfl) ?_
      refine lv_iload_n hx hb dX7_share_20 rfl (lv_at hl 2 rfl) ?_
      refine gcalli (va_runV (As := [.int p0, .int p1]) (rest := []) ⟨hx, hb, hml, hown, hts⟩ (c_X6_hasRoom_O l dC dI a cy n0 n1 H.size I_11 J_12 S_13 L_14 p0 p1 _ h) (cwV 2 hts gX7_share_X6_hasRoom rfl rfl rfl (by decide +kernel) ⟨(Nat.le_of_ble_eq_true rfl), (Nat.le_of_ble_eq_true rfl)⟩) (g_pV hP hK hD hN (va_recv hK hP (ci := 6) (q0 := 1) rfl (wO_at0 _ _ _ _ _ _ _ _)) [.int p0, .int p1]) rfl rfl hl.1 rfl (lv_room (Nat.le_of_ble_eq_true rfl)) dX7_share_21 ⟨(Nat.le_of_ble_eq_true rfl), (Nat.le_of_ble_eq_true rfl)⟩) hS hA hD (fun r_20 I_16 J_17 S_18 L_19 H locs hP hD hS h => ?_)
      refine lv_if_ne (tgt := 29) hx hb dX7_share_24 (by decide) (fun hc => ?_) (fun hc => ?_)
      · have h := h.1 hc
        refine lv_iload_n hx hb dX7_share_29 rfl (lv_at hl 3 rfl) ?_
        refine gcalli (va_runS (As := [.int p2]) (rest := []) ⟨hx, hb, hml, hown, hts⟩ (c_X7_isHand l dC dI (wO a cy n0 n1) (tyL cy) H.size I_16 J_17 S_18 L_19 p2 _ h) (va_cwS 1 hts gX7_share_X7_isHand rfl rfl rfl (by decide +kernel) ⟨(Nat.le_of_ble_eq_true rfl), (Nat.le_of_ble_eq_true rfl)⟩) (g_pS hP hK hD hN [.int p2]) rfl rfl hl.1 rfl (lv_room (Nat.le_of_ble_eq_true rfl)) dX7_share_30 ⟨(Nat.le_of_ble_eq_true rfl), (Nat.le_of_ble_eq_true rfl)⟩) hS hA hD (fun r_25 I_21 J_22 S_23 L_24 H locs hP hD hS h => ?_)
        obtain ⟨B_26, hB_26, h⟩ := h
        have jB_26 : ∀ (I_27 : TI) (J_28 : TJ) (S_29 : TS) (L_30 : TL) (H : Heap) (locs : List Loc) (ls : Array Slot), va_P (dC, dI) vwCl (wO a cy n0 n1 I_27 J_28 S_29 L_30) H → va_D A (wO a cy n0 n1 I_27 J_28 S_29 L_30) → va_S A s.heap H locs → lv_has ls 12 [] → B_26 I_27 J_28 S_29 L_30 → W p l e (headSpec wsX7_share rmX7_share).room s m args below meth c H locs 0 0 (MQ below (gQi dC dI (wO a cy n0 n1) (tyL cy) A Φ) args s 0 0 A) (F0 m 64 ls []) := by
          intro I_27 J_28 S_29 L_30 H locs ls hP hD hS hl h
          have h := hB_26 I_27 J_28 S_29 L_30 h
          refine lv_iconst (v := -1) hx hb dX7_share_64 (by decide) ?_
          exact gri hx hb hr hlocks hP hK hD hS h dX7_share_65
        refine lv_if_eq (tgt := 64) hx hb dX7_share_33 (by decide) (fun hc => ?_) (fun hc => ?_)
        · have h := h.1 hc
          exact jB_26 I_21 J_22 S_23 L_24 _ _ _ hP hD hS (lv_sub hl [] rfl) h
        · have h := h.2 hc
          refine lv_iload hx hb dX7_share_36 (lv_at hl 4 rfl) ?_
          refine gcalli (va_runS (As := [.int p3]) (rest := []) ⟨hx, hb, hml, hown, hts⟩ (c_X7_isPart l dC dI (wO a cy n0 n1) (tyL cy) H.size I_21 J_22 S_23 L_24 p3 _ h) (va_cwS 1 hts gX7_share_X7_isPart rfl rfl rfl (by decide +kernel) ⟨(Nat.le_of_ble_eq_true rfl), (Nat.le_of_ble_eq_true rfl)⟩) (g_pS hP hK hD hN [.int p3]) rfl rfl hl.1 rfl (lv_room (Nat.le_of_ble_eq_true rfl)) dX7_share_38 ⟨(Nat.le_of_ble_eq_true rfl), (Nat.le_of_ble_eq_true rfl)⟩) hS hA hD (fun r_35 I_31 J_32 S_33 L_34 H locs hP hD hS h => ?_)
          refine lv_if_eq (tgt := 64) hx hb dX7_share_41 (by decide) (fun hc => ?_) (fun hc => ?_)
          · have h := h.1 hc
            exact jB_26 I_31 J_32 S_33 L_34 _ _ _ hP hD hS (lv_sub hl [] rfl) h
          · have h := h.2 hc
            refine lv_iload hx hb dX7_share_44 (lv_at hl 5 rfl) ?_
            refine lv_iload hx hb dX7_share_46 (lv_at hl 6 rfl) ?_
            refine gcalli (va_runS (As := [.int p4, .int p5]) (rest := []) ⟨hx, hb, hml, hown, hts⟩ (c_X7_isSharer l dC dI (wO a cy n0 n1) (tyL cy) H.size I_31 J_32 S_33 L_34 p4 p5 _ h) (va_cwS 2 hts gX7_share_X7_isSharer rfl rfl rfl (by decide +kernel) ⟨(Nat.le_of_ble_eq_true rfl), (Nat.le_of_ble_eq_true rfl)⟩) (g_pS hP hK hD hN [.int p4, .int p5]) rfl rfl hl.1 rfl (lv_room (Nat.le_of_ble_eq_true rfl)) dX7_share_48 ⟨(Nat.le_of_ble_eq_true rfl), (Nat.le_of_ble_eq_true rfl)⟩) hS hA hD (fun r_40 I_36 J_37 S_38 L_39 H locs hP hD hS h => ?_)
            refine lv_if_eq (tgt := 64) hx hb dX7_share_51 (by decide) (fun hc => ?_) (fun hc => ?_)
            · have h := h.1 hc
              exact jB_26 I_36 J_37 S_38 L_39 _ _ _ hP hD hS (lv_sub hl [] rfl) h
            · have h := h.2 hc
              refine lv_iload hx hb dX7_share_54 (lv_at hl 7 rfl) ?_
              refine lv_iload hx hb dX7_share_56 (lv_at hl 8 rfl) ?_
              refine gcalli (va_runS (As := [.int p6, .int p7]) (rest := []) ⟨hx, hb, hml, hown, hts⟩ (c_X7_isSharer l dC dI (wO a cy n0 n1) (tyL cy) H.size I_36 J_37 S_38 L_39 p6 p7 _ h) (va_cwS 2 hts gX7_share_X7_isSharer rfl rfl rfl (by decide +kernel) ⟨(Nat.le_of_ble_eq_true rfl), (Nat.le_of_ble_eq_true rfl)⟩) (g_pS hP hK hD hN [.int p6, .int p7]) rfl rfl hl.1 rfl (lv_room (Nat.le_of_ble_eq_true rfl)) dX7_share_58 ⟨(Nat.le_of_ble_eq_true rfl), (Nat.le_of_ble_eq_true rfl)⟩) hS hA hD (fun r_45 I_41 J_42 S_43 L_44 H locs hP hD hS h => ?_)
              refine lv_if_ne (tgt := 66) hx hb dX7_share_61 (by decide) (fun hc => ?_) (fun hc => ?_)
              · have h := h.1 hc
                refine lv_iload hx hb dX7_share_66 (lv_at hl 5 rfl) ?_
                refine lv_iconst (v := -1) hx hb dX7_share_68 (by decide) ?_
                obtain ⟨B_46, hB_46, h⟩ := h
                have jB_46 : ∀ (I_47 : TI) (J_48 : TJ) (S_49 : TS) (L_50 : TL) (s_51 : Int32) (H : Heap) (locs : List Loc) (ls : Array Slot), va_P (dC, dI) vwCl (wO a cy n0 n1 I_47 J_48 S_49 L_50) H → va_D A (wO a cy n0 n1 I_47 J_48 S_49 L_50) → va_S A s.heap H locs → lv_has ls 12 [(0, .ref (a 53)), (1, .int p0), (2, .int p1), (3, .int p2), (4, .int p3), (5, .int p4), (6, .int p5), (7, .int p6), (8, .int p7)] → B_46 I_47 J_48 S_49 L_50 s_51 → W p l e (headSpec wsX7_share rmX7_share).room s m args below meth c H locs 0 0 (MQ below (gQi dC dI (wO a cy n0 n1) (tyL cy) A Φ) args s 0 0 A) (F0 m 83 ls [.int s_51]) := by
                  intro I_47 J_48 S_49 L_50 s_51 H locs ls hP hD hS hl h
                  have h := hB_46 I_47 J_48 S_49 L_50 s_51 h
                  refine lv_istore (lv' := [(9, .int s_51), (0, .ref (a 53)), (1, .int p0), (2, .int p1), (3, .int p2), (4, .int p3), (5, .int p4), (6, .int p5), (7, .int p6), (8, .int p7)]) hx hb dX7_share_83 hl (by decide) rfl (fun ls hl => ?_)
                  refine lv_iload_n hx hb dX7_share_85 rfl (lv_at hl 4 rfl) ?_
                  refine lv_iload hx hb dX7_share_86 (lv_at hl 6 rfl) ?_
                  obtain ⟨B_52, hB_52, h⟩ := h
                  have jB_52 : ∀ (I_53 : TI) (J_54 : TJ) (S_55 : TS) (L_56 : TL) (x_57 : Int32) (s_58 : Int32) (H : Heap) (locs : List Loc) (ls : Array Slot), va_P (dC, dI) vwCl (wO a cy n0 n1 I_53 J_54 S_55 L_56) H → va_D A (wO a cy n0 n1 I_53 J_54 S_55 L_56) → va_S A s.heap H locs → lv_has ls 12 [(0, .ref (a 53)), (1, .int p0), (2, .int p1), (3, .int p2), (4, .int p3), (5, .int p4), (6, .int p5), (7, .int p6), (8, .int p7), (9, .int x_57)] → B_52 I_53 J_54 S_55 L_56 x_57 s_58 → W p l e (headSpec wsX7_share rmX7_share).room s m args below meth c H locs 0 0 (MQ below (gQi dC dI (wO a cy n0 n1) (tyL cy) A Φ) args s 0 0 A) (F0 m 115 ls [.int s_58]) := by
                    intro I_53 J_54 S_55 L_56 x_57 s_58 H locs ls hP hD hS hl h
                    have h := hB_52 I_53 J_54 S_55 L_56 x_57 s_58 h
                    refine lv_istore (lv' := [(10, .int s_58), (0, .ref (a 53)), (1, .int p0), (2, .int p1), (3, .int p2), (4, .int p3), (5, .int p4), (6, .int p5), (7, .int p6), (8, .int p7), (9, .int x_57)]) hx hb dX7_share_115 hl (by decide) rfl (fun ls hl => ?_)
                    refine lv_iload hx hb dX7_share_117 (lv_at hl 10 rfl) ?_
                    obtain ⟨B_59, hB_59, h⟩ := h
                    have jB_59 : ∀ (I_60 : TI) (J_61 : TJ) (S_62 : TS) (L_63 : TL) (H : Heap) (locs : List Loc) (ls : Array Slot), va_P (dC, dI) vwCl (wO a cy n0 n1 I_60 J_61 S_62 L_63) H → va_D A (wO a cy n0 n1 I_60 J_61 S_62 L_63) → va_S A s.heap H locs → lv_has ls 12 [] → B_59 I_60 J_61 S_62 L_63 → W p l e (headSpec wsX7_share rmX7_share).room s m args below meth c H locs 0 0 (MQ below (gQi dC dI (wO a cy n0 n1) (tyL cy) A Φ) args s 0 0 A) (F0 m 141 ls []) := by
                      intro I_60 J_61 S_62 L_63 H locs ls hP hD hS hl h
                      have h := hB_59 I_60 J_61 S_62 L_63 h
                      refine lv_iconst (v := -1) hx hb dX7_share_141 (by decide) ?_
                      exact gri hx hb hr hlocks hP hK hD hS h dX7_share_142
                    refine lv_if_ne (tgt := 141) hx hb dX7_share_119 (by decide) (fun hc => ?_) (fun hc => ?_)
                    · have h := h.1 hc
                      exact jB_59 I_53 J_54 S_55 L_56 _ _ _ hP hD hS (lv_sub hl [] rfl) h
                    · have h := h.2 hc
                      refine lv_iload hx hb dX7_share_122 (lv_at hl 0 rfl) ?_
                      refine lv_if_ne (tgt := 141) hx hb dX7_share_124 (by decide) (fun hc => ?_) (fun hc => ?_)
                      · have h := h.1 hc
                        exact jB_59 I_53 J_54 S_55 L_56 _ _ _ hP hD hS (lv_sub hl [] rfl) h
                      · have h := h.2 hc
                        refine lv_iload hx hb dX7_share_127 (lv_at hl 5 rfl) ?_
                        refine lv_iload hx hb dX7_share_129 (lv_at hl 7 rfl) ?_
                        refine lv_iadd hx hb dX7_share_131 ?_
                        refine lv_iload hx hb dX7_share_132 (lv_at hl 9 rfl) ?_
                        refine lv_iadd hx hb dX7_share_134 ?_
                        refine lv_sipush (v := 1000) hx hb dX7_share_135 (by decide) ?_
                        refine lv_icmp_eq (tgt := 143) hx hb dX7_share_138 (by decide) (fun hc => ?_) (fun hc => ?_)
                        · have h := h.1 hc
                          refine lv_aload_n hx hb dX7_share_143 rfl (lv_at hl 1 rfl) ?_
                          refine va_get (D := (dC, dI)) (ci := 7) (v := .ref (a 0)) (C := RX7) (T := TX7) (N := 7) hx hb hts nX7_share_X7 hown hK hP 0 (wO_atO _ _ _ _ _ _ _ _) rfl 0 (by decide) (hts (.fieldLink RX7 10 "SongOffice" "shares" "LSongOffice$ShareBook;") kX7_share_1) (fun _ h9 => h9) rfl dX7_share_144 ?_
                          refine lv_iload_n hx hb dX7_share_147 rfl (lv_at hl 2 rfl) ?_
                          refine lv_iload_n hx hb dX7_share_148 rfl (lv_at hl 3 rfl) ?_
                          refine gcalli (va_runV (As := [.int p0, .int p1]) (rest := []) ⟨hx, hb, hml, hown, hts⟩ (c_X6_addSet_O l dC dI a cy n0 n1 H.size I_53 J_54 S_55 L_56 p0 p1 _ h) (cwV 2 hts gX7_share_X6_addSet rfl rfl rfl (by decide +kernel) ⟨(Nat.le_of_ble_eq_true rfl), (Nat.le_of_ble_eq_true rfl)⟩) (g_pV hP hK hD hN (va_recv hK hP (ci := 6) (q0 := 1) rfl (wO_at0 _ _ _ _ _ _ _ _)) [.int p0, .int p1]) rfl rfl hl.1 rfl (lv_room (Nat.le_of_ble_eq_true rfl)) dX7_share_149 ⟨(Nat.le_of_ble_eq_true rfl), (Nat.le_of_ble_eq_true rfl)⟩) hS hA hD (fun r_68 I_64 J_65 S_66 L_67 H locs hP hD hS h => ?_)
                          refine lv_istore (lv' := [(11, .int r_68), (10, .int s_58), (0, .ref (a 53)), (1, .int p0), (2, .int p1), (3, .int p2), (4, .int p3), (5, .int p4), (6, .int p5), (7, .int p6), (8, .int p7), (9, .int x_57)]) hx hb dX7_share_152 hl (by decide) rfl (fun ls hl => ?_)
                          refine lv_aload_n hx hb dX7_share_154 rfl (lv_at hl 2 rfl) ?_
                          refine va_get (D := (dC, dI)) (ci := 7) (v := .ref (a 0)) (C := RX7) (T := TX7) (N := 7) hx hb hts nX7_share_X7 hown hK hP 0 (wO_atO _ _ _ _ _ _ _ _) rfl 0 (by decide) (hts (.fieldLink RX7 10 "SongOffice" "shares" "LSongOffice$ShareBook;") kX7_share_1) (fun _ h9 => h9) rfl dX7_share_155 ?_
                          refine lv_iload hx hb dX7_share_158 (lv_at hl 0 rfl) ?_
                          refine lv_iconst (v := 0) hx hb dX7_share_160 (by decide) ?_
                          refine lv_iload_n hx hb dX7_share_161 rfl (lv_at hl 5 rfl) ?_
                          refine lv_iload hx hb dX7_share_162 (lv_at hl 6 rfl) ?_
                          refine gcallv (va_runV (As := [.int r_68, .int (0 : Int32), .int p2, .int p3]) (rest := []) ⟨hx, hb, hml, hown, hts⟩ (c_X6_put_O l dC dI a cy n0 n1 H.size I_64 J_65 S_66 L_67 r_68 (0 : Int32) p2 p3 _ h) (cwV 4 hts gX7_share_X6_put rfl rfl rfl (by decide +kernel) ⟨(Nat.le_of_ble_eq_true rfl), (Nat.le_of_ble_eq_true rfl)⟩) (g_pV hP hK hD hN (va_recv hK hP (ci := 6) (q0 := 1) rfl (wO_at0 _ _ _ _ _ _ _ _)) [.int r_68, .int (0 : Int32), .int p2, .int p3]) rfl rfl hl.1 rfl (lv_room (Nat.le_of_ble_eq_true rfl)) dX7_share_164 ⟨(Nat.le_of_ble_eq_true rfl), (Nat.le_of_ble_eq_true rfl)⟩) hS hA hD (fun I_69 J_70 S_71 L_72 H locs hP hD hS h => ?_)
                          refine lv_aload_n hx hb dX7_share_167 rfl (lv_at hl 2 rfl) ?_
                          refine va_get (D := (dC, dI)) (ci := 7) (v := .ref (a 0)) (C := RX7) (T := TX7) (N := 7) hx hb hts nX7_share_X7 hown hK hP 0 (wO_atO _ _ _ _ _ _ _ _) rfl 0 (by decide) (hts (.fieldLink RX7 10 "SongOffice" "shares" "LSongOffice$ShareBook;") kX7_share_1) (fun _ h9 => h9) rfl dX7_share_168 ?_
                          refine lv_iload hx hb dX7_share_171 (lv_at hl 0 rfl) ?_
                          refine lv_iconst (v := 1) hx hb dX7_share_173 (by decide) ?_
                          refine lv_iload hx hb dX7_share_174 (lv_at hl 7 rfl) ?_
                          refine lv_iload hx hb dX7_share_176 (lv_at hl 8 rfl) ?_
                          refine gcallv (va_runV (As := [.int r_68, .int (1 : Int32), .int p4, .int p5]) (rest := []) ⟨hx, hb, hml, hown, hts⟩ (c_X6_put_O l dC dI a cy n0 n1 H.size I_69 J_70 S_71 L_72 r_68 (1 : Int32) p4 p5 _ h) (cwV 4 hts gX7_share_X6_put rfl rfl rfl (by decide +kernel) ⟨(Nat.le_of_ble_eq_true rfl), (Nat.le_of_ble_eq_true rfl)⟩) (g_pV hP hK hD hN (va_recv hK hP (ci := 6) (q0 := 1) rfl (wO_at0 _ _ _ _ _ _ _ _)) [.int r_68, .int (1 : Int32), .int p4, .int p5]) rfl rfl hl.1 rfl (lv_room (Nat.le_of_ble_eq_true rfl)) dX7_share_178 ⟨(Nat.le_of_ble_eq_true rfl), (Nat.le_of_ble_eq_true rfl)⟩) hS hA hD (fun I_73 J_74 S_75 L_76 H locs hP hD hS h => ?_)
                          refine lv_aload_n hx hb dX7_share_181 rfl (lv_at hl 2 rfl) ?_
                          refine va_get (D := (dC, dI)) (ci := 7) (v := .ref (a 0)) (C := RX7) (T := TX7) (N := 7) hx hb hts nX7_share_X7 hown hK hP 0 (wO_atO _ _ _ _ _ _ _ _) rfl 0 (by decide) (hts (.fieldLink RX7 10 "SongOffice" "shares" "LSongOffice$ShareBook;") kX7_share_1) (fun _ h9 => h9) rfl dX7_share_182 ?_
                          refine lv_iload hx hb dX7_share_185 (lv_at hl 0 rfl) ?_
                          refine lv_iconst (v := 2) hx hb dX7_share_187 (by decide) ?_
                          refine lv_iload hx hb dX7_share_188 (lv_at hl 9 rfl) ?_
                          refine lv_iload hx hb dX7_share_190 (lv_at hl 10 rfl) ?_
                          refine gcallv (va_runV (As := [.int r_68, .int (2 : Int32), .int p6, .int p7]) (rest := []) ⟨hx, hb, hml, hown, hts⟩ (c_X6_put_O l dC dI a cy n0 n1 H.size I_73 J_74 S_75 L_76 r_68 (2 : Int32) p6 p7 _ h) (cwV 4 hts gX7_share_X6_put rfl rfl rfl (by decide +kernel) ⟨(Nat.le_of_ble_eq_true rfl), (Nat.le_of_ble_eq_true rfl)⟩) (g_pV hP hK hD hN (va_recv hK hP (ci := 6) (q0 := 1) rfl (wO_at0 _ _ _ _ _ _ _ _)) [.int r_68, .int (2 : Int32), .int p6, .int p7]) rfl rfl hl.1 rfl (lv_room (Nat.le_of_ble_eq_true rfl)) dX7_share_192 ⟨(Nat.le_of_ble_eq_true rfl), (Nat.le_of_ble_eq_true rfl)⟩) hS hA hD (fun I_77 J_78 S_79 L_80 H locs hP hD hS h => ?_)
                          refine lv_aload_n hx hb dX7_share_195 rfl (lv_at hl 2 rfl) ?_
                          refine va_get (D := (dC, dI)) (ci := 7) (v := .ref (a 0)) (C := RX7) (T := TX7) (N := 7) hx hb hts nX7_share_X7 hown hK hP 0 (wO_atO _ _ _ _ _ _ _ _) rfl 0 (by decide) (hts (.fieldLink RX7 10 "SongOffice" "shares" "LSongOffice$ShareBook;") kX7_share_1) (fun _ h9 => h9) rfl dX7_share_196 ?_
                          refine va_get (D := (dC, dI)) (ci := 6) (v := .ref (a 1)) (C := RX6) (T := TX6) (N := 4) hx hb hts nX7_share_X6 hown hK hP 1 (wO_at0 _ _ _ _ _ _ _ _) rfl 0 (by decide) (hts (.fieldLink RX7 82 "SongOffice$ShareBook" "sets" "[I") kX7_share_2) (fun _ h9 => h9) rfl dX7_share_199 ?_
                          refine lv_iload_n hx hb dX7_share_202 rfl (lv_at hl 3 rfl) ?_
                          obtain ⟨hi, h⟩ := h
                          refine va_iald hx hb hK hP 2 0 (wO_at1 _ _ _ _ _ _ _ _) rfl hi dX7_share_203 ?_
                          exact gri hx hb hr hlocks hP hK hD hS h dX7_share_204
                        · have h := h.2 hc
                          exact jB_59 I_53 J_54 S_55 L_56 _ _ _ hP hD hS (lv_sub hl [] rfl) h
                  obtain ⟨B_81, hB_81, h⟩ := h
                  have jB_81 : ∀ (I_82 : TI) (J_83 : TJ) (S_84 : TS) (L_85 : TL) (x_86 : Int32) (H : Heap) (locs : List Loc) (ls : Array Slot), va_P (dC, dI) vwCl (wO a cy n0 n1 I_82 J_83 S_84 L_85) H → va_D A (wO a cy n0 n1 I_82 J_83 S_84 L_85) → va_S A s.heap H locs → lv_has ls 12 [(0, .ref (a 53)), (1, .int p0), (2, .int p1), (3, .int p2), (4, .int p3), (5, .int p4), (6, .int p5), (7, .int p6), (8, .int p7), (9, .int x_86)] → B_81 I_82 J_83 S_84 L_85 x_86 → W p l e (headSpec wsX7_share rmX7_share).room s m args below meth c H locs 0 0 (MQ below (gQi dC dI (wO a cy n0 n1) (tyL cy) A Φ) args s 0 0 A) (F0 m 110 ls []) := by
                    intro I_82 J_83 S_84 L_85 x_86 H locs ls hP hD hS hl h
                    have h := hB_81 I_82 J_83 S_84 L_85 x_86 h
                    refine lv_iconst (v := 1) hx hb dX7_share_110 (by decide) ?_
                    refine lv_goto (tgt := 115) hx hb dX7_share_111 (by decide) ?_
                    exact jB_52 I_82 J_83 S_84 L_85 x_86 (1 : Int32) _ _ _ hP hD hS (lv_sub hl [0, 1, 2, 3, 4, 5, 6, 7, 8, 9] rfl) h
                  refine lv_icmp_eq (tgt := 110) hx hb dX7_share_88 (by decide) (fun hc => ?_) (fun hc => ?_)
                  · have h := h.1 hc
                    exact jB_81 I_47 J_48 S_49 L_50 s_51 _ _ _ hP hD hS (lv_sub hl [1, 2, 3, 4, 5, 6, 7, 8, 9, 0] rfl) h
                  · have h := h.2 hc
                    refine lv_iload_n hx hb dX7_share_91 rfl (lv_at hl 4 rfl) ?_
                    refine lv_iload hx hb dX7_share_92 (lv_at hl 8 rfl) ?_
                    refine lv_icmp_eq (tgt := 110) hx hb dX7_share_94 (by decide) (fun hc => ?_) (fun hc => ?_)
                    · have h := h.1 hc
                      exact jB_81 I_47 J_48 S_49 L_50 s_51 _ _ _ hP hD hS (lv_sub hl [1, 2, 3, 4, 5, 6, 7, 8, 9, 0] rfl) h
                    · have h := h.2 hc
                      refine lv_iload hx hb dX7_share_97 (lv_at hl 6 rfl) ?_
                      refine lv_iconst (v := -1) hx hb dX7_share_99 (by decide) ?_
                      obtain ⟨B_87, hB_87, h⟩ := h
                      have jB_87 : ∀ (I_88 : TI) (J_89 : TJ) (S_90 : TS) (L_91 : TL) (x_92 : Int32) (H : Heap) (locs : List Loc) (ls : Array Slot), va_P (dC, dI) vwCl (wO a cy n0 n1 I_88 J_89 S_90 L_91) H → va_D A (wO a cy n0 n1 I_88 J_89 S_90 L_91) → va_S A s.heap H locs → lv_has ls 12 [(0, .ref (a 53)), (1, .int p0), (2, .int p1), (3, .int p2), (4, .int p3), (5, .int p4), (6, .int p5), (7, .int p6), (8, .int p7), (9, .int x_92)] → B_87 I_88 J_89 S_90 L_91 x_92 → W p l e (headSpec wsX7_share rmX7_share).room s m args below meth c H locs 0 0 (MQ below (gQi dC dI (wO a cy n0 n1) (tyL cy) A Φ) args s 0 0 A) (F0 m 114 ls []) := by
                        intro I_88 J_89 S_90 L_91 x_92 H locs ls hP hD hS hl h
                        have h := hB_87 I_88 J_89 S_90 L_91 x_92 h
                        refine lv_iconst (v := 0) hx hb dX7_share_114 (by decide) ?_
                        exact jB_52 I_88 J_89 S_90 L_91 x_92 (0 : Int32) _ _ _ hP hD hS (lv_sub hl [0, 1, 2, 3, 4, 5, 6, 7, 8, 9] rfl) h
                      refine lv_icmp_eq (tgt := 114) hx hb dX7_share_100 (by decide) (fun hc => ?_) (fun hc => ?_)
                      · have h := h.1 hc
                        exact jB_87 I_47 J_48 S_49 L_50 s_51 _ _ _ hP hD hS (lv_sub hl [1, 2, 3, 4, 5, 6, 7, 8, 9, 0] rfl) h
                      · have h := h.2 hc
                        refine lv_iload hx hb dX7_share_103 (lv_at hl 6 rfl) ?_
                        refine lv_iload hx hb dX7_share_105 (lv_at hl 8 rfl) ?_
                        refine lv_icmp_ne (tgt := 114) hx hb dX7_share_107 (by decide) (fun hc => ?_) (fun hc => ?_)
                        · have h := h.1 hc
                          exact jB_87 I_47 J_48 S_49 L_50 s_51 _ _ _ hP hD hS (lv_sub hl [1, 2, 3, 4, 5, 6, 7, 8, 9, 0] rfl) h
                        · have h := h.2 hc
                          exact jB_81 I_47 J_48 S_49 L_50 s_51 _ _ _ hP hD hS (lv_sub hl [1, 2, 3, 4, 5, 6, 7, 8, 9, 0] rfl) h
                obtain ⟨B_93, hB_93, h⟩ := h
                have jB_93 : ∀ (I_94 : TI) (J_95 : TJ) (S_96 : TS) (L_97 : TL) (H : Heap) (locs : List Loc) (ls : Array Slot), va_P (dC, dI) vwCl (wO a cy n0 n1 I_94 J_95 S_96 L_97) H → va_D A (wO a cy n0 n1 I_94 J_95 S_96 L_97) → va_S A s.heap H locs → lv_has ls 12 [(0, .ref (a 53)), (1, .int p0), (2, .int p1), (3, .int p2), (4, .int p3), (5, .int p4), (6, .int p5), (7, .int p6), (8, .int p7)] → B_93 I_94 J_95 S_96 L_97 → W p l e (headSpec wsX7_share rmX7_share).room s m args below meth c H locs 0 0 (MQ below (gQi dC dI (wO a cy n0 n1) (tyL cy) A Φ) args s 0 0 A) (F0 m 82 ls []) := by
                  intro I_94 J_95 S_96 L_97 H locs ls hP hD hS hl h
                  have h := hB_93 I_94 J_95 S_96 L_97 h
                  refine lv_iconst (v := 0) hx hb dX7_share_82 (by decide) ?_
                  exact jB_46 I_94 J_95 S_96 L_97 (0 : Int32) _ _ _ hP hD hS (lv_sub hl [0, 1, 2, 3, 4, 5, 6, 7, 8] rfl) h
                refine lv_icmp_ne (tgt := 82) hx hb dX7_share_69 (by decide) (fun hc => ?_) (fun hc => ?_)
                · have h := h.1 hc
                  exact jB_93 I_41 J_42 S_43 L_44 _ _ _ hP hD hS (lv_sub hl [0, 1, 2, 3, 4, 5, 6, 7, 8] rfl) h
                · have h := h.2 hc
                  refine lv_iload hx hb dX7_share_72 (lv_at hl 7 rfl) ?_
                  refine lv_iconst (v := -1) hx hb dX7_share_74 (by decide) ?_
                  refine lv_icmp_eq (tgt := 82) hx hb dX7_share_75 (by decide) (fun hc => ?_) (fun hc => ?_)
                  · have h := h.1 hc
                    exact jB_93 I_41 J_42 S_43 L_44 _ _ _ hP hD hS (lv_sub hl [0, 1, 2, 3, 4, 5, 6, 7, 8] rfl) h
                  · have h := h.2 hc
                    refine lv_iconst (v := 1) hx hb dX7_share_78 (by decide) ?_
                    refine lv_goto (tgt := 83) hx hb dX7_share_79 (by decide) ?_
                    exact jB_46 I_41 J_42 S_43 L_44 (1 : Int32) _ _ _ hP hD hS (lv_sub hl [0, 1, 2, 3, 4, 5, 6, 7, 8] rfl) h
              · have h := h.2 hc
                exact jB_26 I_41 J_42 S_43 L_44 _ _ _ hP hD hS (lv_sub hl [] rfl) h
      · have h := h.2 hc
        exact jB_6 I_16 J_17 S_18 L_19 _ _ _ hP hD hS (lv_sub hl [] rfl) h
def wp_X7_bargain (n0 n1 : Nat) (I : TI) (J : TJ) (S : TS) (L : TL) (p0 : Int32) (p1 : Int32) (p2 : Int32) (p3 : Int32) (p4 : Int32) (p5 : Int32) (p6 : Int32) (p7 : Int32) (Φ : Int32 → TI → TJ → TS → TL → Prop) : Prop := ∃ B_1 : TI → TJ → TS → TL → Prop, (∀ (I_2 : TI) (J_3 : TJ) (S_4 : TS) (L_5 : TL), B_1 I_2 J_3 S_4 L_5 → (Φ (-1 : Int32) I_2 J_3 S_4 L_5)) ∧ (((p0 < 0) → (B_1 I J S L)) ∧ ((¬ p0 < 0) → ((((4 : Int32) < p0) → (B_1 I J S L)) ∧ ((¬ (4 : Int32) < p0) → (wp_X7_isHand I J S L p1 (fun (r_10 : Int32) (I_6 : TI) (J_7 : TJ) (S_8 : TS) (L_9 : TL) => (((r_10 = 0) → (B_1 I_6 J_7 S_8 L_9)) ∧ ((¬ r_10 = 0) → (((p2 < (1 : Int32)) → (B_1 I_6 J_7 S_8 L_9)) ∧ ((¬ p2 < (1 : Int32)) → (((p2 ≤ (4095 : Int32)) → (wp_X7_isDayAhead n0 n1 I_6 J_7 S_8 L_9 p3 (fun (r_15 : Int32) (I_11 : TI) (J_12 : TJ) (S_13 : TS) (L_14 : TL) => (∃ B_16 : TI → TJ → TS → TL → Prop, (∀ (I_17 : TI) (J_18 : TJ) (S_19 : TS) (L_20 : TL), B_16 I_17 J_18 S_19 L_20 → (Φ (-1 : Int32) I_17 J_18 S_19 L_20)) ∧ (((r_15 = 0) → (B_16 I_11 J_12 S_13 L_14)) ∧ ((¬ r_15 = 0) → ((((24 : Int32) ≤ (S_13 1)) → (B_16 I_11 J_12 S_13 L_14)) ∧ ((¬ (24 : Int32) ≤ (S_13 1)) → (wp_X7_termsFit I_11 J_12 S_13 L_14 p0 p4 p5 p6 (fun (r_25 : Int32) (I_21 : TI) (J_22 : TJ) (S_23 : TS) (L_24 : TL) => (((¬ r_25 = 0) → (wp_X7_passesOn I_21 J_22 S_23 L_24 p0 (fun (r_30 : Int32) (I_26 : TI) (J_27 : TJ) (S_28 : TS) (L_29 : TL) => (∃ B_31 : TI → TJ → TS → TL → Prop, (∀ (I_32 : TI) (J_33 : TJ) (S_34 : TS) (L_35 : TL), B_31 I_32 J_33 S_34 L_35 → (wp_X0_add_O n0 n1 I_32 J_33 S_34 L_35 p0 p1 p2 p3 (fun (r_40 : Int32) (I_36 : TI) (J_37 : TJ) (S_38 : TS) (L_39 : TL) => (wp_X0_agree_O n0 n1 I_36 J_37 S_38 L_39 r_40 p4 p5 p6 p7 (fun (I_41 : TI) (J_42 : TJ) (S_43 : TS) (L_44 : TL) => (Φ r_40 I_41 J_42 S_43 L_44)))))) ∧ (((r_30 = 0) → (B_31 I_26 J_27 S_28 L_29)) ∧ ((¬ r_30 = 0) → (wp_X7_isHand I_26 J_27 S_28 L_29 p7 (fun (r_49 : Int32) (I_45 : TI) (J_46 : TJ) (S_47 : TS) (L_48 : TL) => (∃ B_50 : TI → TJ → TS → TL → Prop, (∀ (I_51 : TI) (J_52 : TJ) (S_53 : TS) (L_54 : TL), B_50 I_51 J_52 S_53 L_54 → (Φ (-1 : Int32) I_51 J_52 S_53 L_54)) ∧ (((r_49 = 0) → (B_50 I_45 J_46 S_47 L_48)) ∧ ((¬ r_49 = 0) → (((¬ p7 = p1) → (B_31 I_45 J_46 S_47 L_48)) ∧ ((p7 = p1) → (B_50 I_45 J_46 S_47 L_48)))))))))))))) ∧ ((r_25 = 0) → (B_16 I_21 J_22 S_23 L_24))))))))))))) ∧ ((¬ p2 ≤ (4095 : Int32)) → (B_1 I_6 J_7 S_8 L_9)))))))))))))
theorem nX7_bargain_X7 : ∀ w ∈ wsX70, w ∈ wsX7_bargain := fun _ h => List.mem_cons_of_mem _ (List.mem_append_left _ (List.mem_append_left _ (List.mem_append_right _ h)))
theorem kX7_bargain_1 : Cond.fieldLink RX7 19 "SongOffice" "bargains" "LSongOffice$BargainBook;" ∈ wsX7_bargain := List.mem_of_getElem? (i := 1) rfl
theorem nX7_bargain_X0 : ∀ w ∈ wsX00, w ∈ wsX7_bargain := fun _ h => List.mem_cons_of_mem _ (List.mem_append_left _ (List.mem_append_right _ h))
theorem kX7_bargain_2 : Cond.fieldLink RX7 86 "SongOffice$BargainBook" "size" "I" ∈ wsX7_bargain := List.mem_of_getElem? (i := 2) rfl
abbrev rmX7_bargain : Room := { frames := 2, cells := 0, slots := 0, locals := 43 }
set_option maxHeartbeats 4000000 in
set_option maxRecDepth 100000 in
theorem c_X7_bargain (l : Launch) (dC : Nat → ClassId) (dI : Nat → Nat → Nat) (a : Nat → Nat) (cy : Nat → ClassId) (n0 n1 : Nat) (sz : Nat) (I : TI) (J : TJ) (S : TS) (L : TL) (p0 : Int32) (p1 : Int32) (p2 : Int32) (p3 : Int32) (p4 : Int32) (p5 : Int32) (p6 : Int32) (p7 : Int32) (Φ : Int32 → TI → TJ → TS → TL → Prop) (h : wp_X7_bargain n0 n1 I J S L p0 p1 p2 p3 p4 p5 p6 p7 Φ) : Met l yX7_bargain wsX7_bargain rmX7_bargain (va_Pc [.ref (a 53), .int p0, .int p1, .int p2, .int p3, .int p4, .int p5, .int p6, .int p7] (gpre dC dI (wO a cy n0 n1 I J S L) (tyL cy) sz)) (gQi dC dI (wO a cy n0 n1) (tyL cy) (va_A (wO a cy n0 n1 I J S L) sz) Φ) 0 0 (va_A (wO a cy n0 n1 I J S L) sz) := by
  refine Met.ofW (cc := cX7_bargain) (maxL := 10) (ret := (some .int)) (by decide) rfl ?_
  intro p e s m args below meth c s₁ B hml hv
  obtain ⟨hargs, hsz, hP, hK, hD0, hN⟩ := hv
  have hx := B.exec
  have hb := B.bytes
  have hr := B.returns
  have hts := atoms_spec (ws := wsX7_bargain) B.pre
  have hown : s.vm.findClass RX7 = some m.cls := findClass_of_methodNamed B.named
  have hlocks := B.notSynchronized
  subst hsz
  have hD := hD0.self (sz := s.heap.size)
  generalize hAe : va_A (wO a cy n0 n1 I J S L) s.heap.size = A at hD ⊢
  have hA : ∀ q : Nat, s.heap.size ≤ q → A q := fun q h => by rw [← hAe]; exact Or.inr h
  obtain ⟨H, hH⟩ : ∃ z : Heap, z = s.heap := ⟨_, rfl⟩
  rw [← hH] at hP
  have hS : va_S A s.heap H [] := by rw [hH]; exact va_S.rf
  have hl := lv_entry ([.ref (a 53), .int p0, .int p1, .int p2, .int p3, .int p4, .int p5, .int p6, .int p7]) (n := 10) (Nat.le_of_ble_eq_true rfl)
  have hE : entryFrame m args 10 = F0 m 0 ((lg_sl ([.ref (a 53), .int p0, .int p1, .int p2, .int p3, .int p4, .int p5, .int p6, .int p7]) ++ List.replicate (10 - (lg_sl ([.ref (a 53), .int p0, .int p1, .int p2, .int p3, .int p4, .int p5, .int p6, .int p7])).length) Slot.unset).toArray) [] := by rw [hargs]; exact lg_entry_eq m _ _
  rw [hE, ← hH]
  clear hE
  generalize (lg_sl ([.ref (a 53), .int p0, .int p1, .int p2, .int p3, .int p4, .int p5, .int p6, .int p7]) ++ List.replicate (10 - (lg_sl ([.ref (a 53), .int p0, .int p1, .int p2, .int p3, .int p4, .int p5, .int p6, .int p7])).length) Slot.unset).toArray = ls at hl ⊢
  have hl : lv_has ls 10 [(0, .ref (a 53)), (1, .int p0), (2, .int p1), (3, .int p2), (4, .int p3), (5, .int p4), (6, .int p5), (7, .int p6), (8, .int p7)] := hl
  unfold wp_X7_bargain at h
  refine lv_iload_n hx hb dX7_bargain_0 rfl (lv_at hl 1 rfl) ?_
  obtain ⟨B_1, hB_1, h⟩ := h
  have jB_1 : ∀ (I_2 : TI) (J_3 : TJ) (S_4 : TS) (L_5 : TL) (H : Heap) (locs : List Loc) (ls : Array Slot), va_P (dC, dI) vwCl (wO a cy n0 n1 I_2 J_3 S_4 L_5) H → va_D A (wO a cy n0 n1 I_2 J_3 S_4 L_5) → va_S A s.heap H locs → lv_has ls 10 [] → B_1 I_2 J_3 S_4 L_5 → W p l e (headSpec wsX7_bargain rmX7_bargain).room s m args below meth c H locs 0 0 (MQ below (gQi dC dI (wO a cy n0 n1) (tyL cy) A Φ) args s 0 0 A) (F0 m 28 ls []) := by
    intro I_2 J_3 S_4 L_5 H locs ls hP hD hS hl h
    have h := hB_1 I_2 J_3 S_4 L_5 h
    refine lv_iconst (v := -1) hx hb dX7_bargain_28 (by decide) ?_
    exact gri hx hb hr hlocks hP hK hD hS h dX7_bargain_29
  refine lv_if_lt (tgt := 28) hx hb dX7_bargain_1 (by decide) (fun hc => ?_) (fun hc => ?_)
  · have h := h.1 hc
    exact jB_1 I J S L _ _ _ hP hD hS (lv_sub hl [] rfl) h
  · have h := h.2 hc
    refine lv_iload_n hx hb dX7_bargain_4 rfl (lv_at hl 1 rfl) ?_
    refine lv_iconst (v := 4) hx hb dX7_bargain_5 (by decide) ?_
    refine lv_icmp_gt (tgt := 28) hx hb dX7_bargain_6 (by decide) (fun hc => ?_) (fun hc => ?_)
    · have h := h.1 hc
      exact jB_1 I J S L _ _ _ hP hD hS (lv_sub hl [] rfl) h
    · have h := h.2 hc
      refine lv_iload_n hx hb dX7_bargain_9 rfl (lv_at hl 2 rfl) ?_
      refine gcalli (va_runS (As := [.int p1]) (rest := []) ⟨hx, hb, hml, hown, hts⟩ (c_X7_isHand l dC dI (wO a cy n0 n1) (tyL cy) H.size I J S L p1 _ h) (va_cwS 1 hts gX7_bargain_X7_isHand rfl rfl rfl (by decide +kernel) ⟨(Nat.le_of_ble_eq_true rfl), (Nat.le_of_ble_eq_true rfl)⟩) (g_pS hP hK hD hN [.int p1]) rfl rfl hl.1 rfl (lv_room (Nat.le_of_ble_eq_true rfl)) dX7_bargain_10 ⟨(Nat.le_of_ble_eq_true rfl), (Nat.le_of_ble_eq_true rfl)⟩) hS hA hD (fun r_10 I_6 J_7 S_8 L_9 H locs hP hD hS h => ?_)
      refine lv_if_eq (tgt := 28) hx hb dX7_bargain_13 (by decide) (fun hc => ?_) (fun hc => ?_)
      · have h := h.1 hc
        exact jB_1 I_6 J_7 S_8 L_9 _ _ _ hP hD hS (lv_sub hl [] rfl) h
      · have h := h.2 hc
        refine lv_iload_n hx hb dX7_bargain_16 rfl (lv_at hl 3 rfl) ?_
        refine lv_iconst (v := 1) hx hb dX7_bargain_17 (by decide) ?_
        refine lv_icmp_lt (tgt := 28) hx hb dX7_bargain_18 (by decide) (fun hc => ?_) (fun hc => ?_)
        · have h := h.1 hc
          exact jB_1 I_6 J_7 S_8 L_9 _ _ _ hP hD hS (lv_sub hl [] rfl) h
        · have h := h.2 hc
          refine lv_iload_n hx hb dX7_bargain_21 rfl (lv_at hl 3 rfl) ?_
          refine lv_sipush (v := 4095) hx hb dX7_bargain_22 (by decide) ?_
          refine lv_icmp_le (tgt := 30) hx hb dX7_bargain_25 (by decide) (fun hc => ?_) (fun hc => ?_)
          · have h := h.1 hc
            refine lv_aload_n hx hb dX7_bargain_30 rfl (lv_at hl 0 rfl) ?_
            refine lv_iload hx hb dX7_bargain_31 (lv_at hl 4 rfl) ?_
            refine gcalli (va_runV (As := [.int p3]) (rest := []) ⟨hx, hb, hml, hown, hts⟩ (c_X7_isDayAhead l dC dI a cy n0 n1 H.size I_6 J_7 S_8 L_9 p3 _ h) (cwV 1 hts gX7_bargain_X7_isDayAhead rfl rfl rfl (by decide +kernel) ⟨(Nat.le_of_ble_eq_true rfl), (Nat.le_of_ble_eq_true rfl)⟩) (g_pV hP hK hD hN (va_recv hK hP (ci := 7) (q0 := 0) rfl (wO_atO _ _ _ _ _ _ _ _)) [.int p3]) rfl rfl hl.1 rfl (lv_room (Nat.le_of_ble_eq_true rfl)) dX7_bargain_33 ⟨(Nat.le_of_ble_eq_true rfl), (Nat.le_of_ble_eq_true rfl)⟩) hS hA hD (fun r_15 I_11 J_12 S_13 L_14 H locs hP hD hS h => ?_)
            obtain ⟨B_16, hB_16, h⟩ := h
            have jB_16 : ∀ (I_17 : TI) (J_18 : TJ) (S_19 : TS) (L_20 : TL) (H : Heap) (locs : List Loc) (ls : Array Slot), va_P (dC, dI) vwCl (wO a cy n0 n1 I_17 J_18 S_19 L_20) H → va_D A (wO a cy n0 n1 I_17 J_18 S_19 L_20) → va_S A s.heap H locs → lv_has ls 10 [] → B_16 I_17 J_18 S_19 L_20 → W p l e (headSpec wsX7_bargain rmX7_bargain).room s m args below meth c H locs 0 0 (MQ below (gQi dC dI (wO a cy n0 n1) (tyL cy) A Φ) args s 0 0 A) (F0 m 64 ls []) := by
              intro I_17 J_18 S_19 L_20 H locs ls hP hD hS hl h
              have h := hB_16 I_17 J_18 S_19 L_20 h
              refine lv_iconst (v := -1) hx hb dX7_bargain_64 (by decide) ?_
              exact gri hx hb hr hlocks hP hK hD hS h dX7_bargain_65
            refine lv_if_eq (tgt := 64) hx hb dX7_bargain_36 (by decide) (fun hc => ?_) (fun hc => ?_)
            · have h := h.1 hc
              exact jB_16 I_11 J_12 S_13 L_14 _ _ _ hP hD hS (lv_sub hl [] rfl) h
            · have h := h.2 hc
              refine lv_aload_n hx hb dX7_bargain_39 rfl (lv_at hl 0 rfl) ?_
              refine va_get (D := (dC, dI)) (ci := 7) (v := .ref (a 5)) (C := RX7) (T := TX7) (N := 7) hx hb hts nX7_bargain_X7 hown hK hP 0 (wO_atO _ _ _ _ _ _ _ _) rfl 1 (by decide) (hts (.fieldLink RX7 19 "SongOffice" "bargains" "LSongOffice$BargainBook;") kX7_bargain_1) (fun _ h9 => h9) rfl dX7_bargain_40 ?_
              refine va_get (D := (dC, dI)) (ci := 0) (v := .int (S_13 1)) (C := RX0) (T := TX0) (N := 9) hx hb hts nX7_bargain_X0 hown hK hP 6 (wO_at5 _ _ _ _ _ _ _ _) rfl 8 (by decide) (hts (.fieldLink RX7 86 "SongOffice$BargainBook" "size" "I") kX7_bargain_2) (fun _ h9 => h9) rfl dX7_bargain_43 ?_
              refine lv_bipush (v := 24) hx hb dX7_bargain_46 (by decide) ?_
              refine lv_icmp_ge (tgt := 64) hx hb dX7_bargain_48 (by decide) (fun hc => ?_) (fun hc => ?_)
              · have h := h.1 hc
                exact jB_16 I_11 J_12 S_13 L_14 _ _ _ hP hD hS (lv_sub hl [] rfl) h
              · have h := h.2 hc
                refine lv_iload_n hx hb dX7_bargain_51 rfl (lv_at hl 1 rfl) ?_
                refine lv_iload hx hb dX7_bargain_52 (lv_at hl 5 rfl) ?_
                refine lv_iload hx hb dX7_bargain_54 (lv_at hl 6 rfl) ?_
                refine lv_iload hx hb dX7_bargain_56 (lv_at hl 7 rfl) ?_
                refine gcalli (va_runS (As := [.int p0, .int p4, .int p5, .int p6]) (rest := []) ⟨hx, hb, hml, hown, hts⟩ (c_X7_termsFit l dC dI (wO a cy n0 n1) (tyL cy) H.size I_11 J_12 S_13 L_14 p0 p4 p5 p6 _ h) (va_cwS 4 hts gX7_bargain_X7_termsFit rfl rfl rfl (by decide +kernel) ⟨(Nat.le_of_ble_eq_true rfl), (Nat.le_of_ble_eq_true rfl)⟩) (g_pS hP hK hD hN [.int p0, .int p4, .int p5, .int p6]) rfl rfl hl.1 rfl (lv_room (Nat.le_of_ble_eq_true rfl)) dX7_bargain_58 ⟨(Nat.le_of_ble_eq_true rfl), (Nat.le_of_ble_eq_true rfl)⟩) hS hA hD (fun r_25 I_21 J_22 S_23 L_24 H locs hP hD hS h => ?_)
                refine lv_if_ne (tgt := 66) hx hb dX7_bargain_61 (by decide) (fun hc => ?_) (fun hc => ?_)
                · have h := h.1 hc
                  refine lv_iload_n hx hb dX7_bargain_66 rfl (lv_at hl 1 rfl) ?_
                  refine gcalli (va_runS (As := [.int p0]) (rest := []) ⟨hx, hb, hml, hown, hts⟩ (c_X7_passesOn l dC dI (wO a cy n0 n1) (tyL cy) H.size I_21 J_22 S_23 L_24 p0 _ h) (va_cwS 1 hts gX7_bargain_X7_passesOn rfl rfl rfl (by decide +kernel) ⟨(Nat.le_of_ble_eq_true rfl), (Nat.le_of_ble_eq_true rfl)⟩) (g_pS hP hK hD hN [.int p0]) rfl rfl hl.1 rfl (lv_room (Nat.le_of_ble_eq_true rfl)) dX7_bargain_67 ⟨(Nat.le_of_ble_eq_true rfl), (Nat.le_of_ble_eq_true rfl)⟩) hS hA hD (fun r_30 I_26 J_27 S_28 L_29 H locs hP hD hS h => ?_)
                  obtain ⟨B_31, hB_31, h⟩ := h
                  have jB_31 : ∀ (I_32 : TI) (J_33 : TJ) (S_34 : TS) (L_35 : TL) (H : Heap) (locs : List Loc) (ls : Array Slot), va_P (dC, dI) vwCl (wO a cy n0 n1 I_32 J_33 S_34 L_35) H → va_D A (wO a cy n0 n1 I_32 J_33 S_34 L_35) → va_S A s.heap H locs → lv_has ls 10 [(0, .ref (a 53)), (1, .int p0), (2, .int p1), (3, .int p2), (4, .int p3), (5, .int p4), (6, .int p5), (7, .int p6), (8, .int p7)] → B_31 I_32 J_33 S_34 L_35 → W p l e (headSpec wsX7_bargain rmX7_bargain).room s m args below meth c H locs 0 0 (MQ below (gQi dC dI (wO a cy n0 n1) (tyL cy) A Φ) args s 0 0 A) (F0 m 89 ls []) := by
                    intro I_32 J_33 S_34 L_35 H locs ls hP hD hS hl h
                    have h := hB_31 I_32 J_33 S_34 L_35 h
                    refine lv_aload_n hx hb dX7_bargain_89 rfl (lv_at hl 0 rfl) ?_
                    refine va_get (D := (dC, dI)) (ci := 7) (v := .ref (a 5)) (C := RX7) (T := TX7) (N := 7) hx hb hts nX7_bargain_X7 hown hK hP 0 (wO_atO _ _ _ _ _ _ _ _) rfl 1 (by decide) (hts (.fieldLink RX7 19 "SongOffice" "bargains" "LSongOffice$BargainBook;") kX7_bargain_1) (fun _ h9 => h9) rfl dX7_bargain_90 ?_
                    refine lv_iload_n hx hb dX7_bargain_93 rfl (lv_at hl 1 rfl) ?_
                    refine lv_iload_n hx hb dX7_bargain_94 rfl (lv_at hl 2 rfl) ?_
                    refine lv_iload_n hx hb dX7_bargain_95 rfl (lv_at hl 3 rfl) ?_
                    refine lv_iload hx hb dX7_bargain_96 (lv_at hl 4 rfl) ?_
                    refine gcalli (va_runV (As := [.int p0, .int p1, .int p2, .int p3]) (rest := []) ⟨hx, hb, hml, hown, hts⟩ (c_X0_add_O l dC dI a cy n0 n1 H.size I_32 J_33 S_34 L_35 p0 p1 p2 p3 _ h) (cwV 4 hts gX7_bargain_X0_add rfl rfl rfl (by decide +kernel) ⟨(Nat.le_of_ble_eq_true rfl), (Nat.le_of_ble_eq_true rfl)⟩) (g_pV hP hK hD hN (va_recv hK hP (ci := 0) (q0 := 6) rfl (wO_at5 _ _ _ _ _ _ _ _)) [.int p0, .int p1, .int p2, .int p3]) rfl rfl hl.1 rfl (lv_room (Nat.le_of_ble_eq_true rfl)) dX7_bargain_98 ⟨(Nat.le_of_ble_eq_true rfl), (Nat.le_of_ble_eq_true rfl)⟩) hS hA hD (fun r_40 I_36 J_37 S_38 L_39 H locs hP hD hS h => ?_)
                    refine lv_istore (lv' := [(9, .int r_40), (0, .ref (a 53)), (1, .int p0), (2, .int p1), (3, .int p2), (4, .int p3), (5, .int p4), (6, .int p5), (7, .int p6), (8, .int p7)]) hx hb dX7_bargain_101 hl (by decide) rfl (fun ls hl => ?_)
                    refine lv_aload_n hx hb dX7_bargain_103 rfl (lv_at hl 1 rfl) ?_
                    refine va_get (D := (dC, dI)) (ci := 7) (v := .ref (a 5)) (C := RX7) (T := TX7) (N := 7) hx hb hts nX7_bargain_X7 hown hK hP 0 (wO_atO _ _ _ _ _ _ _ _) rfl 1 (by decide) (hts (.fieldLink RX7 19 "SongOffice" "bargains" "LSongOffice$BargainBook;") kX7_bargain_1) (fun _ h9 => h9) rfl dX7_bargain_104 ?_
                    refine lv_iload hx hb dX7_bargain_107 (lv_at hl 0 rfl) ?_
                    refine lv_iload hx hb dX7_bargain_109 (lv_at hl 6 rfl) ?_
                    refine lv_iload hx hb dX7_bargain_111 (lv_at hl 7 rfl) ?_
                    refine lv_iload hx hb dX7_bargain_113 (lv_at hl 8 rfl) ?_
                    refine lv_iload hx hb dX7_bargain_115 (lv_at hl 9 rfl) ?_
                    refine gcallv (va_runV (As := [.int r_40, .int p4, .int p5, .int p6, .int p7]) (rest := []) ⟨hx, hb, hml, hown, hts⟩ (c_X0_agree_O l dC dI a cy n0 n1 H.size I_36 J_37 S_38 L_39 r_40 p4 p5 p6 p7 _ h) (cwV 5 hts gX7_bargain_X0_agree rfl rfl rfl (by decide +kernel) ⟨(Nat.le_of_ble_eq_true rfl), (Nat.le_of_ble_eq_true rfl)⟩) (g_pV hP hK hD hN (va_recv hK hP (ci := 0) (q0 := 6) rfl (wO_at5 _ _ _ _ _ _ _ _)) [.int r_40, .int p4, .int p5, .int p6, .int p7]) rfl rfl hl.1 rfl (lv_room (Nat.le_of_ble_eq_true rfl)) dX7_bargain_117 ⟨(Nat.le_of_ble_eq_true rfl), (Nat.le_of_ble_eq_true rfl)⟩) hS hA hD (fun I_41 J_42 S_43 L_44 H locs hP hD hS h => ?_)
                    refine lv_iload hx hb dX7_bargain_120 (lv_at hl 0 rfl) ?_
                    exact gri hx hb hr hlocks hP hK hD hS h dX7_bargain_122
                  refine lv_if_eq (tgt := 89) hx hb dX7_bargain_70 (by decide) (fun hc => ?_) (fun hc => ?_)
                  · have h := h.1 hc
                    exact jB_31 I_26 J_27 S_28 L_29 _ _ _ hP hD hS (lv_sub hl [0, 1, 2, 3, 4, 5, 6, 7, 8] rfl) h
                  · have h := h.2 hc
                    refine lv_iload hx hb dX7_bargain_73 (lv_at hl 8 rfl) ?_
                    refine gcalli (va_runS (As := [.int p7]) (rest := []) ⟨hx, hb, hml, hown, hts⟩ (c_X7_isHand l dC dI (wO a cy n0 n1) (tyL cy) H.size I_26 J_27 S_28 L_29 p7 _ h) (va_cwS 1 hts gX7_bargain_X7_isHand rfl rfl rfl (by decide +kernel) ⟨(Nat.le_of_ble_eq_true rfl), (Nat.le_of_ble_eq_true rfl)⟩) (g_pS hP hK hD hN [.int p7]) rfl rfl hl.1 rfl (lv_room (Nat.le_of_ble_eq_true rfl)) dX7_bargain_75 ⟨(Nat.le_of_ble_eq_true rfl), (Nat.le_of_ble_eq_true rfl)⟩) hS hA hD (fun r_49 I_45 J_46 S_47 L_48 H locs hP hD hS h => ?_)
                    obtain ⟨B_50, hB_50, h⟩ := h
                    have jB_50 : ∀ (I_51 : TI) (J_52 : TJ) (S_53 : TS) (L_54 : TL) (H : Heap) (locs : List Loc) (ls : Array Slot), va_P (dC, dI) vwCl (wO a cy n0 n1 I_51 J_52 S_53 L_54) H → va_D A (wO a cy n0 n1 I_51 J_52 S_53 L_54) → va_S A s.heap H locs → lv_has ls 10 [] → B_50 I_51 J_52 S_53 L_54 → W p l e (headSpec wsX7_bargain rmX7_bargain).room s m args below meth c H locs 0 0 (MQ below (gQi dC dI (wO a cy n0 n1) (tyL cy) A Φ) args s 0 0 A) (F0 m 87 ls []) := by
                      intro I_51 J_52 S_53 L_54 H locs ls hP hD hS hl h
                      have h := hB_50 I_51 J_52 S_53 L_54 h
                      refine lv_iconst (v := -1) hx hb dX7_bargain_87 (by decide) ?_
                      exact gri hx hb hr hlocks hP hK hD hS h dX7_bargain_88
                    refine lv_if_eq (tgt := 87) hx hb dX7_bargain_78 (by decide) (fun hc => ?_) (fun hc => ?_)
                    · have h := h.1 hc
                      exact jB_50 I_45 J_46 S_47 L_48 _ _ _ hP hD hS (lv_sub hl [] rfl) h
                    · have h := h.2 hc
                      refine lv_iload hx hb dX7_bargain_81 (lv_at hl 8 rfl) ?_
                      refine lv_iload_n hx hb dX7_bargain_83 rfl (lv_at hl 2 rfl) ?_
                      refine lv_icmp_ne (tgt := 89) hx hb dX7_bargain_84 (by decide) (fun hc => ?_) (fun hc => ?_)
                      · have h := h.1 hc
                        exact jB_31 I_45 J_46 S_47 L_48 _ _ _ hP hD hS (lv_sub hl [0, 1, 2, 3, 4, 5, 6, 7, 8] rfl) h
                      · have h := h.2 hc
                        exact jB_50 I_45 J_46 S_47 L_48 _ _ _ hP hD hS (lv_sub hl [] rfl) h
                · have h := h.2 hc
                  exact jB_16 I_21 J_22 S_23 L_24 _ _ _ hP hD hS (lv_sub hl [] rfl) h
          · have h := h.2 hc
            exact jB_1 I_6 J_7 S_8 L_9 _ _ _ hP hD hS (lv_sub hl [] rfl) h
def wp_X7_report (n0 n1 : Nat) (I : TI) (J : TJ) (S : TS) (L : TL) (p0 : Int32) (p1 : Int32) (p2 : Int32) (p3 : Int32) (p4 : Int32) (Φ : Int32 → TI → TJ → TS → TL → Prop) : Prop := ∀ x_1 : Int32, x_1 = (S 3) → (∃ B_2 : TI → TJ → TS → TL → Prop, (∀ (I_3 : TI) (J_4 : TJ) (S_5 : TS) (L_6 : TL), B_2 I_3 J_4 S_5 L_6 → (Φ (0 : Int32) I_3 J_4 S_5 L_6)) ∧ ((((40 : Int32) ≤ x_1) → (B_2 I J S L)) ∧ ((¬ (40 : Int32) ≤ x_1) → (wp_X7_reportFits n0 n1 I J S L p0 p1 p2 p3 p4 (fun (r_11 : Int32) (I_7 : TI) (J_8 : TJ) (S_9 : TS) (L_10 : TL) => (((¬ r_11 = 0) → (wp_X4_put_O n0 n1 I_7 J_8 S_9 L_10 x_1 p0 p1 p2 p3 p4 (fun (I_12 : TI) (J_13 : TJ) (S_14 : TS) (L_15 : TL) => (Φ (1 : Int32) I_12 J_13 S_14 L_15)))) ∧ ((r_11 = 0) → (B_2 I_7 J_8 S_9 L_10))))))))
theorem nX7_report_X7 : ∀ w ∈ wsX70, w ∈ wsX7_report := fun _ h => List.mem_cons_of_mem _ (List.mem_append_left _ (List.mem_append_left _ (List.mem_append_left _ (List.mem_append_right _ h))))
theorem kX7_report_3 : Cond.fieldLink RX7 26 "SongOffice" "reports" "LSongOffice$ReportBook;" ∈ wsX7_report := List.mem_of_getElem? (i := 3) rfl
theorem nX7_report_X2 : ∀ w ∈ wsX20, w ∈ wsX7_report := fun _ h => List.mem_cons_of_mem _ (List.mem_append_left _ (List.mem_append_left _ (List.mem_append_right _ h)))
theorem kX7_report_2 : Cond.fieldLink RX7 105 "SongOffice$Ledger" "closed" "I" ∈ wsX7_report := List.mem_of_getElem? (i := 2) rfl
theorem kX7_report_1 : Cond.fieldLink RX7 47 "SongOffice" "standing" "LSongOffice$Ledger;" ∈ wsX7_report := List.mem_of_getElem? (i := 1) rfl
abbrev rmX7_report : Room := { frames := 2, cells := 0, slots := 0, locals := 45 }
set_option maxHeartbeats 4000000 in
set_option maxRecDepth 100000 in
theorem c_X7_report (l : Launch) (dC : Nat → ClassId) (dI : Nat → Nat → Nat) (a : Nat → Nat) (cy : Nat → ClassId) (n0 n1 : Nat) (sz : Nat) (I : TI) (J : TJ) (S : TS) (L : TL) (p0 : Int32) (p1 : Int32) (p2 : Int32) (p3 : Int32) (p4 : Int32) (Φ : Int32 → TI → TJ → TS → TL → Prop) (h : wp_X7_report n0 n1 I J S L p0 p1 p2 p3 p4 Φ) : Met l yX7_report wsX7_report rmX7_report (va_Pc [.ref (a 53), .int p0, .int p1, .int p2, .int p3, .int p4] (gpre dC dI (wO a cy n0 n1 I J S L) (tyL cy) sz)) (gQi dC dI (wO a cy n0 n1) (tyL cy) (va_A (wO a cy n0 n1 I J S L) sz) Φ) 0 0 (va_A (wO a cy n0 n1 I J S L) sz) := by
  refine Met.ofW (cc := cX7_report) (maxL := 7) (ret := (some .boolean)) (by decide) rfl ?_
  intro p e s m args below meth c s₁ B hml hv
  obtain ⟨hargs, hsz, hP, hK, hD0, hN⟩ := hv
  have hx := B.exec
  have hb := B.bytes
  have hr := B.returns
  have hts := atoms_spec (ws := wsX7_report) B.pre
  have hown : s.vm.findClass RX7 = some m.cls := findClass_of_methodNamed B.named
  have hlocks := B.notSynchronized
  subst hsz
  have hD := hD0.self (sz := s.heap.size)
  generalize hAe : va_A (wO a cy n0 n1 I J S L) s.heap.size = A at hD ⊢
  have hA : ∀ q : Nat, s.heap.size ≤ q → A q := fun q h => by rw [← hAe]; exact Or.inr h
  obtain ⟨H, hH⟩ : ∃ z : Heap, z = s.heap := ⟨_, rfl⟩
  rw [← hH] at hP
  have hS : va_S A s.heap H [] := by rw [hH]; exact va_S.rf
  have hl := lv_entry ([.ref (a 53), .int p0, .int p1, .int p2, .int p3, .int p4]) (n := 7) (Nat.le_of_ble_eq_true rfl)
  have hE : entryFrame m args 7 = F0 m 0 ((lg_sl ([.ref (a 53), .int p0, .int p1, .int p2, .int p3, .int p4]) ++ List.replicate (7 - (lg_sl ([.ref (a 53), .int p0, .int p1, .int p2, .int p3, .int p4])).length) Slot.unset).toArray) [] := by rw [hargs]; exact lg_entry_eq m _ _
  rw [hE, ← hH]
  clear hE
  generalize (lg_sl ([.ref (a 53), .int p0, .int p1, .int p2, .int p3, .int p4]) ++ List.replicate (7 - (lg_sl ([.ref (a 53), .int p0, .int p1, .int p2, .int p3, .int p4])).length) Slot.unset).toArray = ls at hl ⊢
  have hl : lv_has ls 7 [(0, .ref (a 53)), (1, .int p0), (2, .int p1), (3, .int p2), (4, .int p3), (5, .int p4)] := hl
  unfold wp_X7_report at h
  refine lv_aload_n hx hb dX7_report_0 rfl (lv_at hl 0 rfl) ?_
  refine va_get (D := (dC, dI)) (ci := 7) (v := .ref (a 25)) (C := RX7) (T := TX7) (N := 7) hx hb hts nX7_report_X7 hown hK hP 0 (wO_atO _ _ _ _ _ _ _ _) rfl 4 (by decide) (hts (.fieldLink RX7 47 "SongOffice" "standing" "LSongOffice$Ledger;") kX7_report_1) (fun _ h9 => h9) rfl dX7_report_1 ?_
  refine va_get (D := (dC, dI)) (ci := 2) (v := .int (S 3)) (C := RX2) (T := TX2) (N := 16) hx hb hts nX7_report_X2 hown hK hP 26 (wO_at25 _ _ _ _ _ _ _ _) rfl 10 (by decide) (hts (.fieldLink RX7 105 "SongOffice$Ledger" "closed" "I") kX7_report_2) (fun _ h9 => h9) rfl dX7_report_4 ?_
  refine lv_topi (fun x_1 ex_1 => ?_)
  have h := h x_1 ex_1
  refine lv_istore (lv' := [(6, .int x_1), (0, .ref (a 53)), (1, .int p0), (2, .int p1), (3, .int p2), (4, .int p3), (5, .int p4)]) hx hb dX7_report_7 hl (by decide) rfl (fun ls hl => ?_)
  refine lv_iload hx hb dX7_report_9 (lv_at hl 0 rfl) ?_
  refine lv_bipush (v := 40) hx hb dX7_report_11 (by decide) ?_
  obtain ⟨B_2, hB_2, h⟩ := h
  have jB_2 : ∀ (I_3 : TI) (J_4 : TJ) (S_5 : TS) (L_6 : TL) (H : Heap) (locs : List Loc) (ls : Array Slot), va_P (dC, dI) vwCl (wO a cy n0 n1 I_3 J_4 S_5 L_6) H → va_D A (wO a cy n0 n1 I_3 J_4 S_5 L_6) → va_S A s.heap H locs → lv_has ls 7 [] → B_2 I_3 J_4 S_5 L_6 → W p l e (headSpec wsX7_report rmX7_report).room s m args below meth c H locs 0 0 (MQ below (gQi dC dI (wO a cy n0 n1) (tyL cy) A Φ) args s 0 0 A) (F0 m 30 ls []) := by
    intro I_3 J_4 S_5 L_6 H locs ls hP hD hS hl h
    have h := hB_2 I_3 J_4 S_5 L_6 h
    refine lv_iconst (v := 0) hx hb dX7_report_30 (by decide) ?_
    exact grz hx hb hr hlocks hP hK hD hS ⟨Or.inl rfl, h⟩ dX7_report_31
  refine lv_icmp_ge (tgt := 30) hx hb dX7_report_13 (by decide) (fun hc => ?_) (fun hc => ?_)
  · have h := h.1 hc
    exact jB_2 I J S L _ _ _ hP hD hS (lv_sub hl [] rfl) h
  · have h := h.2 hc
    refine lv_aload_n hx hb dX7_report_16 rfl (lv_at hl 1 rfl) ?_
    refine lv_iload_n hx hb dX7_report_17 rfl (lv_at hl 2 rfl) ?_
    refine lv_iload_n hx hb dX7_report_18 rfl (lv_at hl 3 rfl) ?_
    refine lv_iload_n hx hb dX7_report_19 rfl (lv_at hl 4 rfl) ?_
    refine lv_iload hx hb dX7_report_20 (lv_at hl 5 rfl) ?_
    refine lv_iload hx hb dX7_report_22 (lv_at hl 6 rfl) ?_
    refine gcalli (va_runV (As := [.int p0, .int p1, .int p2, .int p3, .int p4]) (rest := []) ⟨hx, hb, hml, hown, hts⟩ (c_X7_reportFits l dC dI a cy n0 n1 H.size I J S L p0 p1 p2 p3 p4 _ h) (cwV 5 hts gX7_report_X7_reportFits rfl rfl rfl (by decide +kernel) ⟨(Nat.le_of_ble_eq_true rfl), (Nat.le_of_ble_eq_true rfl)⟩) (g_pV hP hK hD hN (va_recv hK hP (ci := 7) (q0 := 0) rfl (wO_atO _ _ _ _ _ _ _ _)) [.int p0, .int p1, .int p2, .int p3, .int p4]) rfl rfl hl.1 rfl (lv_room (Nat.le_of_ble_eq_true rfl)) dX7_report_24 ⟨(Nat.le_of_ble_eq_true rfl), (Nat.le_of_ble_eq_true rfl)⟩) hS hA hD (fun r_11 I_7 J_8 S_9 L_10 H locs hP hD hS h => ?_)
    refine lv_if_ne (tgt := 32) hx hb dX7_report_27 (by decide) (fun hc => ?_) (fun hc => ?_)
    · have h := h.1 hc
      refine lv_aload_n hx hb dX7_report_32 rfl (lv_at hl 1 rfl) ?_
      refine va_get (D := (dC, dI)) (ci := 7) (v := .ref (a 14)) (C := RX7) (T := TX7) (N := 7) hx hb hts nX7_report_X7 hown hK hP 0 (wO_atO _ _ _ _ _ _ _ _) rfl 2 (by decide) (hts (.fieldLink RX7 26 "SongOffice" "reports" "LSongOffice$ReportBook;") kX7_report_3) (fun _ h9 => h9) rfl dX7_report_33 ?_
      refine lv_iload hx hb dX7_report_36 (lv_at hl 0 rfl) ?_
      refine lv_iload_n hx hb dX7_report_38 rfl (lv_at hl 2 rfl) ?_
      refine lv_iload_n hx hb dX7_report_39 rfl (lv_at hl 3 rfl) ?_
      refine lv_iload_n hx hb dX7_report_40 rfl (lv_at hl 4 rfl) ?_
      refine lv_iload hx hb dX7_report_41 (lv_at hl 5 rfl) ?_
      refine lv_iload hx hb dX7_report_43 (lv_at hl 6 rfl) ?_
      refine gcallv (va_runV (As := [.int x_1, .int p0, .int p1, .int p2, .int p3, .int p4]) (rest := []) ⟨hx, hb, hml, hown, hts⟩ (c_X4_put_O l dC dI a cy n0 n1 H.size I_7 J_8 S_9 L_10 x_1 p0 p1 p2 p3 p4 _ h) (cwV 6 hts gX7_report_X4_put rfl rfl rfl (by decide +kernel) ⟨(Nat.le_of_ble_eq_true rfl), (Nat.le_of_ble_eq_true rfl)⟩) (g_pV hP hK hD hN (va_recv hK hP (ci := 4) (q0 := 15) rfl (wO_at14 _ _ _ _ _ _ _ _)) [.int x_1, .int p0, .int p1, .int p2, .int p3, .int p4]) rfl rfl hl.1 rfl (lv_room (Nat.le_of_ble_eq_true rfl)) dX7_report_45 ⟨(Nat.le_of_ble_eq_true rfl), (Nat.le_of_ble_eq_true rfl)⟩) hS hA hD (fun I_12 J_13 S_14 L_15 H locs hP hD hS h => ?_)
      refine lv_iconst (v := 1) hx hb dX7_report_48 (by decide) ?_
      exact grz hx hb hr hlocks hP hK hD hS ⟨Or.inr rfl, h⟩ dX7_report_49
    · have h := h.2 hc
      exact jB_2 I_7 J_8 S_9 L_10 _ _ _ hP hD hS (lv_sub hl [] rfl) h
def wp_X7_tear (n0 n1 : Nat) (I : TI) (J : TJ) (S : TS) (L : TL) (p0 : Int32) (Φ : Int32 → TI → TJ → TS → TL → Prop) : Prop := ∀ x_1 : Int32, x_1 = (S 3) → (∃ B_2 : TI → TJ → TS → TL → Prop, (∀ (I_3 : TI) (J_4 : TJ) (S_5 : TS) (L_6 : TL), B_2 I_3 J_4 S_5 L_6 → (Φ (0 : Int32) I_3 J_4 S_5 L_6)) ∧ ((((40 : Int32) ≤ x_1) → (B_2 I J S L)) ∧ ((¬ (40 : Int32) ≤ x_1) → (((p0 < (-1 : Int32)) → (B_2 I J S L)) ∧ ((¬ p0 < (-1 : Int32)) → (((p0 ≤ (12 : Int32)) → (∀ x_7 : Int32, x_7 = (if p0 < (0 : Int32) then (0 : Int32) else p0) → (wp_X4_tearAt_O n0 n1 I J S L x_1 x_7 (fun (I_8 : TI) (J_9 : TJ) (S_10 : TS) (L_11 : TL) => (Φ (1 : Int32) I_8 J_9 S_10 L_11))))) ∧ ((¬ p0 ≤ (12 : Int32)) → (B_2 I J S L))))))))
theorem kX7_tear_4 : Cond.methodLink RX7 115 Lib.Math.max.name ∈ wsX7_tear := List.mem_of_getElem? (i := 4) rfl
theorem kX7_tear_5 : Cond.static Lib.Math.max.name ∈ wsX7_tear := List.mem_of_getElem? (i := 5) rfl
theorem kX7_tear_6 : Cond.initialized "java/lang/Math" ∈ wsX7_tear := List.mem_of_getElem? (i := 6) rfl
theorem kX7_tear_7 : Cond.code Lib.Math.max.name Lib.Math.max.code 2 (some .int) ∈ wsX7_tear := List.mem_of_getElem? (i := 7) rfl
theorem nX7_tear_X7 : ∀ w ∈ wsX70, w ∈ wsX7_tear := fun _ h => List.mem_cons_of_mem _ (List.mem_append_left _ (List.mem_append_left _ (List.mem_append_right _ h)))
theorem kX7_tear_3 : Cond.fieldLink RX7 26 "SongOffice" "reports" "LSongOffice$ReportBook;" ∈ wsX7_tear := List.mem_of_getElem? (i := 3) rfl
theorem nX7_tear_X2 : ∀ w ∈ wsX20, w ∈ wsX7_tear := fun _ h => List.mem_cons_of_mem _ (List.mem_append_left _ (List.mem_append_right _ h))
theorem kX7_tear_2 : Cond.fieldLink RX7 105 "SongOffice$Ledger" "closed" "I" ∈ wsX7_tear := List.mem_of_getElem? (i := 2) rfl
theorem kX7_tear_1 : Cond.fieldLink RX7 47 "SongOffice" "standing" "LSongOffice$Ledger;" ∈ wsX7_tear := List.mem_of_getElem? (i := 1) rfl
abbrev rmX7_tear : Room := { frames := 1, cells := 0, slots := 0, locals := 40 }
set_option maxHeartbeats 4000000 in
set_option maxRecDepth 100000 in
theorem c_X7_tear (l : Launch) (dC : Nat → ClassId) (dI : Nat → Nat → Nat) (a : Nat → Nat) (cy : Nat → ClassId) (n0 n1 : Nat) (sz : Nat) (I : TI) (J : TJ) (S : TS) (L : TL) (p0 : Int32) (Φ : Int32 → TI → TJ → TS → TL → Prop) (h : wp_X7_tear n0 n1 I J S L p0 Φ) : Met l yX7_tear wsX7_tear rmX7_tear (va_Pc [.ref (a 53), .int p0] (gpre dC dI (wO a cy n0 n1 I J S L) (tyL cy) sz)) (gQi dC dI (wO a cy n0 n1) (tyL cy) (va_A (wO a cy n0 n1 I J S L) sz) Φ) 0 0 (va_A (wO a cy n0 n1 I J S L) sz) := by
  refine Met.ofW (cc := cX7_tear) (maxL := 3) (ret := (some .boolean)) (by decide) rfl ?_
  intro p e s m args below meth c s₁ B hml hv
  obtain ⟨hargs, hsz, hP, hK, hD0, hN⟩ := hv
  have hx := B.exec
  have hb := B.bytes
  have hr := B.returns
  have hts := atoms_spec (ws := wsX7_tear) B.pre
  have hown : s.vm.findClass RX7 = some m.cls := findClass_of_methodNamed B.named
  have hlocks := B.notSynchronized
  subst hsz
  have hD := hD0.self (sz := s.heap.size)
  generalize hAe : va_A (wO a cy n0 n1 I J S L) s.heap.size = A at hD ⊢
  have hA : ∀ q : Nat, s.heap.size ≤ q → A q := fun q h => by rw [← hAe]; exact Or.inr h
  obtain ⟨H, hH⟩ : ∃ z : Heap, z = s.heap := ⟨_, rfl⟩
  rw [← hH] at hP
  have hS : va_S A s.heap H [] := by rw [hH]; exact va_S.rf
  have hl := lv_entry ([.ref (a 53), .int p0]) (n := 3) (Nat.le_of_ble_eq_true rfl)
  have hE : entryFrame m args 3 = F0 m 0 ((lg_sl ([.ref (a 53), .int p0]) ++ List.replicate (3 - (lg_sl ([.ref (a 53), .int p0])).length) Slot.unset).toArray) [] := by rw [hargs]; exact lg_entry_eq m _ _
  rw [hE, ← hH]
  clear hE
  generalize (lg_sl ([.ref (a 53), .int p0]) ++ List.replicate (3 - (lg_sl ([.ref (a 53), .int p0])).length) Slot.unset).toArray = ls at hl ⊢
  have hl : lv_has ls 3 [(0, .ref (a 53)), (1, .int p0)] := hl
  unfold wp_X7_tear at h
  refine lv_aload_n hx hb dX7_tear_0 rfl (lv_at hl 0 rfl) ?_
  refine va_get (D := (dC, dI)) (ci := 7) (v := .ref (a 25)) (C := RX7) (T := TX7) (N := 7) hx hb hts nX7_tear_X7 hown hK hP 0 (wO_atO _ _ _ _ _ _ _ _) rfl 4 (by decide) (hts (.fieldLink RX7 47 "SongOffice" "standing" "LSongOffice$Ledger;") kX7_tear_1) (fun _ h9 => h9) rfl dX7_tear_1 ?_
  refine va_get (D := (dC, dI)) (ci := 2) (v := .int (S 3)) (C := RX2) (T := TX2) (N := 16) hx hb hts nX7_tear_X2 hown hK hP 26 (wO_at25 _ _ _ _ _ _ _ _) rfl 10 (by decide) (hts (.fieldLink RX7 105 "SongOffice$Ledger" "closed" "I") kX7_tear_2) (fun _ h9 => h9) rfl dX7_tear_4 ?_
  refine lv_topi (fun x_1 ex_1 => ?_)
  have h := h x_1 ex_1
  refine lv_istore_n (lv' := [(2, .int x_1), (0, .ref (a 53)), (1, .int p0)]) hx hb dX7_tear_7 rfl hl (by decide) rfl (fun ls hl => ?_)
  refine lv_iload_n hx hb dX7_tear_8 rfl (lv_at hl 0 rfl) ?_
  refine lv_bipush (v := 40) hx hb dX7_tear_9 (by decide) ?_
  obtain ⟨B_2, hB_2, h⟩ := h
  have jB_2 : ∀ (I_3 : TI) (J_4 : TJ) (S_5 : TS) (L_6 : TL) (H : Heap) (locs : List Loc) (ls : Array Slot), va_P (dC, dI) vwCl (wO a cy n0 n1 I_3 J_4 S_5 L_6) H → va_D A (wO a cy n0 n1 I_3 J_4 S_5 L_6) → va_S A s.heap H locs → lv_has ls 3 [] → B_2 I_3 J_4 S_5 L_6 → W p l e (headSpec wsX7_tear rmX7_tear).room s m args below meth c H locs 0 0 (MQ below (gQi dC dI (wO a cy n0 n1) (tyL cy) A Φ) args s 0 0 A) (F0 m 25 ls []) := by
    intro I_3 J_4 S_5 L_6 H locs ls hP hD hS hl h
    have h := hB_2 I_3 J_4 S_5 L_6 h
    refine lv_iconst (v := 0) hx hb dX7_tear_25 (by decide) ?_
    exact grz hx hb hr hlocks hP hK hD hS ⟨Or.inl rfl, h⟩ dX7_tear_26
  refine lv_icmp_ge (tgt := 25) hx hb dX7_tear_11 (by decide) (fun hc => ?_) (fun hc => ?_)
  · have h := h.1 hc
    exact jB_2 I J S L _ _ _ hP hD hS (lv_sub hl [] rfl) h
  · have h := h.2 hc
    refine lv_iload_n hx hb dX7_tear_14 rfl (lv_at hl 2 rfl) ?_
    refine lv_iconst (v := -1) hx hb dX7_tear_15 (by decide) ?_
    refine lv_icmp_lt (tgt := 25) hx hb dX7_tear_16 (by decide) (fun hc => ?_) (fun hc => ?_)
    · have h := h.1 hc
      exact jB_2 I J S L _ _ _ hP hD hS (lv_sub hl [] rfl) h
    · have h := h.2 hc
      refine lv_iload_n hx hb dX7_tear_19 rfl (lv_at hl 2 rfl) ?_
      refine lv_bipush (v := 12) hx hb dX7_tear_20 (by decide) ?_
      refine lv_icmp_le (tgt := 27) hx hb dX7_tear_22 (by decide) (fun hc => ?_) (fun hc => ?_)
      · have h := h.1 hc
        refine lv_aload_n hx hb dX7_tear_27 rfl (lv_at hl 1 rfl) ?_
        refine va_get (D := (dC, dI)) (ci := 7) (v := .ref (a 14)) (C := RX7) (T := TX7) (N := 7) hx hb hts nX7_tear_X7 hown hK hP 0 (wO_atO _ _ _ _ _ _ _ _) rfl 2 (by decide) (hts (.fieldLink RX7 26 "SongOffice" "reports" "LSongOffice$ReportBook;") kX7_tear_3) (fun _ h9 => h9) rfl dX7_tear_28 ?_
        refine lv_iload_n hx hb dX7_tear_31 rfl (lv_at hl 0 rfl) ?_
        refine lv_iload_n hx hb dX7_tear_32 rfl (lv_at hl 2 rfl) ?_
        refine lv_iconst (v := 0) hx hb dX7_tear_33 (by decide) ?_
        refine va_mmax hx hb (hml.trans hl.1.symm) hown (hts (.methodLink RX7 115 Lib.Math.max.name) kX7_tear_4) (hts (.static Lib.Math.max.name) kX7_tear_5) (hts (.initialized "java/lang/Math") kX7_tear_6) (hts (.code Lib.Math.max.name Lib.Math.max.code 2 (some .int)) kX7_tear_7) (Nat.le_of_ble_eq_true rfl) (Nat.le_of_ble_eq_true rfl) (Nat.le_of_ble_eq_true rfl) (Nat.le_of_ble_eq_true rfl) dX7_tear_34 ?_
        refine lv_topi (fun x_7 ex_7 => ?_)
        have h := h x_7 ex_7
        refine gcallv (va_runV (As := [.int x_1, .int x_7]) (rest := []) ⟨hx, hb, hml, hown, hts⟩ (c_X4_tearAt_O l dC dI a cy n0 n1 H.size I J S L x_1 x_7 _ h) (cwV 2 hts gX7_tear_X4_tearAt rfl rfl rfl (by decide +kernel) ⟨(Nat.le_of_ble_eq_true rfl), (Nat.le_of_ble_eq_true rfl)⟩) (g_pV hP hK hD hN (va_recv hK hP (ci := 4) (q0 := 15) rfl (wO_at14 _ _ _ _ _ _ _ _)) [.int x_1, .int x_7]) rfl rfl hl.1 rfl (lv_room (Nat.le_of_ble_eq_true rfl)) dX7_tear_37 ⟨(Nat.le_of_ble_eq_true rfl), (Nat.le_of_ble_eq_true rfl)⟩) hS hA hD (fun I_8 J_9 S_10 L_11 H locs hP hD hS h => ?_)
        refine lv_iconst (v := 1) hx hb dX7_tear_40 (by decide) ?_
        exact grz hx hb hr hlocks hP hK hD hS ⟨Or.inr rfl, h⟩ dX7_tear_41
      · have h := h.2 hc
        exact jB_2 I J S L _ _ _ hP hD hS (lv_sub hl [] rfl) h
def wp_X7_sent (n0 n1 : Nat) (I : TI) (J : TJ) (S : TS) (L : TL) (p0 : Int32) (p1 : Int32) (Φ : Int64 → TI → TJ → TS → TL → Prop) : Prop := wp_X7_isHand I J S L p0 (fun (r_5 : Int32) (I_1 : TI) (J_2 : TJ) (S_3 : TS) (L_4 : TL) => (∃ B_6 : TI → TJ → TS → TL → Prop, (∀ (I_7 : TI) (J_8 : TJ) (S_9 : TS) (L_10 : TL), B_6 I_7 J_8 S_9 L_10 → (Φ (-1 : Int64) I_7 J_8 S_9 L_10)) ∧ (((r_5 = 0) → (B_6 I_1 J_2 S_3 L_4)) ∧ ((¬ r_5 = 0) → (wp_X7_isSum I_1 J_2 S_3 L_4 p1 (fun (r_15 : Int32) (I_11 : TI) (J_12 : TJ) (S_13 : TS) (L_14 : TL) => (((r_15 = 0) → (B_6 I_11 J_12 S_13 L_14)) ∧ ((¬ r_15 = 0) → ((((S_13 2) < (60 : Int32)) → (∀ x_16 : Int32, x_16 = (S_13 3) → (wp_X5_add_O n0 n1 I_11 J_12 S_13 L_14 p0 p1 x_16 (fun (I_17 : TI) (J_18 : TJ) (S_19 : TS) (L_20 : TL) => (wp_X2_reckonTo_O n0 n1 I_17 J_18 S_19 L_20 x_16 (fun (I_21 : TI) (J_22 : TJ) (S_23 : TS) (L_24 : TL) => (Φ (L_24 2) I_21 J_22 S_23 L_24))))))) ∧ ((¬ (S_13 2) < (60 : Int32)) → (B_6 I_11 J_12 S_13 L_14)))))))))))
theorem kX7_sent_3 : Cond.constantLong RX7 128 (-1) ∈ wsX7_sent := List.mem_of_getElem? (i := 3) rfl
theorem nX7_sent_X2 : ∀ w ∈ wsX20, w ∈ wsX7_sent := fun _ h => List.mem_cons_of_mem _ (List.mem_append_left _ (List.mem_append_left _ (List.mem_append_left _ (List.mem_append_left _ (List.mem_append_right _ h)))))
theorem kX7_sent_6 : Cond.fieldLink RX7 137 "SongOffice$Ledger" "lacked" "J" ∈ wsX7_sent := List.mem_of_getElem? (i := 6) rfl
theorem nX7_sent_X7 : ∀ w ∈ wsX70, w ∈ wsX7_sent := fun _ h => List.mem_cons_of_mem _ (List.mem_append_left _ (List.mem_append_left _ (List.mem_append_left _ (List.mem_append_left _ (List.mem_append_left _ (List.mem_append_left _ (List.mem_append_right _ h)))))))
theorem kX7_sent_4 : Cond.fieldLink RX7 47 "SongOffice" "standing" "LSongOffice$Ledger;" ∈ wsX7_sent := List.mem_of_getElem? (i := 4) rfl
theorem kX7_sent_1 : Cond.fieldLink RX7 33 "SongOffice" "sentBack" "LSongOffice$SentBook;" ∈ wsX7_sent := List.mem_of_getElem? (i := 1) rfl
theorem kX7_sent_5 : Cond.fieldLink RX7 105 "SongOffice$Ledger" "closed" "I" ∈ wsX7_sent := List.mem_of_getElem? (i := 5) rfl
theorem nX7_sent_X5 : ∀ w ∈ wsX50, w ∈ wsX7_sent := fun _ h => List.mem_cons_of_mem _ (List.mem_append_left _ (List.mem_append_left _ (List.mem_append_left _ (List.mem_append_left _ (List.mem_append_left _ (List.mem_append_right _ h))))))
theorem kX7_sent_2 : Cond.fieldLink RX7 127 "SongOffice$SentBook" "size" "I" ∈ wsX7_sent := List.mem_of_getElem? (i := 2) rfl
abbrev rmX7_sent : Room := { frames := 8, cells := 0, slots := 0, locals := 243 }
set_option maxHeartbeats 4000000 in
set_option maxRecDepth 100000 in
theorem c_X7_sent (l : Launch) (dC : Nat → ClassId) (dI : Nat → Nat → Nat) (a : Nat → Nat) (cy : Nat → ClassId) (n0 n1 : Nat) (sz : Nat) (I : TI) (J : TJ) (S : TS) (L : TL) (p0 : Int32) (p1 : Int32) (Φ : Int64 → TI → TJ → TS → TL → Prop) (h : wp_X7_sent n0 n1 I J S L p0 p1 Φ) : Met l yX7_sent wsX7_sent rmX7_sent (va_Pc [.ref (a 53), .int p0, .int p1] (gpre dC dI (wO a cy n0 n1 I J S L) (tyL cy) sz)) (gQl dC dI (wO a cy n0 n1) (tyL cy) (va_A (wO a cy n0 n1 I J S L) sz) Φ) 0 0 (va_A (wO a cy n0 n1 I J S L) sz) := by
  refine Met.ofW (cc := cX7_sent) (maxL := 4) (ret := (some .long)) (by decide) rfl ?_
  intro p e s m args below meth c s₁ B hml hv
  obtain ⟨hargs, hsz, hP, hK, hD0, hN⟩ := hv
  have hx := B.exec
  have hb := B.bytes
  have hr := B.returns
  have hts := atoms_spec (ws := wsX7_sent) B.pre
  have hown : s.vm.findClass RX7 = some m.cls := findClass_of_methodNamed B.named
  have hlocks := B.notSynchronized
  subst hsz
  have hD := hD0.self (sz := s.heap.size)
  generalize hAe : va_A (wO a cy n0 n1 I J S L) s.heap.size = A at hD ⊢
  have hA : ∀ q : Nat, s.heap.size ≤ q → A q := fun q h => by rw [← hAe]; exact Or.inr h
  obtain ⟨H, hH⟩ : ∃ z : Heap, z = s.heap := ⟨_, rfl⟩
  rw [← hH] at hP
  have hS : va_S A s.heap H [] := by rw [hH]; exact va_S.rf
  have hl := lv_entry ([.ref (a 53), .int p0, .int p1]) (n := 4) (Nat.le_of_ble_eq_true rfl)
  have hE : entryFrame m args 4 = F0 m 0 ((lg_sl ([.ref (a 53), .int p0, .int p1]) ++ List.replicate (4 - (lg_sl ([.ref (a 53), .int p0, .int p1])).length) Slot.unset).toArray) [] := by rw [hargs]; exact lg_entry_eq m _ _
  rw [hE, ← hH]
  clear hE
  generalize (lg_sl ([.ref (a 53), .int p0, .int p1]) ++ List.replicate (4 - (lg_sl ([.ref (a 53), .int p0, .int p1])).length) Slot.unset).toArray = ls at hl ⊢
  have hl : lv_has ls 4 [(0, .ref (a 53)), (1, .int p0), (2, .int p1)] := hl
  unfold wp_X7_sent at h
  refine lv_iload_n hx hb dX7_sent_0 rfl (lv_at hl 1 rfl) ?_
  refine gcalli (va_runS (As := [.int p0]) (rest := []) ⟨hx, hb, hml, hown, hts⟩ (c_X7_isHand l dC dI (wO a cy n0 n1) (tyL cy) H.size I J S L p0 _ h) (va_cwS 1 hts gX7_sent_X7_isHand rfl rfl rfl (by decide +kernel) ⟨(Nat.le_of_ble_eq_true rfl), (Nat.le_of_ble_eq_true rfl)⟩) (g_pS hP hK hD hN [.int p0]) rfl rfl hl.1 rfl (lv_room (Nat.le_of_ble_eq_true rfl)) dX7_sent_1 ⟨(Nat.le_of_ble_eq_true rfl), (Nat.le_of_ble_eq_true rfl)⟩) hS hA hD (fun r_5 I_1 J_2 S_3 L_4 H locs hP hD hS h => ?_)
  obtain ⟨B_6, hB_6, h⟩ := h
  have jB_6 : ∀ (I_7 : TI) (J_8 : TJ) (S_9 : TS) (L_10 : TL) (H : Heap) (locs : List Loc) (ls : Array Slot), va_P (dC, dI) vwCl (wO a cy n0 n1 I_7 J_8 S_9 L_10) H → va_D A (wO a cy n0 n1 I_7 J_8 S_9 L_10) → va_S A s.heap H locs → lv_has ls 4 [] → B_6 I_7 J_8 S_9 L_10 → W p l e (headSpec wsX7_sent rmX7_sent).room s m args below meth c H locs 0 0 (MQ below (gQl dC dI (wO a cy n0 n1) (tyL cy) A Φ) args s 0 0 A) (F0 m 26 ls []) := by
    intro I_7 J_8 S_9 L_10 H locs ls hP hD hS hl h
    have h := hB_6 I_7 J_8 S_9 L_10 h
    refine lv_ldc2 (v := -1) hx hb hown (hts (.constantLong RX7 128 (-1)) kX7_sent_3) dX7_sent_26 ?_
    exact grl hx hb hr hlocks hP hK hD hS h dX7_sent_29
  refine lv_if_eq (tgt := 26) hx hb dX7_sent_4 (by decide) (fun hc => ?_) (fun hc => ?_)
  · have h := h.1 hc
    exact jB_6 I_1 J_2 S_3 L_4 _ _ _ hP hD hS (lv_sub hl [] rfl) h
  · have h := h.2 hc
    refine lv_iload_n hx hb dX7_sent_7 rfl (lv_at hl 2 rfl) ?_
    refine gcalli (va_runS (As := [.int p1]) (rest := []) ⟨hx, hb, hml, hown, hts⟩ (c_X7_isSum l dC dI (wO a cy n0 n1) (tyL cy) H.size I_1 J_2 S_3 L_4 p1 _ h) (va_cwS 1 hts gX7_sent_X7_isSum rfl rfl rfl (by decide +kernel) ⟨(Nat.le_of_ble_eq_true rfl), (Nat.le_of_ble_eq_true rfl)⟩) (g_pS hP hK hD hN [.int p1]) rfl rfl hl.1 rfl (lv_room (Nat.le_of_ble_eq_true rfl)) dX7_sent_8 ⟨(Nat.le_of_ble_eq_true rfl), (Nat.le_of_ble_eq_true rfl)⟩) hS hA hD (fun r_15 I_11 J_12 S_13 L_14 H locs hP hD hS h => ?_)
    refine lv_if_eq (tgt := 26) hx hb dX7_sent_11 (by decide) (fun hc => ?_) (fun hc => ?_)
    · have h := h.1 hc
      exact jB_6 I_11 J_12 S_13 L_14 _ _ _ hP hD hS (lv_sub hl [] rfl) h
    · have h := h.2 hc
      refine lv_aload_n hx hb dX7_sent_14 rfl (lv_at hl 0 rfl) ?_
      refine va_get (D := (dC, dI)) (ci := 7) (v := .ref (a 21)) (C := RX7) (T := TX7) (N := 7) hx hb hts nX7_sent_X7 hown hK hP 0 (wO_atO _ _ _ _ _ _ _ _) rfl 3 (by decide) (hts (.fieldLink RX7 33 "SongOffice" "sentBack" "LSongOffice$SentBook;") kX7_sent_1) (fun _ h9 => h9) rfl dX7_sent_15 ?_
      refine va_get (D := (dC, dI)) (ci := 5) (v := .int (S_13 2)) (C := RX5) (T := TX5) (N := 5) hx hb hts nX7_sent_X5 hown hK hP 22 (wO_at21 _ _ _ _ _ _ _ _) rfl 3 (by decide) (hts (.fieldLink RX7 127 "SongOffice$SentBook" "size" "I") kX7_sent_2) (fun _ h9 => h9) rfl dX7_sent_18 ?_
      refine lv_bipush (v := 60) hx hb dX7_sent_21 (by decide) ?_
      refine lv_icmp_lt (tgt := 30) hx hb dX7_sent_23 (by decide) (fun hc => ?_) (fun hc => ?_)
      · have h := h.1 hc
        refine lv_aload_n hx hb dX7_sent_30 rfl (lv_at hl 0 rfl) ?_
        refine va_get (D := (dC, dI)) (ci := 7) (v := .ref (a 25)) (C := RX7) (T := TX7) (N := 7) hx hb hts nX7_sent_X7 hown hK hP 0 (wO_atO _ _ _ _ _ _ _ _) rfl 4 (by decide) (hts (.fieldLink RX7 47 "SongOffice" "standing" "LSongOffice$Ledger;") kX7_sent_4) (fun _ h9 => h9) rfl dX7_sent_31 ?_
        refine va_get (D := (dC, dI)) (ci := 2) (v := .int (S_13 3)) (C := RX2) (T := TX2) (N := 16) hx hb hts nX7_sent_X2 hown hK hP 26 (wO_at25 _ _ _ _ _ _ _ _) rfl 10 (by decide) (hts (.fieldLink RX7 105 "SongOffice$Ledger" "closed" "I") kX7_sent_5) (fun _ h9 => h9) rfl dX7_sent_34 ?_
        refine lv_topi (fun x_16 ex_16 => ?_)
        have h := h x_16 ex_16
        refine lv_istore_n (lv' := [(3, .int x_16), (0, .ref (a 53)), (1, .int p0), (2, .int p1)]) hx hb dX7_sent_37 rfl hl (by decide) rfl (fun ls hl => ?_)
        refine lv_aload_n hx hb dX7_sent_38 rfl (lv_at hl 1 rfl) ?_
        refine va_get (D := (dC, dI)) (ci := 7) (v := .ref (a 21)) (C := RX7) (T := TX7) (N := 7) hx hb hts nX7_sent_X7 hown hK hP 0 (wO_atO _ _ _ _ _ _ _ _) rfl 3 (by decide) (hts (.fieldLink RX7 33 "SongOffice" "sentBack" "LSongOffice$SentBook;") kX7_sent_1) (fun _ h9 => h9) rfl dX7_sent_39 ?_
        refine lv_iload_n hx hb dX7_sent_42 rfl (lv_at hl 2 rfl) ?_
        refine lv_iload_n hx hb dX7_sent_43 rfl (lv_at hl 3 rfl) ?_
        refine lv_iload_n hx hb dX7_sent_44 rfl (lv_at hl 0 rfl) ?_
        refine gcallv (va_runV (As := [.int p0, .int p1, .int x_16]) (rest := []) ⟨hx, hb, hml, hown, hts⟩ (c_X5_add_O l dC dI a cy n0 n1 H.size I_11 J_12 S_13 L_14 p0 p1 x_16 _ h) (cwV 3 hts gX7_sent_X5_add rfl rfl rfl (by decide +kernel) ⟨(Nat.le_of_ble_eq_true rfl), (Nat.le_of_ble_eq_true rfl)⟩) (g_pV hP hK hD hN (va_recv hK hP (ci := 5) (q0 := 22) rfl (wO_at21 _ _ _ _ _ _ _ _)) [.int p0, .int p1, .int x_16]) rfl rfl hl.1 rfl (lv_room (Nat.le_of_ble_eq_true rfl)) dX7_sent_45 ⟨(Nat.le_of_ble_eq_true rfl), (Nat.le_of_ble_eq_true rfl)⟩) hS hA hD (fun I_17 J_18 S_19 L_20 H locs hP hD hS h => ?_)
        refine lv_aload_n hx hb dX7_sent_48 rfl (lv_at hl 1 rfl) ?_
        refine va_get (D := (dC, dI)) (ci := 7) (v := .ref (a 25)) (C := RX7) (T := TX7) (N := 7) hx hb hts nX7_sent_X7 hown hK hP 0 (wO_atO _ _ _ _ _ _ _ _) rfl 4 (by decide) (hts (.fieldLink RX7 47 "SongOffice" "standing" "LSongOffice$Ledger;") kX7_sent_4) (fun _ h9 => h9) rfl dX7_sent_49 ?_
        refine lv_iload_n hx hb dX7_sent_52 rfl (lv_at hl 0 rfl) ?_
        refine gcallv (va_runV (As := [.int x_16]) (rest := []) ⟨hx, hb, hml, hown, hts⟩ (c_X2_reckonTo_O l dC dI a cy n0 n1 H.size I_17 J_18 S_19 L_20 x_16 _ h) (cwV 1 hts gX7_sent_X2_reckonTo rfl rfl rfl (by decide +kernel) ⟨(Nat.le_of_ble_eq_true rfl), (Nat.le_of_ble_eq_true rfl)⟩) (g_pV hP hK hD hN (va_recv hK hP (ci := 2) (q0 := 26) rfl (wO_at25 _ _ _ _ _ _ _ _)) [.int x_16]) rfl rfl hl.1 rfl (lv_room (Nat.le_of_ble_eq_true rfl)) dX7_sent_53 ⟨(Nat.le_of_ble_eq_true rfl), (Nat.le_of_ble_eq_true rfl)⟩) hS hA hD (fun I_21 J_22 S_23 L_24 H locs hP hD hS h => ?_)
        refine lv_aload_n hx hb dX7_sent_56 rfl (lv_at hl 1 rfl) ?_
        refine va_get (D := (dC, dI)) (ci := 7) (v := .ref (a 25)) (C := RX7) (T := TX7) (N := 7) hx hb hts nX7_sent_X7 hown hK hP 0 (wO_atO _ _ _ _ _ _ _ _) rfl 4 (by decide) (hts (.fieldLink RX7 47 "SongOffice" "standing" "LSongOffice$Ledger;") kX7_sent_4) (fun _ h9 => h9) rfl dX7_sent_57 ?_
        refine va_get (D := (dC, dI)) (ci := 2) (v := .long (L_24 2)) (C := RX2) (T := TX2) (N := 16) hx hb hts nX7_sent_X2 hown hK hP 26 (wO_at25 _ _ _ _ _ _ _ _) rfl 9 (by decide) (hts (.fieldLink RX7 137 "SongOffice$Ledger" "lacked" "J") kX7_sent_6) (fun _ h9 => h9) rfl dX7_sent_60 ?_
        exact grl hx hb hr hlocks hP hK hD hS h dX7_sent_63
      · have h := h.2 hc
        exact jB_6 I_11 J_12 S_13 L_14 _ _ _ hP hD hS (lv_sub hl [] rfl) h
def wp_X7_close (n0 n1 : Nat) (I : TI) (J : TJ) (S : TS) (L : TL) (Φ : Int32 → TI → TJ → TS → TL → Prop) : Prop := ∀ x_1 : Int32, x_1 = (S 3) → (((x_1 < (40 : Int32)) → (wp_X2_reckonTo_O n0 n1 I J S L (x_1 + (1 : Int32)) (fun (I_2 : TI) (J_3 : TJ) (S_4 : TS) (L_5 : TL) => (Φ x_1 I_2 J_3 S_4 L_5)))) ∧ ((¬ x_1 < (40 : Int32)) → (Φ (-1 : Int32) I J S L)))
theorem nX7_close_X7 : ∀ w ∈ wsX70, w ∈ wsX7_close := fun _ h => List.mem_cons_of_mem _ (List.mem_append_left _ (List.mem_append_left _ (List.mem_append_left _ (List.mem_append_left _ (List.mem_append_left _ (List.mem_append_left _ (List.mem_append_right _ h)))))))
theorem kX7_close_1 : Cond.fieldLink RX7 47 "SongOffice" "standing" "LSongOffice$Ledger;" ∈ wsX7_close := List.mem_of_getElem? (i := 1) rfl
theorem nX7_close_X2 : ∀ w ∈ wsX20, w ∈ wsX7_close := fun _ h => List.mem_cons_of_mem _ (List.mem_append_left _ (List.mem_append_left _ (List.mem_append_left _ (List.mem_append_left _ (List.mem_append_left _ (List.mem_append_right _ h))))))
theorem kX7_close_2 : Cond.fieldLink RX7 105 "SongOffice$Ledger" "closed" "I" ∈ wsX7_close := List.mem_of_getElem? (i := 2) rfl
abbrev rmX7_close : Room := { frames := 8, cells := 0, slots := 0, locals := 243 }
set_option maxHeartbeats 4000000 in
set_option maxRecDepth 100000 in
theorem c_X7_close (l : Launch) (dC : Nat → ClassId) (dI : Nat → Nat → Nat) (a : Nat → Nat) (cy : Nat → ClassId) (n0 n1 : Nat) (sz : Nat) (I : TI) (J : TJ) (S : TS) (L : TL) (Φ : Int32 → TI → TJ → TS → TL → Prop) (h : wp_X7_close n0 n1 I J S L Φ) : Met l yX7_close wsX7_close rmX7_close (va_Pc [.ref (a 53)] (gpre dC dI (wO a cy n0 n1 I J S L) (tyL cy) sz)) (gQi dC dI (wO a cy n0 n1) (tyL cy) (va_A (wO a cy n0 n1 I J S L) sz) Φ) 0 0 (va_A (wO a cy n0 n1 I J S L) sz) := by
  refine Met.ofW (cc := cX7_close) (maxL := 2) (ret := (some .int)) (by decide) rfl ?_
  intro p e s m args below meth c s₁ B hml hv
  obtain ⟨hargs, hsz, hP, hK, hD0, hN⟩ := hv
  have hx := B.exec
  have hb := B.bytes
  have hr := B.returns
  have hts := atoms_spec (ws := wsX7_close) B.pre
  have hown : s.vm.findClass RX7 = some m.cls := findClass_of_methodNamed B.named
  have hlocks := B.notSynchronized
  subst hsz
  have hD := hD0.self (sz := s.heap.size)
  generalize hAe : va_A (wO a cy n0 n1 I J S L) s.heap.size = A at hD ⊢
  have hA : ∀ q : Nat, s.heap.size ≤ q → A q := fun q h => by rw [← hAe]; exact Or.inr h
  obtain ⟨H, hH⟩ : ∃ z : Heap, z = s.heap := ⟨_, rfl⟩
  rw [← hH] at hP
  have hS : va_S A s.heap H [] := by rw [hH]; exact va_S.rf
  have hl := lv_entry ([.ref (a 53)]) (n := 2) (Nat.le_of_ble_eq_true rfl)
  have hE : entryFrame m args 2 = F0 m 0 ((lg_sl ([.ref (a 53)]) ++ List.replicate (2 - (lg_sl ([.ref (a 53)])).length) Slot.unset).toArray) [] := by rw [hargs]; exact lg_entry_eq m _ _
  rw [hE, ← hH]
  clear hE
  generalize (lg_sl ([.ref (a 53)]) ++ List.replicate (2 - (lg_sl ([.ref (a 53)])).length) Slot.unset).toArray = ls at hl ⊢
  have hl : lv_has ls 2 [(0, .ref (a 53))] := hl
  unfold wp_X7_close at h
  refine lv_aload_n hx hb dX7_close_0 rfl (lv_at hl 0 rfl) ?_
  refine va_get (D := (dC, dI)) (ci := 7) (v := .ref (a 25)) (C := RX7) (T := TX7) (N := 7) hx hb hts nX7_close_X7 hown hK hP 0 (wO_atO _ _ _ _ _ _ _ _) rfl 4 (by decide) (hts (.fieldLink RX7 47 "SongOffice" "standing" "LSongOffice$Ledger;") kX7_close_1) (fun _ h9 => h9) rfl dX7_close_1 ?_
  refine va_get (D := (dC, dI)) (ci := 2) (v := .int (S 3)) (C := RX2) (T := TX2) (N := 16) hx hb hts nX7_close_X2 hown hK hP 26 (wO_at25 _ _ _ _ _ _ _ _) rfl 10 (by decide) (hts (.fieldLink RX7 105 "SongOffice$Ledger" "closed" "I") kX7_close_2) (fun _ h9 => h9) rfl dX7_close_4 ?_
  refine lv_topi (fun x_1 ex_1 => ?_)
  have h := h x_1 ex_1
  refine lv_istore_n (lv' := [(1, .int x_1), (0, .ref (a 53))]) hx hb dX7_close_7 rfl hl (by decide) rfl (fun ls hl => ?_)
  refine lv_iload_n hx hb dX7_close_8 rfl (lv_at hl 0 rfl) ?_
  refine lv_bipush (v := 40) hx hb dX7_close_9 (by decide) ?_
  refine lv_icmp_lt (tgt := 16) hx hb dX7_close_11 (by decide) (fun hc => ?_) (fun hc => ?_)
  · have h := h.1 hc
    refine lv_aload_n hx hb dX7_close_16 rfl (lv_at hl 1 rfl) ?_
    refine va_get (D := (dC, dI)) (ci := 7) (v := .ref (a 25)) (C := RX7) (T := TX7) (N := 7) hx hb hts nX7_close_X7 hown hK hP 0 (wO_atO _ _ _ _ _ _ _ _) rfl 4 (by decide) (hts (.fieldLink RX7 47 "SongOffice" "standing" "LSongOffice$Ledger;") kX7_close_1) (fun _ h9 => h9) rfl dX7_close_17 ?_
    refine lv_iload_n hx hb dX7_close_20 rfl (lv_at hl 0 rfl) ?_
    refine lv_iconst (v := 1) hx hb dX7_close_21 (by decide) ?_
    refine lv_iadd hx hb dX7_close_22 ?_
    refine gcallv (va_runV (As := [.int (x_1 + (1 : Int32))]) (rest := []) ⟨hx, hb, hml, hown, hts⟩ (c_X2_reckonTo_O l dC dI a cy n0 n1 H.size I J S L (x_1 + (1 : Int32)) _ h) (cwV 1 hts gX7_close_X2_reckonTo rfl rfl rfl (by decide +kernel) ⟨(Nat.le_of_ble_eq_true rfl), (Nat.le_of_ble_eq_true rfl)⟩) (g_pV hP hK hD hN (va_recv hK hP (ci := 2) (q0 := 26) rfl (wO_at25 _ _ _ _ _ _ _ _)) [.int (x_1 + (1 : Int32))]) rfl rfl hl.1 rfl (lv_room (Nat.le_of_ble_eq_true rfl)) dX7_close_23 ⟨(Nat.le_of_ble_eq_true rfl), (Nat.le_of_ble_eq_true rfl)⟩) hS hA hD (fun I_2 J_3 S_4 L_5 H locs hP hD hS h => ?_)
    refine lv_iload_n hx hb dX7_close_26 rfl (lv_at hl 0 rfl) ?_
    exact gri hx hb hr hlocks hP hK hD hS h dX7_close_27
  · have h := h.2 hc
    refine lv_iconst (v := -1) hx hb dX7_close_14 (by decide) ?_
    exact gri hx hb hr hlocks hP hK hD hS h dX7_close_15
