def wp_X8_isHand (I : TI) (J : TJ) (S : TS) (L : TL) (p0 : Int32) (Φ : Int32 → TI → TJ → TS → TL → Prop) : Prop := ∃ B_1 : TI → TJ → TS → TL → Int32 → Prop, (∀ (I_2 : TI) (J_3 : TJ) (S_4 : TS) (L_5 : TL) (s_6 : Int32), B_1 I_2 J_3 S_4 L_5 s_6 → ((s_6 = 0 ∨ s_6 = 1) ∧ Φ s_6 I_2 J_3 S_4 L_5)) ∧ (∃ B_7 : TI → TJ → TS → TL → Prop, (∀ (I_8 : TI) (J_9 : TJ) (S_10 : TS) (L_11 : TL), B_7 I_8 J_9 S_10 L_11 → (B_1 I_8 J_9 S_10 L_11 (0 : Int32))) ∧ (((p0 < 0) → (B_7 I J S L)) ∧ ((¬ p0 < 0) → ((((12 : Int32) ≤ p0) → (B_7 I J S L)) ∧ ((¬ (12 : Int32) ≤ p0) → (B_1 I J S L (1 : Int32)))))))
abbrev rmX8_isHand : Room := { frames := 0, cells := 0, slots := 0, locals := 0 }
set_option maxHeartbeats 4000000 in
set_option maxRecDepth 100000 in
theorem c_X8_isHand (l : Launch) (dC : Nat → ClassId) (dI : Nat → Nat → Nat) (Wd : TW) (ty : TY) (sz : Nat) (I : TI) (J : TJ) (S : TS) (L : TL) (p0 : Int32) (Φ : Int32 → TI → TJ → TS → TL → Prop) (h : wp_X8_isHand I J S L p0 Φ) : Met l yX8_isHand wsX8_isHand rmX8_isHand (va_Pc [.int p0] (gpre dC dI (Wd I J S L) ty sz)) (gQi dC dI (Wd) ty (va_A (Wd I J S L) sz) Φ) 0 0 (va_A (Wd I J S L) sz) := by
  refine Met.ofW (cc := cX8_isHand) (maxL := 1) (ret := (some .boolean)) (by decide) rfl ?_
  intro p e s m args below meth c s₁ B hml hv
  obtain ⟨hargs, hsz, hP, hK, hD0⟩ := hv
  have hx := B.exec
  have hb := B.bytes
  have hr := B.returns
  have hts := atoms_spec (ws := wsX8_isHand) B.pre
  have hown : s.vm.findClass RX8 = some m.cls := findClass_of_methodNamed B.named
  have hlocks := B.notSynchronized
  subst hsz
  have hD := hD0.self (sz := s.heap.size)
  generalize hAe : va_A (Wd I J S L) s.heap.size = A at hD ⊢
  have hA : ∀ q : Nat, s.heap.size ≤ q → A q := fun q h => by rw [← hAe]; exact Or.inr h
  have hS : va_S A s.heap s.heap [] := va_S.rf
  have hl := lv_entry ([.int p0]) (n := 1) (Nat.le_of_ble_eq_true rfl)
  have hE : entryFrame m args 1 = F0 m 0 ((lg_sl ([.int p0]) ++ List.replicate (1 - (lg_sl ([.int p0])).length) Slot.unset).toArray) [] := by rw [hargs]; exact lg_entry_eq m _ _
  rw [hE]
  clear hE
  generalize (lg_sl ([.int p0]) ++ List.replicate (1 - (lg_sl ([.int p0])).length) Slot.unset).toArray = ls at hl ⊢
  have hl : lv_has ls 1 [(0, .int p0)] := hl
  unfold wp_X8_isHand at h
  refine lv_iload_n hx hb dX8_isHand_0 rfl (lv_at hl 0 rfl) ?_
  obtain ⟨B_1, hB_1, h⟩ := h
  have jB_1 : ∀ (I_2 : TI) (J_3 : TJ) (S_4 : TS) (L_5 : TL) (s_6 : Int32) (H : Heap) (locs : List Loc) (ls : Array Slot), va_P (dC, dI) vwCl (Wd I_2 J_3 S_4 L_5) H → va_D A (Wd I_2 J_3 S_4 L_5) → va_S A s.heap H locs → lv_has ls 1 [] → B_1 I_2 J_3 S_4 L_5 s_6 → W p l e (headSpec wsX8_isHand rmX8_isHand).room s m args below meth c H locs 0 0 (MQ below (gQi dC dI (Wd) ty A Φ) args s 0 0 A) (F0 m 15 ls [.int s_6]) := by
    intro I_2 J_3 S_4 L_5 s_6 H locs ls hP hD hS hl h
    have h := hB_1 I_2 J_3 S_4 L_5 s_6 h
    exact grz hx hb hr hlocks hP hK hD hS h dX8_isHand_15
  obtain ⟨B_7, hB_7, h⟩ := h
  have jB_7 : ∀ (I_8 : TI) (J_9 : TJ) (S_10 : TS) (L_11 : TL) (H : Heap) (locs : List Loc) (ls : Array Slot), va_P (dC, dI) vwCl (Wd I_8 J_9 S_10 L_11) H → va_D A (Wd I_8 J_9 S_10 L_11) → va_S A s.heap H locs → lv_has ls 1 [] → B_7 I_8 J_9 S_10 L_11 → W p l e (headSpec wsX8_isHand rmX8_isHand).room s m args below meth c H locs 0 0 (MQ below (gQi dC dI (Wd) ty A Φ) args s 0 0 A) (F0 m 14 ls []) := by
    intro I_8 J_9 S_10 L_11 H locs ls hP hD hS hl h
    have h := hB_7 I_8 J_9 S_10 L_11 h
    refine lv_iconst (v := 0) hx hb dX8_isHand_14 (by decide) ?_
    exact jB_1 I_8 J_9 S_10 L_11 (0 : Int32) _ _ _ hP hD hS (lv_sub hl [] rfl) h
  refine lv_if_lt (tgt := 14) hx hb dX8_isHand_1 (by decide) (fun hc => ?_) (fun hc => ?_)
  · have h := h.1 hc
    exact jB_7 I J S L _ _ _ hP hD hS (lv_sub hl [] rfl) h
  · have h := h.2 hc
    refine lv_iload_n hx hb dX8_isHand_4 rfl (lv_at hl 0 rfl) ?_
    refine lv_bipush (v := 12) hx hb dX8_isHand_5 (by decide) ?_
    refine lv_icmp_ge (tgt := 14) hx hb dX8_isHand_7 (by decide) (fun hc => ?_) (fun hc => ?_)
    · have h := h.1 hc
      exact jB_7 I J S L _ _ _ hP hD hS (lv_sub hl [] rfl) h
    · have h := h.2 hc
      refine lv_iconst (v := 1) hx hb dX8_isHand_10 (by decide) ?_
      refine lv_goto (tgt := 15) hx hb dX8_isHand_11 (by decide) ?_
      exact jB_1 I J S L (1 : Int32) _ _ _ hP hD hS (lv_sub hl [] rfl) h
def wp_X8_isWork (I : TI) (J : TJ) (S : TS) (L : TL) (p0 : Int32) (Φ : Int32 → TI → TJ → TS → TL → Prop) : Prop := ∃ B_1 : TI → TJ → TS → TL → Int32 → Prop, (∀ (I_2 : TI) (J_3 : TJ) (S_4 : TS) (L_5 : TL) (s_6 : Int32), B_1 I_2 J_3 S_4 L_5 s_6 → ((s_6 = 0 ∨ s_6 = 1) ∧ Φ s_6 I_2 J_3 S_4 L_5)) ∧ (∃ B_7 : TI → TJ → TS → TL → Prop, (∀ (I_8 : TI) (J_9 : TJ) (S_10 : TS) (L_11 : TL), B_7 I_8 J_9 S_10 L_11 → (B_1 I_8 J_9 S_10 L_11 (0 : Int32))) ∧ (((p0 < 0) → (B_7 I J S L)) ∧ ((¬ p0 < 0) → ((((12 : Int32) ≤ p0) → (B_7 I J S L)) ∧ ((¬ (12 : Int32) ≤ p0) → (B_1 I J S L (1 : Int32)))))))
abbrev rmX8_isWork : Room := { frames := 0, cells := 0, slots := 0, locals := 0 }
set_option maxHeartbeats 4000000 in
set_option maxRecDepth 100000 in
theorem c_X8_isWork (l : Launch) (dC : Nat → ClassId) (dI : Nat → Nat → Nat) (Wd : TW) (ty : TY) (sz : Nat) (I : TI) (J : TJ) (S : TS) (L : TL) (p0 : Int32) (Φ : Int32 → TI → TJ → TS → TL → Prop) (h : wp_X8_isWork I J S L p0 Φ) : Met l yX8_isWork wsX8_isWork rmX8_isWork (va_Pc [.int p0] (gpre dC dI (Wd I J S L) ty sz)) (gQi dC dI (Wd) ty (va_A (Wd I J S L) sz) Φ) 0 0 (va_A (Wd I J S L) sz) := by
  refine Met.ofW (cc := cX8_isWork) (maxL := 1) (ret := (some .boolean)) (by decide) rfl ?_
  intro p e s m args below meth c s₁ B hml hv
  obtain ⟨hargs, hsz, hP, hK, hD0⟩ := hv
  have hx := B.exec
  have hb := B.bytes
  have hr := B.returns
  have hts := atoms_spec (ws := wsX8_isWork) B.pre
  have hown : s.vm.findClass RX8 = some m.cls := findClass_of_methodNamed B.named
  have hlocks := B.notSynchronized
  subst hsz
  have hD := hD0.self (sz := s.heap.size)
  generalize hAe : va_A (Wd I J S L) s.heap.size = A at hD ⊢
  have hA : ∀ q : Nat, s.heap.size ≤ q → A q := fun q h => by rw [← hAe]; exact Or.inr h
  have hS : va_S A s.heap s.heap [] := va_S.rf
  have hl := lv_entry ([.int p0]) (n := 1) (Nat.le_of_ble_eq_true rfl)
  have hE : entryFrame m args 1 = F0 m 0 ((lg_sl ([.int p0]) ++ List.replicate (1 - (lg_sl ([.int p0])).length) Slot.unset).toArray) [] := by rw [hargs]; exact lg_entry_eq m _ _
  rw [hE]
  clear hE
  generalize (lg_sl ([.int p0]) ++ List.replicate (1 - (lg_sl ([.int p0])).length) Slot.unset).toArray = ls at hl ⊢
  have hl : lv_has ls 1 [(0, .int p0)] := hl
  unfold wp_X8_isWork at h
  refine lv_iload_n hx hb dX8_isWork_0 rfl (lv_at hl 0 rfl) ?_
  obtain ⟨B_1, hB_1, h⟩ := h
  have jB_1 : ∀ (I_2 : TI) (J_3 : TJ) (S_4 : TS) (L_5 : TL) (s_6 : Int32) (H : Heap) (locs : List Loc) (ls : Array Slot), va_P (dC, dI) vwCl (Wd I_2 J_3 S_4 L_5) H → va_D A (Wd I_2 J_3 S_4 L_5) → va_S A s.heap H locs → lv_has ls 1 [] → B_1 I_2 J_3 S_4 L_5 s_6 → W p l e (headSpec wsX8_isWork rmX8_isWork).room s m args below meth c H locs 0 0 (MQ below (gQi dC dI (Wd) ty A Φ) args s 0 0 A) (F0 m 15 ls [.int s_6]) := by
    intro I_2 J_3 S_4 L_5 s_6 H locs ls hP hD hS hl h
    have h := hB_1 I_2 J_3 S_4 L_5 s_6 h
    exact grz hx hb hr hlocks hP hK hD hS h dX8_isWork_15
  obtain ⟨B_7, hB_7, h⟩ := h
  have jB_7 : ∀ (I_8 : TI) (J_9 : TJ) (S_10 : TS) (L_11 : TL) (H : Heap) (locs : List Loc) (ls : Array Slot), va_P (dC, dI) vwCl (Wd I_8 J_9 S_10 L_11) H → va_D A (Wd I_8 J_9 S_10 L_11) → va_S A s.heap H locs → lv_has ls 1 [] → B_7 I_8 J_9 S_10 L_11 → W p l e (headSpec wsX8_isWork rmX8_isWork).room s m args below meth c H locs 0 0 (MQ below (gQi dC dI (Wd) ty A Φ) args s 0 0 A) (F0 m 14 ls []) := by
    intro I_8 J_9 S_10 L_11 H locs ls hP hD hS hl h
    have h := hB_7 I_8 J_9 S_10 L_11 h
    refine lv_iconst (v := 0) hx hb dX8_isWork_14 (by decide) ?_
    exact jB_1 I_8 J_9 S_10 L_11 (0 : Int32) _ _ _ hP hD hS (lv_sub hl [] rfl) h
  refine lv_if_lt (tgt := 14) hx hb dX8_isWork_1 (by decide) (fun hc => ?_) (fun hc => ?_)
  · have h := h.1 hc
    exact jB_7 I J S L _ _ _ hP hD hS (lv_sub hl [] rfl) h
  · have h := h.2 hc
    refine lv_iload_n hx hb dX8_isWork_4 rfl (lv_at hl 0 rfl) ?_
    refine lv_bipush (v := 12) hx hb dX8_isWork_5 (by decide) ?_
    refine lv_icmp_ge (tgt := 14) hx hb dX8_isWork_7 (by decide) (fun hc => ?_) (fun hc => ?_)
    · have h := h.1 hc
      exact jB_7 I J S L _ _ _ hP hD hS (lv_sub hl [] rfl) h
    · have h := h.2 hc
      refine lv_iconst (v := 1) hx hb dX8_isWork_10 (by decide) ?_
      refine lv_goto (tgt := 15) hx hb dX8_isWork_11 (by decide) ?_
      exact jB_1 I J S L (1 : Int32) _ _ _ hP hD hS (lv_sub hl [] rfl) h
def wp_X8_isPart (I : TI) (J : TJ) (S : TS) (L : TL) (p0 : Int32) (p1 : Int32) (Φ : Int32 → TI → TJ → TS → TL → Prop) : Prop := ∃ B_1 : TI → TJ → TS → TL → Int32 → Prop, (∀ (I_2 : TI) (J_3 : TJ) (S_4 : TS) (L_5 : TL) (s_6 : Int32), B_1 I_2 J_3 S_4 L_5 s_6 → ((s_6 = 0 ∨ s_6 = 1) ∧ Φ s_6 I_2 J_3 S_4 L_5)) ∧ (((¬ p0 = (-1 : Int32)) → (wp_X8_isHand I J S L p0 (fun (r_11 : Int32) (I_7 : TI) (J_8 : TJ) (S_9 : TS) (L_10 : TL) => (∃ B_12 : TI → TJ → TS → TL → Prop, (∀ (I_13 : TI) (J_14 : TJ) (S_15 : TS) (L_16 : TL), B_12 I_13 J_14 S_15 L_16 → (B_1 I_13 J_14 S_15 L_16 (0 : Int32))) ∧ (((r_11 = 0) → (B_12 I_7 J_8 S_9 L_10)) ∧ ((¬ r_11 = 0) → (((p1 < (1 : Int32)) → (B_12 I_7 J_8 S_9 L_10)) ∧ ((¬ p1 < (1 : Int32)) → ((((1000 : Int32) < p1) → (B_12 I_7 J_8 S_9 L_10)) ∧ ((¬ (1000 : Int32) < p1) → (B_1 I_7 J_8 S_9 L_10 (1 : Int32)))))))))))) ∧ ((p0 = (-1 : Int32)) → (((¬ p1 = 0) → (B_1 I J S L (0 : Int32))) ∧ ((p1 = 0) → (B_1 I J S L (1 : Int32))))))
abbrev rmX8_isPart : Room := { frames := 1, cells := 0, slots := 0, locals := 20 }
set_option maxHeartbeats 4000000 in
set_option maxRecDepth 100000 in
theorem c_X8_isPart (l : Launch) (dC : Nat → ClassId) (dI : Nat → Nat → Nat) (Wd : TW) (ty : TY) (sz : Nat) (I : TI) (J : TJ) (S : TS) (L : TL) (p0 : Int32) (p1 : Int32) (Φ : Int32 → TI → TJ → TS → TL → Prop) (h : wp_X8_isPart I J S L p0 p1 Φ) : Met l yX8_isPart wsX8_isPart rmX8_isPart (va_Pc [.int p0, .int p1] (gpre dC dI (Wd I J S L) ty sz)) (gQi dC dI (Wd) ty (va_A (Wd I J S L) sz) Φ) 0 0 (va_A (Wd I J S L) sz) := by
  refine Met.ofW (cc := cX8_isPart) (maxL := 2) (ret := (some .boolean)) (by decide) rfl ?_
  intro p e s m args below meth c s₁ B hml hv
  obtain ⟨hargs, hsz, hP, hK, hD0⟩ := hv
  have hx := B.exec
  have hb := B.bytes
  have hr := B.returns
  have hts := atoms_spec (ws := wsX8_isPart) B.pre
  have hown : s.vm.findClass RX8 = some m.cls := findClass_of_methodNamed B.named
  have hlocks := B.notSynchronized
  subst hsz
  have hD := hD0.self (sz := s.heap.size)
  generalize hAe : va_A (Wd I J S L) s.heap.size = A at hD ⊢
  have hA : ∀ q : Nat, s.heap.size ≤ q → A q := fun q h => by rw [← hAe]; exact Or.inr h
  have hS : va_S A s.heap s.heap [] := va_S.rf
  have hl := lv_entry ([.int p0, .int p1]) (n := 2) (Nat.le_of_ble_eq_true rfl)
  have hE : entryFrame m args 2 = F0 m 0 ((lg_sl ([.int p0, .int p1]) ++ List.replicate (2 - (lg_sl ([.int p0, .int p1])).length) Slot.unset).toArray) [] := by rw [hargs]; exact lg_entry_eq m _ _
  rw [hE]
  clear hE
  generalize (lg_sl ([.int p0, .int p1]) ++ List.replicate (2 - (lg_sl ([.int p0, .int p1])).length) Slot.unset).toArray = ls at hl ⊢
  have hl : lv_has ls 2 [(0, .int p0), (1, .int p1)] := hl
  unfold wp_X8_isPart at h
  refine lv_iload_n hx hb dX8_isPart_0 rfl (lv_at hl 0 rfl) ?_
  refine lv_iconst (v := -1) hx hb dX8_isPart_1 (by decide) ?_
  obtain ⟨B_1, hB_1, h⟩ := h
  have jB_1 : ∀ (I_2 : TI) (J_3 : TJ) (S_4 : TS) (L_5 : TL) (s_6 : Int32) (H : Heap) (locs : List Loc) (ls : Array Slot), va_P (dC, dI) vwCl (Wd I_2 J_3 S_4 L_5) H → va_D A (Wd I_2 J_3 S_4 L_5) → va_S A s.heap H locs → lv_has ls 2 [] → B_1 I_2 J_3 S_4 L_5 s_6 → W p l e (headSpec wsX8_isPart rmX8_isPart).room s m args below meth c H locs 0 0 (MQ below (gQi dC dI (Wd) ty A Φ) args s 0 0 A) (F0 m 41 ls [.int s_6]) := by
    intro I_2 J_3 S_4 L_5 s_6 H locs ls hP hD hS hl h
    have h := hB_1 I_2 J_3 S_4 L_5 s_6 h
    exact grz hx hb hr hlocks hP hK hD hS h dX8_isPart_41
  refine lv_icmp_ne (tgt := 17) hx hb dX8_isPart_2 (by decide) (fun hc => ?_) (fun hc => ?_)
  · have h := h.1 hc
    refine lv_iload_n hx hb dX8_isPart_17 rfl (lv_at hl 0 rfl) ?_
    refine gcalli (va_runS (As := [.int p0]) (rest := []) ⟨hx, hb, hml, hown, hts⟩ (c_X8_isHand l dC dI (Wd) ty H.size I J S L p0 _ h) (va_cwS 1 hts gX8_isPart_X8_isHand rfl rfl rfl (by decide +kernel) ⟨(Nat.le_of_ble_eq_true rfl), (Nat.le_of_ble_eq_true rfl)⟩) (g_pS hP hK hD [.int p0]) rfl rfl hl.1 rfl (lv_room (Nat.le_of_ble_eq_true rfl)) dX8_isPart_18 ⟨(Nat.le_of_ble_eq_true rfl), (Nat.le_of_ble_eq_true rfl)⟩) hS hA hD (fun r_11 I_7 J_8 S_9 L_10 H locs hP hD hS h => ?_)
    obtain ⟨B_12, hB_12, h⟩ := h
    have jB_12 : ∀ (I_13 : TI) (J_14 : TJ) (S_15 : TS) (L_16 : TL) (H : Heap) (locs : List Loc) (ls : Array Slot), va_P (dC, dI) vwCl (Wd I_13 J_14 S_15 L_16) H → va_D A (Wd I_13 J_14 S_15 L_16) → va_S A s.heap H locs → lv_has ls 2 [] → B_12 I_13 J_14 S_15 L_16 → W p l e (headSpec wsX8_isPart rmX8_isPart).room s m args below meth c H locs 0 0 (MQ below (gQi dC dI (Wd) ty A Φ) args s 0 0 A) (F0 m 40 ls []) := by
      intro I_13 J_14 S_15 L_16 H locs ls hP hD hS hl h
      have h := hB_12 I_13 J_14 S_15 L_16 h
      refine lv_iconst (v := 0) hx hb dX8_isPart_40 (by decide) ?_
      exact jB_1 I_13 J_14 S_15 L_16 (0 : Int32) _ _ _ hP hD hS (lv_sub hl [] rfl) h
    refine lv_if_eq (tgt := 40) hx hb dX8_isPart_21 (by decide) (fun hc => ?_) (fun hc => ?_)
    · have h := h.1 hc
      exact jB_12 I_7 J_8 S_9 L_10 _ _ _ hP hD hS (lv_sub hl [] rfl) h
    · have h := h.2 hc
      refine lv_iload_n hx hb dX8_isPart_24 rfl (lv_at hl 1 rfl) ?_
      refine lv_iconst (v := 1) hx hb dX8_isPart_25 (by decide) ?_
      refine lv_icmp_lt (tgt := 40) hx hb dX8_isPart_26 (by decide) (fun hc => ?_) (fun hc => ?_)
      · have h := h.1 hc
        exact jB_12 I_7 J_8 S_9 L_10 _ _ _ hP hD hS (lv_sub hl [] rfl) h
      · have h := h.2 hc
        refine lv_iload_n hx hb dX8_isPart_29 rfl (lv_at hl 1 rfl) ?_
        refine lv_sipush (v := 1000) hx hb dX8_isPart_30 (by decide) ?_
        refine lv_icmp_gt (tgt := 40) hx hb dX8_isPart_33 (by decide) (fun hc => ?_) (fun hc => ?_)
        · have h := h.1 hc
          exact jB_12 I_7 J_8 S_9 L_10 _ _ _ hP hD hS (lv_sub hl [] rfl) h
        · have h := h.2 hc
          refine lv_iconst (v := 1) hx hb dX8_isPart_36 (by decide) ?_
          refine lv_goto (tgt := 41) hx hb dX8_isPart_37 (by decide) ?_
          exact jB_1 I_7 J_8 S_9 L_10 (1 : Int32) _ _ _ hP hD hS (lv_sub hl [] rfl) h
  · have h := h.2 hc
    refine lv_iload_n hx hb dX8_isPart_5 rfl (lv_at hl 1 rfl) ?_
    refine lv_if_ne (tgt := 13) hx hb dX8_isPart_6 (by decide) (fun hc => ?_) (fun hc => ?_)
    · have h := h.1 hc
      refine lv_iconst (v := 0) hx hb dX8_isPart_13 (by decide) ?_
      refine lv_goto (tgt := 41) hx hb dX8_isPart_14 (by decide) ?_
      exact jB_1 I J S L (0 : Int32) _ _ _ hP hD hS (lv_sub hl [] rfl) h
    · have h := h.2 hc
      refine lv_iconst (v := 1) hx hb dX8_isPart_9 (by decide) ?_
      refine lv_goto (tgt := 41) hx hb dX8_isPart_10 (by decide) ?_
      exact jB_1 I J S L (1 : Int32) _ _ _ hP hD hS (lv_sub hl [] rfl) h
def wp_X8_isSum (I : TI) (J : TJ) (S : TS) (L : TL) (p0 : Int32) (Φ : Int32 → TI → TJ → TS → TL → Prop) : Prop := ∃ B_1 : TI → TJ → TS → TL → Int32 → Prop, (∀ (I_2 : TI) (J_3 : TJ) (S_4 : TS) (L_5 : TL) (s_6 : Int32), B_1 I_2 J_3 S_4 L_5 s_6 → ((s_6 = 0 ∨ s_6 = 1) ∧ Φ s_6 I_2 J_3 S_4 L_5)) ∧ (∃ B_7 : TI → TJ → TS → TL → Prop, (∀ (I_8 : TI) (J_9 : TJ) (S_10 : TS) (L_11 : TL), B_7 I_8 J_9 S_10 L_11 → (B_1 I_8 J_9 S_10 L_11 (0 : Int32))) ∧ (((p0 < (1 : Int32)) → (B_7 I J S L)) ∧ ((¬ p0 < (1 : Int32)) → ((((1000000 : Int32) < p0) → (B_7 I J S L)) ∧ ((¬ (1000000 : Int32) < p0) → (B_1 I J S L (1 : Int32)))))))
theorem kX8_isSum_1 : Cond.constant RX8 150 (1000000) ∈ wsX8_isSum := List.mem_of_getElem? (i := 1) rfl
abbrev rmX8_isSum : Room := { frames := 0, cells := 0, slots := 0, locals := 0 }
set_option maxHeartbeats 4000000 in
set_option maxRecDepth 100000 in
theorem c_X8_isSum (l : Launch) (dC : Nat → ClassId) (dI : Nat → Nat → Nat) (Wd : TW) (ty : TY) (sz : Nat) (I : TI) (J : TJ) (S : TS) (L : TL) (p0 : Int32) (Φ : Int32 → TI → TJ → TS → TL → Prop) (h : wp_X8_isSum I J S L p0 Φ) : Met l yX8_isSum wsX8_isSum rmX8_isSum (va_Pc [.int p0] (gpre dC dI (Wd I J S L) ty sz)) (gQi dC dI (Wd) ty (va_A (Wd I J S L) sz) Φ) 0 0 (va_A (Wd I J S L) sz) := by
  refine Met.ofW (cc := cX8_isSum) (maxL := 1) (ret := (some .boolean)) (by decide) rfl ?_
  intro p e s m args below meth c s₁ B hml hv
  obtain ⟨hargs, hsz, hP, hK, hD0⟩ := hv
  have hx := B.exec
  have hb := B.bytes
  have hr := B.returns
  have hts := atoms_spec (ws := wsX8_isSum) B.pre
  have hown : s.vm.findClass RX8 = some m.cls := findClass_of_methodNamed B.named
  have hlocks := B.notSynchronized
  subst hsz
  have hD := hD0.self (sz := s.heap.size)
  generalize hAe : va_A (Wd I J S L) s.heap.size = A at hD ⊢
  have hA : ∀ q : Nat, s.heap.size ≤ q → A q := fun q h => by rw [← hAe]; exact Or.inr h
  have hS : va_S A s.heap s.heap [] := va_S.rf
  have hl := lv_entry ([.int p0]) (n := 1) (Nat.le_of_ble_eq_true rfl)
  have hE : entryFrame m args 1 = F0 m 0 ((lg_sl ([.int p0]) ++ List.replicate (1 - (lg_sl ([.int p0])).length) Slot.unset).toArray) [] := by rw [hargs]; exact lg_entry_eq m _ _
  rw [hE]
  clear hE
  generalize (lg_sl ([.int p0]) ++ List.replicate (1 - (lg_sl ([.int p0])).length) Slot.unset).toArray = ls at hl ⊢
  have hl : lv_has ls 1 [(0, .int p0)] := hl
  unfold wp_X8_isSum at h
  refine lv_iload_n hx hb dX8_isSum_0 rfl (lv_at hl 0 rfl) ?_
  refine lv_iconst (v := 1) hx hb dX8_isSum_1 (by decide) ?_
  obtain ⟨B_1, hB_1, h⟩ := h
  have jB_1 : ∀ (I_2 : TI) (J_3 : TJ) (S_4 : TS) (L_5 : TL) (s_6 : Int32) (H : Heap) (locs : List Loc) (ls : Array Slot), va_P (dC, dI) vwCl (Wd I_2 J_3 S_4 L_5) H → va_D A (Wd I_2 J_3 S_4 L_5) → va_S A s.heap H locs → lv_has ls 1 [] → B_1 I_2 J_3 S_4 L_5 s_6 → W p l e (headSpec wsX8_isSum rmX8_isSum).room s m args below meth c H locs 0 0 (MQ below (gQi dC dI (Wd) ty A Φ) args s 0 0 A) (F0 m 16 ls [.int s_6]) := by
    intro I_2 J_3 S_4 L_5 s_6 H locs ls hP hD hS hl h
    have h := hB_1 I_2 J_3 S_4 L_5 s_6 h
    exact grz hx hb hr hlocks hP hK hD hS h dX8_isSum_16
  obtain ⟨B_7, hB_7, h⟩ := h
  have jB_7 : ∀ (I_8 : TI) (J_9 : TJ) (S_10 : TS) (L_11 : TL) (H : Heap) (locs : List Loc) (ls : Array Slot), va_P (dC, dI) vwCl (Wd I_8 J_9 S_10 L_11) H → va_D A (Wd I_8 J_9 S_10 L_11) → va_S A s.heap H locs → lv_has ls 1 [] → B_7 I_8 J_9 S_10 L_11 → W p l e (headSpec wsX8_isSum rmX8_isSum).room s m args below meth c H locs 0 0 (MQ below (gQi dC dI (Wd) ty A Φ) args s 0 0 A) (F0 m 15 ls []) := by
    intro I_8 J_9 S_10 L_11 H locs ls hP hD hS hl h
    have h := hB_7 I_8 J_9 S_10 L_11 h
    refine lv_iconst (v := 0) hx hb dX8_isSum_15 (by decide) ?_
    exact jB_1 I_8 J_9 S_10 L_11 (0 : Int32) _ _ _ hP hD hS (lv_sub hl [] rfl) h
  refine lv_icmp_lt (tgt := 15) hx hb dX8_isSum_2 (by decide) (fun hc => ?_) (fun hc => ?_)
  · have h := h.1 hc
    exact jB_7 I J S L _ _ _ hP hD hS (lv_sub hl [] rfl) h
  · have h := h.2 hc
    refine lv_iload_n hx hb dX8_isSum_5 rfl (lv_at hl 0 rfl) ?_
    refine lv_ldc (v := 1000000) hx hb hown (hts (.constant RX8 150 (1000000)) kX8_isSum_1) dX8_isSum_6 ?_
    refine lv_icmp_gt (tgt := 15) hx hb dX8_isSum_8 (by decide) (fun hc => ?_) (fun hc => ?_)
    · have h := h.1 hc
      exact jB_7 I J S L _ _ _ hP hD hS (lv_sub hl [] rfl) h
    · have h := h.2 hc
      refine lv_iconst (v := 1) hx hb dX8_isSum_11 (by decide) ?_
      refine lv_goto (tgt := 16) hx hb dX8_isSum_12 (by decide) ?_
      exact jB_1 I J S L (1 : Int32) _ _ _ hP hD hS (lv_sub hl [] rfl) h
def wp_X8_isThousandth (I : TI) (J : TJ) (S : TS) (L : TL) (p0 : Int32) (Φ : Int32 → TI → TJ → TS → TL → Prop) : Prop := ∃ B_1 : TI → TJ → TS → TL → Int32 → Prop, (∀ (I_2 : TI) (J_3 : TJ) (S_4 : TS) (L_5 : TL) (s_6 : Int32), B_1 I_2 J_3 S_4 L_5 s_6 → ((s_6 = 0 ∨ s_6 = 1) ∧ Φ s_6 I_2 J_3 S_4 L_5)) ∧ (∃ B_7 : TI → TJ → TS → TL → Prop, (∀ (I_8 : TI) (J_9 : TJ) (S_10 : TS) (L_11 : TL), B_7 I_8 J_9 S_10 L_11 → (B_1 I_8 J_9 S_10 L_11 (0 : Int32))) ∧ (((p0 < (1 : Int32)) → (B_7 I J S L)) ∧ ((¬ p0 < (1 : Int32)) → ((((1000 : Int32) < p0) → (B_7 I J S L)) ∧ ((¬ (1000 : Int32) < p0) → (B_1 I J S L (1 : Int32)))))))
abbrev rmX8_isThousandth : Room := { frames := 0, cells := 0, slots := 0, locals := 0 }
set_option maxHeartbeats 4000000 in
set_option maxRecDepth 100000 in
theorem c_X8_isThousandth (l : Launch) (dC : Nat → ClassId) (dI : Nat → Nat → Nat) (Wd : TW) (ty : TY) (sz : Nat) (I : TI) (J : TJ) (S : TS) (L : TL) (p0 : Int32) (Φ : Int32 → TI → TJ → TS → TL → Prop) (h : wp_X8_isThousandth I J S L p0 Φ) : Met l yX8_isThousandth wsX8_isThousandth rmX8_isThousandth (va_Pc [.int p0] (gpre dC dI (Wd I J S L) ty sz)) (gQi dC dI (Wd) ty (va_A (Wd I J S L) sz) Φ) 0 0 (va_A (Wd I J S L) sz) := by
  refine Met.ofW (cc := cX8_isThousandth) (maxL := 1) (ret := (some .boolean)) (by decide) rfl ?_
  intro p e s m args below meth c s₁ B hml hv
  obtain ⟨hargs, hsz, hP, hK, hD0⟩ := hv
  have hx := B.exec
  have hb := B.bytes
  have hr := B.returns
  have hts := atoms_spec (ws := wsX8_isThousandth) B.pre
  have hown : s.vm.findClass RX8 = some m.cls := findClass_of_methodNamed B.named
  have hlocks := B.notSynchronized
  subst hsz
  have hD := hD0.self (sz := s.heap.size)
  generalize hAe : va_A (Wd I J S L) s.heap.size = A at hD ⊢
  have hA : ∀ q : Nat, s.heap.size ≤ q → A q := fun q h => by rw [← hAe]; exact Or.inr h
  have hS : va_S A s.heap s.heap [] := va_S.rf
  have hl := lv_entry ([.int p0]) (n := 1) (Nat.le_of_ble_eq_true rfl)
  have hE : entryFrame m args 1 = F0 m 0 ((lg_sl ([.int p0]) ++ List.replicate (1 - (lg_sl ([.int p0])).length) Slot.unset).toArray) [] := by rw [hargs]; exact lg_entry_eq m _ _
  rw [hE]
  clear hE
  generalize (lg_sl ([.int p0]) ++ List.replicate (1 - (lg_sl ([.int p0])).length) Slot.unset).toArray = ls at hl ⊢
  have hl : lv_has ls 1 [(0, .int p0)] := hl
  unfold wp_X8_isThousandth at h
  refine lv_iload_n hx hb dX8_isThousandth_0 rfl (lv_at hl 0 rfl) ?_
  refine lv_iconst (v := 1) hx hb dX8_isThousandth_1 (by decide) ?_
  obtain ⟨B_1, hB_1, h⟩ := h
  have jB_1 : ∀ (I_2 : TI) (J_3 : TJ) (S_4 : TS) (L_5 : TL) (s_6 : Int32) (H : Heap) (locs : List Loc) (ls : Array Slot), va_P (dC, dI) vwCl (Wd I_2 J_3 S_4 L_5) H → va_D A (Wd I_2 J_3 S_4 L_5) → va_S A s.heap H locs → lv_has ls 1 [] → B_1 I_2 J_3 S_4 L_5 s_6 → W p l e (headSpec wsX8_isThousandth rmX8_isThousandth).room s m args below meth c H locs 0 0 (MQ below (gQi dC dI (Wd) ty A Φ) args s 0 0 A) (F0 m 17 ls [.int s_6]) := by
    intro I_2 J_3 S_4 L_5 s_6 H locs ls hP hD hS hl h
    have h := hB_1 I_2 J_3 S_4 L_5 s_6 h
    exact grz hx hb hr hlocks hP hK hD hS h dX8_isThousandth_17
  obtain ⟨B_7, hB_7, h⟩ := h
  have jB_7 : ∀ (I_8 : TI) (J_9 : TJ) (S_10 : TS) (L_11 : TL) (H : Heap) (locs : List Loc) (ls : Array Slot), va_P (dC, dI) vwCl (Wd I_8 J_9 S_10 L_11) H → va_D A (Wd I_8 J_9 S_10 L_11) → va_S A s.heap H locs → lv_has ls 1 [] → B_7 I_8 J_9 S_10 L_11 → W p l e (headSpec wsX8_isThousandth rmX8_isThousandth).room s m args below meth c H locs 0 0 (MQ below (gQi dC dI (Wd) ty A Φ) args s 0 0 A) (F0 m 16 ls []) := by
    intro I_8 J_9 S_10 L_11 H locs ls hP hD hS hl h
    have h := hB_7 I_8 J_9 S_10 L_11 h
    refine lv_iconst (v := 0) hx hb dX8_isThousandth_16 (by decide) ?_
    exact jB_1 I_8 J_9 S_10 L_11 (0 : Int32) _ _ _ hP hD hS (lv_sub hl [] rfl) h
  refine lv_icmp_lt (tgt := 16) hx hb dX8_isThousandth_2 (by decide) (fun hc => ?_) (fun hc => ?_)
  · have h := h.1 hc
    exact jB_7 I J S L _ _ _ hP hD hS (lv_sub hl [] rfl) h
  · have h := h.2 hc
    refine lv_iload_n hx hb dX8_isThousandth_5 rfl (lv_at hl 0 rfl) ?_
    refine lv_sipush (v := 1000) hx hb dX8_isThousandth_6 (by decide) ?_
    refine lv_icmp_gt (tgt := 16) hx hb dX8_isThousandth_9 (by decide) (fun hc => ?_) (fun hc => ?_)
    · have h := h.1 hc
      exact jB_7 I J S L _ _ _ hP hD hS (lv_sub hl [] rfl) h
    · have h := h.2 hc
      refine lv_iconst (v := 1) hx hb dX8_isThousandth_12 (by decide) ?_
      refine lv_goto (tgt := 17) hx hb dX8_isThousandth_13 (by decide) ?_
      exact jB_1 I J S L (1 : Int32) _ _ _ hP hD hS (lv_sub hl [] rfl) h
def wp_X8_areGood (I : TI) (J : TJ) (S : TS) (L : TL) (p0 : Int32) (p1 : Int32) (p2 : Int32) (p3 : Int32) (p4 : Int32) (p5 : Int32) (Φ : Int32 → TI → TJ → TS → TL → Prop) : Prop := wp_X8_isHand I J S L p5 (fun (r_5 : Int32) (I_1 : TI) (J_2 : TJ) (S_3 : TS) (L_4 : TL) => (∃ B_6 : TI → TJ → TS → TL → Int32 → Int32 → Int32 → Int32 → Int32 → Prop, (∀ (I_7 : TI) (J_8 : TJ) (S_9 : TS) (L_10 : TL) (x_11 : Int32) (x_12 : Int32) (x_13 : Int32) (x_14 : Int32) (s_15 : Int32), B_6 I_7 J_8 S_9 L_10 x_11 x_12 x_13 x_14 s_15 → (((x_11 = nI 0) → (wp_X8_isThousandth I_7 J_8 S_9 L_10 x_12 (fun (r_20 : Int32) (I_16 : TI) (J_17 : TJ) (S_18 : TS) (L_19 : TL) => (∃ B_21 : TI → TJ → TS → TL → Int32 → Prop, (∀ (I_22 : TI) (J_23 : TJ) (S_24 : TS) (L_25 : TL) (s_26 : Int32), B_21 I_22 J_23 S_24 L_25 s_26 → ((s_26 = 0 ∨ s_26 = 1) ∧ Φ s_26 I_22 J_23 S_24 L_25)) ∧ (∃ B_27 : TI → TJ → TS → TL → Prop, (∀ (I_28 : TI) (J_29 : TJ) (S_30 : TS) (L_31 : TL), B_27 I_28 J_29 S_30 L_31 → (B_21 I_28 J_29 S_30 L_31 (0 : Int32))) ∧ (((r_20 = 0) → (B_27 I_16 J_17 S_18 L_19)) ∧ ((¬ r_20 = 0) → (((s_15 = 0) → (B_27 I_16 J_17 S_18 L_19)) ∧ ((¬ s_15 = 0) → (B_21 I_16 J_17 S_18 L_19 (1 : Int32))))))))))) ∧ ((x_11 = nI 1) → (wp_X8_isSum I_7 J_8 S_9 L_10 x_12 (fun (r_36 : Int32) (I_32 : TI) (J_33 : TJ) (S_34 : TS) (L_35 : TL) => ((r_36 = 0 ∨ r_36 = 1) ∧ Φ r_36 I_32 J_33 S_34 L_35)))) ∧ ((x_11 = nI 2) → (wp_X8_isSum I_7 J_8 S_9 L_10 x_12 (fun (r_41 : Int32) (I_37 : TI) (J_38 : TJ) (S_39 : TS) (L_40 : TL) => ((r_41 = 0 ∨ r_41 = 1) ∧ Φ r_41 I_37 J_38 S_39 L_40)))) ∧ ((x_11 = nI 3) → (wp_X8_isThousandth I_7 J_8 S_9 L_10 x_12 (fun (r_46 : Int32) (I_42 : TI) (J_43 : TJ) (S_44 : TS) (L_45 : TL) => (∃ B_47 : TI → TJ → TS → TL → Int32 → Prop, (∀ (I_48 : TI) (J_49 : TJ) (S_50 : TS) (L_51 : TL) (s_52 : Int32), B_47 I_48 J_49 S_50 L_51 s_52 → ((s_52 = 0 ∨ s_52 = 1) ∧ Φ s_52 I_48 J_49 S_50 L_51)) ∧ (∃ B_53 : TI → TJ → TS → TL → Prop, (∀ (I_54 : TI) (J_55 : TJ) (S_56 : TS) (L_57 : TL), B_53 I_54 J_55 S_56 L_57 → (B_47 I_54 J_55 S_56 L_57 (0 : Int32))) ∧ (((r_46 = 0) → (B_53 I_42 J_43 S_44 L_45)) ∧ ((¬ r_46 = 0) → (wp_X8_isSum I_42 J_43 S_44 L_45 x_13 (fun (r_62 : Int32) (I_58 : TI) (J_59 : TJ) (S_60 : TS) (L_61 : TL) => (((r_62 = 0) → (B_53 I_58 J_59 S_60 L_61)) ∧ ((¬ r_62 = 0) → (((x_14 < 0) → (B_53 I_58 J_59 S_60 L_61)) ∧ ((¬ x_14 < 0) → ((((1000 : Int32) < x_14) → (B_53 I_58 J_59 S_60 L_61)) ∧ ((¬ (1000 : Int32) < x_14) → (((s_15 = 0) → (B_53 I_58 J_59 S_60 L_61)) ∧ ((¬ s_15 = 0) → (B_47 I_58 J_59 S_60 L_61 (1 : Int32))))))))))))))))))) ∧ ((x_11 = nI 4) → (wp_X8_isThousandth I_7 J_8 S_9 L_10 x_12 (fun (r_67 : Int32) (I_63 : TI) (J_64 : TJ) (S_65 : TS) (L_66 : TL) => (∃ B_68 : TI → TJ → TS → TL → Int32 → Prop, (∀ (I_69 : TI) (J_70 : TJ) (S_71 : TS) (L_72 : TL) (s_73 : Int32), B_68 I_69 J_70 S_71 L_72 s_73 → ((s_73 = 0 ∨ s_73 = 1) ∧ Φ s_73 I_69 J_70 S_71 L_72)) ∧ (∃ B_74 : TI → TJ → TS → TL → Prop, (∀ (I_75 : TI) (J_76 : TJ) (S_77 : TS) (L_78 : TL), B_74 I_75 J_76 S_77 L_78 → (B_68 I_75 J_76 S_77 L_78 (0 : Int32))) ∧ (((r_67 = 0) → (B_74 I_63 J_64 S_65 L_66)) ∧ ((¬ r_67 = 0) → (((x_13 < (1 : Int32)) → (B_74 I_63 J_64 S_65 L_66)) ∧ ((¬ x_13 < (1 : Int32)) → ((((8 : Int32) < x_13) → (B_74 I_63 J_64 S_65 L_66)) ∧ ((¬ (8 : Int32) < x_13) → (B_68 I_63 J_64 S_65 L_66 (1 : Int32))))))))))))) ∧ ((∀ k, k < 5 → ¬ x_11 = nI k) → (Φ (0 : Int32) I_7 J_8 S_9 L_10)))) ∧ (∃ B_79 : TI → TJ → TS → TL → Int32 → Int32 → Int32 → Int32 → Prop, (∀ (I_80 : TI) (J_81 : TJ) (S_82 : TS) (L_83 : TL) (x_84 : Int32) (x_85 : Int32) (x_86 : Int32) (x_87 : Int32), B_79 I_80 J_81 S_82 L_83 x_84 x_85 x_86 x_87 → (B_6 I_80 J_81 S_82 L_83 x_84 x_85 x_86 x_87 (0 : Int32))) ∧ (((r_5 = 0) → (B_79 I_1 J_2 S_3 L_4 p0 p2 p3 p4)) ∧ ((¬ r_5 = 0) → (((p5 = p1) → (B_79 I_1 J_2 S_3 L_4 p0 p2 p3 p4)) ∧ ((¬ p5 = p1) → (B_6 I_1 J_2 S_3 L_4 p0 p2 p3 p4 (1 : Int32)))))))))
abbrev rmX8_areGood : Room := { frames := 1, cells := 0, slots := 0, locals := 20 }
set_option maxHeartbeats 4000000 in
set_option maxRecDepth 100000 in
theorem c_X8_areGood (l : Launch) (dC : Nat → ClassId) (dI : Nat → Nat → Nat) (Wd : TW) (ty : TY) (sz : Nat) (I : TI) (J : TJ) (S : TS) (L : TL) (p0 : Int32) (p1 : Int32) (p2 : Int32) (p3 : Int32) (p4 : Int32) (p5 : Int32) (Φ : Int32 → TI → TJ → TS → TL → Prop) (h : wp_X8_areGood I J S L p0 p1 p2 p3 p4 p5 Φ) : Met l yX8_areGood wsX8_areGood rmX8_areGood (va_Pc [.int p0, .int p1, .int p2, .int p3, .int p4, .int p5] (gpre dC dI (Wd I J S L) ty sz)) (gQi dC dI (Wd) ty (va_A (Wd I J S L) sz) Φ) 0 0 (va_A (Wd I J S L) sz) := by
  refine Met.ofW (cc := cX8_areGood) (maxL := 7) (ret := (some .boolean)) (by decide) rfl ?_
  intro p e s m args below meth c s₁ B hml hv
  obtain ⟨hargs, hsz, hP, hK, hD0⟩ := hv
  have hx := B.exec
  have hb := B.bytes
  have hr := B.returns
  have hts := atoms_spec (ws := wsX8_areGood) B.pre
  have hown : s.vm.findClass RX8 = some m.cls := findClass_of_methodNamed B.named
  have hlocks := B.notSynchronized
  subst hsz
  have hD := hD0.self (sz := s.heap.size)
  generalize hAe : va_A (Wd I J S L) s.heap.size = A at hD ⊢
  have hA : ∀ q : Nat, s.heap.size ≤ q → A q := fun q h => by rw [← hAe]; exact Or.inr h
  have hS : va_S A s.heap s.heap [] := va_S.rf
  have hl := lv_entry ([.int p0, .int p1, .int p2, .int p3, .int p4, .int p5]) (n := 7) (Nat.le_of_ble_eq_true rfl)
  have hE : entryFrame m args 7 = F0 m 0 ((lg_sl ([.int p0, .int p1, .int p2, .int p3, .int p4, .int p5]) ++ List.replicate (7 - (lg_sl ([.int p0, .int p1, .int p2, .int p3, .int p4, .int p5])).length) Slot.unset).toArray) [] := by rw [hargs]; exact lg_entry_eq m _ _
  rw [hE]
  clear hE
  generalize (lg_sl ([.int p0, .int p1, .int p2, .int p3, .int p4, .int p5]) ++ List.replicate (7 - (lg_sl ([.int p0, .int p1, .int p2, .int p3, .int p4, .int p5])).length) Slot.unset).toArray = ls at hl ⊢
  have hl : lv_has ls 7 [(0, .int p0), (1, .int p1), (2, .int p2), (3, .int p3), (4, .int p4), (5, .int p5)] := hl
  unfold wp_X8_areGood at h
  refine lv_iload hx hb dX8_areGood_0 (lv_at hl 5 rfl) ?_
  refine gcalli (va_runS (As := [.int p5]) (rest := []) ⟨hx, hb, hml, hown, hts⟩ (c_X8_isHand l dC dI (Wd) ty H.size I J S L p5 _ h) (va_cwS 1 hts gX8_areGood_X8_isHand rfl rfl rfl (by decide +kernel) ⟨(Nat.le_of_ble_eq_true rfl), (Nat.le_of_ble_eq_true rfl)⟩) (g_pS hP hK hD [.int p5]) rfl rfl hl.1 rfl (lv_room (Nat.le_of_ble_eq_true rfl)) dX8_areGood_2 ⟨(Nat.le_of_ble_eq_true rfl), (Nat.le_of_ble_eq_true rfl)⟩) hS hA hD (fun r_5 I_1 J_2 S_3 L_4 H locs hP hD hS h => ?_)
  obtain ⟨B_6, hB_6, h⟩ := h
  have jB_6 : ∀ (I_7 : TI) (J_8 : TJ) (S_9 : TS) (L_10 : TL) (x_11 : Int32) (x_12 : Int32) (x_13 : Int32) (x_14 : Int32) (s_15 : Int32) (H : Heap) (locs : List Loc) (ls : Array Slot), va_P (dC, dI) vwCl (Wd I_7 J_8 S_9 L_10) H → va_D A (Wd I_7 J_8 S_9 L_10) → va_S A s.heap H locs → lv_has ls 7 [(0, .int x_11), (2, .int x_12), (3, .int x_13), (4, .int x_14)] → B_6 I_7 J_8 S_9 L_10 x_11 x_12 x_13 x_14 s_15 → W p l e (headSpec wsX8_areGood rmX8_areGood).room s m args below meth c H locs 0 0 (MQ below (gQi dC dI (Wd) ty A Φ) args s 0 0 A) (F0 m 19 ls [.int s_15]) := by
    intro I_7 J_8 S_9 L_10 x_11 x_12 x_13 x_14 s_15 H locs ls hP hD hS hl h
    have h := hB_6 I_7 J_8 S_9 L_10 x_11 x_12 x_13 x_14 s_15 h
    refine lv_istore (lv' := [(6, .int s_15), (0, .int x_11), (2, .int x_12), (3, .int x_13), (4, .int x_14)]) hx hb dX8_areGood_19 hl (by decide) rfl (fun ls hl => ?_)
    refine lv_iload_n hx hb dX8_areGood_21 rfl (lv_at hl 1 rfl) ?_
    by_cases hc0 : x_11 = nI 0
    · have h := h.1 hc0
      refine lv_tableIn (off := 34) (tgt := 56) hx hb dX8_areGood_22 (by rw [hc0]; decide) (by rw [hc0]; decide) (by rw [hc0]; decide) (by decide) ?_
      refine lv_iload_n hx hb dX8_areGood_56 rfl (lv_at hl 2 rfl) ?_
      refine gcalli (va_runS (As := [.int x_12]) (rest := []) ⟨hx, hb, hml, hown, hts⟩ (c_X8_isThousandth l dC dI (Wd) ty H.size I_7 J_8 S_9 L_10 x_12 _ h) (va_cwS 1 hts gX8_areGood_X8_isThousandth rfl rfl rfl (by decide +kernel) ⟨(Nat.le_of_ble_eq_true rfl), (Nat.le_of_ble_eq_true rfl)⟩) (g_pS hP hK hD [.int x_12]) rfl rfl hl.1 rfl (lv_room (Nat.le_of_ble_eq_true rfl)) dX8_areGood_57 ⟨(Nat.le_of_ble_eq_true rfl), (Nat.le_of_ble_eq_true rfl)⟩) hS hA hD (fun r_20 I_16 J_17 S_18 L_19 H locs hP hD hS h => ?_)
      obtain ⟨B_21, hB_21, h⟩ := h
      have jB_21 : ∀ (I_22 : TI) (J_23 : TJ) (S_24 : TS) (L_25 : TL) (s_26 : Int32) (H : Heap) (locs : List Loc) (ls : Array Slot), va_P (dC, dI) vwCl (Wd I_22 J_23 S_24 L_25) H → va_D A (Wd I_22 J_23 S_24 L_25) → va_S A s.heap H locs → lv_has ls 7 [] → B_21 I_22 J_23 S_24 L_25 s_26 → W p l e (headSpec wsX8_areGood rmX8_areGood).room s m args below meth c H locs 0 0 (MQ below (gQi dC dI (Wd) ty A Φ) args s 0 0 A) (F0 m 73 ls [.int s_26]) := by
        intro I_22 J_23 S_24 L_25 s_26 H locs ls hP hD hS hl h
        have h := hB_21 I_22 J_23 S_24 L_25 s_26 h
        exact grz hx hb hr hlocks hP hK hD hS h dX8_areGood_73
      obtain ⟨B_27, hB_27, h⟩ := h
      have jB_27 : ∀ (I_28 : TI) (J_29 : TJ) (S_30 : TS) (L_31 : TL) (H : Heap) (locs : List Loc) (ls : Array Slot), va_P (dC, dI) vwCl (Wd I_28 J_29 S_30 L_31) H → va_D A (Wd I_28 J_29 S_30 L_31) → va_S A s.heap H locs → lv_has ls 7 [] → B_27 I_28 J_29 S_30 L_31 → W p l e (headSpec wsX8_areGood rmX8_areGood).room s m args below meth c H locs 0 0 (MQ below (gQi dC dI (Wd) ty A Φ) args s 0 0 A) (F0 m 72 ls []) := by
        intro I_28 J_29 S_30 L_31 H locs ls hP hD hS hl h
        have h := hB_27 I_28 J_29 S_30 L_31 h
        refine lv_iconst (v := 0) hx hb dX8_areGood_72 (by decide) ?_
        exact jB_21 I_28 J_29 S_30 L_31 (0 : Int32) _ _ _ hP hD hS (lv_sub hl [] rfl) h
      refine lv_if_eq (tgt := 72) hx hb dX8_areGood_60 (by decide) (fun hc => ?_) (fun hc => ?_)
      · have h := h.1 hc
        exact jB_27 I_16 J_17 S_18 L_19 _ _ _ hP hD hS (lv_sub hl [] rfl) h
      · have h := h.2 hc
        refine lv_iload hx hb dX8_areGood_63 (lv_at hl 0 rfl) ?_
        refine lv_if_eq (tgt := 72) hx hb dX8_areGood_65 (by decide) (fun hc => ?_) (fun hc => ?_)
        · have h := h.1 hc
          exact jB_27 I_16 J_17 S_18 L_19 _ _ _ hP hD hS (lv_sub hl [] rfl) h
        · have h := h.2 hc
          refine lv_iconst (v := 1) hx hb dX8_areGood_68 (by decide) ?_
          refine lv_goto (tgt := 73) hx hb dX8_areGood_69 (by decide) ?_
          exact jB_21 I_16 J_17 S_18 L_19 (1 : Int32) _ _ _ hP hD hS (lv_sub hl [] rfl) h
    by_cases hc1 : x_11 = nI 1
    · have h := h.2.1 hc1
      refine lv_tableIn (off := 52) (tgt := 74) hx hb dX8_areGood_22 (by rw [hc1]; decide) (by rw [hc1]; decide) (by rw [hc1]; decide) (by decide) ?_
      refine lv_iload_n hx hb dX8_areGood_74 rfl (lv_at hl 2 rfl) ?_
      refine gcalli (va_runS (As := [.int x_12]) (rest := []) ⟨hx, hb, hml, hown, hts⟩ (c_X8_isSum l dC dI (Wd) ty H.size I_7 J_8 S_9 L_10 x_12 _ h) (va_cwS 1 hts gX8_areGood_X8_isSum rfl rfl rfl (by decide +kernel) ⟨(Nat.le_of_ble_eq_true rfl), (Nat.le_of_ble_eq_true rfl)⟩) (g_pS hP hK hD [.int x_12]) rfl rfl hl.1 rfl (lv_room (Nat.le_of_ble_eq_true rfl)) dX8_areGood_75 ⟨(Nat.le_of_ble_eq_true rfl), (Nat.le_of_ble_eq_true rfl)⟩) hS hA hD (fun r_36 I_32 J_33 S_34 L_35 H locs hP hD hS h => ?_)
      exact grz hx hb hr hlocks hP hK hD hS h dX8_areGood_78
    by_cases hc2 : x_11 = nI 2
    · have h := h.2.2.1 hc2
      refine lv_tableIn (off := 52) (tgt := 74) hx hb dX8_areGood_22 (by rw [hc2]; decide) (by rw [hc2]; decide) (by rw [hc2]; decide) (by decide) ?_
      refine lv_iload_n hx hb dX8_areGood_74 rfl (lv_at hl 2 rfl) ?_
      refine gcalli (va_runS (As := [.int x_12]) (rest := []) ⟨hx, hb, hml, hown, hts⟩ (c_X8_isSum l dC dI (Wd) ty H.size I_7 J_8 S_9 L_10 x_12 _ h) (va_cwS 1 hts gX8_areGood_X8_isSum rfl rfl rfl (by decide +kernel) ⟨(Nat.le_of_ble_eq_true rfl), (Nat.le_of_ble_eq_true rfl)⟩) (g_pS hP hK hD [.int x_12]) rfl rfl hl.1 rfl (lv_room (Nat.le_of_ble_eq_true rfl)) dX8_areGood_75 ⟨(Nat.le_of_ble_eq_true rfl), (Nat.le_of_ble_eq_true rfl)⟩) hS hA hD (fun r_41 I_37 J_38 S_39 L_40 H locs hP hD hS h => ?_)
      exact grz hx hb hr hlocks hP hK hD hS h dX8_areGood_78
    by_cases hc3 : x_11 = nI 3
    · have h := h.2.2.2.1 hc3
      refine lv_tableIn (off := 57) (tgt := 79) hx hb dX8_areGood_22 (by rw [hc3]; decide) (by rw [hc3]; decide) (by rw [hc3]; decide) (by decide) ?_
      refine lv_iload_n hx hb dX8_areGood_79 rfl (lv_at hl 2 rfl) ?_
      refine gcalli (va_runS (As := [.int x_12]) (rest := []) ⟨hx, hb, hml, hown, hts⟩ (c_X8_isThousandth l dC dI (Wd) ty H.size I_7 J_8 S_9 L_10 x_12 _ h) (va_cwS 1 hts gX8_areGood_X8_isThousandth rfl rfl rfl (by decide +kernel) ⟨(Nat.le_of_ble_eq_true rfl), (Nat.le_of_ble_eq_true rfl)⟩) (g_pS hP hK hD [.int x_12]) rfl rfl hl.1 rfl (lv_room (Nat.le_of_ble_eq_true rfl)) dX8_areGood_80 ⟨(Nat.le_of_ble_eq_true rfl), (Nat.le_of_ble_eq_true rfl)⟩) hS hA hD (fun r_46 I_42 J_43 S_44 L_45 H locs hP hD hS h => ?_)
      obtain ⟨B_47, hB_47, h⟩ := h
      have jB_47 : ∀ (I_48 : TI) (J_49 : TJ) (S_50 : TS) (L_51 : TL) (s_52 : Int32) (H : Heap) (locs : List Loc) (ls : Array Slot), va_P (dC, dI) vwCl (Wd I_48 J_49 S_50 L_51) H → va_D A (Wd I_48 J_49 S_50 L_51) → va_S A s.heap H locs → lv_has ls 7 [] → B_47 I_48 J_49 S_50 L_51 s_52 → W p l e (headSpec wsX8_areGood rmX8_areGood).room s m args below meth c H locs 0 0 (MQ below (gQi dC dI (Wd) ty A Φ) args s 0 0 A) (F0 m 116 ls [.int s_52]) := by
        intro I_48 J_49 S_50 L_51 s_52 H locs ls hP hD hS hl h
        have h := hB_47 I_48 J_49 S_50 L_51 s_52 h
        exact grz hx hb hr hlocks hP hK hD hS h dX8_areGood_116
      obtain ⟨B_53, hB_53, h⟩ := h
      have jB_53 : ∀ (I_54 : TI) (J_55 : TJ) (S_56 : TS) (L_57 : TL) (H : Heap) (locs : List Loc) (ls : Array Slot), va_P (dC, dI) vwCl (Wd I_54 J_55 S_56 L_57) H → va_D A (Wd I_54 J_55 S_56 L_57) → va_S A s.heap H locs → lv_has ls 7 [] → B_53 I_54 J_55 S_56 L_57 → W p l e (headSpec wsX8_areGood rmX8_areGood).room s m args below meth c H locs 0 0 (MQ below (gQi dC dI (Wd) ty A Φ) args s 0 0 A) (F0 m 115 ls []) := by
        intro I_54 J_55 S_56 L_57 H locs ls hP hD hS hl h
        have h := hB_53 I_54 J_55 S_56 L_57 h
        refine lv_iconst (v := 0) hx hb dX8_areGood_115 (by decide) ?_
        exact jB_47 I_54 J_55 S_56 L_57 (0 : Int32) _ _ _ hP hD hS (lv_sub hl [] rfl) h
      refine lv_if_eq (tgt := 115) hx hb dX8_areGood_83 (by decide) (fun hc => ?_) (fun hc => ?_)
      · have h := h.1 hc
        exact jB_53 I_42 J_43 S_44 L_45 _ _ _ hP hD hS (lv_sub hl [] rfl) h
      · have h := h.2 hc
        refine lv_iload_n hx hb dX8_areGood_86 rfl (lv_at hl 3 rfl) ?_
        refine gcalli (va_runS (As := [.int x_13]) (rest := []) ⟨hx, hb, hml, hown, hts⟩ (c_X8_isSum l dC dI (Wd) ty H.size I_42 J_43 S_44 L_45 x_13 _ h) (va_cwS 1 hts gX8_areGood_X8_isSum rfl rfl rfl (by decide +kernel) ⟨(Nat.le_of_ble_eq_true rfl), (Nat.le_of_ble_eq_true rfl)⟩) (g_pS hP hK hD [.int x_13]) rfl rfl hl.1 rfl (lv_room (Nat.le_of_ble_eq_true rfl)) dX8_areGood_87 ⟨(Nat.le_of_ble_eq_true rfl), (Nat.le_of_ble_eq_true rfl)⟩) hS hA hD (fun r_62 I_58 J_59 S_60 L_61 H locs hP hD hS h => ?_)
        refine lv_if_eq (tgt := 115) hx hb dX8_areGood_90 (by decide) (fun hc => ?_) (fun hc => ?_)
        · have h := h.1 hc
          exact jB_53 I_58 J_59 S_60 L_61 _ _ _ hP hD hS (lv_sub hl [] rfl) h
        · have h := h.2 hc
          refine lv_iload hx hb dX8_areGood_93 (lv_at hl 4 rfl) ?_
          refine lv_if_lt (tgt := 115) hx hb dX8_areGood_95 (by decide) (fun hc => ?_) (fun hc => ?_)
          · have h := h.1 hc
            exact jB_53 I_58 J_59 S_60 L_61 _ _ _ hP hD hS (lv_sub hl [] rfl) h
          · have h := h.2 hc
            refine lv_iload hx hb dX8_areGood_98 (lv_at hl 4 rfl) ?_
            refine lv_sipush (v := 1000) hx hb dX8_areGood_100 (by decide) ?_
            refine lv_icmp_gt (tgt := 115) hx hb dX8_areGood_103 (by decide) (fun hc => ?_) (fun hc => ?_)
            · have h := h.1 hc
              exact jB_53 I_58 J_59 S_60 L_61 _ _ _ hP hD hS (lv_sub hl [] rfl) h
            · have h := h.2 hc
              refine lv_iload hx hb dX8_areGood_106 (lv_at hl 0 rfl) ?_
              refine lv_if_eq (tgt := 115) hx hb dX8_areGood_108 (by decide) (fun hc => ?_) (fun hc => ?_)
              · have h := h.1 hc
                exact jB_53 I_58 J_59 S_60 L_61 _ _ _ hP hD hS (lv_sub hl [] rfl) h
              · have h := h.2 hc
                refine lv_iconst (v := 1) hx hb dX8_areGood_111 (by decide) ?_
                refine lv_goto (tgt := 116) hx hb dX8_areGood_112 (by decide) ?_
                exact jB_47 I_58 J_59 S_60 L_61 (1 : Int32) _ _ _ hP hD hS (lv_sub hl [] rfl) h
    by_cases hc4 : x_11 = nI 4
    · have h := h.2.2.2.2.1 hc4
      refine lv_tableIn (off := 95) (tgt := 117) hx hb dX8_areGood_22 (by rw [hc4]; decide) (by rw [hc4]; decide) (by rw [hc4]; decide) (by decide) ?_
      refine lv_iload_n hx hb dX8_areGood_117 rfl (lv_at hl 2 rfl) ?_
      refine gcalli (va_runS (As := [.int x_12]) (rest := []) ⟨hx, hb, hml, hown, hts⟩ (c_X8_isThousandth l dC dI (Wd) ty H.size I_7 J_8 S_9 L_10 x_12 _ h) (va_cwS 1 hts gX8_areGood_X8_isThousandth rfl rfl rfl (by decide +kernel) ⟨(Nat.le_of_ble_eq_true rfl), (Nat.le_of_ble_eq_true rfl)⟩) (g_pS hP hK hD [.int x_12]) rfl rfl hl.1 rfl (lv_room (Nat.le_of_ble_eq_true rfl)) dX8_areGood_118 ⟨(Nat.le_of_ble_eq_true rfl), (Nat.le_of_ble_eq_true rfl)⟩) hS hA hD (fun r_67 I_63 J_64 S_65 L_66 H locs hP hD hS h => ?_)
      obtain ⟨B_68, hB_68, h⟩ := h
      have jB_68 : ∀ (I_69 : TI) (J_70 : TJ) (S_71 : TS) (L_72 : TL) (s_73 : Int32) (H : Heap) (locs : List Loc) (ls : Array Slot), va_P (dC, dI) vwCl (Wd I_69 J_70 S_71 L_72) H → va_D A (Wd I_69 J_70 S_71 L_72) → va_S A s.heap H locs → lv_has ls 7 [] → B_68 I_69 J_70 S_71 L_72 s_73 → W p l e (headSpec wsX8_areGood rmX8_areGood).room s m args below meth c H locs 0 0 (MQ below (gQi dC dI (Wd) ty A Φ) args s 0 0 A) (F0 m 140 ls [.int s_73]) := by
        intro I_69 J_70 S_71 L_72 s_73 H locs ls hP hD hS hl h
        have h := hB_68 I_69 J_70 S_71 L_72 s_73 h
        exact grz hx hb hr hlocks hP hK hD hS h dX8_areGood_140
      obtain ⟨B_74, hB_74, h⟩ := h
      have jB_74 : ∀ (I_75 : TI) (J_76 : TJ) (S_77 : TS) (L_78 : TL) (H : Heap) (locs : List Loc) (ls : Array Slot), va_P (dC, dI) vwCl (Wd I_75 J_76 S_77 L_78) H → va_D A (Wd I_75 J_76 S_77 L_78) → va_S A s.heap H locs → lv_has ls 7 [] → B_74 I_75 J_76 S_77 L_78 → W p l e (headSpec wsX8_areGood rmX8_areGood).room s m args below meth c H locs 0 0 (MQ below (gQi dC dI (Wd) ty A Φ) args s 0 0 A) (F0 m 139 ls []) := by
        intro I_75 J_76 S_77 L_78 H locs ls hP hD hS hl h
        have h := hB_74 I_75 J_76 S_77 L_78 h
        refine lv_iconst (v := 0) hx hb dX8_areGood_139 (by decide) ?_
        exact jB_68 I_75 J_76 S_77 L_78 (0 : Int32) _ _ _ hP hD hS (lv_sub hl [] rfl) h
      refine lv_if_eq (tgt := 139) hx hb dX8_areGood_121 (by decide) (fun hc => ?_) (fun hc => ?_)
      · have h := h.1 hc
        exact jB_74 I_63 J_64 S_65 L_66 _ _ _ hP hD hS (lv_sub hl [] rfl) h
      · have h := h.2 hc
        refine lv_iload_n hx hb dX8_areGood_124 rfl (lv_at hl 3 rfl) ?_
        refine lv_iconst (v := 1) hx hb dX8_areGood_125 (by decide) ?_
        refine lv_icmp_lt (tgt := 139) hx hb dX8_areGood_126 (by decide) (fun hc => ?_) (fun hc => ?_)
        · have h := h.1 hc
          exact jB_74 I_63 J_64 S_65 L_66 _ _ _ hP hD hS (lv_sub hl [] rfl) h
        · have h := h.2 hc
          refine lv_iload_n hx hb dX8_areGood_129 rfl (lv_at hl 3 rfl) ?_
          refine lv_bipush (v := 8) hx hb dX8_areGood_130 (by decide) ?_
          refine lv_icmp_gt (tgt := 139) hx hb dX8_areGood_132 (by decide) (fun hc => ?_) (fun hc => ?_)
          · have h := h.1 hc
            exact jB_74 I_63 J_64 S_65 L_66 _ _ _ hP hD hS (lv_sub hl [] rfl) h
          · have h := h.2 hc
            refine lv_iconst (v := 1) hx hb dX8_areGood_135 (by decide) ?_
            refine lv_goto (tgt := 140) hx hb dX8_areGood_136 (by decide) ?_
            exact jB_68 I_63 J_64 S_65 L_66 (1 : Int32) _ _ _ hP hD hS (lv_sub hl [] rfl) h
    have hno : ∀ k, k < 5 → ¬ x_11 = nI k := fun k hk => by rcases (show k = 0 ∨ k = 1 ∨ k = 2 ∨ k = 3 ∨ k = 4 by omega) with rfl | rfl | rfl | rfl | rfl <;> assumption
    have h := h.2.2.2.2.2 hno
    refine lv_tableOut (tgt := 141) hx hb dX8_areGood_22 (sw_out 5 (by decide) hno) (by decide) ?_
    refine lv_iconst (v := 0) hx hb dX8_areGood_141 (by decide) ?_
    exact grz hx hb hr hlocks hP hK hD hS ⟨Or.inl rfl, h⟩ dX8_areGood_142
  obtain ⟨B_79, hB_79, h⟩ := h
  have jB_79 : ∀ (I_80 : TI) (J_81 : TJ) (S_82 : TS) (L_83 : TL) (x_84 : Int32) (x_85 : Int32) (x_86 : Int32) (x_87 : Int32) (H : Heap) (locs : List Loc) (ls : Array Slot), va_P (dC, dI) vwCl (Wd I_80 J_81 S_82 L_83) H → va_D A (Wd I_80 J_81 S_82 L_83) → va_S A s.heap H locs → lv_has ls 7 [(0, .int x_84), (2, .int x_85), (3, .int x_86), (4, .int x_87)] → B_79 I_80 J_81 S_82 L_83 x_84 x_85 x_86 x_87 → W p l e (headSpec wsX8_areGood rmX8_areGood).room s m args below meth c H locs 0 0 (MQ below (gQi dC dI (Wd) ty A Φ) args s 0 0 A) (F0 m 18 ls []) := by
    intro I_80 J_81 S_82 L_83 x_84 x_85 x_86 x_87 H locs ls hP hD hS hl h
    have h := hB_79 I_80 J_81 S_82 L_83 x_84 x_85 x_86 x_87 h
    refine lv_iconst (v := 0) hx hb dX8_areGood_18 (by decide) ?_
    exact jB_6 I_80 J_81 S_82 L_83 x_84 x_85 x_86 x_87 (0 : Int32) _ _ _ hP hD hS (lv_sub hl [0, 1, 2, 3] rfl) h
  refine lv_if_eq (tgt := 18) hx hb dX8_areGood_5 (by decide) (fun hc => ?_) (fun hc => ?_)
  · have h := h.1 hc
    exact jB_79 I_1 J_2 S_3 L_4 p0 p2 p3 p4 _ _ _ hP hD hS (lv_sub hl [0, 2, 3, 4] rfl) h
  · have h := h.2 hc
    refine lv_iload hx hb dX8_areGood_8 (lv_at hl 5 rfl) ?_
    refine lv_iload_n hx hb dX8_areGood_10 rfl (lv_at hl 1 rfl) ?_
    refine lv_icmp_eq (tgt := 18) hx hb dX8_areGood_11 (by decide) (fun hc => ?_) (fun hc => ?_)
    · have h := h.1 hc
      exact jB_79 I_1 J_2 S_3 L_4 p0 p2 p3 p4 _ _ _ hP hD hS (lv_sub hl [0, 2, 3, 4] rfl) h
    · have h := h.2 hc
      refine lv_iconst (v := 1) hx hb dX8_areGood_14 (by decide) ?_
      refine lv_goto (tgt := 19) hx hb dX8_areGood_15 (by decide) ?_
      exact jB_6 I_1 J_2 S_3 L_4 p0 p2 p3 p4 (1 : Int32) _ _ _ hP hD hS (lv_sub hl [0, 2, 3, 4] rfl) h
def wp_X8_areCoins (I : TI) (J : TJ) (S : TS) (L : TL) (p0 : Int32) (Φ : Int32 → TI → TJ → TS → TL → Prop) : Prop := ∃ B_1 : TI → TJ → TS → TL → Int32 → Prop, (∀ (I_2 : TI) (J_3 : TJ) (S_4 : TS) (L_5 : TL) (s_6 : Int32), B_1 I_2 J_3 S_4 L_5 s_6 → ((s_6 = 0 ∨ s_6 = 1) ∧ Φ s_6 I_2 J_3 S_4 L_5)) ∧ (∃ B_7 : TI → TJ → TS → TL → Prop, (∀ (I_8 : TI) (J_9 : TJ) (S_10 : TS) (L_11 : TL), B_7 I_8 J_9 S_10 L_11 → (B_1 I_8 J_9 S_10 L_11 (0 : Int32))) ∧ (((p0 < 0) → (B_7 I J S L)) ∧ ((¬ p0 < 0) → ((((1000000 : Int32) < p0) → (B_7 I J S L)) ∧ ((¬ (1000000 : Int32) < p0) → (B_1 I J S L (1 : Int32)))))))
theorem kX8_areCoins_1 : Cond.constant RX8 150 (1000000) ∈ wsX8_areCoins := List.mem_of_getElem? (i := 1) rfl
abbrev rmX8_areCoins : Room := { frames := 0, cells := 0, slots := 0, locals := 0 }
set_option maxHeartbeats 4000000 in
set_option maxRecDepth 100000 in
theorem c_X8_areCoins (l : Launch) (dC : Nat → ClassId) (dI : Nat → Nat → Nat) (Wd : TW) (ty : TY) (sz : Nat) (I : TI) (J : TJ) (S : TS) (L : TL) (p0 : Int32) (Φ : Int32 → TI → TJ → TS → TL → Prop) (h : wp_X8_areCoins I J S L p0 Φ) : Met l yX8_areCoins wsX8_areCoins rmX8_areCoins (va_Pc [.int p0] (gpre dC dI (Wd I J S L) ty sz)) (gQi dC dI (Wd) ty (va_A (Wd I J S L) sz) Φ) 0 0 (va_A (Wd I J S L) sz) := by
  refine Met.ofW (cc := cX8_areCoins) (maxL := 1) (ret := (some .boolean)) (by decide) rfl ?_
  intro p e s m args below meth c s₁ B hml hv
  obtain ⟨hargs, hsz, hP, hK, hD0⟩ := hv
  have hx := B.exec
  have hb := B.bytes
  have hr := B.returns
  have hts := atoms_spec (ws := wsX8_areCoins) B.pre
  have hown : s.vm.findClass RX8 = some m.cls := findClass_of_methodNamed B.named
  have hlocks := B.notSynchronized
  subst hsz
  have hD := hD0.self (sz := s.heap.size)
  generalize hAe : va_A (Wd I J S L) s.heap.size = A at hD ⊢
  have hA : ∀ q : Nat, s.heap.size ≤ q → A q := fun q h => by rw [← hAe]; exact Or.inr h
  have hS : va_S A s.heap s.heap [] := va_S.rf
  have hl := lv_entry ([.int p0]) (n := 1) (Nat.le_of_ble_eq_true rfl)
  have hE : entryFrame m args 1 = F0 m 0 ((lg_sl ([.int p0]) ++ List.replicate (1 - (lg_sl ([.int p0])).length) Slot.unset).toArray) [] := by rw [hargs]; exact lg_entry_eq m _ _
  rw [hE]
  clear hE
  generalize (lg_sl ([.int p0]) ++ List.replicate (1 - (lg_sl ([.int p0])).length) Slot.unset).toArray = ls at hl ⊢
  have hl : lv_has ls 1 [(0, .int p0)] := hl
  unfold wp_X8_areCoins at h
  refine lv_iload_n hx hb dX8_areCoins_0 rfl (lv_at hl 0 rfl) ?_
  obtain ⟨B_1, hB_1, h⟩ := h
  have jB_1 : ∀ (I_2 : TI) (J_3 : TJ) (S_4 : TS) (L_5 : TL) (s_6 : Int32) (H : Heap) (locs : List Loc) (ls : Array Slot), va_P (dC, dI) vwCl (Wd I_2 J_3 S_4 L_5) H → va_D A (Wd I_2 J_3 S_4 L_5) → va_S A s.heap H locs → lv_has ls 1 [] → B_1 I_2 J_3 S_4 L_5 s_6 → W p l e (headSpec wsX8_areCoins rmX8_areCoins).room s m args below meth c H locs 0 0 (MQ below (gQi dC dI (Wd) ty A Φ) args s 0 0 A) (F0 m 15 ls [.int s_6]) := by
    intro I_2 J_3 S_4 L_5 s_6 H locs ls hP hD hS hl h
    have h := hB_1 I_2 J_3 S_4 L_5 s_6 h
    exact grz hx hb hr hlocks hP hK hD hS h dX8_areCoins_15
  obtain ⟨B_7, hB_7, h⟩ := h
  have jB_7 : ∀ (I_8 : TI) (J_9 : TJ) (S_10 : TS) (L_11 : TL) (H : Heap) (locs : List Loc) (ls : Array Slot), va_P (dC, dI) vwCl (Wd I_8 J_9 S_10 L_11) H → va_D A (Wd I_8 J_9 S_10 L_11) → va_S A s.heap H locs → lv_has ls 1 [] → B_7 I_8 J_9 S_10 L_11 → W p l e (headSpec wsX8_areCoins rmX8_areCoins).room s m args below meth c H locs 0 0 (MQ below (gQi dC dI (Wd) ty A Φ) args s 0 0 A) (F0 m 14 ls []) := by
    intro I_8 J_9 S_10 L_11 H locs ls hP hD hS hl h
    have h := hB_7 I_8 J_9 S_10 L_11 h
    refine lv_iconst (v := 0) hx hb dX8_areCoins_14 (by decide) ?_
    exact jB_1 I_8 J_9 S_10 L_11 (0 : Int32) _ _ _ hP hD hS (lv_sub hl [] rfl) h
  refine lv_if_lt (tgt := 14) hx hb dX8_areCoins_1 (by decide) (fun hc => ?_) (fun hc => ?_)
  · have h := h.1 hc
    exact jB_7 I J S L _ _ _ hP hD hS (lv_sub hl [] rfl) h
  · have h := h.2 hc
    refine lv_iload_n hx hb dX8_areCoins_4 rfl (lv_at hl 0 rfl) ?_
    refine lv_ldc (v := 1000000) hx hb hown (hts (.constant RX8 150 (1000000)) kX8_areCoins_1) dX8_areCoins_5 ?_
    refine lv_icmp_gt (tgt := 14) hx hb dX8_areCoins_7 (by decide) (fun hc => ?_) (fun hc => ?_)
    · have h := h.1 hc
      exact jB_7 I J S L _ _ _ hP hD hS (lv_sub hl [] rfl) h
    · have h := h.2 hc
      refine lv_iconst (v := 1) hx hb dX8_areCoins_10 (by decide) ?_
      refine lv_goto (tgt := 15) hx hb dX8_areCoins_11 (by decide) ?_
      exact jB_1 I J S L (1 : Int32) _ _ _ hP hD hS (lv_sub hl [] rfl) h
def wp_X8_bag (I : TI) (J : TJ) (S : TS) (L : TL) (p0 : Int32) (p1 : Int32) (p2 : Int32) (Φ : Int32 → TI → TJ → TS → TL → Prop) : Prop := Φ ((((p0 * (24 : Int32)) + p1) * (40 : Int32)) + p2) I J S L
abbrev rmX8_bag : Room := { frames := 0, cells := 0, slots := 0, locals := 0 }
set_option maxHeartbeats 4000000 in
set_option maxRecDepth 100000 in
theorem c_X8_bag (l : Launch) (dC : Nat → ClassId) (dI : Nat → Nat → Nat) (Wd : TW) (ty : TY) (sz : Nat) (I : TI) (J : TJ) (S : TS) (L : TL) (p0 : Int32) (p1 : Int32) (p2 : Int32) (Φ : Int32 → TI → TJ → TS → TL → Prop) (h : wp_X8_bag I J S L p0 p1 p2 Φ) : Met l yX8_bag wsX8_bag rmX8_bag (va_Pc [.int p0, .int p1, .int p2] (gpre dC dI (Wd I J S L) ty sz)) (gQi dC dI (Wd) ty (va_A (Wd I J S L) sz) Φ) 0 0 (va_A (Wd I J S L) sz) := by
  refine Met.ofW (cc := cX8_bag) (maxL := 3) (ret := (some .int)) (by decide) rfl ?_
  intro p e s m args below meth c s₁ B hml hv
  obtain ⟨hargs, hsz, hP, hK, hD0⟩ := hv
  have hx := B.exec
  have hb := B.bytes
  have hr := B.returns
  have hts := atoms_spec (ws := wsX8_bag) B.pre
  have hown : s.vm.findClass RX8 = some m.cls := findClass_of_methodNamed B.named
  have hlocks := B.notSynchronized
  subst hsz
  have hD := hD0.self (sz := s.heap.size)
  generalize hAe : va_A (Wd I J S L) s.heap.size = A at hD ⊢
  have hA : ∀ q : Nat, s.heap.size ≤ q → A q := fun q h => by rw [← hAe]; exact Or.inr h
  have hS : va_S A s.heap s.heap [] := va_S.rf
  have hl := lv_entry ([.int p0, .int p1, .int p2]) (n := 3) (Nat.le_of_ble_eq_true rfl)
  have hE : entryFrame m args 3 = F0 m 0 ((lg_sl ([.int p0, .int p1, .int p2]) ++ List.replicate (3 - (lg_sl ([.int p0, .int p1, .int p2])).length) Slot.unset).toArray) [] := by rw [hargs]; exact lg_entry_eq m _ _
  rw [hE]
  clear hE
  generalize (lg_sl ([.int p0, .int p1, .int p2]) ++ List.replicate (3 - (lg_sl ([.int p0, .int p1, .int p2])).length) Slot.unset).toArray = ls at hl ⊢
  have hl : lv_has ls 3 [(0, .int p0), (1, .int p1), (2, .int p2)] := hl
  unfold wp_X8_bag at h
  refine lv_iload_n hx hb dX8_bag_0 rfl (lv_at hl 0 rfl) ?_
  refine lv_bipush (v := 24) hx hb dX8_bag_1 (by decide) ?_
  refine lv_imul hx hb dX8_bag_3 ?_
  refine lv_iload_n hx hb dX8_bag_4 rfl (lv_at hl 1 rfl) ?_
  refine lv_iadd hx hb dX8_bag_5 ?_
  refine lv_bipush (v := 40) hx hb dX8_bag_6 (by decide) ?_
  refine lv_imul hx hb dX8_bag_8 ?_
  refine lv_iload_n hx hb dX8_bag_9 rfl (lv_at hl 2 rfl) ?_
  refine lv_iadd hx hb dX8_bag_10 ?_
  exact gri hx hb hr hlocks hP hK hD hS h dX8_bag_11
def wp_X8_dueAt (I : TI) (J : TJ) (S : TS) (L : TL) (p0 : Int32) (p1 : Int32) (p2 : Int32) (Φ : Int32 → TI → TJ → TS → TL → Prop) : Prop := Φ ((((p0 * (12 : Int32)) + p1) * (40 : Int32)) + p2) I J S L
abbrev rmX8_dueAt : Room := { frames := 0, cells := 0, slots := 0, locals := 0 }
set_option maxHeartbeats 4000000 in
set_option maxRecDepth 100000 in
theorem c_X8_dueAt (l : Launch) (dC : Nat → ClassId) (dI : Nat → Nat → Nat) (Wd : TW) (ty : TY) (sz : Nat) (I : TI) (J : TJ) (S : TS) (L : TL) (p0 : Int32) (p1 : Int32) (p2 : Int32) (Φ : Int32 → TI → TJ → TS → TL → Prop) (h : wp_X8_dueAt I J S L p0 p1 p2 Φ) : Met l yX8_dueAt wsX8_dueAt rmX8_dueAt (va_Pc [.int p0, .int p1, .int p2] (gpre dC dI (Wd I J S L) ty sz)) (gQi dC dI (Wd) ty (va_A (Wd I J S L) sz) Φ) 0 0 (va_A (Wd I J S L) sz) := by
  refine Met.ofW (cc := cX8_dueAt) (maxL := 3) (ret := (some .int)) (by decide) rfl ?_
  intro p e s m args below meth c s₁ B hml hv
  obtain ⟨hargs, hsz, hP, hK, hD0⟩ := hv
  have hx := B.exec
  have hb := B.bytes
  have hr := B.returns
  have hts := atoms_spec (ws := wsX8_dueAt) B.pre
  have hown : s.vm.findClass RX8 = some m.cls := findClass_of_methodNamed B.named
  have hlocks := B.notSynchronized
  subst hsz
  have hD := hD0.self (sz := s.heap.size)
  generalize hAe : va_A (Wd I J S L) s.heap.size = A at hD ⊢
  have hA : ∀ q : Nat, s.heap.size ≤ q → A q := fun q h => by rw [← hAe]; exact Or.inr h
  have hS : va_S A s.heap s.heap [] := va_S.rf
  have hl := lv_entry ([.int p0, .int p1, .int p2]) (n := 3) (Nat.le_of_ble_eq_true rfl)
  have hE : entryFrame m args 3 = F0 m 0 ((lg_sl ([.int p0, .int p1, .int p2]) ++ List.replicate (3 - (lg_sl ([.int p0, .int p1, .int p2])).length) Slot.unset).toArray) [] := by rw [hargs]; exact lg_entry_eq m _ _
  rw [hE]
  clear hE
  generalize (lg_sl ([.int p0, .int p1, .int p2]) ++ List.replicate (3 - (lg_sl ([.int p0, .int p1, .int p2])).length) Slot.unset).toArray = ls at hl ⊢
  have hl : lv_has ls 3 [(0, .int p0), (1, .int p1), (2, .int p2)] := hl
  unfold wp_X8_dueAt at h
  refine lv_iload_n hx hb dX8_dueAt_0 rfl (lv_at hl 0 rfl) ?_
  refine lv_bipush (v := 12) hx hb dX8_dueAt_1 (by decide) ?_
  refine lv_imul hx hb dX8_dueAt_3 ?_
  refine lv_iload_n hx hb dX8_dueAt_4 rfl (lv_at hl 1 rfl) ?_
  refine lv_iadd hx hb dX8_dueAt_5 ?_
  refine lv_bipush (v := 40) hx hb dX8_dueAt_6 (by decide) ?_
  refine lv_imul hx hb dX8_dueAt_8 ?_
  refine lv_iload_n hx hb dX8_dueAt_9 rfl (lv_at hl 2 rfl) ?_
  refine lv_iadd hx hb dX8_dueAt_10 ?_
  exact gri hx hb hr hlocks hP hK hD hS h dX8_dueAt_11
