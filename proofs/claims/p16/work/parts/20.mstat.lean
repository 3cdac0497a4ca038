def wp_X8_isHand (I : TI) (J : TJ) (S : TS) (L : TL) (p0 : Int32) (Φ : Int32 → TI → TJ → TS → TL → Prop) : Prop := ∃ B_1 : TI → TJ → TS → TL → Int32 → Prop, (∀ (I_2 : TI) (J_3 : TJ) (S_4 : TS) (L_5 : TL) (s_6 : Int32), B_1 I_2 J_3 S_4 L_5 s_6 → ((s_6 = 0 ∨ s_6 = 1) ∧ Φ s_6 I_2 J_3 S_4 L_5)) ∧ (∃ B_7 : TI → TJ → TS → TL → Prop, (∀ (I_8 : TI) (J_9 : TJ) (S_10 : TS) (L_11 : TL), B_7 I_8 J_9 S_10 L_11 → (B_1 I_8 J_9 S_10 L_11 (0 : Int32))) ∧ (((p0 < 0) → (B_7 I J S L)) ∧ ((¬ p0 < 0) → ((((12 : Int32) ≤ p0) → (B_7 I J S L)) ∧ ((¬ (12 : Int32) ≤ p0) → (B_1 I J S L (1 : Int32)))))))
abbrev rmX8_isHand : Room := { frames := 0, cells := 0, slots := 0, locals := 0 }
set_option maxHeartbeats 4000000 in
set_option maxRecDepth 100000 in
theorem c_X8_isHand (l : Launch) (dC : Nat → ClassId) (dI : Nat → Nat → Nat) (Wd : TW) (ty : TY) (sz : Nat) (I : TI) (J : TJ) (S : TS) (L : TL) (p0 : Int32) (Φ : Int32 → TI → TJ → TS → TL → Prop) (h : wp_X8_isHand I J S L p0 Φ) : Met l yX8_isHand wsX8_isHand rmX8_isHand (va_Pc [.int p0] (gpre dC dI (Wd I J S L) ty sz)) (gQi dC dI (Wd) ty (va_A (Wd I J S L) sz) Φ) 0 0 (va_A (Wd I J S L) sz) := by
  refine Met.ofW (cc := cX8_isHand) (maxL := 1) (ret := (some .boolean)) (by decide) rfl ?_
  intro p e s m args below meth c s₁ B hml hv
  obtain ⟨hargs, hsz, hP, hK, hD0, hN⟩ := hv
  have hx := B.exec
  have hb := B.bytes
  have hr := B.returns
  have hts := atoms_spec (ws := wsX8_isHand) B.pre
  have hown : s.vm.findClass RX8 = some m.cls := findClass_of_methodNamed B.named
  have hlocks := B.notSynchronized
  subst hsz
  have hD := hD0.self (sz := s.heap.size)
  generalize hAe : va_A (Wd I J S L) s.heap.size = A at hD ⊢
  have hA : ∀ q : Nat, s.heap.size ≤ q → A q := fun q h => by rw [← hAe]; exact Or.inr h
  obtain ⟨H, hH⟩ : ∃ z : Heap, z = s.heap := ⟨_, rfl⟩
  rw [← hH] at hP
  have hS : va_S A s.heap H [] := by rw [hH]; exact va_S.rf
  have hl := lv_entry ([.int p0]) (n := 1) (Nat.le_of_ble_eq_true rfl)
  have hE : entryFrame m args 1 = F0 m 0 ((lg_sl ([.int p0]) ++ List.replicate (1 - (lg_sl ([.int p0])).length) Slot.unset).toArray) [] := by rw [hargs]; exact lg_entry_eq m _ _
  rw [hE, ← hH]
  clear hE
  generalize (lg_sl ([.int p0]) ++ List.replicate (1 - (lg_sl ([.int p0])).length) Slot.unset).toArray = ls at hl ⊢
  have hl : lv_has ls 1 [(0, .int p0)] := hl
  unfold wp_X8_isHand at h
  refine lv_iload_n hx hb dX8_isHand_0 rfl (lv_at hl 0 rfl) ?_
  obtain ⟨B_1, hB_1, h⟩ := h
  have jB_1 : ∀ (I_2 : TI) (J_3 : TJ) (S_4 : TS) (L_5 : TL) (s_6 : Int32) (H : Heap) (locs : List Loc) (ls : Array Slot), va_P (dC, dI) vwCl (Wd I_2 J_3 S_4 L_5) H → va_D A (Wd I_2 J_3 S_4 L_5) → va_S A s.heap H locs → lv_has ls 1 [] → B_1 I_2 J_3 S_4 L_5 s_6 → W p l e (headSpec wsX8_isHand rmX8_isHand).room s m args below meth c H locs 0 0 (MQ below (gQi dC dI (Wd) ty A Φ) args s 0 0 A) (F0 m 15 ls [.int s_6]) := by
    intro I_2 J_3 S_4 L_5 s_6 H locs ls hP hD hS hl h
    have h := hB_1 I_2 J_3 S_4 L_5 s_6 h
    exact grz hx hb hr hlocks hP hK hD hS h dX8_isHand_15
  obtain ⟨B_7, hB_7, h⟩ := h
  have jB_7 : ∀ (I_8 : TI) (J_9 : TJ) (S_10 : TS) (L_11 : TL) (H : Heap) (locs : List Loc) (ls : Array Slot), va_P (dC, dI) vwCl (Wd I_8 J_9 S_10 L_11) H → va_D A (Wd I_8 J_9 S_10 L_11) → va_S A s.heap H locs → lv_has ls 1 [] → B_7 I_8 J_9 S_10 L_11 → W p l e (headSpec wsX8_isHand rmX8_isHand).room s m args below meth c H locs 0 0 (MQ below (gQi dC dI (Wd) ty A Φ) args s 0 0 A) (F0 m 14 ls []) := by
    intro I_8 J_9 S_10 L_11 H locs ls hP hD hS hl h
    have h := hB_7 I_8 J_9 S_10 L_11 h
    refine lv_iconst (v := 0) hx hb dX8_isHand_14 (by decide) ?_
    exact jB_1 I_8 J_9 S_10 L_11 (0 : Int32) _ _ _ hP hD hS (lv_sub hl [] rfl) h
  refine lv_if_lt (tgt := 14) hx hb dX8_isHand_1 (by decide) (fun hc => ?_) (fun hc => ?_)
  · have h := h.1 hc
    exact jB_7 I J S L _ _ _ hP hD hS (lv_sub hl [] rfl) h
  · have h := h.2 hc
    refine lv_iload_n hx hb dX8_isHand_4 rfl (lv_at hl 0 rfl) ?_
    refine lv_bipush (v := 12) hx hb dX8_isHand_5 (by decide) ?_
    refine lv_icmp_ge (tgt := 14) hx hb dX8_isHand_7 (by decide) (fun hc => ?_) (fun hc => ?_)
    · have h := h.1 hc
      exact jB_7 I J S L _ _ _ hP hD hS (lv_sub hl [] rfl) h
    · have h := h.2 hc
      refine lv_iconst (v := 1) hx hb dX8_isHand_10 (by decide) ?_
      refine lv_goto (tgt := 15) hx hb dX8_isHand_11 (by decide) ?_
      exact jB_1 I J S L (1 : Int32) _ _ _ hP hD hS (lv_sub hl [] rfl) h
def wp_X8_isWork (I : TI) (J : TJ) (S : TS) (L : TL) (p0 : Int32) (Φ : Int32 → TI → TJ → TS → TL → Prop) : Prop := ∃ B_1 : TI → TJ → TS → TL → Int32 → Prop, (∀ (I_2 : TI) (J_3 : TJ) (S_4 : TS) (L_5 : TL) (s_6 : Int32), B_1 I_2 J_3 S_4 L_5 s_6 → ((s_6 = 0 ∨ s_6 = 1) ∧ Φ s_6 I_2 J_3 S_4 L_5)) ∧ (∃ B_7 : TI → TJ → TS → TL → Prop, (∀ (I_8 : TI) (J_9 : TJ) (S_10 : TS) (L_11 : TL), B_7 I_8 J_9 S_10 L_11 → (B_1 I_8 J_9 S_10 L_11 (0 : Int32))) ∧ (((p0 < 0) → (B_7 I J S L)) ∧ ((¬ p0 < 0) → ((((12 : Int32) ≤ p0) → (B_7 I J S L)) ∧ ((¬ (12 : Int32) ≤ p0) → (B_1 I J S L (1 : Int32)))))))
abbrev rmX8_isWork : Room := { frames := 0, cells := 0, slots := 0, locals := 0 }
set_option maxHeartbeats 4000000 in
set_option maxRecDepth 100000 in
theorem c_X8_isWork (l : Launch) (dC : Nat → ClassId) (dI : Nat → Nat → Nat) (Wd : TW) (ty : TY) (sz : Nat) (I : TI) (J : TJ) (S : TS) (L : TL) (p0 : Int32) (Φ : Int32 → TI → TJ → TS → TL → Prop) (h : wp_X8_isWork I J S L p0 Φ) : Met l yX8_isWork wsX8_isWork rmX8_isWork (va_Pc [.int p0] (gpre dC dI (Wd I J S L) ty sz)) (gQi dC dI (Wd) ty (va_A (Wd I J S L) sz) Φ) 0 0 (va_A (Wd I J S L) sz) := by
  refine Met.ofW (cc := cX8_isWork) (maxL := 1) (ret := (some .boolean)) (by decide) rfl ?_
  intro p e s m args below meth c s₁ B hml hv
  obtain ⟨hargs, hsz, hP, hK, hD0, hN⟩ := hv
  have hx := B.exec
  have hb := B.bytes
  have hr := B.returns
  have hts := atoms_spec (ws := wsX8_isWork) B.pre
  have hown : s.vm.findClass RX8 = some m.cls := findClass_of_methodNamed B.named
  have hlocks := B.notSynchronized
  subst hsz
  have hD := hD0.self (sz := s.heap.size)
  generalize hAe : va_A (Wd I J S L) s.heap.size = A at hD ⊢
  have hA : ∀ q : Nat, s.heap.size ≤ q → A q := fun q h => by rw [← hAe]; exact Or.inr h
  obtain ⟨H, hH⟩ : ∃ z : Heap, z = s.heap := ⟨_, rfl⟩
  rw [← hH] at hP
  have hS : va_S A s.heap H [] := by rw [hH]; exact va_S.rf
  have hl := lv_entry ([.int p0]) (n := 1) (Nat.le_of_ble_eq_true rfl)
  have hE : entryFrame m args 1 = F0 m 0 ((lg_sl ([.int p0]) ++ List.replicate (1 - (lg_sl ([.int p0])).length) Slot.unset).toArray) [] := by rw [hargs]; exact lg_entry_eq m _ _
  rw [hE, ← hH]
  clear hE
  generalize (lg_sl ([.int p0]) ++ List.replicate (1 - (lg_sl ([.int p0])).length) Slot.unset).toArray = ls at hl ⊢
  have hl : lv_has ls 1 [(0, .int p0)] := hl
  unfold wp_X8_isWork at h
  refine lv_iload_n hx hb dX8_isWork_0 rfl (lv_at hl 0 rfl) ?_
  obtain ⟨B_1, hB_1, h⟩ := h
  have jB_1 : ∀ (I_2 : TI) (J_3 : TJ) (S_4 : TS) (L_5 : TL) (s_6 : Int32) (H : Heap) (locs : List Loc) (ls : Array Slot), va_P (dC, dI) vwCl (Wd I_2 J_3 S_4 L_5) H → va_D A (Wd I_2 J_3 S_4 L_5) → va_S A s.heap H locs → lv_has ls 1 [] → B_1 I_2 J_3 S_4 L_5 s_6 → W p l e (headSpec wsX8_isWork rmX8_isWork).room s m args below meth c H locs 0 0 (MQ below (gQi dC dI (Wd) ty A Φ) args s 0 0 A) (F0 m 15 ls [.int s_6]) := by
    intro I_2 J_3 S_4 L_5 s_6 H locs ls hP hD hS hl h
    have h := hB_1 I_2 J_3 S_4 L_5 s_6 h
    exact grz hx hb hr hlocks hP hK hD hS h dX8_isWork_15
  obtain ⟨B_7, hB_7, h⟩ := h
  have jB_7 : ∀ (I_8 : TI) (J_9 : TJ) (S_10 : TS) (L_11 : TL) (H : Heap) (locs : List Loc) (ls : Array Slot), va_P (dC, dI) vwCl (Wd I_8 J_9 S_10 L_11) H → va_D A (Wd I_8 J_9 S_10 L_11) → va_S A s.heap H locs → lv_has ls 1 [] → B_7 I_8 J_9 S_10 L_11 → W p l e (headSpec wsX8_isWork rmX8_isWork).room s m args below meth c H locs 0 0 (MQ below (gQi dC dI (Wd) ty A Φ) args s 0 0 A) (F0 m 14 ls []) := by
    intro I_8 J_9 S_10 L_11 H locs ls hP hD hS hl h
    have h := hB_7 I_8 J_9 S_10 L_11 h
    refine lv_iconst (v := 0) hx hb dX8_isWork_14 (by decide) ?_
    exact jB_1 I_8 J_9 S_10 L_11 (0 : Int32) _ _ _ hP hD hS (lv_sub hl [] rfl) h
  refine lv_if_lt (tgt := 14) hx hb dX8_isWork_1 (by decide) (fun hc => ?_) (fun hc => ?_)
  · have h := h.1 hc
    exact jB_7 I J S L _ _ _ hP hD hS (lv_sub hl [] rfl) h
  · have h := h.2 hc
    refine lv_iload_n hx hb dX8_isWork_4 rfl (lv_at hl 0 rfl) ?_
    refine lv_bipush (v := 12) hx hb dX8_isWork_5 (by decide) ?_
    refine lv_icmp_ge (tgt := 14) hx hb dX8_isWork_7 (by decide) (fun hc => ?_) (fun hc => ?_)
    · have h := h.1 hc
      exact jB_7 I J S L _ _ _ hP hD hS (lv_sub hl [] rfl) h
    · have h := h.2 hc
      refine lv_iconst (v := 1) hx hb dX8_isWork_10 (by decide) ?_
      refine lv_goto (tgt := 15) hx hb dX8_isWork_11 (by decide) ?_
      exact jB_1 I J S L (1 : Int32) _ _ _ hP hD hS (lv_sub hl [] rfl) h
def wp_X8_isPart (I : TI) (J : TJ) (S : TS) (L : TL) (p0 : Int32) (p1 : Int32) (Φ : Int32 → TI → TJ → TS → TL → Prop) : Prop := ∃ B_1 : TI → TJ → TS → TL → Int32 → Prop, (∀ (I_2 : TI) (J_3 : TJ) (S_4 : TS) (L_5 : TL) (s_6 : Int32), B_1 I_2 J_3 S_4 L_5 s_6 → ((s_6 = 0 ∨ s_6 = 1) ∧ Φ s_6 I_2 J_3 S_4 L_5)) ∧ (((¬ p0 = (-1 : Int32)) → (wp_X8_isHand I J S L p0 (fun (r_11 : Int32) (I_7 : TI) (J_8 : TJ) (S_9 : TS) (L_10 : TL) => (∃ B_12 : TI → TJ → TS → TL → Prop, (∀ (I_13 : TI) (J_14 : TJ) (S_15 : TS) (L_16 : TL), B_12 I_13 J_14 S_15 L_16 → (B_1 I_13 J_14 S_15 L_16 (0 : Int32))) ∧ (((r_11 = 0) → (B_12 I_7 J_8 S_9 L_10)) ∧ ((¬ r_11 = 0) → (((p1 < (1 : Int32)) → (B_12 I_7 J_8 S_9 L_10)) ∧ ((¬ p1 < (1 : Int32)) → ((((1000 : Int32) < p1) → (B_12 I_7 J_8 S_9 L_10)) ∧ ((¬ (1000 : Int32) < p1) → (B_1 I_7 J_8 S_9 L_10 (1 : Int32)))))))))))) ∧ ((p0 = (-1 : Int32)) → (((¬ p1 = 0) → (B_1 I J S L (0 : Int32))) ∧ ((p1 = 0) → (B_1 I J S L (1 : Int32))))))
abbrev rmX8_isPart : Room := { frames := 1, cells := 0, slots := 0, locals := 20 }
set_option maxHeartbeats 4000000 in
set_option maxRecDepth 100000 in
theorem c_X8_isPart (l : Launch) (dC : Nat → ClassId) (dI : Nat → Nat → Nat) (Wd : TW) (ty : TY) (sz : Nat) (I : TI) (J : TJ) (S : TS) (L : TL) (p0 : Int32) (p1 : Int32) (Φ : Int32 → TI → TJ → TS → TL → Prop) (h : wp_X8_isPart I J S L p0 p1 Φ) : Met l yX8_isPart wsX8_isPart rmX8_isPart (va_Pc [.int p0, .int p1] (gpre dC dI (Wd I J S L) ty sz)) (gQi dC dI (Wd) ty (va_A (Wd I J S L) sz) Φ) 0 0 (va_A (Wd I J S L) sz) := by
  refine Met.ofW (cc := cX8_isPart) (maxL := 2) (ret := (some .boolean)) (by decide) rfl ?_
  intro p e s m args below meth c s₁ B hml hv
  obtain ⟨hargs, hsz, hP, hK, hD0, hN⟩ := hv
  have hx := B.exec
  have hb := B.bytes
  have hr := B.returns
  have hts := atoms_spec (ws := wsX8_isPart) B.pre
  have hown : s.vm.findClass RX8 = some m.cls := findClass_of_methodNamed B.named
  have hlocks := B.notSynchronized
  subst hsz
  have hD := hD0.self (sz := s.heap.size)
  generalize hAe : va_A (Wd I J S L) s.heap.size = A at hD ⊢
  have hA : ∀ q : Nat, s.heap.size ≤ q → A q := fun q h => by rw [← hAe]; exact Or.inr h
  obtain ⟨H, hH⟩ : ∃ z : Heap, z = s.heap := ⟨_, rfl⟩
  rw [← hH] at hP
  have hS : va_S A s.heap H [] := by rw [hH]; exact va_S.rf
  have hl := lv_entry ([.int p0, .int p1]) (n := 2) (Nat.le_of_ble_eq_true rfl)
  have hE : entryFrame m args 2 = F0 m 0 ((lg_sl ([.int p0, .int p1]) ++ List.replicate (2 - (lg_sl ([.int p0, .int p1])).length) Slot.unset).toArray) [] := by rw [hargs]; exact lg_entry_eq m _ _
  rw [hE, ← hH]
  clear hE
  generalize (lg_sl ([.int p0, .int p1]) ++ List.replicate (2 - (lg_sl ([.int p0, .int p1])).length) Slot.unset).toArray = ls at hl ⊢
  have hl : lv_has ls 2 [(0, .int p0), (1, .int p1)] := hl
  unfold wp_X8_isPart at h
  refine lv_iload_n hx hb dX8_isPart_0 rfl (lv_at hl 0 rfl) ?_
  refine lv_iconst (v := -1) hx hb dX8_isPart_1 (by decide) ?_
  obtain ⟨B_1, hB_1, h⟩ := h
  have jB_1 : ∀ (I_2 : TI) (J_3 : TJ) (S_4 : TS) (L_5 : TL) (s_6 : Int32) (H : Heap) (locs : List Loc) (ls : Array Slot), va_P (dC, dI) vwCl (Wd I_2 J_3 S_4 L_5) H → va_D A (Wd I_2 J_3 S_4 L_5) → va_S A s.heap H locs → lv_has ls 2 [] → B_1 I_2 J_3 S_4 L_5 s_6 → W p l e (headSpec wsX8_isPart rmX8_isPart).room s m args below meth c H locs 0 0 (MQ below (gQi dC dI (Wd) ty A Φ) args s 0 0 A) (F0 m 41 ls [.int s_6]) := by
    intro I_2 J_3 S_4 L_5 s_6 H locs ls hP hD hS hl h
    have h := hB_1 I_2 J_3 S_4 L_5 s_6 h
    exact grz hx hb hr hlocks hP hK hD hS h dX8_isPart_41
  refine lv_icmp_ne (tgt := 17) hx hb dX8_isPart_2 (by decide) (fun hc => ?_) (fun hc => ?_)
  · have h := h.1 hc
    refine lv_iload_n hx hb dX8_isPart_17 rfl (lv_at hl 0 rfl) ?_
    refine gcalli (va_runS (As := [.int p0]) (rest := []) ⟨hx, hb, hml, hown, hts⟩ (c_X8_isHand l dC dI (Wd) ty H.size I J S L p0 _ h) (va_cwS 1 hts gX8_isPart_X8_isHand rfl rfl rfl (by decide +kernel) ⟨(Nat.le_of_ble_eq_true rfl), (Nat.le_of_ble_eq_true rfl)⟩) (g_pS hP hK hD hN [.int p0]) rfl rfl hl.1 rfl (lv_room (Nat.le_of_ble_eq_true rfl)) dX8_isPart_18 ⟨(Nat.le_of_ble_eq_true rfl), (Nat.le_of_ble_eq_true rfl)⟩) hS hA hD (fun r_11 I_7 J_8 S_9 L_10 H locs hP hD hS h => ?_)
    obtain ⟨B_12, hB_12, h⟩ := h
    have jB_12 : ∀ (I_13 : TI) (J_14 : TJ) (S_15 : TS) (L_16 : TL) (H : Heap) (locs : List Loc) (ls : Array Slot), va_P (dC, dI) vwCl (Wd I_13 J_14 S_15 L_16) H → va_D A (Wd I_13 J_14 S_15 L_16) → va_S A s.heap H locs → lv_has ls 2 [] → B_12 I_13 J_14 S_15 L_16 → W p l e (headSpec wsX8_isPart rmX8_isPart).room s m args below meth c H locs 0 0 (MQ below (gQi dC dI (Wd) ty A Φ) args s 0 0 A) (F0 m 40 ls []) := by
      intro I_13 J_14 S_15 L_16 H locs ls hP hD hS hl h
      have h := hB_12 I_13 J_14 S_15 L_16 h
      refine lv_iconst (v := 0) hx hb dX8_isPart_40 (by decide) ?_
      exact jB_1 I_13 J_14 S_15 L_16 (0 : Int32) _ _ _ hP hD hS (lv_sub hl [] rfl) h
    refine lv_if_eq (tgt := 40) hx hb dX8_isPart_21 (by decide) (fun hc => ?_) (fun hc => ?_)
    · have h := h.1 hc
      exact jB_12 I_7 J_8 S_9 L_10 _ _ _ hP hD hS (lv_sub hl [] rfl) h
    · have h := h.2 hc
      refine lv_iload_n hx hb dX8_isPart_24 rfl (lv_at hl 1 rfl) ?_
      refine lv_iconst (v := 1) hx hb dX8_isPart_25 (by decide) ?_
      refine lv_icmp_lt (tgt := 40) hx hb dX8_isPart_26 (by decide) (fun hc => ?_) (fun hc => ?_)
      · have h := h.1 hc
        exact jB_12 I_7 J_8 S_9 L_10 _ _ _ hP hD hS (lv_sub hl [] rfl) h
      · have h := h.2 hc
        refine lv_iload_n hx hb dX8_isPart_29 rfl (lv_at hl 1 rfl) ?_
        refine lv_sipush (v := 1000) hx hb dX8_isPart_30 (by decide) ?_
        refine lv_icmp_gt (tgt := 40) hx hb dX8_isPart_33 (by decide) (fun hc => ?_) (fun hc => ?_)
        · have h := h.1 hc
          exact jB_12 I_7 J_8 S_9 L_10 _ _ _ hP hD hS (lv_sub hl [] rfl) h
        · have h := h.2 hc
          refine lv_iconst (v := 1) hx hb dX8_isPart_36 (by decide) ?_
          refine lv_goto (tgt := 41) hx hb dX8_isPart_37 (by decide) ?_
          exact jB_1 I_7 J_8 S_9 L_10 (1 : Int32) _ _ _ hP hD hS (lv_sub hl [] rfl) h
  · have h := h.2 hc
    refine lv_iload_n hx hb dX8_isPart_5 rfl (lv_at hl 1 rfl) ?_
    refine lv_if_ne (tgt := 13) hx hb dX8_isPart_6 (by decide) (fun hc => ?_) (fun hc => ?_)
    · have h := h.1 hc
      refine lv_iconst (v := 0) hx hb dX8_isPart_13 (by decide) ?_
      refine lv_goto (tgt := 41) hx hb dX8_isPart_14 (by decide) ?_
      exact jB_1 I J S L (0 : Int32) _ _ _ hP hD hS (lv_sub hl [] rfl) h
    · have h := h.2 hc
      refine lv_iconst (v := 1) hx hb dX8_isPart_9 (by decide) ?_
      refine lv_goto (tgt := 41) hx hb dX8_isPart_10 (by decide) ?_
      exact jB_1 I J S L (1 : Int32) _ _ _ hP hD hS (lv_sub hl [] rfl) h
def wp_X8_isSum (I : TI) (J : TJ) (S : TS) (L : TL) (p0 : Int32) (Φ : Int32 → TI → TJ → TS → TL → Prop) : Prop := ∃ B_1 : TI → TJ → TS → TL → Int32 → Prop, (∀ (I_2 : TI) (J_3 : TJ) (S_4 : TS) (L_5 : TL) (s_6 : Int32), B_1 I_2 J_3 S_4 L_5 s_6 → ((s_6 = 0 ∨ s_6 = 1) ∧ Φ s_6 I_2 J_3 S_4 L_5)) ∧ (∃ B_7 : TI → TJ → TS → TL → Prop, (∀ (I_8 : TI) (J_9 : TJ) (S_10 : TS) (L_11 : TL), B_7 I_8 J_9 S_10 L_11 → (B_1 I_8 J_9 S_10 L_11 (0 : Int32))) ∧ (((p0 < (1 : Int32)) → (B_7 I J S L)) ∧ ((¬ p0 < (1 : Int32)) → ((((1000000 : Int32) < p0) → (B_7 I J S L)) ∧ ((¬ (1000000 : Int32) < p0) → (B_1 I J S L (1 : Int32)))))))
theorem kX8_isSum_1 : Cond.constant RX8 150 (1000000) ∈ wsX8_isSum := List.mem_of_getElem? (i := 1) rfl
abbrev rmX8_isSum : Room := { frames := 0, cells := 0, slots := 0, locals := 0 }
set_option maxHeartbeats 4000000 in
set_option maxRecDepth 100000 in
theorem c_X8_isSum (l : Launch) (dC : Nat → ClassId) (dI : Nat → Nat → Nat) (Wd : TW) (ty : TY) (sz : Nat) (I : TI) (J : TJ) (S : TS) (L : TL) (p0 : Int32) (Φ : Int32 → TI → TJ → TS → TL → Prop) (h : wp_X8_isSum I J S L p0 Φ) : Met l yX8_isSum wsX8_isSum rmX8_isSum (va_Pc [.int p0] (gpre dC dI (Wd I J S L) ty sz)) (gQi dC dI (Wd) ty (va_A (Wd I J S L) sz) Φ) 0 0 (va_A (Wd I J S L) sz) := by
  refine Met.ofW (cc := cX8_isSum) (maxL := 1) (ret := (some .boolean)) (by decide) rfl ?_
  intro p e s m args below meth c s₁ B hml hv
  obtain ⟨hargs, hsz, hP, hK, hD0, hN⟩ := hv
  have hx := B.exec
  have hb := B.bytes
  have hr := B.returns
  have hts := atoms_spec (ws := wsX8_isSum) B.pre
  have hown : s.vm.findClass RX8 = some m.cls := findClass_of_methodNamed B.named
  have hlocks := B.notSynchronized
  subst hsz
  have hD := hD0.self (sz := s.heap.size)
  generalize hAe : va_A (Wd I J S L) s.heap.size = A at hD ⊢
  have hA : ∀ q : Nat, s.heap.size ≤ q → A q := fun q h => by rw [← hAe]; exact Or.inr h
  obtain ⟨H, hH⟩ : ∃ z : Heap, z = s.heap := ⟨_, rfl⟩
  rw [← hH] at hP
  have hS : va_S A s.heap H [] := by rw [hH]; exact va_S.rf
  have hl := lv_entry ([.int p0]) (n := 1) (Nat.le_of_ble_eq_true rfl)
  have hE : entryFrame m args 1 = F0 m 0 ((lg_sl ([.int p0]) ++ List.replicate (1 - (lg_sl ([.int p0])).length) Slot.unset).toArray) [] := by rw [hargs]; exact lg_entry_eq m _ _
  rw [hE, ← hH]
  clear hE
  generalize (lg_sl ([.int p0]) ++ List.replicate (1 - (lg_sl ([.int p0])).length) Slot.unset).toArray = ls at hl ⊢
  have hl : lv_has ls 1 [(0, .int p0)] := hl
  unfold wp_X8_isSum at h
  refine lv_iload_n hx hb dX8_isSum_0 rfl (lv_at hl 0 rfl) ?_
  refine lv_iconst (v := 1) hx hb dX8_isSum_1 (by decide) ?_
  obtain ⟨B_1, hB_1, h⟩ := h
  have jB_1 : ∀ (I_2 : TI) (J_3 : TJ) (S_4 : TS) (L_5 : TL) (s_6 : Int32) (H : Heap) (locs : List Loc) (ls : Array Slot), va_P (dC, dI) vwCl (Wd I_2 J_3 S_4 L_5) H → va_D A (Wd I_2 J_3 S_4 L_5) → va_S A s.heap H locs → lv_has ls 1 [] → B_1 I_2 J_3 S_4 L_5 s_6 → W p l e (headSpec wsX8_isSum rmX8_isSum).room s m args below meth c H locs 0 0 (MQ below (gQi dC dI (Wd) ty A Φ) args s 0 0 A) (F0 m 16 ls [.int s_6]) := by
    intro I_2 J_3 S_4 L_5 s_6 H locs ls hP hD hS hl h
    have h := hB_1 I_2 J_3 S_4 L_5 s_6 h
    exact grz hx hb hr hlocks hP hK hD hS h dX8_isSum_16
  obtain ⟨B_7, hB_7, h⟩ := h
  have jB_7 : ∀ (I_8 : TI) (J_9 : TJ) (S_10 : TS) (L_11 : TL) (H : Heap) (locs : List Loc) (ls : Array Slot), va_P (dC, dI) vwCl (Wd I_8 J_9 S_10 L_11) H → va_D A (Wd I_8 J_9 S_10 L_11) → va_S A s.heap H locs → lv_has ls 1 [] → B_7 I_8 J_9 S_10 L_11 → W p l e (headSpec wsX8_isSum rmX8_isSum).room s m args below meth c H locs 0 0 (MQ below (gQi dC dI (Wd) ty A Φ) args s 0 0 A) (F0 m 15 ls []) := by
    intro I_8 J_9 S_10 L_11 H locs ls hP hD hS hl h
    have h := hB_7 I_8 J_9 S_10 L_11 h
    refine lv_iconst (v := 0) hx hb dX8_isSum_15 (by decide) ?_
    exact jB_1 I_8 J_9 S_10 L_11 (0 : Int32) _ _ _ hP hD hS (lv_sub hl [] rfl) h
  refine lv_icmp_lt (tgt := 15) hx hb dX8_isSum_2 (by decide) (fun hc => ?_) (fun hc => ?_)
  · have h := h.1 hc
    exact jB_7 I J S L _ _ _ hP hD hS (lv_sub hl [] rfl) h
  · have h := h.2 hc
    refine lv_iload_n hx hb dX8_isSum_5 rfl (lv_at hl 0 rfl) ?_
    refine lv_ldc (v := 1000000) hx hb hown (hts (.constant RX8 150 (1000000)) kX8_isSum_1) dX8_isSum_6 ?_
    refine lv_icmp_gt (tgt := 15) hx hb dX8_isSum_8 (by decide) (fun hc => ?_) (fun hc => ?_)
    · have h := h.1 hc
      exact jB_7 I J S L _ _ _ hP hD hS (lv_sub hl [] rfl) h
    · have h := h.2 hc
      refine lv_iconst (v := 1) hx hb dX8_isSum_11 (by decide) ?_
      refine lv_goto (tgt := 16) hx hb dX8_isSum_12 (by decide) ?_
      exact jB_1 I J S L (1 : Int32) _ _ _ hP hD hS (lv_sub hl [] rfl) h
def wp_X8_isThousandth (I : TI) (J : TJ) (S : TS) (L : TL) (p0 : Int32) (Φ : Int32 → TI → TJ → TS → TL → Prop) : Prop := ∃ B_1 : TI → TJ → TS → TL → Int32 → Prop, (∀ (I_2 : TI) (J_3 : TJ) (S_4 : TS) (L_5 : TL) (s_6 : Int32), B_1 I_2 J_3 S_4 L_5 s_6 → ((s_6 = 0 ∨ s_6 = 1) ∧ Φ s_6 I_2 J_3 S_4 L_5)) ∧ (∃ B_7 : TI → TJ → TS → TL → Prop, (∀ (I_8 : TI) (J_9 : TJ) (S_10 : TS) (L_11 : TL), B_7 I_8 J_9 S_10 L_11 → (B_1 I_8 J_9 S_10 L_11 (0 : Int32))) ∧ (((p0 < (1 : Int32)) → (B_7 I J S L)) ∧ ((¬ p0 < (1 : Int32)) → ((((1000 : Int32) < p0) → (B_7 I J S L)) ∧ ((¬ (1000 : Int32) < p0) → (B_1 I J S L (1 : Int32)))))))
abbrev rmX8_isThousandth : Room := { frames := 0, cells := 0, slots := 0, locals := 0 }
set_option maxHeartbeats 4000000 in
set_option maxRecDepth 100000 in
theorem c_X8_isThousandth (l : Launch) (dC : Nat → ClassId) (dI : Nat → Nat → Nat) (Wd : TW) (ty : TY) (sz : Nat) (I : TI) (J : TJ) (S : TS) (L : TL) (p0 : Int32) (Φ : Int32 → TI → TJ → TS → TL → Prop) (h : wp_X8_isThousandth I J S L p0 Φ) : Met l yX8_isThousandth wsX8_isThousandth rmX8_isThousandth (va_Pc [.int p0] (gpre dC dI (Wd I J S L) ty sz)) (gQi dC dI (Wd) ty (va_A (Wd I J S L) sz) Φ) 0 0 (va_A (Wd I J S L) sz) := by
  refine Met.ofW (cc := cX8_isThousandth) (maxL := 1) (ret := (some .boolean)) (by decide) rfl ?_
  intro p e s m args below meth c s₁ B hml hv
  obtain ⟨hargs, hsz, hP, hK, hD0, hN⟩ := hv
  have hx := B.exec
  have hb := B.bytes
  have hr := B.returns
  have hts := atoms_spec (ws := wsX8_isThousandth) B.pre
  have hown : s.vm.findClass RX8 = some m.cls := findClass_of_methodNamed B.named
  have hlocks := B.notSynchronized
  subst hsz
  have hD := hD0.self (sz := s.heap.size)
  generalize hAe : va_A (Wd I J S L) s.heap.size = A at hD ⊢
  have hA : ∀ q : Nat, s.heap.size ≤ q → A q := fun q h => by rw [← hAe]; exact Or.inr h
  obtain ⟨H, hH⟩ : ∃ z : Heap, z = s.heap := ⟨_, rfl⟩
  rw [← hH] at hP
  have hS : va_S A s.heap H [] := by rw [hH]; exact va_S.rf
  have hl := lv_entry ([.int p0]) (n := 1) (Nat.le_of_ble_eq_true rfl)
  have hE : entryFrame m args 1 = F0 m 0 ((lg_sl ([.int p0]) ++ List.replicate (1 - (lg_sl ([.int p0])).length) Slot.unset).toArray) [] := by rw [hargs]; exact lg_entry_eq m _ _
  rw [hE, ← hH]
  clear hE
  generalize (lg_sl ([.int p0]) ++ List.replicate (1 - (lg_sl ([.int p0])).length) Slot.unset).toArray = ls at hl ⊢
  have hl : lv_has ls 1 [(0, .int p0)] := hl
  unfold wp_X8_isThousandth at h
  refine lv_iload_n hx hb dX8_isThousandth_0 rfl (lv_at hl 0 rfl) ?_
  refine lv_iconst (v := 1) hx hb dX8_isThousandth_1 (by decide) ?_
  obtain ⟨B_1, hB_1, h⟩ := h
  have jB_1 : ∀ (I_2 : TI) (J_3 : TJ) (S_4 : TS) (L_5 : TL) (s_6 : Int32) (H : Heap) (locs : List Loc) (ls : Array Slot), va_P (dC, dI) vwCl (Wd I_2 J_3 S_4 L_5) H → va_D A (Wd I_2 J_3 S_4 L_5) → va_S A s.heap H locs → lv_has ls 1 [] → B_1 I_2 J_3 S_4 L_5 s_6 → W p l e (headSpec wsX8_isThousandth rmX8_isThousandth).room s m args below meth c H locs 0 0 (MQ below (gQi dC dI (Wd) ty A Φ) args s 0 0 A) (F0 m 17 ls [.int s_6]) := by
    intro I_2 J_3 S_4 L_5 s_6 H locs ls hP hD hS hl h
    have h := hB_1 I_2 J_3 S_4 L_5 s_6 h
    exact grz hx hb hr hlocks hP hK hD hS h dX8_isThousandth_17
  obtain ⟨B_7, hB_7, h⟩ := h
  have jB_7 : ∀ (I_8 : TI) (J_9 : TJ) (S_10 : TS) (L_11 : TL) (H : Heap) (locs : List Loc) (ls : Array Slot), va_P (dC, dI) vwCl (Wd I_8 J_9 S_10 L_11) H → va_D A (Wd I_8 J_9 S_10 L_11) → va_S A s.heap H locs → lv_has ls 1 [] → B_7 I_8 J_9 S_10 L_11 → W p l e (headSpec wsX8_isThousandth rmX8_isThousandth).room s m args below meth c H locs 0 0 (MQ below (gQi dC dI (Wd) ty A Φ) args s 0 0 A) (F0 m 16 ls []) := by
    intro I_8 J_9 S_10 L_11 H locs ls hP hD hS hl h
    have h := hB_7 I_8 J_9 S_10 L_11 h
    refine lv_iconst (v := 0) hx hb dX8_isThousandth_16 (by decide) ?_
    exact jB_1 I_8 J_9 S_10 L_11 (0 : Int32) _ _ _ hP hD hS (lv_sub hl [] rfl) h
  refine lv_icmp_lt (tgt := 16) hx hb dX8_isThousandth_2 (by decide) (fun hc => ?_) (fun hc => ?_)
  · have h := h.1 hc
    exact jB_7 I J S L _ _ _ hP hD hS (lv_sub hl [] rfl) h
  · have h := h.2 hc
    refine lv_iload_n hx hb dX8_isThousandth_5 rfl (lv_at hl 0 rfl) ?_
    refine lv_sipush (v := 1000) hx hb dX8_isThousandth_6 (by decide) ?_
    refine lv_icmp_gt (tgt := 16) hx hb dX8_isThousandth_9 (by decide) (fun hc => ?_) (fun hc => ?_)
    · have h := h.1 hc
      exact jB_7 I J S L _ _ _ hP hD hS (lv_sub hl [] rfl) h
    · have h := h.2 hc
      refine lv_iconst (v := 1) hx hb dX8_isThousandth_12 (by decide) ?_
      refine lv_goto (tgt := 17) hx hb dX8_isThousandth_13 (by decide) ?_
      exact jB_1 I J S L (1 : Int32) _ _ _ hP hD hS (lv_sub hl [] rfl) h
def wp_X8_areGood (I : TI) (J : TJ) (S : TS) (L : TL) (p0 : Int32) (p1 : Int32) (p2 : Int32) (p3 : Int32) (p4 : Int32) (p5 : Int32) (Φ : Int32 → TI → TJ → TS → TL → Prop) : Prop := wp_X8_isHand I J S L p5 (fun (r_5 : Int32) (I_1 : TI) (J_2 : TJ) (S_3 : TS) (L_4 : TL) => (∃ B_6 : TI → TJ → TS → TL → Int32 → Prop, (∀ (I_7 : TI) (J_8 : TJ) (S_9 : TS) (L_10 : TL) (s_11 : Int32), B_6 I_7 J_8 S_9 L_10 s_11 → (((p0 = nI 0) → (wp_X8_isThousandth I_7 J_8 S_9 L_10 p2 (fun (r_16 : Int32) (I_12 : TI) (J_13 : TJ) (S_14 : TS) (L_15 : TL) => (∃ B_17 : TI → TJ → TS → TL → Int32 → Prop, (∀ (I_18 : TI) (J_19 : TJ) (S_20 : TS) (L_21 : TL) (s_22 : Int32), B_17 I_18 J_19 S_20 L_21 s_22 → ((s_22 = 0 ∨ s_22 = 1) ∧ Φ s_22 I_18 J_19 S_20 L_21)) ∧ (∃ B_23 : TI → TJ → TS → TL → Prop, (∀ (I_24 : TI) (J_25 : TJ) (S_26 : TS) (L_27 : TL), B_23 I_24 J_25 S_26 L_27 → (B_17 I_24 J_25 S_26 L_27 (0 : Int32))) ∧ (((r_16 = 0) → (B_23 I_12 J_13 S_14 L_15)) ∧ ((¬ r_16 = 0) → (((s_11 = 0) → (B_23 I_12 J_13 S_14 L_15)) ∧ ((¬ s_11 = 0) → (B_17 I_12 J_13 S_14 L_15 (1 : Int32))))))))))) ∧ ((p0 = nI 1) → (wp_X8_isSum I_7 J_8 S_9 L_10 p2 (fun (r_32 : Int32) (I_28 : TI) (J_29 : TJ) (S_30 : TS) (L_31 : TL) => ((r_32 = 0 ∨ r_32 = 1) ∧ Φ r_32 I_28 J_29 S_30 L_31)))) ∧ ((p0 = nI 2) → (wp_X8_isSum I_7 J_8 S_9 L_10 p2 (fun (r_37 : Int32) (I_33 : TI) (J_34 : TJ) (S_35 : TS) (L_36 : TL) => ((r_37 = 0 ∨ r_37 = 1) ∧ Φ r_37 I_33 J_34 S_35 L_36)))) ∧ ((p0 = nI 3) → (wp_X8_isThousandth I_7 J_8 S_9 L_10 p2 (fun (r_42 : Int32) (I_38 : TI) (J_39 : TJ) (S_40 : TS) (L_41 : TL) => (∃ B_43 : TI → TJ → TS → TL → Int32 → Prop, (∀ (I_44 : TI) (J_45 : TJ) (S_46 : TS) (L_47 : TL) (s_48 : Int32), B_43 I_44 J_45 S_46 L_47 s_48 → ((s_48 = 0 ∨ s_48 = 1) ∧ Φ s_48 I_44 J_45 S_46 L_47)) ∧ (∃ B_49 : TI → TJ → TS → TL → Prop, (∀ (I_50 : TI) (J_51 : TJ) (S_52 : TS) (L_53 : TL), B_49 I_50 J_51 S_52 L_53 → (B_43 I_50 J_51 S_52 L_53 (0 : Int32))) ∧ (((r_42 = 0) → (B_49 I_38 J_39 S_40 L_41)) ∧ ((¬ r_42 = 0) → (wp_X8_isSum I_38 J_39 S_40 L_41 p3 (fun (r_58 : Int32) (I_54 : TI) (J_55 : TJ) (S_56 : TS) (L_57 : TL) => (((r_58 = 0) → (B_49 I_54 J_55 S_56 L_57)) ∧ ((¬ r_58 = 0) → (((p4 < 0) → (B_49 I_54 J_55 S_56 L_57)) ∧ ((¬ p4 < 0) → ((((1000 : Int32) < p4) → (B_49 I_54 J_55 S_56 L_57)) ∧ ((¬ (1000 : Int32) < p4) → (((s_11 = 0) → (B_49 I_54 J_55 S_56 L_57)) ∧ ((¬ s_11 = 0) → (B_43 I_54 J_55 S_56 L_57 (1 : Int32))))))))))))))))))) ∧ ((p0 = nI 4) → (wp_X8_isThousandth I_7 J_8 S_9 L_10 p2 (fun (r_63 : Int32) (I_59 : TI) (J_60 : TJ) (S_61 : TS) (L_62 : TL) => (∃ B_64 : TI → TJ → TS → TL → Int32 → Prop, (∀ (I_65 : TI) (J_66 : TJ) (S_67 : TS) (L_68 : TL) (s_69 : Int32), B_64 I_65 J_66 S_67 L_68 s_69 → ((s_69 = 0 ∨ s_69 = 1) ∧ Φ s_69 I_65 J_66 S_67 L_68)) ∧ (∃ B_70 : TI → TJ → TS → TL → Prop, (∀ (I_71 : TI) (J_72 : TJ) (S_73 : TS) (L_74 : TL), B_70 I_71 J_72 S_73 L_74 → (B_64 I_71 J_72 S_73 L_74 (0 : Int32))) ∧ (((r_63 = 0) → (B_70 I_59 J_60 S_61 L_62)) ∧ ((¬ r_63 = 0) → (((p3 < (1 : Int32)) → (B_70 I_59 J_60 S_61 L_62)) ∧ ((¬ p3 < (1 : Int32)) → ((((8 : Int32) < p3) → (B_70 I_59 J_60 S_61 L_62)) ∧ ((¬ (8 : Int32) < p3) → (B_64 I_59 J_60 S_61 L_62 (1 : Int32))))))))))))) ∧ ((∀ k, k < 5 → ¬ p0 = nI k) → (Φ (0 : Int32) I_7 J_8 S_9 L_10)))) ∧ (∃ B_75 : TI → TJ → TS → TL → Prop, (∀ (I_76 : TI) (J_77 : TJ) (S_78 : TS) (L_79 : TL), B_75 I_76 J_77 S_78 L_79 → (B_6 I_76 J_77 S_78 L_79 (0 : Int32))) ∧ (((r_5 = 0) → (B_75 I_1 J_2 S_3 L_4)) ∧ ((¬ r_5 = 0) → (((p5 = p1) → (B_75 I_1 J_2 S_3 L_4)) ∧ ((¬ p5 = p1) → (B_6 I_1 J_2 S_3 L_4 (1 : Int32)))))))))
abbrev rmX8_areGood : Room := { frames := 1, cells := 0, slots := 0, locals := 20 }
set_option maxHeartbeats 4000000 in
set_option maxRecDepth 100000 in
theorem c_X8_areGood (l : Launch) (dC : Nat → ClassId) (dI : Nat → Nat → Nat) (Wd : TW) (ty : TY) (sz : Nat) (I : TI) (J : TJ) (S : TS) (L : TL) (p0 : Int32) (p1 : Int32) (p2 : Int32) (p3 : Int32) (p4 : Int32) (p5 : Int32) (Φ : Int32 → TI → TJ → TS → TL → Prop) (h : wp_X8_areGood I J S L p0 p1 p2 p3 p4 p5 Φ) : Met l yX8_areGood wsX8_areGood rmX8_areGood (va_Pc [.int p0, .int p1, .int p2, .int p3, .int p4, .int p5] (gpre dC dI (Wd I J S L) ty sz)) (gQi dC dI (Wd) ty (va_A (Wd I J S L) sz) Φ) 0 0 (va_A (Wd I J S L) sz) := by
  refine Met.ofW (cc := cX8_areGood) (maxL := 7) (ret := (some .boolean)) (by decide) rfl ?_
  intro p e s m args below meth c s₁ B hml hv
  obtain ⟨hargs, hsz, hP, hK, hD0, hN⟩ := hv
  have hx := B.exec
  have hb := B.bytes
  have hr := B.returns
  have hts := atoms_spec (ws := wsX8_areGood) B.pre
  have hown : s.vm.findClass RX8 = some m.cls := findClass_of_methodNamed B.named
  have hlocks := B.notSynchronized
  subst hsz
  have hD := hD0.self (sz := s.heap.size)
  generalize hAe : va_A (Wd I J S L) s.heap.size = A at hD ⊢
  have hA : ∀ q : Nat, s.heap.size ≤ q → A q := fun q h => by rw [← hAe]; exact Or.inr h
  obtain ⟨H, hH⟩ : ∃ z : Heap, z = s.heap := ⟨_, rfl⟩
  rw [← hH] at hP
  have hS : va_S A s.heap H [] := by rw [hH]; exact va_S.rf
  have hl := lv_entry ([.int p0, .int p1, .int p2, .int p3, .int p4, .int p5]) (n := 7) (Nat.le_of_ble_eq_true rfl)
  have hE : entryFrame m args 7 = F0 m 0 ((lg_sl ([.int p0, .int p1, .int p2, .int p3, .int p4, .int p5]) ++ List.replicate (7 - (lg_sl ([.int p0, .int p1, .int p2, .int p3, .int p4, .int p5])).length) Slot.unset).toArray) [] := by rw [hargs]; exact lg_entry_eq m _ _
  rw [hE, ← hH]
  clear hE
  generalize (lg_sl ([.int p0, .int p1, .int p2, .int p3, .int p4, .int p5]) ++ List.replicate (7 - (lg_sl ([.int p0, .int p1, .int p2, .int p3, .int p4, .int p5])).length) Slot.unset).toArray = ls at hl ⊢
  have hl : lv_has ls 7 [(0, .int p0), (1, .int p1), (2, .int p2), (3, .int p3), (4, .int p4), (5, .int p5)] := hl
  unfold wp_X8_areGood at h
  refine lv_iload hx hb dX8_areGood_0 (lv_at hl 5 rfl) ?_
  refine gcalli (va_runS (As := [.int p5]) (rest := []) ⟨hx, hb, hml, hown, hts⟩ (c_X8_isHand l dC dI (Wd) ty H.size I J S L p5 _ h) (va_cwS 1 hts gX8_areGood_X8_isHand rfl rfl rfl (by decide +kernel) ⟨(Nat.le_of_ble_eq_true rfl), (Nat.le_of_ble_eq_true rfl)⟩) (g_pS hP hK hD hN [.int p5]) rfl rfl hl.1 rfl (lv_room (Nat.le_of_ble_eq_true rfl)) dX8_areGood_2 ⟨(Nat.le_of_ble_eq_true rfl), (Nat.le_of_ble_eq_true rfl)⟩) hS hA hD (fun r_5 I_1 J_2 S_3 L_4 H locs hP hD hS h => ?_)
  obtain ⟨B_6, hB_6, h⟩ := h
  have jB_6 : ∀ (I_7 : TI) (J_8 : TJ) (S_9 : TS) (L_10 : TL) (s_11 : Int32) (H : Heap) (locs : List Loc) (ls : Array Slot), va_P (dC, dI) vwCl (Wd I_7 J_8 S_9 L_10) H → va_D A (Wd I_7 J_8 S_9 L_10) → va_S A s.heap H locs → lv_has ls 7 [(0, .int p0), (2, .int p2), (3, .int p3), (4, .int p4)] → B_6 I_7 J_8 S_9 L_10 s_11 → W p l e (headSpec wsX8_areGood rmX8_areGood).room s m args below meth c H locs 0 0 (MQ below (gQi dC dI (Wd) ty A Φ) args s 0 0 A) (F0 m 19 ls [.int s_11]) := by
    intro I_7 J_8 S_9 L_10 s_11 H locs ls hP hD hS hl h
    have h := hB_6 I_7 J_8 S_9 L_10 s_11 h
    refine lv_istore (lv' := [(6, .int s_11), (0, .int p0), (2, .int p2), (3, .int p3), (4, .int p4)]) hx hb dX8_areGood_19 hl (by decide) rfl (fun ls hl => ?_)
    refine lv_iload_n hx hb dX8_areGood_21 rfl (lv_at hl 1 rfl) ?_
    by_cases hc0 : p0 = nI 0
    · have h := h.1 hc0
      refine lv_tableIn (off := 34) (tgt := 56) hx hb dX8_areGood_22 (by rw [hc0]; decide) (by rw [hc0]; decide) (by rw [hc0]; decide) (by decide) ?_
      refine lv_iload_n hx hb dX8_areGood_56 rfl (lv_at hl 2 rfl) ?_
      refine gcalli (va_runS (As := [.int p2]) (rest := []) ⟨hx, hb, hml, hown, hts⟩ (c_X8_isThousandth l dC dI (Wd) ty H.size I_7 J_8 S_9 L_10 p2 _ h) (va_cwS 1 hts gX8_areGood_X8_isThousandth rfl rfl rfl (by decide +kernel) ⟨(Nat.le_of_ble_eq_true rfl), (Nat.le_of_ble_eq_true rfl)⟩) (g_pS hP hK hD hN [.int p2]) rfl rfl hl.1 rfl (lv_room (Nat.le_of_ble_eq_true rfl)) dX8_areGood_57 ⟨(Nat.le_of_ble_eq_true rfl), (Nat.le_of_ble_eq_true rfl)⟩) hS hA hD (fun r_16 I_12 J_13 S_14 L_15 H locs hP hD hS h => ?_)
      obtain ⟨B_17, hB_17, h⟩ := h
      have jB_17 : ∀ (I_18 : TI) (J_19 : TJ) (S_20 : TS) (L_21 : TL) (s_22 : Int32) (H : Heap) (locs : List Loc) (ls : Array Slot), va_P (dC, dI) vwCl (Wd I_18 J_19 S_20 L_21) H → va_D A (Wd I_18 J_19 S_20 L_21) → va_S A s.heap H locs → lv_has ls 7 [] → B_17 I_18 J_19 S_20 L_21 s_22 → W p l e (headSpec wsX8_areGood rmX8_areGood).room s m args below meth c H locs 0 0 (MQ below (gQi dC dI (Wd) ty A Φ) args s 0 0 A) (F0 m 73 ls [.int s_22]) := by
        intro I_18 J_19 S_20 L_21 s_22 H locs ls hP hD hS hl h
        have h := hB_17 I_18 J_19 S_20 L_21 s_22 h
        exact grz hx hb hr hlocks hP hK hD hS h dX8_areGood_73
      obtain ⟨B_23, hB_23, h⟩ := h
      have jB_23 : ∀ (I_24 : TI) (J_25 : TJ) (S_26 : TS) (L_27 : TL) (H : Heap) (locs : List Loc) (ls : Array Slot), va_P (dC, dI) vwCl (Wd I_24 J_25 S_26 L_27) H → va_D A (Wd I_24 J_25 S_26 L_27) → va_S A s.heap H locs → lv_has ls 7 [] → B_23 I_24 J_25 S_26 L_27 → W p l e (headSpec wsX8_areGood rmX8_areGood).room s m args below meth c H locs 0 0 (MQ below (gQi dC dI (Wd) ty A Φ) args s 0 0 A) (F0 m 72 ls []) := by
        intro I_24 J_25 S_26 L_27 H locs ls hP hD hS hl h
        have h := hB_23 I_24 J_25 S_26 L_27 h
        refine lv_iconst (v := 0) hx hb dX8_areGood_72 (by decide) ?_
        exact jB_17 I_24 J_25 S_26 L_27 (0 : Int32) _ _ _ hP hD hS (lv_sub hl [] rfl) h
      refine lv_if_eq (tgt := 72) hx hb dX8_areGood_60 (by decide) (fun hc => ?_) (fun hc => ?_)
      · have h := h.1 hc
        exact jB_23 I_12 J_13 S_14 L_15 _ _ _ hP hD hS (lv_sub hl [] rfl) h
      · have h := h.2 hc
        refine lv_iload hx hb dX8_areGood_63 (lv_at hl 0 rfl) ?_
        refine lv_if_eq (tgt := 72) hx hb dX8_areGood_65 (by decide) (fun hc => ?_) (fun hc => ?_)
        · have h := h.1 hc
          exact jB_23 I_12 J_13 S_14 L_15 _ _ _ hP hD hS (lv_sub hl [] rfl) h
        · have h := h.2 hc
          refine lv_iconst (v := 1) hx hb dX8_areGood_68 (by decide) ?_
          refine lv_goto (tgt := 73) hx hb dX8_areGood_69 (by decide) ?_
          exact jB_17 I_12 J_13 S_14 L_15 (1 : Int32) _ _ _ hP hD hS (lv_sub hl [] rfl) h
    by_cases hc1 : p0 = nI 1
    · have h := h.2.1 hc1
      refine lv_tableIn (off := 52) (tgt := 74) hx hb dX8_areGood_22 (by rw [hc1]; decide) (by rw [hc1]; decide) (by rw [hc1]; decide) (by decide) ?_
      refine lv_iload_n hx hb dX8_areGood_74 rfl (lv_at hl 2 rfl) ?_
      refine gcalli (va_runS (As := [.int p2]) (rest := []) ⟨hx, hb, hml, hown, hts⟩ (c_X8_isSum l dC dI (Wd) ty H.size I_7 J_8 S_9 L_10 p2 _ h) (va_cwS 1 hts gX8_areGood_X8_isSum rfl rfl rfl (by decide +kernel) ⟨(Nat.le_of_ble_eq_true rfl), (Nat.le_of_ble_eq_true rfl)⟩) (g_pS hP hK hD hN [.int p2]) rfl rfl hl.1 rfl (lv_room (Nat.le_of_ble_eq_true rfl)) dX8_areGood_75 ⟨(Nat.le_of_ble_eq_true rfl), (Nat.le_of_ble_eq_true rfl)⟩) hS hA hD (fun r_32 I_28 J_29 S_30 L_31 H locs hP hD hS h => ?_)
      exact grz hx hb hr hlocks hP hK hD hS h dX8_areGood_78
    by_cases hc2 : p0 = nI 2
    · have h := h.2.2.1 hc2
      refine lv_tableIn (off := 52) (tgt := 74) hx hb dX8_areGood_22 (by rw [hc2]; decide) (by rw [hc2]; decide) (by rw [hc2]; decide) (by decide) ?_
      refine lv_iload_n hx hb dX8_areGood_74 rfl (lv_at hl 2 rfl) ?_
      refine gcalli (va_runS (As := [.int p2]) (rest := []) ⟨hx, hb, hml, hown, hts⟩ (c_X8_isSum l dC dI (Wd) ty H.size I_7 J_8 S_9 L_10 p2 _ h) (va_cwS 1 hts gX8_areGood_X8_isSum rfl rfl rfl (by decide +kernel) ⟨(Nat.le_of_ble_eq_true rfl), (Nat.le_of_ble_eq_true rfl)⟩) (g_pS hP hK hD hN [.int p2]) rfl rfl hl.1 rfl (lv_room (Nat.le_of_ble_eq_true rfl)) dX8_areGood_75 ⟨(Nat.le_of_ble_eq_true rfl), (Nat.le_of_ble_eq_true rfl)⟩) hS hA hD (fun r_37 I_33 J_34 S_35 L_36 H locs hP hD hS h => ?_)
      exact grz hx hb hr hlocks hP hK hD hS h dX8_areGood_78
    by_cases hc3 : p0 = nI 3
    · have h := h.2.2.2.1 hc3
      refine lv_tableIn (off := 57) (tgt := 79) hx hb dX8_areGood_22 (by rw [hc3]; decide) (by rw [hc3]; decide) (by rw [hc3]; decide) (by decide) ?_
      refine lv_iload_n hx hb dX8_areGood_79 rfl (lv_at hl 2 rfl) ?_
      refine gcalli (va_runS (As := [.int p2]) (rest := []) ⟨hx, hb, hml, hown, hts⟩ (c_X8_isThousandth l dC dI (Wd) ty H.size I_7 J_8 S_9 L_10 p2 _ h) (va_cwS 1 hts gX8_areGood_X8_isThousandth rfl rfl rfl (by decide +kernel) ⟨(Nat.le_of_ble_eq_true rfl), (Nat.le_of_ble_eq_true rfl)⟩) (g_pS hP hK hD hN [.int p2]) rfl rfl hl.1 rfl (lv_room (Nat.le_of_ble_eq_true rfl)) dX8_areGood_80 ⟨(Nat.le_of_ble_eq_true rfl), (Nat.le_of_ble_eq_true rfl)⟩) hS hA hD (fun r_42 I_38 J_39 S_40 L_41 H locs hP hD hS h => ?_)
      obtain ⟨B_43, hB_43, h⟩ := h
      have jB_43 : ∀ (I_44 : TI) (J_45 : TJ) (S_46 : TS) (L_47 : TL) (s_48 : Int32) (H : Heap) (locs : List Loc) (ls : Array Slot), va_P (dC, dI) vwCl (Wd I_44 J_45 S_46 L_47) H → va_D A (Wd I_44 J_45 S_46 L_47) → va_S A s.heap H locs → lv_has ls 7 [] → B_43 I_44 J_45 S_46 L_47 s_48 → W p l e (headSpec wsX8_areGood rmX8_areGood).room s m args below meth c H locs 0 0 (MQ below (gQi dC dI (Wd) ty A Φ) args s 0 0 A) (F0 m 116 ls [.int s_48]) := by
        intro I_44 J_45 S_46 L_47 s_48 H locs ls hP hD hS hl h
        have h := hB_43 I_44 J_45 S_46 L_47 s_48 h
        exact grz hx hb hr hlocks hP hK hD hS h dX8_areGood_116
      obtain ⟨B_49, hB_49, h⟩ := h
      have jB_49 : ∀ (I_50 : TI) (J_51 : TJ) (S_52 : TS) (L_53 : TL) (H : Heap) (locs : List Loc) (ls : Array Slot), va_P (dC, dI) vwCl (Wd I_50 J_51 S_52 L_53) H → va_D A (Wd I_50 J_51 S_52 L_53) → va_S A s.heap H locs → lv_has ls 7 [] → B_49 I_50 J_51 S_52 L_53 → W p l e (headSpec wsX8_areGood rmX8_areGood).room s m args below meth c H locs 0 0 (MQ below (gQi dC dI (Wd) ty A Φ) args s 0 0 A) (F0 m 115 ls []) := by
        intro I_50 J_51 S_52 L_53 H locs ls hP hD hS hl h
        have h := hB_49 I_50 J_51 S_52 L_53 h
        refine lv_iconst (v := 0) hx hb dX8_areGood_115 (by decide) ?_
        exact jB_43 I_50 J_51 S_52 L_53 (0 : Int32) _ _ _ hP hD hS (lv_sub hl [] rfl) h
      refine lv_if_eq (tgt := 115) hx hb dX8_areGood_83 (by decide) (fun hc => ?_) (fun hc => ?_)
      · have h := h.1 hc
        exact jB_49 I_38 J_39 S_40 L_41 _ _ _ hP hD hS (lv_sub hl [] rfl) h
      · have h := h.2 hc
        refine lv_iload_n hx hb dX8_areGood_86 rfl (lv_at hl 3 rfl) ?_
        refine gcalli (va_runS (As := [.int p3]) (rest := []) ⟨hx, hb, hml, hown, hts⟩ (c_X8_isSum l dC dI (Wd) ty H.size I_38 J_39 S_40 L_41 p3 _ h) (va_cwS 1 hts gX8_areGood_X8_isSum rfl rfl rfl (by decide +kernel) ⟨(Nat.le_of_ble_eq_true rfl), (Nat.le_of_ble_eq_true rfl)⟩) (g_pS hP hK hD hN [.int p3]) rfl rfl hl.1 rfl (lv_room (Nat.le_of_ble_eq_true rfl)) dX8_areGood_87 ⟨(Nat.le_of_ble_eq_true rfl), (Nat.le_of_ble_eq_true rfl)⟩) hS hA hD (fun r_58 I_54 J_55 S_56 L_57 H locs hP hD hS h => ?_)
        refine lv_if_eq (tgt := 115) hx hb dX8_areGood_90 (by decide) (fun hc => ?_) (fun hc => ?_)
        · have h := h.1 hc
          exact jB_49 I_54 J_55 S_56 L_57 _ _ _ hP hD hS (lv_sub hl [] rfl) h
        · have h := h.2 hc
          refine lv_iload hx hb dX8_areGood_93 (lv_at hl 4 rfl) ?_
          refine lv_if_lt (tgt := 115) hx hb dX8_areGood_95 (by decide) (fun hc => ?_) (fun hc => ?_)
          · have h := h.1 hc
            exact jB_49 I_54 J_55 S_56 L_57 _ _ _ hP hD hS (lv_sub hl [] rfl) h
          · have h := h.2 hc
            refine lv_iload hx hb dX8_areGood_98 (lv_at hl 4 rfl) ?_
            refine lv_sipush (v := 1000) hx hb dX8_areGood_100 (by decide) ?_
            refine lv_icmp_gt (tgt := 115) hx hb dX8_areGood_103 (by decide) (fun hc => ?_) (fun hc => ?_)
            · have h := h.1 hc
              exact jB_49 I_54 J_55 S_56 L_57 _ _ _ hP hD hS (lv_sub hl [] rfl) h
            · have h := h.2 hc
              refine lv_iload hx hb dX8_areGood_106 (lv_at hl 0 rfl) ?_
              refine lv_if_eq (tgt := 115) hx hb dX8_areGood_108 (by decide) (fun hc => ?_) (fun hc => ?_)
              · have h := h.1 hc
                exact jB_49 I_54 J_55 S_56 L_57 _ _ _ hP hD hS (lv_sub hl [] rfl) h
              · have h := h.2 hc
                refine lv_iconst (v := 1) hx hb dX8_areGood_111 (by decide) ?_
                refine lv_goto (tgt := 116) hx hb dX8_areGood_112 (by decide) ?_
                exact jB_43 I_54 J_55 S_56 L_57 (1 : Int32) _ _ _ hP hD hS (lv_sub hl [] rfl) h
    by_cases hc4 : p0 = nI 4
    · have h := h.2.2.2.2.1 hc4
      refine lv_tableIn (off := 95) (tgt := 117) hx hb dX8_areGood_22 (by rw [hc4]; decide) (by rw [hc4]; decide) (by rw [hc4]; decide) (by decide) ?_
      refine lv_iload_n hx hb dX8_areGood_117 rfl (lv_at hl 2 rfl) ?_
      refine gcalli (va_runS (As := [.int p2]) (rest := []) ⟨hx, hb, hml, hown, hts⟩ (c_X8_isThousandth l dC dI (Wd) ty H.size I_7 J_8 S_9 L_10 p2 _ h) (va_cwS 1 hts gX8_areGood_X8_isThousandth rfl rfl rfl (by decide +kernel) ⟨(Nat.le_of_ble_eq_true rfl), (Nat.le_of_ble_eq_true rfl)⟩) (g_pS hP hK hD hN [.int p2]) rfl rfl hl.1 rfl (lv_room (Nat.le_of_ble_eq_true rfl)) dX8_areGood_118 ⟨(Nat.le_of_ble_eq_true rfl), (Nat.le_of_ble_eq_true rfl)⟩) hS hA hD (fun r_63 I_59 J_60 S_61 L_62 H locs hP hD hS h => ?_)
      obtain ⟨B_64, hB_64, h⟩ := h
      have jB_64 : ∀ (I_65 : TI) (J_66 : TJ) (S_67 : TS) (L_68 : TL) (s_69 : Int32) (H : Heap) (locs : List Loc) (ls : Array Slot), va_P (dC, dI) vwCl (Wd I_65 J_66 S_67 L_68) H → va_D A (Wd I_65 J_66 S_67 L_68) → va_S A s.heap H locs → lv_has ls 7 [] → B_64 I_65 J_66 S_67 L_68 s_69 → W p l e (headSpec wsX8_areGood rmX8_areGood).room s m args below meth c H locs 0 0 (MQ below (gQi dC dI (Wd) ty A Φ) args s 0 0 A) (F0 m 140 ls [.int s_69]) := by
        intro I_65 J_66 S_67 L_68 s_69 H locs ls hP hD hS hl h
        have h := hB_64 I_65 J_66 S_67 L_68 s_69 h
        exact grz hx hb hr hlocks hP hK hD hS h dX8_areGood_140
      obtain ⟨B_70, hB_70, h⟩ := h
      have jB_70 : ∀ (I_71 : TI) (J_72 : TJ) (S_73 : TS) (L_74 : TL) (H : Heap) (locs : List Loc) (ls : Array Slot), va_P (dC, dI) vwCl (Wd I_71 J_72 S_73 L_74) H → va_D A (Wd I_71 J_72 S_73 L_74) → va_S A s.heap H locs → lv_has ls 7 [] → B_70 I_71 J_72 S_73 L_74 → W p l e (headSpec wsX8_areGood rmX8_areGood).room s m args below meth c H locs 0 0 (MQ below (gQi dC dI (Wd) ty A Φ) args s 0 0 A) (F0 m 139 ls []) := by
        intro I_71 J_72 S_73 L_74 H locs ls hP hD hS hl h
        have h := hB_70 I_71 J_72 S_73 L_74 h
        refine lv_iconst (v := 0) hx hb dX8_areGood_139 (by decide) ?_
        exact jB_64 I_71 J_72 S_73 L_74 (0 : Int32) _ _ _ hP hD hS (lv_sub hl [] rfl) h
      refine lv_if_eq (tgt := 139) hx hb dX8_areGood_121 (by decide) (fun hc => ?_) (fun hc => ?_)
      · have h := h.1 hc
        exact jB_70 I_59 J_60 S_61 L_62 _ _ _ hP hD hS (lv_sub hl [] rfl) h
      · have h := h.2 hc
        refine lv_iload_n hx hb dX8_areGood_124 rfl (lv_at hl 3 rfl) ?_
        refine lv_iconst (v := 1) hx hb dX8_areGood_125 (by decide) ?_
        refine lv_icmp_lt (tgt := 139) hx hb dX8_areGood_126 (by decide) (fun hc => ?_) (fun hc => ?_)
        · have h := h.1 hc
          exact jB_70 I_59 J_60 S_61 L_62 _ _ _ hP hD hS (lv_sub hl [] rfl) h
        · have h := h.2 hc
          refine lv_iload_n hx hb dX8_areGood_129 rfl (lv_at hl 3 rfl) ?_
          refine lv_bipush (v := 8) hx hb dX8_areGood_130 (by decide) ?_
          refine lv_icmp_gt (tgt := 139) hx hb dX8_areGood_132 (by decide) (fun hc => ?_) (fun hc => ?_)
          · have h := h.1 hc
            exact jB_70 I_59 J_60 S_61 L_62 _ _ _ hP hD hS (lv_sub hl [] rfl) h
          · have h := h.2 hc
            refine lv_iconst (v := 1) hx hb dX8_areGood_135 (by decide) ?_
            refine lv_goto (tgt := 140) hx hb dX8_areGood_136 (by decide) ?_
            exact jB_64 I_59 J_60 S_61 L_62 (1 : Int32) _ _ _ hP hD hS (lv_sub hl [] rfl) h
    have hno : ∀ k, k < 5 → ¬ p0 = nI k := fun k hk => by rcases (show k = 0 ∨ k = 1 ∨ k = 2 ∨ k = 3 ∨ k = 4 by omega) with rfl | rfl | rfl | rfl | rfl <;> assumption
    have h := h.2.2.2.2.2 hno
    refine lv_tableOut (tgt := 141) hx hb dX8_areGood_22 (sw_out 5 (by decide) hno) (by decide) ?_
    refine lv_iconst (v := 0) hx hb dX8_areGood_141 (by decide) ?_
    exact grz hx hb hr hlocks hP hK hD hS ⟨Or.inl rfl, h⟩ dX8_areGood_142
  obtain ⟨B_75, hB_75, h⟩ := h
  have jB_75 : ∀ (I_76 : TI) (J_77 : TJ) (S_78 : TS) (L_79 : TL) (H : Heap) (locs : List Loc) (ls : Array Slot), va_P (dC, dI) vwCl (Wd I_76 J_77 S_78 L_79) H → va_D A (Wd I_76 J_77 S_78 L_79) → va_S A s.heap H locs → lv_has ls 7 [(0, .int p0), (2, .int p2), (3, .int p3), (4, .int p4)] → B_75 I_76 J_77 S_78 L_79 → W p l e (headSpec wsX8_areGood rmX8_areGood).room s m args below meth c H locs 0 0 (MQ below (gQi dC dI (Wd) ty A Φ) args s 0 0 A) (F0 m 18 ls []) := by
    intro I_76 J_77 S_78 L_79 H locs ls hP hD hS hl h
    have h := hB_75 I_76 J_77 S_78 L_79 h
    refine lv_iconst (v := 0) hx hb dX8_areGood_18 (by decide) ?_
    exact jB_6 I_76 J_77 S_78 L_79 (0 : Int32) _ _ _ hP hD hS (lv_sub hl [0, 1, 2, 3] rfl) h
  refine lv_if_eq (tgt := 18) hx hb dX8_areGood_5 (by decide) (fun hc => ?_) (fun hc => ?_)
  · have h := h.1 hc
    exact jB_75 I_1 J_2 S_3 L_4 _ _ _ hP hD hS (lv_sub hl [0, 2, 3, 4] rfl) h
  · have h := h.2 hc
    refine lv_iload hx hb dX8_areGood_8 (lv_at hl 5 rfl) ?_
    refine lv_iload_n hx hb dX8_areGood_10 rfl (lv_at hl 1 rfl) ?_
    refine lv_icmp_eq (tgt := 18) hx hb dX8_areGood_11 (by decide) (fun hc => ?_) (fun hc => ?_)
    · have h := h.1 hc
      exact jB_75 I_1 J_2 S_3 L_4 _ _ _ hP hD hS (lv_sub hl [0, 2, 3, 4] rfl) h
    · have h := h.2 hc
      refine lv_iconst (v := 1) hx hb dX8_areGood_14 (by decide) ?_
      refine lv_goto (tgt := 19) hx hb dX8_areGood_15 (by decide) ?_
      exact jB_6 I_1 J_2 S_3 L_4 (1 : Int32) _ _ _ hP hD hS (lv_sub hl [0, 2, 3, 4] rfl) h
def wp_X8_areCoins (I : TI) (J : TJ) (S : TS) (L : TL) (p0 : Int32) (Φ : Int32 → TI → TJ → TS → TL → Prop) : Prop := ∃ B_1 : TI → TJ → TS → TL → Int32 → Prop, (∀ (I_2 : TI) (J_3 : TJ) (S_4 : TS) (L_5 : TL) (s_6 : Int32), B_1 I_2 J_3 S_4 L_5 s_6 → ((s_6 = 0 ∨ s_6 = 1) ∧ Φ s_6 I_2 J_3 S_4 L_5)) ∧ (∃ B_7 : TI → TJ → TS → TL → Prop, (∀ (I_8 : TI) (J_9 : TJ) (S_10 : TS) (L_11 : TL), B_7 I_8 J_9 S_10 L_11 → (B_1 I_8 J_9 S_10 L_11 (0 : Int32))) ∧ (((p0 < 0) → (B_7 I J S L)) ∧ ((¬ p0 < 0) → ((((1000000 : Int32) < p0) → (B_7 I J S L)) ∧ ((¬ (1000000 : Int32) < p0) → (B_1 I J S L (1 : Int32)))))))
theorem kX8_areCoins_1 : Cond.constant RX8 150 (1000000) ∈ wsX8_areCoins := List.mem_of_getElem? (i := 1) rfl
abbrev rmX8_areCoins : Room := { frames := 0, cells := 0, slots := 0, locals := 0 }
set_option maxHeartbeats 4000000 in
set_option maxRecDepth 100000 in
theorem c_X8_areCoins (l : Launch) (dC : Nat → ClassId) (dI : Nat → Nat → Nat) (Wd : TW) (ty : TY) (sz : Nat) (I : TI) (J : TJ) (S : TS) (L : TL) (p0 : Int32) (Φ : Int32 → TI → TJ → TS → TL → Prop) (h : wp_X8_areCoins I J S L p0 Φ) : Met l yX8_areCoins wsX8_areCoins rmX8_areCoins (va_Pc [.int p0] (gpre dC dI (Wd I J S L) ty sz)) (gQi dC dI (Wd) ty (va_A (Wd I J S L) sz) Φ) 0 0 (va_A (Wd I J S L) sz) := by
  refine Met.ofW (cc := cX8_areCoins) (maxL := 1) (ret := (some .boolean)) (by decide) rfl ?_
  intro p e s m args below meth c s₁ B hml hv
  obtain ⟨hargs, hsz, hP, hK, hD0, hN⟩ := hv
  have hx := B.exec
  have hb := B.bytes
  have hr := B.returns
  have hts := atoms_spec (ws := wsX8_areCoins) B.pre
  have hown : s.vm.findClass RX8 = some m.cls := findClass_of_methodNamed B.named
  have hlocks := B.notSynchronized
  subst hsz
  have hD := hD0.self (sz := s.heap.size)
  generalize hAe : va_A (Wd I J S L) s.heap.size = A at hD ⊢
  have hA : ∀ q : Nat, s.heap.size ≤ q → A q := fun q h => by rw [← hAe]; exact Or.inr h
  obtain ⟨H, hH⟩ : ∃ z : Heap, z = s.heap := ⟨_, rfl⟩
  rw [← hH] at hP
  have hS : va_S A s.heap H [] := by rw [hH]; exact va_S.rf
  have hl := lv_entry ([.int p0]) (n := 1) (Nat.le_of_ble_eq_true rfl)
  have hE : entryFrame m args 1 = F0 m 0 ((lg_sl ([.int p0]) ++ List.replicate (1 - (lg_sl ([.int p0])).length) Slot.unset).toArray) [] := by rw [hargs]; exact lg_entry_eq m _ _
  rw [hE, ← hH]
  clear hE
  generalize (lg_sl ([.int p0]) ++ List.replicate (1 - (lg_sl ([.int p0])).length) Slot.unset).toArray = ls at hl ⊢
  have hl : lv_has ls 1 [(0, .int p0)] := hl
  unfold wp_X8_areCoins at h
  refine lv_iload_n hx hb dX8_areCoins_0 rfl (lv_at hl 0 rfl) ?_
  obtain ⟨B_1, hB_1, h⟩ := h
  have jB_1 : ∀ (I_2 : TI) (J_3 : TJ) (S_4 : TS) (L_5 : TL) (s_6 : Int32) (H : Heap) (locs : List Loc) (ls : Array Slot), va_P (dC, dI) vwCl (Wd I_2 J_3 S_4 L_5) H → va_D A (Wd I_2 J_3 S_4 L_5) → va_S A s.heap H locs → lv_has ls 1 [] → B_1 I_2 J_3 S_4 L_5 s_6 → W p l e (headSpec wsX8_areCoins rmX8_areCoins).room s m args below meth c H locs 0 0 (MQ below (gQi dC dI (Wd) ty A Φ) args s 0 0 A) (F0 m 15 ls [.int s_6]) := by
    intro I_2 J_3 S_4 L_5 s_6 H locs ls hP hD hS hl h
    have h := hB_1 I_2 J_3 S_4 L_5 s_6 h
    exact grz hx hb hr hlocks hP hK hD hS h dX8_areCoins_15
  obtain ⟨B_7, hB_7, h⟩ := h
  have jB_7 : ∀ (I_8 : TI) (J_9 : TJ) (S_10 : TS) (L_11 : TL) (H : Heap) (locs : List Loc) (ls : Array Slot), va_P (dC, dI) vwCl (Wd I_8 J_9 S_10 L_11) H → va_D A (Wd I_8 J_9 S_10 L_11) → va_S A s.heap H locs → lv_has ls 1 [] → B_7 I_8 J_9 S_10 L_11 → W p l e (headSpec wsX8_areCoins rmX8_areCoins).room s m args below meth c H locs 0 0 (MQ below (gQi dC dI (Wd) ty A Φ) args s 0 0 A) (F0 m 14 ls []) := by
    intro I_8 J_9 S_10 L_11 H locs ls hP hD hS hl h
    have h := hB_7 I_8 J_9 S_10 L_11 h
    refine lv_iconst (v := 0) hx hb dX8_areCoins_14 (by decide) ?_
    exact jB_1 I_8 J_9 S_10 L_11 (0 : Int32) _ _ _ hP hD hS (lv_sub hl [] rfl) h
  refine lv_if_lt (tgt := 14) hx hb dX8_areCoins_1 (by decide) (fun hc => ?_) (fun hc => ?_)
  · have h := h.1 hc
    exact jB_7 I J S L _ _ _ hP hD hS (lv_sub hl [] rfl) h
  · have h := h.2 hc
    refine lv_iload_n hx hb dX8_areCoins_4 rfl (lv_at hl 0 rfl) ?_
    refine lv_ldc (v := 1000000) hx hb hown (hts (.constant RX8 150 (1000000)) kX8_areCoins_1) dX8_areCoins_5 ?_
    refine lv_icmp_gt (tgt := 14) hx hb dX8_areCoins_7 (by decide) (fun hc => ?_) (fun hc => ?_)
    · have h := h.1 hc
      exact jB_7 I J S L _ _ _ hP hD hS (lv_sub hl [] rfl) h
    · have h := h.2 hc
      refine lv_iconst (v := 1) hx hb dX8_areCoins_10 (by decide) ?_
      refine lv_goto (tgt := 15) hx hb dX8_areCoins_11 (by decide) ?_
      exact jB_1 I J S L (1 : Int32) _ _ _ hP hD hS (lv_sub hl [] rfl) h
def wp_X8_bag (I : TI) (J : TJ) (S : TS) (L : TL) (p0 : Int32) (p1 : Int32) (p2 : Int32) (Φ : Int32 → TI → TJ → TS → TL → Prop) : Prop := Φ ((((p0 * (24 : Int32)) + p1) * (40 : Int32)) + p2) I J S L
abbrev rmX8_bag : Room := { frames := 0, cells := 0, slots := 0, locals := 0 }
set_option maxHeartbeats 4000000 in
set_option maxRecDepth 100000 in
theorem c_X8_bag (l : Launch) (dC : Nat → ClassId) (dI : Nat → Nat → Nat) (Wd : TW) (ty : TY) (sz : Nat) (I : TI) (J : TJ) (S : TS) (L : TL) (p0 : Int32) (p1 : Int32) (p2 : Int32) (Φ : Int32 → TI → TJ → TS → TL → Prop) (h : wp_X8_bag I J S L p0 p1 p2 Φ) : Met l yX8_bag wsX8_bag rmX8_bag (va_Pc [.int p0, .int p1, .int p2] (gpre dC dI (Wd I J S L) ty sz)) (gQi dC dI (Wd) ty (va_A (Wd I J S L) sz) Φ) 0 0 (va_A (Wd I J S L) sz) := by
  refine Met.ofW (cc := cX8_bag) (maxL := 3) (ret := (some .int)) (by decide) rfl ?_
  intro p e s m args below meth c s₁ B hml hv
  obtain ⟨hargs, hsz, hP, hK, hD0, hN⟩ := hv
  have hx := B.exec
  have hb := B.bytes
  have hr := B.returns
  have hts := atoms_spec (ws := wsX8_bag) B.pre
  have hown : s.vm.findClass RX8 = some m.cls := findClass_of_methodNamed B.named
  have hlocks := B.notSynchronized
  subst hsz
  have hD := hD0.self (sz := s.heap.size)
  generalize hAe : va_A (Wd I J S L) s.heap.size = A at hD ⊢
  have hA : ∀ q : Nat, s.heap.size ≤ q → A q := fun q h => by rw [← hAe]; exact Or.inr h
  obtain ⟨H, hH⟩ : ∃ z : Heap, z = s.heap := ⟨_, rfl⟩
  rw [← hH] at hP
  have hS : va_S A s.heap H [] := by rw [hH]; exact va_S.rf
  have hl := lv_entry ([.int p0, .int p1, .int p2]) (n := 3) (Nat.le_of_ble_eq_true rfl)
  have hE : entryFrame m args 3 = F0 m 0 ((lg_sl ([.int p0, .int p1, .int p2]) ++ List.replicate (3 - (lg_sl ([.int p0, .int p1, .int p2])).length) Slot.unset).toArray) [] := by rw [hargs]; exact lg_entry_eq m _ _
  rw [hE, ← hH]
  clear hE
  generalize (lg_sl ([.int p0, .int p1, .int p2]) ++ List.replicate (3 - (lg_sl ([.int p0, .int p1, .int p2])).length) Slot.unset).toArray = ls at hl ⊢
  have hl : lv_has ls 3 [(0, .int p0), (1, .int p1), (2, .int p2)] := hl
  unfold wp_X8_bag at h
  refine lv_iload_n hx hb dX8_bag_0 rfl (lv_at hl 0 rfl) ?_
  refine lv_bipush (v := 24) hx hb dX8_bag_1 (by decide) ?_
  refine lv_imul hx hb dX8_bag_3 ?_
  refine lv_iload_n hx hb dX8_bag_4 rfl (lv_at hl 1 rfl) ?_
  refine lv_iadd hx hb dX8_bag_5 ?_
  refine lv_bipush (v := 40) hx hb dX8_bag_6 (by decide) ?_
  refine lv_imul hx hb dX8_bag_8 ?_
  refine lv_iload_n hx hb dX8_bag_9 rfl (lv_at hl 2 rfl) ?_
  refine lv_iadd hx hb dX8_bag_10 ?_
  exact gri hx hb hr hlocks hP hK hD hS h dX8_bag_11
def wp_X8_dueAt (I : TI) (J : TJ) (S : TS) (L : TL) (p0 : Int32) (p1 : Int32) (p2 : Int32) (Φ : Int32 → TI → TJ → TS → TL → Prop) : Prop := Φ ((((p0 * (12 : Int32)) + p1) * (40 : Int32)) + p2) I J S L
abbrev rmX8_dueAt : Room := { frames := 0, cells := 0, slots := 0, locals := 0 }
set_option maxHeartbeats 4000000 in
set_option maxRecDepth 100000 in
theorem c_X8_dueAt (l : Launch) (dC : Nat → ClassId) (dI : Nat → Nat → Nat) (Wd : TW) (ty : TY) (sz : Nat) (I : TI) (J : TJ) (S : TS) (L : TL) (p0 : Int32) (p1 : Int32) (p2 : Int32) (Φ : Int32 → TI → TJ → TS → TL → Prop) (h : wp_X8_dueAt I J S L p0 p1 p2 Φ) : Met l yX8_dueAt wsX8_dueAt rmX8_dueAt (va_Pc [.int p0, .int p1, .int p2] (gpre dC dI (Wd I J S L) ty sz)) (gQi dC dI (Wd) ty (va_A (Wd I J S L) sz) Φ) 0 0 (va_A (Wd I J S L) sz) := by
  refine Met.ofW (cc := cX8_dueAt) (maxL := 3) (ret := (some .int)) (by decide) rfl ?_
  intro p e s m args below meth c s₁ B hml hv
  obtain ⟨hargs, hsz, hP, hK, hD0, hN⟩ := hv
  have hx := B.exec
  have hb := B.bytes
  have hr := B.returns
  have hts := atoms_spec (ws := wsX8_dueAt) B.pre
  have hown : s.vm.findClass RX8 = some m.cls := findClass_of_methodNamed B.named
  have hlocks := B.notSynchronized
  subst hsz
  have hD := hD0.self (sz := s.heap.size)
  generalize hAe : va_A (Wd I J S L) s.heap.size = A at hD ⊢
  have hA : ∀ q : Nat, s.heap.size ≤ q → A q := fun q h => by rw [← hAe]; exact Or.inr h
  obtain ⟨H, hH⟩ : ∃ z : Heap, z = s.heap := ⟨_, rfl⟩
  rw [← hH] at hP
  have hS : va_S A s.heap H [] := by rw [hH]; exact va_S.rf
  have hl := lv_entry ([.int p0, .int p1, .int p2]) (n := 3) (Nat.le_of_ble_eq_true rfl)
  have hE : entryFrame m args 3 = F0 m 0 ((lg_sl ([.int p0, .int p1, .int p2]) ++ List.replicate (3 - (lg_sl ([.int p0, .int p1, .int p2])).length) Slot.unset).toArray) [] := by rw [hargs]; exact lg_entry_eq m _ _
  rw [hE, ← hH]
  clear hE
  generalize (lg_sl ([.int p0, .int p1, .int p2]) ++ List.replicate (3 - (lg_sl ([.int p0, .int p1, .int p2])).length) Slot.unset).toArray = ls at hl ⊢
  have hl : lv_has ls 3 [(0, .int p0), (1, .int p1), (2, .int p2)] := hl
  unfold wp_X8_dueAt at h
  refine lv_iload_n hx hb dX8_dueAt_0 rfl (lv_at hl 0 rfl) ?_
  refine lv_bipush (v := 12) hx hb dX8_dueAt_1 (by decide) ?_
  refine lv_imul hx hb dX8_dueAt_3 ?_
  refine lv_iload_n hx hb dX8_dueAt_4 rfl (lv_at hl 1 rfl) ?_
  refine lv_iadd hx hb dX8_dueAt_5 ?_
  refine lv_bipush (v := 40) hx hb dX8_dueAt_6 (by decide) ?_
  refine lv_imul hx hb dX8_dueAt_8 ?_
  refine lv_iload_n hx hb dX8_dueAt_9 rfl (lv_at hl 2 rfl) ?_
  refine lv_iadd hx hb dX8_dueAt_10 ?_
  exact gri hx hb hr hlocks hP hK hD hS h dX8_dueAt_11
