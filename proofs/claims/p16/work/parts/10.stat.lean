def wp_X7_passesOn (I : TI) (J : TJ) (S : TS) (L : TL) (p0 : Int32) (Φ : Int32 → TI → TJ → TS → TL → Prop) : Prop := ∃ B_1 : TI → TJ → TS → TL → Int32 → Prop, (∀ (I_2 : TI) (J_3 : TJ) (S_4 : TS) (L_5 : TL) (s_6 : Int32), B_1 I_2 J_3 S_4 L_5 s_6 → ((s_6 = 0 ∨ s_6 = 1) ∧ Φ s_6 I_2 J_3 S_4 L_5)) ∧ (∃ B_7 : TI → TJ → TS → TL → Prop, (∀ (I_8 : TI) (J_9 : TJ) (S_10 : TS) (L_11 : TL), B_7 I_8 J_9 S_10 L_11 → (B_1 I_8 J_9 S_10 L_11 (1 : Int32))) ∧ (((p0 = 0) → (B_7 I J S L)) ∧ ((¬ p0 = 0) → (((¬ p0 = (3 : Int32)) → (B_1 I J S L (0 : Int32))) ∧ ((p0 = (3 : Int32)) → (B_7 I J S L))))))
abbrev rmX7_passesOn : Room := { frames := 0, cells := 0, slots := 0, locals := 0 }
set_option maxHeartbeats 4000000 in
set_option maxRecDepth 100000 in
theorem c_X7_passesOn (l : Launch) (dC : Nat → ClassId) (dI : Nat → Nat → Nat) (Wd : TW) (ty : TY) (sz : Nat) (I : TI) (J : TJ) (S : TS) (L : TL) (p0 : Int32) (Φ : Int32 → TI → TJ → TS → TL → Prop) (h : wp_X7_passesOn I J S L p0 Φ) : Met l yX7_passesOn wsX7_passesOn rmX7_passesOn (va_Pc [.int p0] (gpre dC dI (Wd I J S L) ty sz)) (gQi dC dI (Wd) ty (va_A (Wd I J S L) sz) Φ) 0 0 (va_A (Wd I J S L) sz) := by
  refine Met.ofW (cc := cX7_passesOn) (maxL := 1) (ret := (some .boolean)) (by decide) rfl ?_
  intro p e s m args below meth c s₁ B hml hv
  obtain ⟨hargs, hsz, hP, hK, hD0, hN⟩ := hv
  have hx := B.exec
  have hb := B.bytes
  have hr := B.returns
  have hts := atoms_spec (ws := wsX7_passesOn) B.pre
  have hown : s.vm.findClass RX7 = some m.cls := findClass_of_methodNamed B.named
  have hlocks := B.notSynchronized
  subst hsz
  have hD := hD0.self (sz := s.heap.size)
  generalize hAe : va_A (Wd I J S L) s.heap.size = A at hD ⊢
  have hA : ∀ q : Nat, s.heap.size ≤ q → A q := fun q h => by rw [← hAe]; exact Or.inr h
  obtain ⟨H, hH⟩ : ∃ z : Heap, z = s.heap := ⟨_, rfl⟩
  rw [← hH] at hP
  have hS : va_S A s.heap H [] := by rw [hH]; exact va_S.rf
  have hl := lv_entry ([.int p0]) (n := 1) (Nat.le_of_ble_eq_true rfl)
  have hE : entryFrame m args 1 = F0 m 0 ((lg_sl ([.int p0]) ++ List.replicate (1 - (lg_sl ([.int p0])).length) Slot.unset).toArray) [] := by rw [hargs]; exact lg_entry_eq m _ _
  rw [hE, ← hH]
  clear hE
  generalize (lg_sl ([.int p0]) ++ List.replicate (1 - (lg_sl ([.int p0])).length) Slot.unset).toArray = ls at hl ⊢
  have hl : lv_has ls 1 [(0, .int p0)] := hl
  unfold wp_X7_passesOn at h
  refine lv_iload_n hx hb dX7_passesOn_0 rfl (lv_at hl 0 rfl) ?_
  obtain ⟨B_1, hB_1, h⟩ := h
  have jB_1 : ∀ (I_2 : TI) (J_3 : TJ) (S_4 : TS) (L_5 : TL) (s_6 : Int32) (H : Heap) (locs : List Loc) (ls : Array Slot), va_P (dC, dI) vwCl (Wd I_2 J_3 S_4 L_5) H → va_D A (Wd I_2 J_3 S_4 L_5) → va_S A s.heap H locs → lv_has ls 1 [] → B_1 I_2 J_3 S_4 L_5 s_6 → W p l e (headSpec wsX7_passesOn rmX7_passesOn).room s m args below meth c H locs 0 0 (MQ below (gQi dC dI (Wd) ty A Φ) args s 0 0 A) (F0 m 14 ls [.int s_6]) := by
    intro I_2 J_3 S_4 L_5 s_6 H locs ls hP hD hS hl h
    have h := hB_1 I_2 J_3 S_4 L_5 s_6 h
    exact grz hx hb hr hlocks hP hK hD hS h dX7_passesOn_14
  obtain ⟨B_7, hB_7, h⟩ := h
  have jB_7 : ∀ (I_8 : TI) (J_9 : TJ) (S_10 : TS) (L_11 : TL) (H : Heap) (locs : List Loc) (ls : Array Slot), va_P (dC, dI) vwCl (Wd I_8 J_9 S_10 L_11) H → va_D A (Wd I_8 J_9 S_10 L_11) → va_S A s.heap H locs → lv_has ls 1 [] → B_7 I_8 J_9 S_10 L_11 → W p l e (headSpec wsX7_passesOn rmX7_passesOn).room s m args below meth c H locs 0 0 (MQ below (gQi dC dI (Wd) ty A Φ) args s 0 0 A) (F0 m 9 ls []) := by
    intro I_8 J_9 S_10 L_11 H locs ls hP hD hS hl h
    have h := hB_7 I_8 J_9 S_10 L_11 h
    refine lv_iconst (v := 1) hx hb dX7_passesOn_9 (by decide) ?_
    refine lv_goto (tgt := 14) hx hb dX7_passesOn_10 (by decide) ?_
    exact jB_1 I_8 J_9 S_10 L_11 (1 : Int32) _ _ _ hP hD hS (lv_sub hl [] rfl) h
  refine lv_if_eq (tgt := 9) hx hb dX7_passesOn_1 (by decide) (fun hc => ?_) (fun hc => ?_)
  · have h := h.1 hc
    exact jB_7 I J S L _ _ _ hP hD hS (lv_sub hl [] rfl) h
  · have h := h.2 hc
    refine lv_iload_n hx hb dX7_passesOn_4 rfl (lv_at hl 0 rfl) ?_
    refine lv_iconst (v := 3) hx hb dX7_passesOn_5 (by decide) ?_
    refine lv_icmp_ne (tgt := 13) hx hb dX7_passesOn_6 (by decide) (fun hc => ?_) (fun hc => ?_)
    · have h := h.1 hc
      refine lv_iconst (v := 0) hx hb dX7_passesOn_13 (by decide) ?_
      exact jB_1 I J S L (0 : Int32) _ _ _ hP hD hS (lv_sub hl [] rfl) h
    · have h := h.2 hc
      exact jB_7 I J S L _ _ _ hP hD hS (lv_sub hl [] rfl) h
def wp_X7_isHand (I : TI) (J : TJ) (S : TS) (L : TL) (p0 : Int32) (Φ : Int32 → TI → TJ → TS → TL → Prop) : Prop := ∃ B_1 : TI → TJ → TS → TL → Int32 → Prop, (∀ (I_2 : TI) (J_3 : TJ) (S_4 : TS) (L_5 : TL) (s_6 : Int32), B_1 I_2 J_3 S_4 L_5 s_6 → ((s_6 = 0 ∨ s_6 = 1) ∧ Φ s_6 I_2 J_3 S_4 L_5)) ∧ (∃ B_7 : TI → TJ → TS → TL → Prop, (∀ (I_8 : TI) (J_9 : TJ) (S_10 : TS) (L_11 : TL), B_7 I_8 J_9 S_10 L_11 → (B_1 I_8 J_9 S_10 L_11 (0 : Int32))) ∧ (((p0 < 0) → (B_7 I J S L)) ∧ ((¬ p0 < 0) → ((((12 : Int32) ≤ p0) → (B_7 I J S L)) ∧ ((¬ (12 : Int32) ≤ p0) → (B_1 I J S L (1 : Int32)))))))
abbrev rmX7_isHand : Room := { frames := 0, cells := 0, slots := 0, locals := 0 }
set_option maxHeartbeats 4000000 in
set_option maxRecDepth 100000 in
theorem c_X7_isHand (l : Launch) (dC : Nat → ClassId) (dI : Nat → Nat → Nat) (Wd : TW) (ty : TY) (sz : Nat) (I : TI) (J : TJ) (S : TS) (L : TL) (p0 : Int32) (Φ : Int32 → TI → TJ → TS → TL → Prop) (h : wp_X7_isHand I J S L p0 Φ) : Met l yX7_isHand wsX7_isHand rmX7_isHand (va_Pc [.int p0] (gpre dC dI (Wd I J S L) ty sz)) (gQi dC dI (Wd) ty (va_A (Wd I J S L) sz) Φ) 0 0 (va_A (Wd I J S L) sz) := by
  refine Met.ofW (cc := cX7_isHand) (maxL := 1) (ret := (some .boolean)) (by decide) rfl ?_
  intro p e s m args below meth c s₁ B hml hv
  obtain ⟨hargs, hsz, hP, hK, hD0, hN⟩ := hv
  have hx := B.exec
  have hb := B.bytes
  have hr := B.returns
  have hts := atoms_spec (ws := wsX7_isHand) B.pre
  have hown : s.vm.findClass RX7 = some m.cls := findClass_of_methodNamed B.named
  have hlocks := B.notSynchronized
  subst hsz
  have hD := hD0.self (sz := s.heap.size)
  generalize hAe : va_A (Wd I J S L) s.heap.size = A at hD ⊢
  have hA : ∀ q : Nat, s.heap.size ≤ q → A q := fun q h => by rw [← hAe]; exact Or.inr h
  obtain ⟨H, hH⟩ : ∃ z : Heap, z = s.heap := ⟨_, rfl⟩
  rw [← hH] at hP
  have hS : va_S A s.heap H [] := by rw [hH]; exact va_S.rf
  have hl := lv_entry ([.int p0]) (n := 1) (Nat.le_of_ble_eq_true rfl)
  have hE : entryFrame m args 1 = F0 m 0 ((lg_sl ([.int p0]) ++ List.replicate (1 - (lg_sl ([.int p0])).length) Slot.unset).toArray) [] := by rw [hargs]; exact lg_entry_eq m _ _
  rw [hE, ← hH]
  clear hE
  generalize (lg_sl ([.int p0]) ++ List.replicate (1 - (lg_sl ([.int p0])).length) Slot.unset).toArray = ls at hl ⊢
  have hl : lv_has ls 1 [(0, .int p0)] := hl
  unfold wp_X7_isHand at h
  refine lv_iload_n hx hb dX7_isHand_0 rfl (lv_at hl 0 rfl) ?_
  obtain ⟨B_1, hB_1, h⟩ := h
  have jB_1 : ∀ (I_2 : TI) (J_3 : TJ) (S_4 : TS) (L_5 : TL) (s_6 : Int32) (H : Heap) (locs : List Loc) (ls : Array Slot), va_P (dC, dI) vwCl (Wd I_2 J_3 S_4 L_5) H → va_D A (Wd I_2 J_3 S_4 L_5) → va_S A s.heap H locs → lv_has ls 1 [] → B_1 I_2 J_3 S_4 L_5 s_6 → W p l e (headSpec wsX7_isHand rmX7_isHand).room s m args below meth c H locs 0 0 (MQ below (gQi dC dI (Wd) ty A Φ) args s 0 0 A) (F0 m 15 ls [.int s_6]) := by
    intro I_2 J_3 S_4 L_5 s_6 H locs ls hP hD hS hl h
    have h := hB_1 I_2 J_3 S_4 L_5 s_6 h
    exact grz hx hb hr hlocks hP hK hD hS h dX7_isHand_15
  obtain ⟨B_7, hB_7, h⟩ := h
  have jB_7 : ∀ (I_8 : TI) (J_9 : TJ) (S_10 : TS) (L_11 : TL) (H : Heap) (locs : List Loc) (ls : Array Slot), va_P (dC, dI) vwCl (Wd I_8 J_9 S_10 L_11) H → va_D A (Wd I_8 J_9 S_10 L_11) → va_S A s.heap H locs → lv_has ls 1 [] → B_7 I_8 J_9 S_10 L_11 → W p l e (headSpec wsX7_isHand rmX7_isHand).room s m args below meth c H locs 0 0 (MQ below (gQi dC dI (Wd) ty A Φ) args s 0 0 A) (F0 m 14 ls []) := by
    intro I_8 J_9 S_10 L_11 H locs ls hP hD hS hl h
    have h := hB_7 I_8 J_9 S_10 L_11 h
    refine lv_iconst (v := 0) hx hb dX7_isHand_14 (by decide) ?_
    exact jB_1 I_8 J_9 S_10 L_11 (0 : Int32) _ _ _ hP hD hS (lv_sub hl [] rfl) h
  refine lv_if_lt (tgt := 14) hx hb dX7_isHand_1 (by decide) (fun hc => ?_) (fun hc => ?_)
  · have h := h.1 hc
    exact jB_7 I J S L _ _ _ hP hD hS (lv_sub hl [] rfl) h
  · have h := h.2 hc
    refine lv_iload_n hx hb dX7_isHand_4 rfl (lv_at hl 0 rfl) ?_
    refine lv_bipush (v := 12) hx hb dX7_isHand_5 (by decide) ?_
    refine lv_icmp_ge (tgt := 14) hx hb dX7_isHand_7 (by decide) (fun hc => ?_) (fun hc => ?_)
    · have h := h.1 hc
      exact jB_7 I J S L _ _ _ hP hD hS (lv_sub hl [] rfl) h
    · have h := h.2 hc
      refine lv_iconst (v := 1) hx hb dX7_isHand_10 (by decide) ?_
      refine lv_goto (tgt := 15) hx hb dX7_isHand_11 (by decide) ?_
      exact jB_1 I J S L (1 : Int32) _ _ _ hP hD hS (lv_sub hl [] rfl) h
def wp_X7_isWork (I : TI) (J : TJ) (S : TS) (L : TL) (p0 : Int32) (Φ : Int32 → TI → TJ → TS → TL → Prop) : Prop := ∃ B_1 : TI → TJ → TS → TL → Int32 → Prop, (∀ (I_2 : TI) (J_3 : TJ) (S_4 : TS) (L_5 : TL) (s_6 : Int32), B_1 I_2 J_3 S_4 L_5 s_6 → ((s_6 = 0 ∨ s_6 = 1) ∧ Φ s_6 I_2 J_3 S_4 L_5)) ∧ (∃ B_7 : TI → TJ → TS → TL → Prop, (∀ (I_8 : TI) (J_9 : TJ) (S_10 : TS) (L_11 : TL), B_7 I_8 J_9 S_10 L_11 → (B_1 I_8 J_9 S_10 L_11 (0 : Int32))) ∧ (((p0 < 0) → (B_7 I J S L)) ∧ ((¬ p0 < 0) → ((((12 : Int32) ≤ p0) → (B_7 I J S L)) ∧ ((¬ (12 : Int32) ≤ p0) → (B_1 I J S L (1 : Int32)))))))
abbrev rmX7_isWork : Room := { frames := 0, cells := 0, slots := 0, locals := 0 }
set_option maxHeartbeats 4000000 in
set_option maxRecDepth 100000 in
theorem c_X7_isWork (l : Launch) (dC : Nat → ClassId) (dI : Nat → Nat → Nat) (Wd : TW) (ty : TY) (sz : Nat) (I : TI) (J : TJ) (S : TS) (L : TL) (p0 : Int32) (Φ : Int32 → TI → TJ → TS → TL → Prop) (h : wp_X7_isWork I J S L p0 Φ) : Met l yX7_isWork wsX7_isWork rmX7_isWork (va_Pc [.int p0] (gpre dC dI (Wd I J S L) ty sz)) (gQi dC dI (Wd) ty (va_A (Wd I J S L) sz) Φ) 0 0 (va_A (Wd I J S L) sz) := by
  refine Met.ofW (cc := cX7_isWork) (maxL := 1) (ret := (some .boolean)) (by decide) rfl ?_
  intro p e s m args below meth c s₁ B hml hv
  obtain ⟨hargs, hsz, hP, hK, hD0, hN⟩ := hv
  have hx := B.exec
  have hb := B.bytes
  have hr := B.returns
  have hts := atoms_spec (ws := wsX7_isWork) B.pre
  have hown : s.vm.findClass RX7 = some m.cls := findClass_of_methodNamed B.named
  have hlocks := B.notSynchronized
  subst hsz
  have hD := hD0.self (sz := s.heap.size)
  generalize hAe : va_A (Wd I J S L) s.heap.size = A at hD ⊢
  have hA : ∀ q : Nat, s.heap.size ≤ q → A q := fun q h => by rw [← hAe]; exact Or.inr h
  obtain ⟨H, hH⟩ : ∃ z : Heap, z = s.heap := ⟨_, rfl⟩
  rw [← hH] at hP
  have hS : va_S A s.heap H [] := by rw [hH]; exact va_S.rf
  have hl := lv_entry ([.int p0]) (n := 1) (Nat.le_of_ble_eq_true rfl)
  have hE : entryFrame m args 1 = F0 m 0 ((lg_sl ([.int p0]) ++ List.replicate (1 - (lg_sl ([.int p0])).length) Slot.unset).toArray) [] := by rw [hargs]; exact lg_entry_eq m _ _
  rw [hE, ← hH]
  clear hE
  generalize (lg_sl ([.int p0]) ++ List.replicate (1 - (lg_sl ([.int p0])).length) Slot.unset).toArray = ls at hl ⊢
  have hl : lv_has ls 1 [(0, .int p0)] := hl
  unfold wp_X7_isWork at h
  refine lv_iload_n hx hb dX7_isWork_0 rfl (lv_at hl 0 rfl) ?_
  obtain ⟨B_1, hB_1, h⟩ := h
  have jB_1 : ∀ (I_2 : TI) (J_3 : TJ) (S_4 : TS) (L_5 : TL) (s_6 : Int32) (H : Heap) (locs : List Loc) (ls : Array Slot), va_P (dC, dI) vwCl (Wd I_2 J_3 S_4 L_5) H → va_D A (Wd I_2 J_3 S_4 L_5) → va_S A s.heap H locs → lv_has ls 1 [] → B_1 I_2 J_3 S_4 L_5 s_6 → W p l e (headSpec wsX7_isWork rmX7_isWork).room s m args below meth c H locs 0 0 (MQ below (gQi dC dI (Wd) ty A Φ) args s 0 0 A) (F0 m 15 ls [.int s_6]) := by
    intro I_2 J_3 S_4 L_5 s_6 H locs ls hP hD hS hl h
    have h := hB_1 I_2 J_3 S_4 L_5 s_6 h
    exact grz hx hb hr hlocks hP hK hD hS h dX7_isWork_15
  obtain ⟨B_7, hB_7, h⟩ := h
  have jB_7 : ∀ (I_8 : TI) (J_9 : TJ) (S_10 : TS) (L_11 : TL) (H : Heap) (locs : List Loc) (ls : Array Slot), va_P (dC, dI) vwCl (Wd I_8 J_9 S_10 L_11) H → va_D A (Wd I_8 J_9 S_10 L_11) → va_S A s.heap H locs → lv_has ls 1 [] → B_7 I_8 J_9 S_10 L_11 → W p l e (headSpec wsX7_isWork rmX7_isWork).room s m args below meth c H locs 0 0 (MQ below (gQi dC dI (Wd) ty A Φ) args s 0 0 A) (F0 m 14 ls []) := by
    intro I_8 J_9 S_10 L_11 H locs ls hP hD hS hl h
    have h := hB_7 I_8 J_9 S_10 L_11 h
    refine lv_iconst (v := 0) hx hb dX7_isWork_14 (by decide) ?_
    exact jB_1 I_8 J_9 S_10 L_11 (0 : Int32) _ _ _ hP hD hS (lv_sub hl [] rfl) h
  refine lv_if_lt (tgt := 14) hx hb dX7_isWork_1 (by decide) (fun hc => ?_) (fun hc => ?_)
  · have h := h.1 hc
    exact jB_7 I J S L _ _ _ hP hD hS (lv_sub hl [] rfl) h
  · have h := h.2 hc
    refine lv_iload_n hx hb dX7_isWork_4 rfl (lv_at hl 0 rfl) ?_
    refine lv_bipush (v := 12) hx hb dX7_isWork_5 (by decide) ?_
    refine lv_icmp_ge (tgt := 14) hx hb dX7_isWork_7 (by decide) (fun hc => ?_) (fun hc => ?_)
    · have h := h.1 hc
      exact jB_7 I J S L _ _ _ hP hD hS (lv_sub hl [] rfl) h
    · have h := h.2 hc
      refine lv_iconst (v := 1) hx hb dX7_isWork_10 (by decide) ?_
      refine lv_goto (tgt := 15) hx hb dX7_isWork_11 (by decide) ?_
      exact jB_1 I J S L (1 : Int32) _ _ _ hP hD hS (lv_sub hl [] rfl) h
def wp_X7_isPart (I : TI) (J : TJ) (S : TS) (L : TL) (p0 : Int32) (Φ : Int32 → TI → TJ → TS → TL → Prop) : Prop := ∃ B_1 : TI → TJ → TS → TL → Int32 → Prop, (∀ (I_2 : TI) (J_3 : TJ) (S_4 : TS) (L_5 : TL) (s_6 : Int32), B_1 I_2 J_3 S_4 L_5 s_6 → ((s_6 = 0 ∨ s_6 = 1) ∧ Φ s_6 I_2 J_3 S_4 L_5)) ∧ (∃ B_7 : TI → TJ → TS → TL → Prop, (∀ (I_8 : TI) (J_9 : TJ) (S_10 : TS) (L_11 : TL), B_7 I_8 J_9 S_10 L_11 → (B_1 I_8 J_9 S_10 L_11 (0 : Int32))) ∧ (((p0 < (1 : Int32)) → (B_7 I J S L)) ∧ ((¬ p0 < (1 : Int32)) → ((((1000 : Int32) < p0) → (B_7 I J S L)) ∧ ((¬ (1000 : Int32) < p0) → (B_1 I J S L (1 : Int32)))))))
abbrev rmX7_isPart : Room := { frames := 0, cells := 0, slots := 0, locals := 0 }
set_option maxHeartbeats 4000000 in
set_option maxRecDepth 100000 in
theorem c_X7_isPart (l : Launch) (dC : Nat → ClassId) (dI : Nat → Nat → Nat) (Wd : TW) (ty : TY) (sz : Nat) (I : TI) (J : TJ) (S : TS) (L : TL) (p0 : Int32) (Φ : Int32 → TI → TJ → TS → TL → Prop) (h : wp_X7_isPart I J S L p0 Φ) : Met l yX7_isPart wsX7_isPart rmX7_isPart (va_Pc [.int p0] (gpre dC dI (Wd I J S L) ty sz)) (gQi dC dI (Wd) ty (va_A (Wd I J S L) sz) Φ) 0 0 (va_A (Wd I J S L) sz) := by
  refine Met.ofW (cc := cX7_isPart) (maxL := 1) (ret := (some .boolean)) (by decide) rfl ?_
  intro p e s m args below meth c s₁ B hml hv
  obtain ⟨hargs, hsz, hP, hK, hD0, hN⟩ := hv
  have hx := B.exec
  have hb := B.bytes
  have hr := B.returns
  have hts := atoms_spec (ws := wsX7_isPart) B.pre
  have hown : s.vm.findClass RX7 = some m.cls := findClass_of_methodNamed B.named
  have hlocks := B.notSynchronized
  subst hsz
  have hD := hD0.self (sz := s.heap.size)
  generalize hAe : va_A (Wd I J S L) s.heap.size = A at hD ⊢
  have hA : ∀ q : Nat, s.heap.size ≤ q → A q := fun q h => by rw [← hAe]; exact Or.inr h
  obtain ⟨H, hH⟩ : ∃ z : Heap, z = s.heap := ⟨_, rfl⟩
  rw [← hH] at hP
  have hS : va_S A s.heap H [] := by rw [hH]; exact va_S.rf
  have hl := lv_entry ([.int p0]) (n := 1) (Nat.le_of_ble_eq_true rfl)
  have hE : entryFrame m args 1 = F0 m 0 ((lg_sl ([.int p0]) ++ List.replicate (1 - (lg_sl ([.int p0])).length) Slot.unset).toArray) [] := by rw [hargs]; exact lg_entry_eq m _ _
  rw [hE, ← hH]
  clear hE
  generalize (lg_sl ([.int p0]) ++ List.replicate (1 - (lg_sl ([.int p0])).length) Slot.unset).toArray = ls at hl ⊢
  have hl : lv_has ls 1 [(0, .int p0)] := hl
  unfold wp_X7_isPart at h
  refine lv_iload_n hx hb dX7_isPart_0 rfl (lv_at hl 0 rfl) ?_
  refine lv_iconst (v := 1) hx hb dX7_isPart_1 (by decide) ?_
  obtain ⟨B_1, hB_1, h⟩ := h
  have jB_1 : ∀ (I_2 : TI) (J_3 : TJ) (S_4 : TS) (L_5 : TL) (s_6 : Int32) (H : Heap) (locs : List Loc) (ls : Array Slot), va_P (dC, dI) vwCl (Wd I_2 J_3 S_4 L_5) H → va_D A (Wd I_2 J_3 S_4 L_5) → va_S A s.heap H locs → lv_has ls 1 [] → B_1 I_2 J_3 S_4 L_5 s_6 → W p l e (headSpec wsX7_isPart rmX7_isPart).room s m args below meth c H locs 0 0 (MQ below (gQi dC dI (Wd) ty A Φ) args s 0 0 A) (F0 m 17 ls [.int s_6]) := by
    intro I_2 J_3 S_4 L_5 s_6 H locs ls hP hD hS hl h
    have h := hB_1 I_2 J_3 S_4 L_5 s_6 h
    exact grz hx hb hr hlocks hP hK hD hS h dX7_isPart_17
  obtain ⟨B_7, hB_7, h⟩ := h
  have jB_7 : ∀ (I_8 : TI) (J_9 : TJ) (S_10 : TS) (L_11 : TL) (H : Heap) (locs : List Loc) (ls : Array Slot), va_P (dC, dI) vwCl (Wd I_8 J_9 S_10 L_11) H → va_D A (Wd I_8 J_9 S_10 L_11) → va_S A s.heap H locs → lv_has ls 1 [] → B_7 I_8 J_9 S_10 L_11 → W p l e (headSpec wsX7_isPart rmX7_isPart).room s m args below meth c H locs 0 0 (MQ below (gQi dC dI (Wd) ty A Φ) args s 0 0 A) (F0 m 16 ls []) := by
    intro I_8 J_9 S_10 L_11 H locs ls hP hD hS hl h
    have h := hB_7 I_8 J_9 S_10 L_11 h
    refine lv_iconst (v := 0) hx hb dX7_isPart_16 (by decide) ?_
    exact jB_1 I_8 J_9 S_10 L_11 (0 : Int32) _ _ _ hP hD hS (lv_sub hl [] rfl) h
  refine lv_icmp_lt (tgt := 16) hx hb dX7_isPart_2 (by decide) (fun hc => ?_) (fun hc => ?_)
  · have h := h.1 hc
    exact jB_7 I J S L _ _ _ hP hD hS (lv_sub hl [] rfl) h
  · have h := h.2 hc
    refine lv_iload_n hx hb dX7_isPart_5 rfl (lv_at hl 0 rfl) ?_
    refine lv_sipush (v := 1000) hx hb dX7_isPart_6 (by decide) ?_
    refine lv_icmp_gt (tgt := 16) hx hb dX7_isPart_9 (by decide) (fun hc => ?_) (fun hc => ?_)
    · have h := h.1 hc
      exact jB_7 I J S L _ _ _ hP hD hS (lv_sub hl [] rfl) h
    · have h := h.2 hc
      refine lv_iconst (v := 1) hx hb dX7_isPart_12 (by decide) ?_
      refine lv_goto (tgt := 17) hx hb dX7_isPart_13 (by decide) ?_
      exact jB_1 I J S L (1 : Int32) _ _ _ hP hD hS (lv_sub hl [] rfl) h
def wp_X7_isSum (I : TI) (J : TJ) (S : TS) (L : TL) (p0 : Int32) (Φ : Int32 → TI → TJ → TS → TL → Prop) : Prop := ∃ B_1 : TI → TJ → TS → TL → Int32 → Prop, (∀ (I_2 : TI) (J_3 : TJ) (S_4 : TS) (L_5 : TL) (s_6 : Int32), B_1 I_2 J_3 S_4 L_5 s_6 → ((s_6 = 0 ∨ s_6 = 1) ∧ Φ s_6 I_2 J_3 S_4 L_5)) ∧ (∃ B_7 : TI → TJ → TS → TL → Prop, (∀ (I_8 : TI) (J_9 : TJ) (S_10 : TS) (L_11 : TL), B_7 I_8 J_9 S_10 L_11 → (B_1 I_8 J_9 S_10 L_11 (0 : Int32))) ∧ (((p0 < (1 : Int32)) → (B_7 I J S L)) ∧ ((¬ p0 < (1 : Int32)) → ((((1000000 : Int32) < p0) → (B_7 I J S L)) ∧ ((¬ (1000000 : Int32) < p0) → (B_1 I J S L (1 : Int32)))))))
theorem kX7_isSum_1 : Cond.constant RX7 252 (1000000) ∈ wsX7_isSum := List.mem_of_getElem? (i := 1) rfl
abbrev rmX7_isSum : Room := { frames := 0, cells := 0, slots := 0, locals := 0 }
set_option maxHeartbeats 4000000 in
set_option maxRecDepth 100000 in
theorem c_X7_isSum (l : Launch) (dC : Nat → ClassId) (dI : Nat → Nat → Nat) (Wd : TW) (ty : TY) (sz : Nat) (I : TI) (J : TJ) (S : TS) (L : TL) (p0 : Int32) (Φ : Int32 → TI → TJ → TS → TL → Prop) (h : wp_X7_isSum I J S L p0 Φ) : Met l yX7_isSum wsX7_isSum rmX7_isSum (va_Pc [.int p0] (gpre dC dI (Wd I J S L) ty sz)) (gQi dC dI (Wd) ty (va_A (Wd I J S L) sz) Φ) 0 0 (va_A (Wd I J S L) sz) := by
  refine Met.ofW (cc := cX7_isSum) (maxL := 1) (ret := (some .boolean)) (by decide) rfl ?_
  intro p e s m args below meth c s₁ B hml hv
  obtain ⟨hargs, hsz, hP, hK, hD0, hN⟩ := hv
  have hx := B.exec
  have hb := B.bytes
  have hr := B.returns
  have hts := atoms_spec (ws := wsX7_isSum) B.pre
  have hown : s.vm.findClass RX7 = some m.cls := findClass_of_methodNamed B.named
  have hlocks := B.notSynchronized
  subst hsz
  have hD := hD0.self (sz := s.heap.size)
  generalize hAe : va_A (Wd I J S L) s.heap.size = A at hD ⊢
  have hA : ∀ q : Nat, s.heap.size ≤ q → A q := fun q h => by rw [← hAe]; exact Or.inr h
  obtain ⟨H, hH⟩ : ∃ z : Heap, z = s.heap := ⟨_, rfl⟩
  rw [← hH] at hP
  have hS : va_S A s.heap H [] := by rw [hH]; exact va_S.rf
  have hl := lv_entry ([.int p0]) (n := 1) (Nat.le_of_ble_eq_true rfl)
  have hE : entryFrame m args 1 = F0 m 0 ((lg_sl ([.int p0]) ++ List.replicate (1 - (lg_sl ([.int p0])).length) Slot.unset).toArray) [] := by rw [hargs]; exact lg_entry_eq m _ _
  rw [hE, ← hH]
  clear hE
  generalize (lg_sl ([.int p0]) ++ List.replicate (1 - (lg_sl ([.int p0])).length) Slot.unset).toArray = ls at hl ⊢
  have hl : lv_has ls 1 [(0, .int p0)] := hl
  unfold wp_X7_isSum at h
  refine lv_iload_n hx hb dX7_isSum_0 rfl (lv_at hl 0 rfl) ?_
  refine lv_iconst (v := 1) hx hb dX7_isSum_1 (by decide) ?_
  obtain ⟨B_1, hB_1, h⟩ := h
  have jB_1 : ∀ (I_2 : TI) (J_3 : TJ) (S_4 : TS) (L_5 : TL) (s_6 : Int32) (H : Heap) (locs : List Loc) (ls : Array Slot), va_P (dC, dI) vwCl (Wd I_2 J_3 S_4 L_5) H → va_D A (Wd I_2 J_3 S_4 L_5) → va_S A s.heap H locs → lv_has ls 1 [] → B_1 I_2 J_3 S_4 L_5 s_6 → W p l e (headSpec wsX7_isSum rmX7_isSum).room s m args below meth c H locs 0 0 (MQ below (gQi dC dI (Wd) ty A Φ) args s 0 0 A) (F0 m 16 ls [.int s_6]) := by
    intro I_2 J_3 S_4 L_5 s_6 H locs ls hP hD hS hl h
    have h := hB_1 I_2 J_3 S_4 L_5 s_6 h
    exact grz hx hb hr hlocks hP hK hD hS h dX7_isSum_16
  obtain ⟨B_7, hB_7, h⟩ := h
  have jB_7 : ∀ (I_8 : TI) (J_9 : TJ) (S_10 : TS) (L_11 : TL) (H : Heap) (locs : List Loc) (ls : Array Slot), va_P (dC, dI) vwCl (Wd I_8 J_9 S_10 L_11) H → va_D A (Wd I_8 J_9 S_10 L_11) → va_S A s.heap H locs → lv_has ls 1 [] → B_7 I_8 J_9 S_10 L_11 → W p l e (headSpec wsX7_isSum rmX7_isSum).room s m args below meth c H locs 0 0 (MQ below (gQi dC dI (Wd) ty A Φ) args s 0 0 A) (F0 m 15 ls []) := by
    intro I_8 J_9 S_10 L_11 H locs ls hP hD hS hl h
    have h := hB_7 I_8 J_9 S_10 L_11 h
    refine lv_iconst (v := 0) hx hb dX7_isSum_15 (by decide) ?_
    exact jB_1 I_8 J_9 S_10 L_11 (0 : Int32) _ _ _ hP hD hS (lv_sub hl [] rfl) h
  refine lv_icmp_lt (tgt := 15) hx hb dX7_isSum_2 (by decide) (fun hc => ?_) (fun hc => ?_)
  · have h := h.1 hc
    exact jB_7 I J S L _ _ _ hP hD hS (lv_sub hl [] rfl) h
  · have h := h.2 hc
    refine lv_iload_n hx hb dX7_isSum_5 rfl (lv_at hl 0 rfl) ?_
    refine lv_ldc (v := 1000000) hx hb hown (hts (.constant RX7 252 (1000000)) kX7_isSum_1) dX7_isSum_6 ?_
    refine lv_icmp_gt (tgt := 15) hx hb dX7_isSum_8 (by decide) (fun hc => ?_) (fun hc => ?_)
    · have h := h.1 hc
      exact jB_7 I J S L _ _ _ hP hD hS (lv_sub hl [] rfl) h
    · have h := h.2 hc
      refine lv_iconst (v := 1) hx hb dX7_isSum_11 (by decide) ?_
      refine lv_goto (tgt := 16) hx hb dX7_isSum_12 (by decide) ?_
      exact jB_1 I J S L (1 : Int32) _ _ _ hP hD hS (lv_sub hl [] rfl) h
def wp_X7_isTold (I : TI) (J : TJ) (S : TS) (L : TL) (p0 : Int32) (Φ : Int32 → TI → TJ → TS → TL → Prop) : Prop := ∃ B_1 : TI → TJ → TS → TL → Int32 → Prop, (∀ (I_2 : TI) (J_3 : TJ) (S_4 : TS) (L_5 : TL) (s_6 : Int32), B_1 I_2 J_3 S_4 L_5 s_6 → ((s_6 = 0 ∨ s_6 = 1) ∧ Φ s_6 I_2 J_3 S_4 L_5)) ∧ (∃ B_7 : TI → TJ → TS → TL → Prop, (∀ (I_8 : TI) (J_9 : TJ) (S_10 : TS) (L_11 : TL), B_7 I_8 J_9 S_10 L_11 → (B_1 I_8 J_9 S_10 L_11 (0 : Int32))) ∧ (((p0 < 0) → (B_7 I J S L)) ∧ ((¬ p0 < 0) → ((((1000000 : Int32) < p0) → (B_7 I J S L)) ∧ ((¬ (1000000 : Int32) < p0) → (B_1 I J S L (1 : Int32)))))))
theorem kX7_isTold_1 : Cond.constant RX7 252 (1000000) ∈ wsX7_isTold := List.mem_of_getElem? (i := 1) rfl
abbrev rmX7_isTold : Room := { frames := 0, cells := 0, slots := 0, locals := 0 }
set_option maxHeartbeats 4000000 in
set_option maxRecDepth 100000 in
theorem c_X7_isTold (l : Launch) (dC : Nat → ClassId) (dI : Nat → Nat → Nat) (Wd : TW) (ty : TY) (sz : Nat) (I : TI) (J : TJ) (S : TS) (L : TL) (p0 : Int32) (Φ : Int32 → TI → TJ → TS → TL → Prop) (h : wp_X7_isTold I J S L p0 Φ) : Met l yX7_isTold wsX7_isTold rmX7_isTold (va_Pc [.int p0] (gpre dC dI (Wd I J S L) ty sz)) (gQi dC dI (Wd) ty (va_A (Wd I J S L) sz) Φ) 0 0 (va_A (Wd I J S L) sz) := by
  refine Met.ofW (cc := cX7_isTold) (maxL := 1) (ret := (some .boolean)) (by decide) rfl ?_
  intro p e s m args below meth c s₁ B hml hv
  obtain ⟨hargs, hsz, hP, hK, hD0, hN⟩ := hv
  have hx := B.exec
  have hb := B.bytes
  have hr := B.returns
  have hts := atoms_spec (ws := wsX7_isTold) B.pre
  have hown : s.vm.findClass RX7 = some m.cls := findClass_of_methodNamed B.named
  have hlocks := B.notSynchronized
  subst hsz
  have hD := hD0.self (sz := s.heap.size)
  generalize hAe : va_A (Wd I J S L) s.heap.size = A at hD ⊢
  have hA : ∀ q : Nat, s.heap.size ≤ q → A q := fun q h => by rw [← hAe]; exact Or.inr h
  obtain ⟨H, hH⟩ : ∃ z : Heap, z = s.heap := ⟨_, rfl⟩
  rw [← hH] at hP
  have hS : va_S A s.heap H [] := by rw [hH]; exact va_S.rf
  have hl := lv_entry ([.int p0]) (n := 1) (Nat.le_of_ble_eq_true rfl)
  have hE : entryFrame m args 1 = F0 m 0 ((lg_sl ([.int p0]) ++ List.replicate (1 - (lg_sl ([.int p0])).length) Slot.unset).toArray) [] := by rw [hargs]; exact lg_entry_eq m _ _
  rw [hE, ← hH]
  clear hE
  generalize (lg_sl ([.int p0]) ++ List.replicate (1 - (lg_sl ([.int p0])).length) Slot.unset).toArray = ls at hl ⊢
  have hl : lv_has ls 1 [(0, .int p0)] := hl
  unfold wp_X7_isTold at h
  refine lv_iload_n hx hb dX7_isTold_0 rfl (lv_at hl 0 rfl) ?_
  obtain ⟨B_1, hB_1, h⟩ := h
  have jB_1 : ∀ (I_2 : TI) (J_3 : TJ) (S_4 : TS) (L_5 : TL) (s_6 : Int32) (H : Heap) (locs : List Loc) (ls : Array Slot), va_P (dC, dI) vwCl (Wd I_2 J_3 S_4 L_5) H → va_D A (Wd I_2 J_3 S_4 L_5) → va_S A s.heap H locs → lv_has ls 1 [] → B_1 I_2 J_3 S_4 L_5 s_6 → W p l e (headSpec wsX7_isTold rmX7_isTold).room s m args below meth c H locs 0 0 (MQ below (gQi dC dI (Wd) ty A Φ) args s 0 0 A) (F0 m 15 ls [.int s_6]) := by
    intro I_2 J_3 S_4 L_5 s_6 H locs ls hP hD hS hl h
    have h := hB_1 I_2 J_3 S_4 L_5 s_6 h
    exact grz hx hb hr hlocks hP hK hD hS h dX7_isTold_15
  obtain ⟨B_7, hB_7, h⟩ := h
  have jB_7 : ∀ (I_8 : TI) (J_9 : TJ) (S_10 : TS) (L_11 : TL) (H : Heap) (locs : List Loc) (ls : Array Slot), va_P (dC, dI) vwCl (Wd I_8 J_9 S_10 L_11) H → va_D A (Wd I_8 J_9 S_10 L_11) → va_S A s.heap H locs → lv_has ls 1 [] → B_7 I_8 J_9 S_10 L_11 → W p l e (headSpec wsX7_isTold rmX7_isTold).room s m args below meth c H locs 0 0 (MQ below (gQi dC dI (Wd) ty A Φ) args s 0 0 A) (F0 m 14 ls []) := by
    intro I_8 J_9 S_10 L_11 H locs ls hP hD hS hl h
    have h := hB_7 I_8 J_9 S_10 L_11 h
    refine lv_iconst (v := 0) hx hb dX7_isTold_14 (by decide) ?_
    exact jB_1 I_8 J_9 S_10 L_11 (0 : Int32) _ _ _ hP hD hS (lv_sub hl [] rfl) h
  refine lv_if_lt (tgt := 14) hx hb dX7_isTold_1 (by decide) (fun hc => ?_) (fun hc => ?_)
  · have h := h.1 hc
    exact jB_7 I J S L _ _ _ hP hD hS (lv_sub hl [] rfl) h
  · have h := h.2 hc
    refine lv_iload_n hx hb dX7_isTold_4 rfl (lv_at hl 0 rfl) ?_
    refine lv_ldc (v := 1000000) hx hb hown (hts (.constant RX7 252 (1000000)) kX7_isTold_1) dX7_isTold_5 ?_
    refine lv_icmp_gt (tgt := 14) hx hb dX7_isTold_7 (by decide) (fun hc => ?_) (fun hc => ?_)
    · have h := h.1 hc
      exact jB_7 I J S L _ _ _ hP hD hS (lv_sub hl [] rfl) h
    · have h := h.2 hc
      refine lv_iconst (v := 1) hx hb dX7_isTold_10 (by decide) ?_
      refine lv_goto (tgt := 15) hx hb dX7_isTold_11 (by decide) ?_
      exact jB_1 I J S L (1 : Int32) _ _ _ hP hD hS (lv_sub hl [] rfl) h
def wp_X7_isSharer (I : TI) (J : TJ) (S : TS) (L : TL) (p0 : Int32) (p1 : Int32) (Φ : Int32 → TI → TJ → TS → TL → Prop) : Prop := ∃ B_1 : TI → TJ → TS → TL → Int32 → Prop, (∀ (I_2 : TI) (J_3 : TJ) (S_4 : TS) (L_5 : TL) (s_6 : Int32), B_1 I_2 J_3 S_4 L_5 s_6 → ((s_6 = 0 ∨ s_6 = 1) ∧ Φ s_6 I_2 J_3 S_4 L_5)) ∧ (((¬ p0 = (-1 : Int32)) → (wp_X7_isHand I J S L p0 (fun (r_11 : Int32) (I_7 : TI) (J_8 : TJ) (S_9 : TS) (L_10 : TL) => (∃ B_12 : TI → TJ → TS → TL → Prop, (∀ (I_13 : TI) (J_14 : TJ) (S_15 : TS) (L_16 : TL), B_12 I_13 J_14 S_15 L_16 → (B_1 I_13 J_14 S_15 L_16 (0 : Int32))) ∧ (((r_11 = 0) → (B_12 I_7 J_8 S_9 L_10)) ∧ ((¬ r_11 = 0) → (wp_X7_isPart I_7 J_8 S_9 L_10 p1 (fun (r_21 : Int32) (I_17 : TI) (J_18 : TJ) (S_19 : TS) (L_20 : TL) => (((r_21 = 0) → (B_12 I_17 J_18 S_19 L_20)) ∧ ((¬ r_21 = 0) → (B_1 I_17 J_18 S_19 L_20 (1 : Int32)))))))))))) ∧ ((p0 = (-1 : Int32)) → (((¬ p1 = 0) → (B_1 I J S L (0 : Int32))) ∧ ((p1 = 0) → (B_1 I J S L (1 : Int32))))))
abbrev rmX7_isSharer : Room := { frames := 1, cells := 0, slots := 0, locals := 20 }
set_option maxHeartbeats 4000000 in
set_option maxRecDepth 100000 in
theorem c_X7_isSharer (l : Launch) (dC : Nat → ClassId) (dI : Nat → Nat → Nat) (Wd : TW) (ty : TY) (sz : Nat) (I : TI) (J : TJ) (S : TS) (L : TL) (p0 : Int32) (p1 : Int32) (Φ : Int32 → TI → TJ → TS → TL → Prop) (h : wp_X7_isSharer I J S L p0 p1 Φ) : Met l yX7_isSharer wsX7_isSharer rmX7_isSharer (va_Pc [.int p0, .int p1] (gpre dC dI (Wd I J S L) ty sz)) (gQi dC dI (Wd) ty (va_A (Wd I J S L) sz) Φ) 0 0 (va_A (Wd I J S L) sz) := by
  refine Met.ofW (cc := cX7_isSharer) (maxL := 2) (ret := (some .boolean)) (by decide) rfl ?_
  intro p e s m args below meth c s₁ B hml hv
  obtain ⟨hargs, hsz, hP, hK, hD0, hN⟩ := hv
  have hx := B.exec
  have hb := B.bytes
  have hr := B.returns
  have hts := atoms_spec (ws := wsX7_isSharer) B.pre
  have hown : s.vm.findClass RX7 = some m.cls := findClass_of_methodNamed B.named
  have hlocks := B.notSynchronized
  subst hsz
  have hD := hD0.self (sz := s.heap.size)
  generalize hAe : va_A (Wd I J S L) s.heap.size = A at hD ⊢
  have hA : ∀ q : Nat, s.heap.size ≤ q → A q := fun q h => by rw [← hAe]; exact Or.inr h
  obtain ⟨H, hH⟩ : ∃ z : Heap, z = s.heap := ⟨_, rfl⟩
  rw [← hH] at hP
  have hS : va_S A s.heap H [] := by rw [hH]; exact va_S.rf
  have hl := lv_entry ([.int p0, .int p1]) (n := 2) (Nat.le_of_ble_eq_true rfl)
  have hE : entryFrame m args 2 = F0 m 0 ((lg_sl ([.int p0, .int p1]) ++ List.replicate (2 - (lg_sl ([.int p0, .int p1])).length) Slot.unset).toArray) [] := by rw [hargs]; exact lg_entry_eq m _ _
  rw [hE, ← hH]
  clear hE
  generalize (lg_sl ([.int p0, .int p1]) ++ List.replicate (2 - (lg_sl ([.int p0, .int p1])).length) Slot.unset).toArray = ls at hl ⊢
  have hl : lv_has ls 2 [(0, .int p0), (1, .int p1)] := hl
  unfold wp_X7_isSharer at h
  refine lv_iload_n hx hb dX7_isSharer_0 rfl (lv_at hl 0 rfl) ?_
  refine lv_iconst (v := -1) hx hb dX7_isSharer_1 (by decide) ?_
  obtain ⟨B_1, hB_1, h⟩ := h
  have jB_1 : ∀ (I_2 : TI) (J_3 : TJ) (S_4 : TS) (L_5 : TL) (s_6 : Int32) (H : Heap) (locs : List Loc) (ls : Array Slot), va_P (dC, dI) vwCl (Wd I_2 J_3 S_4 L_5) H → va_D A (Wd I_2 J_3 S_4 L_5) → va_S A s.heap H locs → lv_has ls 2 [] → B_1 I_2 J_3 S_4 L_5 s_6 → W p l e (headSpec wsX7_isSharer rmX7_isSharer).room s m args below meth c H locs 0 0 (MQ below (gQi dC dI (Wd) ty A Φ) args s 0 0 A) (F0 m 36 ls [.int s_6]) := by
    intro I_2 J_3 S_4 L_5 s_6 H locs ls hP hD hS hl h
    have h := hB_1 I_2 J_3 S_4 L_5 s_6 h
    exact grz hx hb hr hlocks hP hK hD hS h dX7_isSharer_36
  refine lv_icmp_ne (tgt := 17) hx hb dX7_isSharer_2 (by decide) (fun hc => ?_) (fun hc => ?_)
  · have h := h.1 hc
    refine lv_iload_n hx hb dX7_isSharer_17 rfl (lv_at hl 0 rfl) ?_
    refine gcalli (va_runS (As := [.int p0]) (rest := []) ⟨hx, hb, hml, hown, hts⟩ (c_X7_isHand l dC dI (Wd) ty H.size I J S L p0 _ h) (va_cwS 1 hts gX7_isSharer_X7_isHand rfl rfl rfl (by decide +kernel) ⟨(Nat.le_of_ble_eq_true rfl), (Nat.le_of_ble_eq_true rfl)⟩) (g_pS hP hK hD hN [.int p0]) rfl rfl hl.1 rfl (lv_room (Nat.le_of_ble_eq_true rfl)) dX7_isSharer_18 ⟨(Nat.le_of_ble_eq_true rfl), (Nat.le_of_ble_eq_true rfl)⟩) hS hA hD (fun r_11 I_7 J_8 S_9 L_10 H locs hP hD hS h => ?_)
    obtain ⟨B_12, hB_12, h⟩ := h
    have jB_12 : ∀ (I_13 : TI) (J_14 : TJ) (S_15 : TS) (L_16 : TL) (H : Heap) (locs : List Loc) (ls : Array Slot), va_P (dC, dI) vwCl (Wd I_13 J_14 S_15 L_16) H → va_D A (Wd I_13 J_14 S_15 L_16) → va_S A s.heap H locs → lv_has ls 2 [] → B_12 I_13 J_14 S_15 L_16 → W p l e (headSpec wsX7_isSharer rmX7_isSharer).room s m args below meth c H locs 0 0 (MQ below (gQi dC dI (Wd) ty A Φ) args s 0 0 A) (F0 m 35 ls []) := by
      intro I_13 J_14 S_15 L_16 H locs ls hP hD hS hl h
      have h := hB_12 I_13 J_14 S_15 L_16 h
      refine lv_iconst (v := 0) hx hb dX7_isSharer_35 (by decide) ?_
      exact jB_1 I_13 J_14 S_15 L_16 (0 : Int32) _ _ _ hP hD hS (lv_sub hl [] rfl) h
    refine lv_if_eq (tgt := 35) hx hb dX7_isSharer_21 (by decide) (fun hc => ?_) (fun hc => ?_)
    · have h := h.1 hc
      exact jB_12 I_7 J_8 S_9 L_10 _ _ _ hP hD hS (lv_sub hl [] rfl) h
    · have h := h.2 hc
      refine lv_iload_n hx hb dX7_isSharer_24 rfl (lv_at hl 1 rfl) ?_
      refine gcalli (va_runS (As := [.int p1]) (rest := []) ⟨hx, hb, hml, hown, hts⟩ (c_X7_isPart l dC dI (Wd) ty H.size I_7 J_8 S_9 L_10 p1 _ h) (va_cwS 1 hts gX7_isSharer_X7_isPart rfl rfl rfl (by decide +kernel) ⟨(Nat.le_of_ble_eq_true rfl), (Nat.le_of_ble_eq_true rfl)⟩) (g_pS hP hK hD hN [.int p1]) rfl rfl hl.1 rfl (lv_room (Nat.le_of_ble_eq_true rfl)) dX7_isSharer_25 ⟨(Nat.le_of_ble_eq_true rfl), (Nat.le_of_ble_eq_true rfl)⟩) hS hA hD (fun r_21 I_17 J_18 S_19 L_20 H locs hP hD hS h => ?_)
      refine lv_if_eq (tgt := 35) hx hb dX7_isSharer_28 (by decide) (fun hc => ?_) (fun hc => ?_)
      · have h := h.1 hc
        exact jB_12 I_17 J_18 S_19 L_20 _ _ _ hP hD hS (lv_sub hl [] rfl) h
      · have h := h.2 hc
        refine lv_iconst (v := 1) hx hb dX7_isSharer_31 (by decide) ?_
        refine lv_goto (tgt := 36) hx hb dX7_isSharer_32 (by decide) ?_
        exact jB_1 I_17 J_18 S_19 L_20 (1 : Int32) _ _ _ hP hD hS (lv_sub hl [] rfl) h
  · have h := h.2 hc
    refine lv_iload_n hx hb dX7_isSharer_5 rfl (lv_at hl 1 rfl) ?_
    refine lv_if_ne (tgt := 13) hx hb dX7_isSharer_6 (by decide) (fun hc => ?_) (fun hc => ?_)
    · have h := h.1 hc
      refine lv_iconst (v := 0) hx hb dX7_isSharer_13 (by decide) ?_
      refine lv_goto (tgt := 36) hx hb dX7_isSharer_14 (by decide) ?_
      exact jB_1 I J S L (0 : Int32) _ _ _ hP hD hS (lv_sub hl [] rfl) h
    · have h := h.2 hc
      refine lv_iconst (v := 1) hx hb dX7_isSharer_9 (by decide) ?_
      refine lv_goto (tgt := 36) hx hb dX7_isSharer_10 (by decide) ?_
      exact jB_1 I J S L (1 : Int32) _ _ _ hP hD hS (lv_sub hl [] rfl) h
def wp_X7_termsFit (I : TI) (J : TJ) (S : TS) (L : TL) (p0 : Int32) (p1 : Int32) (p2 : Int32) (p3 : Int32) (Φ : Int32 → TI → TJ → TS → TL → Prop) : Prop := ((p0 = nI 0) → (wp_X7_isPart I J S L p1 (fun (r_5 : Int32) (I_1 : TI) (J_2 : TJ) (S_3 : TS) (L_4 : TL) => ((r_5 = 0 ∨ r_5 = 1) ∧ Φ r_5 I_1 J_2 S_3 L_4)))) ∧ ((p0 = nI 1) → (wp_X7_isSum I J S L p1 (fun (r_10 : Int32) (I_6 : TI) (J_7 : TJ) (S_8 : TS) (L_9 : TL) => ((r_10 = 0 ∨ r_10 = 1) ∧ Φ r_10 I_6 J_7 S_8 L_9)))) ∧ ((p0 = nI 2) → (wp_X7_isSum I J S L p1 (fun (r_15 : Int32) (I_11 : TI) (J_12 : TJ) (S_13 : TS) (L_14 : TL) => ((r_15 = 0 ∨ r_15 = 1) ∧ Φ r_15 I_11 J_12 S_13 L_14)))) ∧ ((p0 = nI 3) → (wp_X7_isPart I J S L p1 (fun (r_20 : Int32) (I_16 : TI) (J_17 : TJ) (S_18 : TS) (L_19 : TL) => (∃ B_21 : TI → TJ → TS → TL → Int32 → Prop, (∀ (I_22 : TI) (J_23 : TJ) (S_24 : TS) (L_25 : TL) (s_26 : Int32), B_21 I_22 J_23 S_24 L_25 s_26 → ((s_26 = 0 ∨ s_26 = 1) ∧ Φ s_26 I_22 J_23 S_24 L_25)) ∧ (∃ B_27 : TI → TJ → TS → TL → Prop, (∀ (I_28 : TI) (J_29 : TJ) (S_30 : TS) (L_31 : TL), B_27 I_28 J_29 S_30 L_31 → (B_21 I_28 J_29 S_30 L_31 (0 : Int32))) ∧ (((r_20 = 0) → (B_27 I_16 J_17 S_18 L_19)) ∧ ((¬ r_20 = 0) → (wp_X7_isSum I_16 J_17 S_18 L_19 p2 (fun (r_36 : Int32) (I_32 : TI) (J_33 : TJ) (S_34 : TS) (L_35 : TL) => (((r_36 = 0) → (B_27 I_32 J_33 S_34 L_35)) ∧ ((¬ r_36 = 0) → (((p3 < 0) → (B_27 I_32 J_33 S_34 L_35)) ∧ ((¬ p3 < 0) → ((((1000 : Int32) < p3) → (B_27 I_32 J_33 S_34 L_35)) ∧ ((¬ (1000 : Int32) < p3) → (B_21 I_32 J_33 S_34 L_35 (1 : Int32))))))))))))))))) ∧ ((p0 = nI 4) → (wp_X7_isPart I J S L p1 (fun (r_41 : Int32) (I_37 : TI) (J_38 : TJ) (S_39 : TS) (L_40 : TL) => (∃ B_42 : TI → TJ → TS → TL → Int32 → Prop, (∀ (I_43 : TI) (J_44 : TJ) (S_45 : TS) (L_46 : TL) (s_47 : Int32), B_42 I_43 J_44 S_45 L_46 s_47 → ((s_47 = 0 ∨ s_47 = 1) ∧ Φ s_47 I_43 J_44 S_45 L_46)) ∧ (∃ B_48 : TI → TJ → TS → TL → Prop, (∀ (I_49 : TI) (J_50 : TJ) (S_51 : TS) (L_52 : TL), B_48 I_49 J_50 S_51 L_52 → (B_42 I_49 J_50 S_51 L_52 (0 : Int32))) ∧ (((r_41 = 0) → (B_48 I_37 J_38 S_39 L_40)) ∧ ((¬ r_41 = 0) → (((p2 < (1 : Int32)) → (B_48 I_37 J_38 S_39 L_40)) ∧ ((¬ p2 < (1 : Int32)) → ((((8 : Int32) < p2) → (B_48 I_37 J_38 S_39 L_40)) ∧ ((¬ (8 : Int32) < p2) → (B_42 I_37 J_38 S_39 L_40 (1 : Int32))))))))))))) ∧ ((∀ k, k < 5 → ¬ p0 = nI k) → (Φ (0 : Int32) I J S L))
abbrev rmX7_termsFit : Room := { frames := 1, cells := 0, slots := 0, locals := 20 }
set_option maxHeartbeats 4000000 in
set_option maxRecDepth 100000 in
theorem c_X7_termsFit (l : Launch) (dC : Nat → ClassId) (dI : Nat → Nat → Nat) (Wd : TW) (ty : TY) (sz : Nat) (I : TI) (J : TJ) (S : TS) (L : TL) (p0 : Int32) (p1 : Int32) (p2 : Int32) (p3 : Int32) (Φ : Int32 → TI → TJ → TS → TL → Prop) (h : wp_X7_termsFit I J S L p0 p1 p2 p3 Φ) : Met l yX7_termsFit wsX7_termsFit rmX7_termsFit (va_Pc [.int p0, .int p1, .int p2, .int p3] (gpre dC dI (Wd I J S L) ty sz)) (gQi dC dI (Wd) ty (va_A (Wd I J S L) sz) Φ) 0 0 (va_A (Wd I J S L) sz) := by
  refine Met.ofW (cc := cX7_termsFit) (maxL := 4) (ret := (some .boolean)) (by decide) rfl ?_
  intro p e s m args below meth c s₁ B hml hv
  obtain ⟨hargs, hsz, hP, hK, hD0, hN⟩ := hv
  have hx := B.exec
  have hb := B.bytes
  have hr := B.returns
  have hts := atoms_spec (ws := wsX7_termsFit) B.pre
  have hown : s.vm.findClass RX7 = some m.cls := findClass_of_methodNamed B.named
  have hlocks := B.notSynchronized
  subst hsz
  have hD := hD0.self (sz := s.heap.size)
  generalize hAe : va_A (Wd I J S L) s.heap.size = A at hD ⊢
  have hA : ∀ q : Nat, s.heap.size ≤ q → A q := fun q h => by rw [← hAe]; exact Or.inr h
  obtain ⟨H, hH⟩ : ∃ z : Heap, z = s.heap := ⟨_, rfl⟩
  rw [← hH] at hP
  have hS : va_S A s.heap H [] := by rw [hH]; exact va_S.rf
  have hl := lv_entry ([.int p0, .int p1, .int p2, .int p3]) (n := 4) (Nat.le_of_ble_eq_true rfl)
  have hE : entryFrame m args 4 = F0 m 0 ((lg_sl ([.int p0, .int p1, .int p2, .int p3]) ++ List.replicate (4 - (lg_sl ([.int p0, .int p1, .int p2, .int p3])).length) Slot.unset).toArray) [] := by rw [hargs]; exact lg_entry_eq m _ _
  rw [hE, ← hH]
  clear hE
  generalize (lg_sl ([.int p0, .int p1, .int p2, .int p3]) ++ List.replicate (4 - (lg_sl ([.int p0, .int p1, .int p2, .int p3])).length) Slot.unset).toArray = ls at hl ⊢
  have hl : lv_has ls 4 [(0, .int p0), (1, .int p1), (2, .int p2), (3, .int p3)] := hl
  unfold wp_X7_termsFit at h
  refine lv_iload_n hx hb dX7_termsFit_0 rfl (lv_at hl 0 rfl) ?_
  by_cases hc0 : p0 = nI 0
  · have h := h.1 hc0
    refine lv_tableIn (off := 35) (tgt := 36) hx hb dX7_termsFit_1 (by rw [hc0]; decide) (by rw [hc0]; decide) (by rw [hc0]; decide) (by decide) ?_
    refine lv_iload_n hx hb dX7_termsFit_36 rfl (lv_at hl 1 rfl) ?_
    refine gcalli (va_runS (As := [.int p1]) (rest := []) ⟨hx, hb, hml, hown, hts⟩ (c_X7_isPart l dC dI (Wd) ty H.size I J S L p1 _ h) (va_cwS 1 hts gX7_termsFit_X7_isPart rfl rfl rfl (by decide +kernel) ⟨(Nat.le_of_ble_eq_true rfl), (Nat.le_of_ble_eq_true rfl)⟩) (g_pS hP hK hD hN [.int p1]) rfl rfl hl.1 rfl (lv_room (Nat.le_of_ble_eq_true rfl)) dX7_termsFit_37 ⟨(Nat.le_of_ble_eq_true rfl), (Nat.le_of_ble_eq_true rfl)⟩) hS hA hD (fun r_5 I_1 J_2 S_3 L_4 H locs hP hD hS h => ?_)
    exact grz hx hb hr hlocks hP hK hD hS h dX7_termsFit_40
  by_cases hc1 : p0 = nI 1
  · have h := h.2.1 hc1
    refine lv_tableIn (off := 40) (tgt := 41) hx hb dX7_termsFit_1 (by rw [hc1]; decide) (by rw [hc1]; decide) (by rw [hc1]; decide) (by decide) ?_
    refine lv_iload_n hx hb dX7_termsFit_41 rfl (lv_at hl 1 rfl) ?_
    refine gcalli (va_runS (As := [.int p1]) (rest := []) ⟨hx, hb, hml, hown, hts⟩ (c_X7_isSum l dC dI (Wd) ty H.size I J S L p1 _ h) (va_cwS 1 hts gX7_termsFit_X7_isSum rfl rfl rfl (by decide +kernel) ⟨(Nat.le_of_ble_eq_true rfl), (Nat.le_of_ble_eq_true rfl)⟩) (g_pS hP hK hD hN [.int p1]) rfl rfl hl.1 rfl (lv_room (Nat.le_of_ble_eq_true rfl)) dX7_termsFit_42 ⟨(Nat.le_of_ble_eq_true rfl), (Nat.le_of_ble_eq_true rfl)⟩) hS hA hD (fun r_10 I_6 J_7 S_8 L_9 H locs hP hD hS h => ?_)
    exact grz hx hb hr hlocks hP hK hD hS h dX7_termsFit_45
  by_cases hc2 : p0 = nI 2
  · have h := h.2.2.1 hc2
    refine lv_tableIn (off := 40) (tgt := 41) hx hb dX7_termsFit_1 (by rw [hc2]; decide) (by rw [hc2]; decide) (by rw [hc2]; decide) (by decide) ?_
    refine lv_iload_n hx hb dX7_termsFit_41 rfl (lv_at hl 1 rfl) ?_
    refine gcalli (va_runS (As := [.int p1]) (rest := []) ⟨hx, hb, hml, hown, hts⟩ (c_X7_isSum l dC dI (Wd) ty H.size I J S L p1 _ h) (va_cwS 1 hts gX7_termsFit_X7_isSum rfl rfl rfl (by decide +kernel) ⟨(Nat.le_of_ble_eq_true rfl), (Nat.le_of_ble_eq_true rfl)⟩) (g_pS hP hK hD hN [.int p1]) rfl rfl hl.1 rfl (lv_room (Nat.le_of_ble_eq_true rfl)) dX7_termsFit_42 ⟨(Nat.le_of_ble_eq_true rfl), (Nat.le_of_ble_eq_true rfl)⟩) hS hA hD (fun r_15 I_11 J_12 S_13 L_14 H locs hP hD hS h => ?_)
    exact grz hx hb hr hlocks hP hK hD hS h dX7_termsFit_45
  by_cases hc3 : p0 = nI 3
  · have h := h.2.2.2.1 hc3
    refine lv_tableIn (off := 45) (tgt := 46) hx hb dX7_termsFit_1 (by rw [hc3]; decide) (by rw [hc3]; decide) (by rw [hc3]; decide) (by decide) ?_
    refine lv_iload_n hx hb dX7_termsFit_46 rfl (lv_at hl 1 rfl) ?_
    refine gcalli (va_runS (As := [.int p1]) (rest := []) ⟨hx, hb, hml, hown, hts⟩ (c_X7_isPart l dC dI (Wd) ty H.size I J S L p1 _ h) (va_cwS 1 hts gX7_termsFit_X7_isPart rfl rfl rfl (by decide +kernel) ⟨(Nat.le_of_ble_eq_true rfl), (Nat.le_of_ble_eq_true rfl)⟩) (g_pS hP hK hD hN [.int p1]) rfl rfl hl.1 rfl (lv_room (Nat.le_of_ble_eq_true rfl)) dX7_termsFit_47 ⟨(Nat.le_of_ble_eq_true rfl), (Nat.le_of_ble_eq_true rfl)⟩) hS hA hD (fun r_20 I_16 J_17 S_18 L_19 H locs hP hD hS h => ?_)
    obtain ⟨B_21, hB_21, h⟩ := h
    have jB_21 : ∀ (I_22 : TI) (J_23 : TJ) (S_24 : TS) (L_25 : TL) (s_26 : Int32) (H : Heap) (locs : List Loc) (ls : Array Slot), va_P (dC, dI) vwCl (Wd I_22 J_23 S_24 L_25) H → va_D A (Wd I_22 J_23 S_24 L_25) → va_S A s.heap H locs → lv_has ls 4 [] → B_21 I_22 J_23 S_24 L_25 s_26 → W p l e (headSpec wsX7_termsFit rmX7_termsFit).room s m args below meth c H locs 0 0 (MQ below (gQi dC dI (Wd) ty A Φ) args s 0 0 A) (F0 m 76 ls [.int s_26]) := by
      intro I_22 J_23 S_24 L_25 s_26 H locs ls hP hD hS hl h
      have h := hB_21 I_22 J_23 S_24 L_25 s_26 h
      exact grz hx hb hr hlocks hP hK hD hS h dX7_termsFit_76
    obtain ⟨B_27, hB_27, h⟩ := h
    have jB_27 : ∀ (I_28 : TI) (J_29 : TJ) (S_30 : TS) (L_31 : TL) (H : Heap) (locs : List Loc) (ls : Array Slot), va_P (dC, dI) vwCl (Wd I_28 J_29 S_30 L_31) H → va_D A (Wd I_28 J_29 S_30 L_31) → va_S A s.heap H locs → lv_has ls 4 [] → B_27 I_28 J_29 S_30 L_31 → W p l e (headSpec wsX7_termsFit rmX7_termsFit).room s m args below meth c H locs 0 0 (MQ below (gQi dC dI (Wd) ty A Φ) args s 0 0 A) (F0 m 75 ls []) := by
      intro I_28 J_29 S_30 L_31 H locs ls hP hD hS hl h
      have h := hB_27 I_28 J_29 S_30 L_31 h
      refine lv_iconst (v := 0) hx hb dX7_termsFit_75 (by decide) ?_
      exact jB_21 I_28 J_29 S_30 L_31 (0 : Int32) _ _ _ hP hD hS (lv_sub hl [] rfl) h
    refine lv_if_eq (tgt := 75) hx hb dX7_termsFit_50 (by decide) (fun hc => ?_) (fun hc => ?_)
    · have h := h.1 hc
      exact jB_27 I_16 J_17 S_18 L_19 _ _ _ hP hD hS (lv_sub hl [] rfl) h
    · have h := h.2 hc
      refine lv_iload_n hx hb dX7_termsFit_53 rfl (lv_at hl 2 rfl) ?_
      refine gcalli (va_runS (As := [.int p2]) (rest := []) ⟨hx, hb, hml, hown, hts⟩ (c_X7_isSum l dC dI (Wd) ty H.size I_16 J_17 S_18 L_19 p2 _ h) (va_cwS 1 hts gX7_termsFit_X7_isSum rfl rfl rfl (by decide +kernel) ⟨(Nat.le_of_ble_eq_true rfl), (Nat.le_of_ble_eq_true rfl)⟩) (g_pS hP hK hD hN [.int p2]) rfl rfl hl.1 rfl (lv_room (Nat.le_of_ble_eq_true rfl)) dX7_termsFit_54 ⟨(Nat.le_of_ble_eq_true rfl), (Nat.le_of_ble_eq_true rfl)⟩) hS hA hD (fun r_36 I_32 J_33 S_34 L_35 H locs hP hD hS h => ?_)
      refine lv_if_eq (tgt := 75) hx hb dX7_termsFit_57 (by decide) (fun hc => ?_) (fun hc => ?_)
      · have h := h.1 hc
        exact jB_27 I_32 J_33 S_34 L_35 _ _ _ hP hD hS (lv_sub hl [] rfl) h
      · have h := h.2 hc
        refine lv_iload_n hx hb dX7_termsFit_60 rfl (lv_at hl 3 rfl) ?_
        refine lv_if_lt (tgt := 75) hx hb dX7_termsFit_61 (by decide) (fun hc => ?_) (fun hc => ?_)
        · have h := h.1 hc
          exact jB_27 I_32 J_33 S_34 L_35 _ _ _ hP hD hS (lv_sub hl [] rfl) h
        · have h := h.2 hc
          refine lv_iload_n hx hb dX7_termsFit_64 rfl (lv_at hl 3 rfl) ?_
          refine lv_sipush (v := 1000) hx hb dX7_termsFit_65 (by decide) ?_
          refine lv_icmp_gt (tgt := 75) hx hb dX7_termsFit_68 (by decide) (fun hc => ?_) (fun hc => ?_)
          · have h := h.1 hc
            exact jB_27 I_32 J_33 S_34 L_35 _ _ _ hP hD hS (lv_sub hl [] rfl) h
          · have h := h.2 hc
            refine lv_iconst (v := 1) hx hb dX7_termsFit_71 (by decide) ?_
            refine lv_goto (tgt := 76) hx hb dX7_termsFit_72 (by decide) ?_
            exact jB_21 I_32 J_33 S_34 L_35 (1 : Int32) _ _ _ hP hD hS (lv_sub hl [] rfl) h
  by_cases hc4 : p0 = nI 4
  · have h := h.2.2.2.2.1 hc4
    refine lv_tableIn (off := 76) (tgt := 77) hx hb dX7_termsFit_1 (by rw [hc4]; decide) (by rw [hc4]; decide) (by rw [hc4]; decide) (by decide) ?_
    refine lv_iload_n hx hb dX7_termsFit_77 rfl (lv_at hl 1 rfl) ?_
    refine gcalli (va_runS (As := [.int p1]) (rest := []) ⟨hx, hb, hml, hown, hts⟩ (c_X7_isPart l dC dI (Wd) ty H.size I J S L p1 _ h) (va_cwS 1 hts gX7_termsFit_X7_isPart rfl rfl rfl (by decide +kernel) ⟨(Nat.le_of_ble_eq_true rfl), (Nat.le_of_ble_eq_true rfl)⟩) (g_pS hP hK hD hN [.int p1]) rfl rfl hl.1 rfl (lv_room (Nat.le_of_ble_eq_true rfl)) dX7_termsFit_78 ⟨(Nat.le_of_ble_eq_true rfl), (Nat.le_of_ble_eq_true rfl)⟩) hS hA hD (fun r_41 I_37 J_38 S_39 L_40 H locs hP hD hS h => ?_)
    obtain ⟨B_42, hB_42, h⟩ := h
    have jB_42 : ∀ (I_43 : TI) (J_44 : TJ) (S_45 : TS) (L_46 : TL) (s_47 : Int32) (H : Heap) (locs : List Loc) (ls : Array Slot), va_P (dC, dI) vwCl (Wd I_43 J_44 S_45 L_46) H → va_D A (Wd I_43 J_44 S_45 L_46) → va_S A s.heap H locs → lv_has ls 4 [] → B_42 I_43 J_44 S_45 L_46 s_47 → W p l e (headSpec wsX7_termsFit rmX7_termsFit).room s m args below meth c H locs 0 0 (MQ below (gQi dC dI (Wd) ty A Φ) args s 0 0 A) (F0 m 100 ls [.int s_47]) := by
      intro I_43 J_44 S_45 L_46 s_47 H locs ls hP hD hS hl h
      have h := hB_42 I_43 J_44 S_45 L_46 s_47 h
      exact grz hx hb hr hlocks hP hK hD hS h dX7_termsFit_100
    obtain ⟨B_48, hB_48, h⟩ := h
    have jB_48 : ∀ (I_49 : TI) (J_50 : TJ) (S_51 : TS) (L_52 : TL) (H : Heap) (locs : List Loc) (ls : Array Slot), va_P (dC, dI) vwCl (Wd I_49 J_50 S_51 L_52) H → va_D A (Wd I_49 J_50 S_51 L_52) → va_S A s.heap H locs → lv_has ls 4 [] → B_48 I_49 J_50 S_51 L_52 → W p l e (headSpec wsX7_termsFit rmX7_termsFit).room s m args below meth c H locs 0 0 (MQ below (gQi dC dI (Wd) ty A Φ) args s 0 0 A) (F0 m 99 ls []) := by
      intro I_49 J_50 S_51 L_52 H locs ls hP hD hS hl h
      have h := hB_48 I_49 J_50 S_51 L_52 h
      refine lv_iconst (v := 0) hx hb dX7_termsFit_99 (by decide) ?_
      exact jB_42 I_49 J_50 S_51 L_52 (0 : Int32) _ _ _ hP hD hS (lv_sub hl [] rfl) h
    refine lv_if_eq (tgt := 99) hx hb dX7_termsFit_81 (by decide) (fun hc => ?_) (fun hc => ?_)
    · have h := h.1 hc
      exact jB_48 I_37 J_38 S_39 L_40 _ _ _ hP hD hS (lv_sub hl [] rfl) h
    · have h := h.2 hc
      refine lv_iload_n hx hb dX7_termsFit_84 rfl (lv_at hl 2 rfl) ?_
      refine lv_iconst (v := 1) hx hb dX7_termsFit_85 (by decide) ?_
      refine lv_icmp_lt (tgt := 99) hx hb dX7_termsFit_86 (by decide) (fun hc => ?_) (fun hc => ?_)
      · have h := h.1 hc
        exact jB_48 I_37 J_38 S_39 L_40 _ _ _ hP hD hS (lv_sub hl [] rfl) h
      · have h := h.2 hc
        refine lv_iload_n hx hb dX7_termsFit_89 rfl (lv_at hl 2 rfl) ?_
        refine lv_bipush (v := 8) hx hb dX7_termsFit_90 (by decide) ?_
        refine lv_icmp_gt (tgt := 99) hx hb dX7_termsFit_92 (by decide) (fun hc => ?_) (fun hc => ?_)
        · have h := h.1 hc
          exact jB_48 I_37 J_38 S_39 L_40 _ _ _ hP hD hS (lv_sub hl [] rfl) h
        · have h := h.2 hc
          refine lv_iconst (v := 1) hx hb dX7_termsFit_95 (by decide) ?_
          refine lv_goto (tgt := 100) hx hb dX7_termsFit_96 (by decide) ?_
          exact jB_42 I_37 J_38 S_39 L_40 (1 : Int32) _ _ _ hP hD hS (lv_sub hl [] rfl) h
  have hno : ∀ k, k < 5 → ¬ p0 = nI k := fun k hk => by rcases (show k = 0 ∨ k = 1 ∨ k = 2 ∨ k = 3 ∨ k = 4 by omega) with rfl | rfl | rfl | rfl | rfl <;> assumption
  have h := h.2.2.2.2.2 hno
  refine lv_tableOut (tgt := 101) hx hb dX7_termsFit_1 (sw_out 5 (by decide) hno) (by decide) ?_
  refine lv_iconst (v := 0) hx hb dX7_termsFit_101 (by decide) ?_
  exact grz hx hb hr hlocks hP hK hD hS ⟨Or.inl rfl, h⟩ dX7_termsFit_102
def wp_J6_bitCount_0f7a4 (I : TI) (J : TJ) (S : TS) (L : TL) (p0 : Int32) (Φ : Int32 → TI → TJ → TS → TL → Prop) : Prop := ∀ x_1 : Int32, x_1 = ((Int32.toUInt32 p0) >>> ((Int32.toUInt32 (1 : Int32)) &&& Int32.toUInt32 31)).toInt32 → (∀ x_2 : Int32, x_2 = (p0 - (x_1 &&& (1431655765 : Int32))) → (∀ x_3 : Int32, x_3 = ((Int32.toUInt32 x_2) >>> ((Int32.toUInt32 (2 : Int32)) &&& Int32.toUInt32 31)).toInt32 → (∀ x_4 : Int32, x_4 = ((x_2 &&& (858993459 : Int32)) + (x_3 &&& (858993459 : Int32))) → (∀ x_5 : Int32, x_5 = ((Int32.toUInt32 x_4) >>> ((Int32.toUInt32 (4 : Int32)) &&& Int32.toUInt32 31)).toInt32 → (∀ x_6 : Int32, x_6 = ((x_4 + x_5) &&& (252645135 : Int32)) → (∀ x_7 : Int32, x_7 = ((Int32.toUInt32 x_6) >>> ((Int32.toUInt32 (8 : Int32)) &&& Int32.toUInt32 31)).toInt32 → (∀ x_8 : Int32, x_8 = (x_6 + x_7) → (∀ x_9 : Int32, x_9 = ((Int32.toUInt32 x_8) >>> ((Int32.toUInt32 (16 : Int32)) &&& Int32.toUInt32 31)).toInt32 → (∀ x_10 : Int32, x_10 = (x_8 + x_9) → (Φ (x_10 &&& (63 : Int32)) I J S L))))))))))
theorem kJ6_bitCount_0f7a4_3 : Cond.constant RJ6 267 (252645135) ∈ wsJ6_bitCount_0f7a4 := List.mem_of_getElem? (i := 3) rfl
theorem kJ6_bitCount_0f7a4_2 : Cond.constant RJ6 266 (858993459) ∈ wsJ6_bitCount_0f7a4 := List.mem_of_getElem? (i := 2) rfl
theorem kJ6_bitCount_0f7a4_1 : Cond.constant RJ6 265 (1431655765) ∈ wsJ6_bitCount_0f7a4 := List.mem_of_getElem? (i := 1) rfl
abbrev rmJ6_bitCount_0f7a4 : Room := { frames := 0, cells := 0, slots := 0, locals := 0 }
set_option maxHeartbeats 4000000 in
set_option maxRecDepth 100000 in
theorem c_J6_bitCount_0f7a4 (l : Launch) (dC : Nat → ClassId) (dI : Nat → Nat → Nat) (Wd : TW) (ty : TY) (sz : Nat) (I : TI) (J : TJ) (S : TS) (L : TL) (p0 : Int32) (Φ : Int32 → TI → TJ → TS → TL → Prop) (h : wp_J6_bitCount_0f7a4 I J S L p0 Φ) : Met l yJ6_bitCount_0f7a4 wsJ6_bitCount_0f7a4 rmJ6_bitCount_0f7a4 (va_Pc [.int p0] (gpre dC dI (Wd I J S L) ty sz)) (gQi dC dI (Wd) ty (va_A (Wd I J S L) sz) Φ) 0 0 (va_A (Wd I J S L) sz) := by
  refine Met.ofW (cc := cJ6_bitCount_0f7a4) (maxL := 1) (ret := (some .int)) (by decide) rfl ?_
  intro p e s m args below meth c s₁ B hml hv
  obtain ⟨hargs, hsz, hP, hK, hD0, hN⟩ := hv
  have hx := B.exec
  have hb := B.bytes
  have hr := B.returns
  have hts := atoms_spec (ws := wsJ6_bitCount_0f7a4) B.pre
  have hown : s.vm.findClass RJ6 = some m.cls := findClass_of_methodNamed B.named
  have hlocks := B.notSynchronized
  subst hsz
  have hD := hD0.self (sz := s.heap.size)
  generalize hAe : va_A (Wd I J S L) s.heap.size = A at hD ⊢
  have hA : ∀ q : Nat, s.heap.size ≤ q → A q := fun q h => by rw [← hAe]; exact Or.inr h
  obtain ⟨H, hH⟩ : ∃ z : Heap, z = s.heap := ⟨_, rfl⟩
  rw [← hH] at hP
  have hS : va_S A s.heap H [] := by rw [hH]; exact va_S.rf
  have hl := lv_entry ([.int p0]) (n := 1) (Nat.le_of_ble_eq_true rfl)
  have hE : entryFrame m args 1 = F0 m 0 ((lg_sl ([.int p0]) ++ List.replicate (1 - (lg_sl ([.int p0])).length) Slot.unset).toArray) [] := by rw [hargs]; exact lg_entry_eq m _ _
  rw [hE, ← hH]
  clear hE
  generalize (lg_sl ([.int p0]) ++ List.replicate (1 - (lg_sl ([.int p0])).length) Slot.unset).toArray = ls at hl ⊢
  have hl : lv_has ls 1 [(0, .int p0)] := hl
  unfold wp_J6_bitCount_0f7a4 at h
  refine lv_iload_n hx hb dJ6_bitCount_0f7a4_0 rfl (lv_at hl 0 rfl) ?_
  refine lv_iload_n hx hb dJ6_bitCount_0f7a4_1 rfl (lv_at hl 0 rfl) ?_
  refine lv_iconst (v := 1) hx hb dJ6_bitCount_0f7a4_2 (by decide) ?_
  obtain ⟨x_1, ex_1⟩ : ∃ z : Int32, z = ((Int32.toUInt32 p0) >>> ((Int32.toUInt32 (1 : Int32)) &&& Int32.toUInt32 31)).toInt32 := ⟨_, rfl⟩
  have h := h x_1 ex_1
  refine lv_iushr (v := x_1) hx hb dJ6_bitCount_0f7a4_3 ex_1.symm ?_
  refine lv_ldcw (v := 1431655765) hx hb hown (hts (.constant RJ6 265 (1431655765)) kJ6_bitCount_0f7a4_1) dJ6_bitCount_0f7a4_4 ?_
  refine lv_iand hx hb dJ6_bitCount_0f7a4_7 ?_
  refine lv_isub hx hb dJ6_bitCount_0f7a4_8 ?_
  refine lv_topi (fun x_2 ex_2 => ?_)
  have h := h x_2 ex_2
  refine lv_istore_n (lv' := [(0, .int x_2)]) hx hb dJ6_bitCount_0f7a4_9 rfl hl (by decide) rfl (fun ls hl => ?_)
  refine lv_iload_n hx hb dJ6_bitCount_0f7a4_10 rfl (lv_at hl 0 rfl) ?_
  refine lv_ldcw (v := 858993459) hx hb hown (hts (.constant RJ6 266 (858993459)) kJ6_bitCount_0f7a4_2) dJ6_bitCount_0f7a4_11 ?_
  refine lv_iand hx hb dJ6_bitCount_0f7a4_14 ?_
  refine lv_iload_n hx hb dJ6_bitCount_0f7a4_15 rfl (lv_at hl 0 rfl) ?_
  refine lv_iconst (v := 2) hx hb dJ6_bitCount_0f7a4_16 (by decide) ?_
  obtain ⟨x_3, ex_3⟩ : ∃ z : Int32, z = ((Int32.toUInt32 x_2) >>> ((Int32.toUInt32 (2 : Int32)) &&& Int32.toUInt32 31)).toInt32 := ⟨_, rfl⟩
  have h := h x_3 ex_3
  refine lv_iushr (v := x_3) hx hb dJ6_bitCount_0f7a4_17 ex_3.symm ?_
  refine lv_ldcw (v := 858993459) hx hb hown (hts (.constant RJ6 266 (858993459)) kJ6_bitCount_0f7a4_2) dJ6_bitCount_0f7a4_18 ?_
  refine lv_iand hx hb dJ6_bitCount_0f7a4_21 ?_
  refine lv_iadd hx hb dJ6_bitCount_0f7a4_22 ?_
  refine lv_topi (fun x_4 ex_4 => ?_)
  have h := h x_4 ex_4
  refine lv_istore_n (lv' := [(0, .int x_4)]) hx hb dJ6_bitCount_0f7a4_23 rfl hl (by decide) rfl (fun ls hl => ?_)
  refine lv_iload_n hx hb dJ6_bitCount_0f7a4_24 rfl (lv_at hl 0 rfl) ?_
  refine lv_iload_n hx hb dJ6_bitCount_0f7a4_25 rfl (lv_at hl 0 rfl) ?_
  refine lv_iconst (v := 4) hx hb dJ6_bitCount_0f7a4_26 (by decide) ?_
  obtain ⟨x_5, ex_5⟩ : ∃ z : Int32, z = ((Int32.toUInt32 x_4) >>> ((Int32.toUInt32 (4 : Int32)) &&& Int32.toUInt32 31)).toInt32 := ⟨_, rfl⟩
  have h := h x_5 ex_5
  refine lv_iushr (v := x_5) hx hb dJ6_bitCount_0f7a4_27 ex_5.symm ?_
  refine lv_iadd hx hb dJ6_bitCount_0f7a4_28 ?_
  refine lv_ldcw (v := 252645135) hx hb hown (hts (.constant RJ6 267 (252645135)) kJ6_bitCount_0f7a4_3) dJ6_bitCount_0f7a4_29 ?_
  refine lv_iand hx hb dJ6_bitCount_0f7a4_32 ?_
  refine lv_topi (fun x_6 ex_6 => ?_)
  have h := h x_6 ex_6
  refine lv_istore_n (lv' := [(0, .int x_6)]) hx hb dJ6_bitCount_0f7a4_33 rfl hl (by decide) rfl (fun ls hl => ?_)
  refine lv_iload_n hx hb dJ6_bitCount_0f7a4_34 rfl (lv_at hl 0 rfl) ?_
  refine lv_iload_n hx hb dJ6_bitCount_0f7a4_35 rfl (lv_at hl 0 rfl) ?_
  refine lv_bipush (v := 8) hx hb dJ6_bitCount_0f7a4_36 (by decide) ?_
  obtain ⟨x_7, ex_7⟩ : ∃ z : Int32, z = ((Int32.toUInt32 x_6) >>> ((Int32.toUInt32 (8 : Int32)) &&& Int32.toUInt32 31)).toInt32 := ⟨_, rfl⟩
  have h := h x_7 ex_7
  refine lv_iushr (v := x_7) hx hb dJ6_bitCount_0f7a4_38 ex_7.symm ?_
  refine lv_iadd hx hb dJ6_bitCount_0f7a4_39 ?_
  refine lv_topi (fun x_8 ex_8 => ?_)
  have h := h x_8 ex_8
  refine lv_istore_n (lv' := [(0, .int x_8)]) hx hb dJ6_bitCount_0f7a4_40 rfl hl (by decide) rfl (fun ls hl => ?_)
  refine lv_iload_n hx hb dJ6_bitCount_0f7a4_41 rfl (lv_at hl 0 rfl) ?_
  refine lv_iload_n hx hb dJ6_bitCount_0f7a4_42 rfl (lv_at hl 0 rfl) ?_
  refine lv_bipush (v := 16) hx hb dJ6_bitCount_0f7a4_43 (by decide) ?_
  obtain ⟨x_9, ex_9⟩ : ∃ z : Int32, z = ((Int32.toUInt32 x_8) >>> ((Int32.toUInt32 (16 : Int32)) &&& Int32.toUInt32 31)).toInt32 := ⟨_, rfl⟩
  have h := h x_9 ex_9
  refine lv_iushr (v := x_9) hx hb dJ6_bitCount_0f7a4_45 ex_9.symm ?_
  refine lv_iadd hx hb dJ6_bitCount_0f7a4_46 ?_
  refine lv_topi (fun x_10 ex_10 => ?_)
  have h := h x_10 ex_10
  refine lv_istore_n (lv' := [(0, .int x_10)]) hx hb dJ6_bitCount_0f7a4_47 rfl hl (by decide) rfl (fun ls hl => ?_)
  refine lv_iload_n hx hb dJ6_bitCount_0f7a4_48 rfl (lv_at hl 0 rfl) ?_
  refine lv_bipush (v := 63) hx hb dJ6_bitCount_0f7a4_49 (by decide) ?_
  refine lv_iand hx hb dJ6_bitCount_0f7a4_51 ?_
  exact gri hx hb hr hlocks hP hK hD hS h dJ6_bitCount_0f7a4_52
