def wp_X6_hasRoom (n0 n1 : Nat) (I : TI) (J : TJ) (S : TS) (L : TL) (p0 : Int32) (p1 : Int32) (Φ : Int32 → TI → TJ → TS → TL → Prop) : Prop := (vp_in p0 12) ∧ (∀ x_1 : Int32, x_1 = (I 1 (p0).toNatClampNeg) → (((¬ x_1 = 0) → (∃ B_2 : TI → TJ → TS → TL → Int32 → Prop, (∀ (I_3 : TI) (J_4 : TJ) (S_5 : TS) (L_6 : TL) (s_7 : Int32), B_2 I_3 J_4 S_5 L_6 s_7 → ((s_7 = 0 ∨ s_7 = 1) ∧ Φ s_7 I_3 J_4 S_5 L_6)) ∧ (∃ B_8 : TI → TJ → TS → TL → Prop, (∀ (I_9 : TI) (J_10 : TJ) (S_11 : TS) (L_12 : TL), B_8 I_9 J_10 S_11 L_12 → (B_2 I_9 J_10 S_11 L_12 (0 : Int32))) ∧ ((((6 : Int32) ≤ x_1) → (B_8 I J S L)) ∧ ((¬ (6 : Int32) ≤ x_1) → ((vp_in (((p0 * (6 : Int32)) + x_1) - (1 : Int32)) 72) ∧ (((p1 ≤ (I 2 ((((p0 * (6 : Int32)) + x_1) - (1 : Int32))).toNatClampNeg)) → (B_8 I J S L)) ∧ ((¬ p1 ≤ (I 2 ((((p0 * (6 : Int32)) + x_1) - (1 : Int32))).toNatClampNeg)) → (B_2 I J S L (1 : Int32)))))))))) ∧ ((x_1 = 0) → (Φ (1 : Int32) I J S L))))
theorem nX6_hasRoom_X6 : ∀ w ∈ wsX60, w ∈ wsX6_hasRoom := fun _ h => List.mem_cons_of_mem _ (List.mem_append_right _ h)
theorem kX6_hasRoom_2 : Cond.fieldLink RX6 15 "SongOffice$ShareBook" "days" "[I" ∈ wsX6_hasRoom := List.mem_of_getElem? (i := 2) rfl
theorem kX6_hasRoom_1 : Cond.fieldLink RX6 9 "SongOffice$ShareBook" "sets" "[I" ∈ wsX6_hasRoom := List.mem_of_getElem? (i := 1) rfl
abbrev rmX6_hasRoom : Room := { frames := 0, cells := 0, slots := 0, locals := 0 }
set_option maxHeartbeats 4000000 in
set_option maxRecDepth 100000 in
theorem c_X6_hasRoom (l : Launch) (dC : Nat → ClassId) (dI : Nat → Nat → Nat) (a : Nat → Nat) (cy : Nat → ClassId) (n0 n1 : Nat) (sz : Nat) (I : TI) (J : TJ) (S : TS) (L : TL) (p0 : Int32) (p1 : Int32) (Φ : Int32 → TI → TJ → TS → TL → Prop) (h : wp_X6_hasRoom n0 n1 I J S L p0 p1 Φ) : Met l yX6_hasRoom wsX6_hasRoom rmX6_hasRoom (va_Pc [.ref (a 0), .int p0, .int p1] (gpre dC dI (wL a cy n0 n1 I J S L) (tyL cy) sz)) (gQi dC dI (wL a cy n0 n1) (tyL cy) (va_A (wL a cy n0 n1 I J S L) sz) Φ) 0 0 (va_A (wL a cy n0 n1 I J S L) sz) := by
  refine Met.ofW (cc := cX6_hasRoom) (maxL := 4) (ret := (some .boolean)) (by decide) rfl ?_
  intro p e s m args below meth c s₁ B hml hv
  obtain ⟨hargs, hsz, hP, hK, hD0, hN⟩ := hv
  have hx := B.exec
  have hb := B.bytes
  have hr := B.returns
  have hts := atoms_spec (ws := wsX6_hasRoom) B.pre
  have hown : s.vm.findClass RX6 = some m.cls := findClass_of_methodNamed B.named
  have hlocks := B.notSynchronized
  subst hsz
  have hD := hD0.self (sz := s.heap.size)
  generalize hAe : va_A (wL a cy n0 n1 I J S L) s.heap.size = A at hD ⊢
  have hA : ∀ q : Nat, s.heap.size ≤ q → A q := fun q h => by rw [← hAe]; exact Or.inr h
  obtain ⟨H, hH⟩ : ∃ z : Heap, z = s.heap := ⟨_, rfl⟩
  rw [← hH] at hP
  have hS : va_S A s.heap H [] := by rw [hH]; exact va_S.rf
  have hl := lv_entry ([.ref (a 0), .int p0, .int p1]) (n := 4) (Nat.le_of_ble_eq_true rfl)
  have hE : entryFrame m args 4 = F0 m 0 ((lg_sl ([.ref (a 0), .int p0, .int p1]) ++ List.replicate (4 - (lg_sl ([.ref (a 0), .int p0, .int p1])).length) Slot.unset).toArray) [] := by rw [hargs]; exact lg_entry_eq m _ _
  rw [hE, ← hH]
  clear hE
  generalize (lg_sl ([.ref (a 0), .int p0, .int p1]) ++ List.replicate (4 - (lg_sl ([.ref (a 0), .int p0, .int p1])).length) Slot.unset).toArray = ls at hl ⊢
  have hl : lv_has ls 4 [(0, .ref (a 0)), (1, .int p0), (2, .int p1)] := hl
  unfold wp_X6_hasRoom at h
  refine lv_aload_n hx hb dX6_hasRoom_0 rfl (lv_at hl 0 rfl) ?_
  refine va_get (D := (dC, dI)) (ci := 6) (v := .ref (a 1)) (C := RX6) (T := TX6) (N := 4) hx hb hts nX6_hasRoom_X6 hown hK hP 0 (wL_at0 _ _ _ _ _ _ _ _) rfl 0 (by decide) (hts (.fieldLink RX6 9 "SongOffice$ShareBook" "sets" "[I") kX6_hasRoom_1) (fun _ h9 => h9) rfl dX6_hasRoom_1 ?_
  refine lv_iload_n hx hb dX6_hasRoom_4 rfl (lv_at hl 1 rfl) ?_
  obtain ⟨hi, h⟩ := h
  refine va_iald hx hb hK hP 1 0 (wL_at1 _ _ _ _ _ _ _ _) rfl hi dX6_hasRoom_5 ?_
  refine lv_topi (fun x_1 ex_1 => ?_)
  have h := h x_1 ex_1
  refine lv_istore_n (lv' := [(3, .int x_1), (0, .ref (a 0)), (1, .int p0), (2, .int p1)]) hx hb dX6_hasRoom_6 rfl hl (by decide) rfl (fun ls hl => ?_)
  refine lv_iload_n hx hb dX6_hasRoom_7 rfl (lv_at hl 0 rfl) ?_
  refine lv_if_ne (tgt := 13) hx hb dX6_hasRoom_8 (by decide) (fun hc => ?_) (fun hc => ?_)
  · have h := h.1 hc
    refine lv_iload_n hx hb dX6_hasRoom_13 rfl (lv_at hl 0 rfl) ?_
    refine lv_bipush (v := 6) hx hb dX6_hasRoom_14 (by decide) ?_
    obtain ⟨B_2, hB_2, h⟩ := h
    have jB_2 : ∀ (I_3 : TI) (J_4 : TJ) (S_5 : TS) (L_6 : TL) (s_7 : Int32) (H : Heap) (locs : List Loc) (ls : Array Slot), va_P (dC, dI) vwCl (wL a cy n0 n1 I_3 J_4 S_5 L_6) H → va_D A (wL a cy n0 n1 I_3 J_4 S_5 L_6) → va_S A s.heap H locs → lv_has ls 4 [] → B_2 I_3 J_4 S_5 L_6 s_7 → W p l e (headSpec wsX6_hasRoom rmX6_hasRoom).room s m args below meth c H locs 0 0 (MQ below (gQi dC dI (wL a cy n0 n1) (tyL cy) A Φ) args s 0 0 A) (F0 m 41 ls [.int s_7]) := by
      intro I_3 J_4 S_5 L_6 s_7 H locs ls hP hD hS hl h
      have h := hB_2 I_3 J_4 S_5 L_6 s_7 h
      exact grz hx hb hr hlocks hP hK hD hS h dX6_hasRoom_41
    obtain ⟨B_8, hB_8, h⟩ := h
    have jB_8 : ∀ (I_9 : TI) (J_10 : TJ) (S_11 : TS) (L_12 : TL) (H : Heap) (locs : List Loc) (ls : Array Slot), va_P (dC, dI) vwCl (wL a cy n0 n1 I_9 J_10 S_11 L_12) H → va_D A (wL a cy n0 n1 I_9 J_10 S_11 L_12) → va_S A s.heap H locs → lv_has ls 4 [] → B_8 I_9 J_10 S_11 L_12 → W p l e (headSpec wsX6_hasRoom rmX6_hasRoom).room s m args below meth c H locs 0 0 (MQ below (gQi dC dI (wL a cy n0 n1) (tyL cy) A Φ) args s 0 0 A) (F0 m 40 ls []) := by
      intro I_9 J_10 S_11 L_12 H locs ls hP hD hS hl h
      have h := hB_8 I_9 J_10 S_11 L_12 h
      refine lv_iconst (v := 0) hx hb dX6_hasRoom_40 (by decide) ?_
      exact jB_2 I_9 J_10 S_11 L_12 (0 : Int32) _ _ _ hP hD hS (lv_sub hl [] rfl) h
    refine lv_icmp_ge (tgt := 40) hx hb dX6_hasRoom_16 (by decide) (fun hc => ?_) (fun hc => ?_)
    · have h := h.1 hc
      exact jB_8 I J S L _ _ _ hP hD hS (lv_sub hl [] rfl) h
    · have h := h.2 hc
      refine lv_iload_n hx hb dX6_hasRoom_19 rfl (lv_at hl 3 rfl) ?_
      refine lv_aload_n hx hb dX6_hasRoom_20 rfl (lv_at hl 1 rfl) ?_
      refine va_get (D := (dC, dI)) (ci := 6) (v := .ref (a 2)) (C := RX6) (T := TX6) (N := 4) hx hb hts nX6_hasRoom_X6 hown hK hP 0 (wL_at0 _ _ _ _ _ _ _ _) rfl 1 (by decide) (hts (.fieldLink RX6 15 "SongOffice$ShareBook" "days" "[I") kX6_hasRoom_2) (fun _ h9 => h9) rfl dX6_hasRoom_21 ?_
      refine lv_iload_n hx hb dX6_hasRoom_24 rfl (lv_at hl 2 rfl) ?_
      refine lv_bipush (v := 6) hx hb dX6_hasRoom_25 (by decide) ?_
      refine lv_imul hx hb dX6_hasRoom_27 ?_
      refine lv_iload_n hx hb dX6_hasRoom_28 rfl (lv_at hl 0 rfl) ?_
      refine lv_iadd hx hb dX6_hasRoom_29 ?_
      refine lv_iconst (v := 1) hx hb dX6_hasRoom_30 (by decide) ?_
      refine lv_isub hx hb dX6_hasRoom_31 ?_
      obtain ⟨hi, h⟩ := h
      refine va_iald hx hb hK hP 2 1 (wL_at2 _ _ _ _ _ _ _ _) rfl hi dX6_hasRoom_32 ?_
      refine lv_icmp_le (tgt := 40) hx hb dX6_hasRoom_33 (by decide) (fun hc => ?_) (fun hc => ?_)
      · have h := h.1 hc
        exact jB_8 I J S L _ _ _ hP hD hS (lv_sub hl [] rfl) h
      · have h := h.2 hc
        refine lv_iconst (v := 1) hx hb dX6_hasRoom_36 (by decide) ?_
        refine lv_goto (tgt := 41) hx hb dX6_hasRoom_37 (by decide) ?_
        exact jB_2 I J S L (1 : Int32) _ _ _ hP hD hS (lv_sub hl [] rfl) h
  · have h := h.2 hc
    refine lv_iconst (v := 1) hx hb dX6_hasRoom_11 (by decide) ?_
    exact grz hx hb hr hlocks hP hK hD hS ⟨Or.inr rfl, h⟩ dX6_hasRoom_12
def wp_X6_hasRoom_O (n0 n1 : Nat) (I : TI) (J : TJ) (S : TS) (L : TL) (p0 : Int32) (p1 : Int32) (Φ : Int32 → TI → TJ → TS → TL → Prop) : Prop := wp_X6_hasRoom n0 n1 I J S L p0 p1 (fun r I1 J1 S1 L1 => Φ r I1 J1 (va_up S1 0 (S 0)) L1)
set_option maxHeartbeats 1000000 in
theorem c_X6_hasRoom_O (l : Launch) (dC : Nat → ClassId) (dI : Nat → Nat → Nat) (a : Nat → Nat) (cy : Nat → ClassId) (n0 n1 : Nat) (sz : Nat) (I : TI) (J : TJ) (S : TS) (L : TL) (p0 : Int32) (p1 : Int32) (Φ : Int32 → TI → TJ → TS → TL → Prop) (h : wp_X6_hasRoom_O n0 n1 I J S L p0 p1 Φ) : Met l yX6_hasRoom wsX6_hasRoom rmX6_hasRoom (va_Pc [.ref (a 0), .int p0, .int p1] (gpre dC dI (wO a cy n0 n1 I J S L) (tyL cy) sz)) (gQi dC dI (wO a cy n0 n1) (tyL cy) (va_A (wO a cy n0 n1 I J S L) sz) Φ) 0 0 (va_A (wO a cy n0 n1 I J S L) sz) :=
  met_cons_i (Wd := wL a cy n0 n1) (c_X6_hasRoom l dC dI a cy n0 n1 sz I J S L p0 p1 _ h) (wO_cons a cy n0 n1 (S 0))
def wp_X6_addSet (n0 n1 : Nat) (I : TI) (J : TJ) (S : TS) (L : TL) (p0 : Int32) (p1 : Int32) (Φ : Int32 → TI → TJ → TS → TL → Prop) : Prop := (vp_in p0 12) ∧ (∀ x_1 : Int32, x_1 = ((p0 * (6 : Int32)) + (I 1 (p0).toNatClampNeg)) → ((vp_in x_1 72) ∧ ∀ I_2 : TI, I_2 = va_up I 2 (upd (I 2) (x_1).toNatClampNeg p1) → ((vp_in p0 12) ∧ ((vp_in p0 12) ∧ ∀ I_3 : TI, I_3 = va_up I_2 1 (upd (I_2 1) (p0).toNatClampNeg ((I_2 1 (p0).toNatClampNeg) + (1 : Int32))) → (Φ x_1 I_3 J S L)))))
theorem nX6_addSet_X6 : ∀ w ∈ wsX60, w ∈ wsX6_addSet := fun _ h => List.mem_cons_of_mem _ (List.mem_append_right _ h)
theorem kX6_addSet_1 : Cond.fieldLink RX6 9 "SongOffice$ShareBook" "sets" "[I" ∈ wsX6_addSet := List.mem_of_getElem? (i := 1) rfl
theorem kX6_addSet_2 : Cond.fieldLink RX6 15 "SongOffice$ShareBook" "days" "[I" ∈ wsX6_addSet := List.mem_of_getElem? (i := 2) rfl
abbrev rmX6_addSet : Room := { frames := 0, cells := 0, slots := 0, locals := 0 }
set_option maxHeartbeats 4000000 in
set_option maxRecDepth 100000 in
theorem c_X6_addSet (l : Launch) (dC : Nat → ClassId) (dI : Nat → Nat → Nat) (a : Nat → Nat) (cy : Nat → ClassId) (n0 n1 : Nat) (sz : Nat) (I : TI) (J : TJ) (S : TS) (L : TL) (p0 : Int32) (p1 : Int32) (Φ : Int32 → TI → TJ → TS → TL → Prop) (h : wp_X6_addSet n0 n1 I J S L p0 p1 Φ) : Met l yX6_addSet wsX6_addSet rmX6_addSet (va_Pc [.ref (a 0), .int p0, .int p1] (gpre dC dI (wL a cy n0 n1 I J S L) (tyL cy) sz)) (gQi dC dI (wL a cy n0 n1) (tyL cy) (va_A (wL a cy n0 n1 I J S L) sz) Φ) 0 0 (va_A (wL a cy n0 n1 I J S L) sz) := by
  refine Met.ofW (cc := cX6_addSet) (maxL := 4) (ret := (some .int)) (by decide) rfl ?_
  intro p e s m args below meth c s₁ B hml hv
  obtain ⟨hargs, hsz, hP, hK, hD0, hN⟩ := hv
  have hx := B.exec
  have hb := B.bytes
  have hr := B.returns
  have hts := atoms_spec (ws := wsX6_addSet) B.pre
  have hown : s.vm.findClass RX6 = some m.cls := findClass_of_methodNamed B.named
  have hlocks := B.notSynchronized
  subst hsz
  have hD := hD0.self (sz := s.heap.size)
  generalize hAe : va_A (wL a cy n0 n1 I J S L) s.heap.size = A at hD ⊢
  have hA : ∀ q : Nat, s.heap.size ≤ q → A q := fun q h => by rw [← hAe]; exact Or.inr h
  obtain ⟨H, hH⟩ : ∃ z : Heap, z = s.heap := ⟨_, rfl⟩
  rw [← hH] at hP
  have hS : va_S A s.heap H [] := by rw [hH]; exact va_S.rf
  have hl := lv_entry ([.ref (a 0), .int p0, .int p1]) (n := 4) (Nat.le_of_ble_eq_true rfl)
  have hE : entryFrame m args 4 = F0 m 0 ((lg_sl ([.ref (a 0), .int p0, .int p1]) ++ List.replicate (4 - (lg_sl ([.ref (a 0), .int p0, .int p1])).length) Slot.unset).toArray) [] := by rw [hargs]; exact lg_entry_eq m _ _
  rw [hE, ← hH]
  clear hE
  generalize (lg_sl ([.ref (a 0), .int p0, .int p1]) ++ List.replicate (4 - (lg_sl ([.ref (a 0), .int p0, .int p1])).length) Slot.unset).toArray = ls at hl ⊢
  have hl : lv_has ls 4 [(0, .ref (a 0)), (1, .int p0), (2, .int p1)] := hl
  unfold wp_X6_addSet at h
  refine lv_iload_n hx hb dX6_addSet_0 rfl (lv_at hl 1 rfl) ?_
  refine lv_bipush (v := 6) hx hb dX6_addSet_1 (by decide) ?_
  refine lv_imul hx hb dX6_addSet_3 ?_
  refine lv_aload_n hx hb dX6_addSet_4 rfl (lv_at hl 0 rfl) ?_
  refine va_get (D := (dC, dI)) (ci := 6) (v := .ref (a 1)) (C := RX6) (T := TX6) (N := 4) hx hb hts nX6_addSet_X6 hown hK hP 0 (wL_at0 _ _ _ _ _ _ _ _) rfl 0 (by decide) (hts (.fieldLink RX6 9 "SongOffice$ShareBook" "sets" "[I") kX6_addSet_1) (fun _ h9 => h9) rfl dX6_addSet_5 ?_
  refine lv_iload_n hx hb dX6_addSet_8 rfl (lv_at hl 1 rfl) ?_
  obtain ⟨hi, h⟩ := h
  refine va_iald hx hb hK hP 1 0 (wL_at1 _ _ _ _ _ _ _ _) rfl hi dX6_addSet_9 ?_
  refine lv_iadd hx hb dX6_addSet_10 ?_
  refine lv_topi (fun x_1 ex_1 => ?_)
  have h := h x_1 ex_1
  refine lv_istore_n (lv' := [(3, .int x_1), (0, .ref (a 0)), (1, .int p0), (2, .int p1)]) hx hb dX6_addSet_11 rfl hl (by decide) rfl (fun ls hl => ?_)
  refine lv_aload_n hx hb dX6_addSet_12 rfl (lv_at hl 1 rfl) ?_
  refine va_get (D := (dC, dI)) (ci := 6) (v := .ref (a 2)) (C := RX6) (T := TX6) (N := 4) hx hb hts nX6_addSet_X6 hown hK hP 0 (wL_at0 _ _ _ _ _ _ _ _) rfl 1 (by decide) (hts (.fieldLink RX6 15 "SongOffice$ShareBook" "days" "[I") kX6_addSet_2) (fun _ h9 => h9) rfl dX6_addSet_13 ?_
  refine lv_iload_n hx hb dX6_addSet_16 rfl (lv_at hl 0 rfl) ?_
  refine lv_iload_n hx hb dX6_addSet_17 rfl (lv_at hl 3 rfl) ?_
  obtain ⟨hi, h⟩ := h
  obtain ⟨I_2, eI_2⟩ : ∃ z : TI, z = va_up I 2 (upd (I 2) (x_1).toNatClampNeg p1) := ⟨_, rfl⟩
  have h := h I_2 eI_2
  refine va_iast hx hb hK hP hD hS 2 1 (wL_at2 _ _ _ _ _ _ _ _) rfl hi dX6_addSet_18 (fun H locs hP hD hS => ?_)
  have hP : va_P (dC, dI) vwCl (wL a cy n0 n1 I_2 J S L) H := by rw [eI_2]; exact setP hP (wL_set2 _ _ _ _ _ _ _ _ _)
  have hD : va_D A (wL a cy n0 n1 I_2 J S L) := by rw [eI_2]; exact setD hD (wL_set2 _ _ _ _ _ _ _ _ _)
  refine lv_aload_n hx hb dX6_addSet_19 rfl (lv_at hl 1 rfl) ?_
  refine va_get (D := (dC, dI)) (ci := 6) (v := .ref (a 1)) (C := RX6) (T := TX6) (N := 4) hx hb hts nX6_addSet_X6 hown hK hP 0 (wL_at0 _ _ _ _ _ _ _ _) rfl 0 (by decide) (hts (.fieldLink RX6 9 "SongOffice$ShareBook" "sets" "[I") kX6_addSet_1) (fun _ h9 => h9) rfl dX6_addSet_20 ?_
  refine lv_iload_n hx hb dX6_addSet_23 rfl (lv_at hl 2 rfl) ?_
  refine lv_dup2_11 hx hb dX6_addSet_24 rfl rfl ?_
  obtain ⟨hi, h⟩ := h
  refine va_iald hx hb hK hP 1 0 (wL_at1 _ _ _ _ _ _ _ _) rfl hi dX6_addSet_25 ?_
  refine lv_iconst (v := 1) hx hb dX6_addSet_26 (by decide) ?_
  refine lv_iadd hx hb dX6_addSet_27 ?_
  obtain ⟨hi, h⟩ := h
  obtain ⟨I_3, eI_3⟩ : ∃ z : TI, z = va_up I_2 1 (upd (I_2 1) (p0).toNatClampNeg ((I_2 1 (p0).toNatClampNeg) + (1 : Int32))) := ⟨_, rfl⟩
  have h := h I_3 eI_3
  refine va_iast hx hb hK hP hD hS 1 0 (wL_at1 _ _ _ _ _ _ _ _) rfl hi dX6_addSet_28 (fun H locs hP hD hS => ?_)
  have hP : va_P (dC, dI) vwCl (wL a cy n0 n1 I_3 J S L) H := by rw [eI_3]; exact setP hP (wL_set1 _ _ _ _ _ _ _ _ _)
  have hD : va_D A (wL a cy n0 n1 I_3 J S L) := by rw [eI_3]; exact setD hD (wL_set1 _ _ _ _ _ _ _ _ _)
  refine lv_iload_n hx hb dX6_addSet_29 rfl (lv_at hl 0 rfl) ?_
  exact gri hx hb hr hlocks hP hK hD hS h dX6_addSet_30
def wp_X6_addSet_O (n0 n1 : Nat) (I : TI) (J : TJ) (S : TS) (L : TL) (p0 : Int32) (p1 : Int32) (Φ : Int32 → TI → TJ → TS → TL → Prop) : Prop := wp_X6_addSet n0 n1 I J S L p0 p1 (fun r I1 J1 S1 L1 => Φ r I1 J1 (va_up S1 0 (S 0)) L1)
set_option maxHeartbeats 1000000 in
theorem c_X6_addSet_O (l : Launch) (dC : Nat → ClassId) (dI : Nat → Nat → Nat) (a : Nat → Nat) (cy : Nat → ClassId) (n0 n1 : Nat) (sz : Nat) (I : TI) (J : TJ) (S : TS) (L : TL) (p0 : Int32) (p1 : Int32) (Φ : Int32 → TI → TJ → TS → TL → Prop) (h : wp_X6_addSet_O n0 n1 I J S L p0 p1 Φ) : Met l yX6_addSet wsX6_addSet rmX6_addSet (va_Pc [.ref (a 0), .int p0, .int p1] (gpre dC dI (wO a cy n0 n1 I J S L) (tyL cy) sz)) (gQi dC dI (wO a cy n0 n1) (tyL cy) (va_A (wO a cy n0 n1 I J S L) sz) Φ) 0 0 (va_A (wO a cy n0 n1 I J S L) sz) :=
  met_cons_i (Wd := wL a cy n0 n1) (c_X6_addSet l dC dI a cy n0 n1 sz I J S L p0 p1 _ h) (wO_cons a cy n0 n1 (S 0))
def wp_X6_put (n0 n1 : Nat) (I : TI) (J : TJ) (S : TS) (L : TL) (p0 : Int32) (p1 : Int32) (p2 : Int32) (p3 : Int32) (Φ : TI → TJ → TS → TL → Prop) : Prop := (vp_in ((p0 * (3 : Int32)) + p1) 216) ∧ ∀ I_1 : TI, I_1 = va_up I 3 (upd (I 3) (((p0 * (3 : Int32)) + p1)).toNatClampNeg p2) → ((vp_in ((p0 * (3 : Int32)) + p1) 216) ∧ ∀ I_2 : TI, I_2 = va_up I_1 4 (upd (I_1 4) (((p0 * (3 : Int32)) + p1)).toNatClampNeg p3) → (Φ I_2 J S L))
theorem nX6_put_X6 : ∀ w ∈ wsX60, w ∈ wsX6_put := fun _ h => List.mem_cons_of_mem _ (List.mem_append_right _ h)
theorem kX6_put_2 : Cond.fieldLink RX6 21 "SongOffice$ShareBook" "parts" "[I" ∈ wsX6_put := List.mem_of_getElem? (i := 2) rfl
theorem kX6_put_1 : Cond.fieldLink RX6 18 "SongOffice$ShareBook" "hands" "[I" ∈ wsX6_put := List.mem_of_getElem? (i := 1) rfl
abbrev rmX6_put : Room := { frames := 0, cells := 0, slots := 0, locals := 0 }
set_option maxHeartbeats 4000000 in
set_option maxRecDepth 100000 in
theorem c_X6_put (l : Launch) (dC : Nat → ClassId) (dI : Nat → Nat → Nat) (a : Nat → Nat) (cy : Nat → ClassId) (n0 n1 : Nat) (sz : Nat) (I : TI) (J : TJ) (S : TS) (L : TL) (p0 : Int32) (p1 : Int32) (p2 : Int32) (p3 : Int32) (Φ : TI → TJ → TS → TL → Prop) (h : wp_X6_put n0 n1 I J S L p0 p1 p2 p3 Φ) : Met l yX6_put wsX6_put rmX6_put (va_Pc [.ref (a 0), .int p0, .int p1, .int p2, .int p3] (gpre dC dI (wL a cy n0 n1 I J S L) (tyL cy) sz)) (gQv dC dI (wL a cy n0 n1) (tyL cy) (va_A (wL a cy n0 n1 I J S L) sz) Φ) 0 0 (va_A (wL a cy n0 n1 I J S L) sz) := by
  refine Met.ofW (cc := cX6_put) (maxL := 5) (ret := none) (by decide) rfl ?_
  intro p e s m args below meth c s₁ B hml hv
  obtain ⟨hargs, hsz, hP, hK, hD0, hN⟩ := hv
  have hx := B.exec
  have hb := B.bytes
  have hr := B.returns
  have hts := atoms_spec (ws := wsX6_put) B.pre
  have hown : s.vm.findClass RX6 = some m.cls := findClass_of_methodNamed B.named
  have hlocks := B.notSynchronized
  subst hsz
  have hD := hD0.self (sz := s.heap.size)
  generalize hAe : va_A (wL a cy n0 n1 I J S L) s.heap.size = A at hD ⊢
  have hA : ∀ q : Nat, s.heap.size ≤ q → A q := fun q h => by rw [← hAe]; exact Or.inr h
  obtain ⟨H, hH⟩ : ∃ z : Heap, z = s.heap := ⟨_, rfl⟩
  rw [← hH] at hP
  have hS : va_S A s.heap H [] := by rw [hH]; exact va_S.rf
  have hl := lv_entry ([.ref (a 0), .int p0, .int p1, .int p2, .int p3]) (n := 5) (Nat.le_of_ble_eq_true rfl)
  have hE : entryFrame m args 5 = F0 m 0 ((lg_sl ([.ref (a 0), .int p0, .int p1, .int p2, .int p3]) ++ List.replicate (5 - (lg_sl ([.ref (a 0), .int p0, .int p1, .int p2, .int p3])).length) Slot.unset).toArray) [] := by rw [hargs]; exact lg_entry_eq m _ _
  rw [hE, ← hH]
  clear hE
  generalize (lg_sl ([.ref (a 0), .int p0, .int p1, .int p2, .int p3]) ++ List.replicate (5 - (lg_sl ([.ref (a 0), .int p0, .int p1, .int p2, .int p3])).length) Slot.unset).toArray = ls at hl ⊢
  have hl : lv_has ls 5 [(0, .ref (a 0)), (1, .int p0), (2, .int p1), (3, .int p2), (4, .int p3)] := hl
  unfold wp_X6_put at h
  refine lv_aload_n hx hb dX6_put_0 rfl (lv_at hl 0 rfl) ?_
  refine va_get (D := (dC, dI)) (ci := 6) (v := .ref (a 3)) (C := RX6) (T := TX6) (N := 4) hx hb hts nX6_put_X6 hown hK hP 0 (wL_at0 _ _ _ _ _ _ _ _) rfl 2 (by decide) (hts (.fieldLink RX6 18 "SongOffice$ShareBook" "hands" "[I") kX6_put_1) (fun _ h9 => h9) rfl dX6_put_1 ?_
  refine lv_iload_n hx hb dX6_put_4 rfl (lv_at hl 1 rfl) ?_
  refine lv_iconst (v := 3) hx hb dX6_put_5 (by decide) ?_
  refine lv_imul hx hb dX6_put_6 ?_
  refine lv_iload_n hx hb dX6_put_7 rfl (lv_at hl 2 rfl) ?_
  refine lv_iadd hx hb dX6_put_8 ?_
  refine lv_iload_n hx hb dX6_put_9 rfl (lv_at hl 3 rfl) ?_
  obtain ⟨hi, h⟩ := h
  obtain ⟨I_1, eI_1⟩ : ∃ z : TI, z = va_up I 3 (upd (I 3) (((p0 * (3 : Int32)) + p1)).toNatClampNeg p2) := ⟨_, rfl⟩
  have h := h I_1 eI_1
  refine va_iast hx hb hK hP hD hS 3 2 (wL_at3 _ _ _ _ _ _ _ _) rfl hi dX6_put_10 (fun H locs hP hD hS => ?_)
  have hP : va_P (dC, dI) vwCl (wL a cy n0 n1 I_1 J S L) H := by rw [eI_1]; exact setP hP (wL_set3 _ _ _ _ _ _ _ _ _)
  have hD : va_D A (wL a cy n0 n1 I_1 J S L) := by rw [eI_1]; exact setD hD (wL_set3 _ _ _ _ _ _ _ _ _)
  refine lv_aload_n hx hb dX6_put_11 rfl (lv_at hl 0 rfl) ?_
  refine va_get (D := (dC, dI)) (ci := 6) (v := .ref (a 4)) (C := RX6) (T := TX6) (N := 4) hx hb hts nX6_put_X6 hown hK hP 0 (wL_at0 _ _ _ _ _ _ _ _) rfl 3 (by decide) (hts (.fieldLink RX6 21 "SongOffice$ShareBook" "parts" "[I") kX6_put_2) (fun _ h9 => h9) rfl dX6_put_12 ?_
  refine lv_iload_n hx hb dX6_put_15 rfl (lv_at hl 1 rfl) ?_
  refine lv_iconst (v := 3) hx hb dX6_put_16 (by decide) ?_
  refine lv_imul hx hb dX6_put_17 ?_
  refine lv_iload_n hx hb dX6_put_18 rfl (lv_at hl 2 rfl) ?_
  refine lv_iadd hx hb dX6_put_19 ?_
  refine lv_iload hx hb dX6_put_20 (lv_at hl 4 rfl) ?_
  obtain ⟨hi, h⟩ := h
  obtain ⟨I_2, eI_2⟩ : ∃ z : TI, z = va_up I_1 4 (upd (I_1 4) (((p0 * (3 : Int32)) + p1)).toNatClampNeg p3) := ⟨_, rfl⟩
  have h := h I_2 eI_2
  refine va_iast hx hb hK hP hD hS 4 3 (wL_at4 _ _ _ _ _ _ _ _) rfl hi dX6_put_22 (fun H locs hP hD hS => ?_)
  have hP : va_P (dC, dI) vwCl (wL a cy n0 n1 I_2 J S L) H := by rw [eI_2]; exact setP hP (wL_set4 _ _ _ _ _ _ _ _ _)
  have hD : va_D A (wL a cy n0 n1 I_2 J S L) := by rw [eI_2]; exact setD hD (wL_set4 _ _ _ _ _ _ _ _ _)
  exact grv hx hb hr hlocks hP hK hD hS h dX6_put_23
def wp_X6_put_O (n0 n1 : Nat) (I : TI) (J : TJ) (S : TS) (L : TL) (p0 : Int32) (p1 : Int32) (p2 : Int32) (p3 : Int32) (Φ : TI → TJ → TS → TL → Prop) : Prop := wp_X6_put n0 n1 I J S L p0 p1 p2 p3 (fun I1 J1 S1 L1 => Φ I1 J1 (va_up S1 0 (S 0)) L1)
set_option maxHeartbeats 1000000 in
theorem c_X6_put_O (l : Launch) (dC : Nat → ClassId) (dI : Nat → Nat → Nat) (a : Nat → Nat) (cy : Nat → ClassId) (n0 n1 : Nat) (sz : Nat) (I : TI) (J : TJ) (S : TS) (L : TL) (p0 : Int32) (p1 : Int32) (p2 : Int32) (p3 : Int32) (Φ : TI → TJ → TS → TL → Prop) (h : wp_X6_put_O n0 n1 I J S L p0 p1 p2 p3 Φ) : Met l yX6_put wsX6_put rmX6_put (va_Pc [.ref (a 0), .int p0, .int p1, .int p2, .int p3] (gpre dC dI (wO a cy n0 n1 I J S L) (tyL cy) sz)) (gQv dC dI (wO a cy n0 n1) (tyL cy) (va_A (wO a cy n0 n1 I J S L) sz) Φ) 0 0 (va_A (wO a cy n0 n1 I J S L) sz) :=
  met_cons_v (Wd := wL a cy n0 n1) (c_X6_put l dC dI a cy n0 n1 sz I J S L p0 p1 p2 p3 _ h) (wO_cons a cy n0 n1 (S 0))
def wp_X6_setAt (n0 n1 : Nat) (I : TI) (J : TJ) (S : TS) (L : TL) (p0 : Int32) (p1 : Int32) (Φ : Int32 → TI → TJ → TS → TL → Prop) : Prop := ∀ x_1 : Int32, x_1 = (p0 * (6 : Int32)) → (∃ V_2 : Nat → TI → TJ → TS → TL → Int32 → Int32 → Prop, (∃ n_4, V_2 n_4 I J S L x_1 (1 : Int32)) ∧ ∀ (n_3 : Nat) (I_5 : TI) (J_6 : TJ) (S_7 : TS) (L_8 : TL) (x_9 : Int32) (x_10 : Int32), V_2 n_3 I_5 J_6 S_7 L_8 x_9 x_10 → ((vp_in p0 12) ∧ ((((I_5 1 (p0).toNatClampNeg) ≤ x_10) → (Φ x_9 I_5 J_6 S_7 L_8)) ∧ ((¬ (I_5 1 (p0).toNatClampNeg) ≤ x_10) → ((vp_in ((p0 * (6 : Int32)) + x_10) 72) ∧ (∃ B_11 : TI → TJ → TS → TL → Int32 → Int32 → Prop, (∀ (I_12 : TI) (J_13 : TJ) (S_14 : TS) (L_15 : TL) (x_16 : Int32) (x_17 : Int32), B_11 I_12 J_13 S_14 L_15 x_16 x_17 → (∀ x_18 : Int32, x_18 = x_17 + 1 → (∃ n_19, n_19 < n_3 ∧ V_2 n_19 I_12 J_13 S_14 L_15 x_16 x_18))) ∧ (((p1 < (I_5 2 (((p0 * (6 : Int32)) + x_10)).toNatClampNeg)) → (B_11 I_5 J_6 S_7 L_8 x_9 x_10)) ∧ ((¬ p1 < (I_5 2 (((p0 * (6 : Int32)) + x_10)).toNatClampNeg)) → (∀ x_20 : Int32, x_20 = ((p0 * (6 : Int32)) + x_10) → (B_11 I_5 J_6 S_7 L_8 x_20 x_10))))))))))
theorem nX6_setAt_X6 : ∀ w ∈ wsX60, w ∈ wsX6_setAt := fun _ h => List.mem_cons_of_mem _ (List.mem_append_right _ h)
theorem kX6_setAt_2 : Cond.fieldLink RX6 15 "SongOffice$ShareBook" "days" "[I" ∈ wsX6_setAt := List.mem_of_getElem? (i := 2) rfl
theorem kX6_setAt_1 : Cond.fieldLink RX6 9 "SongOffice$ShareBook" "sets" "[I" ∈ wsX6_setAt := List.mem_of_getElem? (i := 1) rfl
abbrev rmX6_setAt : Room := { frames := 0, cells := 0, slots := 0, locals := 0 }
set_option maxHeartbeats 4000000 in
set_option maxRecDepth 100000 in
theorem c_X6_setAt (l : Launch) (dC : Nat → ClassId) (dI : Nat → Nat → Nat) (a : Nat → Nat) (cy : Nat → ClassId) (n0 n1 : Nat) (sz : Nat) (I : TI) (J : TJ) (S : TS) (L : TL) (p0 : Int32) (p1 : Int32) (Φ : Int32 → TI → TJ → TS → TL → Prop) (h : wp_X6_setAt n0 n1 I J S L p0 p1 Φ) : Met l yX6_setAt wsX6_setAt rmX6_setAt (va_Pc [.ref (a 0), .int p0, .int p1] (gpre dC dI (wL a cy n0 n1 I J S L) (tyL cy) sz)) (gQi dC dI (wL a cy n0 n1) (tyL cy) (va_A (wL a cy n0 n1 I J S L) sz) Φ) 0 0 (va_A (wL a cy n0 n1 I J S L) sz) := by
  refine Met.ofW (cc := cX6_setAt) (maxL := 5) (ret := (some .int)) (by decide) rfl ?_
  intro p e s m args below meth c s₁ B hml hv
  obtain ⟨hargs, hsz, hP, hK, hD0, hN⟩ := hv
  have hx := B.exec
  have hb := B.bytes
  have hr := B.returns
  have hts := atoms_spec (ws := wsX6_setAt) B.pre
  have hown : s.vm.findClass RX6 = some m.cls := findClass_of_methodNamed B.named
  have hlocks := B.notSynchronized
  subst hsz
  have hD := hD0.self (sz := s.heap.size)
  generalize hAe : va_A (wL a cy n0 n1 I J S L) s.heap.size = A at hD ⊢
  have hA : ∀ q : Nat, s.heap.size ≤ q → A q := fun q h => by rw [← hAe]; exact Or.inr h
  obtain ⟨H, hH⟩ : ∃ z : Heap, z = s.heap := ⟨_, rfl⟩
  rw [← hH] at hP
  have hS : va_S A s.heap H [] := by rw [hH]; exact va_S.rf
  have hl := lv_entry ([.ref (a 0), .int p0, .int p1]) (n := 5) (Nat.le_of_ble_eq_true rfl)
  have hE : entryFrame m args 5 = F0 m 0 ((lg_sl ([.ref (a 0), .int p0, .int p1]) ++ List.replicate (5 - (lg_sl ([.ref (a 0), .int p0, .int p1])).length) Slot.unset).toArray) [] := by rw [hargs]; exact lg_entry_eq m _ _
  rw [hE, ← hH]
  clear hE
  generalize (lg_sl ([.ref (a 0), .int p0, .int p1]) ++ List.replicate (5 - (lg_sl ([.ref (a 0), .int p0, .int p1])).length) Slot.unset).toArray = ls at hl ⊢
  have hl : lv_has ls 5 [(0, .ref (a 0)), (1, .int p0), (2, .int p1)] := hl
  unfold wp_X6_setAt at h
  refine lv_iload_n hx hb dX6_setAt_0 rfl (lv_at hl 1 rfl) ?_
  refine lv_bipush (v := 6) hx hb dX6_setAt_1 (by decide) ?_
  refine lv_imul hx hb dX6_setAt_3 ?_
  refine lv_topi (fun x_1 ex_1 => ?_)
  have h := h x_1 ex_1
  refine lv_istore_n (lv' := [(3, .int x_1), (0, .ref (a 0)), (1, .int p0), (2, .int p1)]) hx hb dX6_setAt_4 rfl hl (by decide) rfl (fun ls hl => ?_)
  refine lv_iconst (v := 1) hx hb dX6_setAt_5 (by decide) ?_
  refine lv_istore (lv' := [(4, .int (1 : Int32)), (3, .int x_1), (0, .ref (a 0)), (1, .int p0), (2, .int p1)]) hx hb dX6_setAt_6 hl (by decide) rfl (fun ls hl => ?_)
  obtain ⟨V_2, ⟨n_4, h0V_2⟩, hV_2⟩ := h
  have lV_2 : ∀ (n_3 : Nat) (I_5 : TI) (J_6 : TJ) (S_7 : TS) (L_8 : TL) (x_9 : Int32) (x_10 : Int32) (H : Heap) (locs : List Loc) (ls : Array Slot), va_P (dC, dI) vwCl (wL a cy n0 n1 I_5 J_6 S_7 L_8) H → va_D A (wL a cy n0 n1 I_5 J_6 S_7 L_8) → va_S A s.heap H locs → lv_has ls 5 [(0, .ref (a 0)), (1, .int p0), (2, .int p1), (3, .int x_9), (4, .int x_10)] → V_2 n_3 I_5 J_6 S_7 L_8 x_9 x_10 → W p l e (headSpec wsX6_setAt rmX6_setAt).room s m args below meth c H locs 0 0 (MQ below (gQi dC dI (wL a cy n0 n1) (tyL cy) A Φ) args s 0 0 A) (F0 m 8 ls []) := by
    intro n_3
    induction n_3 using Nat.strongRecOn with
    | ind n_3 ihV_2 =>
        intro I_5 J_6 S_7 L_8 x_9 x_10 H locs ls hP hD hS hl h
        have h := hV_2 n_3 I_5 J_6 S_7 L_8 x_9 x_10 h
        refine lv_iload hx hb dX6_setAt_8 (lv_at hl 4 rfl) ?_
        refine lv_aload_n hx hb dX6_setAt_10 rfl (lv_at hl 0 rfl) ?_
        refine va_get (D := (dC, dI)) (ci := 6) (v := .ref (a 1)) (C := RX6) (T := TX6) (N := 4) hx hb hts nX6_setAt_X6 hown hK hP 0 (wL_at0 _ _ _ _ _ _ _ _) rfl 0 (by decide) (hts (.fieldLink RX6 9 "SongOffice$ShareBook" "sets" "[I") kX6_setAt_1) (fun _ h9 => h9) rfl dX6_setAt_11 ?_
        refine lv_iload_n hx hb dX6_setAt_14 rfl (lv_at hl 1 rfl) ?_
        obtain ⟨hi, h⟩ := h
        refine va_iald hx hb hK hP 1 0 (wL_at1 _ _ _ _ _ _ _ _) rfl hi dX6_setAt_15 ?_
        refine lv_icmp_ge (tgt := 49) hx hb dX6_setAt_16 (by decide) (fun hc => ?_) (fun hc => ?_)
        · have h := h.1 hc
          refine lv_iload_n hx hb dX6_setAt_49 rfl (lv_at hl 3 rfl) ?_
          exact gri hx hb hr hlocks hP hK hD hS h dX6_setAt_50
        · have h := h.2 hc
          refine lv_aload_n hx hb dX6_setAt_19 rfl (lv_at hl 0 rfl) ?_
          refine va_get (D := (dC, dI)) (ci := 6) (v := .ref (a 2)) (C := RX6) (T := TX6) (N := 4) hx hb hts nX6_setAt_X6 hown hK hP 0 (wL_at0 _ _ _ _ _ _ _ _) rfl 1 (by decide) (hts (.fieldLink RX6 15 "SongOffice$ShareBook" "days" "[I") kX6_setAt_2) (fun _ h9 => h9) rfl dX6_setAt_20 ?_
          refine lv_iload_n hx hb dX6_setAt_23 rfl (lv_at hl 1 rfl) ?_
          refine lv_bipush (v := 6) hx hb dX6_setAt_24 (by decide) ?_
          refine lv_imul hx hb dX6_setAt_26 ?_
          refine lv_iload hx hb dX6_setAt_27 (lv_at hl 4 rfl) ?_
          refine lv_iadd hx hb dX6_setAt_29 ?_
          obtain ⟨hi, h⟩ := h
          refine va_iald hx hb hK hP 2 1 (wL_at2 _ _ _ _ _ _ _ _) rfl hi dX6_setAt_30 ?_
          refine lv_iload_n hx hb dX6_setAt_31 rfl (lv_at hl 2 rfl) ?_
          obtain ⟨B_11, hB_11, h⟩ := h
          have jB_11 : ∀ (I_12 : TI) (J_13 : TJ) (S_14 : TS) (L_15 : TL) (x_16 : Int32) (x_17 : Int32) (H : Heap) (locs : List Loc) (ls : Array Slot), va_P (dC, dI) vwCl (wL a cy n0 n1 I_12 J_13 S_14 L_15) H → va_D A (wL a cy n0 n1 I_12 J_13 S_14 L_15) → va_S A s.heap H locs → lv_has ls 5 [(0, .ref (a 0)), (1, .int p0), (2, .int p1), (3, .int x_16), (4, .int x_17)] → B_11 I_12 J_13 S_14 L_15 x_16 x_17 → W p l e (headSpec wsX6_setAt rmX6_setAt).room s m args below meth c H locs 0 0 (MQ below (gQi dC dI (wL a cy n0 n1) (tyL cy) A Φ) args s 0 0 A) (F0 m 43 ls []) := by
            intro I_12 J_13 S_14 L_15 x_16 x_17 H locs ls hP hD hS hl h
            have h := hB_11 I_12 J_13 S_14 L_15 x_16 x_17 h
            obtain ⟨x_18, ex_18⟩ : ∃ z : Int32, z = x_17 + 1 := ⟨_, rfl⟩
            have h := h x_18 ex_18
            refine lv_iinc (v := x_18) (lv' := [(4, .int x_18), (0, .ref (a 0)), (1, .int p0), (2, .int p1), (3, .int x_16)]) hx hb dX6_setAt_43 hl (k := 4) rfl (by rw [ex_18]; rfl) (by decide) rfl (fun ls hl => ?_)
            refine lv_goto (tgt := 8) hx hb dX6_setAt_46 (by decide) ?_
            obtain ⟨n_19, hn2, h⟩ := h
            exact ihV_2 n_19 hn2 I_12 J_13 S_14 L_15 x_16 x_18 _ _ _ hP hD hS (lv_sub hl [1, 2, 3, 4, 0] rfl) h
          refine lv_icmp_gt (tgt := 43) hx hb dX6_setAt_32 (by decide) (fun hc => ?_) (fun hc => ?_)
          · have h := h.1 hc
            exact jB_11 I_5 J_6 S_7 L_8 x_9 x_10 _ _ _ hP hD hS (lv_sub hl [0, 1, 2, 3, 4] rfl) h
          · have h := h.2 hc
            refine lv_iload_n hx hb dX6_setAt_35 rfl (lv_at hl 1 rfl) ?_
            refine lv_bipush (v := 6) hx hb dX6_setAt_36 (by decide) ?_
            refine lv_imul hx hb dX6_setAt_38 ?_
            refine lv_iload hx hb dX6_setAt_39 (lv_at hl 4 rfl) ?_
            refine lv_iadd hx hb dX6_setAt_41 ?_
            refine lv_topi (fun x_20 ex_20 => ?_)
            have h := h x_20 ex_20
            refine lv_istore_n (lv' := [(3, .int x_20), (0, .ref (a 0)), (1, .int p0), (2, .int p1), (4, .int x_10)]) hx hb dX6_setAt_42 rfl hl (by decide) rfl (fun ls hl => ?_)
            exact jB_11 I_5 J_6 S_7 L_8 x_20 x_10 _ _ _ hP hD hS (lv_sub hl [1, 2, 3, 0, 4] rfl) h
  exact lV_2 n_4 I J S L x_1 (1 : Int32) _ _ _ hP hD hS (lv_sub hl [2, 3, 4, 1, 0] rfl) h0V_2
def wp_X0_add (n0 n1 : Nat) (I : TI) (J : TJ) (S : TS) (L : TL) (p0 : Int32) (p1 : Int32) (p2 : Int32) (p3 : Int32) (Φ : Int32 → TI → TJ → TS → TL → Prop) : Prop := ∀ x_1 : Int32, x_1 = (S 1) → ((vp_in x_1 24) ∧ ∀ I_2 : TI, I_2 = va_up I 6 (upd (I 6) (x_1).toNatClampNeg p0) → ((vp_in x_1 24) ∧ ∀ I_3 : TI, I_3 = va_up I_2 7 (upd (I_2 7) (x_1).toNatClampNeg p1) → ((vp_in x_1 24) ∧ ∀ I_4 : TI, I_4 = va_up I_3 8 (upd (I_3 8) (x_1).toNatClampNeg p2) → ((vp_in x_1 24) ∧ ∀ I_5 : TI, I_5 = va_up I_4 9 (upd (I_4 9) (x_1).toNatClampNeg p3) → (∀ S_6 : TS, S_6 = va_up S 1 ((S 1) + (1 : Int32)) → (Φ x_1 I_5 J S_6 L))))))
theorem nX0_add_X0 : ∀ w ∈ wsX00, w ∈ wsX0_add := fun _ h => List.mem_cons_of_mem _ (List.mem_append_right _ h)
theorem kX0_add_1 : Cond.fieldLink RX0 36 "SongOffice$BargainBook" "size" "I" ∈ wsX0_add := List.mem_of_getElem? (i := 1) rfl
theorem kX0_add_5 : Cond.fieldLink RX0 21 "SongOffice$BargainBook" "days" "[I" ∈ wsX0_add := List.mem_of_getElem? (i := 5) rfl
theorem kX0_add_4 : Cond.fieldLink RX0 18 "SongOffice$BargainBook" "works" "[I" ∈ wsX0_add := List.mem_of_getElem? (i := 4) rfl
theorem kX0_add_3 : Cond.fieldLink RX0 15 "SongOffice$BargainBook" "hands" "[I" ∈ wsX0_add := List.mem_of_getElem? (i := 3) rfl
theorem kX0_add_2 : Cond.fieldLink RX0 9 "SongOffice$BargainBook" "kinds" "[I" ∈ wsX0_add := List.mem_of_getElem? (i := 2) rfl
abbrev rmX0_add : Room := { frames := 0, cells := 0, slots := 0, locals := 0 }
set_option maxHeartbeats 4000000 in
set_option maxRecDepth 100000 in
theorem c_X0_add (l : Launch) (dC : Nat → ClassId) (dI : Nat → Nat → Nat) (a : Nat → Nat) (cy : Nat → ClassId) (n0 n1 : Nat) (sz : Nat) (I : TI) (J : TJ) (S : TS) (L : TL) (p0 : Int32) (p1 : Int32) (p2 : Int32) (p3 : Int32) (Φ : Int32 → TI → TJ → TS → TL → Prop) (h : wp_X0_add n0 n1 I J S L p0 p1 p2 p3 Φ) : Met l yX0_add wsX0_add rmX0_add (va_Pc [.ref (a 5), .int p0, .int p1, .int p2, .int p3] (gpre dC dI (wL a cy n0 n1 I J S L) (tyL cy) sz)) (gQi dC dI (wL a cy n0 n1) (tyL cy) (va_A (wL a cy n0 n1 I J S L) sz) Φ) 0 0 (va_A (wL a cy n0 n1 I J S L) sz) := by
  refine Met.ofW (cc := cX0_add) (maxL := 6) (ret := (some .int)) (by decide) rfl ?_
  intro p e s m args below meth c s₁ B hml hv
  obtain ⟨hargs, hsz, hP, hK, hD0, hN⟩ := hv
  have hx := B.exec
  have hb := B.bytes
  have hr := B.returns
  have hts := atoms_spec (ws := wsX0_add) B.pre
  have hown : s.vm.findClass RX0 = some m.cls := findClass_of_methodNamed B.named
  have hlocks := B.notSynchronized
  subst hsz
  have hD := hD0.self (sz := s.heap.size)
  generalize hAe : va_A (wL a cy n0 n1 I J S L) s.heap.size = A at hD ⊢
  have hA : ∀ q : Nat, s.heap.size ≤ q → A q := fun q h => by rw [← hAe]; exact Or.inr h
  obtain ⟨H, hH⟩ : ∃ z : Heap, z = s.heap := ⟨_, rfl⟩
  rw [← hH] at hP
  have hS : va_S A s.heap H [] := by rw [hH]; exact va_S.rf
  have hl := lv_entry ([.ref (a 5), .int p0, .int p1, .int p2, .int p3]) (n := 6) (Nat.le_of_ble_eq_true rfl)
  have hE : entryFrame m args 6 = F0 m 0 ((lg_sl ([.ref (a 5), .int p0, .int p1, .int p2, .int p3]) ++ List.replicate (6 - (lg_sl ([.ref (a 5), .int p0, .int p1, .int p2, .int p3])).length) Slot.unset).toArray) [] := by rw [hargs]; exact lg_entry_eq m _ _
  rw [hE, ← hH]
  clear hE
  generalize (lg_sl ([.ref (a 5), .int p0, .int p1, .int p2, .int p3]) ++ List.replicate (6 - (lg_sl ([.ref (a 5), .int p0, .int p1, .int p2, .int p3])).length) Slot.unset).toArray = ls at hl ⊢
  have hl : lv_has ls 6 [(0, .ref (a 5)), (1, .int p0), (2, .int p1), (3, .int p2), (4, .int p3)] := hl
  unfold wp_X0_add at h
  refine lv_aload_n hx hb dX0_add_0 rfl (lv_at hl 0 rfl) ?_
  refine va_get (D := (dC, dI)) (ci := 0) (v := .int (S 1)) (C := RX0) (T := TX0) (N := 9) hx hb hts nX0_add_X0 hown hK hP 5 (wL_at5 _ _ _ _ _ _ _ _) rfl 8 (by decide) (hts (.fieldLink RX0 36 "SongOffice$BargainBook" "size" "I") kX0_add_1) (fun _ h9 => h9) rfl dX0_add_1 ?_
  refine lv_topi (fun x_1 ex_1 => ?_)
  have h := h x_1 ex_1
  refine lv_istore (lv' := [(5, .int x_1), (0, .ref (a 5)), (1, .int p0), (2, .int p1), (3, .int p2), (4, .int p3)]) hx hb dX0_add_4 hl (by decide) rfl (fun ls hl => ?_)
  refine lv_aload_n hx hb dX0_add_6 rfl (lv_at hl 1 rfl) ?_
  refine va_get (D := (dC, dI)) (ci := 0) (v := .ref (a 6)) (C := RX0) (T := TX0) (N := 9) hx hb hts nX0_add_X0 hown hK hP 5 (wL_at5 _ _ _ _ _ _ _ _) rfl 0 (by decide) (hts (.fieldLink RX0 9 "SongOffice$BargainBook" "kinds" "[I") kX0_add_2) (fun _ h9 => h9) rfl dX0_add_7 ?_
  refine lv_iload hx hb dX0_add_10 (lv_at hl 0 rfl) ?_
  refine lv_iload_n hx hb dX0_add_12 rfl (lv_at hl 2 rfl) ?_
  obtain ⟨hi, h⟩ := h
  obtain ⟨I_2, eI_2⟩ : ∃ z : TI, z = va_up I 6 (upd (I 6) (x_1).toNatClampNeg p0) := ⟨_, rfl⟩
  have h := h I_2 eI_2
  refine va_iast hx hb hK hP hD hS 6 4 (wL_at6 _ _ _ _ _ _ _ _) rfl hi dX0_add_13 (fun H locs hP hD hS => ?_)
  have hP : va_P (dC, dI) vwCl (wL a cy n0 n1 I_2 J S L) H := by rw [eI_2]; exact setP hP (wL_set6 _ _ _ _ _ _ _ _ _)
  have hD : va_D A (wL a cy n0 n1 I_2 J S L) := by rw [eI_2]; exact setD hD (wL_set6 _ _ _ _ _ _ _ _ _)
  refine lv_aload_n hx hb dX0_add_14 rfl (lv_at hl 1 rfl) ?_
  refine va_get (D := (dC, dI)) (ci := 0) (v := .ref (a 7)) (C := RX0) (T := TX0) (N := 9) hx hb hts nX0_add_X0 hown hK hP 5 (wL_at5 _ _ _ _ _ _ _ _) rfl 1 (by decide) (hts (.fieldLink RX0 15 "SongOffice$BargainBook" "hands" "[I") kX0_add_3) (fun _ h9 => h9) rfl dX0_add_15 ?_
  refine lv_iload hx hb dX0_add_18 (lv_at hl 0 rfl) ?_
  refine lv_iload_n hx hb dX0_add_20 rfl (lv_at hl 3 rfl) ?_
  obtain ⟨hi, h⟩ := h
  obtain ⟨I_3, eI_3⟩ : ∃ z : TI, z = va_up I_2 7 (upd (I_2 7) (x_1).toNatClampNeg p1) := ⟨_, rfl⟩
  have h := h I_3 eI_3
  refine va_iast hx hb hK hP hD hS 7 5 (wL_at7 _ _ _ _ _ _ _ _) rfl hi dX0_add_21 (fun H locs hP hD hS => ?_)
  have hP : va_P (dC, dI) vwCl (wL a cy n0 n1 I_3 J S L) H := by rw [eI_3]; exact setP hP (wL_set7 _ _ _ _ _ _ _ _ _)
  have hD : va_D A (wL a cy n0 n1 I_3 J S L) := by rw [eI_3]; exact setD hD (wL_set7 _ _ _ _ _ _ _ _ _)
  refine lv_aload_n hx hb dX0_add_22 rfl (lv_at hl 1 rfl) ?_
  refine va_get (D := (dC, dI)) (ci := 0) (v := .ref (a 8)) (C := RX0) (T := TX0) (N := 9) hx hb hts nX0_add_X0 hown hK hP 5 (wL_at5 _ _ _ _ _ _ _ _) rfl 2 (by decide) (hts (.fieldLink RX0 18 "SongOffice$BargainBook" "works" "[I") kX0_add_4) (fun _ h9 => h9) rfl dX0_add_23 ?_
  refine lv_iload hx hb dX0_add_26 (lv_at hl 0 rfl) ?_
  refine lv_iload_n hx hb dX0_add_28 rfl (lv_at hl 4 rfl) ?_
  obtain ⟨hi, h⟩ := h
  obtain ⟨I_4, eI_4⟩ : ∃ z : TI, z = va_up I_3 8 (upd (I_3 8) (x_1).toNatClampNeg p2) := ⟨_, rfl⟩
  have h := h I_4 eI_4
  refine va_iast hx hb hK hP hD hS 8 6 (wL_at8 _ _ _ _ _ _ _ _) rfl hi dX0_add_29 (fun H locs hP hD hS => ?_)
  have hP : va_P (dC, dI) vwCl (wL a cy n0 n1 I_4 J S L) H := by rw [eI_4]; exact setP hP (wL_set8 _ _ _ _ _ _ _ _ _)
  have hD : va_D A (wL a cy n0 n1 I_4 J S L) := by rw [eI_4]; exact setD hD (wL_set8 _ _ _ _ _ _ _ _ _)
  refine lv_aload_n hx hb dX0_add_30 rfl (lv_at hl 1 rfl) ?_
  refine va_get (D := (dC, dI)) (ci := 0) (v := .ref (a 9)) (C := RX0) (T := TX0) (N := 9) hx hb hts nX0_add_X0 hown hK hP 5 (wL_at5 _ _ _ _ _ _ _ _) rfl 3 (by decide) (hts (.fieldLink RX0 21 "SongOffice$BargainBook" "days" "[I") kX0_add_5) (fun _ h9 => h9) rfl dX0_add_31 ?_
  refine lv_iload hx hb dX0_add_34 (lv_at hl 0 rfl) ?_
  refine lv_iload hx hb dX0_add_36 (lv_at hl 5 rfl) ?_
  obtain ⟨hi, h⟩ := h
  obtain ⟨I_5, eI_5⟩ : ∃ z : TI, z = va_up I_4 9 (upd (I_4 9) (x_1).toNatClampNeg p3) := ⟨_, rfl⟩
  have h := h I_5 eI_5
  refine va_iast hx hb hK hP hD hS 9 7 (wL_at9 _ _ _ _ _ _ _ _) rfl hi dX0_add_38 (fun H locs hP hD hS => ?_)
  have hP : va_P (dC, dI) vwCl (wL a cy n0 n1 I_5 J S L) H := by rw [eI_5]; exact setP hP (wL_set9 _ _ _ _ _ _ _ _ _)
  have hD : va_D A (wL a cy n0 n1 I_5 J S L) := by rw [eI_5]; exact setD hD (wL_set9 _ _ _ _ _ _ _ _ _)
  refine lv_aload_n hx hb dX0_add_39 rfl (lv_at hl 1 rfl) ?_
  refine lv_dup hx hb dX0_add_40 rfl ?_
  refine va_get (D := (dC, dI)) (ci := 0) (v := .int (S 1)) (C := RX0) (T := TX0) (N := 9) hx hb hts nX0_add_X0 hown hK hP 5 (wL_at5 _ _ _ _ _ _ _ _) rfl 8 (by decide) (hts (.fieldLink RX0 36 "SongOffice$BargainBook" "size" "I") kX0_add_1) (fun _ h9 => h9) rfl dX0_add_41 ?_
  refine lv_iconst (v := 1) hx hb dX0_add_44 (by decide) ?_
  refine lv_iadd hx hb dX0_add_45 ?_
  obtain ⟨S_6, eS_6⟩ : ∃ z : TS, z = va_up S 1 ((S 1) + (1 : Int32)) := ⟨_, rfl⟩
  have h := h S_6 eS_6
  refine va_put (D := (dC, dI)) (ci := 0) (v := .int ((S 1) + (1 : Int32))) (ty := .int) (C := RX0) (T := TX0) (N := 9) hx hb hts nX0_add_X0 tyX0 tyX0_ok nmX0 hown hK hP hD hS 5 (wL_at5 _ _ _ _ _ _ _ _) rfl 8 (by decide) (hts (.fieldLink RX0 36 "SongOffice$BargainBook" "size" "I") kX0_add_1) (fun _ h9 => h9) rfl (by decide +kernel) rfl rfl (Nat.le_of_ble_eq_true rfl) dX0_add_46 (fun H locs hP hD hS => ?_)
  have hP : va_P (dC, dI) vwCl (wL a cy n0 n1 I_5 J S_6 L) H := by rw [eS_6]; exact setP hP (wL_setS1 _ _ _ _ _ _ _ _ _)
  have hD : va_D A (wL a cy n0 n1 I_5 J S_6 L) := by rw [eS_6]; exact setD hD (wL_setS1 _ _ _ _ _ _ _ _ _)
  refine lv_iload hx hb dX0_add_49 (lv_at hl 0 rfl) ?_
  exact gri hx hb hr hlocks hP hK hD hS h dX0_add_51
def wp_X0_add_O (n0 n1 : Nat) (I : TI) (J : TJ) (S : TS) (L : TL) (p0 : Int32) (p1 : Int32) (p2 : Int32) (p3 : Int32) (Φ : Int32 → TI → TJ → TS → TL → Prop) : Prop := wp_X0_add n0 n1 I J S L p0 p1 p2 p3 (fun r I1 J1 S1 L1 => Φ r I1 J1 (va_up S1 0 (S 0)) L1)
set_option maxHeartbeats 1000000 in
theorem c_X0_add_O (l : Launch) (dC : Nat → ClassId) (dI : Nat → Nat → Nat) (a : Nat → Nat) (cy : Nat → ClassId) (n0 n1 : Nat) (sz : Nat) (I : TI) (J : TJ) (S : TS) (L : TL) (p0 : Int32) (p1 : Int32) (p2 : Int32) (p3 : Int32) (Φ : Int32 → TI → TJ → TS → TL → Prop) (h : wp_X0_add_O n0 n1 I J S L p0 p1 p2 p3 Φ) : Met l yX0_add wsX0_add rmX0_add (va_Pc [.ref (a 5), .int p0, .int p1, .int p2, .int p3] (gpre dC dI (wO a cy n0 n1 I J S L) (tyL cy) sz)) (gQi dC dI (wO a cy n0 n1) (tyL cy) (va_A (wO a cy n0 n1 I J S L) sz) Φ) 0 0 (va_A (wO a cy n0 n1 I J S L) sz) :=
  met_cons_i (Wd := wL a cy n0 n1) (c_X0_add l dC dI a cy n0 n1 sz I J S L p0 p1 p2 p3 _ h) (wO_cons a cy n0 n1 (S 0))
def wp_X0_agree (n0 n1 : Nat) (I : TI) (J : TJ) (S : TS) (L : TL) (p0 : Int32) (p1 : Int32) (p2 : Int32) (p3 : Int32) (p4 : Int32) (Φ : TI → TJ → TS → TL → Prop) : Prop := (vp_in p0 24) ∧ ∀ I_1 : TI, I_1 = va_up I 10 (upd (I 10) (p0).toNatClampNeg p1) → ((vp_in p0 24) ∧ ∀ I_2 : TI, I_2 = va_up I_1 11 (upd (I_1 11) (p0).toNatClampNeg p2) → ((vp_in p0 24) ∧ ∀ I_3 : TI, I_3 = va_up I_2 12 (upd (I_2 12) (p0).toNatClampNeg p3) → ((vp_in p0 24) ∧ ∀ I_4 : TI, I_4 = va_up I_3 13 (upd (I_3 13) (p0).toNatClampNeg p4) → (Φ I_4 J S L))))
theorem nX0_agree_X0 : ∀ w ∈ wsX00, w ∈ wsX0_agree := fun _ h => List.mem_cons_of_mem _ (List.mem_append_right _ h)
theorem kX0_agree_4 : Cond.fieldLink RX0 33 "SongOffice$BargainBook" "takers" "[I" ∈ wsX0_agree := List.mem_of_getElem? (i := 4) rfl
theorem kX0_agree_3 : Cond.fieldLink RX0 30 "SongOffice$BargainBook" "z" "[I" ∈ wsX0_agree := List.mem_of_getElem? (i := 3) rfl
theorem kX0_agree_2 : Cond.fieldLink RX0 27 "SongOffice$BargainBook" "y" "[I" ∈ wsX0_agree := List.mem_of_getElem? (i := 2) rfl
theorem kX0_agree_1 : Cond.fieldLink RX0 24 "SongOffice$BargainBook" "x" "[I" ∈ wsX0_agree := List.mem_of_getElem? (i := 1) rfl
abbrev rmX0_agree : Room := { frames := 0, cells := 0, slots := 0, locals := 0 }
set_option maxHeartbeats 4000000 in
set_option maxRecDepth 100000 in
theorem c_X0_agree (l : Launch) (dC : Nat → ClassId) (dI : Nat → Nat → Nat) (a : Nat → Nat) (cy : Nat → ClassId) (n0 n1 : Nat) (sz : Nat) (I : TI) (J : TJ) (S : TS) (L : TL) (p0 : Int32) (p1 : Int32) (p2 : Int32) (p3 : Int32) (p4 : Int32) (Φ : TI → TJ → TS → TL → Prop) (h : wp_X0_agree n0 n1 I J S L p0 p1 p2 p3 p4 Φ) : Met l yX0_agree wsX0_agree rmX0_agree (va_Pc [.ref (a 5), .int p0, .int p1, .int p2, .int p3, .int p4] (gpre dC dI (wL a cy n0 n1 I J S L) (tyL cy) sz)) (gQv dC dI (wL a cy n0 n1) (tyL cy) (va_A (wL a cy n0 n1 I J S L) sz) Φ) 0 0 (va_A (wL a cy n0 n1 I J S L) sz) := by
  refine Met.ofW (cc := cX0_agree) (maxL := 6) (ret := none) (by decide) rfl ?_
  intro p e s m args below meth c s₁ B hml hv
  obtain ⟨hargs, hsz, hP, hK, hD0, hN⟩ := hv
  have hx := B.exec
  have hb := B.bytes
  have hr := B.returns
  have hts := atoms_spec (ws := wsX0_agree) B.pre
  have hown : s.vm.findClass RX0 = some m.cls := findClass_of_methodNamed B.named
  have hlocks := B.notSynchronized
  subst hsz
  have hD := hD0.self (sz := s.heap.size)
  generalize hAe : va_A (wL a cy n0 n1 I J S L) s.heap.size = A at hD ⊢
  have hA : ∀ q : Nat, s.heap.size ≤ q → A q := fun q h => by rw [← hAe]; exact Or.inr h
  obtain ⟨H, hH⟩ : ∃ z : Heap, z = s.heap := ⟨_, rfl⟩
  rw [← hH] at hP
  have hS : va_S A s.heap H [] := by rw [hH]; exact va_S.rf
  have hl := lv_entry ([.ref (a 5), .int p0, .int p1, .int p2, .int p3, .int p4]) (n := 6) (Nat.le_of_ble_eq_true rfl)
  have hE : entryFrame m args 6 = F0 m 0 ((lg_sl ([.ref (a 5), .int p0, .int p1, .int p2, .int p3, .int p4]) ++ List.replicate (6 - (lg_sl ([.ref (a 5), .int p0, .int p1, .int p2, .int p3, .int p4])).length) Slot.unset).toArray) [] := by rw [hargs]; exact lg_entry_eq m _ _
  rw [hE, ← hH]
  clear hE
  generalize (lg_sl ([.ref (a 5), .int p0, .int p1, .int p2, .int p3, .int p4]) ++ List.replicate (6 - (lg_sl ([.ref (a 5), .int p0, .int p1, .int p2, .int p3, .int p4])).length) Slot.unset).toArray = ls at hl ⊢
  have hl : lv_has ls 6 [(0, .ref (a 5)), (1, .int p0), (2, .int p1), (3, .int p2), (4, .int p3), (5, .int p4)] := hl
  unfold wp_X0_agree at h
  refine lv_aload_n hx hb dX0_agree_0 rfl (lv_at hl 0 rfl) ?_
  refine va_get (D := (dC, dI)) (ci := 0) (v := .ref (a 10)) (C := RX0) (T := TX0) (N := 9) hx hb hts nX0_agree_X0 hown hK hP 5 (wL_at5 _ _ _ _ _ _ _ _) rfl 4 (by decide) (hts (.fieldLink RX0 24 "SongOffice$BargainBook" "x" "[I") kX0_agree_1) (fun _ h9 => h9) rfl dX0_agree_1 ?_
  refine lv_iload_n hx hb dX0_agree_4 rfl (lv_at hl 1 rfl) ?_
  refine lv_iload_n hx hb dX0_agree_5 rfl (lv_at hl 2 rfl) ?_
  obtain ⟨hi, h⟩ := h
  obtain ⟨I_1, eI_1⟩ : ∃ z : TI, z = va_up I 10 (upd (I 10) (p0).toNatClampNeg p1) := ⟨_, rfl⟩
  have h := h I_1 eI_1
  refine va_iast hx hb hK hP hD hS 10 8 (wL_at10 _ _ _ _ _ _ _ _) rfl hi dX0_agree_6 (fun H locs hP hD hS => ?_)
  have hP : va_P (dC, dI) vwCl (wL a cy n0 n1 I_1 J S L) H := by rw [eI_1]; exact setP hP (wL_set10 _ _ _ _ _ _ _ _ _)
  have hD : va_D A (wL a cy n0 n1 I_1 J S L) := by rw [eI_1]; exact setD hD (wL_set10 _ _ _ _ _ _ _ _ _)
  refine lv_aload_n hx hb dX0_agree_7 rfl (lv_at hl 0 rfl) ?_
  refine va_get (D := (dC, dI)) (ci := 0) (v := .ref (a 11)) (C := RX0) (T := TX0) (N := 9) hx hb hts nX0_agree_X0 hown hK hP 5 (wL_at5 _ _ _ _ _ _ _ _) rfl 5 (by decide) (hts (.fieldLink RX0 27 "SongOffice$BargainBook" "y" "[I") kX0_agree_2) (fun _ h9 => h9) rfl dX0_agree_8 ?_
  refine lv_iload_n hx hb dX0_agree_11 rfl (lv_at hl 1 rfl) ?_
  refine lv_iload_n hx hb dX0_agree_12 rfl (lv_at hl 3 rfl) ?_
  obtain ⟨hi, h⟩ := h
  obtain ⟨I_2, eI_2⟩ : ∃ z : TI, z = va_up I_1 11 (upd (I_1 11) (p0).toNatClampNeg p2) := ⟨_, rfl⟩
  have h := h I_2 eI_2
  refine va_iast hx hb hK hP hD hS 11 9 (wL_at11 _ _ _ _ _ _ _ _) rfl hi dX0_agree_13 (fun H locs hP hD hS => ?_)
  have hP : va_P (dC, dI) vwCl (wL a cy n0 n1 I_2 J S L) H := by rw [eI_2]; exact setP hP (wL_set11 _ _ _ _ _ _ _ _ _)
  have hD : va_D A (wL a cy n0 n1 I_2 J S L) := by rw [eI_2]; exact setD hD (wL_set11 _ _ _ _ _ _ _ _ _)
  refine lv_aload_n hx hb dX0_agree_14 rfl (lv_at hl 0 rfl) ?_
  refine va_get (D := (dC, dI)) (ci := 0) (v := .ref (a 12)) (C := RX0) (T := TX0) (N := 9) hx hb hts nX0_agree_X0 hown hK hP 5 (wL_at5 _ _ _ _ _ _ _ _) rfl 6 (by decide) (hts (.fieldLink RX0 30 "SongOffice$BargainBook" "z" "[I") kX0_agree_3) (fun _ h9 => h9) rfl dX0_agree_15 ?_
  refine lv_iload_n hx hb dX0_agree_18 rfl (lv_at hl 1 rfl) ?_
  refine lv_iload hx hb dX0_agree_19 (lv_at hl 4 rfl) ?_
  obtain ⟨hi, h⟩ := h
  obtain ⟨I_3, eI_3⟩ : ∃ z : TI, z = va_up I_2 12 (upd (I_2 12) (p0).toNatClampNeg p3) := ⟨_, rfl⟩
  have h := h I_3 eI_3
  refine va_iast hx hb hK hP hD hS 12 10 (wL_at12 _ _ _ _ _ _ _ _) rfl hi dX0_agree_21 (fun H locs hP hD hS => ?_)
  have hP : va_P (dC, dI) vwCl (wL a cy n0 n1 I_3 J S L) H := by rw [eI_3]; exact setP hP (wL_set12 _ _ _ _ _ _ _ _ _)
  have hD : va_D A (wL a cy n0 n1 I_3 J S L) := by rw [eI_3]; exact setD hD (wL_set12 _ _ _ _ _ _ _ _ _)
  refine lv_aload_n hx hb dX0_agree_22 rfl (lv_at hl 0 rfl) ?_
  refine va_get (D := (dC, dI)) (ci := 0) (v := .ref (a 13)) (C := RX0) (T := TX0) (N := 9) hx hb hts nX0_agree_X0 hown hK hP 5 (wL_at5 _ _ _ _ _ _ _ _) rfl 7 (by decide) (hts (.fieldLink RX0 33 "SongOffice$BargainBook" "takers" "[I") kX0_agree_4) (fun _ h9 => h9) rfl dX0_agree_23 ?_
  refine lv_iload_n hx hb dX0_agree_26 rfl (lv_at hl 1 rfl) ?_
  refine lv_iload hx hb dX0_agree_27 (lv_at hl 5 rfl) ?_
  obtain ⟨hi, h⟩ := h
  obtain ⟨I_4, eI_4⟩ : ∃ z : TI, z = va_up I_3 13 (upd (I_3 13) (p0).toNatClampNeg p4) := ⟨_, rfl⟩
  have h := h I_4 eI_4
  refine va_iast hx hb hK hP hD hS 13 11 (wL_at13 _ _ _ _ _ _ _ _) rfl hi dX0_agree_29 (fun H locs hP hD hS => ?_)
  have hP : va_P (dC, dI) vwCl (wL a cy n0 n1 I_4 J S L) H := by rw [eI_4]; exact setP hP (wL_set13 _ _ _ _ _ _ _ _ _)
  have hD : va_D A (wL a cy n0 n1 I_4 J S L) := by rw [eI_4]; exact setD hD (wL_set13 _ _ _ _ _ _ _ _ _)
  exact grv hx hb hr hlocks hP hK hD hS h dX0_agree_30
def wp_X0_agree_O (n0 n1 : Nat) (I : TI) (J : TJ) (S : TS) (L : TL) (p0 : Int32) (p1 : Int32) (p2 : Int32) (p3 : Int32) (p4 : Int32) (Φ : TI → TJ → TS → TL → Prop) : Prop := wp_X0_agree n0 n1 I J S L p0 p1 p2 p3 p4 (fun I1 J1 S1 L1 => Φ I1 J1 (va_up S1 0 (S 0)) L1)
set_option maxHeartbeats 1000000 in
theorem c_X0_agree_O (l : Launch) (dC : Nat → ClassId) (dI : Nat → Nat → Nat) (a : Nat → Nat) (cy : Nat → ClassId) (n0 n1 : Nat) (sz : Nat) (I : TI) (J : TJ) (S : TS) (L : TL) (p0 : Int32) (p1 : Int32) (p2 : Int32) (p3 : Int32) (p4 : Int32) (Φ : TI → TJ → TS → TL → Prop) (h : wp_X0_agree_O n0 n1 I J S L p0 p1 p2 p3 p4 Φ) : Met l yX0_agree wsX0_agree rmX0_agree (va_Pc [.ref (a 5), .int p0, .int p1, .int p2, .int p3, .int p4] (gpre dC dI (wO a cy n0 n1 I J S L) (tyL cy) sz)) (gQv dC dI (wO a cy n0 n1) (tyL cy) (va_A (wO a cy n0 n1 I J S L) sz) Φ) 0 0 (va_A (wO a cy n0 n1 I J S L) sz) :=
  met_cons_v (Wd := wL a cy n0 n1) (c_X0_agree l dC dI a cy n0 n1 sz I J S L p0 p1 p2 p3 p4 _ h) (wO_cons a cy n0 n1 (S 0))
def wp_X0_holdsFor (n0 n1 : Nat) (I : TI) (J : TJ) (S : TS) (L : TL) (p0 : Int32) (p1 : Int32) (p2 : Int32) (p3 : Int32) (Φ : Int32 → TI → TJ → TS → TL → Prop) : Prop := (vp_in p0 24) ∧ (∃ B_1 : TI → TJ → TS → TL → Int32 → Prop, (∀ (I_2 : TI) (J_3 : TJ) (S_4 : TS) (L_5 : TL) (s_6 : Int32), B_1 I_2 J_3 S_4 L_5 s_6 → ((s_6 = 0 ∨ s_6 = 1) ∧ Φ s_6 I_2 J_3 S_4 L_5)) ∧ (∃ B_7 : TI → TJ → TS → TL → Prop, (∀ (I_8 : TI) (J_9 : TJ) (S_10 : TS) (L_11 : TL), B_7 I_8 J_9 S_10 L_11 → (B_1 I_8 J_9 S_10 L_11 (0 : Int32))) ∧ (((¬ (I 7 (p0).toNatClampNeg) = p1) → (B_7 I J S L)) ∧ (((I 7 (p0).toNatClampNeg) = p1) → ((vp_in p0 24) ∧ (((¬ (((I 8 (p0).toNatClampNeg) >>> (p2 &&& 31)) &&& (1 : Int32)) = (1 : Int32)) → (B_7 I J S L)) ∧ (((((I 8 (p0).toNatClampNeg) >>> (p2 &&& 31)) &&& (1 : Int32)) = (1 : Int32)) → ((vp_in p0 24) ∧ (((p3 < (I 9 (p0).toNatClampNeg)) → (B_7 I J S L)) ∧ ((¬ p3 < (I 9 (p0).toNatClampNeg)) → (B_1 I J S L (1 : Int32))))))))))))
theorem nX0_holdsFor_X0 : ∀ w ∈ wsX00, w ∈ wsX0_holdsFor := fun _ h => List.mem_cons_of_mem _ (List.mem_append_right _ h)
theorem kX0_holdsFor_3 : Cond.fieldLink RX0 21 "SongOffice$BargainBook" "days" "[I" ∈ wsX0_holdsFor := List.mem_of_getElem? (i := 3) rfl
theorem kX0_holdsFor_2 : Cond.fieldLink RX0 18 "SongOffice$BargainBook" "works" "[I" ∈ wsX0_holdsFor := List.mem_of_getElem? (i := 2) rfl
theorem kX0_holdsFor_1 : Cond.fieldLink RX0 15 "SongOffice$BargainBook" "hands" "[I" ∈ wsX0_holdsFor := List.mem_of_getElem? (i := 1) rfl
abbrev rmX0_holdsFor : Room := { frames := 0, cells := 0, slots := 0, locals := 0 }
set_option maxHeartbeats 4000000 in
set_option maxRecDepth 100000 in
theorem c_X0_holdsFor (l : Launch) (dC : Nat → ClassId) (dI : Nat → Nat → Nat) (a : Nat → Nat) (cy : Nat → ClassId) (n0 n1 : Nat) (sz : Nat) (I : TI) (J : TJ) (S : TS) (L : TL) (p0 : Int32) (p1 : Int32) (p2 : Int32) (p3 : Int32) (Φ : Int32 → TI → TJ → TS → TL → Prop) (h : wp_X0_holdsFor n0 n1 I J S L p0 p1 p2 p3 Φ) : Met l yX0_holdsFor wsX0_holdsFor rmX0_holdsFor (va_Pc [.ref (a 5), .int p0, .int p1, .int p2, .int p3] (gpre dC dI (wL a cy n0 n1 I J S L) (tyL cy) sz)) (gQi dC dI (wL a cy n0 n1) (tyL cy) (va_A (wL a cy n0 n1 I J S L) sz) Φ) 0 0 (va_A (wL a cy n0 n1 I J S L) sz) := by
  refine Met.ofW (cc := cX0_holdsFor) (maxL := 5) (ret := (some .boolean)) (by decide) rfl ?_
  intro p e s m args below meth c s₁ B hml hv
  obtain ⟨hargs, hsz, hP, hK, hD0, hN⟩ := hv
  have hx := B.exec
  have hb := B.bytes
  have hr := B.returns
  have hts := atoms_spec (ws := wsX0_holdsFor) B.pre
  have hown : s.vm.findClass RX0 = some m.cls := findClass_of_methodNamed B.named
  have hlocks := B.notSynchronized
  subst hsz
  have hD := hD0.self (sz := s.heap.size)
  generalize hAe : va_A (wL a cy n0 n1 I J S L) s.heap.size = A at hD ⊢
  have hA : ∀ q : Nat, s.heap.size ≤ q → A q := fun q h => by rw [← hAe]; exact Or.inr h
  obtain ⟨H, hH⟩ : ∃ z : Heap, z = s.heap := ⟨_, rfl⟩
  rw [← hH] at hP
  have hS : va_S A s.heap H [] := by rw [hH]; exact va_S.rf
  have hl := lv_entry ([.ref (a 5), .int p0, .int p1, .int p2, .int p3]) (n := 5) (Nat.le_of_ble_eq_true rfl)
  have hE : entryFrame m args 5 = F0 m 0 ((lg_sl ([.ref (a 5), .int p0, .int p1, .int p2, .int p3]) ++ List.replicate (5 - (lg_sl ([.ref (a 5), .int p0, .int p1, .int p2, .int p3])).length) Slot.unset).toArray) [] := by rw [hargs]; exact lg_entry_eq m _ _
  rw [hE, ← hH]
  clear hE
  generalize (lg_sl ([.ref (a 5), .int p0, .int p1, .int p2, .int p3]) ++ List.replicate (5 - (lg_sl ([.ref (a 5), .int p0, .int p1, .int p2, .int p3])).length) Slot.unset).toArray = ls at hl ⊢
  have hl : lv_has ls 5 [(0, .ref (a 5)), (1, .int p0), (2, .int p1), (3, .int p2), (4, .int p3)] := hl
  unfold wp_X0_holdsFor at h
  refine lv_aload_n hx hb dX0_holdsFor_0 rfl (lv_at hl 0 rfl) ?_
  refine va_get (D := (dC, dI)) (ci := 0) (v := .ref (a 7)) (C := RX0) (T := TX0) (N := 9) hx hb hts nX0_holdsFor_X0 hown hK hP 5 (wL_at5 _ _ _ _ _ _ _ _) rfl 1 (by decide) (hts (.fieldLink RX0 15 "SongOffice$BargainBook" "hands" "[I") kX0_holdsFor_1) (fun _ h9 => h9) rfl dX0_holdsFor_1 ?_
  refine lv_iload_n hx hb dX0_holdsFor_4 rfl (lv_at hl 1 rfl) ?_
  obtain ⟨hi, h⟩ := h
  refine va_iald hx hb hK hP 7 5 (wL_at7 _ _ _ _ _ _ _ _) rfl hi dX0_holdsFor_5 ?_
  refine lv_iload_n hx hb dX0_holdsFor_6 rfl (lv_at hl 2 rfl) ?_
  obtain ⟨B_1, hB_1, h⟩ := h
  have jB_1 : ∀ (I_2 : TI) (J_3 : TJ) (S_4 : TS) (L_5 : TL) (s_6 : Int32) (H : Heap) (locs : List Loc) (ls : Array Slot), va_P (dC, dI) vwCl (wL a cy n0 n1 I_2 J_3 S_4 L_5) H → va_D A (wL a cy n0 n1 I_2 J_3 S_4 L_5) → va_S A s.heap H locs → lv_has ls 5 [] → B_1 I_2 J_3 S_4 L_5 s_6 → W p l e (headSpec wsX0_holdsFor rmX0_holdsFor).room s m args below meth c H locs 0 0 (MQ below (gQi dC dI (wL a cy n0 n1) (tyL cy) A Φ) args s 0 0 A) (F0 m 40 ls [.int s_6]) := by
    intro I_2 J_3 S_4 L_5 s_6 H locs ls hP hD hS hl h
    have h := hB_1 I_2 J_3 S_4 L_5 s_6 h
    exact grz hx hb hr hlocks hP hK hD hS h dX0_holdsFor_40
  obtain ⟨B_7, hB_7, h⟩ := h
  have jB_7 : ∀ (I_8 : TI) (J_9 : TJ) (S_10 : TS) (L_11 : TL) (H : Heap) (locs : List Loc) (ls : Array Slot), va_P (dC, dI) vwCl (wL a cy n0 n1 I_8 J_9 S_10 L_11) H → va_D A (wL a cy n0 n1 I_8 J_9 S_10 L_11) → va_S A s.heap H locs → lv_has ls 5 [] → B_7 I_8 J_9 S_10 L_11 → W p l e (headSpec wsX0_holdsFor rmX0_holdsFor).room s m args below meth c H locs 0 0 (MQ below (gQi dC dI (wL a cy n0 n1) (tyL cy) A Φ) args s 0 0 A) (F0 m 39 ls []) := by
    intro I_8 J_9 S_10 L_11 H locs ls hP hD hS hl h
    have h := hB_7 I_8 J_9 S_10 L_11 h
    refine lv_iconst (v := 0) hx hb dX0_holdsFor_39 (by decide) ?_
    exact jB_1 I_8 J_9 S_10 L_11 (0 : Int32) _ _ _ hP hD hS (lv_sub hl [] rfl) h
  refine lv_icmp_ne (tgt := 39) hx hb dX0_holdsFor_7 (by decide) (fun hc => ?_) (fun hc => ?_)
  · have h := h.1 hc
    exact jB_7 I J S L _ _ _ hP hD hS (lv_sub hl [] rfl) h
  · have h := h.2 hc
    refine lv_aload_n hx hb dX0_holdsFor_10 rfl (lv_at hl 0 rfl) ?_
    refine va_get (D := (dC, dI)) (ci := 0) (v := .ref (a 8)) (C := RX0) (T := TX0) (N := 9) hx hb hts nX0_holdsFor_X0 hown hK hP 5 (wL_at5 _ _ _ _ _ _ _ _) rfl 2 (by decide) (hts (.fieldLink RX0 18 "SongOffice$BargainBook" "works" "[I") kX0_holdsFor_2) (fun _ h9 => h9) rfl dX0_holdsFor_11 ?_
    refine lv_iload_n hx hb dX0_holdsFor_14 rfl (lv_at hl 1 rfl) ?_
    obtain ⟨hi, h⟩ := h
    refine va_iald hx hb hK hP 8 6 (wL_at8 _ _ _ _ _ _ _ _) rfl hi dX0_holdsFor_15 ?_
    refine lv_iload_n hx hb dX0_holdsFor_16 rfl (lv_at hl 3 rfl) ?_
    refine lv_ishr hx hb dX0_holdsFor_17 ?_
    refine lv_iconst (v := 1) hx hb dX0_holdsFor_18 (by decide) ?_
    refine lv_iand hx hb dX0_holdsFor_19 ?_
    refine lv_iconst (v := 1) hx hb dX0_holdsFor_20 (by decide) ?_
    refine lv_icmp_ne (tgt := 39) hx hb dX0_holdsFor_21 (by decide) (fun hc => ?_) (fun hc => ?_)
    · have h := h.1 hc
      exact jB_7 I J S L _ _ _ hP hD hS (lv_sub hl [] rfl) h
    · have h := h.2 hc
      refine lv_aload_n hx hb dX0_holdsFor_24 rfl (lv_at hl 0 rfl) ?_
      refine va_get (D := (dC, dI)) (ci := 0) (v := .ref (a 9)) (C := RX0) (T := TX0) (N := 9) hx hb hts nX0_holdsFor_X0 hown hK hP 5 (wL_at5 _ _ _ _ _ _ _ _) rfl 3 (by decide) (hts (.fieldLink RX0 21 "SongOffice$BargainBook" "days" "[I") kX0_holdsFor_3) (fun _ h9 => h9) rfl dX0_holdsFor_25 ?_
      refine lv_iload_n hx hb dX0_holdsFor_28 rfl (lv_at hl 1 rfl) ?_
      obtain ⟨hi, h⟩ := h
      refine va_iald hx hb hK hP 9 7 (wL_at9 _ _ _ _ _ _ _ _) rfl hi dX0_holdsFor_29 ?_
      refine lv_iload hx hb dX0_holdsFor_30 (lv_at hl 4 rfl) ?_
      refine lv_icmp_gt (tgt := 39) hx hb dX0_holdsFor_32 (by decide) (fun hc => ?_) (fun hc => ?_)
      · have h := h.1 hc
        exact jB_7 I J S L _ _ _ hP hD hS (lv_sub hl [] rfl) h
      · have h := h.2 hc
        refine lv_iconst (v := 1) hx hb dX0_holdsFor_35 (by decide) ?_
        refine lv_goto (tgt := 40) hx hb dX0_holdsFor_36 (by decide) ?_
        exact jB_1 I J S L (1 : Int32) _ _ _ hP hD hS (lv_sub hl [] rfl) h
def wp_X0_isReserveOf (n0 n1 : Nat) (I : TI) (J : TJ) (S : TS) (L : TL) (p0 : Int32) (p1 : Int32) (Φ : Int32 → TI → TJ → TS → TL → Prop) : Prop := (vp_in p0 24) ∧ (∃ B_1 : TI → TJ → TS → TL → Int32 → Prop, (∀ (I_2 : TI) (J_3 : TJ) (S_4 : TS) (L_5 : TL) (s_6 : Int32), B_1 I_2 J_3 S_4 L_5 s_6 → ((s_6 = 0 ∨ s_6 = 1) ∧ Φ s_6 I_2 J_3 S_4 L_5)) ∧ (∃ B_7 : TI → TJ → TS → TL → Prop, (∀ (I_8 : TI) (J_9 : TJ) (S_10 : TS) (L_11 : TL), B_7 I_8 J_9 S_10 L_11 → (B_1 I_8 J_9 S_10 L_11 (0 : Int32))) ∧ (((¬ (I 6 (p0).toNatClampNeg) = (4 : Int32)) → (B_7 I J S L)) ∧ (((I 6 (p0).toNatClampNeg) = (4 : Int32)) → ((vp_in p0 24) ∧ (((¬ (I 7 (p0).toNatClampNeg) = p1) → (B_7 I J S L)) ∧ (((I 7 (p0).toNatClampNeg) = p1) → (B_1 I J S L (1 : Int32)))))))))
theorem nX0_isReserveOf_X0 : ∀ w ∈ wsX00, w ∈ wsX0_isReserveOf := fun _ h => List.mem_cons_of_mem _ (List.mem_append_right _ h)
theorem kX0_isReserveOf_2 : Cond.fieldLink RX0 15 "SongOffice$BargainBook" "hands" "[I" ∈ wsX0_isReserveOf := List.mem_of_getElem? (i := 2) rfl
theorem kX0_isReserveOf_1 : Cond.fieldLink RX0 9 "SongOffice$BargainBook" "kinds" "[I" ∈ wsX0_isReserveOf := List.mem_of_getElem? (i := 1) rfl
abbrev rmX0_isReserveOf : Room := { frames := 0, cells := 0, slots := 0, locals := 0 }
set_option maxHeartbeats 4000000 in
set_option maxRecDepth 100000 in
theorem c_X0_isReserveOf (l : Launch) (dC : Nat → ClassId) (dI : Nat → Nat → Nat) (a : Nat → Nat) (cy : Nat → ClassId) (n0 n1 : Nat) (sz : Nat) (I : TI) (J : TJ) (S : TS) (L : TL) (p0 : Int32) (p1 : Int32) (Φ : Int32 → TI → TJ → TS → TL → Prop) (h : wp_X0_isReserveOf n0 n1 I J S L p0 p1 Φ) : Met l yX0_isReserveOf wsX0_isReserveOf rmX0_isReserveOf (va_Pc [.ref (a 5), .int p0, .int p1] (gpre dC dI (wL a cy n0 n1 I J S L) (tyL cy) sz)) (gQi dC dI (wL a cy n0 n1) (tyL cy) (va_A (wL a cy n0 n1 I J S L) sz) Φ) 0 0 (va_A (wL a cy n0 n1 I J S L) sz) := by
  refine Met.ofW (cc := cX0_isReserveOf) (maxL := 3) (ret := (some .boolean)) (by decide) rfl ?_
  intro p e s m args below meth c s₁ B hml hv
  obtain ⟨hargs, hsz, hP, hK, hD0, hN⟩ := hv
  have hx := B.exec
  have hb := B.bytes
  have hr := B.returns
  have hts := atoms_spec (ws := wsX0_isReserveOf) B.pre
  have hown : s.vm.findClass RX0 = some m.cls := findClass_of_methodNamed B.named
  have hlocks := B.notSynchronized
  subst hsz
  have hD := hD0.self (sz := s.heap.size)
  generalize hAe : va_A (wL a cy n0 n1 I J S L) s.heap.size = A at hD ⊢
  have hA : ∀ q : Nat, s.heap.size ≤ q → A q := fun q h => by rw [← hAe]; exact Or.inr h
  obtain ⟨H, hH⟩ : ∃ z : Heap, z = s.heap := ⟨_, rfl⟩
  rw [← hH] at hP
  have hS : va_S A s.heap H [] := by rw [hH]; exact va_S.rf
  have hl := lv_entry ([.ref (a 5), .int p0, .int p1]) (n := 3) (Nat.le_of_ble_eq_true rfl)
  have hE : entryFrame m args 3 = F0 m 0 ((lg_sl ([.ref (a 5), .int p0, .int p1]) ++ List.replicate (3 - (lg_sl ([.ref (a 5), .int p0, .int p1])).length) Slot.unset).toArray) [] := by rw [hargs]; exact lg_entry_eq m _ _
  rw [hE, ← hH]
  clear hE
  generalize (lg_sl ([.ref (a 5), .int p0, .int p1]) ++ List.replicate (3 - (lg_sl ([.ref (a 5), .int p0, .int p1])).length) Slot.unset).toArray = ls at hl ⊢
  have hl : lv_has ls 3 [(0, .ref (a 5)), (1, .int p0), (2, .int p1)] := hl
  unfold wp_X0_isReserveOf at h
  refine lv_aload_n hx hb dX0_isReserveOf_0 rfl (lv_at hl 0 rfl) ?_
  refine va_get (D := (dC, dI)) (ci := 0) (v := .ref (a 6)) (C := RX0) (T := TX0) (N := 9) hx hb hts nX0_isReserveOf_X0 hown hK hP 5 (wL_at5 _ _ _ _ _ _ _ _) rfl 0 (by decide) (hts (.fieldLink RX0 9 "SongOffice$BargainBook" "kinds" "[I") kX0_isReserveOf_1) (fun _ h9 => h9) rfl dX0_isReserveOf_1 ?_
  refine lv_iload_n hx hb dX0_isReserveOf_4 rfl (lv_at hl 1 rfl) ?_
  obtain ⟨hi, h⟩ := h
  refine va_iald hx hb hK hP 6 4 (wL_at6 _ _ _ _ _ _ _ _) rfl hi dX0_isReserveOf_5 ?_
  refine lv_iconst (v := 4) hx hb dX0_isReserveOf_6 (by decide) ?_
  obtain ⟨B_1, hB_1, h⟩ := h
  have jB_1 : ∀ (I_2 : TI) (J_3 : TJ) (S_4 : TS) (L_5 : TL) (s_6 : Int32) (H : Heap) (locs : List Loc) (ls : Array Slot), va_P (dC, dI) vwCl (wL a cy n0 n1 I_2 J_3 S_4 L_5) H → va_D A (wL a cy n0 n1 I_2 J_3 S_4 L_5) → va_S A s.heap H locs → lv_has ls 3 [] → B_1 I_2 J_3 S_4 L_5 s_6 → W p l e (headSpec wsX0_isReserveOf rmX0_isReserveOf).room s m args below meth c H locs 0 0 (MQ below (gQi dC dI (wL a cy n0 n1) (tyL cy) A Φ) args s 0 0 A) (F0 m 25 ls [.int s_6]) := by
    intro I_2 J_3 S_4 L_5 s_6 H locs ls hP hD hS hl h
    have h := hB_1 I_2 J_3 S_4 L_5 s_6 h
    exact grz hx hb hr hlocks hP hK hD hS h dX0_isReserveOf_25
  obtain ⟨B_7, hB_7, h⟩ := h
  have jB_7 : ∀ (I_8 : TI) (J_9 : TJ) (S_10 : TS) (L_11 : TL) (H : Heap) (locs : List Loc) (ls : Array Slot), va_P (dC, dI) vwCl (wL a cy n0 n1 I_8 J_9 S_10 L_11) H → va_D A (wL a cy n0 n1 I_8 J_9 S_10 L_11) → va_S A s.heap H locs → lv_has ls 3 [] → B_7 I_8 J_9 S_10 L_11 → W p l e (headSpec wsX0_isReserveOf rmX0_isReserveOf).room s m args below meth c H locs 0 0 (MQ below (gQi dC dI (wL a cy n0 n1) (tyL cy) A Φ) args s 0 0 A) (F0 m 24 ls []) := by
    intro I_8 J_9 S_10 L_11 H locs ls hP hD hS hl h
    have h := hB_7 I_8 J_9 S_10 L_11 h
    refine lv_iconst (v := 0) hx hb dX0_isReserveOf_24 (by decide) ?_
    exact jB_1 I_8 J_9 S_10 L_11 (0 : Int32) _ _ _ hP hD hS (lv_sub hl [] rfl) h
  refine lv_icmp_ne (tgt := 24) hx hb dX0_isReserveOf_7 (by decide) (fun hc => ?_) (fun hc => ?_)
  · have h := h.1 hc
    exact jB_7 I J S L _ _ _ hP hD hS (lv_sub hl [] rfl) h
  · have h := h.2 hc
    refine lv_aload_n hx hb dX0_isReserveOf_10 rfl (lv_at hl 0 rfl) ?_
    refine va_get (D := (dC, dI)) (ci := 0) (v := .ref (a 7)) (C := RX0) (T := TX0) (N := 9) hx hb hts nX0_isReserveOf_X0 hown hK hP 5 (wL_at5 _ _ _ _ _ _ _ _) rfl 1 (by decide) (hts (.fieldLink RX0 15 "SongOffice$BargainBook" "hands" "[I") kX0_isReserveOf_2) (fun _ h9 => h9) rfl dX0_isReserveOf_11 ?_
    refine lv_iload_n hx hb dX0_isReserveOf_14 rfl (lv_at hl 1 rfl) ?_
    obtain ⟨hi, h⟩ := h
    refine va_iald hx hb hK hP 7 5 (wL_at7 _ _ _ _ _ _ _ _) rfl hi dX0_isReserveOf_15 ?_
    refine lv_iload_n hx hb dX0_isReserveOf_16 rfl (lv_at hl 2 rfl) ?_
    refine lv_icmp_ne (tgt := 24) hx hb dX0_isReserveOf_17 (by decide) (fun hc => ?_) (fun hc => ?_)
    · have h := h.1 hc
      exact jB_7 I J S L _ _ _ hP hD hS (lv_sub hl [] rfl) h
    · have h := h.2 hc
      refine lv_iconst (v := 1) hx hb dX0_isReserveOf_20 (by decide) ?_
      refine lv_goto (tgt := 25) hx hb dX0_isReserveOf_21 (by decide) ?_
      exact jB_1 I J S L (1 : Int32) _ _ _ hP hD hS (lv_sub hl [] rfl) h
def wp_X4_put (n0 n1 : Nat) (I : TI) (J : TJ) (S : TS) (L : TL) (p0 : Int32) (p1 : Int32) (p2 : Int32) (p3 : Int32) (p4 : Int32) (p5 : Int32) (Φ : TI → TJ → TS → TL → Prop) : Prop := ∀ x_1 : Int32, x_1 = ((p0 * (12 : Int32)) + p1) → ((vp_in x_1 480) ∧ (∃ B_2 : TI → TJ → TS → TL → Int32 → Prop, (∀ (I_3 : TI) (J_4 : TJ) (S_5 : TS) (L_6 : TL) (x_7 : Int32), B_2 I_3 J_4 S_5 L_6 x_7 → (∃ B_8 : TI → TJ → TS → TL → Int32 → Int32 → Int32 → Prop, (∀ (I_9 : TI) (J_10 : TJ) (S_11 : TS) (L_12 : TL) (x_13 : Int32) (s_14 : Int32) (s_15 : Int32), B_8 I_9 J_10 S_11 L_12 x_13 s_14 s_15 → ((vp_in s_14 480) ∧ ∀ I_16 : TI, I_16 = va_up I_9 16 (upd (I_9 16) (s_14).toNatClampNeg s_15) → ((vp_in (x_13 * (3 : Int32)) 1440) ∧ ∀ I_17 : TI, I_17 = va_up I_16 15 (upd (I_16 15) ((x_13 * (3 : Int32))).toNatClampNeg p2) → (∃ B_18 : TI → TJ → TS → TL → Int32 → Int32 → Int32 → Prop, (∀ (I_19 : TI) (J_20 : TJ) (S_21 : TS) (L_22 : TL) (x_23 : Int32) (s_24 : Int32) (s_25 : Int32), B_18 I_19 J_20 S_21 L_22 x_23 s_24 s_25 → ((vp_in s_24 1440) ∧ ∀ I_26 : TI, I_26 = va_up I_19 15 (upd (I_19 15) (s_24).toNatClampNeg s_25) → (∃ B_27 : TI → TJ → TS → TL → Int32 → Int32 → Prop, (∀ (I_28 : TI) (J_29 : TJ) (S_30 : TS) (L_31 : TL) (s_32 : Int32) (s_33 : Int32), B_27 I_28 J_29 S_30 L_31 s_32 s_33 → ((vp_in s_32 1440) ∧ ∀ I_34 : TI, I_34 = va_up I_28 15 (upd (I_28 15) (s_32).toNatClampNeg s_33) → (Φ I_34 J_29 S_30 L_31))) ∧ (((p5 = 0) → (B_27 I_26 J_20 S_21 L_22 ((x_23 * (3 : Int32)) + (2 : Int32)) (0 : Int32))) ∧ ((¬ p5 = 0) → (B_27 I_26 J_20 S_21 L_22 ((x_23 * (3 : Int32)) + (2 : Int32)) p4)))))) ∧ (((p5 = 0) → (B_18 I_17 J_10 S_11 L_12 x_13 ((x_13 * (3 : Int32)) + (1 : Int32)) (0 : Int32))) ∧ ((¬ p5 = 0) → (B_18 I_17 J_10 S_11 L_12 x_13 ((x_13 * (3 : Int32)) + (1 : Int32)) p3))))))) ∧ (((p5 = 0) → (B_8 I_3 J_4 S_5 L_6 x_7 x_7 (1 : Int32))) ∧ ((¬ p5 = 0) → (B_8 I_3 J_4 S_5 L_6 x_7 x_7 (2 : Int32)))))) ∧ (((¬ (I 16 (x_1).toNatClampNeg) = 0) → (B_2 I J S L x_1)) ∧ (((I 16 (x_1).toNatClampNeg) = 0) → ((vp_in p0 40) ∧ ((vp_in x_1 480) ∧ ∀ I_35 : TI, I_35 = va_up I 17 (upd (I 17) (x_1).toNatClampNeg (I 19 (p0).toNatClampNeg)) → ((vp_in p0 40) ∧ ((vp_in ((p0 * (12 : Int32)) + (I_35 19 (p0).toNatClampNeg)) 480) ∧ ∀ I_36 : TI, I_36 = va_up I_35 18 (upd (I_35 18) (((p0 * (12 : Int32)) + (I_35 19 (p0).toNatClampNeg))).toNatClampNeg p1) → ((vp_in p0 40) ∧ ((vp_in p0 40) ∧ ∀ I_37 : TI, I_37 = va_up I_36 19 (upd (I_36 19) (p0).toNatClampNeg ((I_36 19 (p0).toNatClampNeg) + (1 : Int32))) → (B_2 I_37 J S L x_1)))))))))))
theorem nX4_put_X4 : ∀ w ∈ wsX40, w ∈ wsX4_put := fun _ h => List.mem_cons_of_mem _ (List.mem_append_right _ h)
theorem kX4_put_5 : Cond.fieldLink RX4 9 "SongOffice$ReportBook" "coins" "[I" ∈ wsX4_put := List.mem_of_getElem? (i := 5) rfl
theorem kX4_put_1 : Cond.fieldLink RX4 15 "SongOffice$ReportBook" "ways" "[I" ∈ wsX4_put := List.mem_of_getElem? (i := 1) rfl
theorem kX4_put_3 : Cond.fieldLink RX4 24 "SongOffice$ReportBook" "sizes" "[I" ∈ wsX4_put := List.mem_of_getElem? (i := 3) rfl
theorem kX4_put_4 : Cond.fieldLink RX4 21 "SongOffice$ReportBook" "order" "[I" ∈ wsX4_put := List.mem_of_getElem? (i := 4) rfl
theorem kX4_put_2 : Cond.fieldLink RX4 18 "SongOffice$ReportBook" "places" "[I" ∈ wsX4_put := List.mem_of_getElem? (i := 2) rfl
abbrev rmX4_put : Room := { frames := 0, cells := 0, slots := 0, locals := 0 }
set_option maxHeartbeats 4000000 in
set_option maxRecDepth 100000 in
theorem c_X4_put (l : Launch) (dC : Nat → ClassId) (dI : Nat → Nat → Nat) (a : Nat → Nat) (cy : Nat → ClassId) (n0 n1 : Nat) (sz : Nat) (I : TI) (J : TJ) (S : TS) (L : TL) (p0 : Int32) (p1 : Int32) (p2 : Int32) (p3 : Int32) (p4 : Int32) (p5 : Int32) (Φ : TI → TJ → TS → TL → Prop) (h : wp_X4_put n0 n1 I J S L p0 p1 p2 p3 p4 p5 Φ) : Met l yX4_put wsX4_put rmX4_put (va_Pc [.ref (a 14), .int p0, .int p1, .int p2, .int p3, .int p4, .int p5] (gpre dC dI (wL a cy n0 n1 I J S L) (tyL cy) sz)) (gQv dC dI (wL a cy n0 n1) (tyL cy) (va_A (wL a cy n0 n1 I J S L) sz) Φ) 0 0 (va_A (wL a cy n0 n1 I J S L) sz) := by
  refine Met.ofW (cc := cX4_put) (maxL := 8) (ret := none) (by decide) rfl ?_
  intro p e s m args below meth c s₁ B hml hv
  obtain ⟨hargs, hsz, hP, hK, hD0, hN⟩ := hv
  have hx := B.exec
  have hb := B.bytes
  have hr := B.returns
  have hts := atoms_spec (ws := wsX4_put) B.pre
  have hown : s.vm.findClass RX4 = some m.cls := findClass_of_methodNamed B.named
  have hlocks := B.notSynchronized
  subst hsz
  have hD := hD0.self (sz := s.heap.size)
  generalize hAe : va_A (wL a cy n0 n1 I J S L) s.heap.size = A at hD ⊢
  have hA : ∀ q : Nat, s.heap.size ≤ q → A q := fun q h => by rw [← hAe]; exact Or.inr h
  obtain ⟨H, hH⟩ : ∃ z : Heap, z = s.heap := ⟨_, rfl⟩
  rw [← hH] at hP
  have hS : va_S A s.heap H [] := by rw [hH]; exact va_S.rf
  have hl := lv_entry ([.ref (a 14), .int p0, .int p1, .int p2, .int p3, .int p4, .int p5]) (n := 8) (Nat.le_of_ble_eq_true rfl)
  have hE : entryFrame m args 8 = F0 m 0 ((lg_sl ([.ref (a 14), .int p0, .int p1, .int p2, .int p3, .int p4, .int p5]) ++ List.replicate (8 - (lg_sl ([.ref (a 14), .int p0, .int p1, .int p2, .int p3, .int p4, .int p5])).length) Slot.unset).toArray) [] := by rw [hargs]; exact lg_entry_eq m _ _
  rw [hE, ← hH]
  clear hE
  generalize (lg_sl ([.ref (a 14), .int p0, .int p1, .int p2, .int p3, .int p4, .int p5]) ++ List.replicate (8 - (lg_sl ([.ref (a 14), .int p0, .int p1, .int p2, .int p3, .int p4, .int p5])).length) Slot.unset).toArray = ls at hl ⊢
  have hl : lv_has ls 8 [(0, .ref (a 14)), (1, .int p0), (2, .int p1), (3, .int p2), (4, .int p3), (5, .int p4), (6, .int p5)] := hl
  unfold wp_X4_put at h
  refine lv_iload_n hx hb dX4_put_0 rfl (lv_at hl 1 rfl) ?_
  refine lv_bipush (v := 12) hx hb dX4_put_1 (by decide) ?_
  refine lv_imul hx hb dX4_put_3 ?_
  refine lv_iload_n hx hb dX4_put_4 rfl (lv_at hl 2 rfl) ?_
  refine lv_iadd hx hb dX4_put_5 ?_
  refine lv_topi (fun x_1 ex_1 => ?_)
  have h := h x_1 ex_1
  refine lv_istore (lv' := [(7, .int x_1), (0, .ref (a 14)), (1, .int p0), (2, .int p1), (3, .int p2), (4, .int p3), (5, .int p4), (6, .int p5)]) hx hb dX4_put_6 hl (by decide) rfl (fun ls hl => ?_)
  refine lv_aload_n hx hb dX4_put_8 rfl (lv_at hl 1 rfl) ?_
  refine va_get (D := (dC, dI)) (ci := 4) (v := .ref (a 16)) (C := RX4) (T := TX4) (N := 6) hx hb hts nX4_put_X4 hown hK hP 14 (wL_at14 _ _ _ _ _ _ _ _) rfl 1 (by decide) (hts (.fieldLink RX4 15 "SongOffice$ReportBook" "ways" "[I") kX4_put_1) (fun _ h9 => h9) rfl dX4_put_9 ?_
  refine lv_iload hx hb dX4_put_12 (lv_at hl 0 rfl) ?_
  obtain ⟨hi, h⟩ := h
  refine va_iald hx hb hK hP 16 13 (wL_at16 _ _ _ _ _ _ _ _) rfl hi dX4_put_14 ?_
  obtain ⟨B_2, hB_2, h⟩ := h
  have jB_2 : ∀ (I_3 : TI) (J_4 : TJ) (S_5 : TS) (L_6 : TL) (x_7 : Int32) (H : Heap) (locs : List Loc) (ls : Array Slot), va_P (dC, dI) vwCl (wL a cy n0 n1 I_3 J_4 S_5 L_6) H → va_D A (wL a cy n0 n1 I_3 J_4 S_5 L_6) → va_S A s.heap H locs → lv_has ls 8 [(0, .ref (a 14)), (3, .int p2), (4, .int p3), (5, .int p4), (6, .int p5), (7, .int x_7)] → B_2 I_3 J_4 S_5 L_6 x_7 → W p l e (headSpec wsX4_put rmX4_put).room s m args below meth c H locs 0 0 (MQ below (gQv dC dI (wL a cy n0 n1) (tyL cy) A Φ) args s 0 0 A) (F0 m 58 ls []) := by
    intro I_3 J_4 S_5 L_6 x_7 H locs ls hP hD hS hl h
    have h := hB_2 I_3 J_4 S_5 L_6 x_7 h
    refine lv_aload_n hx hb dX4_put_58 rfl (lv_at hl 0 rfl) ?_
    refine va_get (D := (dC, dI)) (ci := 4) (v := .ref (a 16)) (C := RX4) (T := TX4) (N := 6) hx hb hts nX4_put_X4 hown hK hP 14 (wL_at14 _ _ _ _ _ _ _ _) rfl 1 (by decide) (hts (.fieldLink RX4 15 "SongOffice$ReportBook" "ways" "[I") kX4_put_1) (fun _ h9 => h9) rfl dX4_put_59 ?_
    refine lv_iload hx hb dX4_put_62 (lv_at hl 5 rfl) ?_
    refine lv_iload hx hb dX4_put_64 (lv_at hl 4 rfl) ?_
    obtain ⟨B_8, hB_8, h⟩ := h
    have jB_8 : ∀ (I_9 : TI) (J_10 : TJ) (S_11 : TS) (L_12 : TL) (x_13 : Int32) (s_14 : Int32) (s_15 : Int32) (H : Heap) (locs : List Loc) (ls : Array Slot), va_P (dC, dI) vwCl (wL a cy n0 n1 I_9 J_10 S_11 L_12) H → va_D A (wL a cy n0 n1 I_9 J_10 S_11 L_12) → va_S A s.heap H locs → lv_has ls 8 [(0, .ref (a 14)), (3, .int p2), (4, .int p3), (5, .int p4), (6, .int p5), (7, .int x_13)] → B_8 I_9 J_10 S_11 L_12 x_13 s_14 s_15 → W p l e (headSpec wsX4_put rmX4_put).room s m args below meth c H locs 0 0 (MQ below (gQv dC dI (wL a cy n0 n1) (tyL cy) A Φ) args s 0 0 A) (F0 m 74 ls [.int s_15, .int s_14, .ref (a 16)]) := by
      intro I_9 J_10 S_11 L_12 x_13 s_14 s_15 H locs ls hP hD hS hl h
      have h := hB_8 I_9 J_10 S_11 L_12 x_13 s_14 s_15 h
      obtain ⟨hi, h⟩ := h
      obtain ⟨I_16, eI_16⟩ : ∃ z : TI, z = va_up I_9 16 (upd (I_9 16) (s_14).toNatClampNeg s_15) := ⟨_, rfl⟩
      have h := h I_16 eI_16
      refine va_iast hx hb hK hP hD hS 16 13 (wL_at16 _ _ _ _ _ _ _ _) rfl hi dX4_put_74 (fun H locs hP hD hS => ?_)
      have hP : va_P (dC, dI) vwCl (wL a cy n0 n1 I_16 J_10 S_11 L_12) H := by rw [eI_16]; exact setP hP (wL_set16 _ _ _ _ _ _ _ _ _)
      have hD : va_D A (wL a cy n0 n1 I_16 J_10 S_11 L_12) := by rw [eI_16]; exact setD hD (wL_set16 _ _ _ _ _ _ _ _ _)
      refine lv_aload_n hx hb dX4_put_75 rfl (lv_at hl 0 rfl) ?_
      refine va_get (D := (dC, dI)) (ci := 4) (v := .ref (a 15)) (C := RX4) (T := TX4) (N := 6) hx hb hts nX4_put_X4 hown hK hP 14 (wL_at14 _ _ _ _ _ _ _ _) rfl 0 (by decide) (hts (.fieldLink RX4 9 "SongOffice$ReportBook" "coins" "[I") kX4_put_5) (fun _ h9 => h9) rfl dX4_put_76 ?_
      refine lv_iload hx hb dX4_put_79 (lv_at hl 5 rfl) ?_
      refine lv_iconst (v := 3) hx hb dX4_put_81 (by decide) ?_
      refine lv_imul hx hb dX4_put_82 ?_
      refine lv_iload_n hx hb dX4_put_83 rfl (lv_at hl 1 rfl) ?_
      obtain ⟨hi, h⟩ := h
      obtain ⟨I_17, eI_17⟩ : ∃ z : TI, z = va_up I_16 15 (upd (I_16 15) ((x_13 * (3 : Int32))).toNatClampNeg p2) := ⟨_, rfl⟩
      have h := h I_17 eI_17
      refine va_iast hx hb hK hP hD hS 15 12 (wL_at15 _ _ _ _ _ _ _ _) rfl hi dX4_put_84 (fun H locs hP hD hS => ?_)
      have hP : va_P (dC, dI) vwCl (wL a cy n0 n1 I_17 J_10 S_11 L_12) H := by rw [eI_17]; exact setP hP (wL_set15 _ _ _ _ _ _ _ _ _)
      have hD : va_D A (wL a cy n0 n1 I_17 J_10 S_11 L_12) := by rw [eI_17]; exact setD hD (wL_set15 _ _ _ _ _ _ _ _ _)
      refine lv_aload_n hx hb dX4_put_85 rfl (lv_at hl 0 rfl) ?_
      refine va_get (D := (dC, dI)) (ci := 4) (v := .ref (a 15)) (C := RX4) (T := TX4) (N := 6) hx hb hts nX4_put_X4 hown hK hP 14 (wL_at14 _ _ _ _ _ _ _ _) rfl 0 (by decide) (hts (.fieldLink RX4 9 "SongOffice$ReportBook" "coins" "[I") kX4_put_5) (fun _ h9 => h9) rfl dX4_put_86 ?_
      refine lv_iload hx hb dX4_put_89 (lv_at hl 5 rfl) ?_
      refine lv_iconst (v := 3) hx hb dX4_put_91 (by decide) ?_
      refine lv_imul hx hb dX4_put_92 ?_
      refine lv_iconst (v := 1) hx hb dX4_put_93 (by decide) ?_
      refine lv_iadd hx hb dX4_put_94 ?_
      refine lv_iload hx hb dX4_put_95 (lv_at hl 4 rfl) ?_
      obtain ⟨B_18, hB_18, h⟩ := h
      have jB_18 : ∀ (I_19 : TI) (J_20 : TJ) (S_21 : TS) (L_22 : TL) (x_23 : Int32) (s_24 : Int32) (s_25 : Int32) (H : Heap) (locs : List Loc) (ls : Array Slot), va_P (dC, dI) vwCl (wL a cy n0 n1 I_19 J_20 S_21 L_22) H → va_D A (wL a cy n0 n1 I_19 J_20 S_21 L_22) → va_S A s.heap H locs → lv_has ls 8 [(0, .ref (a 14)), (5, .int p4), (6, .int p5), (7, .int x_23)] → B_18 I_19 J_20 S_21 L_22 x_23 s_24 s_25 → W p l e (headSpec wsX4_put rmX4_put).room s m args below meth c H locs 0 0 (MQ below (gQv dC dI (wL a cy n0 n1) (tyL cy) A Φ) args s 0 0 A) (F0 m 106 ls [.int s_25, .int s_24, .ref (a 15)]) := by
        intro I_19 J_20 S_21 L_22 x_23 s_24 s_25 H locs ls hP hD hS hl h
        have h := hB_18 I_19 J_20 S_21 L_22 x_23 s_24 s_25 h
        obtain ⟨hi, h⟩ := h
        obtain ⟨I_26, eI_26⟩ : ∃ z : TI, z = va_up I_19 15 (upd (I_19 15) (s_24).toNatClampNeg s_25) := ⟨_, rfl⟩
        have h := h I_26 eI_26
        refine va_iast hx hb hK hP hD hS 15 12 (wL_at15 _ _ _ _ _ _ _ _) rfl hi dX4_put_106 (fun H locs hP hD hS => ?_)
        have hP : va_P (dC, dI) vwCl (wL a cy n0 n1 I_26 J_20 S_21 L_22) H := by rw [eI_26]; exact setP hP (wL_set15 _ _ _ _ _ _ _ _ _)
        have hD : va_D A (wL a cy n0 n1 I_26 J_20 S_21 L_22) := by rw [eI_26]; exact setD hD (wL_set15 _ _ _ _ _ _ _ _ _)
        refine lv_aload_n hx hb dX4_put_107 rfl (lv_at hl 0 rfl) ?_
        refine va_get (D := (dC, dI)) (ci := 4) (v := .ref (a 15)) (C := RX4) (T := TX4) (N := 6) hx hb hts nX4_put_X4 hown hK hP 14 (wL_at14 _ _ _ _ _ _ _ _) rfl 0 (by decide) (hts (.fieldLink RX4 9 "SongOffice$ReportBook" "coins" "[I") kX4_put_5) (fun _ h9 => h9) rfl dX4_put_108 ?_
        refine lv_iload hx hb dX4_put_111 (lv_at hl 3 rfl) ?_
        refine lv_iconst (v := 3) hx hb dX4_put_113 (by decide) ?_
        refine lv_imul hx hb dX4_put_114 ?_
        refine lv_iconst (v := 2) hx hb dX4_put_115 (by decide) ?_
        refine lv_iadd hx hb dX4_put_116 ?_
        refine lv_iload hx hb dX4_put_117 (lv_at hl 2 rfl) ?_
        obtain ⟨B_27, hB_27, h⟩ := h
        have jB_27 : ∀ (I_28 : TI) (J_29 : TJ) (S_30 : TS) (L_31 : TL) (s_32 : Int32) (s_33 : Int32) (H : Heap) (locs : List Loc) (ls : Array Slot), va_P (dC, dI) vwCl (wL a cy n0 n1 I_28 J_29 S_30 L_31) H → va_D A (wL a cy n0 n1 I_28 J_29 S_30 L_31) → va_S A s.heap H locs → lv_has ls 8 [] → B_27 I_28 J_29 S_30 L_31 s_32 s_33 → W p l e (headSpec wsX4_put rmX4_put).room s m args below meth c H locs 0 0 (MQ below (gQv dC dI (wL a cy n0 n1) (tyL cy) A Φ) args s 0 0 A) (F0 m 128 ls [.int s_33, .int s_32, .ref (a 15)]) := by
          intro I_28 J_29 S_30 L_31 s_32 s_33 H locs ls hP hD hS hl h
          have h := hB_27 I_28 J_29 S_30 L_31 s_32 s_33 h
          obtain ⟨hi, h⟩ := h
          obtain ⟨I_34, eI_34⟩ : ∃ z : TI, z = va_up I_28 15 (upd (I_28 15) (s_32).toNatClampNeg s_33) := ⟨_, rfl⟩
          have h := h I_34 eI_34
          refine va_iast hx hb hK hP hD hS 15 12 (wL_at15 _ _ _ _ _ _ _ _) rfl hi dX4_put_128 (fun H locs hP hD hS => ?_)
          have hP : va_P (dC, dI) vwCl (wL a cy n0 n1 I_34 J_29 S_30 L_31) H := by rw [eI_34]; exact setP hP (wL_set15 _ _ _ _ _ _ _ _ _)
          have hD : va_D A (wL a cy n0 n1 I_34 J_29 S_30 L_31) := by rw [eI_34]; exact setD hD (wL_set15 _ _ _ _ _ _ _ _ _)
          exact grv hx hb hr hlocks hP hK hD hS h dX4_put_129
        refine lv_if_eq (tgt := 127) hx hb dX4_put_119 (by decide) (fun hc => ?_) (fun hc => ?_)
        · have h := h.1 hc
          refine lv_iconst (v := 0) hx hb dX4_put_127 (by decide) ?_
          exact jB_27 I_26 J_20 S_21 L_22 ((x_23 * (3 : Int32)) + (2 : Int32)) (0 : Int32) _ _ _ hP hD hS (lv_sub hl [] rfl) h
        · have h := h.2 hc
          refine lv_iload hx hb dX4_put_122 (lv_at hl 1 rfl) ?_
          refine lv_goto (tgt := 128) hx hb dX4_put_124 (by decide) ?_
          exact jB_27 I_26 J_20 S_21 L_22 ((x_23 * (3 : Int32)) + (2 : Int32)) p4 _ _ _ hP hD hS (lv_sub hl [] rfl) h
      refine lv_if_eq (tgt := 105) hx hb dX4_put_97 (by decide) (fun hc => ?_) (fun hc => ?_)
      · have h := h.1 hc
        refine lv_iconst (v := 0) hx hb dX4_put_105 (by decide) ?_
        exact jB_18 I_17 J_10 S_11 L_12 x_13 ((x_13 * (3 : Int32)) + (1 : Int32)) (0 : Int32) _ _ _ hP hD hS (lv_sub hl [0, 3, 4, 5] rfl) h
      · have h := h.2 hc
        refine lv_iload hx hb dX4_put_100 (lv_at hl 2 rfl) ?_
        refine lv_goto (tgt := 106) hx hb dX4_put_102 (by decide) ?_
        exact jB_18 I_17 J_10 S_11 L_12 x_13 ((x_13 * (3 : Int32)) + (1 : Int32)) p3 _ _ _ hP hD hS (lv_sub hl [0, 3, 4, 5] rfl) h
    refine lv_if_eq (tgt := 73) hx hb dX4_put_66 (by decide) (fun hc => ?_) (fun hc => ?_)
    · have h := h.1 hc
      refine lv_iconst (v := 1) hx hb dX4_put_73 (by decide) ?_
      exact jB_8 I_3 J_4 S_5 L_6 x_7 x_7 (1 : Int32) _ _ _ hP hD hS (lv_sub hl [0, 1, 2, 3, 4, 5] rfl) h
    · have h := h.2 hc
      refine lv_iconst (v := 2) hx hb dX4_put_69 (by decide) ?_
      refine lv_goto (tgt := 74) hx hb dX4_put_70 (by decide) ?_
      exact jB_8 I_3 J_4 S_5 L_6 x_7 x_7 (2 : Int32) _ _ _ hP hD hS (lv_sub hl [0, 1, 2, 3, 4, 5] rfl) h
  refine lv_if_ne (tgt := 58) hx hb dX4_put_15 (by decide) (fun hc => ?_) (fun hc => ?_)
  · have h := h.1 hc
    exact jB_2 I J S L x_1 _ _ _ hP hD hS (lv_sub hl [1, 4, 5, 6, 7, 0] rfl) h
  · have h := h.2 hc
    refine lv_aload_n hx hb dX4_put_18 rfl (lv_at hl 1 rfl) ?_
    refine va_get (D := (dC, dI)) (ci := 4) (v := .ref (a 17)) (C := RX4) (T := TX4) (N := 6) hx hb hts nX4_put_X4 hown hK hP 14 (wL_at14 _ _ _ _ _ _ _ _) rfl 2 (by decide) (hts (.fieldLink RX4 18 "SongOffice$ReportBook" "places" "[I") kX4_put_2) (fun _ h9 => h9) rfl dX4_put_19 ?_
    refine lv_iload hx hb dX4_put_22 (lv_at hl 0 rfl) ?_
    refine lv_aload_n hx hb dX4_put_24 rfl (lv_at hl 1 rfl) ?_
    refine va_get (D := (dC, dI)) (ci := 4) (v := .ref (a 19)) (C := RX4) (T := TX4) (N := 6) hx hb hts nX4_put_X4 hown hK hP 14 (wL_at14 _ _ _ _ _ _ _ _) rfl 4 (by decide) (hts (.fieldLink RX4 24 "SongOffice$ReportBook" "sizes" "[I") kX4_put_3) (fun _ h9 => h9) rfl dX4_put_25 ?_
    refine lv_iload_n hx hb dX4_put_28 rfl (lv_at hl 2 rfl) ?_
    obtain ⟨hi, h⟩ := h
    refine va_iald hx hb hK hP 19 16 (wL_at19 _ _ _ _ _ _ _ _) rfl hi dX4_put_29 ?_
    obtain ⟨hi, h⟩ := h
    obtain ⟨I_35, eI_35⟩ : ∃ z : TI, z = va_up I 17 (upd (I 17) (x_1).toNatClampNeg (I 19 (p0).toNatClampNeg)) := ⟨_, rfl⟩
    have h := h I_35 eI_35
    refine va_iast hx hb hK hP hD hS 17 14 (wL_at17 _ _ _ _ _ _ _ _) rfl hi dX4_put_30 (fun H locs hP hD hS => ?_)
    have hP : va_P (dC, dI) vwCl (wL a cy n0 n1 I_35 J S L) H := by rw [eI_35]; exact setP hP (wL_set17 _ _ _ _ _ _ _ _ _)
    have hD : va_D A (wL a cy n0 n1 I_35 J S L) := by rw [eI_35]; exact setD hD (wL_set17 _ _ _ _ _ _ _ _ _)
    refine lv_aload_n hx hb dX4_put_31 rfl (lv_at hl 1 rfl) ?_
    refine va_get (D := (dC, dI)) (ci := 4) (v := .ref (a 18)) (C := RX4) (T := TX4) (N := 6) hx hb hts nX4_put_X4 hown hK hP 14 (wL_at14 _ _ _ _ _ _ _ _) rfl 3 (by decide) (hts (.fieldLink RX4 21 "SongOffice$ReportBook" "order" "[I") kX4_put_4) (fun _ h9 => h9) rfl dX4_put_32 ?_
    refine lv_iload_n hx hb dX4_put_35 rfl (lv_at hl 2 rfl) ?_
    refine lv_bipush (v := 12) hx hb dX4_put_36 (by decide) ?_
    refine lv_imul hx hb dX4_put_38 ?_
    refine lv_aload_n hx hb dX4_put_39 rfl (lv_at hl 1 rfl) ?_
    refine va_get (D := (dC, dI)) (ci := 4) (v := .ref (a 19)) (C := RX4) (T := TX4) (N := 6) hx hb hts nX4_put_X4 hown hK hP 14 (wL_at14 _ _ _ _ _ _ _ _) rfl 4 (by decide) (hts (.fieldLink RX4 24 "SongOffice$ReportBook" "sizes" "[I") kX4_put_3) (fun _ h9 => h9) rfl dX4_put_40 ?_
    refine lv_iload_n hx hb dX4_put_43 rfl (lv_at hl 2 rfl) ?_
    obtain ⟨hi, h⟩ := h
    refine va_iald hx hb hK hP 19 16 (wL_at19 _ _ _ _ _ _ _ _) rfl hi dX4_put_44 ?_
    refine lv_iadd hx hb dX4_put_45 ?_
    refine lv_iload_n hx hb dX4_put_46 rfl (lv_at hl 3 rfl) ?_
    obtain ⟨hi, h⟩ := h
    obtain ⟨I_36, eI_36⟩ : ∃ z : TI, z = va_up I_35 18 (upd (I_35 18) (((p0 * (12 : Int32)) + (I_35 19 (p0).toNatClampNeg))).toNatClampNeg p1) := ⟨_, rfl⟩
    have h := h I_36 eI_36
    refine va_iast hx hb hK hP hD hS 18 15 (wL_at18 _ _ _ _ _ _ _ _) rfl hi dX4_put_47 (fun H locs hP hD hS => ?_)
    have hP : va_P (dC, dI) vwCl (wL a cy n0 n1 I_36 J S L) H := by rw [eI_36]; exact setP hP (wL_set18 _ _ _ _ _ _ _ _ _)
    have hD : va_D A (wL a cy n0 n1 I_36 J S L) := by rw [eI_36]; exact setD hD (wL_set18 _ _ _ _ _ _ _ _ _)
    refine lv_aload_n hx hb dX4_put_48 rfl (lv_at hl 1 rfl) ?_
    refine va_get (D := (dC, dI)) (ci := 4) (v := .ref (a 19)) (C := RX4) (T := TX4) (N := 6) hx hb hts nX4_put_X4 hown hK hP 14 (wL_at14 _ _ _ _ _ _ _ _) rfl 4 (by decide) (hts (.fieldLink RX4 24 "SongOffice$ReportBook" "sizes" "[I") kX4_put_3) (fun _ h9 => h9) rfl dX4_put_49 ?_
    refine lv_iload_n hx hb dX4_put_52 rfl (lv_at hl 2 rfl) ?_
    refine lv_dup2_11 hx hb dX4_put_53 rfl rfl ?_
    obtain ⟨hi, h⟩ := h
    refine va_iald hx hb hK hP 19 16 (wL_at19 _ _ _ _ _ _ _ _) rfl hi dX4_put_54 ?_
    refine lv_iconst (v := 1) hx hb dX4_put_55 (by decide) ?_
    refine lv_iadd hx hb dX4_put_56 ?_
    obtain ⟨hi, h⟩ := h
    obtain ⟨I_37, eI_37⟩ : ∃ z : TI, z = va_up I_36 19 (upd (I_36 19) (p0).toNatClampNeg ((I_36 19 (p0).toNatClampNeg) + (1 : Int32))) := ⟨_, rfl⟩
    have h := h I_37 eI_37
    refine va_iast hx hb hK hP hD hS 19 16 (wL_at19 _ _ _ _ _ _ _ _) rfl hi dX4_put_57 (fun H locs hP hD hS => ?_)
    have hP : va_P (dC, dI) vwCl (wL a cy n0 n1 I_37 J S L) H := by rw [eI_37]; exact setP hP (wL_set19 _ _ _ _ _ _ _ _ _)
    have hD : va_D A (wL a cy n0 n1 I_37 J S L) := by rw [eI_37]; exact setD hD (wL_set19 _ _ _ _ _ _ _ _ _)
    exact jB_2 I_37 J S L x_1 _ _ _ hP hD hS (lv_sub hl [1, 4, 5, 6, 7, 0] rfl) h
def wp_X4_put_O (n0 n1 : Nat) (I : TI) (J : TJ) (S : TS) (L : TL) (p0 : Int32) (p1 : Int32) (p2 : Int32) (p3 : Int32) (p4 : Int32) (p5 : Int32) (Φ : TI → TJ → TS → TL → Prop) : Prop := wp_X4_put n0 n1 I J S L p0 p1 p2 p3 p4 p5 (fun I1 J1 S1 L1 => Φ I1 J1 (va_up S1 0 (S 0)) L1)
set_option maxHeartbeats 1000000 in
theorem c_X4_put_O (l : Launch) (dC : Nat → ClassId) (dI : Nat → Nat → Nat) (a : Nat → Nat) (cy : Nat → ClassId) (n0 n1 : Nat) (sz : Nat) (I : TI) (J : TJ) (S : TS) (L : TL) (p0 : Int32) (p1 : Int32) (p2 : Int32) (p3 : Int32) (p4 : Int32) (p5 : Int32) (Φ : TI → TJ → TS → TL → Prop) (h : wp_X4_put_O n0 n1 I J S L p0 p1 p2 p3 p4 p5 Φ) : Met l yX4_put wsX4_put rmX4_put (va_Pc [.ref (a 14), .int p0, .int p1, .int p2, .int p3, .int p4, .int p5] (gpre dC dI (wO a cy n0 n1 I J S L) (tyL cy) sz)) (gQv dC dI (wO a cy n0 n1) (tyL cy) (va_A (wO a cy n0 n1 I J S L) sz) Φ) 0 0 (va_A (wO a cy n0 n1 I J S L) sz) :=
  met_cons_v (Wd := wL a cy n0 n1) (c_X4_put l dC dI a cy n0 n1 sz I J S L p0 p1 p2 p3 p4 p5 _ h) (wO_cons a cy n0 n1 (S 0))
def wp_X4_tearAt (n0 n1 : Nat) (I : TI) (J : TJ) (S : TS) (L : TL) (p0 : Int32) (p1 : Int32) (Φ : TI → TJ → TS → TL → Prop) : Prop := (vp_in p0 40) ∧ ∀ I_1 : TI, I_1 = va_up I 20 (upd (I 20) (p0).toNatClampNeg (((4095 : Int32) <<< (p1 &&& 31)) &&& (4095 : Int32))) → (Φ I_1 J S L)
theorem nX4_tearAt_X4 : ∀ w ∈ wsX40, w ∈ wsX4_tearAt := fun _ h => List.mem_cons_of_mem _ (List.mem_append_right _ h)
theorem kX4_tearAt_1 : Cond.fieldLink RX4 27 "SongOffice$ReportBook" "openWorks" "[I" ∈ wsX4_tearAt := List.mem_of_getElem? (i := 1) rfl
abbrev rmX4_tearAt : Room := { frames := 0, cells := 0, slots := 0, locals := 0 }
set_option maxHeartbeats 4000000 in
set_option maxRecDepth 100000 in
theorem c_X4_tearAt (l : Launch) (dC : Nat → ClassId) (dI : Nat → Nat → Nat) (a : Nat → Nat) (cy : Nat → ClassId) (n0 n1 : Nat) (sz : Nat) (I : TI) (J : TJ) (S : TS) (L : TL) (p0 : Int32) (p1 : Int32) (Φ : TI → TJ → TS → TL → Prop) (h : wp_X4_tearAt n0 n1 I J S L p0 p1 Φ) : Met l yX4_tearAt wsX4_tearAt rmX4_tearAt (va_Pc [.ref (a 14), .int p0, .int p1] (gpre dC dI (wL a cy n0 n1 I J S L) (tyL cy) sz)) (gQv dC dI (wL a cy n0 n1) (tyL cy) (va_A (wL a cy n0 n1 I J S L) sz) Φ) 0 0 (va_A (wL a cy n0 n1 I J S L) sz) := by
  refine Met.ofW (cc := cX4_tearAt) (maxL := 3) (ret := none) (by decide) rfl ?_
  intro p e s m args below meth c s₁ B hml hv
  obtain ⟨hargs, hsz, hP, hK, hD0, hN⟩ := hv
  have hx := B.exec
  have hb := B.bytes
  have hr := B.returns
  have hts := atoms_spec (ws := wsX4_tearAt) B.pre
  have hown : s.vm.findClass RX4 = some m.cls := findClass_of_methodNamed B.named
  have hlocks := B.notSynchronized
  subst hsz
  have hD := hD0.self (sz := s.heap.size)
  generalize hAe : va_A (wL a cy n0 n1 I J S L) s.heap.size = A at hD ⊢
  have hA : ∀ q : Nat, s.heap.size ≤ q → A q := fun q h => by rw [← hAe]; exact Or.inr h
  obtain ⟨H, hH⟩ : ∃ z : Heap, z = s.heap := ⟨_, rfl⟩
  rw [← hH] at hP
  have hS : va_S A s.heap H [] := by rw [hH]; exact va_S.rf
  have hl := lv_entry ([.ref (a 14), .int p0, .int p1]) (n := 3) (Nat.le_of_ble_eq_true rfl)
  have hE : entryFrame m args 3 = F0 m 0 ((lg_sl ([.ref (a 14), .int p0, .int p1]) ++ List.replicate (3 - (lg_sl ([.ref (a 14), .int p0, .int p1])).length) Slot.unset).toArray) [] := by rw [hargs]; exact lg_entry_eq m _ _
  rw [hE, ← hH]
  clear hE
  generalize (lg_sl ([.ref (a 14), .int p0, .int p1]) ++ List.replicate (3 - (lg_sl ([.ref (a 14), .int p0, .int p1])).length) Slot.unset).toArray = ls at hl ⊢
  have hl : lv_has ls 3 [(0, .ref (a 14)), (1, .int p0), (2, .int p1)] := hl
  unfold wp_X4_tearAt at h
  refine lv_aload_n hx hb dX4_tearAt_0 rfl (lv_at hl 0 rfl) ?_
  refine va_get (D := (dC, dI)) (ci := 4) (v := .ref (a 20)) (C := RX4) (T := TX4) (N := 6) hx hb hts nX4_tearAt_X4 hown hK hP 14 (wL_at14 _ _ _ _ _ _ _ _) rfl 5 (by decide) (hts (.fieldLink RX4 27 "SongOffice$ReportBook" "openWorks" "[I") kX4_tearAt_1) (fun _ h9 => h9) rfl dX4_tearAt_1 ?_
  refine lv_iload_n hx hb dX4_tearAt_4 rfl (lv_at hl 1 rfl) ?_
  refine lv_sipush (v := 4095) hx hb dX4_tearAt_5 (by decide) ?_
  refine lv_iload_n hx hb dX4_tearAt_8 rfl (lv_at hl 2 rfl) ?_
  refine lv_ishl hx hb dX4_tearAt_9 ?_
  refine lv_sipush (v := 4095) hx hb dX4_tearAt_10 (by decide) ?_
  refine lv_iand hx hb dX4_tearAt_13 ?_
  obtain ⟨hi, h⟩ := h
  obtain ⟨I_1, eI_1⟩ : ∃ z : TI, z = va_up I 20 (upd (I 20) (p0).toNatClampNeg (((4095 : Int32) <<< (p1 &&& 31)) &&& (4095 : Int32))) := ⟨_, rfl⟩
  have h := h I_1 eI_1
  refine va_iast hx hb hK hP hD hS 20 17 (wL_at20 _ _ _ _ _ _ _ _) rfl hi dX4_tearAt_14 (fun H locs hP hD hS => ?_)
  have hP : va_P (dC, dI) vwCl (wL a cy n0 n1 I_1 J S L) H := by rw [eI_1]; exact setP hP (wL_set20 _ _ _ _ _ _ _ _ _)
  have hD : va_D A (wL a cy n0 n1 I_1 J S L) := by rw [eI_1]; exact setD hD (wL_set20 _ _ _ _ _ _ _ _ _)
  exact grv hx hb hr hlocks hP hK hD hS h dX4_tearAt_15
def wp_X4_tearAt_O (n0 n1 : Nat) (I : TI) (J : TJ) (S : TS) (L : TL) (p0 : Int32) (p1 : Int32) (Φ : TI → TJ → TS → TL → Prop) : Prop := wp_X4_tearAt n0 n1 I J S L p0 p1 (fun I1 J1 S1 L1 => Φ I1 J1 (va_up S1 0 (S 0)) L1)
set_option maxHeartbeats 1000000 in
theorem c_X4_tearAt_O (l : Launch) (dC : Nat → ClassId) (dI : Nat → Nat → Nat) (a : Nat → Nat) (cy : Nat → ClassId) (n0 n1 : Nat) (sz : Nat) (I : TI) (J : TJ) (S : TS) (L : TL) (p0 : Int32) (p1 : Int32) (Φ : TI → TJ → TS → TL → Prop) (h : wp_X4_tearAt_O n0 n1 I J S L p0 p1 Φ) : Met l yX4_tearAt wsX4_tearAt rmX4_tearAt (va_Pc [.ref (a 14), .int p0, .int p1] (gpre dC dI (wO a cy n0 n1 I J S L) (tyL cy) sz)) (gQv dC dI (wO a cy n0 n1) (tyL cy) (va_A (wO a cy n0 n1 I J S L) sz) Φ) 0 0 (va_A (wO a cy n0 n1 I J S L) sz) :=
  met_cons_v (Wd := wL a cy n0 n1) (c_X4_tearAt l dC dI a cy n0 n1 sz I J S L p0 p1 _ h) (wO_cons a cy n0 n1 (S 0))
def wp_X4_tornAt (n0 n1 : Nat) (I : TI) (J : TJ) (S : TS) (L : TL) (p0 : Int32) (Φ : Int32 → TI → TJ → TS → TL → Prop) : Prop := (vp_in p0 40) ∧ (wp_J6_bitCount_0f7a4 I J S L (I 20 (p0).toNatClampNeg) (fun (r_5 : Int32) (I_1 : TI) (J_2 : TJ) (S_3 : TS) (L_4 : TL) => (Φ ((12 : Int32) - r_5) I_1 J_2 S_3 L_4)))
theorem nX4_tornAt_X4 : ∀ w ∈ wsX40, w ∈ wsX4_tornAt := fun _ h => List.mem_cons_of_mem _ (List.mem_append_right _ h)
theorem kX4_tornAt_1 : Cond.fieldLink RX4 27 "SongOffice$ReportBook" "openWorks" "[I" ∈ wsX4_tornAt := List.mem_of_getElem? (i := 1) rfl
abbrev rmX4_tornAt : Room := { frames := 1, cells := 0, slots := 0, locals := 20 }
set_option maxHeartbeats 4000000 in
set_option maxRecDepth 100000 in
theorem c_X4_tornAt (l : Launch) (dC : Nat → ClassId) (dI : Nat → Nat → Nat) (a : Nat → Nat) (cy : Nat → ClassId) (n0 n1 : Nat) (sz : Nat) (I : TI) (J : TJ) (S : TS) (L : TL) (p0 : Int32) (Φ : Int32 → TI → TJ → TS → TL → Prop) (h : wp_X4_tornAt n0 n1 I J S L p0 Φ) : Met l yX4_tornAt wsX4_tornAt rmX4_tornAt (va_Pc [.ref (a 14), .int p0] (gpre dC dI (wL a cy n0 n1 I J S L) (tyL cy) sz)) (gQi dC dI (wL a cy n0 n1) (tyL cy) (va_A (wL a cy n0 n1 I J S L) sz) Φ) 0 0 (va_A (wL a cy n0 n1 I J S L) sz) := by
  refine Met.ofW (cc := cX4_tornAt) (maxL := 2) (ret := (some .int)) (by decide) rfl ?_
  intro p e s m args below meth c s₁ B hml hv
  obtain ⟨hargs, hsz, hP, hK, hD0, hN⟩ := hv
  have hx := B.exec
  have hb := B.bytes
  have hr := B.returns
  have hts := atoms_spec (ws := wsX4_tornAt) B.pre
  have hown : s.vm.findClass RX4 = some m.cls := findClass_of_methodNamed B.named
  have hlocks := B.notSynchronized
  subst hsz
  have hD := hD0.self (sz := s.heap.size)
  generalize hAe : va_A (wL a cy n0 n1 I J S L) s.heap.size = A at hD ⊢
  have hA : ∀ q : Nat, s.heap.size ≤ q → A q := fun q h => by rw [← hAe]; exact Or.inr h
  obtain ⟨H, hH⟩ : ∃ z : Heap, z = s.heap := ⟨_, rfl⟩
  rw [← hH] at hP
  have hS : va_S A s.heap H [] := by rw [hH]; exact va_S.rf
  have hl := lv_entry ([.ref (a 14), .int p0]) (n := 2) (Nat.le_of_ble_eq_true rfl)
  have hE : entryFrame m args 2 = F0 m 0 ((lg_sl ([.ref (a 14), .int p0]) ++ List.replicate (2 - (lg_sl ([.ref (a 14), .int p0])).length) Slot.unset).toArray) [] := by rw [hargs]; exact lg_entry_eq m _ _
  rw [hE, ← hH]
  clear hE
  generalize (lg_sl ([.ref (a 14), .int p0]) ++ List.replicate (2 - (lg_sl ([.ref (a 14), .int p0])).length) Slot.unset).toArray = ls at hl ⊢
  have hl : lv_has ls 2 [(0, .ref (a 14)), (1, .int p0)] := hl
  unfold wp_X4_tornAt at h
  refine lv_bipush (v := 12) hx hb dX4_tornAt_0 (by decide) ?_
  refine lv_aload_n hx hb dX4_tornAt_2 rfl (lv_at hl 0 rfl) ?_
  refine va_get (D := (dC, dI)) (ci := 4) (v := .ref (a 20)) (C := RX4) (T := TX4) (N := 6) hx hb hts nX4_tornAt_X4 hown hK hP 14 (wL_at14 _ _ _ _ _ _ _ _) rfl 5 (by decide) (hts (.fieldLink RX4 27 "SongOffice$ReportBook" "openWorks" "[I") kX4_tornAt_1) (fun _ h9 => h9) rfl dX4_tornAt_3 ?_
  refine lv_iload_n hx hb dX4_tornAt_6 rfl (lv_at hl 1 rfl) ?_
  obtain ⟨hi, h⟩ := h
  refine va_iald hx hb hK hP 20 17 (wL_at20 _ _ _ _ _ _ _ _) rfl hi dX4_tornAt_7 ?_
  refine gcalli (va_runS (As := [.int (I 20 (p0).toNatClampNeg)]) (rest := [.int (12 : Int32)]) ⟨hx, hb, hml, hown, hts⟩ (c_J6_bitCount_0f7a4 l dC dI (wL a cy n0 n1) (tyL cy) H.size I J S L (I 20 (p0).toNatClampNeg) _ h) (va_cwS 1 hts gX4_tornAt_J6_bitCount_0f7a4 rfl rfl rfl (by decide +kernel) ⟨(Nat.le_of_ble_eq_true rfl), (Nat.le_of_ble_eq_true rfl)⟩) (g_pS hP hK hD hN [.int (I 20 (p0).toNatClampNeg)]) rfl rfl hl.1 rfl (lv_room (Nat.le_of_ble_eq_true rfl)) dX4_tornAt_8 ⟨(Nat.le_of_ble_eq_true rfl), (Nat.le_of_ble_eq_true rfl)⟩) hS hA hD (fun r_5 I_1 J_2 S_3 L_4 H locs hP hD hS h => ?_)
  refine lv_isub hx hb dX4_tornAt_11 ?_
  exact gri hx hb hr hlocks hP hK hD hS h dX4_tornAt_12
def wp_X4_tornAt_O (n0 n1 : Nat) (I : TI) (J : TJ) (S : TS) (L : TL) (p0 : Int32) (Φ : Int32 → TI → TJ → TS → TL → Prop) : Prop := wp_X4_tornAt n0 n1 I J S L p0 (fun r I1 J1 S1 L1 => Φ r I1 J1 (va_up S1 0 (S 0)) L1)
set_option maxHeartbeats 1000000 in
theorem c_X4_tornAt_O (l : Launch) (dC : Nat → ClassId) (dI : Nat → Nat → Nat) (a : Nat → Nat) (cy : Nat → ClassId) (n0 n1 : Nat) (sz : Nat) (I : TI) (J : TJ) (S : TS) (L : TL) (p0 : Int32) (Φ : Int32 → TI → TJ → TS → TL → Prop) (h : wp_X4_tornAt_O n0 n1 I J S L p0 Φ) : Met l yX4_tornAt wsX4_tornAt rmX4_tornAt (va_Pc [.ref (a 14), .int p0] (gpre dC dI (wO a cy n0 n1 I J S L) (tyL cy) sz)) (gQi dC dI (wO a cy n0 n1) (tyL cy) (va_A (wO a cy n0 n1 I J S L) sz) Φ) 0 0 (va_A (wO a cy n0 n1 I J S L) sz) :=
  met_cons_i (Wd := wL a cy n0 n1) (c_X4_tornAt l dC dI a cy n0 n1 sz I J S L p0 _ h) (wO_cons a cy n0 n1 (S 0))
def wp_X4_bringBack (n0 n1 : Nat) (I : TI) (J : TJ) (S : TS) (L : TL) (p0 : Int32) (p1 : Int32) (Φ : TI → TJ → TS → TL → Prop) : Prop := (vp_in p0 40) ∧ ((vp_in p0 40) ∧ ∀ I_1 : TI, I_1 = va_up I 20 (upd (I 20) (p0).toNatClampNeg ((I 20 (p0).toNatClampNeg) &&& (((1 : Int32) <<< (p1 &&& 31)) ^^^ (-1 : Int32)))) → (Φ I_1 J S L))
theorem nX4_bringBack_X4 : ∀ w ∈ wsX40, w ∈ wsX4_bringBack := fun _ h => List.mem_cons_of_mem _ (List.mem_append_right _ h)
theorem kX4_bringBack_1 : Cond.fieldLink RX4 27 "SongOffice$ReportBook" "openWorks" "[I" ∈ wsX4_bringBack := List.mem_of_getElem? (i := 1) rfl
abbrev rmX4_bringBack : Room := { frames := 0, cells := 0, slots := 0, locals := 0 }
set_option maxHeartbeats 4000000 in
set_option maxRecDepth 100000 in
theorem c_X4_bringBack (l : Launch) (dC : Nat → ClassId) (dI : Nat → Nat → Nat) (a : Nat → Nat) (cy : Nat → ClassId) (n0 n1 : Nat) (sz : Nat) (I : TI) (J : TJ) (S : TS) (L : TL) (p0 : Int32) (p1 : Int32) (Φ : TI → TJ → TS → TL → Prop) (h : wp_X4_bringBack n0 n1 I J S L p0 p1 Φ) : Met l yX4_bringBack wsX4_bringBack rmX4_bringBack (va_Pc [.ref (a 14), .int p0, .int p1] (gpre dC dI (wL a cy n0 n1 I J S L) (tyL cy) sz)) (gQv dC dI (wL a cy n0 n1) (tyL cy) (va_A (wL a cy n0 n1 I J S L) sz) Φ) 0 0 (va_A (wL a cy n0 n1 I J S L) sz) := by
  refine Met.ofW (cc := cX4_bringBack) (maxL := 3) (ret := none) (by decide) rfl ?_
  intro p e s m args below meth c s₁ B hml hv
  obtain ⟨hargs, hsz, hP, hK, hD0, hN⟩ := hv
  have hx := B.exec
  have hb := B.bytes
  have hr := B.returns
  have hts := atoms_spec (ws := wsX4_bringBack) B.pre
  have hown : s.vm.findClass RX4 = some m.cls := findClass_of_methodNamed B.named
  have hlocks := B.notSynchronized
  subst hsz
  have hD := hD0.self (sz := s.heap.size)
  generalize hAe : va_A (wL a cy n0 n1 I J S L) s.heap.size = A at hD ⊢
  have hA : ∀ q : Nat, s.heap.size ≤ q → A q := fun q h => by rw [← hAe]; exact Or.inr h
  obtain ⟨H, hH⟩ : ∃ z : Heap, z = s.heap := ⟨_, rfl⟩
  rw [← hH] at hP
  have hS : va_S A s.heap H [] := by rw [hH]; exact va_S.rf
  have hl := lv_entry ([.ref (a 14), .int p0, .int p1]) (n := 3) (Nat.le_of_ble_eq_true rfl)
  have hE : entryFrame m args 3 = F0 m 0 ((lg_sl ([.ref (a 14), .int p0, .int p1]) ++ List.replicate (3 - (lg_sl ([.ref (a 14), .int p0, .int p1])).length) Slot.unset).toArray) [] := by rw [hargs]; exact lg_entry_eq m _ _
  rw [hE, ← hH]
  clear hE
  generalize (lg_sl ([.ref (a 14), .int p0, .int p1]) ++ List.replicate (3 - (lg_sl ([.ref (a 14), .int p0, .int p1])).length) Slot.unset).toArray = ls at hl ⊢
  have hl : lv_has ls 3 [(0, .ref (a 14)), (1, .int p0), (2, .int p1)] := hl
  unfold wp_X4_bringBack at h
  refine lv_aload_n hx hb dX4_bringBack_0 rfl (lv_at hl 0 rfl) ?_
  refine va_get (D := (dC, dI)) (ci := 4) (v := .ref (a 20)) (C := RX4) (T := TX4) (N := 6) hx hb hts nX4_bringBack_X4 hown hK hP 14 (wL_at14 _ _ _ _ _ _ _ _) rfl 5 (by decide) (hts (.fieldLink RX4 27 "SongOffice$ReportBook" "openWorks" "[I") kX4_bringBack_1) (fun _ h9 => h9) rfl dX4_bringBack_1 ?_
  refine lv_iload_n hx hb dX4_bringBack_4 rfl (lv_at hl 1 rfl) ?_
  refine lv_dup2_11 hx hb dX4_bringBack_5 rfl rfl ?_
  obtain ⟨hi, h⟩ := h
  refine va_iald hx hb hK hP 20 17 (wL_at20 _ _ _ _ _ _ _ _) rfl hi dX4_bringBack_6 ?_
  refine lv_iconst (v := 1) hx hb dX4_bringBack_7 (by decide) ?_
  refine lv_iload_n hx hb dX4_bringBack_8 rfl (lv_at hl 2 rfl) ?_
  refine lv_ishl hx hb dX4_bringBack_9 ?_
  refine lv_iconst (v := -1) hx hb dX4_bringBack_10 (by decide) ?_
  refine lv_ixor hx hb dX4_bringBack_11 ?_
  refine lv_iand hx hb dX4_bringBack_12 ?_
  obtain ⟨hi, h⟩ := h
  obtain ⟨I_1, eI_1⟩ : ∃ z : TI, z = va_up I 20 (upd (I 20) (p0).toNatClampNeg ((I 20 (p0).toNatClampNeg) &&& (((1 : Int32) <<< (p1 &&& 31)) ^^^ (-1 : Int32)))) := ⟨_, rfl⟩
  have h := h I_1 eI_1
  refine va_iast hx hb hK hP hD hS 20 17 (wL_at20 _ _ _ _ _ _ _ _) rfl hi dX4_bringBack_13 (fun H locs hP hD hS => ?_)
  have hP : va_P (dC, dI) vwCl (wL a cy n0 n1 I_1 J S L) H := by rw [eI_1]; exact setP hP (wL_set20 _ _ _ _ _ _ _ _ _)
  have hD : va_D A (wL a cy n0 n1 I_1 J S L) := by rw [eI_1]; exact setD hD (wL_set20 _ _ _ _ _ _ _ _ _)
  exact grv hx hb hr hlocks hP hK hD hS h dX4_bringBack_14
def wp_X4_bringBack_O (n0 n1 : Nat) (I : TI) (J : TJ) (S : TS) (L : TL) (p0 : Int32) (p1 : Int32) (Φ : TI → TJ → TS → TL → Prop) : Prop := wp_X4_bringBack n0 n1 I J S L p0 p1 (fun I1 J1 S1 L1 => Φ I1 J1 (va_up S1 0 (S 0)) L1)
set_option maxHeartbeats 1000000 in
theorem c_X4_bringBack_O (l : Launch) (dC : Nat → ClassId) (dI : Nat → Nat → Nat) (a : Nat → Nat) (cy : Nat → ClassId) (n0 n1 : Nat) (sz : Nat) (I : TI) (J : TJ) (S : TS) (L : TL) (p0 : Int32) (p1 : Int32) (Φ : TI → TJ → TS → TL → Prop) (h : wp_X4_bringBack_O n0 n1 I J S L p0 p1 Φ) : Met l yX4_bringBack wsX4_bringBack rmX4_bringBack (va_Pc [.ref (a 14), .int p0, .int p1] (gpre dC dI (wO a cy n0 n1 I J S L) (tyL cy) sz)) (gQv dC dI (wO a cy n0 n1) (tyL cy) (va_A (wO a cy n0 n1 I J S L) sz) Φ) 0 0 (va_A (wO a cy n0 n1 I J S L) sz) :=
  met_cons_v (Wd := wL a cy n0 n1) (c_X4_bringBack l dC dI a cy n0 n1 sz I J S L p0 p1 _ h) (wO_cons a cy n0 n1 (S 0))
def wp_X4_isOpen (n0 n1 : Nat) (I : TI) (J : TJ) (S : TS) (L : TL) (p0 : Int32) (p1 : Int32) (Φ : Int32 → TI → TJ → TS → TL → Prop) : Prop := (vp_in p0 40) ∧ (∃ B_1 : TI → TJ → TS → TL → Int32 → Prop, (∀ (I_2 : TI) (J_3 : TJ) (S_4 : TS) (L_5 : TL) (s_6 : Int32), B_1 I_2 J_3 S_4 L_5 s_6 → ((s_6 = 0 ∨ s_6 = 1) ∧ Φ s_6 I_2 J_3 S_4 L_5)) ∧ (((¬ (((I 20 (p0).toNatClampNeg) >>> (p1 &&& 31)) &&& (1 : Int32)) = (1 : Int32)) → (B_1 I J S L (0 : Int32))) ∧ (((((I 20 (p0).toNatClampNeg) >>> (p1 &&& 31)) &&& (1 : Int32)) = (1 : Int32)) → (B_1 I J S L (1 : Int32)))))
theorem nX4_isOpen_X4 : ∀ w ∈ wsX40, w ∈ wsX4_isOpen := fun _ h => List.mem_cons_of_mem _ (List.mem_append_right _ h)
theorem kX4_isOpen_1 : Cond.fieldLink RX4 27 "SongOffice$ReportBook" "openWorks" "[I" ∈ wsX4_isOpen := List.mem_of_getElem? (i := 1) rfl
abbrev rmX4_isOpen : Room := { frames := 0, cells := 0, slots := 0, locals := 0 }
set_option maxHeartbeats 4000000 in
set_option maxRecDepth 100000 in
theorem c_X4_isOpen (l : Launch) (dC : Nat → ClassId) (dI : Nat → Nat → Nat) (a : Nat → Nat) (cy : Nat → ClassId) (n0 n1 : Nat) (sz : Nat) (I : TI) (J : TJ) (S : TS) (L : TL) (p0 : Int32) (p1 : Int32) (Φ : Int32 → TI → TJ → TS → TL → Prop) (h : wp_X4_isOpen n0 n1 I J S L p0 p1 Φ) : Met l yX4_isOpen wsX4_isOpen rmX4_isOpen (va_Pc [.ref (a 14), .int p0, .int p1] (gpre dC dI (wL a cy n0 n1 I J S L) (tyL cy) sz)) (gQi dC dI (wL a cy n0 n1) (tyL cy) (va_A (wL a cy n0 n1 I J S L) sz) Φ) 0 0 (va_A (wL a cy n0 n1 I J S L) sz) := by
  refine Met.ofW (cc := cX4_isOpen) (maxL := 3) (ret := (some .boolean)) (by decide) rfl ?_
  intro p e s m args below meth c s₁ B hml hv
  obtain ⟨hargs, hsz, hP, hK, hD0, hN⟩ := hv
  have hx := B.exec
  have hb := B.bytes
  have hr := B.returns
  have hts := atoms_spec (ws := wsX4_isOpen) B.pre
  have hown : s.vm.findClass RX4 = some m.cls := findClass_of_methodNamed B.named
  have hlocks := B.notSynchronized
  subst hsz
  have hD := hD0.self (sz := s.heap.size)
  generalize hAe : va_A (wL a cy n0 n1 I J S L) s.heap.size = A at hD ⊢
  have hA : ∀ q : Nat, s.heap.size ≤ q → A q := fun q h => by rw [← hAe]; exact Or.inr h
  obtain ⟨H, hH⟩ : ∃ z : Heap, z = s.heap := ⟨_, rfl⟩
  rw [← hH] at hP
  have hS : va_S A s.heap H [] := by rw [hH]; exact va_S.rf
  have hl := lv_entry ([.ref (a 14), .int p0, .int p1]) (n := 3) (Nat.le_of_ble_eq_true rfl)
  have hE : entryFrame m args 3 = F0 m 0 ((lg_sl ([.ref (a 14), .int p0, .int p1]) ++ List.replicate (3 - (lg_sl ([.ref (a 14), .int p0, .int p1])).length) Slot.unset).toArray) [] := by rw [hargs]; exact lg_entry_eq m _ _
  rw [hE, ← hH]
  clear hE
  generalize (lg_sl ([.ref (a 14), .int p0, .int p1]) ++ List.replicate (3 - (lg_sl ([.ref (a 14), .int p0, .int p1])).length) Slot.unset).toArray = ls at hl ⊢
  have hl : lv_has ls 3 [(0, .ref (a 14)), (1, .int p0), (2, .int p1)] := hl
  unfold wp_X4_isOpen at h
  refine lv_aload_n hx hb dX4_isOpen_0 rfl (lv_at hl 0 rfl) ?_
  refine va_get (D := (dC, dI)) (ci := 4) (v := .ref (a 20)) (C := RX4) (T := TX4) (N := 6) hx hb hts nX4_isOpen_X4 hown hK hP 14 (wL_at14 _ _ _ _ _ _ _ _) rfl 5 (by decide) (hts (.fieldLink RX4 27 "SongOffice$ReportBook" "openWorks" "[I") kX4_isOpen_1) (fun _ h9 => h9) rfl dX4_isOpen_1 ?_
  refine lv_iload_n hx hb dX4_isOpen_4 rfl (lv_at hl 1 rfl) ?_
  obtain ⟨hi, h⟩ := h
  refine va_iald hx hb hK hP 20 17 (wL_at20 _ _ _ _ _ _ _ _) rfl hi dX4_isOpen_5 ?_
  refine lv_iload_n hx hb dX4_isOpen_6 rfl (lv_at hl 2 rfl) ?_
  refine lv_ishr hx hb dX4_isOpen_7 ?_
  refine lv_iconst (v := 1) hx hb dX4_isOpen_8 (by decide) ?_
  refine lv_iand hx hb dX4_isOpen_9 ?_
  refine lv_iconst (v := 1) hx hb dX4_isOpen_10 (by decide) ?_
  obtain ⟨B_1, hB_1, h⟩ := h
  have jB_1 : ∀ (I_2 : TI) (J_3 : TJ) (S_4 : TS) (L_5 : TL) (s_6 : Int32) (H : Heap) (locs : List Loc) (ls : Array Slot), va_P (dC, dI) vwCl (wL a cy n0 n1 I_2 J_3 S_4 L_5) H → va_D A (wL a cy n0 n1 I_2 J_3 S_4 L_5) → va_S A s.heap H locs → lv_has ls 3 [] → B_1 I_2 J_3 S_4 L_5 s_6 → W p l e (headSpec wsX4_isOpen rmX4_isOpen).room s m args below meth c H locs 0 0 (MQ below (gQi dC dI (wL a cy n0 n1) (tyL cy) A Φ) args s 0 0 A) (F0 m 19 ls [.int s_6]) := by
    intro I_2 J_3 S_4 L_5 s_6 H locs ls hP hD hS hl h
    have h := hB_1 I_2 J_3 S_4 L_5 s_6 h
    exact grz hx hb hr hlocks hP hK hD hS h dX4_isOpen_19
  refine lv_icmp_ne (tgt := 18) hx hb dX4_isOpen_11 (by decide) (fun hc => ?_) (fun hc => ?_)
  · have h := h.1 hc
    refine lv_iconst (v := 0) hx hb dX4_isOpen_18 (by decide) ?_
    exact jB_1 I J S L (0 : Int32) _ _ _ hP hD hS (lv_sub hl [] rfl) h
  · have h := h.2 hc
    refine lv_iconst (v := 1) hx hb dX4_isOpen_14 (by decide) ?_
    refine lv_goto (tgt := 19) hx hb dX4_isOpen_15 (by decide) ?_
    exact jB_1 I J S L (1 : Int32) _ _ _ hP hD hS (lv_sub hl [] rfl) h
def wp_X4_isOpen_O (n0 n1 : Nat) (I : TI) (J : TJ) (S : TS) (L : TL) (p0 : Int32) (p1 : Int32) (Φ : Int32 → TI → TJ → TS → TL → Prop) : Prop := wp_X4_isOpen n0 n1 I J S L p0 p1 (fun r I1 J1 S1 L1 => Φ r I1 J1 (va_up S1 0 (S 0)) L1)
set_option maxHeartbeats 1000000 in
theorem c_X4_isOpen_O (l : Launch) (dC : Nat → ClassId) (dI : Nat → Nat → Nat) (a : Nat → Nat) (cy : Nat → ClassId) (n0 n1 : Nat) (sz : Nat) (I : TI) (J : TJ) (S : TS) (L : TL) (p0 : Int32) (p1 : Int32) (Φ : Int32 → TI → TJ → TS → TL → Prop) (h : wp_X4_isOpen_O n0 n1 I J S L p0 p1 Φ) : Met l yX4_isOpen wsX4_isOpen rmX4_isOpen (va_Pc [.ref (a 14), .int p0, .int p1] (gpre dC dI (wO a cy n0 n1 I J S L) (tyL cy) sz)) (gQi dC dI (wO a cy n0 n1) (tyL cy) (va_A (wO a cy n0 n1 I J S L) sz) Φ) 0 0 (va_A (wO a cy n0 n1 I J S L) sz) :=
  met_cons_i (Wd := wL a cy n0 n1) (c_X4_isOpen l dC dI a cy n0 n1 sz I J S L p0 p1 _ h) (wO_cons a cy n0 n1 (S 0))
def wp_X4_sizeOf (n0 n1 : Nat) (I : TI) (J : TJ) (S : TS) (L : TL) (p0 : Int32) (Φ : Int32 → TI → TJ → TS → TL → Prop) : Prop := (vp_in p0 40) ∧ (Φ (I 19 (p0).toNatClampNeg) I J S L)
theorem nX4_sizeOf_X4 : ∀ w ∈ wsX40, w ∈ wsX4_sizeOf := fun _ h => List.mem_cons_of_mem _ (List.mem_append_right _ h)
theorem kX4_sizeOf_1 : Cond.fieldLink RX4 24 "SongOffice$ReportBook" "sizes" "[I" ∈ wsX4_sizeOf := List.mem_of_getElem? (i := 1) rfl
abbrev rmX4_sizeOf : Room := { frames := 0, cells := 0, slots := 0, locals := 0 }
set_option maxHeartbeats 4000000 in
set_option maxRecDepth 100000 in
theorem c_X4_sizeOf (l : Launch) (dC : Nat → ClassId) (dI : Nat → Nat → Nat) (a : Nat → Nat) (cy : Nat → ClassId) (n0 n1 : Nat) (sz : Nat) (I : TI) (J : TJ) (S : TS) (L : TL) (p0 : Int32) (Φ : Int32 → TI → TJ → TS → TL → Prop) (h : wp_X4_sizeOf n0 n1 I J S L p0 Φ) : Met l yX4_sizeOf wsX4_sizeOf rmX4_sizeOf (va_Pc [.ref (a 14), .int p0] (gpre dC dI (wL a cy n0 n1 I J S L) (tyL cy) sz)) (gQi dC dI (wL a cy n0 n1) (tyL cy) (va_A (wL a cy n0 n1 I J S L) sz) Φ) 0 0 (va_A (wL a cy n0 n1 I J S L) sz) := by
  refine Met.ofW (cc := cX4_sizeOf) (maxL := 2) (ret := (some .int)) (by decide) rfl ?_
  intro p e s m args below meth c s₁ B hml hv
  obtain ⟨hargs, hsz, hP, hK, hD0, hN⟩ := hv
  have hx := B.exec
  have hb := B.bytes
  have hr := B.returns
  have hts := atoms_spec (ws := wsX4_sizeOf) B.pre
  have hown : s.vm.findClass RX4 = some m.cls := findClass_of_methodNamed B.named
  have hlocks := B.notSynchronized
  subst hsz
  have hD := hD0.self (sz := s.heap.size)
  generalize hAe : va_A (wL a cy n0 n1 I J S L) s.heap.size = A at hD ⊢
  have hA : ∀ q : Nat, s.heap.size ≤ q → A q := fun q h => by rw [← hAe]; exact Or.inr h
  obtain ⟨H, hH⟩ : ∃ z : Heap, z = s.heap := ⟨_, rfl⟩
  rw [← hH] at hP
  have hS : va_S A s.heap H [] := by rw [hH]; exact va_S.rf
  have hl := lv_entry ([.ref (a 14), .int p0]) (n := 2) (Nat.le_of_ble_eq_true rfl)
  have hE : entryFrame m args 2 = F0 m 0 ((lg_sl ([.ref (a 14), .int p0]) ++ List.replicate (2 - (lg_sl ([.ref (a 14), .int p0])).length) Slot.unset).toArray) [] := by rw [hargs]; exact lg_entry_eq m _ _
  rw [hE, ← hH]
  clear hE
  generalize (lg_sl ([.ref (a 14), .int p0]) ++ List.replicate (2 - (lg_sl ([.ref (a 14), .int p0])).length) Slot.unset).toArray = ls at hl ⊢
  have hl : lv_has ls 2 [(0, .ref (a 14)), (1, .int p0)] := hl
  unfold wp_X4_sizeOf at h
  refine lv_aload_n hx hb dX4_sizeOf_0 rfl (lv_at hl 0 rfl) ?_
  refine va_get (D := (dC, dI)) (ci := 4) (v := .ref (a 19)) (C := RX4) (T := TX4) (N := 6) hx hb hts nX4_sizeOf_X4 hown hK hP 14 (wL_at14 _ _ _ _ _ _ _ _) rfl 4 (by decide) (hts (.fieldLink RX4 24 "SongOffice$ReportBook" "sizes" "[I") kX4_sizeOf_1) (fun _ h9 => h9) rfl dX4_sizeOf_1 ?_
  refine lv_iload_n hx hb dX4_sizeOf_4 rfl (lv_at hl 1 rfl) ?_
  obtain ⟨hi, h⟩ := h
  refine va_iald hx hb hK hP 19 16 (wL_at19 _ _ _ _ _ _ _ _) rfl hi dX4_sizeOf_5 ?_
  exact gri hx hb hr hlocks hP hK hD hS h dX4_sizeOf_6
def wp_X4_workAt (n0 n1 : Nat) (I : TI) (J : TJ) (S : TS) (L : TL) (p0 : Int32) (p1 : Int32) (Φ : Int32 → TI → TJ → TS → TL → Prop) : Prop := (vp_in ((p0 * (12 : Int32)) + p1) 480) ∧ (Φ (I 18 (((p0 * (12 : Int32)) + p1)).toNatClampNeg) I J S L)
theorem nX4_workAt_X4 : ∀ w ∈ wsX40, w ∈ wsX4_workAt := fun _ h => List.mem_cons_of_mem _ (List.mem_append_right _ h)
theorem kX4_workAt_1 : Cond.fieldLink RX4 21 "SongOffice$ReportBook" "order" "[I" ∈ wsX4_workAt := List.mem_of_getElem? (i := 1) rfl
abbrev rmX4_workAt : Room := { frames := 0, cells := 0, slots := 0, locals := 0 }
set_option maxHeartbeats 4000000 in
set_option maxRecDepth 100000 in
theorem c_X4_workAt (l : Launch) (dC : Nat → ClassId) (dI : Nat → Nat → Nat) (a : Nat → Nat) (cy : Nat → ClassId) (n0 n1 : Nat) (sz : Nat) (I : TI) (J : TJ) (S : TS) (L : TL) (p0 : Int32) (p1 : Int32) (Φ : Int32 → TI → TJ → TS → TL → Prop) (h : wp_X4_workAt n0 n1 I J S L p0 p1 Φ) : Met l yX4_workAt wsX4_workAt rmX4_workAt (va_Pc [.ref (a 14), .int p0, .int p1] (gpre dC dI (wL a cy n0 n1 I J S L) (tyL cy) sz)) (gQi dC dI (wL a cy n0 n1) (tyL cy) (va_A (wL a cy n0 n1 I J S L) sz) Φ) 0 0 (va_A (wL a cy n0 n1 I J S L) sz) := by
  refine Met.ofW (cc := cX4_workAt) (maxL := 3) (ret := (some .int)) (by decide) rfl ?_
  intro p e s m args below meth c s₁ B hml hv
  obtain ⟨hargs, hsz, hP, hK, hD0, hN⟩ := hv
  have hx := B.exec
  have hb := B.bytes
  have hr := B.returns
  have hts := atoms_spec (ws := wsX4_workAt) B.pre
  have hown : s.vm.findClass RX4 = some m.cls := findClass_of_methodNamed B.named
  have hlocks := B.notSynchronized
  subst hsz
  have hD := hD0.self (sz := s.heap.size)
  generalize hAe : va_A (wL a cy n0 n1 I J S L) s.heap.size = A at hD ⊢
  have hA : ∀ q : Nat, s.heap.size ≤ q → A q := fun q h => by rw [← hAe]; exact Or.inr h
  obtain ⟨H, hH⟩ : ∃ z : Heap, z = s.heap := ⟨_, rfl⟩
  rw [← hH] at hP
  have hS : va_S A s.heap H [] := by rw [hH]; exact va_S.rf
  have hl := lv_entry ([.ref (a 14), .int p0, .int p1]) (n := 3) (Nat.le_of_ble_eq_true rfl)
  have hE : entryFrame m args 3 = F0 m 0 ((lg_sl ([.ref (a 14), .int p0, .int p1]) ++ List.replicate (3 - (lg_sl ([.ref (a 14), .int p0, .int p1])).length) Slot.unset).toArray) [] := by rw [hargs]; exact lg_entry_eq m _ _
  rw [hE, ← hH]
  clear hE
  generalize (lg_sl ([.ref (a 14), .int p0, .int p1]) ++ List.replicate (3 - (lg_sl ([.ref (a 14), .int p0, .int p1])).length) Slot.unset).toArray = ls at hl ⊢
  have hl : lv_has ls 3 [(0, .ref (a 14)), (1, .int p0), (2, .int p1)] := hl
  unfold wp_X4_workAt at h
  refine lv_aload_n hx hb dX4_workAt_0 rfl (lv_at hl 0 rfl) ?_
  refine va_get (D := (dC, dI)) (ci := 4) (v := .ref (a 18)) (C := RX4) (T := TX4) (N := 6) hx hb hts nX4_workAt_X4 hown hK hP 14 (wL_at14 _ _ _ _ _ _ _ _) rfl 3 (by decide) (hts (.fieldLink RX4 21 "SongOffice$ReportBook" "order" "[I") kX4_workAt_1) (fun _ h9 => h9) rfl dX4_workAt_1 ?_
  refine lv_iload_n hx hb dX4_workAt_4 rfl (lv_at hl 1 rfl) ?_
  refine lv_bipush (v := 12) hx hb dX4_workAt_5 (by decide) ?_
  refine lv_imul hx hb dX4_workAt_7 ?_
  refine lv_iload_n hx hb dX4_workAt_8 rfl (lv_at hl 2 rfl) ?_
  refine lv_iadd hx hb dX4_workAt_9 ?_
  obtain ⟨hi, h⟩ := h
  refine va_iald hx hb hK hP 18 15 (wL_at18 _ _ _ _ _ _ _ _) rfl hi dX4_workAt_10 ?_
  exact gri hx hb hr hlocks hP hK hD hS h dX4_workAt_11
def wp_X4_coinsOf (n0 n1 : Nat) (I : TI) (J : TJ) (S : TS) (L : TL) (p0 : Int32) (p1 : Int32) (p2 : Int32) (Φ : Int32 → TI → TJ → TS → TL → Prop) : Prop := (vp_in ((((p0 * (12 : Int32)) + p1) * (3 : Int32)) + p2) 1440) ∧ (Φ (I 15 (((((p0 * (12 : Int32)) + p1) * (3 : Int32)) + p2)).toNatClampNeg) I J S L)
theorem nX4_coinsOf_X4 : ∀ w ∈ wsX40, w ∈ wsX4_coinsOf := fun _ h => List.mem_cons_of_mem _ (List.mem_append_right _ h)
theorem kX4_coinsOf_1 : Cond.fieldLink RX4 9 "SongOffice$ReportBook" "coins" "[I" ∈ wsX4_coinsOf := List.mem_of_getElem? (i := 1) rfl
abbrev rmX4_coinsOf : Room := { frames := 0, cells := 0, slots := 0, locals := 0 }
set_option maxHeartbeats 4000000 in
set_option maxRecDepth 100000 in
theorem c_X4_coinsOf (l : Launch) (dC : Nat → ClassId) (dI : Nat → Nat → Nat) (a : Nat → Nat) (cy : Nat → ClassId) (n0 n1 : Nat) (sz : Nat) (I : TI) (J : TJ) (S : TS) (L : TL) (p0 : Int32) (p1 : Int32) (p2 : Int32) (Φ : Int32 → TI → TJ → TS → TL → Prop) (h : wp_X4_coinsOf n0 n1 I J S L p0 p1 p2 Φ) : Met l yX4_coinsOf wsX4_coinsOf rmX4_coinsOf (va_Pc [.ref (a 14), .int p0, .int p1, .int p2] (gpre dC dI (wL a cy n0 n1 I J S L) (tyL cy) sz)) (gQi dC dI (wL a cy n0 n1) (tyL cy) (va_A (wL a cy n0 n1 I J S L) sz) Φ) 0 0 (va_A (wL a cy n0 n1 I J S L) sz) := by
  refine Met.ofW (cc := cX4_coinsOf) (maxL := 4) (ret := (some .int)) (by decide) rfl ?_
  intro p e s m args below meth c s₁ B hml hv
  obtain ⟨hargs, hsz, hP, hK, hD0, hN⟩ := hv
  have hx := B.exec
  have hb := B.bytes
  have hr := B.returns
  have hts := atoms_spec (ws := wsX4_coinsOf) B.pre
  have hown : s.vm.findClass RX4 = some m.cls := findClass_of_methodNamed B.named
  have hlocks := B.notSynchronized
  subst hsz
  have hD := hD0.self (sz := s.heap.size)
  generalize hAe : va_A (wL a cy n0 n1 I J S L) s.heap.size = A at hD ⊢
  have hA : ∀ q : Nat, s.heap.size ≤ q → A q := fun q h => by rw [← hAe]; exact Or.inr h
  obtain ⟨H, hH⟩ : ∃ z : Heap, z = s.heap := ⟨_, rfl⟩
  rw [← hH] at hP
  have hS : va_S A s.heap H [] := by rw [hH]; exact va_S.rf
  have hl := lv_entry ([.ref (a 14), .int p0, .int p1, .int p2]) (n := 4) (Nat.le_of_ble_eq_true rfl)
  have hE : entryFrame m args 4 = F0 m 0 ((lg_sl ([.ref (a 14), .int p0, .int p1, .int p2]) ++ List.replicate (4 - (lg_sl ([.ref (a 14), .int p0, .int p1, .int p2])).length) Slot.unset).toArray) [] := by rw [hargs]; exact lg_entry_eq m _ _
  rw [hE, ← hH]
  clear hE
  generalize (lg_sl ([.ref (a 14), .int p0, .int p1, .int p2]) ++ List.replicate (4 - (lg_sl ([.ref (a 14), .int p0, .int p1, .int p2])).length) Slot.unset).toArray = ls at hl ⊢
  have hl : lv_has ls 4 [(0, .ref (a 14)), (1, .int p0), (2, .int p1), (3, .int p2)] := hl
  unfold wp_X4_coinsOf at h
  refine lv_aload_n hx hb dX4_coinsOf_0 rfl (lv_at hl 0 rfl) ?_
  refine va_get (D := (dC, dI)) (ci := 4) (v := .ref (a 15)) (C := RX4) (T := TX4) (N := 6) hx hb hts nX4_coinsOf_X4 hown hK hP 14 (wL_at14 _ _ _ _ _ _ _ _) rfl 0 (by decide) (hts (.fieldLink RX4 9 "SongOffice$ReportBook" "coins" "[I") kX4_coinsOf_1) (fun _ h9 => h9) rfl dX4_coinsOf_1 ?_
  refine lv_iload_n hx hb dX4_coinsOf_4 rfl (lv_at hl 1 rfl) ?_
  refine lv_bipush (v := 12) hx hb dX4_coinsOf_5 (by decide) ?_
  refine lv_imul hx hb dX4_coinsOf_7 ?_
  refine lv_iload_n hx hb dX4_coinsOf_8 rfl (lv_at hl 2 rfl) ?_
  refine lv_iadd hx hb dX4_coinsOf_9 ?_
  refine lv_iconst (v := 3) hx hb dX4_coinsOf_10 (by decide) ?_
  refine lv_imul hx hb dX4_coinsOf_11 ?_
  refine lv_iload_n hx hb dX4_coinsOf_12 rfl (lv_at hl 3 rfl) ?_
  refine lv_iadd hx hb dX4_coinsOf_13 ?_
  obtain ⟨hi, h⟩ := h
  refine va_iald hx hb hK hP 15 12 (wL_at15 _ _ _ _ _ _ _ _) rfl hi dX4_coinsOf_14 ?_
  exact gri hx hb hr hlocks hP hK hD hS h dX4_coinsOf_15
def wp_X4_coinsOf_O (n0 n1 : Nat) (I : TI) (J : TJ) (S : TS) (L : TL) (p0 : Int32) (p1 : Int32) (p2 : Int32) (Φ : Int32 → TI → TJ → TS → TL → Prop) : Prop := wp_X4_coinsOf n0 n1 I J S L p0 p1 p2 (fun r I1 J1 S1 L1 => Φ r I1 J1 (va_up S1 0 (S 0)) L1)
set_option maxHeartbeats 1000000 in
theorem c_X4_coinsOf_O (l : Launch) (dC : Nat → ClassId) (dI : Nat → Nat → Nat) (a : Nat → Nat) (cy : Nat → ClassId) (n0 n1 : Nat) (sz : Nat) (I : TI) (J : TJ) (S : TS) (L : TL) (p0 : Int32) (p1 : Int32) (p2 : Int32) (Φ : Int32 → TI → TJ → TS → TL → Prop) (h : wp_X4_coinsOf_O n0 n1 I J S L p0 p1 p2 Φ) : Met l yX4_coinsOf wsX4_coinsOf rmX4_coinsOf (va_Pc [.ref (a 14), .int p0, .int p1, .int p2] (gpre dC dI (wO a cy n0 n1 I J S L) (tyL cy) sz)) (gQi dC dI (wO a cy n0 n1) (tyL cy) (va_A (wO a cy n0 n1 I J S L) sz) Φ) 0 0 (va_A (wO a cy n0 n1 I J S L) sz) :=
  met_cons_i (Wd := wL a cy n0 n1) (c_X4_coinsOf l dC dI a cy n0 n1 sz I J S L p0 p1 p2 _ h) (wO_cons a cy n0 n1 (S 0))
def wp_X4_wayOf (n0 n1 : Nat) (I : TI) (J : TJ) (S : TS) (L : TL) (p0 : Int32) (p1 : Int32) (Φ : Int32 → TI → TJ → TS → TL → Prop) : Prop := (vp_in ((p0 * (12 : Int32)) + p1) 480) ∧ (Φ (I 16 (((p0 * (12 : Int32)) + p1)).toNatClampNeg) I J S L)
theorem nX4_wayOf_X4 : ∀ w ∈ wsX40, w ∈ wsX4_wayOf := fun _ h => List.mem_cons_of_mem _ (List.mem_append_right _ h)
theorem kX4_wayOf_1 : Cond.fieldLink RX4 15 "SongOffice$ReportBook" "ways" "[I" ∈ wsX4_wayOf := List.mem_of_getElem? (i := 1) rfl
abbrev rmX4_wayOf : Room := { frames := 0, cells := 0, slots := 0, locals := 0 }
set_option maxHeartbeats 4000000 in
set_option maxRecDepth 100000 in
theorem c_X4_wayOf (l : Launch) (dC : Nat → ClassId) (dI : Nat → Nat → Nat) (a : Nat → Nat) (cy : Nat → ClassId) (n0 n1 : Nat) (sz : Nat) (I : TI) (J : TJ) (S : TS) (L : TL) (p0 : Int32) (p1 : Int32) (Φ : Int32 → TI → TJ → TS → TL → Prop) (h : wp_X4_wayOf n0 n1 I J S L p0 p1 Φ) : Met l yX4_wayOf wsX4_wayOf rmX4_wayOf (va_Pc [.ref (a 14), .int p0, .int p1] (gpre dC dI (wL a cy n0 n1 I J S L) (tyL cy) sz)) (gQi dC dI (wL a cy n0 n1) (tyL cy) (va_A (wL a cy n0 n1 I J S L) sz) Φ) 0 0 (va_A (wL a cy n0 n1 I J S L) sz) := by
  refine Met.ofW (cc := cX4_wayOf) (maxL := 3) (ret := (some .int)) (by decide) rfl ?_
  intro p e s m args below meth c s₁ B hml hv
  obtain ⟨hargs, hsz, hP, hK, hD0, hN⟩ := hv
  have hx := B.exec
  have hb := B.bytes
  have hr := B.returns
  have hts := atoms_spec (ws := wsX4_wayOf) B.pre
  have hown : s.vm.findClass RX4 = some m.cls := findClass_of_methodNamed B.named
  have hlocks := B.notSynchronized
  subst hsz
  have hD := hD0.self (sz := s.heap.size)
  generalize hAe : va_A (wL a cy n0 n1 I J S L) s.heap.size = A at hD ⊢
  have hA : ∀ q : Nat, s.heap.size ≤ q → A q := fun q h => by rw [← hAe]; exact Or.inr h
  obtain ⟨H, hH⟩ : ∃ z : Heap, z = s.heap := ⟨_, rfl⟩
  rw [← hH] at hP
  have hS : va_S A s.heap H [] := by rw [hH]; exact va_S.rf
  have hl := lv_entry ([.ref (a 14), .int p0, .int p1]) (n := 3) (Nat.le_of_ble_eq_true rfl)
  have hE : entryFrame m args 3 = F0 m 0 ((lg_sl ([.ref (a 14), .int p0, .int p1]) ++ List.replicate (3 - (lg_sl ([.ref (a 14), .int p0, .int p1])).length) Slot.unset).toArray) [] := by rw [hargs]; exact lg_entry_eq m _ _
  rw [hE, ← hH]
  clear hE
  generalize (lg_sl ([.ref (a 14), .int p0, .int p1]) ++ List.replicate (3 - (lg_sl ([.ref (a 14), .int p0, .int p1])).length) Slot.unset).toArray = ls at hl ⊢
  have hl : lv_has ls 3 [(0, .ref (a 14)), (1, .int p0), (2, .int p1)] := hl
  unfold wp_X4_wayOf at h
  refine lv_aload_n hx hb dX4_wayOf_0 rfl (lv_at hl 0 rfl) ?_
  refine va_get (D := (dC, dI)) (ci := 4) (v := .ref (a 16)) (C := RX4) (T := TX4) (N := 6) hx hb hts nX4_wayOf_X4 hown hK hP 14 (wL_at14 _ _ _ _ _ _ _ _) rfl 1 (by decide) (hts (.fieldLink RX4 15 "SongOffice$ReportBook" "ways" "[I") kX4_wayOf_1) (fun _ h9 => h9) rfl dX4_wayOf_1 ?_
  refine lv_iload_n hx hb dX4_wayOf_4 rfl (lv_at hl 1 rfl) ?_
  refine lv_bipush (v := 12) hx hb dX4_wayOf_5 (by decide) ?_
  refine lv_imul hx hb dX4_wayOf_7 ?_
  refine lv_iload_n hx hb dX4_wayOf_8 rfl (lv_at hl 2 rfl) ?_
  refine lv_iadd hx hb dX4_wayOf_9 ?_
  obtain ⟨hi, h⟩ := h
  refine va_iald hx hb hK hP 16 13 (wL_at16 _ _ _ _ _ _ _ _) rfl hi dX4_wayOf_10 ?_
  exact gri hx hb hr hlocks hP hK hD hS h dX4_wayOf_11
def wp_X4_wayOf_O (n0 n1 : Nat) (I : TI) (J : TJ) (S : TS) (L : TL) (p0 : Int32) (p1 : Int32) (Φ : Int32 → TI → TJ → TS → TL → Prop) : Prop := wp_X4_wayOf n0 n1 I J S L p0 p1 (fun r I1 J1 S1 L1 => Φ r I1 J1 (va_up S1 0 (S 0)) L1)
set_option maxHeartbeats 1000000 in
theorem c_X4_wayOf_O (l : Launch) (dC : Nat → ClassId) (dI : Nat → Nat → Nat) (a : Nat → Nat) (cy : Nat → ClassId) (n0 n1 : Nat) (sz : Nat) (I : TI) (J : TJ) (S : TS) (L : TL) (p0 : Int32) (p1 : Int32) (Φ : Int32 → TI → TJ → TS → TL → Prop) (h : wp_X4_wayOf_O n0 n1 I J S L p0 p1 Φ) : Met l yX4_wayOf wsX4_wayOf rmX4_wayOf (va_Pc [.ref (a 14), .int p0, .int p1] (gpre dC dI (wO a cy n0 n1 I J S L) (tyL cy) sz)) (gQi dC dI (wO a cy n0 n1) (tyL cy) (va_A (wO a cy n0 n1 I J S L) sz) Φ) 0 0 (va_A (wO a cy n0 n1 I J S L) sz) :=
  met_cons_i (Wd := wL a cy n0 n1) (c_X4_wayOf l dC dI a cy n0 n1 sz I J S L p0 p1 _ h) (wO_cons a cy n0 n1 (S 0))
def wp_X4_placeOf (n0 n1 : Nat) (I : TI) (J : TJ) (S : TS) (L : TL) (p0 : Int32) (p1 : Int32) (Φ : Int32 → TI → TJ → TS → TL → Prop) : Prop := ∀ x_1 : Int32, x_1 = ((p0 * (12 : Int32)) + p1) → ((vp_in x_1 480) ∧ (∃ B_2 : TI → TJ → TS → TL → Int32 → Prop, (∀ (I_3 : TI) (J_4 : TJ) (S_5 : TS) (L_6 : TL) (s_7 : Int32), B_2 I_3 J_4 S_5 L_6 s_7 → (Φ s_7 I_3 J_4 S_5 L_6)) ∧ (((¬ (I 16 (x_1).toNatClampNeg) = 0) → ((vp_in x_1 480) ∧ (B_2 I J S L (I 17 (x_1).toNatClampNeg)))) ∧ (((I 16 (x_1).toNatClampNeg) = 0) → (B_2 I J S L (-1 : Int32))))))
theorem nX4_placeOf_X4 : ∀ w ∈ wsX40, w ∈ wsX4_placeOf := fun _ h => List.mem_cons_of_mem _ (List.mem_append_right _ h)
theorem kX4_placeOf_2 : Cond.fieldLink RX4 18 "SongOffice$ReportBook" "places" "[I" ∈ wsX4_placeOf := List.mem_of_getElem? (i := 2) rfl
theorem kX4_placeOf_1 : Cond.fieldLink RX4 15 "SongOffice$ReportBook" "ways" "[I" ∈ wsX4_placeOf := List.mem_of_getElem? (i := 1) rfl
abbrev rmX4_placeOf : Room := { frames := 0, cells := 0, slots := 0, locals := 0 }
set_option maxHeartbeats 4000000 in
set_option maxRecDepth 100000 in
theorem c_X4_placeOf (l : Launch) (dC : Nat → ClassId) (dI : Nat → Nat → Nat) (a : Nat → Nat) (cy : Nat → ClassId) (n0 n1 : Nat) (sz : Nat) (I : TI) (J : TJ) (S : TS) (L : TL) (p0 : Int32) (p1 : Int32) (Φ : Int32 → TI → TJ → TS → TL → Prop) (h : wp_X4_placeOf n0 n1 I J S L p0 p1 Φ) : Met l yX4_placeOf wsX4_placeOf rmX4_placeOf (va_Pc [.ref (a 14), .int p0, .int p1] (gpre dC dI (wL a cy n0 n1 I J S L) (tyL cy) sz)) (gQi dC dI (wL a cy n0 n1) (tyL cy) (va_A (wL a cy n0 n1 I J S L) sz) Φ) 0 0 (va_A (wL a cy n0 n1 I J S L) sz) := by
  refine Met.ofW (cc := cX4_placeOf) (maxL := 4) (ret := (some .int)) (by decide) rfl ?_
  intro p e s m args below meth c s₁ B hml hv
  obtain ⟨hargs, hsz, hP, hK, hD0, hN⟩ := hv
  have hx := B.exec
  have hb := B.bytes
  have hr := B.returns
  have hts := atoms_spec (ws := wsX4_placeOf) B.pre
  have hown : s.vm.findClass RX4 = some m.cls := findClass_of_methodNamed B.named
  have hlocks := B.notSynchronized
  subst hsz
  have hD := hD0.self (sz := s.heap.size)
  generalize hAe : va_A (wL a cy n0 n1 I J S L) s.heap.size = A at hD ⊢
  have hA : ∀ q : Nat, s.heap.size ≤ q → A q := fun q h => by rw [← hAe]; exact Or.inr h
  obtain ⟨H, hH⟩ : ∃ z : Heap, z = s.heap := ⟨_, rfl⟩
  rw [← hH] at hP
  have hS : va_S A s.heap H [] := by rw [hH]; exact va_S.rf
  have hl := lv_entry ([.ref (a 14), .int p0, .int p1]) (n := 4) (Nat.le_of_ble_eq_true rfl)
  have hE : entryFrame m args 4 = F0 m 0 ((lg_sl ([.ref (a 14), .int p0, .int p1]) ++ List.replicate (4 - (lg_sl ([.ref (a 14), .int p0, .int p1])).length) Slot.unset).toArray) [] := by rw [hargs]; exact lg_entry_eq m _ _
  rw [hE, ← hH]
  clear hE
  generalize (lg_sl ([.ref (a 14), .int p0, .int p1]) ++ List.replicate (4 - (lg_sl ([.ref (a 14), .int p0, .int p1])).length) Slot.unset).toArray = ls at hl ⊢
  have hl : lv_has ls 4 [(0, .ref (a 14)), (1, .int p0), (2, .int p1)] := hl
  unfold wp_X4_placeOf at h
  refine lv_iload_n hx hb dX4_placeOf_0 rfl (lv_at hl 1 rfl) ?_
  refine lv_bipush (v := 12) hx hb dX4_placeOf_1 (by decide) ?_
  refine lv_imul hx hb dX4_placeOf_3 ?_
  refine lv_iload_n hx hb dX4_placeOf_4 rfl (lv_at hl 2 rfl) ?_
  refine lv_iadd hx hb dX4_placeOf_5 ?_
  refine lv_topi (fun x_1 ex_1 => ?_)
  have h := h x_1 ex_1
  refine lv_istore_n (lv' := [(3, .int x_1), (0, .ref (a 14)), (1, .int p0), (2, .int p1)]) hx hb dX4_placeOf_6 rfl hl (by decide) rfl (fun ls hl => ?_)
  refine lv_aload_n hx hb dX4_placeOf_7 rfl (lv_at hl 1 rfl) ?_
  refine va_get (D := (dC, dI)) (ci := 4) (v := .ref (a 16)) (C := RX4) (T := TX4) (N := 6) hx hb hts nX4_placeOf_X4 hown hK hP 14 (wL_at14 _ _ _ _ _ _ _ _) rfl 1 (by decide) (hts (.fieldLink RX4 15 "SongOffice$ReportBook" "ways" "[I") kX4_placeOf_1) (fun _ h9 => h9) rfl dX4_placeOf_8 ?_
  refine lv_iload_n hx hb dX4_placeOf_11 rfl (lv_at hl 0 rfl) ?_
  obtain ⟨hi, h⟩ := h
  refine va_iald hx hb hK hP 16 13 (wL_at16 _ _ _ _ _ _ _ _) rfl hi dX4_placeOf_12 ?_
  obtain ⟨B_2, hB_2, h⟩ := h
  have jB_2 : ∀ (I_3 : TI) (J_4 : TJ) (S_5 : TS) (L_6 : TL) (s_7 : Int32) (H : Heap) (locs : List Loc) (ls : Array Slot), va_P (dC, dI) vwCl (wL a cy n0 n1 I_3 J_4 S_5 L_6) H → va_D A (wL a cy n0 n1 I_3 J_4 S_5 L_6) → va_S A s.heap H locs → lv_has ls 4 [] → B_2 I_3 J_4 S_5 L_6 s_7 → W p l e (headSpec wsX4_placeOf rmX4_placeOf).room s m args below meth c H locs 0 0 (MQ below (gQi dC dI (wL a cy n0 n1) (tyL cy) A Φ) args s 0 0 A) (F0 m 26 ls [.int s_7]) := by
    intro I_3 J_4 S_5 L_6 s_7 H locs ls hP hD hS hl h
    have h := hB_2 I_3 J_4 S_5 L_6 s_7 h
    exact gri hx hb hr hlocks hP hK hD hS h dX4_placeOf_26
  refine lv_if_ne (tgt := 20) hx hb dX4_placeOf_13 (by decide) (fun hc => ?_) (fun hc => ?_)
  · have h := h.1 hc
    refine lv_aload_n hx hb dX4_placeOf_20 rfl (lv_at hl 1 rfl) ?_
    refine va_get (D := (dC, dI)) (ci := 4) (v := .ref (a 17)) (C := RX4) (T := TX4) (N := 6) hx hb hts nX4_placeOf_X4 hown hK hP 14 (wL_at14 _ _ _ _ _ _ _ _) rfl 2 (by decide) (hts (.fieldLink RX4 18 "SongOffice$ReportBook" "places" "[I") kX4_placeOf_2) (fun _ h9 => h9) rfl dX4_placeOf_21 ?_
    refine lv_iload_n hx hb dX4_placeOf_24 rfl (lv_at hl 0 rfl) ?_
    obtain ⟨hi, h⟩ := h
    refine va_iald hx hb hK hP 17 14 (wL_at17 _ _ _ _ _ _ _ _) rfl hi dX4_placeOf_25 ?_
    exact jB_2 I J S L (I 17 (x_1).toNatClampNeg) _ _ _ hP hD hS (lv_sub hl [] rfl) h
  · have h := h.2 hc
    refine lv_iconst (v := -1) hx hb dX4_placeOf_16 (by decide) ?_
    refine lv_goto (tgt := 26) hx hb dX4_placeOf_17 (by decide) ?_
    exact jB_2 I J S L (-1 : Int32) _ _ _ hP hD hS (lv_sub hl [] rfl) h
def wp_X4_placeOf_O (n0 n1 : Nat) (I : TI) (J : TJ) (S : TS) (L : TL) (p0 : Int32) (p1 : Int32) (Φ : Int32 → TI → TJ → TS → TL → Prop) : Prop := wp_X4_placeOf n0 n1 I J S L p0 p1 (fun r I1 J1 S1 L1 => Φ r I1 J1 (va_up S1 0 (S 0)) L1)
set_option maxHeartbeats 1000000 in
theorem c_X4_placeOf_O (l : Launch) (dC : Nat → ClassId) (dI : Nat → Nat → Nat) (a : Nat → Nat) (cy : Nat → ClassId) (n0 n1 : Nat) (sz : Nat) (I : TI) (J : TJ) (S : TS) (L : TL) (p0 : Int32) (p1 : Int32) (Φ : Int32 → TI → TJ → TS → TL → Prop) (h : wp_X4_placeOf_O n0 n1 I J S L p0 p1 Φ) : Met l yX4_placeOf wsX4_placeOf rmX4_placeOf (va_Pc [.ref (a 14), .int p0, .int p1] (gpre dC dI (wO a cy n0 n1 I J S L) (tyL cy) sz)) (gQi dC dI (wO a cy n0 n1) (tyL cy) (va_A (wO a cy n0 n1 I J S L) sz) Φ) 0 0 (va_A (wO a cy n0 n1 I J S L) sz) :=
  met_cons_i (Wd := wL a cy n0 n1) (c_X4_placeOf l dC dI a cy n0 n1 sz I J S L p0 p1 _ h) (wO_cons a cy n0 n1 (S 0))
def wp_X5_add (n0 n1 : Nat) (I : TI) (J : TJ) (S : TS) (L : TL) (p0 : Int32) (p1 : Int32) (p2 : Int32) (Φ : TI → TJ → TS → TL → Prop) : Prop := (vp_in (S 2) 60) ∧ ∀ I_1 : TI, I_1 = va_up I 22 (upd (I 22) ((S 2)).toNatClampNeg p0) → ((vp_in (S 2) 60) ∧ ∀ I_2 : TI, I_2 = va_up I_1 23 (upd (I_1 23) ((S 2)).toNatClampNeg p1) → ((vp_in (S 2) 60) ∧ ∀ I_3 : TI, I_3 = va_up I_2 24 (upd (I_2 24) ((S 2)).toNatClampNeg p2) → (∀ S_4 : TS, S_4 = va_up S 2 ((S 2) + (1 : Int32)) → (∀ L_5 : TL, L_5 = va_up L 0 ((L 0) + ((p1).toInt64)) → (Φ I_3 J S_4 L_5)))))
theorem nX5_add_X5 : ∀ w ∈ wsX50, w ∈ wsX5_add := fun _ h => List.mem_cons_of_mem _ (List.mem_append_right _ h)
theorem kX5_add_5 : Cond.fieldLink RX5 25 "SongOffice$SentBook" "coinsInAll" "J" ∈ wsX5_add := List.mem_of_getElem? (i := 5) rfl
theorem kX5_add_2 : Cond.fieldLink RX5 21 "SongOffice$SentBook" "size" "I" ∈ wsX5_add := List.mem_of_getElem? (i := 2) rfl
theorem kX5_add_4 : Cond.fieldLink RX5 18 "SongOffice$SentBook" "terms" "[I" ∈ wsX5_add := List.mem_of_getElem? (i := 4) rfl
theorem kX5_add_3 : Cond.fieldLink RX5 15 "SongOffice$SentBook" "coins" "[I" ∈ wsX5_add := List.mem_of_getElem? (i := 3) rfl
theorem kX5_add_1 : Cond.fieldLink RX5 9 "SongOffice$SentBook" "hands" "[I" ∈ wsX5_add := List.mem_of_getElem? (i := 1) rfl
abbrev rmX5_add : Room := { frames := 0, cells := 0, slots := 0, locals := 0 }
set_option maxHeartbeats 4000000 in
set_option maxRecDepth 100000 in
theorem c_X5_add (l : Launch) (dC : Nat → ClassId) (dI : Nat → Nat → Nat) (a : Nat → Nat) (cy : Nat → ClassId) (n0 n1 : Nat) (sz : Nat) (I : TI) (J : TJ) (S : TS) (L : TL) (p0 : Int32) (p1 : Int32) (p2 : Int32) (Φ : TI → TJ → TS → TL → Prop) (h : wp_X5_add n0 n1 I J S L p0 p1 p2 Φ) : Met l yX5_add wsX5_add rmX5_add (va_Pc [.ref (a 21), .int p0, .int p1, .int p2] (gpre dC dI (wL a cy n0 n1 I J S L) (tyL cy) sz)) (gQv dC dI (wL a cy n0 n1) (tyL cy) (va_A (wL a cy n0 n1 I J S L) sz) Φ) 0 0 (va_A (wL a cy n0 n1 I J S L) sz) := by
  refine Met.ofW (cc := cX5_add) (maxL := 4) (ret := none) (by decide) rfl ?_
  intro p e s m args below meth c s₁ B hml hv
  obtain ⟨hargs, hsz, hP, hK, hD0, hN⟩ := hv
  have hx := B.exec
  have hb := B.bytes
  have hr := B.returns
  have hts := atoms_spec (ws := wsX5_add) B.pre
  have hown : s.vm.findClass RX5 = some m.cls := findClass_of_methodNamed B.named
  have hlocks := B.notSynchronized
  subst hsz
  have hD := hD0.self (sz := s.heap.size)
  generalize hAe : va_A (wL a cy n0 n1 I J S L) s.heap.size = A at hD ⊢
  have hA : ∀ q : Nat, s.heap.size ≤ q → A q := fun q h => by rw [← hAe]; exact Or.inr h
  obtain ⟨H, hH⟩ : ∃ z : Heap, z = s.heap := ⟨_, rfl⟩
  rw [← hH] at hP
  have hS : va_S A s.heap H [] := by rw [hH]; exact va_S.rf
  have hl := lv_entry ([.ref (a 21), .int p0, .int p1, .int p2]) (n := 4) (Nat.le_of_ble_eq_true rfl)
  have hE : entryFrame m args 4 = F0 m 0 ((lg_sl ([.ref (a 21), .int p0, .int p1, .int p2]) ++ List.replicate (4 - (lg_sl ([.ref (a 21), .int p0, .int p1, .int p2])).length) Slot.unset).toArray) [] := by rw [hargs]; exact lg_entry_eq m _ _
  rw [hE, ← hH]
  clear hE
  generalize (lg_sl ([.ref (a 21), .int p0, .int p1, .int p2]) ++ List.replicate (4 - (lg_sl ([.ref (a 21), .int p0, .int p1, .int p2])).length) Slot.unset).toArray = ls at hl ⊢
  have hl : lv_has ls 4 [(0, .ref (a 21)), (1, .int p0), (2, .int p1), (3, .int p2)] := hl
  unfold wp_X5_add at h
  refine lv_aload_n hx hb dX5_add_0 rfl (lv_at hl 0 rfl) ?_
  refine va_get (D := (dC, dI)) (ci := 5) (v := .ref (a 22)) (C := RX5) (T := TX5) (N := 5) hx hb hts nX5_add_X5 hown hK hP 21 (wL_at21 _ _ _ _ _ _ _ _) rfl 0 (by decide) (hts (.fieldLink RX5 9 "SongOffice$SentBook" "hands" "[I") kX5_add_1) (fun _ h9 => h9) rfl dX5_add_1 ?_
  refine lv_aload_n hx hb dX5_add_4 rfl (lv_at hl 0 rfl) ?_
  refine va_get (D := (dC, dI)) (ci := 5) (v := .int (S 2)) (C := RX5) (T := TX5) (N := 5) hx hb hts nX5_add_X5 hown hK hP 21 (wL_at21 _ _ _ _ _ _ _ _) rfl 3 (by decide) (hts (.fieldLink RX5 21 "SongOffice$SentBook" "size" "I") kX5_add_2) (fun _ h9 => h9) rfl dX5_add_5 ?_
  refine lv_iload_n hx hb dX5_add_8 rfl (lv_at hl 1 rfl) ?_
  obtain ⟨hi, h⟩ := h
  obtain ⟨I_1, eI_1⟩ : ∃ z : TI, z = va_up I 22 (upd (I 22) ((S 2)).toNatClampNeg p0) := ⟨_, rfl⟩
  have h := h I_1 eI_1
  refine va_iast hx hb hK hP hD hS 22 18 (wL_at22 _ _ _ _ _ _ _ _) rfl hi dX5_add_9 (fun H locs hP hD hS => ?_)
  have hP : va_P (dC, dI) vwCl (wL a cy n0 n1 I_1 J S L) H := by rw [eI_1]; exact setP hP (wL_set22 _ _ _ _ _ _ _ _ _)
  have hD : va_D A (wL a cy n0 n1 I_1 J S L) := by rw [eI_1]; exact setD hD (wL_set22 _ _ _ _ _ _ _ _ _)
  refine lv_aload_n hx hb dX5_add_10 rfl (lv_at hl 0 rfl) ?_
  refine va_get (D := (dC, dI)) (ci := 5) (v := .ref (a 23)) (C := RX5) (T := TX5) (N := 5) hx hb hts nX5_add_X5 hown hK hP 21 (wL_at21 _ _ _ _ _ _ _ _) rfl 1 (by decide) (hts (.fieldLink RX5 15 "SongOffice$SentBook" "coins" "[I") kX5_add_3) (fun _ h9 => h9) rfl dX5_add_11 ?_
  refine lv_aload_n hx hb dX5_add_14 rfl (lv_at hl 0 rfl) ?_
  refine va_get (D := (dC, dI)) (ci := 5) (v := .int (S 2)) (C := RX5) (T := TX5) (N := 5) hx hb hts nX5_add_X5 hown hK hP 21 (wL_at21 _ _ _ _ _ _ _ _) rfl 3 (by decide) (hts (.fieldLink RX5 21 "SongOffice$SentBook" "size" "I") kX5_add_2) (fun _ h9 => h9) rfl dX5_add_15 ?_
  refine lv_iload_n hx hb dX5_add_18 rfl (lv_at hl 2 rfl) ?_
  obtain ⟨hi, h⟩ := h
  obtain ⟨I_2, eI_2⟩ : ∃ z : TI, z = va_up I_1 23 (upd (I_1 23) ((S 2)).toNatClampNeg p1) := ⟨_, rfl⟩
  have h := h I_2 eI_2
  refine va_iast hx hb hK hP hD hS 23 19 (wL_at23 _ _ _ _ _ _ _ _) rfl hi dX5_add_19 (fun H locs hP hD hS => ?_)
  have hP : va_P (dC, dI) vwCl (wL a cy n0 n1 I_2 J S L) H := by rw [eI_2]; exact setP hP (wL_set23 _ _ _ _ _ _ _ _ _)
  have hD : va_D A (wL a cy n0 n1 I_2 J S L) := by rw [eI_2]; exact setD hD (wL_set23 _ _ _ _ _ _ _ _ _)
  refine lv_aload_n hx hb dX5_add_20 rfl (lv_at hl 0 rfl) ?_
  refine va_get (D := (dC, dI)) (ci := 5) (v := .ref (a 24)) (C := RX5) (T := TX5) (N := 5) hx hb hts nX5_add_X5 hown hK hP 21 (wL_at21 _ _ _ _ _ _ _ _) rfl 2 (by decide) (hts (.fieldLink RX5 18 "SongOffice$SentBook" "terms" "[I") kX5_add_4) (fun _ h9 => h9) rfl dX5_add_21 ?_
  refine lv_aload_n hx hb dX5_add_24 rfl (lv_at hl 0 rfl) ?_
  refine va_get (D := (dC, dI)) (ci := 5) (v := .int (S 2)) (C := RX5) (T := TX5) (N := 5) hx hb hts nX5_add_X5 hown hK hP 21 (wL_at21 _ _ _ _ _ _ _ _) rfl 3 (by decide) (hts (.fieldLink RX5 21 "SongOffice$SentBook" "size" "I") kX5_add_2) (fun _ h9 => h9) rfl dX5_add_25 ?_
  refine lv_iload_n hx hb dX5_add_28 rfl (lv_at hl 3 rfl) ?_
  obtain ⟨hi, h⟩ := h
  obtain ⟨I_3, eI_3⟩ : ∃ z : TI, z = va_up I_2 24 (upd (I_2 24) ((S 2)).toNatClampNeg p2) := ⟨_, rfl⟩
  have h := h I_3 eI_3
  refine va_iast hx hb hK hP hD hS 24 20 (wL_at24 _ _ _ _ _ _ _ _) rfl hi dX5_add_29 (fun H locs hP hD hS => ?_)
  have hP : va_P (dC, dI) vwCl (wL a cy n0 n1 I_3 J S L) H := by rw [eI_3]; exact setP hP (wL_set24 _ _ _ _ _ _ _ _ _)
  have hD : va_D A (wL a cy n0 n1 I_3 J S L) := by rw [eI_3]; exact setD hD (wL_set24 _ _ _ _ _ _ _ _ _)
  refine lv_aload_n hx hb dX5_add_30 rfl (lv_at hl 0 rfl) ?_
  refine lv_dup hx hb dX5_add_31 rfl ?_
  refine va_get (D := (dC, dI)) (ci := 5) (v := .int (S 2)) (C := RX5) (T := TX5) (N := 5) hx hb hts nX5_add_X5 hown hK hP 21 (wL_at21 _ _ _ _ _ _ _ _) rfl 3 (by decide) (hts (.fieldLink RX5 21 "SongOffice$SentBook" "size" "I") kX5_add_2) (fun _ h9 => h9) rfl dX5_add_32 ?_
  refine lv_iconst (v := 1) hx hb dX5_add_35 (by decide) ?_
  refine lv_iadd hx hb dX5_add_36 ?_
  obtain ⟨S_4, eS_4⟩ : ∃ z : TS, z = va_up S 2 ((S 2) + (1 : Int32)) := ⟨_, rfl⟩
  have h := h S_4 eS_4
  refine va_put (D := (dC, dI)) (ci := 5) (v := .int ((S 2) + (1 : Int32))) (ty := .int) (C := RX5) (T := TX5) (N := 5) hx hb hts nX5_add_X5 tyX5 tyX5_ok nmX5 hown hK hP hD hS 21 (wL_at21 _ _ _ _ _ _ _ _) rfl 3 (by decide) (hts (.fieldLink RX5 21 "SongOffice$SentBook" "size" "I") kX5_add_2) (fun _ h9 => h9) rfl (by decide +kernel) rfl rfl (Nat.le_of_ble_eq_true rfl) dX5_add_37 (fun H locs hP hD hS => ?_)
  have hP : va_P (dC, dI) vwCl (wL a cy n0 n1 I_3 J S_4 L) H := by rw [eS_4]; exact setP hP (wL_setS2 _ _ _ _ _ _ _ _ _)
  have hD : va_D A (wL a cy n0 n1 I_3 J S_4 L) := by rw [eS_4]; exact setD hD (wL_setS2 _ _ _ _ _ _ _ _ _)
  refine lv_aload_n hx hb dX5_add_40 rfl (lv_at hl 0 rfl) ?_
  refine lv_dup hx hb dX5_add_41 rfl ?_
  refine va_get (D := (dC, dI)) (ci := 5) (v := .long (L 0)) (C := RX5) (T := TX5) (N := 5) hx hb hts nX5_add_X5 hown hK hP 21 (wL_at21 _ _ _ _ _ _ _ _) rfl 4 (by decide) (hts (.fieldLink RX5 25 "SongOffice$SentBook" "coinsInAll" "J") kX5_add_5) (fun _ h9 => h9) rfl dX5_add_42 ?_
  refine lv_iload_n hx hb dX5_add_45 rfl (lv_at hl 2 rfl) ?_
  refine lv_i2l (v := ((p1).toInt64)) hx hb dX5_add_46 rfl ?_
  refine lv_ladd hx hb dX5_add_47 ?_
  obtain ⟨L_5, eL_5⟩ : ∃ z : TL, z = va_up L 0 ((L 0) + ((p1).toInt64)) := ⟨_, rfl⟩
  have h := h L_5 eL_5
  refine va_put (D := (dC, dI)) (ci := 5) (v := .long ((L 0) + ((p1).toInt64))) (ty := .long) (C := RX5) (T := TX5) (N := 5) hx hb hts nX5_add_X5 tyX5 tyX5_ok nmX5 hown hK hP hD hS 21 (wL_at21 _ _ _ _ _ _ _ _) rfl 4 (by decide) (hts (.fieldLink RX5 25 "SongOffice$SentBook" "coinsInAll" "J") kX5_add_5) (fun _ h9 => h9) rfl (by decide +kernel) rfl rfl (Nat.le_of_ble_eq_true rfl) dX5_add_48 (fun H locs hP hD hS => ?_)
  have hP : va_P (dC, dI) vwCl (wL a cy n0 n1 I_3 J S_4 L_5) H := by rw [eL_5]; exact setP hP (wL_setL0 _ _ _ _ _ _ _ _ _)
  have hD : va_D A (wL a cy n0 n1 I_3 J S_4 L_5) := by rw [eL_5]; exact setD hD (wL_setL0 _ _ _ _ _ _ _ _ _)
  exact grv hx hb hr hlocks hP hK hD hS h dX5_add_51
def wp_X5_add_O (n0 n1 : Nat) (I : TI) (J : TJ) (S : TS) (L : TL) (p0 : Int32) (p1 : Int32) (p2 : Int32) (Φ : TI → TJ → TS → TL → Prop) : Prop := wp_X5_add n0 n1 I J S L p0 p1 p2 (fun I1 J1 S1 L1 => Φ I1 J1 (va_up S1 0 (S 0)) L1)
set_option maxHeartbeats 1000000 in
theorem c_X5_add_O (l : Launch) (dC : Nat → ClassId) (dI : Nat → Nat → Nat) (a : Nat → Nat) (cy : Nat → ClassId) (n0 n1 : Nat) (sz : Nat) (I : TI) (J : TJ) (S : TS) (L : TL) (p0 : Int32) (p1 : Int32) (p2 : Int32) (Φ : TI → TJ → TS → TL → Prop) (h : wp_X5_add_O n0 n1 I J S L p0 p1 p2 Φ) : Met l yX5_add wsX5_add rmX5_add (va_Pc [.ref (a 21), .int p0, .int p1, .int p2] (gpre dC dI (wO a cy n0 n1 I J S L) (tyL cy) sz)) (gQv dC dI (wO a cy n0 n1) (tyL cy) (va_A (wO a cy n0 n1 I J S L) sz) Φ) 0 0 (va_A (wO a cy n0 n1 I J S L) sz) :=
  met_cons_v (Wd := wL a cy n0 n1) (c_X5_add l dC dI a cy n0 n1 sz I J S L p0 p1 p2 _ h) (wO_cons a cy n0 n1 (S 0))
def wp_X3_kept (n0 n1 : Nat) (I : TI) (J : TJ) (S : TS) (L : TL) (Φ : Int32 → TI → TJ → TS → TL → Prop) : Prop := ∀ x_1 : Int32, x_1 = (if (S 6) < (S 5) then (S 6) else (S 5)) → (Φ x_1 I J S L)
theorem kX3_kept_3 : Cond.methodLink RX3 39 Lib.Math.min.name ∈ wsX3_kept := List.mem_of_getElem? (i := 3) rfl
theorem kX3_kept_4 : Cond.static Lib.Math.min.name ∈ wsX3_kept := List.mem_of_getElem? (i := 4) rfl
theorem kX3_kept_5 : Cond.initialized "java/lang/Math" ∈ wsX3_kept := List.mem_of_getElem? (i := 5) rfl
theorem kX3_kept_6 : Cond.code Lib.Math.min.name Lib.Math.min.code 2 (some .int) ∈ wsX3_kept := List.mem_of_getElem? (i := 6) rfl
theorem nX3_kept_X3 : ∀ w ∈ wsX30, w ∈ wsX3_kept := fun _ h => List.mem_cons_of_mem _ (List.mem_append_right _ h)
theorem kX3_kept_2 : Cond.fieldLink RX3 13 "SongOffice$LineBook" "room" "I" ∈ wsX3_kept := List.mem_of_getElem? (i := 2) rfl
theorem kX3_kept_1 : Cond.fieldLink RX3 36 "SongOffice$LineBook" "size" "I" ∈ wsX3_kept := List.mem_of_getElem? (i := 1) rfl
abbrev rmX3_kept : Room := { frames := 1, cells := 0, slots := 0, locals := 40 }
set_option maxHeartbeats 4000000 in
set_option maxRecDepth 100000 in
theorem c_X3_kept (l : Launch) (dC : Nat → ClassId) (dI : Nat → Nat → Nat) (a : Nat → Nat) (cy : Nat → ClassId) (n0 n1 : Nat) (sz : Nat) (I : TI) (J : TJ) (S : TS) (L : TL) (Φ : Int32 → TI → TJ → TS → TL → Prop) (h : wp_X3_kept n0 n1 I J S L Φ) : Met l yX3_kept wsX3_kept rmX3_kept (va_Pc [.ref (a 33)] (gpre dC dI (wL a cy n0 n1 I J S L) (tyL cy) sz)) (gQi dC dI (wL a cy n0 n1) (tyL cy) (va_A (wL a cy n0 n1 I J S L) sz) Φ) 0 0 (va_A (wL a cy n0 n1 I J S L) sz) := by
  refine Met.ofW (cc := cX3_kept) (maxL := 1) (ret := (some .int)) (by decide) rfl ?_
  intro p e s m args below meth c s₁ B hml hv
  obtain ⟨hargs, hsz, hP, hK, hD0, hN⟩ := hv
  have hx := B.exec
  have hb := B.bytes
  have hr := B.returns
  have hts := atoms_spec (ws := wsX3_kept) B.pre
  have hown : s.vm.findClass RX3 = some m.cls := findClass_of_methodNamed B.named
  have hlocks := B.notSynchronized
  subst hsz
  have hD := hD0.self (sz := s.heap.size)
  generalize hAe : va_A (wL a cy n0 n1 I J S L) s.heap.size = A at hD ⊢
  have hA : ∀ q : Nat, s.heap.size ≤ q → A q := fun q h => by rw [← hAe]; exact Or.inr h
  obtain ⟨H, hH⟩ : ∃ z : Heap, z = s.heap := ⟨_, rfl⟩
  rw [← hH] at hP
  have hS : va_S A s.heap H [] := by rw [hH]; exact va_S.rf
  have hl := lv_entry ([.ref (a 33)]) (n := 1) (Nat.le_of_ble_eq_true rfl)
  have hE : entryFrame m args 1 = F0 m 0 ((lg_sl ([.ref (a 33)]) ++ List.replicate (1 - (lg_sl ([.ref (a 33)])).length) Slot.unset).toArray) [] := by rw [hargs]; exact lg_entry_eq m _ _
  rw [hE, ← hH]
  clear hE
  generalize (lg_sl ([.ref (a 33)]) ++ List.replicate (1 - (lg_sl ([.ref (a 33)])).length) Slot.unset).toArray = ls at hl ⊢
  have hl : lv_has ls 1 [(0, .ref (a 33))] := hl
  unfold wp_X3_kept at h
  refine lv_aload_n hx hb dX3_kept_0 rfl (lv_at hl 0 rfl) ?_
  refine va_get (D := (dC, dI)) (ci := 3) (v := .int (S 5)) (C := RX3) (T := TX3) (N := 7) hx hb hts nX3_kept_X3 hown hK hP 33 (wL_at33 _ _ _ _ _ _ _ _) rfl 6 (by decide) (hts (.fieldLink RX3 36 "SongOffice$LineBook" "size" "I") kX3_kept_1) (fun _ h9 => h9) rfl dX3_kept_1 ?_
  refine lv_aload_n hx hb dX3_kept_4 rfl (lv_at hl 0 rfl) ?_
  refine va_get (D := (dC, dI)) (ci := 3) (v := .int (S 6)) (C := RX3) (T := TX3) (N := 7) hx hb hts nX3_kept_X3 hown hK hP 33 (wL_at33 _ _ _ _ _ _ _ _) rfl 0 (by decide) (hts (.fieldLink RX3 13 "SongOffice$LineBook" "room" "I") kX3_kept_2) (fun _ h9 => h9) rfl dX3_kept_5 ?_
  refine va_mmin hx hb (hml.trans hl.1.symm) hown (hts (.methodLink RX3 39 Lib.Math.min.name) kX3_kept_3) (hts (.static Lib.Math.min.name) kX3_kept_4) (hts (.initialized "java/lang/Math") kX3_kept_5) (hts (.code Lib.Math.min.name Lib.Math.min.code 2 (some .int)) kX3_kept_6) (Nat.le_of_ble_eq_true rfl) (Nat.le_of_ble_eq_true rfl) (Nat.le_of_ble_eq_true rfl) (Nat.le_of_ble_eq_true rfl) dX3_kept_8 ?_
  refine lv_topi (fun x_1 ex_1 => ?_)
  have h := h x_1 ex_1
  exact gri hx hb hr hlocks hP hK hD hS h dX3_kept_11
def wp_X3_kept_O (n0 n1 : Nat) (I : TI) (J : TJ) (S : TS) (L : TL) (Φ : Int32 → TI → TJ → TS → TL → Prop) : Prop := wp_X3_kept n0 n1 I J S L (fun r I1 J1 S1 L1 => Φ r I1 J1 (va_up S1 0 (S 0)) L1)
set_option maxHeartbeats 1000000 in
theorem c_X3_kept_O (l : Launch) (dC : Nat → ClassId) (dI : Nat → Nat → Nat) (a : Nat → Nat) (cy : Nat → ClassId) (n0 n1 : Nat) (sz : Nat) (I : TI) (J : TJ) (S : TS) (L : TL) (Φ : Int32 → TI → TJ → TS → TL → Prop) (h : wp_X3_kept_O n0 n1 I J S L Φ) : Met l yX3_kept wsX3_kept rmX3_kept (va_Pc [.ref (a 33)] (gpre dC dI (wO a cy n0 n1 I J S L) (tyL cy) sz)) (gQi dC dI (wO a cy n0 n1) (tyL cy) (va_A (wO a cy n0 n1 I J S L) sz) Φ) 0 0 (va_A (wO a cy n0 n1 I J S L) sz) :=
  met_cons_i (Wd := wL a cy n0 n1) (c_X3_kept l dC dI a cy n0 n1 sz I J S L _ h) (wO_cons a cy n0 n1 (S 0))
def wp_X3_begin (n0 n1 : Nat) (I : TI) (J : TJ) (S : TS) (L : TL) (p0 : Int32) (p1 : Int32) (p2 : Int32) (p3 : Int64) (Φ : Int32 → TI → TJ → TS → TL → Prop) : Prop := ∀ x_1 : Int32, x_1 = (S 5) → (∃ B_2 : TI → TJ → TS → TL → Int32 → Prop, (∀ (I_3 : TI) (J_4 : TJ) (S_5 : TS) (L_6 : TL) (x_7 : Int32), B_2 I_3 J_4 S_5 L_6 x_7 → (∀ S_8 : TS, S_8 = va_up S_5 5 ((S_5 5) + (1 : Int32)) → (Φ x_7 I_3 J_4 S_8 L_6))) ∧ ((((S 6) ≤ x_1) → (B_2 I J S L x_1)) ∧ ((¬ (S 6) ≤ x_1) → ((vp_in x_1 n0) ∧ ∀ I_9 : TI, I_9 = va_up I 34 (upd (I 34) (x_1).toNatClampNeg p0) → ((vp_in x_1 n0) ∧ ∀ I_10 : TI, I_10 = va_up I_9 35 (upd (I_9 35) (x_1).toNatClampNeg p1) → ((vp_in x_1 n0) ∧ ∀ I_11 : TI, I_11 = va_up I_10 36 (upd (I_10 36) (x_1).toNatClampNeg p2) → ((vp_in x_1 n0) ∧ ∀ J_12 : TJ, J_12 = va_up J 37 (vp_updL (J 37) (x_1).toNatClampNeg p3) → (B_2 I_11 J_12 S L x_1))))))))
theorem nX3_begin_X3 : ∀ w ∈ wsX30, w ∈ wsX3_begin := fun _ h => List.mem_cons_of_mem _ (List.mem_append_right _ h)
theorem kX3_begin_1 : Cond.fieldLink RX3 36 "SongOffice$LineBook" "size" "I" ∈ wsX3_begin := List.mem_of_getElem? (i := 1) rfl
theorem kX3_begin_6 : Cond.fieldLink RX3 29 "SongOffice$LineBook" "began" "[J" ∈ wsX3_begin := List.mem_of_getElem? (i := 6) rfl
theorem kX3_begin_5 : Cond.fieldLink RX3 26 "SongOffice$LineBook" "from" "[I" ∈ wsX3_begin := List.mem_of_getElem? (i := 5) rfl
theorem kX3_begin_4 : Cond.fieldLink RX3 23 "SongOffice$LineBook" "owner" "[I" ∈ wsX3_begin := List.mem_of_getElem? (i := 4) rfl
theorem kX3_begin_3 : Cond.fieldLink RX3 19 "SongOffice$LineBook" "work" "[I" ∈ wsX3_begin := List.mem_of_getElem? (i := 3) rfl
theorem kX3_begin_2 : Cond.fieldLink RX3 13 "SongOffice$LineBook" "room" "I" ∈ wsX3_begin := List.mem_of_getElem? (i := 2) rfl
abbrev rmX3_begin : Room := { frames := 0, cells := 0, slots := 0, locals := 0 }
set_option maxHeartbeats 4000000 in
set_option maxRecDepth 100000 in
theorem c_X3_begin (l : Launch) (dC : Nat → ClassId) (dI : Nat → Nat → Nat) (a : Nat → Nat) (cy : Nat → ClassId) (n0 n1 : Nat) (sz : Nat) (I : TI) (J : TJ) (S : TS) (L : TL) (p0 : Int32) (p1 : Int32) (p2 : Int32) (p3 : Int64) (Φ : Int32 → TI → TJ → TS → TL → Prop) (h : wp_X3_begin n0 n1 I J S L p0 p1 p2 p3 Φ) : Met l yX3_begin wsX3_begin rmX3_begin (va_Pc [.ref (a 33), .int p0, .int p1, .int p2, .long p3] (gpre dC dI (wL a cy n0 n1 I J S L) (tyL cy) sz)) (gQi dC dI (wL a cy n0 n1) (tyL cy) (va_A (wL a cy n0 n1 I J S L) sz) Φ) 0 0 (va_A (wL a cy n0 n1 I J S L) sz) := by
  refine Met.ofW (cc := cX3_begin) (maxL := 7) (ret := (some .int)) (by decide) rfl ?_
  intro p e s m args below meth c s₁ B hml hv
  obtain ⟨hargs, hsz, hP, hK, hD0, hN⟩ := hv
  have hx := B.exec
  have hb := B.bytes
  have hr := B.returns
  have hts := atoms_spec (ws := wsX3_begin) B.pre
  have hown : s.vm.findClass RX3 = some m.cls := findClass_of_methodNamed B.named
  have hlocks := B.notSynchronized
  subst hsz
  have hD := hD0.self (sz := s.heap.size)
  generalize hAe : va_A (wL a cy n0 n1 I J S L) s.heap.size = A at hD ⊢
  have hA : ∀ q : Nat, s.heap.size ≤ q → A q := fun q h => by rw [← hAe]; exact Or.inr h
  obtain ⟨H, hH⟩ : ∃ z : Heap, z = s.heap := ⟨_, rfl⟩
  rw [← hH] at hP
  have hS : va_S A s.heap H [] := by rw [hH]; exact va_S.rf
  have hl := lv_entry ([.ref (a 33), .int p0, .int p1, .int p2, .long p3]) (n := 7) (Nat.le_of_ble_eq_true rfl)
  have hE : entryFrame m args 7 = F0 m 0 ((lg_sl ([.ref (a 33), .int p0, .int p1, .int p2, .long p3]) ++ List.replicate (7 - (lg_sl ([.ref (a 33), .int p0, .int p1, .int p2, .long p3])).length) Slot.unset).toArray) [] := by rw [hargs]; exact lg_entry_eq m _ _
  rw [hE, ← hH]
  clear hE
  generalize (lg_sl ([.ref (a 33), .int p0, .int p1, .int p2, .long p3]) ++ List.replicate (7 - (lg_sl ([.ref (a 33), .int p0, .int p1, .int p2, .long p3])).length) Slot.unset).toArray = ls at hl ⊢
  have hl : lv_has ls 7 [(0, .ref (a 33)), (1, .int p0), (2, .int p1), (3, .int p2), (4, .long p3)] := hl
  unfold wp_X3_begin at h
  refine lv_aload_n hx hb dX3_begin_0 rfl (lv_at hl 0 rfl) ?_
  refine va_get (D := (dC, dI)) (ci := 3) (v := .int (S 5)) (C := RX3) (T := TX3) (N := 7) hx hb hts nX3_begin_X3 hown hK hP 33 (wL_at33 _ _ _ _ _ _ _ _) rfl 6 (by decide) (hts (.fieldLink RX3 36 "SongOffice$LineBook" "size" "I") kX3_begin_1) (fun _ h9 => h9) rfl dX3_begin_1 ?_
  refine lv_topi (fun x_1 ex_1 => ?_)
  have h := h x_1 ex_1
  refine lv_istore (lv' := [(6, .int x_1), (0, .ref (a 33)), (1, .int p0), (2, .int p1), (3, .int p2), (4, .long p3)]) hx hb dX3_begin_4 hl (by decide) rfl (fun ls hl => ?_)
  refine lv_iload hx hb dX3_begin_6 (lv_at hl 0 rfl) ?_
  refine lv_aload_n hx hb dX3_begin_8 rfl (lv_at hl 1 rfl) ?_
  refine va_get (D := (dC, dI)) (ci := 3) (v := .int (S 6)) (C := RX3) (T := TX3) (N := 7) hx hb hts nX3_begin_X3 hown hK hP 33 (wL_at33 _ _ _ _ _ _ _ _) rfl 0 (by decide) (hts (.fieldLink RX3 13 "SongOffice$LineBook" "room" "I") kX3_begin_2) (fun _ h9 => h9) rfl dX3_begin_9 ?_
  obtain ⟨B_2, hB_2, h⟩ := h
  have jB_2 : ∀ (I_3 : TI) (J_4 : TJ) (S_5 : TS) (L_6 : TL) (x_7 : Int32) (H : Heap) (locs : List Loc) (ls : Array Slot), va_P (dC, dI) vwCl (wL a cy n0 n1 I_3 J_4 S_5 L_6) H → va_D A (wL a cy n0 n1 I_3 J_4 S_5 L_6) → va_S A s.heap H locs → lv_has ls 7 [(0, .ref (a 33)), (6, .int x_7)] → B_2 I_3 J_4 S_5 L_6 x_7 → W p l e (headSpec wsX3_begin rmX3_begin).room s m args below meth c H locs 0 0 (MQ below (gQi dC dI (wL a cy n0 n1) (tyL cy) A Φ) args s 0 0 A) (F0 m 48 ls []) := by
    intro I_3 J_4 S_5 L_6 x_7 H locs ls hP hD hS hl h
    have h := hB_2 I_3 J_4 S_5 L_6 x_7 h
    refine lv_aload_n hx hb dX3_begin_48 rfl (lv_at hl 0 rfl) ?_
    refine lv_dup hx hb dX3_begin_49 rfl ?_
    refine va_get (D := (dC, dI)) (ci := 3) (v := .int (S_5 5)) (C := RX3) (T := TX3) (N := 7) hx hb hts nX3_begin_X3 hown hK hP 33 (wL_at33 _ _ _ _ _ _ _ _) rfl 6 (by decide) (hts (.fieldLink RX3 36 "SongOffice$LineBook" "size" "I") kX3_begin_1) (fun _ h9 => h9) rfl dX3_begin_50 ?_
    refine lv_iconst (v := 1) hx hb dX3_begin_53 (by decide) ?_
    refine lv_iadd hx hb dX3_begin_54 ?_
    obtain ⟨S_8, eS_8⟩ : ∃ z : TS, z = va_up S_5 5 ((S_5 5) + (1 : Int32)) := ⟨_, rfl⟩
    have h := h S_8 eS_8
    refine va_put (D := (dC, dI)) (ci := 3) (v := .int ((S_5 5) + (1 : Int32))) (ty := .int) (C := RX3) (T := TX3) (N := 7) hx hb hts nX3_begin_X3 tyX3 tyX3_ok nmX3 hown hK hP hD hS 33 (wL_at33 _ _ _ _ _ _ _ _) rfl 6 (by decide) (hts (.fieldLink RX3 36 "SongOffice$LineBook" "size" "I") kX3_begin_1) (fun _ h9 => h9) rfl (by decide +kernel) rfl rfl (Nat.le_of_ble_eq_true rfl) dX3_begin_55 (fun H locs hP hD hS => ?_)
    have hP : va_P (dC, dI) vwCl (wL a cy n0 n1 I_3 J_4 S_8 L_6) H := by rw [eS_8]; exact setP hP (wL_setS5 _ _ _ _ _ _ _ _ _)
    have hD : va_D A (wL a cy n0 n1 I_3 J_4 S_8 L_6) := by rw [eS_8]; exact setD hD (wL_setS5 _ _ _ _ _ _ _ _ _)
    refine lv_iload hx hb dX3_begin_58 (lv_at hl 1 rfl) ?_
    exact gri hx hb hr hlocks hP hK hD hS h dX3_begin_60
  refine lv_icmp_ge (tgt := 48) hx hb dX3_begin_12 (by decide) (fun hc => ?_) (fun hc => ?_)
  · have h := h.1 hc
    exact jB_2 I J S L x_1 _ _ _ hP hD hS (lv_sub hl [1, 0] rfl) h
  · have h := h.2 hc
    refine lv_aload_n hx hb dX3_begin_15 rfl (lv_at hl 1 rfl) ?_
    refine va_get (D := (dC, dI)) (ci := 3) (v := .ref (a 34)) (C := RX3) (T := TX3) (N := 7) hx hb hts nX3_begin_X3 hown hK hP 33 (wL_at33 _ _ _ _ _ _ _ _) rfl 1 (by decide) (hts (.fieldLink RX3 19 "SongOffice$LineBook" "work" "[I") kX3_begin_3) (fun _ h9 => h9) rfl dX3_begin_16 ?_
    refine lv_iload hx hb dX3_begin_19 (lv_at hl 0 rfl) ?_
    refine lv_iload_n hx hb dX3_begin_21 rfl (lv_at hl 2 rfl) ?_
    obtain ⟨hi, h⟩ := h
    obtain ⟨I_9, eI_9⟩ : ∃ z : TI, z = va_up I 34 (upd (I 34) (x_1).toNatClampNeg p0) := ⟨_, rfl⟩
    have h := h I_9 eI_9
    refine va_iast hx hb hK hP hD hS 34 28 (wL_at34 _ _ _ _ _ _ _ _) rfl hi dX3_begin_22 (fun H locs hP hD hS => ?_)
    have hP : va_P (dC, dI) vwCl (wL a cy n0 n1 I_9 J S L) H := by rw [eI_9]; exact setP hP (wL_set34 _ _ _ _ _ _ _ _ _)
    have hD : va_D A (wL a cy n0 n1 I_9 J S L) := by rw [eI_9]; exact setD hD (wL_set34 _ _ _ _ _ _ _ _ _)
    refine lv_aload_n hx hb dX3_begin_23 rfl (lv_at hl 1 rfl) ?_
    refine va_get (D := (dC, dI)) (ci := 3) (v := .ref (a 35)) (C := RX3) (T := TX3) (N := 7) hx hb hts nX3_begin_X3 hown hK hP 33 (wL_at33 _ _ _ _ _ _ _ _) rfl 2 (by decide) (hts (.fieldLink RX3 23 "SongOffice$LineBook" "owner" "[I") kX3_begin_4) (fun _ h9 => h9) rfl dX3_begin_24 ?_
    refine lv_iload hx hb dX3_begin_27 (lv_at hl 0 rfl) ?_
    refine lv_iload_n hx hb dX3_begin_29 rfl (lv_at hl 3 rfl) ?_
    obtain ⟨hi, h⟩ := h
    obtain ⟨I_10, eI_10⟩ : ∃ z : TI, z = va_up I_9 35 (upd (I_9 35) (x_1).toNatClampNeg p1) := ⟨_, rfl⟩
    have h := h I_10 eI_10
    refine va_iast hx hb hK hP hD hS 35 29 (wL_at35 _ _ _ _ _ _ _ _) rfl hi dX3_begin_30 (fun H locs hP hD hS => ?_)
    have hP : va_P (dC, dI) vwCl (wL a cy n0 n1 I_10 J S L) H := by rw [eI_10]; exact setP hP (wL_set35 _ _ _ _ _ _ _ _ _)
    have hD : va_D A (wL a cy n0 n1 I_10 J S L) := by rw [eI_10]; exact setD hD (wL_set35 _ _ _ _ _ _ _ _ _)
    refine lv_aload_n hx hb dX3_begin_31 rfl (lv_at hl 1 rfl) ?_
    refine va_get (D := (dC, dI)) (ci := 3) (v := .ref (a 36)) (C := RX3) (T := TX3) (N := 7) hx hb hts nX3_begin_X3 hown hK hP 33 (wL_at33 _ _ _ _ _ _ _ _) rfl 3 (by decide) (hts (.fieldLink RX3 26 "SongOffice$LineBook" "from" "[I") kX3_begin_5) (fun _ h9 => h9) rfl dX3_begin_32 ?_
    refine lv_iload hx hb dX3_begin_35 (lv_at hl 0 rfl) ?_
    refine lv_iload_n hx hb dX3_begin_37 rfl (lv_at hl 4 rfl) ?_
    obtain ⟨hi, h⟩ := h
    obtain ⟨I_11, eI_11⟩ : ∃ z : TI, z = va_up I_10 36 (upd (I_10 36) (x_1).toNatClampNeg p2) := ⟨_, rfl⟩
    have h := h I_11 eI_11
    refine va_iast hx hb hK hP hD hS 36 30 (wL_at36 _ _ _ _ _ _ _ _) rfl hi dX3_begin_38 (fun H locs hP hD hS => ?_)
    have hP : va_P (dC, dI) vwCl (wL a cy n0 n1 I_11 J S L) H := by rw [eI_11]; exact setP hP (wL_set36 _ _ _ _ _ _ _ _ _)
    have hD : va_D A (wL a cy n0 n1 I_11 J S L) := by rw [eI_11]; exact setD hD (wL_set36 _ _ _ _ _ _ _ _ _)
    refine lv_aload_n hx hb dX3_begin_39 rfl (lv_at hl 1 rfl) ?_
    refine va_get (D := (dC, dI)) (ci := 3) (v := .ref (a 37)) (C := RX3) (T := TX3) (N := 7) hx hb hts nX3_begin_X3 hown hK hP 33 (wL_at33 _ _ _ _ _ _ _ _) rfl 4 (by decide) (hts (.fieldLink RX3 29 "SongOffice$LineBook" "began" "[J") kX3_begin_6) (fun _ h9 => h9) rfl dX3_begin_40 ?_
    refine lv_iload hx hb dX3_begin_43 (lv_at hl 0 rfl) ?_
    refine lv_lload hx hb dX3_begin_45 (lv_at hl 5 rfl) ?_
    obtain ⟨hi, h⟩ := h
    obtain ⟨J_12, eJ_12⟩ : ∃ z : TJ, z = va_up J 37 (vp_updL (J 37) (x_1).toNatClampNeg p3) := ⟨_, rfl⟩
    have h := h J_12 eJ_12
    refine va_last hx hb hK hP hD hS 37 31 (wL_at37 _ _ _ _ _ _ _ _) rfl hi dX3_begin_47 (fun H locs hP hD hS => ?_)
    have hP : va_P (dC, dI) vwCl (wL a cy n0 n1 I_11 J_12 S L) H := by rw [eJ_12]; exact setP hP (wL_set37 _ _ _ _ _ _ _ _ _)
    have hD : va_D A (wL a cy n0 n1 I_11 J_12 S L) := by rw [eJ_12]; exact setD hD (wL_set37 _ _ _ _ _ _ _ _ _)
    exact jB_2 I_11 J_12 S L x_1 _ _ _ hP hD hS (lv_sub hl [1, 0] rfl) h
def wp_X3_end (n0 n1 : Nat) (I : TI) (J : TJ) (S : TS) (L : TL) (p0 : Int32) (p1 : Int64) (Φ : TI → TJ → TS → TL → Prop) : Prop := ∃ B_1 : TI → TJ → TS → TL → Prop, (∀ (I_2 : TI) (J_3 : TJ) (S_4 : TS) (L_5 : TL), B_1 I_2 J_3 S_4 L_5 → (Φ I_2 J_3 S_4 L_5)) ∧ (((p0 < 0) → (B_1 I J S L)) ∧ ((¬ p0 < 0) → ((((S 6) ≤ p0) → (B_1 I J S L)) ∧ ((¬ (S 6) ≤ p0) → ((vp_in p0 n0) ∧ ∀ J_6 : TJ, J_6 = va_up J 38 (vp_updL (J 38) (p0).toNatClampNeg p1) → (B_1 I J_6 S L))))))
theorem nX3_end_X3 : ∀ w ∈ wsX30, w ∈ wsX3_end := fun _ h => List.mem_cons_of_mem _ (List.mem_append_right _ h)
theorem kX3_end_2 : Cond.fieldLink RX3 33 "SongOffice$LineBook" "ended" "[J" ∈ wsX3_end := List.mem_of_getElem? (i := 2) rfl
theorem kX3_end_1 : Cond.fieldLink RX3 13 "SongOffice$LineBook" "room" "I" ∈ wsX3_end := List.mem_of_getElem? (i := 1) rfl
abbrev rmX3_end : Room := { frames := 0, cells := 0, slots := 0, locals := 0 }
set_option maxHeartbeats 4000000 in
set_option maxRecDepth 100000 in
theorem c_X3_end (l : Launch) (dC : Nat → ClassId) (dI : Nat → Nat → Nat) (a : Nat → Nat) (cy : Nat → ClassId) (n0 n1 : Nat) (sz : Nat) (I : TI) (J : TJ) (S : TS) (L : TL) (p0 : Int32) (p1 : Int64) (Φ : TI → TJ → TS → TL → Prop) (h : wp_X3_end n0 n1 I J S L p0 p1 Φ) : Met l yX3_end wsX3_end rmX3_end (va_Pc [.ref (a 33), .int p0, .long p1] (gpre dC dI (wL a cy n0 n1 I J S L) (tyL cy) sz)) (gQv dC dI (wL a cy n0 n1) (tyL cy) (va_A (wL a cy n0 n1 I J S L) sz) Φ) 0 0 (va_A (wL a cy n0 n1 I J S L) sz) := by
  refine Met.ofW (cc := cX3_end) (maxL := 4) (ret := none) (by decide) rfl ?_
  intro p e s m args below meth c s₁ B hml hv
  obtain ⟨hargs, hsz, hP, hK, hD0, hN⟩ := hv
  have hx := B.exec
  have hb := B.bytes
  have hr := B.returns
  have hts := atoms_spec (ws := wsX3_end) B.pre
  have hown : s.vm.findClass RX3 = some m.cls := findClass_of_methodNamed B.named
  have hlocks := B.notSynchronized
  subst hsz
  have hD := hD0.self (sz := s.heap.size)
  generalize hAe : va_A (wL a cy n0 n1 I J S L) s.heap.size = A at hD ⊢
  have hA : ∀ q : Nat, s.heap.size ≤ q → A q := fun q h => by rw [← hAe]; exact Or.inr h
  obtain ⟨H, hH⟩ : ∃ z : Heap, z = s.heap := ⟨_, rfl⟩
  rw [← hH] at hP
  have hS : va_S A s.heap H [] := by rw [hH]; exact va_S.rf
  have hl := lv_entry ([.ref (a 33), .int p0, .long p1]) (n := 4) (Nat.le_of_ble_eq_true rfl)
  have hE : entryFrame m args 4 = F0 m 0 ((lg_sl ([.ref (a 33), .int p0, .long p1]) ++ List.replicate (4 - (lg_sl ([.ref (a 33), .int p0, .long p1])).length) Slot.unset).toArray) [] := by rw [hargs]; exact lg_entry_eq m _ _
  rw [hE, ← hH]
  clear hE
  generalize (lg_sl ([.ref (a 33), .int p0, .long p1]) ++ List.replicate (4 - (lg_sl ([.ref (a 33), .int p0, .long p1])).length) Slot.unset).toArray = ls at hl ⊢
  have hl : lv_has ls 4 [(0, .ref (a 33)), (1, .int p0), (2, .long p1)] := hl
  unfold wp_X3_end at h
  refine lv_iload_n hx hb dX3_end_0 rfl (lv_at hl 1 rfl) ?_
  obtain ⟨B_1, hB_1, h⟩ := h
  have jB_1 : ∀ (I_2 : TI) (J_3 : TJ) (S_4 : TS) (L_5 : TL) (H : Heap) (locs : List Loc) (ls : Array Slot), va_P (dC, dI) vwCl (wL a cy n0 n1 I_2 J_3 S_4 L_5) H → va_D A (wL a cy n0 n1 I_2 J_3 S_4 L_5) → va_S A s.heap H locs → lv_has ls 4 [] → B_1 I_2 J_3 S_4 L_5 → W p l e (headSpec wsX3_end rmX3_end).room s m args below meth c H locs 0 0 (MQ below (gQv dC dI (wL a cy n0 n1) (tyL cy) A Φ) args s 0 0 A) (F0 m 19 ls []) := by
    intro I_2 J_3 S_4 L_5 H locs ls hP hD hS hl h
    have h := hB_1 I_2 J_3 S_4 L_5 h
    exact grv hx hb hr hlocks hP hK hD hS h dX3_end_19
  refine lv_if_lt (tgt := 19) hx hb dX3_end_1 (by decide) (fun hc => ?_) (fun hc => ?_)
  · have h := h.1 hc
    exact jB_1 I J S L _ _ _ hP hD hS (lv_sub hl [] rfl) h
  · have h := h.2 hc
    refine lv_iload_n hx hb dX3_end_4 rfl (lv_at hl 1 rfl) ?_
    refine lv_aload_n hx hb dX3_end_5 rfl (lv_at hl 0 rfl) ?_
    refine va_get (D := (dC, dI)) (ci := 3) (v := .int (S 6)) (C := RX3) (T := TX3) (N := 7) hx hb hts nX3_end_X3 hown hK hP 33 (wL_at33 _ _ _ _ _ _ _ _) rfl 0 (by decide) (hts (.fieldLink RX3 13 "SongOffice$LineBook" "room" "I") kX3_end_1) (fun _ h9 => h9) rfl dX3_end_6 ?_
    refine lv_icmp_ge (tgt := 19) hx hb dX3_end_9 (by decide) (fun hc => ?_) (fun hc => ?_)
    · have h := h.1 hc
      exact jB_1 I J S L _ _ _ hP hD hS (lv_sub hl [] rfl) h
    · have h := h.2 hc
      refine lv_aload_n hx hb dX3_end_12 rfl (lv_at hl 0 rfl) ?_
      refine va_get (D := (dC, dI)) (ci := 3) (v := .ref (a 38)) (C := RX3) (T := TX3) (N := 7) hx hb hts nX3_end_X3 hown hK hP 33 (wL_at33 _ _ _ _ _ _ _ _) rfl 5 (by decide) (hts (.fieldLink RX3 33 "SongOffice$LineBook" "ended" "[J") kX3_end_2) (fun _ h9 => h9) rfl dX3_end_13 ?_
      refine lv_iload_n hx hb dX3_end_16 rfl (lv_at hl 1 rfl) ?_
      refine lv_lload_n hx hb dX3_end_17 rfl (lv_at hl 2 rfl) ?_
      obtain ⟨hi, h⟩ := h
      obtain ⟨J_6, eJ_6⟩ : ∃ z : TJ, z = va_up J 38 (vp_updL (J 38) (p0).toNatClampNeg p1) := ⟨_, rfl⟩
      have h := h J_6 eJ_6
      refine va_last hx hb hK hP hD hS 38 32 (wL_at38 _ _ _ _ _ _ _ _) rfl hi dX3_end_18 (fun H locs hP hD hS => ?_)
      have hP : va_P (dC, dI) vwCl (wL a cy n0 n1 I J_6 S L) H := by rw [eJ_6]; exact setP hP (wL_set38 _ _ _ _ _ _ _ _ _)
      have hD : va_D A (wL a cy n0 n1 I J_6 S L) := by rw [eJ_6]; exact setD hD (wL_set38 _ _ _ _ _ _ _ _ _)
      exact jB_1 I J_6 S L _ _ _ hP hD hS (lv_sub hl [] rfl) h
