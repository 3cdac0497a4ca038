def wp_X8_isDay (I : TI) (J : TJ) (S : TS) (L : TL) (p0 : Int32) (Φ : Int32 → TI → TJ → TS → TL → Prop) : Prop := ∃ B_1 : TI → TJ → TS → TL → Int32 → Prop, (∀ (I_2 : TI) (J_3 : TJ) (S_4 : TS) (L_5 : TL) (s_6 : Int32), B_1 I_2 J_3 S_4 L_5 s_6 → ((s_6 = 0 ∨ s_6 = 1) ∧ Φ s_6 I_2 J_3 S_4 L_5)) ∧ (∃ B_7 : TI → TJ → TS → TL → Prop, (∀ (I_8 : TI) (J_9 : TJ) (S_10 : TS) (L_11 : TL), B_7 I_8 J_9 S_10 L_11 → (B_1 I_8 J_9 S_10 L_11 (0 : Int32))) ∧ (((p0 < ((90 : Int32) * (S 0))) → (B_7 I J S L)) ∧ ((¬ p0 < ((90 : Int32) * (S 0))) → ((((3599 : Int32) < p0) → (B_7 I J S L)) ∧ ((¬ (3599 : Int32) < p0) → (B_1 I J S L (1 : Int32)))))))
theorem nX8_isDay_X8 : ∀ w ∈ wsX80, w ∈ wsX8_isDay := fun _ h => List.mem_cons_of_mem _ (List.mem_append_right _ h)
theorem kX8_isDay_1 : Cond.fieldLink RX8 136 "SongOfficeModel" "term" "I" ∈ wsX8_isDay := List.mem_of_getElem? (i := 1) rfl
abbrev rmX8_isDay : Room := { frames := 0, cells := 0, slots := 0, locals := 0 }
set_option maxHeartbeats 4000000 in
set_option maxRecDepth 100000 in
theorem c_X8_isDay (l : Launch) (dC : Nat → ClassId) (dI : Nat → Nat → Nat) (a : Nat → Nat) (cy : Nat → ClassId) (sz : Nat) (I : TI) (J : TJ) (S : TS) (L : TL) (p0 : Int32) (Φ : Int32 → TI → TJ → TS → TL → Prop) (h : wp_X8_isDay I J S L p0 Φ) : Met l yX8_isDay wsX8_isDay rmX8_isDay (va_Pc [.ref (a 0), .int p0] (gpre dC dI (wM a cy I J S L) (tyM cy) sz)) (gQi dC dI (wM a cy) (tyM cy) (va_A (wM a cy I J S L) sz) Φ) 0 0 (va_A (wM a cy I J S L) sz) := by
  refine Met.ofW (cc := cX8_isDay) (maxL := 2) (ret := (some .boolean)) (by decide) rfl ?_
  intro p e s m args below meth c s₁ B hml hv
  obtain ⟨hargs, hsz, hP, hK, hD0, hN⟩ := hv
  have hx := B.exec
  have hb := B.bytes
  have hr := B.returns
  have hts := atoms_spec (ws := wsX8_isDay) B.pre
  have hown : s.vm.findClass RX8 = some m.cls := findClass_of_methodNamed B.named
  have hlocks := B.notSynchronized
  subst hsz
  have hD := hD0.self (sz := s.heap.size)
  generalize hAe : va_A (wM a cy I J S L) s.heap.size = A at hD ⊢
  have hA : ∀ q : Nat, s.heap.size ≤ q → A q := fun q h => by rw [← hAe]; exact Or.inr h
  obtain ⟨H, hH⟩ : ∃ z : Heap, z = s.heap := ⟨_, rfl⟩
  rw [← hH] at hP
  have hS : va_S A s.heap H [] := by rw [hH]; exact va_S.rf
  have hl := lv_entry ([.ref (a 0), .int p0]) (n := 2) (Nat.le_of_ble_eq_true rfl)
  have hE : entryFrame m args 2 = F0 m 0 ((lg_sl ([.ref (a 0), .int p0]) ++ List.replicate (2 - (lg_sl ([.ref (a 0), .int p0])).length) Slot.unset).toArray) [] := by rw [hargs]; exact lg_entry_eq m _ _
  rw [hE, ← hH]
  clear hE
  generalize (lg_sl ([.ref (a 0), .int p0]) ++ List.replicate (2 - (lg_sl ([.ref (a 0), .int p0])).length) Slot.unset).toArray = ls at hl ⊢
  have hl : lv_has ls 2 [(0, .ref (a 0)), (1, .int p0)] := hl
  unfold wp_X8_isDay at h
  refine lv_iload_n hx hb dX8_isDay_0 rfl (lv_at hl 1 rfl) ?_
  refine lv_bipush (v := 90) hx hb dX8_isDay_1 (by decide) ?_
  refine lv_aload_n hx hb dX8_isDay_3 rfl (lv_at hl 0 rfl) ?_
  refine va_get (D := (dC, dI)) (ci := 8) (v := .int (S 0)) (C := RX8) (T := TX8) (N := 47) hx hb hts nX8_isDay_X8 hown hK hP 0 (wM_at0 _ _ _ _ _ _) rfl 0 (by decide) (hts (.fieldLink RX8 136 "SongOfficeModel" "term" "I") kX8_isDay_1) (fun _ h9 => h9) rfl dX8_isDay_4 ?_
  refine lv_imul hx hb dX8_isDay_7 ?_
  obtain ⟨B_1, hB_1, h⟩ := h
  have jB_1 : ∀ (I_2 : TI) (J_3 : TJ) (S_4 : TS) (L_5 : TL) (s_6 : Int32) (H : Heap) (locs : List Loc) (ls : Array Slot), va_P (dC, dI) vwCl (wM a cy I_2 J_3 S_4 L_5) H → va_D A (wM a cy I_2 J_3 S_4 L_5) → va_S A s.heap H locs → lv_has ls 2 [] → B_1 I_2 J_3 S_4 L_5 s_6 → W p l e (headSpec wsX8_isDay rmX8_isDay).room s m args below meth c H locs 0 0 (MQ below (gQi dC dI (wM a cy) (tyM cy) A Φ) args s 0 0 A) (F0 m 23 ls [.int s_6]) := by
    intro I_2 J_3 S_4 L_5 s_6 H locs ls hP hD hS hl h
    have h := hB_1 I_2 J_3 S_4 L_5 s_6 h
    exact grz hx hb hr hlocks hP hK hD hS h dX8_isDay_23
  obtain ⟨B_7, hB_7, h⟩ := h
  have jB_7 : ∀ (I_8 : TI) (J_9 : TJ) (S_10 : TS) (L_11 : TL) (H : Heap) (locs : List Loc) (ls : Array Slot), va_P (dC, dI) vwCl (wM a cy I_8 J_9 S_10 L_11) H → va_D A (wM a cy I_8 J_9 S_10 L_11) → va_S A s.heap H locs → lv_has ls 2 [] → B_7 I_8 J_9 S_10 L_11 → W p l e (headSpec wsX8_isDay rmX8_isDay).room s m args below meth c H locs 0 0 (MQ below (gQi dC dI (wM a cy) (tyM cy) A Φ) args s 0 0 A) (F0 m 22 ls []) := by
    intro I_8 J_9 S_10 L_11 H locs ls hP hD hS hl h
    have h := hB_7 I_8 J_9 S_10 L_11 h
    refine lv_iconst (v := 0) hx hb dX8_isDay_22 (by decide) ?_
    exact jB_1 I_8 J_9 S_10 L_11 (0 : Int32) _ _ _ hP hD hS (lv_sub hl [] rfl) h
  refine lv_icmp_lt (tgt := 22) hx hb dX8_isDay_8 (by decide) (fun hc => ?_) (fun hc => ?_)
  · have h := h.1 hc
    exact jB_7 I J S L _ _ _ hP hD hS (lv_sub hl [] rfl) h
  · have h := h.2 hc
    refine lv_iload_n hx hb dX8_isDay_11 rfl (lv_at hl 1 rfl) ?_
    refine lv_sipush (v := 3599) hx hb dX8_isDay_12 (by decide) ?_
    refine lv_icmp_gt (tgt := 22) hx hb dX8_isDay_15 (by decide) (fun hc => ?_) (fun hc => ?_)
    · have h := h.1 hc
      exact jB_7 I J S L _ _ _ hP hD hS (lv_sub hl [] rfl) h
    · have h := h.2 hc
      refine lv_iconst (v := 1) hx hb dX8_isDay_18 (by decide) ?_
      refine lv_goto (tgt := 23) hx hb dX8_isDay_19 (by decide) ?_
      exact jB_1 I J S L (1 : Int32) _ _ _ hP hD hS (lv_sub hl [] rfl) h
def wp_X8_share (I : TI) (J : TJ) (S : TS) (L : TL) (p0 : Int32) (p1 : Int32) (p2 : Int32) (p3 : Int32) (p4 : Int32) (p5 : Int32) (p6 : Int32) (p7 : Int32) (Φ : Int32 → TI → TJ → TS → TL → Prop) : Prop := wp_X8_isWork I J S L p0 (fun (r_5 : Int32) (I_1 : TI) (J_2 : TJ) (S_3 : TS) (L_4 : TL) => (∃ B_6 : TI → TJ → TS → TL → Prop, (∀ (I_7 : TI) (J_8 : TJ) (S_9 : TS) (L_10 : TL), B_6 I_7 J_8 S_9 L_10 → (Φ (-1 : Int32) I_7 J_8 S_9 L_10)) ∧ (((r_5 = 0) → (B_6 I_1 J_2 S_3 L_4)) ∧ ((¬ r_5 = 0) → (wp_X8_isHand I_1 J_2 S_3 L_4 p2 (fun (r_15 : Int32) (I_11 : TI) (J_12 : TJ) (S_13 : TS) (L_14 : TL) => (((r_15 = 0) → (B_6 I_11 J_12 S_13 L_14)) ∧ ((¬ r_15 = 0) → (wp_X8_isPart I_11 J_12 S_13 L_14 p2 p3 (fun (r_20 : Int32) (I_16 : TI) (J_17 : TJ) (S_18 : TS) (L_19 : TL) => (((r_20 = 0) → (B_6 I_16 J_17 S_18 L_19)) ∧ ((¬ r_20 = 0) → (wp_X8_isPart I_16 J_17 S_18 L_19 p4 p5 (fun (r_25 : Int32) (I_21 : TI) (J_22 : TJ) (S_23 : TS) (L_24 : TL) => (((r_25 = 0) → (B_6 I_21 J_22 S_23 L_24)) ∧ ((¬ r_25 = 0) → (wp_X8_isPart I_21 J_22 S_23 L_24 p6 p7 (fun (r_30 : Int32) (I_26 : TI) (J_27 : TJ) (S_28 : TS) (L_29 : TL) => (((r_30 = 0) → (B_6 I_26 J_27 S_28 L_29)) ∧ ((¬ r_30 = 0) → (∃ B_31 : TI → TJ → TS → TL → Prop, (∀ (I_32 : TI) (J_33 : TJ) (S_34 : TS) (L_35 : TL), B_31 I_32 J_33 S_34 L_35 → (∃ B_36 : TI → TJ → TS → TL → Prop, (∀ (I_37 : TI) (J_38 : TJ) (S_39 : TS) (L_40 : TL), B_36 I_37 J_38 S_39 L_40 → (Φ (-1 : Int32) I_37 J_38 S_39 L_40)) ∧ (((p2 = p4) → (B_36 I_32 J_33 S_34 L_35)) ∧ ((¬ p2 = p4) → (((p2 = p6) → (B_36 I_32 J_33 S_34 L_35)) ∧ ((¬ p2 = p6) → (∃ B_41 : TI → TJ → TS → TL → Prop, (∀ (I_42 : TI) (J_43 : TJ) (S_44 : TS) (L_45 : TL), B_41 I_42 J_43 S_44 L_45 → (((¬ ((p3 + p5) + p7) = (1000 : Int32)) → (B_36 I_42 J_43 S_44 L_45)) ∧ ((((p3 + p5) + p7) = (1000 : Int32)) → (wp_X8_isDay I_42 J_43 S_44 L_45 p1 (fun (r_50 : Int32) (I_46 : TI) (J_47 : TJ) (S_48 : TS) (L_49 : TL) => (((¬ r_50 = 0) → ((vp_in p0 12) ∧ (∀ x_51 : Int32, x_51 = (I_46 1 (p0).toNatClampNeg) → (∃ B_52 : TI → TJ → TS → TL → Prop, (∀ (I_53 : TI) (J_54 : TJ) (S_55 : TS) (L_56 : TL), B_52 I_53 J_54 S_55 L_56 → (Φ (-1 : Int32) I_53 J_54 S_55 L_56)) ∧ (((x_51 = (6 : Int32)) → (B_52 I_46 J_47 S_48 L_49)) ∧ ((¬ x_51 = (6 : Int32)) → (∃ B_57 : TI → TJ → TS → TL → Int32 → Prop, (∀ (I_58 : TI) (J_59 : TJ) (S_60 : TS) (L_61 : TL) (x_62 : Int32), B_57 I_58 J_59 S_60 L_61 x_62 → (∀ x_63 : Int32, x_63 = (((6 : Int32) * p0) + x_62) → ((vp_in x_63 72) ∧ ∀ I_64 : TI, I_64 = va_up I_58 2 (upd (I_58 2) (x_63).toNatClampNeg p1) → ((vp_in ((3 : Int32) * x_63) 216) ∧ ∀ I_65 : TI, I_65 = va_up I_64 3 (upd (I_64 3) (((3 : Int32) * x_63)).toNatClampNeg p2) → ((vp_in (((3 : Int32) * x_63) + (1 : Int32)) 216) ∧ ∀ I_66 : TI, I_66 = va_up I_65 3 (upd (I_65 3) ((((3 : Int32) * x_63) + (1 : Int32))).toNatClampNeg p4) → ((vp_in (((3 : Int32) * x_63) + (2 : Int32)) 216) ∧ ∀ I_67 : TI, I_67 = va_up I_66 3 (upd (I_66 3) ((((3 : Int32) * x_63) + (2 : Int32))).toNatClampNeg p6) → ((vp_in ((3 : Int32) * x_63) 216) ∧ ∀ I_68 : TI, I_68 = va_up I_67 4 (upd (I_67 4) (((3 : Int32) * x_63)).toNatClampNeg p3) → ((vp_in (((3 : Int32) * x_63) + (1 : Int32)) 216) ∧ ∀ I_69 : TI, I_69 = va_up I_68 4 (upd (I_68 4) ((((3 : Int32) * x_63) + (1 : Int32))).toNatClampNeg p5) → ((vp_in (((3 : Int32) * x_63) + (2 : Int32)) 216) ∧ ∀ I_70 : TI, I_70 = va_up I_69 4 (upd (I_69 4) ((((3 : Int32) * x_63) + (2 : Int32))).toNatClampNeg p7) → ((vp_in p0 12) ∧ ∀ I_71 : TI, I_71 = va_up I_70 1 (upd (I_70 1) (p0).toNatClampNeg (x_62 + (1 : Int32))) → (Φ (x_62 + (1 : Int32)) I_71 J_59 S_60 L_61))))))))))) ∧ (((x_51 ≤ 0) → (B_57 I_46 J_47 S_48 L_49 x_51)) ∧ ((¬ x_51 ≤ 0) → ((vp_in ((((6 : Int32) * p0) + x_51) - (1 : Int32)) 72) ∧ ((((I_46 2 (((((6 : Int32) * p0) + x_51) - (1 : Int32))).toNatClampNeg) < p1) → (B_57 I_46 J_47 S_48 L_49 x_51)) ∧ ((¬ (I_46 2 (((((6 : Int32) * p0) + x_51) - (1 : Int32))).toNatClampNeg) < p1) → (B_52 I_46 J_47 S_48 L_49))))))))))))) ∧ ((r_50 = 0) → (B_36 I_46 J_47 S_48 L_49)))))))) ∧ (((¬ p4 = p6) → (B_41 I_32 J_33 S_34 L_35)) ∧ ((p4 = p6) → (((¬ p4 = (-1 : Int32)) → (B_36 I_32 J_33 S_34 L_35)) ∧ ((p4 = (-1 : Int32)) → (B_41 I_32 J_33 S_34 L_35)))))))))))) ∧ (((¬ p4 = (-1 : Int32)) → (B_31 I_26 J_27 S_28 L_29)) ∧ ((p4 = (-1 : Int32)) → (((p6 = (-1 : Int32)) → (B_31 I_26 J_27 S_28 L_29)) ∧ ((¬ p6 = (-1 : Int32)) → (B_6 I_26 J_27 S_28 L_29))))))))))))))))))))))))))
theorem nX8_share_X8 : ∀ w ∈ wsX80, w ∈ wsX8_share := fun _ h => List.mem_cons_of_mem _ (List.mem_append_right _ h)
theorem kX8_share_1 : Cond.fieldLink RX8 7 "SongOfficeModel" "setMany" "[I" ∈ wsX8_share := List.mem_of_getElem? (i := 1) rfl
theorem kX8_share_4 : Cond.fieldLink RX8 19 "SongOfficeModel" "setPart" "[I" ∈ wsX8_share := List.mem_of_getElem? (i := 4) rfl
theorem kX8_share_3 : Cond.fieldLink RX8 16 "SongOfficeModel" "setHand" "[I" ∈ wsX8_share := List.mem_of_getElem? (i := 3) rfl
theorem kX8_share_2 : Cond.fieldLink RX8 13 "SongOfficeModel" "setDay" "[I" ∈ wsX8_share := List.mem_of_getElem? (i := 2) rfl
abbrev rmX8_share : Room := { frames := 2, cells := 0, slots := 0, locals := 41 }
set_option maxHeartbeats 4000000 in
set_option maxRecDepth 100000 in
theorem c_X8_share (l : Launch) (dC : Nat → ClassId) (dI : Nat → Nat → Nat) (a : Nat → Nat) (cy : Nat → ClassId) (sz : Nat) (I : TI) (J : TJ) (S : TS) (L : TL) (p0 : Int32) (p1 : Int32) (p2 : Int32) (p3 : Int32) (p4 : Int32) (p5 : Int32) (p6 : Int32) (p7 : Int32) (Φ : Int32 → TI → TJ → TS → TL → Prop) (h : wp_X8_share I J S L p0 p1 p2 p3 p4 p5 p6 p7 Φ) : Met l yX8_share wsX8_share rmX8_share (va_Pc [.ref (a 0), .int p0, .int p1, .int p2, .int p3, .int p4, .int p5, .int p6, .int p7] (gpre dC dI (wM a cy I J S L) (tyM cy) sz)) (gQi dC dI (wM a cy) (tyM cy) (va_A (wM a cy I J S L) sz) Φ) 0 0 (va_A (wM a cy I J S L) sz) := by
  refine Met.ofW (cc := cX8_share) (maxL := 11) (ret := (some .int)) (by decide) rfl ?_
  intro p e s m args below meth c s₁ B hml hv
  obtain ⟨hargs, hsz, hP, hK, hD0, hN⟩ := hv
  have hx := B.exec
  have hb := B.bytes
  have hr := B.returns
  have hts := atoms_spec (ws := wsX8_share) B.pre
  have hown : s.vm.findClass RX8 = some m.cls := findClass_of_methodNamed B.named
  have hlocks := B.notSynchronized
  subst hsz
  have hD := hD0.self (sz := s.heap.size)
  generalize hAe : va_A (wM a cy I J S L) s.heap.size = A at hD ⊢
  have hA : ∀ q : Nat, s.heap.size ≤ q → A q := fun q h => by rw [← hAe]; exact Or.inr h
  obtain ⟨H, hH⟩ : ∃ z : Heap, z = s.heap := ⟨_, rfl⟩
  rw [← hH] at hP
  have hS : va_S A s.heap H [] := by rw [hH]; exact va_S.rf
  have hl := lv_entry ([.ref (a 0), .int p0, .int p1, .int p2, .int p3, .int p4, .int p5, .int p6, .int p7]) (n := 11) (Nat.le_of_ble_eq_true rfl)
  have hE : entryFrame m args 11 = F0 m 0 ((lg_sl ([.ref (a 0), .int p0, .int p1, .int p2, .int p3, .int p4, .int p5, .int p6, .int p7]) ++ List.replicate (11 - (lg_sl ([.ref (a 0), .int p0, .int p1, .int p2, .int p3, .int p4, .int p5, .int p6, .int p7])).length) Slot.unset).toArray) [] := by rw [hargs]; exact lg_entry_eq m _ _
  rw [hE, ← hH]
  clear hE
  generalize (lg_sl ([.ref (a 0), .int p0, .int p1, .int p2, .int p3, .int p4, .int p5, .int p6, .int p7]) ++ List.replicate (11 - (lg_sl ([.ref (a 0), .int p0, .int p1, .int p2, .int p3, .int p4, .int p5, .int p6, .int p7])).length) Slot.unset).toArray = ls at hl ⊢
  have hl : lv_has ls 11 [(0, .ref (a 0)), (1, .int p0), (2, .int p1), (3, .int p2), (4, .int p3), (5, .int p4), (6, .int p5), (7, .int p6), (8, .int p7)] := hl
  unfold wp_X8_share at h
  refine lv_iload_n hx hb dX8_share_0 rfl (lv_at hl 1 rfl) ?_
  refine gcalli (va_runS (As := [.int p0]) (rest := []) ⟨hx, hb, hml, hown, hts⟩ (c_X8_isWork l dC dI (wM a cy) (tyM cy) H.size I J S L p0 _ h) (va_cwS 1 hts gX8_share_X8_isWork rfl rfl rfl (by decide +kernel) ⟨(Nat.le_of_ble_eq_true rfl), (Nat.le_of_ble_eq_true rfl)⟩) (g_pS hP hK hD hN [.int p0]) rfl rfl hl.1 rfl (lv_room (Nat.le_of_ble_eq_true rfl)) dX8_share_1 ⟨(Nat.le_of_ble_eq_true rfl), (Nat.le_of_ble_eq_true rfl)⟩) hS hA hD (fun r_5 I_1 J_2 S_3 L_4 H locs hP hD hS h => ?_)
  obtain ⟨B_6, hB_6, h⟩ := h
  have jB_6 : ∀ (I_7 : TI) (J_8 : TJ) (S_9 : TS) (L_10 : TL) (H : Heap) (locs : List Loc) (ls : Array Slot), va_P (dC, dI) vwCl (wM a cy I_7 J_8 S_9 L_10) H → va_D A (wM a cy I_7 J_8 S_9 L_10) → va_S A s.heap H locs → lv_has ls 11 [] → B_6 I_7 J_8 S_9 L_10 → W p l e (headSpec wsX8_share rmX8_share).room s m args below meth c H locs 0 0 (MQ below (gQi dC dI (wM a cy) (tyM cy) A Φ) args s 0 0 A) (F0 m 55 ls []) := by
    intro I_7 J_8 S_9 L_10 H locs ls hP hD hS hl h
    have h := hB_6 I_7 J_8 S_9 L_10 h
    refine lv_iconst (v := -1) hx hb dX8_share_55 (by decide) ?_
    exact gri hx hb hr hlocks hP hK hD hS h dX8_share_56
  refine lv_if_eq (tgt := 55) hx hb dX8_share_4 (by decide) (fun hc => ?_) (fun hc => ?_)
  · have h := h.1 hc
    exact jB_6 I_1 J_2 S_3 L_4 _ _ _ hP hD hS (lv_sub hl [] rfl) h
  · have h := h.2 hc
    refine lv_iload_n hx hb dX8_share_7 rfl (lv_at hl 3 rfl) ?_
    refine gcalli (va_runS (As := [.int p2]) (rest := []) ⟨hx, hb, hml, hown, hts⟩ (c_X8_isHand l dC dI (wM a cy) (tyM cy) H.size I_1 J_2 S_3 L_4 p2 _ h) (va_cwS 1 hts gX8_share_X8_isHand rfl rfl rfl (by decide +kernel) ⟨(Nat.le_of_ble_eq_true rfl), (Nat.le_of_ble_eq_true rfl)⟩) (g_pS hP hK hD hN [.int p2]) rfl rfl hl.1 rfl (lv_room (Nat.le_of_ble_eq_true rfl)) dX8_share_8 ⟨(Nat.le_of_ble_eq_true rfl), (Nat.le_of_ble_eq_true rfl)⟩) hS hA hD (fun r_15 I_11 J_12 S_13 L_14 H locs hP hD hS h => ?_)
    refine lv_if_eq (tgt := 55) hx hb dX8_share_11 (by decide) (fun hc => ?_) (fun hc => ?_)
    · have h := h.1 hc
      exact jB_6 I_11 J_12 S_13 L_14 _ _ _ hP hD hS (lv_sub hl [] rfl) h
    · have h := h.2 hc
      refine lv_iload_n hx hb dX8_share_14 rfl (lv_at hl 3 rfl) ?_
      refine lv_iload hx hb dX8_share_15 (lv_at hl 4 rfl) ?_
      refine gcalli (va_runS (As := [.int p2, .int p3]) (rest := []) ⟨hx, hb, hml, hown, hts⟩ (c_X8_isPart l dC dI (wM a cy) (tyM cy) H.size I_11 J_12 S_13 L_14 p2 p3 _ h) (va_cwS 2 hts gX8_share_X8_isPart rfl rfl rfl (by decide +kernel) ⟨(Nat.le_of_ble_eq_true rfl), (Nat.le_of_ble_eq_true rfl)⟩) (g_pS hP hK hD hN [.int p2, .int p3]) rfl rfl hl.1 rfl (lv_room (Nat.le_of_ble_eq_true rfl)) dX8_share_17 ⟨(Nat.le_of_ble_eq_true rfl), (Nat.le_of_ble_eq_true rfl)⟩) hS hA hD (fun r_20 I_16 J_17 S_18 L_19 H locs hP hD hS h => ?_)
      refine lv_if_eq (tgt := 55) hx hb dX8_share_20 (by decide) (fun hc => ?_) (fun hc => ?_)
      · have h := h.1 hc
        exact jB_6 I_16 J_17 S_18 L_19 _ _ _ hP hD hS (lv_sub hl [] rfl) h
      · have h := h.2 hc
        refine lv_iload hx hb dX8_share_23 (lv_at hl 5 rfl) ?_
        refine lv_iload hx hb dX8_share_25 (lv_at hl 6 rfl) ?_
        refine gcalli (va_runS (As := [.int p4, .int p5]) (rest := []) ⟨hx, hb, hml, hown, hts⟩ (c_X8_isPart l dC dI (wM a cy) (tyM cy) H.size I_16 J_17 S_18 L_19 p4 p5 _ h) (va_cwS 2 hts gX8_share_X8_isPart rfl rfl rfl (by decide +kernel) ⟨(Nat.le_of_ble_eq_true rfl), (Nat.le_of_ble_eq_true rfl)⟩) (g_pS hP hK hD hN [.int p4, .int p5]) rfl rfl hl.1 rfl (lv_room (Nat.le_of_ble_eq_true rfl)) dX8_share_27 ⟨(Nat.le_of_ble_eq_true rfl), (Nat.le_of_ble_eq_true rfl)⟩) hS hA hD (fun r_25 I_21 J_22 S_23 L_24 H locs hP hD hS h => ?_)
        refine lv_if_eq (tgt := 55) hx hb dX8_share_30 (by decide) (fun hc => ?_) (fun hc => ?_)
        · have h := h.1 hc
          exact jB_6 I_21 J_22 S_23 L_24 _ _ _ hP hD hS (lv_sub hl [] rfl) h
        · have h := h.2 hc
          refine lv_iload hx hb dX8_share_33 (lv_at hl 7 rfl) ?_
          refine lv_iload hx hb dX8_share_35 (lv_at hl 8 rfl) ?_
          refine gcalli (va_runS (As := [.int p6, .int p7]) (rest := []) ⟨hx, hb, hml, hown, hts⟩ (c_X8_isPart l dC dI (wM a cy) (tyM cy) H.size I_21 J_22 S_23 L_24 p6 p7 _ h) (va_cwS 2 hts gX8_share_X8_isPart rfl rfl rfl (by decide +kernel) ⟨(Nat.le_of_ble_eq_true rfl), (Nat.le_of_ble_eq_true rfl)⟩) (g_pS hP hK hD hN [.int p6, .int p7]) rfl rfl hl.1 rfl (lv_room (Nat.le_of_ble_eq_true rfl)) dX8_share_37 ⟨(Nat.le_of_ble_eq_true rfl), (Nat.le_of_ble_eq_true rfl)⟩) hS hA hD (fun r_30 I_26 J_27 S_28 L_29 H locs hP hD hS h => ?_)
          refine lv_if_eq (tgt := 55) hx hb dX8_share_40 (by decide) (fun hc => ?_) (fun hc => ?_)
          · have h := h.1 hc
            exact jB_6 I_26 J_27 S_28 L_29 _ _ _ hP hD hS (lv_sub hl [] rfl) h
          · have h := h.2 hc
            refine lv_iload hx hb dX8_share_43 (lv_at hl 5 rfl) ?_
            refine lv_iconst (v := -1) hx hb dX8_share_45 (by decide) ?_
            obtain ⟨B_31, hB_31, h⟩ := h
            have jB_31 : ∀ (I_32 : TI) (J_33 : TJ) (S_34 : TS) (L_35 : TL) (H : Heap) (locs : List Loc) (ls : Array Slot), va_P (dC, dI) vwCl (wM a cy I_32 J_33 S_34 L_35) H → va_D A (wM a cy I_32 J_33 S_34 L_35) → va_S A s.heap H locs → lv_has ls 11 [(0, .ref (a 0)), (1, .int p0), (2, .int p1), (3, .int p2), (4, .int p3), (5, .int p4), (6, .int p5), (7, .int p6), (8, .int p7)] → B_31 I_32 J_33 S_34 L_35 → W p l e (headSpec wsX8_share rmX8_share).room s m args below meth c H locs 0 0 (MQ below (gQi dC dI (wM a cy) (tyM cy) A Φ) args s 0 0 A) (F0 m 57 ls []) := by
              intro I_32 J_33 S_34 L_35 H locs ls hP hD hS hl h
              have h := hB_31 I_32 J_33 S_34 L_35 h
              refine lv_iload_n hx hb dX8_share_57 rfl (lv_at hl 3 rfl) ?_
              refine lv_iload hx hb dX8_share_58 (lv_at hl 5 rfl) ?_
              obtain ⟨B_36, hB_36, h⟩ := h
              have jB_36 : ∀ (I_37 : TI) (J_38 : TJ) (S_39 : TS) (L_40 : TL) (H : Heap) (locs : List Loc) (ls : Array Slot), va_P (dC, dI) vwCl (wM a cy I_37 J_38 S_39 L_40) H → va_D A (wM a cy I_37 J_38 S_39 L_40) → va_S A s.heap H locs → lv_has ls 11 [] → B_36 I_37 J_38 S_39 L_40 → W p l e (headSpec wsX8_share rmX8_share).room s m args below meth c H locs 0 0 (MQ below (gQi dC dI (wM a cy) (tyM cy) A Φ) args s 0 0 A) (F0 m 104 ls []) := by
                intro I_37 J_38 S_39 L_40 H locs ls hP hD hS hl h
                have h := hB_36 I_37 J_38 S_39 L_40 h
                refine lv_iconst (v := -1) hx hb dX8_share_104 (by decide) ?_
                exact gri hx hb hr hlocks hP hK hD hS h dX8_share_105
              refine lv_icmp_eq (tgt := 104) hx hb dX8_share_60 (by decide) (fun hc => ?_) (fun hc => ?_)
              · have h := h.1 hc
                exact jB_36 I_32 J_33 S_34 L_35 _ _ _ hP hD hS (lv_sub hl [] rfl) h
              · have h := h.2 hc
                refine lv_iload_n hx hb dX8_share_63 rfl (lv_at hl 3 rfl) ?_
                refine lv_iload hx hb dX8_share_64 (lv_at hl 7 rfl) ?_
                refine lv_icmp_eq (tgt := 104) hx hb dX8_share_66 (by decide) (fun hc => ?_) (fun hc => ?_)
                · have h := h.1 hc
                  exact jB_36 I_32 J_33 S_34 L_35 _ _ _ hP hD hS (lv_sub hl [] rfl) h
                · have h := h.2 hc
                  refine lv_iload hx hb dX8_share_69 (lv_at hl 5 rfl) ?_
                  refine lv_iload hx hb dX8_share_71 (lv_at hl 7 rfl) ?_
                  obtain ⟨B_41, hB_41, h⟩ := h
                  have jB_41 : ∀ (I_42 : TI) (J_43 : TJ) (S_44 : TS) (L_45 : TL) (H : Heap) (locs : List Loc) (ls : Array Slot), va_P (dC, dI) vwCl (wM a cy I_42 J_43 S_44 L_45) H → va_D A (wM a cy I_42 J_43 S_44 L_45) → va_S A s.heap H locs → lv_has ls 11 [(0, .ref (a 0)), (1, .int p0), (2, .int p1), (3, .int p2), (4, .int p3), (5, .int p4), (6, .int p5), (7, .int p6), (8, .int p7)] → B_41 I_42 J_43 S_44 L_45 → W p l e (headSpec wsX8_share rmX8_share).room s m args below meth c H locs 0 0 (MQ below (gQi dC dI (wM a cy) (tyM cy) A Φ) args s 0 0 A) (F0 m 82 ls []) := by
                    intro I_42 J_43 S_44 L_45 H locs ls hP hD hS hl h
                    have h := hB_41 I_42 J_43 S_44 L_45 h
                    refine lv_iload hx hb dX8_share_82 (lv_at hl 4 rfl) ?_
                    refine lv_iload hx hb dX8_share_84 (lv_at hl 6 rfl) ?_
                    refine lv_iadd hx hb dX8_share_86 ?_
                    refine lv_iload hx hb dX8_share_87 (lv_at hl 8 rfl) ?_
                    refine lv_iadd hx hb dX8_share_89 ?_
                    refine lv_sipush (v := 1000) hx hb dX8_share_90 (by decide) ?_
                    refine lv_icmp_ne (tgt := 104) hx hb dX8_share_93 (by decide) (fun hc => ?_) (fun hc => ?_)
                    · have h := h.1 hc
                      exact jB_36 I_42 J_43 S_44 L_45 _ _ _ hP hD hS (lv_sub hl [] rfl) h
                    · have h := h.2 hc
                      refine lv_aload_n hx hb dX8_share_96 rfl (lv_at hl 0 rfl) ?_
                      refine lv_iload_n hx hb dX8_share_97 rfl (lv_at hl 2 rfl) ?_
                      refine gcalli (va_runV (As := [.int p1]) (rest := []) ⟨hx, hb, hml, hown, hts⟩ (c_X8_isDay l dC dI a cy H.size I_42 J_43 S_44 L_45 p1 _ h) (cwV 1 hts gX8_share_X8_isDay rfl rfl rfl (by decide +kernel) ⟨(Nat.le_of_ble_eq_true rfl), (Nat.le_of_ble_eq_true rfl)⟩) (g_pV hP hK hD hN (va_recv hK hP (ci := 8) (q0 := 0) rfl (wM_at0 _ _ _ _ _ _)) [.int p1]) rfl rfl hl.1 rfl (lv_room (Nat.le_of_ble_eq_true rfl)) dX8_share_98 ⟨(Nat.le_of_ble_eq_true rfl), (Nat.le_of_ble_eq_true rfl)⟩) hS hA hD (fun r_50 I_46 J_47 S_48 L_49 H locs hP hD hS h => ?_)
                      refine lv_if_ne (tgt := 106) hx hb dX8_share_101 (by decide) (fun hc => ?_) (fun hc => ?_)
                      · have h := h.1 hc
                        refine lv_aload_n hx hb dX8_share_106 rfl (lv_at hl 0 rfl) ?_
                        refine va_get (D := (dC, dI)) (ci := 8) (v := .ref (a 1)) (C := RX8) (T := TX8) (N := 47) hx hb hts nX8_share_X8 hown hK hP 0 (wM_at0 _ _ _ _ _ _) rfl 1 (by decide) (hts (.fieldLink RX8 7 "SongOfficeModel" "setMany" "[I") kX8_share_1) (fun _ h9 => h9) rfl dX8_share_107 ?_
                        refine lv_iload_n hx hb dX8_share_110 rfl (lv_at hl 1 rfl) ?_
                        obtain ⟨hi, h⟩ := h
                        refine va_iald hx hb hK hP 1 0 (wM_at1 _ _ _ _ _ _) rfl hi dX8_share_111 ?_
                        refine lv_topi (fun x_51 ex_51 => ?_)
                        have h := h x_51 ex_51
                        refine lv_istore (lv' := [(9, .int x_51), (0, .ref (a 0)), (1, .int p0), (2, .int p1), (3, .int p2), (4, .int p3), (5, .int p4), (6, .int p5), (7, .int p6), (8, .int p7)]) hx hb dX8_share_112 hl (by decide) rfl (fun ls hl => ?_)
                        refine lv_iload hx hb dX8_share_114 (lv_at hl 0 rfl) ?_
                        refine lv_bipush (v := 6) hx hb dX8_share_116 (by decide) ?_
                        obtain ⟨B_52, hB_52, h⟩ := h
                        have jB_52 : ∀ (I_53 : TI) (J_54 : TJ) (S_55 : TS) (L_56 : TL) (H : Heap) (locs : List Loc) (ls : Array Slot), va_P (dC, dI) vwCl (wM a cy I_53 J_54 S_55 L_56) H → va_D A (wM a cy I_53 J_54 S_55 L_56) → va_S A s.heap H locs → lv_has ls 11 [] → B_52 I_53 J_54 S_55 L_56 → W p l e (headSpec wsX8_share rmX8_share).room s m args below meth c H locs 0 0 (MQ below (gQi dC dI (wM a cy) (tyM cy) A Φ) args s 0 0 A) (F0 m 144 ls []) := by
                          intro I_53 J_54 S_55 L_56 H locs ls hP hD hS hl h
                          have h := hB_52 I_53 J_54 S_55 L_56 h
                          refine lv_iconst (v := -1) hx hb dX8_share_144 (by decide) ?_
                          exact gri hx hb hr hlocks hP hK hD hS h dX8_share_145
                        refine lv_icmp_eq (tgt := 144) hx hb dX8_share_118 (by decide) (fun hc => ?_) (fun hc => ?_)
                        · have h := h.1 hc
                          exact jB_52 I_46 J_47 S_48 L_49 _ _ _ hP hD hS (lv_sub hl [] rfl) h
                        · have h := h.2 hc
                          refine lv_iload hx hb dX8_share_121 (lv_at hl 0 rfl) ?_
                          obtain ⟨B_57, hB_57, h⟩ := h
                          have jB_57 : ∀ (I_58 : TI) (J_59 : TJ) (S_60 : TS) (L_61 : TL) (x_62 : Int32) (H : Heap) (locs : List Loc) (ls : Array Slot), va_P (dC, dI) vwCl (wM a cy I_58 J_59 S_60 L_61) H → va_D A (wM a cy I_58 J_59 S_60 L_61) → va_S A s.heap H locs → lv_has ls 11 [(0, .ref (a 0)), (1, .int p0), (2, .int p1), (3, .int p2), (4, .int p3), (5, .int p4), (6, .int p5), (7, .int p6), (8, .int p7), (9, .int x_62)] → B_57 I_58 J_59 S_60 L_61 x_62 → W p l e (headSpec wsX8_share rmX8_share).room s m args below meth c H locs 0 0 (MQ below (gQi dC dI (wM a cy) (tyM cy) A Φ) args s 0 0 A) (F0 m 146 ls []) := by
                            intro I_58 J_59 S_60 L_61 x_62 H locs ls hP hD hS hl h
                            have h := hB_57 I_58 J_59 S_60 L_61 x_62 h
                            refine lv_bipush (v := 6) hx hb dX8_share_146 (by decide) ?_
                            refine lv_iload_n hx hb dX8_share_148 rfl (lv_at hl 1 rfl) ?_
                            refine lv_imul hx hb dX8_share_149 ?_
                            refine lv_iload hx hb dX8_share_150 (lv_at hl 9 rfl) ?_
                            refine lv_iadd hx hb dX8_share_152 ?_
                            refine lv_topi (fun x_63 ex_63 => ?_)
                            have h := h x_63 ex_63
                            refine lv_istore (lv' := [(10, .int x_63), (0, .ref (a 0)), (1, .int p0), (2, .int p1), (3, .int p2), (4, .int p3), (5, .int p4), (6, .int p5), (7, .int p6), (8, .int p7), (9, .int x_62)]) hx hb dX8_share_153 hl (by decide) rfl (fun ls hl => ?_)
                            refine lv_aload_n hx hb dX8_share_155 rfl (lv_at hl 1 rfl) ?_
                            refine va_get (D := (dC, dI)) (ci := 8) (v := .ref (a 2)) (C := RX8) (T := TX8) (N := 47) hx hb hts nX8_share_X8 hown hK hP 0 (wM_at0 _ _ _ _ _ _) rfl 2 (by decide) (hts (.fieldLink RX8 13 "SongOfficeModel" "setDay" "[I") kX8_share_2) (fun _ h9 => h9) rfl dX8_share_156 ?_
                            refine lv_iload hx hb dX8_share_159 (lv_at hl 0 rfl) ?_
                            refine lv_iload_n hx hb dX8_share_161 rfl (lv_at hl 3 rfl) ?_
                            obtain ⟨hi, h⟩ := h
                            obtain ⟨I_64, eI_64⟩ : ∃ z : TI, z = va_up I_58 2 (upd (I_58 2) (x_63).toNatClampNeg p1) := ⟨_, rfl⟩
                            have h := h I_64 eI_64
                            refine va_iast hx hb hK hP hD hS 2 1 (wM_at2 _ _ _ _ _ _) rfl hi dX8_share_162 (fun H locs hP hD hS => ?_)
                            have hP : va_P (dC, dI) vwCl (wM a cy I_64 J_59 S_60 L_61) H := by rw [eI_64]; exact setP hP (wM_set2 _ _ _ _ _ _ _)
                            have hD : va_D A (wM a cy I_64 J_59 S_60 L_61) := by rw [eI_64]; exact setD hD (wM_set2 _ _ _ _ _ _ _)
                            refine lv_aload_n hx hb dX8_share_163 rfl (lv_at hl 1 rfl) ?_
                            refine va_get (D := (dC, dI)) (ci := 8) (v := .ref (a 3)) (C := RX8) (T := TX8) (N := 47) hx hb hts nX8_share_X8 hown hK hP 0 (wM_at0 _ _ _ _ _ _) rfl 3 (by decide) (hts (.fieldLink RX8 16 "SongOfficeModel" "setHand" "[I") kX8_share_3) (fun _ h9 => h9) rfl dX8_share_164 ?_
                            refine lv_iconst (v := 3) hx hb dX8_share_167 (by decide) ?_
                            refine lv_iload hx hb dX8_share_168 (lv_at hl 0 rfl) ?_
                            refine lv_imul hx hb dX8_share_170 ?_
                            refine lv_iload_n hx hb dX8_share_171 rfl (lv_at hl 4 rfl) ?_
                            obtain ⟨hi, h⟩ := h
                            obtain ⟨I_65, eI_65⟩ : ∃ z : TI, z = va_up I_64 3 (upd (I_64 3) (((3 : Int32) * x_63)).toNatClampNeg p2) := ⟨_, rfl⟩
                            have h := h I_65 eI_65
                            refine va_iast hx hb hK hP hD hS 3 2 (wM_at3 _ _ _ _ _ _) rfl hi dX8_share_172 (fun H locs hP hD hS => ?_)
                            have hP : va_P (dC, dI) vwCl (wM a cy I_65 J_59 S_60 L_61) H := by rw [eI_65]; exact setP hP (wM_set3 _ _ _ _ _ _ _)
                            have hD : va_D A (wM a cy I_65 J_59 S_60 L_61) := by rw [eI_65]; exact setD hD (wM_set3 _ _ _ _ _ _ _)
                            refine lv_aload_n hx hb dX8_share_173 rfl (lv_at hl 1 rfl) ?_
                            refine va_get (D := (dC, dI)) (ci := 8) (v := .ref (a 3)) (C := RX8) (T := TX8) (N := 47) hx hb hts nX8_share_X8 hown hK hP 0 (wM_at0 _ _ _ _ _ _) rfl 3 (by decide) (hts (.fieldLink RX8 16 "SongOfficeModel" "setHand" "[I") kX8_share_3) (fun _ h9 => h9) rfl dX8_share_174 ?_
                            refine lv_iconst (v := 3) hx hb dX8_share_177 (by decide) ?_
                            refine lv_iload hx hb dX8_share_178 (lv_at hl 0 rfl) ?_
                            refine lv_imul hx hb dX8_share_180 ?_
                            refine lv_iconst (v := 1) hx hb dX8_share_181 (by decide) ?_
                            refine lv_iadd hx hb dX8_share_182 ?_
                            refine lv_iload hx hb dX8_share_183 (lv_at hl 6 rfl) ?_
                            obtain ⟨hi, h⟩ := h
                            obtain ⟨I_66, eI_66⟩ : ∃ z : TI, z = va_up I_65 3 (upd (I_65 3) ((((3 : Int32) * x_63) + (1 : Int32))).toNatClampNeg p4) := ⟨_, rfl⟩
                            have h := h I_66 eI_66
                            refine va_iast hx hb hK hP hD hS 3 2 (wM_at3 _ _ _ _ _ _) rfl hi dX8_share_185 (fun H locs hP hD hS => ?_)
                            have hP : va_P (dC, dI) vwCl (wM a cy I_66 J_59 S_60 L_61) H := by rw [eI_66]; exact setP hP (wM_set3 _ _ _ _ _ _ _)
                            have hD : va_D A (wM a cy I_66 J_59 S_60 L_61) := by rw [eI_66]; exact setD hD (wM_set3 _ _ _ _ _ _ _)
                            refine lv_aload_n hx hb dX8_share_186 rfl (lv_at hl 1 rfl) ?_
                            refine va_get (D := (dC, dI)) (ci := 8) (v := .ref (a 3)) (C := RX8) (T := TX8) (N := 47) hx hb hts nX8_share_X8 hown hK hP 0 (wM_at0 _ _ _ _ _ _) rfl 3 (by decide) (hts (.fieldLink RX8 16 "SongOfficeModel" "setHand" "[I") kX8_share_3) (fun _ h9 => h9) rfl dX8_share_187 ?_
                            refine lv_iconst (v := 3) hx hb dX8_share_190 (by decide) ?_
                            refine lv_iload hx hb dX8_share_191 (lv_at hl 0 rfl) ?_
                            refine lv_imul hx hb dX8_share_193 ?_
                            refine lv_iconst (v := 2) hx hb dX8_share_194 (by decide) ?_
                            refine lv_iadd hx hb dX8_share_195 ?_
                            refine lv_iload hx hb dX8_share_196 (lv_at hl 8 rfl) ?_
                            obtain ⟨hi, h⟩ := h
                            obtain ⟨I_67, eI_67⟩ : ∃ z : TI, z = va_up I_66 3 (upd (I_66 3) ((((3 : Int32) * x_63) + (2 : Int32))).toNatClampNeg p6) := ⟨_, rfl⟩
                            have h := h I_67 eI_67
                            refine va_iast hx hb hK hP hD hS 3 2 (wM_at3 _ _ _ _ _ _) rfl hi dX8_share_198 (fun H locs hP hD hS => ?_)
                            have hP : va_P (dC, dI) vwCl (wM a cy I_67 J_59 S_60 L_61) H := by rw [eI_67]; exact setP hP (wM_set3 _ _ _ _ _ _ _)
                            have hD : va_D A (wM a cy I_67 J_59 S_60 L_61) := by rw [eI_67]; exact setD hD (wM_set3 _ _ _ _ _ _ _)
                            refine lv_aload_n hx hb dX8_share_199 rfl (lv_at hl 1 rfl) ?_
                            refine va_get (D := (dC, dI)) (ci := 8) (v := .ref (a 4)) (C := RX8) (T := TX8) (N := 47) hx hb hts nX8_share_X8 hown hK hP 0 (wM_at0 _ _ _ _ _ _) rfl 4 (by decide) (hts (.fieldLink RX8 19 "SongOfficeModel" "setPart" "[I") kX8_share_4) (fun _ h9 => h9) rfl dX8_share_200 ?_
                            refine lv_iconst (v := 3) hx hb dX8_share_203 (by decide) ?_
                            refine lv_iload hx hb dX8_share_204 (lv_at hl 0 rfl) ?_
                            refine lv_imul hx hb dX8_share_206 ?_
                            refine lv_iload hx hb dX8_share_207 (lv_at hl 5 rfl) ?_
                            obtain ⟨hi, h⟩ := h
                            obtain ⟨I_68, eI_68⟩ : ∃ z : TI, z = va_up I_67 4 (upd (I_67 4) (((3 : Int32) * x_63)).toNatClampNeg p3) := ⟨_, rfl⟩
                            have h := h I_68 eI_68
                            refine va_iast hx hb hK hP hD hS 4 3 (wM_at4 _ _ _ _ _ _) rfl hi dX8_share_209 (fun H locs hP hD hS => ?_)
                            have hP : va_P (dC, dI) vwCl (wM a cy I_68 J_59 S_60 L_61) H := by rw [eI_68]; exact setP hP (wM_set4 _ _ _ _ _ _ _)
                            have hD : va_D A (wM a cy I_68 J_59 S_60 L_61) := by rw [eI_68]; exact setD hD (wM_set4 _ _ _ _ _ _ _)
                            refine lv_aload_n hx hb dX8_share_210 rfl (lv_at hl 1 rfl) ?_
                            refine va_get (D := (dC, dI)) (ci := 8) (v := .ref (a 4)) (C := RX8) (T := TX8) (N := 47) hx hb hts nX8_share_X8 hown hK hP 0 (wM_at0 _ _ _ _ _ _) rfl 4 (by decide) (hts (.fieldLink RX8 19 "SongOfficeModel" "setPart" "[I") kX8_share_4) (fun _ h9 => h9) rfl dX8_share_211 ?_
                            refine lv_iconst (v := 3) hx hb dX8_share_214 (by decide) ?_
                            refine lv_iload hx hb dX8_share_215 (lv_at hl 0 rfl) ?_
                            refine lv_imul hx hb dX8_share_217 ?_
                            refine lv_iconst (v := 1) hx hb dX8_share_218 (by decide) ?_
                            refine lv_iadd hx hb dX8_share_219 ?_
                            refine lv_iload hx hb dX8_share_220 (lv_at hl 7 rfl) ?_
                            obtain ⟨hi, h⟩ := h
                            obtain ⟨I_69, eI_69⟩ : ∃ z : TI, z = va_up I_68 4 (upd (I_68 4) ((((3 : Int32) * x_63) + (1 : Int32))).toNatClampNeg p5) := ⟨_, rfl⟩
                            have h := h I_69 eI_69
                            refine va_iast hx hb hK hP hD hS 4 3 (wM_at4 _ _ _ _ _ _) rfl hi dX8_share_222 (fun H locs hP hD hS => ?_)
                            have hP : va_P (dC, dI) vwCl (wM a cy I_69 J_59 S_60 L_61) H := by rw [eI_69]; exact setP hP (wM_set4 _ _ _ _ _ _ _)
                            have hD : va_D A (wM a cy I_69 J_59 S_60 L_61) := by rw [eI_69]; exact setD hD (wM_set4 _ _ _ _ _ _ _)
                            refine lv_aload_n hx hb dX8_share_223 rfl (lv_at hl 1 rfl) ?_
                            refine va_get (D := (dC, dI)) (ci := 8) (v := .ref (a 4)) (C := RX8) (T := TX8) (N := 47) hx hb hts nX8_share_X8 hown hK hP 0 (wM_at0 _ _ _ _ _ _) rfl 4 (by decide) (hts (.fieldLink RX8 19 "SongOfficeModel" "setPart" "[I") kX8_share_4) (fun _ h9 => h9) rfl dX8_share_224 ?_
                            refine lv_iconst (v := 3) hx hb dX8_share_227 (by decide) ?_
                            refine lv_iload hx hb dX8_share_228 (lv_at hl 0 rfl) ?_
                            refine lv_imul hx hb dX8_share_230 ?_
                            refine lv_iconst (v := 2) hx hb dX8_share_231 (by decide) ?_
                            refine lv_iadd hx hb dX8_share_232 ?_
                            refine lv_iload hx hb dX8_share_233 (lv_at hl 9 rfl) ?_
                            obtain ⟨hi, h⟩ := h
                            obtain ⟨I_70, eI_70⟩ : ∃ z : TI, z = va_up I_69 4 (upd (I_69 4) ((((3 : Int32) * x_63) + (2 : Int32))).toNatClampNeg p7) := ⟨_, rfl⟩
                            have h := h I_70 eI_70
                            refine va_iast hx hb hK hP hD hS 4 3 (wM_at4 _ _ _ _ _ _) rfl hi dX8_share_235 (fun H locs hP hD hS => ?_)
                            have hP : va_P (dC, dI) vwCl (wM a cy I_70 J_59 S_60 L_61) H := by rw [eI_70]; exact setP hP (wM_set4 _ _ _ _ _ _ _)
                            have hD : va_D A (wM a cy I_70 J_59 S_60 L_61) := by rw [eI_70]; exact setD hD (wM_set4 _ _ _ _ _ _ _)
                            refine lv_aload_n hx hb dX8_share_236 rfl (lv_at hl 1 rfl) ?_
                            refine va_get (D := (dC, dI)) (ci := 8) (v := .ref (a 1)) (C := RX8) (T := TX8) (N := 47) hx hb hts nX8_share_X8 hown hK hP 0 (wM_at0 _ _ _ _ _ _) rfl 1 (by decide) (hts (.fieldLink RX8 7 "SongOfficeModel" "setMany" "[I") kX8_share_1) (fun _ h9 => h9) rfl dX8_share_237 ?_
                            refine lv_iload_n hx hb dX8_share_240 rfl (lv_at hl 2 rfl) ?_
                            refine lv_iload hx hb dX8_share_241 (lv_at hl 10 rfl) ?_
                            refine lv_iconst (v := 1) hx hb dX8_share_243 (by decide) ?_
                            refine lv_iadd hx hb dX8_share_244 ?_
                            obtain ⟨hi, h⟩ := h
                            obtain ⟨I_71, eI_71⟩ : ∃ z : TI, z = va_up I_70 1 (upd (I_70 1) (p0).toNatClampNeg (x_62 + (1 : Int32))) := ⟨_, rfl⟩
                            have h := h I_71 eI_71
                            refine va_iast hx hb hK hP hD hS 1 0 (wM_at1 _ _ _ _ _ _) rfl hi dX8_share_245 (fun H locs hP hD hS => ?_)
                            have hP : va_P (dC, dI) vwCl (wM a cy I_71 J_59 S_60 L_61) H := by rw [eI_71]; exact setP hP (wM_set1 _ _ _ _ _ _ _)
                            have hD : va_D A (wM a cy I_71 J_59 S_60 L_61) := by rw [eI_71]; exact setD hD (wM_set1 _ _ _ _ _ _ _)
                            refine lv_iload hx hb dX8_share_246 (lv_at hl 10 rfl) ?_
                            refine lv_iconst (v := 1) hx hb dX8_share_248 (by decide) ?_
                            refine lv_iadd hx hb dX8_share_249 ?_
                            exact gri hx hb hr hlocks hP hK hD hS h dX8_share_250
                          refine lv_if_le (tgt := 146) hx hb dX8_share_123 (by decide) (fun hc => ?_) (fun hc => ?_)
                          · have h := h.1 hc
                            exact jB_57 I_46 J_47 S_48 L_49 x_51 _ _ _ hP hD hS (lv_sub hl [1, 2, 3, 4, 5, 6, 7, 8, 9, 0] rfl) h
                          · have h := h.2 hc
                            refine lv_iload_n hx hb dX8_share_126 rfl (lv_at hl 3 rfl) ?_
                            refine lv_aload_n hx hb dX8_share_127 rfl (lv_at hl 1 rfl) ?_
                            refine va_get (D := (dC, dI)) (ci := 8) (v := .ref (a 2)) (C := RX8) (T := TX8) (N := 47) hx hb hts nX8_share_X8 hown hK hP 0 (wM_at0 _ _ _ _ _ _) rfl 2 (by decide) (hts (.fieldLink RX8 13 "SongOfficeModel" "setDay" "[I") kX8_share_2) (fun _ h9 => h9) rfl dX8_share_128 ?_
                            refine lv_bipush (v := 6) hx hb dX8_share_131 (by decide) ?_
                            refine lv_iload_n hx hb dX8_share_133 rfl (lv_at hl 2 rfl) ?_
                            refine lv_imul hx hb dX8_share_134 ?_
                            refine lv_iload hx hb dX8_share_135 (lv_at hl 0 rfl) ?_
                            refine lv_iadd hx hb dX8_share_137 ?_
                            refine lv_iconst (v := 1) hx hb dX8_share_138 (by decide) ?_
                            refine lv_isub hx hb dX8_share_139 ?_
                            obtain ⟨hi, h⟩ := h
                            refine va_iald hx hb hK hP 2 1 (wM_at2 _ _ _ _ _ _) rfl hi dX8_share_140 ?_
                            refine lv_icmp_gt (tgt := 146) hx hb dX8_share_141 (by decide) (fun hc => ?_) (fun hc => ?_)
                            · have h := h.1 hc
                              exact jB_57 I_46 J_47 S_48 L_49 x_51 _ _ _ hP hD hS (lv_sub hl [1, 2, 3, 4, 5, 6, 7, 8, 9, 0] rfl) h
                            · have h := h.2 hc
                              exact jB_52 I_46 J_47 S_48 L_49 _ _ _ hP hD hS (lv_sub hl [] rfl) h
                      · have h := h.2 hc
                        exact jB_36 I_46 J_47 S_48 L_49 _ _ _ hP hD hS (lv_sub hl [] rfl) h
                  refine lv_icmp_ne (tgt := 82) hx hb dX8_share_73 (by decide) (fun hc => ?_) (fun hc => ?_)
                  · have h := h.1 hc
                    exact jB_41 I_32 J_33 S_34 L_35 _ _ _ hP hD hS (lv_sub hl [0, 1, 2, 3, 4, 5, 6, 7, 8] rfl) h
                  · have h := h.2 hc
                    refine lv_iload hx hb dX8_share_76 (lv_at hl 5 rfl) ?_
                    refine lv_iconst (v := -1) hx hb dX8_share_78 (by decide) ?_
                    refine lv_icmp_ne (tgt := 104) hx hb dX8_share_79 (by decide) (fun hc => ?_) (fun hc => ?_)
                    · have h := h.1 hc
                      exact jB_36 I_32 J_33 S_34 L_35 _ _ _ hP hD hS (lv_sub hl [] rfl) h
                    · have h := h.2 hc
                      exact jB_41 I_32 J_33 S_34 L_35 _ _ _ hP hD hS (lv_sub hl [0, 1, 2, 3, 4, 5, 6, 7, 8] rfl) h
            refine lv_icmp_ne (tgt := 57) hx hb dX8_share_46 (by decide) (fun hc => ?_) (fun hc => ?_)
            · have h := h.1 hc
              exact jB_31 I_26 J_27 S_28 L_29 _ _ _ hP hD hS (lv_sub hl [0, 1, 2, 3, 4, 5, 6, 7, 8] rfl) h
            · have h := h.2 hc
              refine lv_iload hx hb dX8_share_49 (lv_at hl 7 rfl) ?_
              refine lv_iconst (v := -1) hx hb dX8_share_51 (by decide) ?_
              refine lv_icmp_eq (tgt := 57) hx hb dX8_share_52 (by decide) (fun hc => ?_) (fun hc => ?_)
              · have h := h.1 hc
                exact jB_31 I_26 J_27 S_28 L_29 _ _ _ hP hD hS (lv_sub hl [0, 1, 2, 3, 4, 5, 6, 7, 8] rfl) h
              · have h := h.2 hc
                exact jB_6 I_26 J_27 S_28 L_29 _ _ _ hP hD hS (lv_sub hl [] rfl) h
def wp_X8_setOn (I : TI) (J : TJ) (S : TS) (L : TL) (p0 : Int32) (p1 : Int32) (Φ : Int32 → TI → TJ → TS → TL → Prop) : Prop := ∀ x_1 : Int32, x_1 = ((6 : Int32) * p0) → (∃ V_2 : Nat → TI → TJ → TS → TL → Int32 → Int32 → Prop, (∃ n_4, V_2 n_4 I J S L x_1 (0 : Int32)) ∧ ∀ (n_3 : Nat) (I_5 : TI) (J_6 : TJ) (S_7 : TS) (L_8 : TL) (x_9 : Int32) (x_10 : Int32), V_2 n_3 I_5 J_6 S_7 L_8 x_9 x_10 → ((vp_in p0 12) ∧ ((((I_5 1 (p0).toNatClampNeg) ≤ x_10) → (Φ x_9 I_5 J_6 S_7 L_8)) ∧ ((¬ (I_5 1 (p0).toNatClampNeg) ≤ x_10) → ((vp_in (((6 : Int32) * p0) + x_10) 72) ∧ (∃ B_11 : TI → TJ → TS → TL → Int32 → Int32 → Prop, (∀ (I_12 : TI) (J_13 : TJ) (S_14 : TS) (L_15 : TL) (x_16 : Int32) (x_17 : Int32), B_11 I_12 J_13 S_14 L_15 x_16 x_17 → (∀ x_18 : Int32, x_18 = x_17 + 1 → (∃ n_19, n_19 < n_3 ∧ V_2 n_19 I_12 J_13 S_14 L_15 x_16 x_18))) ∧ (((p1 < (I_5 2 ((((6 : Int32) * p0) + x_10)).toNatClampNeg)) → (B_11 I_5 J_6 S_7 L_8 x_9 x_10)) ∧ ((¬ p1 < (I_5 2 ((((6 : Int32) * p0) + x_10)).toNatClampNeg)) → (∀ x_20 : Int32, x_20 = (((6 : Int32) * p0) + x_10) → (B_11 I_5 J_6 S_7 L_8 x_20 x_10))))))))))
theorem nX8_setOn_X8 : ∀ w ∈ wsX80, w ∈ wsX8_setOn := fun _ h => List.mem_cons_of_mem _ (List.mem_append_right _ h)
theorem kX8_setOn_2 : Cond.fieldLink RX8 13 "SongOfficeModel" "setDay" "[I" ∈ wsX8_setOn := List.mem_of_getElem? (i := 2) rfl
theorem kX8_setOn_1 : Cond.fieldLink RX8 7 "SongOfficeModel" "setMany" "[I" ∈ wsX8_setOn := List.mem_of_getElem? (i := 1) rfl
abbrev rmX8_setOn : Room := { frames := 0, cells := 0, slots := 0, locals := 0 }
set_option maxHeartbeats 4000000 in
set_option maxRecDepth 100000 in
theorem c_X8_setOn (l : Launch) (dC : Nat → ClassId) (dI : Nat → Nat → Nat) (a : Nat → Nat) (cy : Nat → ClassId) (sz : Nat) (I : TI) (J : TJ) (S : TS) (L : TL) (p0 : Int32) (p1 : Int32) (Φ : Int32 → TI → TJ → TS → TL → Prop) (h : wp_X8_setOn I J S L p0 p1 Φ) : Met l yX8_setOn wsX8_setOn rmX8_setOn (va_Pc [.ref (a 0), .int p0, .int p1] (gpre dC dI (wM a cy I J S L) (tyM cy) sz)) (gQi dC dI (wM a cy) (tyM cy) (va_A (wM a cy I J S L) sz) Φ) 0 0 (va_A (wM a cy I J S L) sz) := by
  refine Met.ofW (cc := cX8_setOn) (maxL := 5) (ret := (some .int)) (by decide) rfl ?_
  intro p e s m args below meth c s₁ B hml hv
  obtain ⟨hargs, hsz, hP, hK, hD0, hN⟩ := hv
  have hx := B.exec
  have hb := B.bytes
  have hr := B.returns
  have hts := atoms_spec (ws := wsX8_setOn) B.pre
  have hown : s.vm.findClass RX8 = some m.cls := findClass_of_methodNamed B.named
  have hlocks := B.notSynchronized
  subst hsz
  have hD := hD0.self (sz := s.heap.size)
  generalize hAe : va_A (wM a cy I J S L) s.heap.size = A at hD ⊢
  have hA : ∀ q : Nat, s.heap.size ≤ q → A q := fun q h => by rw [← hAe]; exact Or.inr h
  obtain ⟨H, hH⟩ : ∃ z : Heap, z = s.heap := ⟨_, rfl⟩
  rw [← hH] at hP
  have hS : va_S A s.heap H [] := by rw [hH]; exact va_S.rf
  have hl := lv_entry ([.ref (a 0), .int p0, .int p1]) (n := 5) (Nat.le_of_ble_eq_true rfl)
  have hE : entryFrame m args 5 = F0 m 0 ((lg_sl ([.ref (a 0), .int p0, .int p1]) ++ List.replicate (5 - (lg_sl ([.ref (a 0), .int p0, .int p1])).length) Slot.unset).toArray) [] := by rw [hargs]; exact lg_entry_eq m _ _
  rw [hE, ← hH]
  clear hE
  generalize (lg_sl ([.ref (a 0), .int p0, .int p1]) ++ List.replicate (5 - (lg_sl ([.ref (a 0), .int p0, .int p1])).length) Slot.unset).toArray = ls at hl ⊢
  have hl : lv_has ls 5 [(0, .ref (a 0)), (1, .int p0), (2, .int p1)] := hl
  unfold wp_X8_setOn at h
  refine lv_bipush (v := 6) hx hb dX8_setOn_0 (by decide) ?_
  refine lv_iload_n hx hb dX8_setOn_2 rfl (lv_at hl 1 rfl) ?_
  refine lv_imul hx hb dX8_setOn_3 ?_
  refine lv_topi (fun x_1 ex_1 => ?_)
  have h := h x_1 ex_1
  refine lv_istore_n (lv' := [(3, .int x_1), (0, .ref (a 0)), (1, .int p0), (2, .int p1)]) hx hb dX8_setOn_4 rfl hl (by decide) rfl (fun ls hl => ?_)
  refine lv_iconst (v := 0) hx hb dX8_setOn_5 (by decide) ?_
  refine lv_istore (lv' := [(4, .int (0 : Int32)), (3, .int x_1), (0, .ref (a 0)), (1, .int p0), (2, .int p1)]) hx hb dX8_setOn_6 hl (by decide) rfl (fun ls hl => ?_)
  obtain ⟨V_2, ⟨n_4, h0V_2⟩, hV_2⟩ := h
  have lV_2 : ∀ (n_3 : Nat) (I_5 : TI) (J_6 : TJ) (S_7 : TS) (L_8 : TL) (x_9 : Int32) (x_10 : Int32) (H : Heap) (locs : List Loc) (ls : Array Slot), va_P (dC, dI) vwCl (wM a cy I_5 J_6 S_7 L_8) H → va_D A (wM a cy I_5 J_6 S_7 L_8) → va_S A s.heap H locs → lv_has ls 5 [(0, .ref (a 0)), (1, .int p0), (2, .int p1), (3, .int x_9), (4, .int x_10)] → V_2 n_3 I_5 J_6 S_7 L_8 x_9 x_10 → W p l e (headSpec wsX8_setOn rmX8_setOn).room s m args below meth c H locs 0 0 (MQ below (gQi dC dI (wM a cy) (tyM cy) A Φ) args s 0 0 A) (F0 m 8 ls []) := by
    intro n_3
    induction n_3 using Nat.strongRecOn with
    | ind n_3 ihV_2 =>
        intro I_5 J_6 S_7 L_8 x_9 x_10 H locs ls hP hD hS hl h
        have h := hV_2 n_3 I_5 J_6 S_7 L_8 x_9 x_10 h
        refine lv_iload hx hb dX8_setOn_8 (lv_at hl 4 rfl) ?_
        refine lv_aload_n hx hb dX8_setOn_10 rfl (lv_at hl 0 rfl) ?_
        refine va_get (D := (dC, dI)) (ci := 8) (v := .ref (a 1)) (C := RX8) (T := TX8) (N := 47) hx hb hts nX8_setOn_X8 hown hK hP 0 (wM_at0 _ _ _ _ _ _) rfl 1 (by decide) (hts (.fieldLink RX8 7 "SongOfficeModel" "setMany" "[I") kX8_setOn_1) (fun _ h9 => h9) rfl dX8_setOn_11 ?_
        refine lv_iload_n hx hb dX8_setOn_14 rfl (lv_at hl 1 rfl) ?_
        obtain ⟨hi, h⟩ := h
        refine va_iald hx hb hK hP 1 0 (wM_at1 _ _ _ _ _ _) rfl hi dX8_setOn_15 ?_
        refine lv_icmp_ge (tgt := 49) hx hb dX8_setOn_16 (by decide) (fun hc => ?_) (fun hc => ?_)
        · have h := h.1 hc
          refine lv_iload_n hx hb dX8_setOn_49 rfl (lv_at hl 3 rfl) ?_
          exact gri hx hb hr hlocks hP hK hD hS h dX8_setOn_50
        · have h := h.2 hc
          refine lv_aload_n hx hb dX8_setOn_19 rfl (lv_at hl 0 rfl) ?_
          refine va_get (D := (dC, dI)) (ci := 8) (v := .ref (a 2)) (C := RX8) (T := TX8) (N := 47) hx hb hts nX8_setOn_X8 hown hK hP 0 (wM_at0 _ _ _ _ _ _) rfl 2 (by decide) (hts (.fieldLink RX8 13 "SongOfficeModel" "setDay" "[I") kX8_setOn_2) (fun _ h9 => h9) rfl dX8_setOn_20 ?_
          refine lv_bipush (v := 6) hx hb dX8_setOn_23 (by decide) ?_
          refine lv_iload_n hx hb dX8_setOn_25 rfl (lv_at hl 1 rfl) ?_
          refine lv_imul hx hb dX8_setOn_26 ?_
          refine lv_iload hx hb dX8_setOn_27 (lv_at hl 4 rfl) ?_
          refine lv_iadd hx hb dX8_setOn_29 ?_
          obtain ⟨hi, h⟩ := h
          refine va_iald hx hb hK hP 2 1 (wM_at2 _ _ _ _ _ _) rfl hi dX8_setOn_30 ?_
          refine lv_iload_n hx hb dX8_setOn_31 rfl (lv_at hl 2 rfl) ?_
          obtain ⟨B_11, hB_11, h⟩ := h
          have jB_11 : ∀ (I_12 : TI) (J_13 : TJ) (S_14 : TS) (L_15 : TL) (x_16 : Int32) (x_17 : Int32) (H : Heap) (locs : List Loc) (ls : Array Slot), va_P (dC, dI) vwCl (wM a cy I_12 J_13 S_14 L_15) H → va_D A (wM a cy I_12 J_13 S_14 L_15) → va_S A s.heap H locs → lv_has ls 5 [(0, .ref (a 0)), (1, .int p0), (2, .int p1), (3, .int x_16), (4, .int x_17)] → B_11 I_12 J_13 S_14 L_15 x_16 x_17 → W p l e (headSpec wsX8_setOn rmX8_setOn).room s m args below meth c H locs 0 0 (MQ below (gQi dC dI (wM a cy) (tyM cy) A Φ) args s 0 0 A) (F0 m 43 ls []) := by
            intro I_12 J_13 S_14 L_15 x_16 x_17 H locs ls hP hD hS hl h
            have h := hB_11 I_12 J_13 S_14 L_15 x_16 x_17 h
            obtain ⟨x_18, ex_18⟩ : ∃ z : Int32, z = x_17 + 1 := ⟨_, rfl⟩
            have h := h x_18 ex_18
            refine lv_iinc (v := x_18) (lv' := [(4, .int x_18), (0, .ref (a 0)), (1, .int p0), (2, .int p1), (3, .int x_16)]) hx hb dX8_setOn_43 hl (k := 4) rfl (by rw [ex_18]; rfl) (by decide) rfl (fun ls hl => ?_)
            refine lv_goto (tgt := 8) hx hb dX8_setOn_46 (by decide) ?_
            obtain ⟨n_19, hn2, h⟩ := h
            exact ihV_2 n_19 hn2 I_12 J_13 S_14 L_15 x_16 x_18 _ _ _ hP hD hS (lv_sub hl [1, 2, 3, 4, 0] rfl) h
          refine lv_icmp_gt (tgt := 43) hx hb dX8_setOn_32 (by decide) (fun hc => ?_) (fun hc => ?_)
          · have h := h.1 hc
            exact jB_11 I_5 J_6 S_7 L_8 x_9 x_10 _ _ _ hP hD hS (lv_sub hl [0, 1, 2, 3, 4] rfl) h
          · have h := h.2 hc
            refine lv_bipush (v := 6) hx hb dX8_setOn_35 (by decide) ?_
            refine lv_iload_n hx hb dX8_setOn_37 rfl (lv_at hl 1 rfl) ?_
            refine lv_imul hx hb dX8_setOn_38 ?_
            refine lv_iload hx hb dX8_setOn_39 (lv_at hl 4 rfl) ?_
            refine lv_iadd hx hb dX8_setOn_41 ?_
            refine lv_topi (fun x_20 ex_20 => ?_)
            have h := h x_20 ex_20
            refine lv_istore_n (lv' := [(3, .int x_20), (0, .ref (a 0)), (1, .int p0), (2, .int p1), (4, .int x_10)]) hx hb dX8_setOn_42 rfl hl (by decide) rfl (fun ls hl => ?_)
            exact jB_11 I_5 J_6 S_7 L_8 x_20 x_10 _ _ _ hP hD hS (lv_sub hl [1, 2, 3, 0, 4] rfl) h
  exact lV_2 n_4 I J S L x_1 (0 : Int32) _ _ _ hP hD hS (lv_sub hl [2, 3, 4, 1, 0] rfl) h0V_2
def wp_X8_bargain (I : TI) (J : TJ) (S : TS) (L : TL) (p0 : Int32) (p1 : Int32) (p2 : Int32) (p3 : Int32) (p4 : Int32) (p5 : Int32) (p6 : Int32) (p7 : Int32) (Φ : Int32 → TI → TJ → TS → TL → Prop) : Prop := wp_X8_isHand I J S L p1 (fun (r_5 : Int32) (I_1 : TI) (J_2 : TJ) (S_3 : TS) (L_4 : TL) => (∃ B_6 : TI → TJ → TS → TL → Prop, (∀ (I_7 : TI) (J_8 : TJ) (S_9 : TS) (L_10 : TL), B_6 I_7 J_8 S_9 L_10 → (Φ (-1 : Int32) I_7 J_8 S_9 L_10)) ∧ (((r_5 = 0) → (B_6 I_1 J_2 S_3 L_4)) ∧ ((¬ r_5 = 0) → (((p2 < (1 : Int32)) → (B_6 I_1 J_2 S_3 L_4)) ∧ ((¬ p2 < (1 : Int32)) → ((((4095 : Int32) < p2) → (B_6 I_1 J_2 S_3 L_4)) ∧ ((¬ (4095 : Int32) < p2) → (wp_X8_isDay I_1 J_2 S_3 L_4 p3 (fun (r_15 : Int32) (I_11 : TI) (J_12 : TJ) (S_13 : TS) (L_14 : TL) => (((r_15 = 0) → (B_6 I_11 J_12 S_13 L_14)) ∧ ((¬ r_15 = 0) → ((((S_13 1) = (24 : Int32)) → (B_6 I_11 J_12 S_13 L_14)) ∧ ((¬ (S_13 1) = (24 : Int32)) → (wp_X8_areGood I_11 J_12 S_13 L_14 p0 p1 p4 p5 p6 p7 (fun (r_20 : Int32) (I_16 : TI) (J_17 : TJ) (S_18 : TS) (L_19 : TL) => (((¬ r_20 = 0) → (∀ x_21 : Int32, x_21 = (S_18 1) → ((vp_in x_21 24) ∧ ∀ I_22 : TI, I_22 = va_up I_16 5 (upd (I_16 5) (x_21).toNatClampNeg p0) → ((vp_in x_21 24) ∧ ∀ I_23 : TI, I_23 = va_up I_22 6 (upd (I_22 6) (x_21).toNatClampNeg p1) → ((vp_in x_21 24) ∧ ∀ I_24 : TI, I_24 = va_up I_23 7 (upd (I_23 7) (x_21).toNatClampNeg p2) → ((vp_in x_21 24) ∧ ∀ I_25 : TI, I_25 = va_up I_24 8 (upd (I_24 8) (x_21).toNatClampNeg p3) → ((vp_in x_21 24) ∧ ∀ I_26 : TI, I_26 = va_up I_25 9 (upd (I_25 9) (x_21).toNatClampNeg p4) → ((vp_in x_21 24) ∧ ∀ I_27 : TI, I_27 = va_up I_26 10 (upd (I_26 10) (x_21).toNatClampNeg p5) → ((vp_in x_21 24) ∧ ∀ I_28 : TI, I_28 = va_up I_27 11 (upd (I_27 11) (x_21).toNatClampNeg p6) → ((vp_in x_21 24) ∧ ∀ I_29 : TI, I_29 = va_up I_28 12 (upd (I_28 12) (x_21).toNatClampNeg p7) → (∀ S_30 : TS, S_30 = va_up S_18 1 (x_21 + (1 : Int32)) → (Φ x_21 I_29 J_17 S_30 L_19)))))))))))) ∧ ((r_20 = 0) → (B_6 I_16 J_17 S_18 L_19)))))))))))))))))))
theorem nX8_bargain_X8 : ∀ w ∈ wsX80, w ∈ wsX8_bargain := fun _ h => List.mem_cons_of_mem _ (List.mem_append_right _ h)
theorem kX8_bargain_1 : Cond.fieldLink RX8 157 "SongOfficeModel" "bargains" "I" ∈ wsX8_bargain := List.mem_of_getElem? (i := 1) rfl
theorem kX8_bargain_9 : Cond.fieldLink RX8 43 "SongOfficeModel" "taker" "[I" ∈ wsX8_bargain := List.mem_of_getElem? (i := 9) rfl
theorem kX8_bargain_8 : Cond.fieldLink RX8 40 "SongOfficeModel" "bz" "[I" ∈ wsX8_bargain := List.mem_of_getElem? (i := 8) rfl
theorem kX8_bargain_7 : Cond.fieldLink RX8 37 "SongOfficeModel" "by" "[I" ∈ wsX8_bargain := List.mem_of_getElem? (i := 7) rfl
theorem kX8_bargain_6 : Cond.fieldLink RX8 34 "SongOfficeModel" "bx" "[I" ∈ wsX8_bargain := List.mem_of_getElem? (i := 6) rfl
theorem kX8_bargain_5 : Cond.fieldLink RX8 31 "SongOfficeModel" "since" "[I" ∈ wsX8_bargain := List.mem_of_getElem? (i := 5) rfl
theorem kX8_bargain_4 : Cond.fieldLink RX8 28 "SongOfficeModel" "works" "[I" ∈ wsX8_bargain := List.mem_of_getElem? (i := 4) rfl
theorem kX8_bargain_3 : Cond.fieldLink RX8 25 "SongOfficeModel" "hand" "[I" ∈ wsX8_bargain := List.mem_of_getElem? (i := 3) rfl
theorem kX8_bargain_2 : Cond.fieldLink RX8 22 "SongOfficeModel" "kind" "[I" ∈ wsX8_bargain := List.mem_of_getElem? (i := 2) rfl
abbrev rmX8_bargain : Room := { frames := 2, cells := 0, slots := 0, locals := 46 }
set_option maxHeartbeats 4000000 in
set_option maxRecDepth 100000 in
theorem c_X8_bargain (l : Launch) (dC : Nat → ClassId) (dI : Nat → Nat → Nat) (a : Nat → Nat) (cy : Nat → ClassId) (sz : Nat) (I : TI) (J : TJ) (S : TS) (L : TL) (p0 : Int32) (p1 : Int32) (p2 : Int32) (p3 : Int32) (p4 : Int32) (p5 : Int32) (p6 : Int32) (p7 : Int32) (Φ : Int32 → TI → TJ → TS → TL → Prop) (h : wp_X8_bargain I J S L p0 p1 p2 p3 p4 p5 p6 p7 Φ) : Met l yX8_bargain wsX8_bargain rmX8_bargain (va_Pc [.ref (a 0), .int p0, .int p1, .int p2, .int p3, .int p4, .int p5, .int p6, .int p7] (gpre dC dI (wM a cy I J S L) (tyM cy) sz)) (gQi dC dI (wM a cy) (tyM cy) (va_A (wM a cy I J S L) sz) Φ) 0 0 (va_A (wM a cy I J S L) sz) := by
  refine Met.ofW (cc := cX8_bargain) (maxL := 10) (ret := (some .int)) (by decide) rfl ?_
  intro p e s m args below meth c s₁ B hml hv
  obtain ⟨hargs, hsz, hP, hK, hD0, hN⟩ := hv
  have hx := B.exec
  have hb := B.bytes
  have hr := B.returns
  have hts := atoms_spec (ws := wsX8_bargain) B.pre
  have hown : s.vm.findClass RX8 = some m.cls := findClass_of_methodNamed B.named
  have hlocks := B.notSynchronized
  subst hsz
  have hD := hD0.self (sz := s.heap.size)
  generalize hAe : va_A (wM a cy I J S L) s.heap.size = A at hD ⊢
  have hA : ∀ q : Nat, s.heap.size ≤ q → A q := fun q h => by rw [← hAe]; exact Or.inr h
  obtain ⟨H, hH⟩ : ∃ z : Heap, z = s.heap := ⟨_, rfl⟩
  rw [← hH] at hP
  have hS : va_S A s.heap H [] := by rw [hH]; exact va_S.rf
  have hl := lv_entry ([.ref (a 0), .int p0, .int p1, .int p2, .int p3, .int p4, .int p5, .int p6, .int p7]) (n := 10) (Nat.le_of_ble_eq_true rfl)
  have hE : entryFrame m args 10 = F0 m 0 ((lg_sl ([.ref (a 0), .int p0, .int p1, .int p2, .int p3, .int p4, .int p5, .int p6, .int p7]) ++ List.replicate (10 - (lg_sl ([.ref (a 0), .int p0, .int p1, .int p2, .int p3, .int p4, .int p5, .int p6, .int p7])).length) Slot.unset).toArray) [] := by rw [hargs]; exact lg_entry_eq m _ _
  rw [hE, ← hH]
  clear hE
  generalize (lg_sl ([.ref (a 0), .int p0, .int p1, .int p2, .int p3, .int p4, .int p5, .int p6, .int p7]) ++ List.replicate (10 - (lg_sl ([.ref (a 0), .int p0, .int p1, .int p2, .int p3, .int p4, .int p5, .int p6, .int p7])).length) Slot.unset).toArray = ls at hl ⊢
  have hl : lv_has ls 10 [(0, .ref (a 0)), (1, .int p0), (2, .int p1), (3, .int p2), (4, .int p3), (5, .int p4), (6, .int p5), (7, .int p6), (8, .int p7)] := hl
  unfold wp_X8_bargain at h
  refine lv_iload_n hx hb dX8_bargain_0 rfl (lv_at hl 2 rfl) ?_
  refine gcalli (va_runS (As := [.int p1]) (rest := []) ⟨hx, hb, hml, hown, hts⟩ (c_X8_isHand l dC dI (wM a cy) (tyM cy) H.size I J S L p1 _ h) (va_cwS 1 hts gX8_bargain_X8_isHand rfl rfl rfl (by decide +kernel) ⟨(Nat.le_of_ble_eq_true rfl), (Nat.le_of_ble_eq_true rfl)⟩) (g_pS hP hK hD hN [.int p1]) rfl rfl hl.1 rfl (lv_room (Nat.le_of_ble_eq_true rfl)) dX8_bargain_1 ⟨(Nat.le_of_ble_eq_true rfl), (Nat.le_of_ble_eq_true rfl)⟩) hS hA hD (fun r_5 I_1 J_2 S_3 L_4 H locs hP hD hS h => ?_)
  obtain ⟨B_6, hB_6, h⟩ := h
  have jB_6 : ∀ (I_7 : TI) (J_8 : TJ) (S_9 : TS) (L_10 : TL) (H : Heap) (locs : List Loc) (ls : Array Slot), va_P (dC, dI) vwCl (wM a cy I_7 J_8 S_9 L_10) H → va_D A (wM a cy I_7 J_8 S_9 L_10) → va_S A s.heap H locs → lv_has ls 10 [] → B_6 I_7 J_8 S_9 L_10 → W p l e (headSpec wsX8_bargain rmX8_bargain).room s m args below meth c H locs 0 0 (MQ below (gQi dC dI (wM a cy) (tyM cy) A Φ) args s 0 0 A) (F0 m 53 ls []) := by
    intro I_7 J_8 S_9 L_10 H locs ls hP hD hS hl h
    have h := hB_6 I_7 J_8 S_9 L_10 h
    refine lv_iconst (v := -1) hx hb dX8_bargain_53 (by decide) ?_
    exact gri hx hb hr hlocks hP hK hD hS h dX8_bargain_54
  refine lv_if_eq (tgt := 53) hx hb dX8_bargain_4 (by decide) (fun hc => ?_) (fun hc => ?_)
  · have h := h.1 hc
    exact jB_6 I_1 J_2 S_3 L_4 _ _ _ hP hD hS (lv_sub hl [] rfl) h
  · have h := h.2 hc
    refine lv_iload_n hx hb dX8_bargain_7 rfl (lv_at hl 3 rfl) ?_
    refine lv_iconst (v := 1) hx hb dX8_bargain_8 (by decide) ?_
    refine lv_icmp_lt (tgt := 53) hx hb dX8_bargain_9 (by decide) (fun hc => ?_) (fun hc => ?_)
    · have h := h.1 hc
      exact jB_6 I_1 J_2 S_3 L_4 _ _ _ hP hD hS (lv_sub hl [] rfl) h
    · have h := h.2 hc
      refine lv_iload_n hx hb dX8_bargain_12 rfl (lv_at hl 3 rfl) ?_
      refine lv_sipush (v := 4095) hx hb dX8_bargain_13 (by decide) ?_
      refine lv_icmp_gt (tgt := 53) hx hb dX8_bargain_16 (by decide) (fun hc => ?_) (fun hc => ?_)
      · have h := h.1 hc
        exact jB_6 I_1 J_2 S_3 L_4 _ _ _ hP hD hS (lv_sub hl [] rfl) h
      · have h := h.2 hc
        refine lv_aload_n hx hb dX8_bargain_19 rfl (lv_at hl 0 rfl) ?_
        refine lv_iload hx hb dX8_bargain_20 (lv_at hl 4 rfl) ?_
        refine gcalli (va_runV (As := [.int p3]) (rest := []) ⟨hx, hb, hml, hown, hts⟩ (c_X8_isDay l dC dI a cy H.size I_1 J_2 S_3 L_4 p3 _ h) (cwV 1 hts gX8_bargain_X8_isDay rfl rfl rfl (by decide +kernel) ⟨(Nat.le_of_ble_eq_true rfl), (Nat.le_of_ble_eq_true rfl)⟩) (g_pV hP hK hD hN (va_recv hK hP (ci := 8) (q0 := 0) rfl (wM_at0 _ _ _ _ _ _)) [.int p3]) rfl rfl hl.1 rfl (lv_room (Nat.le_of_ble_eq_true rfl)) dX8_bargain_22 ⟨(Nat.le_of_ble_eq_true rfl), (Nat.le_of_ble_eq_true rfl)⟩) hS hA hD (fun r_15 I_11 J_12 S_13 L_14 H locs hP hD hS h => ?_)
        refine lv_if_eq (tgt := 53) hx hb dX8_bargain_25 (by decide) (fun hc => ?_) (fun hc => ?_)
        · have h := h.1 hc
          exact jB_6 I_11 J_12 S_13 L_14 _ _ _ hP hD hS (lv_sub hl [] rfl) h
        · have h := h.2 hc
          refine lv_aload_n hx hb dX8_bargain_28 rfl (lv_at hl 0 rfl) ?_
          refine va_get (D := (dC, dI)) (ci := 8) (v := .int (S_13 1)) (C := RX8) (T := TX8) (N := 47) hx hb hts nX8_bargain_X8 hown hK hP 0 (wM_at0 _ _ _ _ _ _) rfl 5 (by decide) (hts (.fieldLink RX8 157 "SongOfficeModel" "bargains" "I") kX8_bargain_1) (fun _ h9 => h9) rfl dX8_bargain_29 ?_
          refine lv_bipush (v := 24) hx hb dX8_bargain_32 (by decide) ?_
          refine lv_icmp_eq (tgt := 53) hx hb dX8_bargain_34 (by decide) (fun hc => ?_) (fun hc => ?_)
          · have h := h.1 hc
            exact jB_6 I_11 J_12 S_13 L_14 _ _ _ hP hD hS (lv_sub hl [] rfl) h
          · have h := h.2 hc
            refine lv_iload_n hx hb dX8_bargain_37 rfl (lv_at hl 1 rfl) ?_
            refine lv_iload_n hx hb dX8_bargain_38 rfl (lv_at hl 2 rfl) ?_
            refine lv_iload hx hb dX8_bargain_39 (lv_at hl 5 rfl) ?_
            refine lv_iload hx hb dX8_bargain_41 (lv_at hl 6 rfl) ?_
            refine lv_iload hx hb dX8_bargain_43 (lv_at hl 7 rfl) ?_
            refine lv_iload hx hb dX8_bargain_45 (lv_at hl 8 rfl) ?_
            refine gcalli (va_runS (As := [.int p0, .int p1, .int p4, .int p5, .int p6, .int p7]) (rest := []) ⟨hx, hb, hml, hown, hts⟩ (c_X8_areGood l dC dI (wM a cy) (tyM cy) H.size I_11 J_12 S_13 L_14 p0 p1 p4 p5 p6 p7 _ h) (va_cwS 6 hts gX8_bargain_X8_areGood rfl rfl rfl (by decide +kernel) ⟨(Nat.le_of_ble_eq_true rfl), (Nat.le_of_ble_eq_true rfl)⟩) (g_pS hP hK hD hN [.int p0, .int p1, .int p4, .int p5, .int p6, .int p7]) rfl rfl hl.1 rfl (lv_room (Nat.le_of_ble_eq_true rfl)) dX8_bargain_47 ⟨(Nat.le_of_ble_eq_true rfl), (Nat.le_of_ble_eq_true rfl)⟩) hS hA hD (fun r_20 I_16 J_17 S_18 L_19 H locs hP hD hS h => ?_)
            refine lv_if_ne (tgt := 55) hx hb dX8_bargain_50 (by decide) (fun hc => ?_) (fun hc => ?_)
            · have h := h.1 hc
              refine lv_aload_n hx hb dX8_bargain_55 rfl (lv_at hl 0 rfl) ?_
              refine va_get (D := (dC, dI)) (ci := 8) (v := .int (S_18 1)) (C := RX8) (T := TX8) (N := 47) hx hb hts nX8_bargain_X8 hown hK hP 0 (wM_at0 _ _ _ _ _ _) rfl 5 (by decide) (hts (.fieldLink RX8 157 "SongOfficeModel" "bargains" "I") kX8_bargain_1) (fun _ h9 => h9) rfl dX8_bargain_56 ?_
              refine lv_topi (fun x_21 ex_21 => ?_)
              have h := h x_21 ex_21
              refine lv_istore (lv' := [(9, .int x_21), (0, .ref (a 0)), (1, .int p0), (2, .int p1), (3, .int p2), (4, .int p3), (5, .int p4), (6, .int p5), (7, .int p6), (8, .int p7)]) hx hb dX8_bargain_59 hl (by decide) rfl (fun ls hl => ?_)
              refine lv_aload_n hx hb dX8_bargain_61 rfl (lv_at hl 1 rfl) ?_
              refine va_get (D := (dC, dI)) (ci := 8) (v := .ref (a 5)) (C := RX8) (T := TX8) (N := 47) hx hb hts nX8_bargain_X8 hown hK hP 0 (wM_at0 _ _ _ _ _ _) rfl 6 (by decide) (hts (.fieldLink RX8 22 "SongOfficeModel" "kind" "[I") kX8_bargain_2) (fun _ h9 => h9) rfl dX8_bargain_62 ?_
              refine lv_iload hx hb dX8_bargain_65 (lv_at hl 0 rfl) ?_
              refine lv_iload_n hx hb dX8_bargain_67 rfl (lv_at hl 2 rfl) ?_
              obtain ⟨hi, h⟩ := h
              obtain ⟨I_22, eI_22⟩ : ∃ z : TI, z = va_up I_16 5 (upd (I_16 5) (x_21).toNatClampNeg p0) := ⟨_, rfl⟩
              have h := h I_22 eI_22
              refine va_iast hx hb hK hP hD hS 5 4 (wM_at5 _ _ _ _ _ _) rfl hi dX8_bargain_68 (fun H locs hP hD hS => ?_)
              have hP : va_P (dC, dI) vwCl (wM a cy I_22 J_17 S_18 L_19) H := by rw [eI_22]; exact setP hP (wM_set5 _ _ _ _ _ _ _)
              have hD : va_D A (wM a cy I_22 J_17 S_18 L_19) := by rw [eI_22]; exact setD hD (wM_set5 _ _ _ _ _ _ _)
              refine lv_aload_n hx hb dX8_bargain_69 rfl (lv_at hl 1 rfl) ?_
              refine va_get (D := (dC, dI)) (ci := 8) (v := .ref (a 6)) (C := RX8) (T := TX8) (N := 47) hx hb hts nX8_bargain_X8 hown hK hP 0 (wM_at0 _ _ _ _ _ _) rfl 7 (by decide) (hts (.fieldLink RX8 25 "SongOfficeModel" "hand" "[I") kX8_bargain_3) (fun _ h9 => h9) rfl dX8_bargain_70 ?_
              refine lv_iload hx hb dX8_bargain_73 (lv_at hl 0 rfl) ?_
              refine lv_iload_n hx hb dX8_bargain_75 rfl (lv_at hl 3 rfl) ?_
              obtain ⟨hi, h⟩ := h
              obtain ⟨I_23, eI_23⟩ : ∃ z : TI, z = va_up I_22 6 (upd (I_22 6) (x_21).toNatClampNeg p1) := ⟨_, rfl⟩
              have h := h I_23 eI_23
              refine va_iast hx hb hK hP hD hS 6 5 (wM_at6 _ _ _ _ _ _) rfl hi dX8_bargain_76 (fun H locs hP hD hS => ?_)
              have hP : va_P (dC, dI) vwCl (wM a cy I_23 J_17 S_18 L_19) H := by rw [eI_23]; exact setP hP (wM_set6 _ _ _ _ _ _ _)
              have hD : va_D A (wM a cy I_23 J_17 S_18 L_19) := by rw [eI_23]; exact setD hD (wM_set6 _ _ _ _ _ _ _)
              refine lv_aload_n hx hb dX8_bargain_77 rfl (lv_at hl 1 rfl) ?_
              refine va_get (D := (dC, dI)) (ci := 8) (v := .ref (a 7)) (C := RX8) (T := TX8) (N := 47) hx hb hts nX8_bargain_X8 hown hK hP 0 (wM_at0 _ _ _ _ _ _) rfl 8 (by decide) (hts (.fieldLink RX8 28 "SongOfficeModel" "works" "[I") kX8_bargain_4) (fun _ h9 => h9) rfl dX8_bargain_78 ?_
              refine lv_iload hx hb dX8_bargain_81 (lv_at hl 0 rfl) ?_
              refine lv_iload_n hx hb dX8_bargain_83 rfl (lv_at hl 4 rfl) ?_
              obtain ⟨hi, h⟩ := h
              obtain ⟨I_24, eI_24⟩ : ∃ z : TI, z = va_up I_23 7 (upd (I_23 7) (x_21).toNatClampNeg p2) := ⟨_, rfl⟩
              have h := h I_24 eI_24
              refine va_iast hx hb hK hP hD hS 7 6 (wM_at7 _ _ _ _ _ _) rfl hi dX8_bargain_84 (fun H locs hP hD hS => ?_)
              have hP : va_P (dC, dI) vwCl (wM a cy I_24 J_17 S_18 L_19) H := by rw [eI_24]; exact setP hP (wM_set7 _ _ _ _ _ _ _)
              have hD : va_D A (wM a cy I_24 J_17 S_18 L_19) := by rw [eI_24]; exact setD hD (wM_set7 _ _ _ _ _ _ _)
              refine lv_aload_n hx hb dX8_bargain_85 rfl (lv_at hl 1 rfl) ?_
              refine va_get (D := (dC, dI)) (ci := 8) (v := .ref (a 8)) (C := RX8) (T := TX8) (N := 47) hx hb hts nX8_bargain_X8 hown hK hP 0 (wM_at0 _ _ _ _ _ _) rfl 9 (by decide) (hts (.fieldLink RX8 31 "SongOfficeModel" "since" "[I") kX8_bargain_5) (fun _ h9 => h9) rfl dX8_bargain_86 ?_
              refine lv_iload hx hb dX8_bargain_89 (lv_at hl 0 rfl) ?_
              refine lv_iload hx hb dX8_bargain_91 (lv_at hl 5 rfl) ?_
              obtain ⟨hi, h⟩ := h
              obtain ⟨I_25, eI_25⟩ : ∃ z : TI, z = va_up I_24 8 (upd (I_24 8) (x_21).toNatClampNeg p3) := ⟨_, rfl⟩
              have h := h I_25 eI_25
              refine va_iast hx hb hK hP hD hS 8 7 (wM_at8 _ _ _ _ _ _) rfl hi dX8_bargain_93 (fun H locs hP hD hS => ?_)
              have hP : va_P (dC, dI) vwCl (wM a cy I_25 J_17 S_18 L_19) H := by rw [eI_25]; exact setP hP (wM_set8 _ _ _ _ _ _ _)
              have hD : va_D A (wM a cy I_25 J_17 S_18 L_19) := by rw [eI_25]; exact setD hD (wM_set8 _ _ _ _ _ _ _)
              refine lv_aload_n hx hb dX8_bargain_94 rfl (lv_at hl 1 rfl) ?_
              refine va_get (D := (dC, dI)) (ci := 8) (v := .ref (a 9)) (C := RX8) (T := TX8) (N := 47) hx hb hts nX8_bargain_X8 hown hK hP 0 (wM_at0 _ _ _ _ _ _) rfl 10 (by decide) (hts (.fieldLink RX8 34 "SongOfficeModel" "bx" "[I") kX8_bargain_6) (fun _ h9 => h9) rfl dX8_bargain_95 ?_
              refine lv_iload hx hb dX8_bargain_98 (lv_at hl 0 rfl) ?_
              refine lv_iload hx hb dX8_bargain_100 (lv_at hl 6 rfl) ?_
              obtain ⟨hi, h⟩ := h
              obtain ⟨I_26, eI_26⟩ : ∃ z : TI, z = va_up I_25 9 (upd (I_25 9) (x_21).toNatClampNeg p4) := ⟨_, rfl⟩
              have h := h I_26 eI_26
              refine va_iast hx hb hK hP hD hS 9 8 (wM_at9 _ _ _ _ _ _) rfl hi dX8_bargain_102 (fun H locs hP hD hS => ?_)
              have hP : va_P (dC, dI) vwCl (wM a cy I_26 J_17 S_18 L_19) H := by rw [eI_26]; exact setP hP (wM_set9 _ _ _ _ _ _ _)
              have hD : va_D A (wM a cy I_26 J_17 S_18 L_19) := by rw [eI_26]; exact setD hD (wM_set9 _ _ _ _ _ _ _)
              refine lv_aload_n hx hb dX8_bargain_103 rfl (lv_at hl 1 rfl) ?_
              refine va_get (D := (dC, dI)) (ci := 8) (v := .ref (a 10)) (C := RX8) (T := TX8) (N := 47) hx hb hts nX8_bargain_X8 hown hK hP 0 (wM_at0 _ _ _ _ _ _) rfl 11 (by decide) (hts (.fieldLink RX8 37 "SongOfficeModel" "by" "[I") kX8_bargain_7) (fun _ h9 => h9) rfl dX8_bargain_104 ?_
              refine lv_iload hx hb dX8_bargain_107 (lv_at hl 0 rfl) ?_
              refine lv_iload hx hb dX8_bargain_109 (lv_at hl 7 rfl) ?_
              obtain ⟨hi, h⟩ := h
              obtain ⟨I_27, eI_27⟩ : ∃ z : TI, z = va_up I_26 10 (upd (I_26 10) (x_21).toNatClampNeg p5) := ⟨_, rfl⟩
              have h := h I_27 eI_27
              refine va_iast hx hb hK hP hD hS 10 9 (wM_at10 _ _ _ _ _ _) rfl hi dX8_bargain_111 (fun H locs hP hD hS => ?_)
              have hP : va_P (dC, dI) vwCl (wM a cy I_27 J_17 S_18 L_19) H := by rw [eI_27]; exact setP hP (wM_set10 _ _ _ _ _ _ _)
              have hD : va_D A (wM a cy I_27 J_17 S_18 L_19) := by rw [eI_27]; exact setD hD (wM_set10 _ _ _ _ _ _ _)
              refine lv_aload_n hx hb dX8_bargain_112 rfl (lv_at hl 1 rfl) ?_
              refine va_get (D := (dC, dI)) (ci := 8) (v := .ref (a 11)) (C := RX8) (T := TX8) (N := 47) hx hb hts nX8_bargain_X8 hown hK hP 0 (wM_at0 _ _ _ _ _ _) rfl 12 (by decide) (hts (.fieldLink RX8 40 "SongOfficeModel" "bz" "[I") kX8_bargain_8) (fun _ h9 => h9) rfl dX8_bargain_113 ?_
              refine lv_iload hx hb dX8_bargain_116 (lv_at hl 0 rfl) ?_
              refine lv_iload hx hb dX8_bargain_118 (lv_at hl 8 rfl) ?_
              obtain ⟨hi, h⟩ := h
              obtain ⟨I_28, eI_28⟩ : ∃ z : TI, z = va_up I_27 11 (upd (I_27 11) (x_21).toNatClampNeg p6) := ⟨_, rfl⟩
              have h := h I_28 eI_28
              refine va_iast hx hb hK hP hD hS 11 10 (wM_at11 _ _ _ _ _ _) rfl hi dX8_bargain_120 (fun H locs hP hD hS => ?_)
              have hP : va_P (dC, dI) vwCl (wM a cy I_28 J_17 S_18 L_19) H := by rw [eI_28]; exact setP hP (wM_set11 _ _ _ _ _ _ _)
              have hD : va_D A (wM a cy I_28 J_17 S_18 L_19) := by rw [eI_28]; exact setD hD (wM_set11 _ _ _ _ _ _ _)
              refine lv_aload_n hx hb dX8_bargain_121 rfl (lv_at hl 1 rfl) ?_
              refine va_get (D := (dC, dI)) (ci := 8) (v := .ref (a 12)) (C := RX8) (T := TX8) (N := 47) hx hb hts nX8_bargain_X8 hown hK hP 0 (wM_at0 _ _ _ _ _ _) rfl 13 (by decide) (hts (.fieldLink RX8 43 "SongOfficeModel" "taker" "[I") kX8_bargain_9) (fun _ h9 => h9) rfl dX8_bargain_122 ?_
              refine lv_iload hx hb dX8_bargain_125 (lv_at hl 0 rfl) ?_
              refine lv_iload hx hb dX8_bargain_127 (lv_at hl 9 rfl) ?_
              obtain ⟨hi, h⟩ := h
              obtain ⟨I_29, eI_29⟩ : ∃ z : TI, z = va_up I_28 12 (upd (I_28 12) (x_21).toNatClampNeg p7) := ⟨_, rfl⟩
              have h := h I_29 eI_29
              refine va_iast hx hb hK hP hD hS 12 11 (wM_at12 _ _ _ _ _ _) rfl hi dX8_bargain_129 (fun H locs hP hD hS => ?_)
              have hP : va_P (dC, dI) vwCl (wM a cy I_29 J_17 S_18 L_19) H := by rw [eI_29]; exact setP hP (wM_set12 _ _ _ _ _ _ _)
              have hD : va_D A (wM a cy I_29 J_17 S_18 L_19) := by rw [eI_29]; exact setD hD (wM_set12 _ _ _ _ _ _ _)
              refine lv_aload_n hx hb dX8_bargain_130 rfl (lv_at hl 1 rfl) ?_
              refine lv_iload hx hb dX8_bargain_131 (lv_at hl 0 rfl) ?_
              refine lv_iconst (v := 1) hx hb dX8_bargain_133 (by decide) ?_
              refine lv_iadd hx hb dX8_bargain_134 ?_
              obtain ⟨S_30, eS_30⟩ : ∃ z : TS, z = va_up S_18 1 (x_21 + (1 : Int32)) := ⟨_, rfl⟩
              have h := h S_30 eS_30
              refine va_put (D := (dC, dI)) (ci := 8) (v := .int (x_21 + (1 : Int32))) (ty := .int) (C := RX8) (T := TX8) (N := 47) hx hb hts nX8_bargain_X8 tyX8 tyX8_ok nmX8 hown hK hP hD hS 0 (wM_at0 _ _ _ _ _ _) rfl 5 (by decide) (hts (.fieldLink RX8 157 "SongOfficeModel" "bargains" "I") kX8_bargain_1) (fun _ h9 => h9) rfl (by decide +kernel) rfl rfl (Nat.le_of_ble_eq_true rfl) dX8_bargain_135 (fun H locs hP hD hS => ?_)
              have hP : va_P (dC, dI) vwCl (wM a cy I_29 J_17 S_30 L_19) H := by rw [eS_30]; exact setP hP (wM_setS1 _ _ _ _ _ _ _)
              have hD : va_D A (wM a cy I_29 J_17 S_30 L_19) := by rw [eS_30]; exact setD hD (wM_setS1 _ _ _ _ _ _ _)
              refine lv_iload hx hb dX8_bargain_138 (lv_at hl 0 rfl) ?_
              exact gri hx hb hr hlocks hP hK hD hS h dX8_bargain_140
            · have h := h.2 hc
              exact jB_6 I_16 J_17 S_18 L_19 _ _ _ hP hD hS (lv_sub hl [] rfl) h
def wp_X8_isReport (I : TI) (J : TJ) (S : TS) (L : TL) (p0 : Int32) (p1 : Int32) (p2 : Int32) (p3 : Int32) (p4 : Int32) (Φ : Int32 → TI → TJ → TS → TL → Prop) : Prop := wp_X8_isWork I J S L p0 (fun (r_5 : Int32) (I_1 : TI) (J_2 : TJ) (S_3 : TS) (L_4 : TL) => (∃ B_6 : TI → TJ → TS → TL → Int32 → Prop, (∀ (I_7 : TI) (J_8 : TJ) (S_9 : TS) (L_10 : TL) (s_11 : Int32), B_6 I_7 J_8 S_9 L_10 s_11 → ((s_11 = 0 ∨ s_11 = 1) ∧ Φ s_11 I_7 J_8 S_9 L_10)) ∧ (∃ B_12 : TI → TJ → TS → TL → Prop, (∀ (I_13 : TI) (J_14 : TJ) (S_15 : TS) (L_16 : TL), B_12 I_13 J_14 S_15 L_16 → (B_6 I_13 J_14 S_15 L_16 (0 : Int32))) ∧ (((r_5 = 0) → (B_12 I_1 J_2 S_3 L_4)) ∧ ((¬ r_5 = 0) → ((vp_in p0 12) ∧ ((((I_1 1 (p0).toNatClampNeg) ≤ 0) → (B_12 I_1 J_2 S_3 L_4)) ∧ ((¬ (I_1 1 (p0).toNatClampNeg) ≤ 0) → (wp_X8_areCoins I_1 J_2 S_3 L_4 p1 (fun (r_21 : Int32) (I_17 : TI) (J_18 : TJ) (S_19 : TS) (L_20 : TL) => (((r_21 = 0) → (B_12 I_17 J_18 S_19 L_20)) ∧ ((¬ r_21 = 0) → (∃ B_22 : TI → TJ → TS → TL → Prop, (∀ (I_23 : TI) (J_24 : TJ) (S_25 : TS) (L_26 : TL), B_22 I_23 J_24 S_25 L_26 → (B_6 I_23 J_24 S_25 L_26 (1 : Int32))) ∧ (((p4 = 0) → (B_22 I_17 J_18 S_19 L_20)) ∧ ((¬ p4 = 0) → (wp_X8_areCoins I_17 J_18 S_19 L_20 p2 (fun (r_31 : Int32) (I_27 : TI) (J_28 : TJ) (S_29 : TS) (L_30 : TL) => (((r_31 = 0) → (B_12 I_27 J_28 S_29 L_30)) ∧ ((¬ r_31 = 0) → (wp_X8_areCoins I_27 J_28 S_29 L_30 p3 (fun (r_36 : Int32) (I_32 : TI) (J_33 : TJ) (S_34 : TS) (L_35 : TL) => (((r_36 = 0) → (B_12 I_32 J_33 S_34 L_35)) ∧ ((¬ r_36 = 0) → (B_22 I_32 J_33 S_34 L_35))))))))))))))))))))))))
theorem nX8_isReport_X8 : ∀ w ∈ wsX80, w ∈ wsX8_isReport := fun _ h => List.mem_cons_of_mem _ (List.mem_append_right _ h)
theorem kX8_isReport_1 : Cond.fieldLink RX8 7 "SongOfficeModel" "setMany" "[I" ∈ wsX8_isReport := List.mem_of_getElem? (i := 1) rfl
abbrev rmX8_isReport : Room := { frames := 1, cells := 0, slots := 0, locals := 20 }
set_option maxHeartbeats 4000000 in
set_option maxRecDepth 100000 in
theorem c_X8_isReport (l : Launch) (dC : Nat → ClassId) (dI : Nat → Nat → Nat) (a : Nat → Nat) (cy : Nat → ClassId) (sz : Nat) (I : TI) (J : TJ) (S : TS) (L : TL) (p0 : Int32) (p1 : Int32) (p2 : Int32) (p3 : Int32) (p4 : Int32) (Φ : Int32 → TI → TJ → TS → TL → Prop) (h : wp_X8_isReport I J S L p0 p1 p2 p3 p4 Φ) : Met l yX8_isReport wsX8_isReport rmX8_isReport (va_Pc [.ref (a 0), .int p0, .int p1, .int p2, .int p3, .int p4] (gpre dC dI (wM a cy I J S L) (tyM cy) sz)) (gQi dC dI (wM a cy) (tyM cy) (va_A (wM a cy I J S L) sz) Φ) 0 0 (va_A (wM a cy I J S L) sz) := by
  refine Met.ofW (cc := cX8_isReport) (maxL := 6) (ret := (some .boolean)) (by decide) rfl ?_
  intro p e s m args below meth c s₁ B hml hv
  obtain ⟨hargs, hsz, hP, hK, hD0, hN⟩ := hv
  have hx := B.exec
  have hb := B.bytes
  have hr := B.returns
  have hts := atoms_spec (ws := wsX8_isReport) B.pre
  have hown : s.vm.findClass RX8 = some m.cls := findClass_of_methodNamed B.named
  have hlocks := B.notSynchronized
  subst hsz
  have hD := hD0.self (sz := s.heap.size)
  generalize hAe : va_A (wM a cy I J S L) s.heap.size = A at hD ⊢
  have hA : ∀ q : Nat, s.heap.size ≤ q → A q := fun q h => by rw [← hAe]; exact Or.inr h
  obtain ⟨H, hH⟩ : ∃ z : Heap, z = s.heap := ⟨_, rfl⟩
  rw [← hH] at hP
  have hS : va_S A s.heap H [] := by rw [hH]; exact va_S.rf
  have hl := lv_entry ([.ref (a 0), .int p0, .int p1, .int p2, .int p3, .int p4]) (n := 6) (Nat.le_of_ble_eq_true rfl)
  have hE : entryFrame m args 6 = F0 m 0 ((lg_sl ([.ref (a 0), .int p0, .int p1, .int p2, .int p3, .int p4]) ++ List.replicate (6 - (lg_sl ([.ref (a 0), .int p0, .int p1, .int p2, .int p3, .int p4])).length) Slot.unset).toArray) [] := by rw [hargs]; exact lg_entry_eq m _ _
  rw [hE, ← hH]
  clear hE
  generalize (lg_sl ([.ref (a 0), .int p0, .int p1, .int p2, .int p3, .int p4]) ++ List.replicate (6 - (lg_sl ([.ref (a 0), .int p0, .int p1, .int p2, .int p3, .int p4])).length) Slot.unset).toArray = ls at hl ⊢
  have hl : lv_has ls 6 [(0, .ref (a 0)), (1, .int p0), (2, .int p1), (3, .int p2), (4, .int p3), (5, .int p4)] := hl
  unfold wp_X8_isReport at h
  refine lv_iload_n hx hb dX8_isReport_0 rfl (lv_at hl 1 rfl) ?_
  refine gcalli (va_runS (As := [.int p0]) (rest := []) ⟨hx, hb, hml, hown, hts⟩ (c_X8_isWork l dC dI (wM a cy) (tyM cy) H.size I J S L p0 _ h) (va_cwS 1 hts gX8_isReport_X8_isWork rfl rfl rfl (by decide +kernel) ⟨(Nat.le_of_ble_eq_true rfl), (Nat.le_of_ble_eq_true rfl)⟩) (g_pS hP hK hD hN [.int p0]) rfl rfl hl.1 rfl (lv_room (Nat.le_of_ble_eq_true rfl)) dX8_isReport_1 ⟨(Nat.le_of_ble_eq_true rfl), (Nat.le_of_ble_eq_true rfl)⟩) hS hA hD (fun r_5 I_1 J_2 S_3 L_4 H locs hP hD hS h => ?_)
  obtain ⟨B_6, hB_6, h⟩ := h
  have jB_6 : ∀ (I_7 : TI) (J_8 : TJ) (S_9 : TS) (L_10 : TL) (s_11 : Int32) (H : Heap) (locs : List Loc) (ls : Array Slot), va_P (dC, dI) vwCl (wM a cy I_7 J_8 S_9 L_10) H → va_D A (wM a cy I_7 J_8 S_9 L_10) → va_S A s.heap H locs → lv_has ls 6 [] → B_6 I_7 J_8 S_9 L_10 s_11 → W p l e (headSpec wsX8_isReport rmX8_isReport).room s m args below meth c H locs 0 0 (MQ below (gQi dC dI (wM a cy) (tyM cy) A Φ) args s 0 0 A) (F0 m 48 ls [.int s_11]) := by
    intro I_7 J_8 S_9 L_10 s_11 H locs ls hP hD hS hl h
    have h := hB_6 I_7 J_8 S_9 L_10 s_11 h
    exact grz hx hb hr hlocks hP hK hD hS h dX8_isReport_48
  obtain ⟨B_12, hB_12, h⟩ := h
  have jB_12 : ∀ (I_13 : TI) (J_14 : TJ) (S_15 : TS) (L_16 : TL) (H : Heap) (locs : List Loc) (ls : Array Slot), va_P (dC, dI) vwCl (wM a cy I_13 J_14 S_15 L_16) H → va_D A (wM a cy I_13 J_14 S_15 L_16) → va_S A s.heap H locs → lv_has ls 6 [] → B_12 I_13 J_14 S_15 L_16 → W p l e (headSpec wsX8_isReport rmX8_isReport).room s m args below meth c H locs 0 0 (MQ below (gQi dC dI (wM a cy) (tyM cy) A Φ) args s 0 0 A) (F0 m 47 ls []) := by
    intro I_13 J_14 S_15 L_16 H locs ls hP hD hS hl h
    have h := hB_12 I_13 J_14 S_15 L_16 h
    refine lv_iconst (v := 0) hx hb dX8_isReport_47 (by decide) ?_
    exact jB_6 I_13 J_14 S_15 L_16 (0 : Int32) _ _ _ hP hD hS (lv_sub hl [] rfl) h
  refine lv_if_eq (tgt := 47) hx hb dX8_isReport_4 (by decide) (fun hc => ?_) (fun hc => ?_)
  · have h := h.1 hc
    exact jB_12 I_1 J_2 S_3 L_4 _ _ _ hP hD hS (lv_sub hl [] rfl) h
  · have h := h.2 hc
    refine lv_aload_n hx hb dX8_isReport_7 rfl (lv_at hl 0 rfl) ?_
    refine va_get (D := (dC, dI)) (ci := 8) (v := .ref (a 1)) (C := RX8) (T := TX8) (N := 47) hx hb hts nX8_isReport_X8 hown hK hP 0 (wM_at0 _ _ _ _ _ _) rfl 1 (by decide) (hts (.fieldLink RX8 7 "SongOfficeModel" "setMany" "[I") kX8_isReport_1) (fun _ h9 => h9) rfl dX8_isReport_8 ?_
    refine lv_iload_n hx hb dX8_isReport_11 rfl (lv_at hl 1 rfl) ?_
    obtain ⟨hi, h⟩ := h
    refine va_iald hx hb hK hP 1 0 (wM_at1 _ _ _ _ _ _) rfl hi dX8_isReport_12 ?_
    refine lv_if_le (tgt := 47) hx hb dX8_isReport_13 (by decide) (fun hc => ?_) (fun hc => ?_)
    · have h := h.1 hc
      exact jB_12 I_1 J_2 S_3 L_4 _ _ _ hP hD hS (lv_sub hl [] rfl) h
    · have h := h.2 hc
      refine lv_iload_n hx hb dX8_isReport_16 rfl (lv_at hl 2 rfl) ?_
      refine gcalli (va_runS (As := [.int p1]) (rest := []) ⟨hx, hb, hml, hown, hts⟩ (c_X8_areCoins l dC dI (wM a cy) (tyM cy) H.size I_1 J_2 S_3 L_4 p1 _ h) (va_cwS 1 hts gX8_isReport_X8_areCoins rfl rfl rfl (by decide +kernel) ⟨(Nat.le_of_ble_eq_true rfl), (Nat.le_of_ble_eq_true rfl)⟩) (g_pS hP hK hD hN [.int p1]) rfl rfl hl.1 rfl (lv_room (Nat.le_of_ble_eq_true rfl)) dX8_isReport_17 ⟨(Nat.le_of_ble_eq_true rfl), (Nat.le_of_ble_eq_true rfl)⟩) hS hA hD (fun r_21 I_17 J_18 S_19 L_20 H locs hP hD hS h => ?_)
      refine lv_if_eq (tgt := 47) hx hb dX8_isReport_20 (by decide) (fun hc => ?_) (fun hc => ?_)
      · have h := h.1 hc
        exact jB_12 I_17 J_18 S_19 L_20 _ _ _ hP hD hS (lv_sub hl [] rfl) h
      · have h := h.2 hc
        refine lv_iload hx hb dX8_isReport_23 (lv_at hl 5 rfl) ?_
        obtain ⟨B_22, hB_22, h⟩ := h
        have jB_22 : ∀ (I_23 : TI) (J_24 : TJ) (S_25 : TS) (L_26 : TL) (H : Heap) (locs : List Loc) (ls : Array Slot), va_P (dC, dI) vwCl (wM a cy I_23 J_24 S_25 L_26) H → va_D A (wM a cy I_23 J_24 S_25 L_26) → va_S A s.heap H locs → lv_has ls 6 [] → B_22 I_23 J_24 S_25 L_26 → W p l e (headSpec wsX8_isReport rmX8_isReport).room s m args below meth c H locs 0 0 (MQ below (gQi dC dI (wM a cy) (tyM cy) A Φ) args s 0 0 A) (F0 m 43 ls []) := by
          intro I_23 J_24 S_25 L_26 H locs ls hP hD hS hl h
          have h := hB_22 I_23 J_24 S_25 L_26 h
          refine lv_iconst (v := 1) hx hb dX8_isReport_43 (by decide) ?_
          refine lv_goto (tgt := 48) hx hb dX8_isReport_44 (by decide) ?_
          exact jB_6 I_23 J_24 S_25 L_26 (1 : Int32) _ _ _ hP hD hS (lv_sub hl [] rfl) h
        refine lv_if_eq (tgt := 43) hx hb dX8_isReport_25 (by decide) (fun hc => ?_) (fun hc => ?_)
        · have h := h.1 hc
          exact jB_22 I_17 J_18 S_19 L_20 _ _ _ hP hD hS (lv_sub hl [] rfl) h
        · have h := h.2 hc
          refine lv_iload_n hx hb dX8_isReport_28 rfl (lv_at hl 3 rfl) ?_
          refine gcalli (va_runS (As := [.int p2]) (rest := []) ⟨hx, hb, hml, hown, hts⟩ (c_X8_areCoins l dC dI (wM a cy) (tyM cy) H.size I_17 J_18 S_19 L_20 p2 _ h) (va_cwS 1 hts gX8_isReport_X8_areCoins rfl rfl rfl (by decide +kernel) ⟨(Nat.le_of_ble_eq_true rfl), (Nat.le_of_ble_eq_true rfl)⟩) (g_pS hP hK hD hN [.int p2]) rfl rfl hl.1 rfl (lv_room (Nat.le_of_ble_eq_true rfl)) dX8_isReport_29 ⟨(Nat.le_of_ble_eq_true rfl), (Nat.le_of_ble_eq_true rfl)⟩) hS hA hD (fun r_31 I_27 J_28 S_29 L_30 H locs hP hD hS h => ?_)
          refine lv_if_eq (tgt := 47) hx hb dX8_isReport_32 (by decide) (fun hc => ?_) (fun hc => ?_)
          · have h := h.1 hc
            exact jB_12 I_27 J_28 S_29 L_30 _ _ _ hP hD hS (lv_sub hl [] rfl) h
          · have h := h.2 hc
            refine lv_iload hx hb dX8_isReport_35 (lv_at hl 4 rfl) ?_
            refine gcalli (va_runS (As := [.int p3]) (rest := []) ⟨hx, hb, hml, hown, hts⟩ (c_X8_areCoins l dC dI (wM a cy) (tyM cy) H.size I_27 J_28 S_29 L_30 p3 _ h) (va_cwS 1 hts gX8_isReport_X8_areCoins rfl rfl rfl (by decide +kernel) ⟨(Nat.le_of_ble_eq_true rfl), (Nat.le_of_ble_eq_true rfl)⟩) (g_pS hP hK hD hN [.int p3]) rfl rfl hl.1 rfl (lv_room (Nat.le_of_ble_eq_true rfl)) dX8_isReport_37 ⟨(Nat.le_of_ble_eq_true rfl), (Nat.le_of_ble_eq_true rfl)⟩) hS hA hD (fun r_36 I_32 J_33 S_34 L_35 H locs hP hD hS h => ?_)
            refine lv_if_eq (tgt := 47) hx hb dX8_isReport_40 (by decide) (fun hc => ?_) (fun hc => ?_)
            · have h := h.1 hc
              exact jB_12 I_32 J_33 S_34 L_35 _ _ _ hP hD hS (lv_sub hl [] rfl) h
            · have h := h.2 hc
              exact jB_22 I_32 J_33 S_34 L_35 _ _ _ hP hD hS (lv_sub hl [] rfl) h
def wp_X8_puts (I : TI) (J : TJ) (S : TS) (L : TL) (p0 : Int32) (p1 : Int32) (p2 : Int32) (p3 : Int32) (p4 : Int32) (p5 : Int32) (Φ : TI → TJ → TS → TL → Prop) : Prop := ∀ x_1 : Int32, x_1 = (((12 : Int32) * p0) + p1) → ((vp_in x_1 480) ∧ (∃ B_2 : TI → TJ → TS → TL → Int32 → Prop, (∀ (I_3 : TI) (J_4 : TJ) (S_5 : TS) (L_6 : TL) (x_7 : Int32), B_2 I_3 J_4 S_5 L_6 x_7 → (∃ B_8 : TI → TJ → TS → TL → Int32 → Int32 → Int32 → Prop, (∀ (I_9 : TI) (J_10 : TJ) (S_11 : TS) (L_12 : TL) (x_13 : Int32) (s_14 : Int32) (s_15 : Int32), B_8 I_9 J_10 S_11 L_12 x_13 s_14 s_15 → ((vp_in s_14 480) ∧ ∀ I_16 : TI, I_16 = va_up I_9 16 (upd (I_9 16) (s_14).toNatClampNeg s_15) → ((vp_in x_13 480) ∧ ∀ I_17 : TI, I_17 = va_up I_16 13 (upd (I_16 13) (x_13).toNatClampNeg p2) → (∃ B_18 : TI → TJ → TS → TL → Int32 → Int32 → Int32 → Prop, (∀ (I_19 : TI) (J_20 : TJ) (S_21 : TS) (L_22 : TL) (x_23 : Int32) (s_24 : Int32) (s_25 : Int32), B_18 I_19 J_20 S_21 L_22 x_23 s_24 s_25 → ((vp_in s_24 480) ∧ ∀ I_26 : TI, I_26 = va_up I_19 14 (upd (I_19 14) (s_24).toNatClampNeg s_25) → (∃ B_27 : TI → TJ → TS → TL → Int32 → Int32 → Prop, (∀ (I_28 : TI) (J_29 : TJ) (S_30 : TS) (L_31 : TL) (s_32 : Int32) (s_33 : Int32), B_27 I_28 J_29 S_30 L_31 s_32 s_33 → ((vp_in s_32 480) ∧ ∀ I_34 : TI, I_34 = va_up I_28 15 (upd (I_28 15) (s_32).toNatClampNeg s_33) → (Φ I_34 J_29 S_30 L_31))) ∧ (((p5 = 0) → (B_27 I_26 J_20 S_21 L_22 x_23 (0 : Int32))) ∧ ((¬ p5 = 0) → (B_27 I_26 J_20 S_21 L_22 x_23 p4)))))) ∧ (((p5 = 0) → (B_18 I_17 J_10 S_11 L_12 x_13 x_13 (0 : Int32))) ∧ ((¬ p5 = 0) → (B_18 I_17 J_10 S_11 L_12 x_13 x_13 p3))))))) ∧ (((p5 = 0) → (B_8 I_3 J_4 S_5 L_6 x_7 x_7 (1 : Int32))) ∧ ((¬ p5 = 0) → (B_8 I_3 J_4 S_5 L_6 x_7 x_7 (2 : Int32)))))) ∧ (((¬ (I 16 (x_1).toNatClampNeg) = 0) → (B_2 I J S L x_1)) ∧ (((I 16 (x_1).toNatClampNeg) = 0) → ((vp_in p0 40) ∧ ((vp_in (((12 : Int32) * p0) + (I 18 (p0).toNatClampNeg)) 480) ∧ ∀ I_35 : TI, I_35 = va_up I 17 (upd (I 17) ((((12 : Int32) * p0) + (I 18 (p0).toNatClampNeg))).toNatClampNeg p1) → ((vp_in p0 40) ∧ ((vp_in p0 40) ∧ ∀ I_36 : TI, I_36 = va_up I_35 18 (upd (I_35 18) (p0).toNatClampNeg ((I_35 18 (p0).toNatClampNeg) + (1 : Int32))) → (B_2 I_36 J S L x_1)))))))))
theorem nX8_puts_X8 : ∀ w ∈ wsX80, w ∈ wsX8_puts := fun _ h => List.mem_cons_of_mem _ (List.mem_append_right _ h)
theorem kX8_puts_6 : Cond.fieldLink RX8 52 "SongOfficeModel" "third" "[I" ∈ wsX8_puts := List.mem_of_getElem? (i := 6) rfl
theorem kX8_puts_5 : Cond.fieldLink RX8 49 "SongOfficeModel" "second" "[I" ∈ wsX8_puts := List.mem_of_getElem? (i := 5) rfl
theorem kX8_puts_4 : Cond.fieldLink RX8 46 "SongOfficeModel" "first" "[I" ∈ wsX8_puts := List.mem_of_getElem? (i := 4) rfl
theorem kX8_puts_1 : Cond.fieldLink RX8 55 "SongOfficeModel" "how" "[I" ∈ wsX8_puts := List.mem_of_getElem? (i := 1) rfl
theorem kX8_puts_3 : Cond.fieldLink RX8 61 "SongOfficeModel" "orderMany" "[I" ∈ wsX8_puts := List.mem_of_getElem? (i := 3) rfl
theorem kX8_puts_2 : Cond.fieldLink RX8 58 "SongOfficeModel" "order" "[I" ∈ wsX8_puts := List.mem_of_getElem? (i := 2) rfl
abbrev rmX8_puts : Room := { frames := 0, cells := 0, slots := 0, locals := 0 }
set_option maxHeartbeats 4000000 in
set_option maxRecDepth 100000 in
theorem c_X8_puts (l : Launch) (dC : Nat → ClassId) (dI : Nat → Nat → Nat) (a : Nat → Nat) (cy : Nat → ClassId) (sz : Nat) (I : TI) (J : TJ) (S : TS) (L : TL) (p0 : Int32) (p1 : Int32) (p2 : Int32) (p3 : Int32) (p4 : Int32) (p5 : Int32) (Φ : TI → TJ → TS → TL → Prop) (h : wp_X8_puts I J S L p0 p1 p2 p3 p4 p5 Φ) : Met l yX8_puts wsX8_puts rmX8_puts (va_Pc [.ref (a 0), .int p0, .int p1, .int p2, .int p3, .int p4, .int p5] (gpre dC dI (wM a cy I J S L) (tyM cy) sz)) (gQv dC dI (wM a cy) (tyM cy) (va_A (wM a cy I J S L) sz) Φ) 0 0 (va_A (wM a cy I J S L) sz) := by
  refine Met.ofW (cc := cX8_puts) (maxL := 8) (ret := none) (by decide) rfl ?_
  intro p e s m args below meth c s₁ B hml hv
  obtain ⟨hargs, hsz, hP, hK, hD0, hN⟩ := hv
  have hx := B.exec
  have hb := B.bytes
  have hr := B.returns
  have hts := atoms_spec (ws := wsX8_puts) B.pre
  have hown : s.vm.findClass RX8 = some m.cls := findClass_of_methodNamed B.named
  have hlocks := B.notSynchronized
  subst hsz
  have hD := hD0.self (sz := s.heap.size)
  generalize hAe : va_A (wM a cy I J S L) s.heap.size = A at hD ⊢
  have hA : ∀ q : Nat, s.heap.size ≤ q → A q := fun q h => by rw [← hAe]; exact Or.inr h
  obtain ⟨H, hH⟩ : ∃ z : Heap, z = s.heap := ⟨_, rfl⟩
  rw [← hH] at hP
  have hS : va_S A s.heap H [] := by rw [hH]; exact va_S.rf
  have hl := lv_entry ([.ref (a 0), .int p0, .int p1, .int p2, .int p3, .int p4, .int p5]) (n := 8) (Nat.le_of_ble_eq_true rfl)
  have hE : entryFrame m args 8 = F0 m 0 ((lg_sl ([.ref (a 0), .int p0, .int p1, .int p2, .int p3, .int p4, .int p5]) ++ List.replicate (8 - (lg_sl ([.ref (a 0), .int p0, .int p1, .int p2, .int p3, .int p4, .int p5])).length) Slot.unset).toArray) [] := by rw [hargs]; exact lg_entry_eq m _ _
  rw [hE, ← hH]
  clear hE
  generalize (lg_sl ([.ref (a 0), .int p0, .int p1, .int p2, .int p3, .int p4, .int p5]) ++ List.replicate (8 - (lg_sl ([.ref (a 0), .int p0, .int p1, .int p2, .int p3, .int p4, .int p5])).length) Slot.unset).toArray = ls at hl ⊢
  have hl : lv_has ls 8 [(0, .ref (a 0)), (1, .int p0), (2, .int p1), (3, .int p2), (4, .int p3), (5, .int p4), (6, .int p5)] := hl
  unfold wp_X8_puts at h
  refine lv_bipush (v := 12) hx hb dX8_puts_0 (by decide) ?_
  refine lv_iload_n hx hb dX8_puts_2 rfl (lv_at hl 1 rfl) ?_
  refine lv_imul hx hb dX8_puts_3 ?_
  refine lv_iload_n hx hb dX8_puts_4 rfl (lv_at hl 2 rfl) ?_
  refine lv_iadd hx hb dX8_puts_5 ?_
  refine lv_topi (fun x_1 ex_1 => ?_)
  have h := h x_1 ex_1
  refine lv_istore (lv' := [(7, .int x_1), (0, .ref (a 0)), (1, .int p0), (2, .int p1), (3, .int p2), (4, .int p3), (5, .int p4), (6, .int p5)]) hx hb dX8_puts_6 hl (by decide) rfl (fun ls hl => ?_)
  refine lv_aload_n hx hb dX8_puts_8 rfl (lv_at hl 1 rfl) ?_
  refine va_get (D := (dC, dI)) (ci := 8) (v := .ref (a 16)) (C := RX8) (T := TX8) (N := 47) hx hb hts nX8_puts_X8 hown hK hP 0 (wM_at0 _ _ _ _ _ _) rfl 17 (by decide) (hts (.fieldLink RX8 55 "SongOfficeModel" "how" "[I") kX8_puts_1) (fun _ h9 => h9) rfl dX8_puts_9 ?_
  refine lv_iload hx hb dX8_puts_12 (lv_at hl 0 rfl) ?_
  obtain ⟨hi, h⟩ := h
  refine va_iald hx hb hK hP 16 15 (wM_at16 _ _ _ _ _ _) rfl hi dX8_puts_14 ?_
  obtain ⟨B_2, hB_2, h⟩ := h
  have jB_2 : ∀ (I_3 : TI) (J_4 : TJ) (S_5 : TS) (L_6 : TL) (x_7 : Int32) (H : Heap) (locs : List Loc) (ls : Array Slot), va_P (dC, dI) vwCl (wM a cy I_3 J_4 S_5 L_6) H → va_D A (wM a cy I_3 J_4 S_5 L_6) → va_S A s.heap H locs → lv_has ls 8 [(0, .ref (a 0)), (3, .int p2), (4, .int p3), (5, .int p4), (6, .int p5), (7, .int x_7)] → B_2 I_3 J_4 S_5 L_6 x_7 → W p l e (headSpec wsX8_puts rmX8_puts).room s m args below meth c H locs 0 0 (MQ below (gQv dC dI (wM a cy) (tyM cy) A Φ) args s 0 0 A) (F0 m 49 ls []) := by
    intro I_3 J_4 S_5 L_6 x_7 H locs ls hP hD hS hl h
    have h := hB_2 I_3 J_4 S_5 L_6 x_7 h
    refine lv_aload_n hx hb dX8_puts_49 rfl (lv_at hl 0 rfl) ?_
    refine va_get (D := (dC, dI)) (ci := 8) (v := .ref (a 16)) (C := RX8) (T := TX8) (N := 47) hx hb hts nX8_puts_X8 hown hK hP 0 (wM_at0 _ _ _ _ _ _) rfl 17 (by decide) (hts (.fieldLink RX8 55 "SongOfficeModel" "how" "[I") kX8_puts_1) (fun _ h9 => h9) rfl dX8_puts_50 ?_
    refine lv_iload hx hb dX8_puts_53 (lv_at hl 5 rfl) ?_
    refine lv_iload hx hb dX8_puts_55 (lv_at hl 4 rfl) ?_
    obtain ⟨B_8, hB_8, h⟩ := h
    have jB_8 : ∀ (I_9 : TI) (J_10 : TJ) (S_11 : TS) (L_12 : TL) (x_13 : Int32) (s_14 : Int32) (s_15 : Int32) (H : Heap) (locs : List Loc) (ls : Array Slot), va_P (dC, dI) vwCl (wM a cy I_9 J_10 S_11 L_12) H → va_D A (wM a cy I_9 J_10 S_11 L_12) → va_S A s.heap H locs → lv_has ls 8 [(0, .ref (a 0)), (3, .int p2), (4, .int p3), (5, .int p4), (6, .int p5), (7, .int x_13)] → B_8 I_9 J_10 S_11 L_12 x_13 s_14 s_15 → W p l e (headSpec wsX8_puts rmX8_puts).room s m args below meth c H locs 0 0 (MQ below (gQv dC dI (wM a cy) (tyM cy) A Φ) args s 0 0 A) (F0 m 65 ls [.int s_15, .int s_14, .ref (a 16)]) := by
      intro I_9 J_10 S_11 L_12 x_13 s_14 s_15 H locs ls hP hD hS hl h
      have h := hB_8 I_9 J_10 S_11 L_12 x_13 s_14 s_15 h
      obtain ⟨hi, h⟩ := h
      obtain ⟨I_16, eI_16⟩ : ∃ z : TI, z = va_up I_9 16 (upd (I_9 16) (s_14).toNatClampNeg s_15) := ⟨_, rfl⟩
      have h := h I_16 eI_16
      refine va_iast hx hb hK hP hD hS 16 15 (wM_at16 _ _ _ _ _ _) rfl hi dX8_puts_65 (fun H locs hP hD hS => ?_)
      have hP : va_P (dC, dI) vwCl (wM a cy I_16 J_10 S_11 L_12) H := by rw [eI_16]; exact setP hP (wM_set16 _ _ _ _ _ _ _)
      have hD : va_D A (wM a cy I_16 J_10 S_11 L_12) := by rw [eI_16]; exact setD hD (wM_set16 _ _ _ _ _ _ _)
      refine lv_aload_n hx hb dX8_puts_66 rfl (lv_at hl 0 rfl) ?_
      refine va_get (D := (dC, dI)) (ci := 8) (v := .ref (a 13)) (C := RX8) (T := TX8) (N := 47) hx hb hts nX8_puts_X8 hown hK hP 0 (wM_at0 _ _ _ _ _ _) rfl 14 (by decide) (hts (.fieldLink RX8 46 "SongOfficeModel" "first" "[I") kX8_puts_4) (fun _ h9 => h9) rfl dX8_puts_67 ?_
      refine lv_iload hx hb dX8_puts_70 (lv_at hl 5 rfl) ?_
      refine lv_iload_n hx hb dX8_puts_72 rfl (lv_at hl 1 rfl) ?_
      obtain ⟨hi, h⟩ := h
      obtain ⟨I_17, eI_17⟩ : ∃ z : TI, z = va_up I_16 13 (upd (I_16 13) (x_13).toNatClampNeg p2) := ⟨_, rfl⟩
      have h := h I_17 eI_17
      refine va_iast hx hb hK hP hD hS 13 12 (wM_at13 _ _ _ _ _ _) rfl hi dX8_puts_73 (fun H locs hP hD hS => ?_)
      have hP : va_P (dC, dI) vwCl (wM a cy I_17 J_10 S_11 L_12) H := by rw [eI_17]; exact setP hP (wM_set13 _ _ _ _ _ _ _)
      have hD : va_D A (wM a cy I_17 J_10 S_11 L_12) := by rw [eI_17]; exact setD hD (wM_set13 _ _ _ _ _ _ _)
      refine lv_aload_n hx hb dX8_puts_74 rfl (lv_at hl 0 rfl) ?_
      refine va_get (D := (dC, dI)) (ci := 8) (v := .ref (a 14)) (C := RX8) (T := TX8) (N := 47) hx hb hts nX8_puts_X8 hown hK hP 0 (wM_at0 _ _ _ _ _ _) rfl 15 (by decide) (hts (.fieldLink RX8 49 "SongOfficeModel" "second" "[I") kX8_puts_5) (fun _ h9 => h9) rfl dX8_puts_75 ?_
      refine lv_iload hx hb dX8_puts_78 (lv_at hl 5 rfl) ?_
      refine lv_iload hx hb dX8_puts_80 (lv_at hl 4 rfl) ?_
      obtain ⟨B_18, hB_18, h⟩ := h
      have jB_18 : ∀ (I_19 : TI) (J_20 : TJ) (S_21 : TS) (L_22 : TL) (x_23 : Int32) (s_24 : Int32) (s_25 : Int32) (H : Heap) (locs : List Loc) (ls : Array Slot), va_P (dC, dI) vwCl (wM a cy I_19 J_20 S_21 L_22) H → va_D A (wM a cy I_19 J_20 S_21 L_22) → va_S A s.heap H locs → lv_has ls 8 [(0, .ref (a 0)), (5, .int p4), (6, .int p5), (7, .int x_23)] → B_18 I_19 J_20 S_21 L_22 x_23 s_24 s_25 → W p l e (headSpec wsX8_puts rmX8_puts).room s m args below meth c H locs 0 0 (MQ below (gQv dC dI (wM a cy) (tyM cy) A Φ) args s 0 0 A) (F0 m 91 ls [.int s_25, .int s_24, .ref (a 14)]) := by
        intro I_19 J_20 S_21 L_22 x_23 s_24 s_25 H locs ls hP hD hS hl h
        have h := hB_18 I_19 J_20 S_21 L_22 x_23 s_24 s_25 h
        obtain ⟨hi, h⟩ := h
        obtain ⟨I_26, eI_26⟩ : ∃ z : TI, z = va_up I_19 14 (upd (I_19 14) (s_24).toNatClampNeg s_25) := ⟨_, rfl⟩
        have h := h I_26 eI_26
        refine va_iast hx hb hK hP hD hS 14 13 (wM_at14 _ _ _ _ _ _) rfl hi dX8_puts_91 (fun H locs hP hD hS => ?_)
        have hP : va_P (dC, dI) vwCl (wM a cy I_26 J_20 S_21 L_22) H := by rw [eI_26]; exact setP hP (wM_set14 _ _ _ _ _ _ _)
        have hD : va_D A (wM a cy I_26 J_20 S_21 L_22) := by rw [eI_26]; exact setD hD (wM_set14 _ _ _ _ _ _ _)
        refine lv_aload_n hx hb dX8_puts_92 rfl (lv_at hl 0 rfl) ?_
        refine va_get (D := (dC, dI)) (ci := 8) (v := .ref (a 15)) (C := RX8) (T := TX8) (N := 47) hx hb hts nX8_puts_X8 hown hK hP 0 (wM_at0 _ _ _ _ _ _) rfl 16 (by decide) (hts (.fieldLink RX8 52 "SongOfficeModel" "third" "[I") kX8_puts_6) (fun _ h9 => h9) rfl dX8_puts_93 ?_
        refine lv_iload hx hb dX8_puts_96 (lv_at hl 3 rfl) ?_
        refine lv_iload hx hb dX8_puts_98 (lv_at hl 2 rfl) ?_
        obtain ⟨B_27, hB_27, h⟩ := h
        have jB_27 : ∀ (I_28 : TI) (J_29 : TJ) (S_30 : TS) (L_31 : TL) (s_32 : Int32) (s_33 : Int32) (H : Heap) (locs : List Loc) (ls : Array Slot), va_P (dC, dI) vwCl (wM a cy I_28 J_29 S_30 L_31) H → va_D A (wM a cy I_28 J_29 S_30 L_31) → va_S A s.heap H locs → lv_has ls 8 [] → B_27 I_28 J_29 S_30 L_31 s_32 s_33 → W p l e (headSpec wsX8_puts rmX8_puts).room s m args below meth c H locs 0 0 (MQ below (gQv dC dI (wM a cy) (tyM cy) A Φ) args s 0 0 A) (F0 m 109 ls [.int s_33, .int s_32, .ref (a 15)]) := by
          intro I_28 J_29 S_30 L_31 s_32 s_33 H locs ls hP hD hS hl h
          have h := hB_27 I_28 J_29 S_30 L_31 s_32 s_33 h
          obtain ⟨hi, h⟩ := h
          obtain ⟨I_34, eI_34⟩ : ∃ z : TI, z = va_up I_28 15 (upd (I_28 15) (s_32).toNatClampNeg s_33) := ⟨_, rfl⟩
          have h := h I_34 eI_34
          refine va_iast hx hb hK hP hD hS 15 14 (wM_at15 _ _ _ _ _ _) rfl hi dX8_puts_109 (fun H locs hP hD hS => ?_)
          have hP : va_P (dC, dI) vwCl (wM a cy I_34 J_29 S_30 L_31) H := by rw [eI_34]; exact setP hP (wM_set15 _ _ _ _ _ _ _)
          have hD : va_D A (wM a cy I_34 J_29 S_30 L_31) := by rw [eI_34]; exact setD hD (wM_set15 _ _ _ _ _ _ _)
          exact grv hx hb hr hlocks hP hK hD hS h dX8_puts_110
        refine lv_if_eq (tgt := 108) hx hb dX8_puts_100 (by decide) (fun hc => ?_) (fun hc => ?_)
        · have h := h.1 hc
          refine lv_iconst (v := 0) hx hb dX8_puts_108 (by decide) ?_
          exact jB_27 I_26 J_20 S_21 L_22 x_23 (0 : Int32) _ _ _ hP hD hS (lv_sub hl [] rfl) h
        · have h := h.2 hc
          refine lv_iload hx hb dX8_puts_103 (lv_at hl 1 rfl) ?_
          refine lv_goto (tgt := 109) hx hb dX8_puts_105 (by decide) ?_
          exact jB_27 I_26 J_20 S_21 L_22 x_23 p4 _ _ _ hP hD hS (lv_sub hl [] rfl) h
      refine lv_if_eq (tgt := 90) hx hb dX8_puts_82 (by decide) (fun hc => ?_) (fun hc => ?_)
      · have h := h.1 hc
        refine lv_iconst (v := 0) hx hb dX8_puts_90 (by decide) ?_
        exact jB_18 I_17 J_10 S_11 L_12 x_13 x_13 (0 : Int32) _ _ _ hP hD hS (lv_sub hl [0, 3, 4, 5] rfl) h
      · have h := h.2 hc
        refine lv_iload hx hb dX8_puts_85 (lv_at hl 2 rfl) ?_
        refine lv_goto (tgt := 91) hx hb dX8_puts_87 (by decide) ?_
        exact jB_18 I_17 J_10 S_11 L_12 x_13 x_13 p3 _ _ _ hP hD hS (lv_sub hl [0, 3, 4, 5] rfl) h
    refine lv_if_eq (tgt := 64) hx hb dX8_puts_57 (by decide) (fun hc => ?_) (fun hc => ?_)
    · have h := h.1 hc
      refine lv_iconst (v := 1) hx hb dX8_puts_64 (by decide) ?_
      exact jB_8 I_3 J_4 S_5 L_6 x_7 x_7 (1 : Int32) _ _ _ hP hD hS (lv_sub hl [0, 1, 2, 3, 4, 5] rfl) h
    · have h := h.2 hc
      refine lv_iconst (v := 2) hx hb dX8_puts_60 (by decide) ?_
      refine lv_goto (tgt := 65) hx hb dX8_puts_61 (by decide) ?_
      exact jB_8 I_3 J_4 S_5 L_6 x_7 x_7 (2 : Int32) _ _ _ hP hD hS (lv_sub hl [0, 1, 2, 3, 4, 5] rfl) h
  refine lv_if_ne (tgt := 49) hx hb dX8_puts_15 (by decide) (fun hc => ?_) (fun hc => ?_)
  · have h := h.1 hc
    exact jB_2 I J S L x_1 _ _ _ hP hD hS (lv_sub hl [1, 4, 5, 6, 7, 0] rfl) h
  · have h := h.2 hc
    refine lv_aload_n hx hb dX8_puts_18 rfl (lv_at hl 1 rfl) ?_
    refine va_get (D := (dC, dI)) (ci := 8) (v := .ref (a 17)) (C := RX8) (T := TX8) (N := 47) hx hb hts nX8_puts_X8 hown hK hP 0 (wM_at0 _ _ _ _ _ _) rfl 18 (by decide) (hts (.fieldLink RX8 58 "SongOfficeModel" "order" "[I") kX8_puts_2) (fun _ h9 => h9) rfl dX8_puts_19 ?_
    refine lv_bipush (v := 12) hx hb dX8_puts_22 (by decide) ?_
    refine lv_iload_n hx hb dX8_puts_24 rfl (lv_at hl 2 rfl) ?_
    refine lv_imul hx hb dX8_puts_25 ?_
    refine lv_aload_n hx hb dX8_puts_26 rfl (lv_at hl 1 rfl) ?_
    refine va_get (D := (dC, dI)) (ci := 8) (v := .ref (a 18)) (C := RX8) (T := TX8) (N := 47) hx hb hts nX8_puts_X8 hown hK hP 0 (wM_at0 _ _ _ _ _ _) rfl 19 (by decide) (hts (.fieldLink RX8 61 "SongOfficeModel" "orderMany" "[I") kX8_puts_3) (fun _ h9 => h9) rfl dX8_puts_27 ?_
    refine lv_iload_n hx hb dX8_puts_30 rfl (lv_at hl 2 rfl) ?_
    obtain ⟨hi, h⟩ := h
    refine va_iald hx hb hK hP 18 17 (wM_at18 _ _ _ _ _ _) rfl hi dX8_puts_31 ?_
    refine lv_iadd hx hb dX8_puts_32 ?_
    refine lv_iload_n hx hb dX8_puts_33 rfl (lv_at hl 3 rfl) ?_
    obtain ⟨hi, h⟩ := h
    obtain ⟨I_35, eI_35⟩ : ∃ z : TI, z = va_up I 17 (upd (I 17) ((((12 : Int32) * p0) + (I 18 (p0).toNatClampNeg))).toNatClampNeg p1) := ⟨_, rfl⟩
    have h := h I_35 eI_35
    refine va_iast hx hb hK hP hD hS 17 16 (wM_at17 _ _ _ _ _ _) rfl hi dX8_puts_34 (fun H locs hP hD hS => ?_)
    have hP : va_P (dC, dI) vwCl (wM a cy I_35 J S L) H := by rw [eI_35]; exact setP hP (wM_set17 _ _ _ _ _ _ _)
    have hD : va_D A (wM a cy I_35 J S L) := by rw [eI_35]; exact setD hD (wM_set17 _ _ _ _ _ _ _)
    refine lv_aload_n hx hb dX8_puts_35 rfl (lv_at hl 1 rfl) ?_
    refine va_get (D := (dC, dI)) (ci := 8) (v := .ref (a 18)) (C := RX8) (T := TX8) (N := 47) hx hb hts nX8_puts_X8 hown hK hP 0 (wM_at0 _ _ _ _ _ _) rfl 19 (by decide) (hts (.fieldLink RX8 61 "SongOfficeModel" "orderMany" "[I") kX8_puts_3) (fun _ h9 => h9) rfl dX8_puts_36 ?_
    refine lv_iload_n hx hb dX8_puts_39 rfl (lv_at hl 2 rfl) ?_
    refine lv_aload_n hx hb dX8_puts_40 rfl (lv_at hl 1 rfl) ?_
    refine va_get (D := (dC, dI)) (ci := 8) (v := .ref (a 18)) (C := RX8) (T := TX8) (N := 47) hx hb hts nX8_puts_X8 hown hK hP 0 (wM_at0 _ _ _ _ _ _) rfl 19 (by decide) (hts (.fieldLink RX8 61 "SongOfficeModel" "orderMany" "[I") kX8_puts_3) (fun _ h9 => h9) rfl dX8_puts_41 ?_
    refine lv_iload_n hx hb dX8_puts_44 rfl (lv_at hl 2 rfl) ?_
    obtain ⟨hi, h⟩ := h
    refine va_iald hx hb hK hP 18 17 (wM_at18 _ _ _ _ _ _) rfl hi dX8_puts_45 ?_
    refine lv_iconst (v := 1) hx hb dX8_puts_46 (by decide) ?_
    refine lv_iadd hx hb dX8_puts_47 ?_
    obtain ⟨hi, h⟩ := h
    obtain ⟨I_36, eI_36⟩ : ∃ z : TI, z = va_up I_35 18 (upd (I_35 18) (p0).toNatClampNeg ((I_35 18 (p0).toNatClampNeg) + (1 : Int32))) := ⟨_, rfl⟩
    have h := h I_36 eI_36
    refine va_iast hx hb hK hP hD hS 18 17 (wM_at18 _ _ _ _ _ _) rfl hi dX8_puts_48 (fun H locs hP hD hS => ?_)
    have hP : va_P (dC, dI) vwCl (wM a cy I_36 J S L) H := by rw [eI_36]; exact setP hP (wM_set18 _ _ _ _ _ _ _)
    have hD : va_D A (wM a cy I_36 J S L) := by rw [eI_36]; exact setD hD (wM_set18 _ _ _ _ _ _ _)
    exact jB_2 I_36 J S L x_1 _ _ _ hP hD hS (lv_sub hl [1, 4, 5, 6, 7, 0] rfl) h
def wp_X8_report (I : TI) (J : TJ) (S : TS) (L : TL) (p0 : Int32) (p1 : Int32) (p2 : Int32) (p3 : Int32) (p4 : Int32) (Φ : Int32 → TI → TJ → TS → TL → Prop) : Prop := ∃ B_1 : TI → TJ → TS → TL → Prop, (∀ (I_2 : TI) (J_3 : TJ) (S_4 : TS) (L_5 : TL), B_1 I_2 J_3 S_4 L_5 → (Φ (0 : Int32) I_2 J_3 S_4 L_5)) ∧ ((((S 0) = (40 : Int32)) → (B_1 I J S L)) ∧ ((¬ (S 0) = (40 : Int32)) → (wp_X8_isReport I J S L p0 p1 p2 p3 p4 (fun (r_10 : Int32) (I_6 : TI) (J_7 : TJ) (S_8 : TS) (L_9 : TL) => (((¬ r_10 = 0) → (wp_X8_puts I_6 J_7 S_8 L_9 (S_8 0) p0 p1 p2 p3 p4 (fun (I_11 : TI) (J_12 : TJ) (S_13 : TS) (L_14 : TL) => (Φ (1 : Int32) I_11 J_12 S_13 L_14)))) ∧ ((r_10 = 0) → (B_1 I_6 J_7 S_8 L_9)))))))
theorem nX8_report_X8 : ∀ w ∈ wsX80, w ∈ wsX8_report := fun _ h => List.mem_cons_of_mem _ (List.mem_append_right _ h)
theorem kX8_report_1 : Cond.fieldLink RX8 136 "SongOfficeModel" "term" "I" ∈ wsX8_report := List.mem_of_getElem? (i := 1) rfl
abbrev rmX8_report : Room := { frames := 2, cells := 0, slots := 0, locals := 45 }
set_option maxHeartbeats 4000000 in
set_option maxRecDepth 100000 in
theorem c_X8_report (l : Launch) (dC : Nat → ClassId) (dI : Nat → Nat → Nat) (a : Nat → Nat) (cy : Nat → ClassId) (sz : Nat) (I : TI) (J : TJ) (S : TS) (L : TL) (p0 : Int32) (p1 : Int32) (p2 : Int32) (p3 : Int32) (p4 : Int32) (Φ : Int32 → TI → TJ → TS → TL → Prop) (h : wp_X8_report I J S L p0 p1 p2 p3 p4 Φ) : Met l yX8_report wsX8_report rmX8_report (va_Pc [.ref (a 0), .int p0, .int p1, .int p2, .int p3, .int p4] (gpre dC dI (wM a cy I J S L) (tyM cy) sz)) (gQi dC dI (wM a cy) (tyM cy) (va_A (wM a cy I J S L) sz) Φ) 0 0 (va_A (wM a cy I J S L) sz) := by
  refine Met.ofW (cc := cX8_report) (maxL := 6) (ret := (some .boolean)) (by decide) rfl ?_
  intro p e s m args below meth c s₁ B hml hv
  obtain ⟨hargs, hsz, hP, hK, hD0, hN⟩ := hv
  have hx := B.exec
  have hb := B.bytes
  have hr := B.returns
  have hts := atoms_spec (ws := wsX8_report) B.pre
  have hown : s.vm.findClass RX8 = some m.cls := findClass_of_methodNamed B.named
  have hlocks := B.notSynchronized
  subst hsz
  have hD := hD0.self (sz := s.heap.size)
  generalize hAe : va_A (wM a cy I J S L) s.heap.size = A at hD ⊢
  have hA : ∀ q : Nat, s.heap.size ≤ q → A q := fun q h => by rw [← hAe]; exact Or.inr h
  obtain ⟨H, hH⟩ : ∃ z : Heap, z = s.heap := ⟨_, rfl⟩
  rw [← hH] at hP
  have hS : va_S A s.heap H [] := by rw [hH]; exact va_S.rf
  have hl := lv_entry ([.ref (a 0), .int p0, .int p1, .int p2, .int p3, .int p4]) (n := 6) (Nat.le_of_ble_eq_true rfl)
  have hE : entryFrame m args 6 = F0 m 0 ((lg_sl ([.ref (a 0), .int p0, .int p1, .int p2, .int p3, .int p4]) ++ List.replicate (6 - (lg_sl ([.ref (a 0), .int p0, .int p1, .int p2, .int p3, .int p4])).length) Slot.unset).toArray) [] := by rw [hargs]; exact lg_entry_eq m _ _
  rw [hE, ← hH]
  clear hE
  generalize (lg_sl ([.ref (a 0), .int p0, .int p1, .int p2, .int p3, .int p4]) ++ List.replicate (6 - (lg_sl ([.ref (a 0), .int p0, .int p1, .int p2, .int p3, .int p4])).length) Slot.unset).toArray = ls at hl ⊢
  have hl : lv_has ls 6 [(0, .ref (a 0)), (1, .int p0), (2, .int p1), (3, .int p2), (4, .int p3), (5, .int p4)] := hl
  unfold wp_X8_report at h
  refine lv_aload_n hx hb dX8_report_0 rfl (lv_at hl 0 rfl) ?_
  refine va_get (D := (dC, dI)) (ci := 8) (v := .int (S 0)) (C := RX8) (T := TX8) (N := 47) hx hb hts nX8_report_X8 hown hK hP 0 (wM_at0 _ _ _ _ _ _) rfl 0 (by decide) (hts (.fieldLink RX8 136 "SongOfficeModel" "term" "I") kX8_report_1) (fun _ h9 => h9) rfl dX8_report_1 ?_
  refine lv_bipush (v := 40) hx hb dX8_report_4 (by decide) ?_
  obtain ⟨B_1, hB_1, h⟩ := h
  have jB_1 : ∀ (I_2 : TI) (J_3 : TJ) (S_4 : TS) (L_5 : TL) (H : Heap) (locs : List Loc) (ls : Array Slot), va_P (dC, dI) vwCl (wM a cy I_2 J_3 S_4 L_5) H → va_D A (wM a cy I_2 J_3 S_4 L_5) → va_S A s.heap H locs → lv_has ls 6 [] → B_1 I_2 J_3 S_4 L_5 → W p l e (headSpec wsX8_report rmX8_report).room s m args below meth c H locs 0 0 (MQ below (gQi dC dI (wM a cy) (tyM cy) A Φ) args s 0 0 A) (F0 m 23 ls []) := by
    intro I_2 J_3 S_4 L_5 H locs ls hP hD hS hl h
    have h := hB_1 I_2 J_3 S_4 L_5 h
    refine lv_iconst (v := 0) hx hb dX8_report_23 (by decide) ?_
    exact grz hx hb hr hlocks hP hK hD hS ⟨Or.inl rfl, h⟩ dX8_report_24
  refine lv_icmp_eq (tgt := 23) hx hb dX8_report_6 (by decide) (fun hc => ?_) (fun hc => ?_)
  · have h := h.1 hc
    exact jB_1 I J S L _ _ _ hP hD hS (lv_sub hl [] rfl) h
  · have h := h.2 hc
    refine lv_aload_n hx hb dX8_report_9 rfl (lv_at hl 0 rfl) ?_
    refine lv_iload_n hx hb dX8_report_10 rfl (lv_at hl 1 rfl) ?_
    refine lv_iload_n hx hb dX8_report_11 rfl (lv_at hl 2 rfl) ?_
    refine lv_iload_n hx hb dX8_report_12 rfl (lv_at hl 3 rfl) ?_
    refine lv_iload hx hb dX8_report_13 (lv_at hl 4 rfl) ?_
    refine lv_iload hx hb dX8_report_15 (lv_at hl 5 rfl) ?_
    refine gcalli (va_runV (As := [.int p0, .int p1, .int p2, .int p3, .int p4]) (rest := []) ⟨hx, hb, hml, hown, hts⟩ (c_X8_isReport l dC dI a cy H.size I J S L p0 p1 p2 p3 p4 _ h) (cwV 5 hts gX8_report_X8_isReport rfl rfl rfl (by decide +kernel) ⟨(Nat.le_of_ble_eq_true rfl), (Nat.le_of_ble_eq_true rfl)⟩) (g_pV hP hK hD hN (va_recv hK hP (ci := 8) (q0 := 0) rfl (wM_at0 _ _ _ _ _ _)) [.int p0, .int p1, .int p2, .int p3, .int p4]) rfl rfl hl.1 rfl (lv_room (Nat.le_of_ble_eq_true rfl)) dX8_report_17 ⟨(Nat.le_of_ble_eq_true rfl), (Nat.le_of_ble_eq_true rfl)⟩) hS hA hD (fun r_10 I_6 J_7 S_8 L_9 H locs hP hD hS h => ?_)
    refine lv_if_ne (tgt := 25) hx hb dX8_report_20 (by decide) (fun hc => ?_) (fun hc => ?_)
    · have h := h.1 hc
      refine lv_aload_n hx hb dX8_report_25 rfl (lv_at hl 0 rfl) ?_
      refine lv_aload_n hx hb dX8_report_26 rfl (lv_at hl 0 rfl) ?_
      refine va_get (D := (dC, dI)) (ci := 8) (v := .int (S_8 0)) (C := RX8) (T := TX8) (N := 47) hx hb hts nX8_report_X8 hown hK hP 0 (wM_at0 _ _ _ _ _ _) rfl 0 (by decide) (hts (.fieldLink RX8 136 "SongOfficeModel" "term" "I") kX8_report_1) (fun _ h9 => h9) rfl dX8_report_27 ?_
      refine lv_iload_n hx hb dX8_report_30 rfl (lv_at hl 1 rfl) ?_
      refine lv_iload_n hx hb dX8_report_31 rfl (lv_at hl 2 rfl) ?_
      refine lv_iload_n hx hb dX8_report_32 rfl (lv_at hl 3 rfl) ?_
      refine lv_iload hx hb dX8_report_33 (lv_at hl 4 rfl) ?_
      refine lv_iload hx hb dX8_report_35 (lv_at hl 5 rfl) ?_
      refine gcallv (va_runV (As := [.int (S_8 0), .int p0, .int p1, .int p2, .int p3, .int p4]) (rest := []) ⟨hx, hb, hml, hown, hts⟩ (c_X8_puts l dC dI a cy H.size I_6 J_7 S_8 L_9 (S_8 0) p0 p1 p2 p3 p4 _ h) (cwV 6 hts gX8_report_X8_puts rfl rfl rfl (by decide +kernel) ⟨(Nat.le_of_ble_eq_true rfl), (Nat.le_of_ble_eq_true rfl)⟩) (g_pV hP hK hD hN (va_recv hK hP (ci := 8) (q0 := 0) rfl (wM_at0 _ _ _ _ _ _)) [.int (S_8 0), .int p0, .int p1, .int p2, .int p3, .int p4]) rfl rfl hl.1 rfl (lv_room (Nat.le_of_ble_eq_true rfl)) dX8_report_37 ⟨(Nat.le_of_ble_eq_true rfl), (Nat.le_of_ble_eq_true rfl)⟩) hS hA hD (fun I_11 J_12 S_13 L_14 H locs hP hD hS h => ?_)
      refine lv_iconst (v := 1) hx hb dX8_report_40 (by decide) ?_
      exact grz hx hb hr hlocks hP hK hD hS ⟨Or.inr rfl, h⟩ dX8_report_41
    · have h := h.2 hc
      exact jB_1 I_6 J_7 S_8 L_9 _ _ _ hP hD hS (lv_sub hl [] rfl) h
def wp_X8_mend (I : TI) (J : TJ) (S : TS) (L : TL) (p0 : Int32) (p1 : Int32) (p2 : Int32) (p3 : Int32) (p4 : Int32) (p5 : Int32) (Φ : Int32 → TI → TJ → TS → TL → Prop) : Prop := ∃ B_1 : TI → TJ → TS → TL → Prop, (∀ (I_2 : TI) (J_3 : TJ) (S_4 : TS) (L_5 : TL), B_1 I_2 J_3 S_4 L_5 → (Φ (0 : Int32) I_2 J_3 S_4 L_5)) ∧ (((p0 < 0) → (B_1 I J S L)) ∧ ((¬ p0 < 0) → ((((S 0) ≤ p0) → (B_1 I J S L)) ∧ ((¬ (S 0) ≤ p0) → (wp_X8_isReport I J S L p1 p2 p3 p4 p5 (fun (r_10 : Int32) (I_6 : TI) (J_7 : TJ) (S_8 : TS) (L_9 : TL) => (((¬ r_10 = 0) → (wp_X8_puts I_6 J_7 S_8 L_9 p0 p1 p2 p3 p4 p5 (fun (I_11 : TI) (J_12 : TJ) (S_13 : TS) (L_14 : TL) => ((vp_in (((12 : Int32) * p0) + p1) 480) ∧ ∀ I_15 : TI, I_15 = va_up I_11 20 (upd (I_11 20) ((((12 : Int32) * p0) + p1)).toNatClampNeg (vp_nar .boolean (1 : Int32))) → (Φ (1 : Int32) I_15 J_12 S_13 L_14))))) ∧ ((r_10 = 0) → (B_1 I_6 J_7 S_8 L_9)))))))))
theorem nX8_mend_X8 : ∀ w ∈ wsX80, w ∈ wsX8_mend := fun _ h => List.mem_cons_of_mem _ (List.mem_append_right _ h)
theorem kX8_mend_2 : Cond.fieldLink RX8 67 "SongOfficeModel" "mended" "[Z" ∈ wsX8_mend := List.mem_of_getElem? (i := 2) rfl
theorem kX8_mend_1 : Cond.fieldLink RX8 136 "SongOfficeModel" "term" "I" ∈ wsX8_mend := List.mem_of_getElem? (i := 1) rfl
abbrev rmX8_mend : Room := { frames := 2, cells := 0, slots := 0, locals := 45 }
set_option maxHeartbeats 4000000 in
set_option maxRecDepth 100000 in
theorem c_X8_mend (l : Launch) (dC : Nat → ClassId) (dI : Nat → Nat → Nat) (a : Nat → Nat) (cy : Nat → ClassId) (sz : Nat) (I : TI) (J : TJ) (S : TS) (L : TL) (p0 : Int32) (p1 : Int32) (p2 : Int32) (p3 : Int32) (p4 : Int32) (p5 : Int32) (Φ : Int32 → TI → TJ → TS → TL → Prop) (h : wp_X8_mend I J S L p0 p1 p2 p3 p4 p5 Φ) : Met l yX8_mend wsX8_mend rmX8_mend (va_Pc [.ref (a 0), .int p0, .int p1, .int p2, .int p3, .int p4, .int p5] (gpre dC dI (wM a cy I J S L) (tyM cy) sz)) (gQi dC dI (wM a cy) (tyM cy) (va_A (wM a cy I J S L) sz) Φ) 0 0 (va_A (wM a cy I J S L) sz) := by
  refine Met.ofW (cc := cX8_mend) (maxL := 7) (ret := (some .boolean)) (by decide) rfl ?_
  intro p e s m args below meth c s₁ B hml hv
  obtain ⟨hargs, hsz, hP, hK, hD0, hN⟩ := hv
  have hx := B.exec
  have hb := B.bytes
  have hr := B.returns
  have hts := atoms_spec (ws := wsX8_mend) B.pre
  have hown : s.vm.findClass RX8 = some m.cls := findClass_of_methodNamed B.named
  have hlocks := B.notSynchronized
  subst hsz
  have hD := hD0.self (sz := s.heap.size)
  generalize hAe : va_A (wM a cy I J S L) s.heap.size = A at hD ⊢
  have hA : ∀ q : Nat, s.heap.size ≤ q → A q := fun q h => by rw [← hAe]; exact Or.inr h
  obtain ⟨H, hH⟩ : ∃ z : Heap, z = s.heap := ⟨_, rfl⟩
  rw [← hH] at hP
  have hS : va_S A s.heap H [] := by rw [hH]; exact va_S.rf
  have hl := lv_entry ([.ref (a 0), .int p0, .int p1, .int p2, .int p3, .int p4, .int p5]) (n := 7) (Nat.le_of_ble_eq_true rfl)
  have hE : entryFrame m args 7 = F0 m 0 ((lg_sl ([.ref (a 0), .int p0, .int p1, .int p2, .int p3, .int p4, .int p5]) ++ List.replicate (7 - (lg_sl ([.ref (a 0), .int p0, .int p1, .int p2, .int p3, .int p4, .int p5])).length) Slot.unset).toArray) [] := by rw [hargs]; exact lg_entry_eq m _ _
  rw [hE, ← hH]
  clear hE
  generalize (lg_sl ([.ref (a 0), .int p0, .int p1, .int p2, .int p3, .int p4, .int p5]) ++ List.replicate (7 - (lg_sl ([.ref (a 0), .int p0, .int p1, .int p2, .int p3, .int p4, .int p5])).length) Slot.unset).toArray = ls at hl ⊢
  have hl : lv_has ls 7 [(0, .ref (a 0)), (1, .int p0), (2, .int p1), (3, .int p2), (4, .int p3), (5, .int p4), (6, .int p5)] := hl
  unfold wp_X8_mend at h
  refine lv_iload_n hx hb dX8_mend_0 rfl (lv_at hl 1 rfl) ?_
  obtain ⟨B_1, hB_1, h⟩ := h
  have jB_1 : ∀ (I_2 : TI) (J_3 : TJ) (S_4 : TS) (L_5 : TL) (H : Heap) (locs : List Loc) (ls : Array Slot), va_P (dC, dI) vwCl (wM a cy I_2 J_3 S_4 L_5) H → va_D A (wM a cy I_2 J_3 S_4 L_5) → va_S A s.heap H locs → lv_has ls 7 [] → B_1 I_2 J_3 S_4 L_5 → W p l e (headSpec wsX8_mend rmX8_mend).room s m args below meth c H locs 0 0 (MQ below (gQi dC dI (wM a cy) (tyM cy) A Φ) args s 0 0 A) (F0 m 27 ls []) := by
    intro I_2 J_3 S_4 L_5 H locs ls hP hD hS hl h
    have h := hB_1 I_2 J_3 S_4 L_5 h
    refine lv_iconst (v := 0) hx hb dX8_mend_27 (by decide) ?_
    exact grz hx hb hr hlocks hP hK hD hS ⟨Or.inl rfl, h⟩ dX8_mend_28
  refine lv_if_lt (tgt := 27) hx hb dX8_mend_1 (by decide) (fun hc => ?_) (fun hc => ?_)
  · have h := h.1 hc
    exact jB_1 I J S L _ _ _ hP hD hS (lv_sub hl [] rfl) h
  · have h := h.2 hc
    refine lv_iload_n hx hb dX8_mend_4 rfl (lv_at hl 1 rfl) ?_
    refine lv_aload_n hx hb dX8_mend_5 rfl (lv_at hl 0 rfl) ?_
    refine va_get (D := (dC, dI)) (ci := 8) (v := .int (S 0)) (C := RX8) (T := TX8) (N := 47) hx hb hts nX8_mend_X8 hown hK hP 0 (wM_at0 _ _ _ _ _ _) rfl 0 (by decide) (hts (.fieldLink RX8 136 "SongOfficeModel" "term" "I") kX8_mend_1) (fun _ h9 => h9) rfl dX8_mend_6 ?_
    refine lv_icmp_ge (tgt := 27) hx hb dX8_mend_9 (by decide) (fun hc => ?_) (fun hc => ?_)
    · have h := h.1 hc
      exact jB_1 I J S L _ _ _ hP hD hS (lv_sub hl [] rfl) h
    · have h := h.2 hc
      refine lv_aload_n hx hb dX8_mend_12 rfl (lv_at hl 0 rfl) ?_
      refine lv_iload_n hx hb dX8_mend_13 rfl (lv_at hl 2 rfl) ?_
      refine lv_iload_n hx hb dX8_mend_14 rfl (lv_at hl 3 rfl) ?_
      refine lv_iload hx hb dX8_mend_15 (lv_at hl 4 rfl) ?_
      refine lv_iload hx hb dX8_mend_17 (lv_at hl 5 rfl) ?_
      refine lv_iload hx hb dX8_mend_19 (lv_at hl 6 rfl) ?_
      refine gcalli (va_runV (As := [.int p1, .int p2, .int p3, .int p4, .int p5]) (rest := []) ⟨hx, hb, hml, hown, hts⟩ (c_X8_isReport l dC dI a cy H.size I J S L p1 p2 p3 p4 p5 _ h) (cwV 5 hts gX8_mend_X8_isReport rfl rfl rfl (by decide +kernel) ⟨(Nat.le_of_ble_eq_true rfl), (Nat.le_of_ble_eq_true rfl)⟩) (g_pV hP hK hD hN (va_recv hK hP (ci := 8) (q0 := 0) rfl (wM_at0 _ _ _ _ _ _)) [.int p1, .int p2, .int p3, .int p4, .int p5]) rfl rfl hl.1 rfl (lv_room (Nat.le_of_ble_eq_true rfl)) dX8_mend_21 ⟨(Nat.le_of_ble_eq_true rfl), (Nat.le_of_ble_eq_true rfl)⟩) hS hA hD (fun r_10 I_6 J_7 S_8 L_9 H locs hP hD hS h => ?_)
      refine lv_if_ne (tgt := 29) hx hb dX8_mend_24 (by decide) (fun hc => ?_) (fun hc => ?_)
      · have h := h.1 hc
        refine lv_aload_n hx hb dX8_mend_29 rfl (lv_at hl 0 rfl) ?_
        refine lv_iload_n hx hb dX8_mend_30 rfl (lv_at hl 1 rfl) ?_
        refine lv_iload_n hx hb dX8_mend_31 rfl (lv_at hl 2 rfl) ?_
        refine lv_iload_n hx hb dX8_mend_32 rfl (lv_at hl 3 rfl) ?_
        refine lv_iload hx hb dX8_mend_33 (lv_at hl 4 rfl) ?_
        refine lv_iload hx hb dX8_mend_35 (lv_at hl 5 rfl) ?_
        refine lv_iload hx hb dX8_mend_37 (lv_at hl 6 rfl) ?_
        refine gcallv (va_runV (As := [.int p0, .int p1, .int p2, .int p3, .int p4, .int p5]) (rest := []) ⟨hx, hb, hml, hown, hts⟩ (c_X8_puts l dC dI a cy H.size I_6 J_7 S_8 L_9 p0 p1 p2 p3 p4 p5 _ h) (cwV 6 hts gX8_mend_X8_puts rfl rfl rfl (by decide +kernel) ⟨(Nat.le_of_ble_eq_true rfl), (Nat.le_of_ble_eq_true rfl)⟩) (g_pV hP hK hD hN (va_recv hK hP (ci := 8) (q0 := 0) rfl (wM_at0 _ _ _ _ _ _)) [.int p0, .int p1, .int p2, .int p3, .int p4, .int p5]) rfl rfl hl.1 rfl (lv_room (Nat.le_of_ble_eq_true rfl)) dX8_mend_39 ⟨(Nat.le_of_ble_eq_true rfl), (Nat.le_of_ble_eq_true rfl)⟩) hS hA hD (fun I_11 J_12 S_13 L_14 H locs hP hD hS h => ?_)
        refine lv_aload_n hx hb dX8_mend_42 rfl (lv_at hl 0 rfl) ?_
        refine va_get (D := (dC, dI)) (ci := 8) (v := .ref (a 20)) (C := RX8) (T := TX8) (N := 47) hx hb hts nX8_mend_X8 hown hK hP 0 (wM_at0 _ _ _ _ _ _) rfl 21 (by decide) (hts (.fieldLink RX8 67 "SongOfficeModel" "mended" "[Z") kX8_mend_2) (fun _ h9 => h9) rfl dX8_mend_43 ?_
        refine lv_bipush (v := 12) hx hb dX8_mend_46 (by decide) ?_
        refine lv_iload_n hx hb dX8_mend_48 rfl (lv_at hl 1 rfl) ?_
        refine lv_imul hx hb dX8_mend_49 ?_
        refine lv_iload_n hx hb dX8_mend_50 rfl (lv_at hl 2 rfl) ?_
        refine lv_iadd hx hb dX8_mend_51 ?_
        refine lv_iconst (v := 1) hx hb dX8_mend_52 (by decide) ?_
        obtain ⟨hi, h⟩ := h
        obtain ⟨I_15, eI_15⟩ : ∃ z : TI, z = va_up I_11 20 (upd (I_11 20) ((((12 : Int32) * p0) + p1)).toNatClampNeg (vp_nar .boolean (1 : Int32))) := ⟨_, rfl⟩
        have h := h I_15 eI_15
        refine va_zast hx hb hK hP hD hS 20 19 (wM_at20 _ _ _ _ _ _) rfl hi dX8_mend_53 (fun H locs hP hD hS => ?_)
        have hP : va_P (dC, dI) vwCl (wM a cy I_15 J_12 S_13 L_14) H := by rw [eI_15]; exact setP hP (wM_set20 _ _ _ _ _ _ _)
        have hD : va_D A (wM a cy I_15 J_12 S_13 L_14) := by rw [eI_15]; exact setD hD (wM_set20 _ _ _ _ _ _ _)
        refine lv_iconst (v := 1) hx hb dX8_mend_54 (by decide) ?_
        exact grz hx hb hr hlocks hP hK hD hS ⟨Or.inr rfl, h⟩ dX8_mend_55
      · have h := h.2 hc
        exact jB_1 I_6 J_7 S_8 L_9 _ _ _ hP hD hS (lv_sub hl [] rfl) h
def wp_X8_tear (I : TI) (J : TJ) (S : TS) (L : TL) (p0 : Int32) (Φ : Int32 → TI → TJ → TS → TL → Prop) : Prop := ∃ B_1 : TI → TJ → TS → TL → Prop, (∀ (I_2 : TI) (J_3 : TJ) (S_4 : TS) (L_5 : TL), B_1 I_2 J_3 S_4 L_5 → (Φ (0 : Int32) I_2 J_3 S_4 L_5)) ∧ (((p0 < (-1 : Int32)) → (B_1 I J S L)) ∧ ((¬ p0 < (-1 : Int32)) → ((((12 : Int32) < p0) → (B_1 I J S L)) ∧ ((¬ (12 : Int32) < p0) → (((¬ (S 0) = (40 : Int32)) → (∃ B_6 : TI → TJ → TS → TL → Int32 → Int32 → Prop, (∀ (I_7 : TI) (J_8 : TJ) (S_9 : TS) (L_10 : TL) (s_11 : Int32) (s_12 : Int32), B_6 I_7 J_8 S_9 L_10 s_11 s_12 → ((vp_in s_11 40) ∧ ∀ I_13 : TI, I_13 = va_up I_7 19 (upd (I_7 19) (s_11).toNatClampNeg s_12) → (Φ (1 : Int32) I_13 J_8 S_9 L_10))) ∧ (((0 ≤ p0) → (B_6 I J S L (S 0) p0)) ∧ ((¬ 0 ≤ p0) → (B_6 I J S L (S 0) (0 : Int32)))))) ∧ (((S 0) = (40 : Int32)) → (B_1 I J S L)))))))
theorem nX8_tear_X8 : ∀ w ∈ wsX80, w ∈ wsX8_tear := fun _ h => List.mem_cons_of_mem _ (List.mem_append_right _ h)
theorem kX8_tear_1 : Cond.fieldLink RX8 136 "SongOfficeModel" "term" "I" ∈ wsX8_tear := List.mem_of_getElem? (i := 1) rfl
theorem kX8_tear_2 : Cond.fieldLink RX8 64 "SongOfficeModel" "torn" "[I" ∈ wsX8_tear := List.mem_of_getElem? (i := 2) rfl
abbrev rmX8_tear : Room := { frames := 0, cells := 0, slots := 0, locals := 0 }
set_option maxHeartbeats 4000000 in
set_option maxRecDepth 100000 in
theorem c_X8_tear (l : Launch) (dC : Nat → ClassId) (dI : Nat → Nat → Nat) (a : Nat → Nat) (cy : Nat → ClassId) (sz : Nat) (I : TI) (J : TJ) (S : TS) (L : TL) (p0 : Int32) (Φ : Int32 → TI → TJ → TS → TL → Prop) (h : wp_X8_tear I J S L p0 Φ) : Met l yX8_tear wsX8_tear rmX8_tear (va_Pc [.ref (a 0), .int p0] (gpre dC dI (wM a cy I J S L) (tyM cy) sz)) (gQi dC dI (wM a cy) (tyM cy) (va_A (wM a cy I J S L) sz) Φ) 0 0 (va_A (wM a cy I J S L) sz) := by
  refine Met.ofW (cc := cX8_tear) (maxL := 2) (ret := (some .boolean)) (by decide) rfl ?_
  intro p e s m args below meth c s₁ B hml hv
  obtain ⟨hargs, hsz, hP, hK, hD0, hN⟩ := hv
  have hx := B.exec
  have hb := B.bytes
  have hr := B.returns
  have hts := atoms_spec (ws := wsX8_tear) B.pre
  have hown : s.vm.findClass RX8 = some m.cls := findClass_of_methodNamed B.named
  have hlocks := B.notSynchronized
  subst hsz
  have hD := hD0.self (sz := s.heap.size)
  generalize hAe : va_A (wM a cy I J S L) s.heap.size = A at hD ⊢
  have hA : ∀ q : Nat, s.heap.size ≤ q → A q := fun q h => by rw [← hAe]; exact Or.inr h
  obtain ⟨H, hH⟩ : ∃ z : Heap, z = s.heap := ⟨_, rfl⟩
  rw [← hH] at hP
  have hS : va_S A s.heap H [] := by rw [hH]; exact va_S.rf
  have hl := lv_entry ([.ref (a 0), .int p0]) (n := 2) (Nat.le_of_ble_eq_true rfl)
  have hE : entryFrame m args 2 = F0 m 0 ((lg_sl ([.ref (a 0), .int p0]) ++ List.replicate (2 - (lg_sl ([.ref (a 0), .int p0])).length) Slot.unset).toArray) [] := by rw [hargs]; exact lg_entry_eq m _ _
  rw [hE, ← hH]
  clear hE
  generalize (lg_sl ([.ref (a 0), .int p0]) ++ List.replicate (2 - (lg_sl ([.ref (a 0), .int p0])).length) Slot.unset).toArray = ls at hl ⊢
  have hl : lv_has ls 2 [(0, .ref (a 0)), (1, .int p0)] := hl
  unfold wp_X8_tear at h
  refine lv_iload_n hx hb dX8_tear_0 rfl (lv_at hl 1 rfl) ?_
  refine lv_iconst (v := -1) hx hb dX8_tear_1 (by decide) ?_
  obtain ⟨B_1, hB_1, h⟩ := h
  have jB_1 : ∀ (I_2 : TI) (J_3 : TJ) (S_4 : TS) (L_5 : TL) (H : Heap) (locs : List Loc) (ls : Array Slot), va_P (dC, dI) vwCl (wM a cy I_2 J_3 S_4 L_5) H → va_D A (wM a cy I_2 J_3 S_4 L_5) → va_S A s.heap H locs → lv_has ls 2 [] → B_1 I_2 J_3 S_4 L_5 → W p l e (headSpec wsX8_tear rmX8_tear).room s m args below meth c H locs 0 0 (MQ below (gQi dC dI (wM a cy) (tyM cy) A Φ) args s 0 0 A) (F0 m 20 ls []) := by
    intro I_2 J_3 S_4 L_5 H locs ls hP hD hS hl h
    have h := hB_1 I_2 J_3 S_4 L_5 h
    refine lv_iconst (v := 0) hx hb dX8_tear_20 (by decide) ?_
    exact grz hx hb hr hlocks hP hK hD hS ⟨Or.inl rfl, h⟩ dX8_tear_21
  refine lv_icmp_lt (tgt := 20) hx hb dX8_tear_2 (by decide) (fun hc => ?_) (fun hc => ?_)
  · have h := h.1 hc
    exact jB_1 I J S L _ _ _ hP hD hS (lv_sub hl [] rfl) h
  · have h := h.2 hc
    refine lv_iload_n hx hb dX8_tear_5 rfl (lv_at hl 1 rfl) ?_
    refine lv_bipush (v := 12) hx hb dX8_tear_6 (by decide) ?_
    refine lv_icmp_gt (tgt := 20) hx hb dX8_tear_8 (by decide) (fun hc => ?_) (fun hc => ?_)
    · have h := h.1 hc
      exact jB_1 I J S L _ _ _ hP hD hS (lv_sub hl [] rfl) h
    · have h := h.2 hc
      refine lv_aload_n hx hb dX8_tear_11 rfl (lv_at hl 0 rfl) ?_
      refine va_get (D := (dC, dI)) (ci := 8) (v := .int (S 0)) (C := RX8) (T := TX8) (N := 47) hx hb hts nX8_tear_X8 hown hK hP 0 (wM_at0 _ _ _ _ _ _) rfl 0 (by decide) (hts (.fieldLink RX8 136 "SongOfficeModel" "term" "I") kX8_tear_1) (fun _ h9 => h9) rfl dX8_tear_12 ?_
      refine lv_bipush (v := 40) hx hb dX8_tear_15 (by decide) ?_
      refine lv_icmp_ne (tgt := 22) hx hb dX8_tear_17 (by decide) (fun hc => ?_) (fun hc => ?_)
      · have h := h.1 hc
        refine lv_aload_n hx hb dX8_tear_22 rfl (lv_at hl 0 rfl) ?_
        refine va_get (D := (dC, dI)) (ci := 8) (v := .ref (a 19)) (C := RX8) (T := TX8) (N := 47) hx hb hts nX8_tear_X8 hown hK hP 0 (wM_at0 _ _ _ _ _ _) rfl 20 (by decide) (hts (.fieldLink RX8 64 "SongOfficeModel" "torn" "[I") kX8_tear_2) (fun _ h9 => h9) rfl dX8_tear_23 ?_
        refine lv_aload_n hx hb dX8_tear_26 rfl (lv_at hl 0 rfl) ?_
        refine va_get (D := (dC, dI)) (ci := 8) (v := .int (S 0)) (C := RX8) (T := TX8) (N := 47) hx hb hts nX8_tear_X8 hown hK hP 0 (wM_at0 _ _ _ _ _ _) rfl 0 (by decide) (hts (.fieldLink RX8 136 "SongOfficeModel" "term" "I") kX8_tear_1) (fun _ h9 => h9) rfl dX8_tear_27 ?_
        refine lv_iload_n hx hb dX8_tear_30 rfl (lv_at hl 1 rfl) ?_
        obtain ⟨B_6, hB_6, h⟩ := h
        have jB_6 : ∀ (I_7 : TI) (J_8 : TJ) (S_9 : TS) (L_10 : TL) (s_11 : Int32) (s_12 : Int32) (H : Heap) (locs : List Loc) (ls : Array Slot), va_P (dC, dI) vwCl (wM a cy I_7 J_8 S_9 L_10) H → va_D A (wM a cy I_7 J_8 S_9 L_10) → va_S A s.heap H locs → lv_has ls 2 [] → B_6 I_7 J_8 S_9 L_10 s_11 s_12 → W p l e (headSpec wsX8_tear rmX8_tear).room s m args below meth c H locs 0 0 (MQ below (gQi dC dI (wM a cy) (tyM cy) A Φ) args s 0 0 A) (F0 m 39 ls [.int s_12, .int s_11, .ref (a 19)]) := by
          intro I_7 J_8 S_9 L_10 s_11 s_12 H locs ls hP hD hS hl h
          have h := hB_6 I_7 J_8 S_9 L_10 s_11 s_12 h
          obtain ⟨hi, h⟩ := h
          obtain ⟨I_13, eI_13⟩ : ∃ z : TI, z = va_up I_7 19 (upd (I_7 19) (s_11).toNatClampNeg s_12) := ⟨_, rfl⟩
          have h := h I_13 eI_13
          refine va_iast hx hb hK hP hD hS 19 18 (wM_at19 _ _ _ _ _ _) rfl hi dX8_tear_39 (fun H locs hP hD hS => ?_)
          have hP : va_P (dC, dI) vwCl (wM a cy I_13 J_8 S_9 L_10) H := by rw [eI_13]; exact setP hP (wM_set19 _ _ _ _ _ _ _)
          have hD : va_D A (wM a cy I_13 J_8 S_9 L_10) := by rw [eI_13]; exact setD hD (wM_set19 _ _ _ _ _ _ _)
          refine lv_iconst (v := 1) hx hb dX8_tear_40 (by decide) ?_
          exact grz hx hb hr hlocks hP hK hD hS ⟨Or.inr rfl, h⟩ dX8_tear_41
        refine lv_if_ge (tgt := 38) hx hb dX8_tear_31 (by decide) (fun hc => ?_) (fun hc => ?_)
        · have h := h.1 hc
          refine lv_iload_n hx hb dX8_tear_38 rfl (lv_at hl 1 rfl) ?_
          exact jB_6 I J S L (S 0) p0 _ _ _ hP hD hS (lv_sub hl [] rfl) h
        · have h := h.2 hc
          refine lv_iconst (v := 0) hx hb dX8_tear_34 (by decide) ?_
          refine lv_goto (tgt := 39) hx hb dX8_tear_35 (by decide) ?_
          exact jB_6 I J S L (S 0) (0 : Int32) _ _ _ hP hD hS (lv_sub hl [] rfl) h
      · have h := h.2 hc
        exact jB_1 I J S L _ _ _ hP hD hS (lv_sub hl [] rfl) h
def wp_X8_isOpen (I : TI) (J : TJ) (S : TS) (L : TL) (p0 : Int32) (p1 : Int32) (Φ : Int32 → TI → TJ → TS → TL → Prop) : Prop := (vp_in p0 40) ∧ (∃ B_1 : TI → TJ → TS → TL → Int32 → Prop, (∀ (I_2 : TI) (J_3 : TJ) (S_4 : TS) (L_5 : TL) (s_6 : Int32), B_1 I_2 J_3 S_4 L_5 s_6 → ((s_6 = 0 ∨ s_6 = 1) ∧ Φ s_6 I_2 J_3 S_4 L_5)) ∧ (∃ B_7 : TI → TJ → TS → TL → Prop, (∀ (I_8 : TI) (J_9 : TJ) (S_10 : TS) (L_11 : TL), B_7 I_8 J_9 S_10 L_11 → (B_1 I_8 J_9 S_10 L_11 (0 : Int32))) ∧ (((p1 < (I 19 (p0).toNatClampNeg)) → (B_7 I J S L)) ∧ ((¬ p1 < (I 19 (p0).toNatClampNeg)) → ((vp_in (((12 : Int32) * p0) + p1) 480) ∧ (((¬ (I 20 ((((12 : Int32) * p0) + p1)).toNatClampNeg) = 0) → (B_7 I J S L)) ∧ (((I 20 ((((12 : Int32) * p0) + p1)).toNatClampNeg) = 0) → (B_1 I J S L (1 : Int32)))))))))
theorem nX8_isOpen_X8 : ∀ w ∈ wsX80, w ∈ wsX8_isOpen := fun _ h => List.mem_cons_of_mem _ (List.mem_append_right _ h)
theorem kX8_isOpen_2 : Cond.fieldLink RX8 67 "SongOfficeModel" "mended" "[Z" ∈ wsX8_isOpen := List.mem_of_getElem? (i := 2) rfl
theorem kX8_isOpen_1 : Cond.fieldLink RX8 64 "SongOfficeModel" "torn" "[I" ∈ wsX8_isOpen := List.mem_of_getElem? (i := 1) rfl
abbrev rmX8_isOpen : Room := { frames := 0, cells := 0, slots := 0, locals := 0 }
set_option maxHeartbeats 4000000 in
set_option maxRecDepth 100000 in
theorem c_X8_isOpen (l : Launch) (dC : Nat → ClassId) (dI : Nat → Nat → Nat) (a : Nat → Nat) (cy : Nat → ClassId) (sz : Nat) (I : TI) (J : TJ) (S : TS) (L : TL) (p0 : Int32) (p1 : Int32) (Φ : Int32 → TI → TJ → TS → TL → Prop) (h : wp_X8_isOpen I J S L p0 p1 Φ) : Met l yX8_isOpen wsX8_isOpen rmX8_isOpen (va_Pc [.ref (a 0), .int p0, .int p1] (gpre dC dI (wM a cy I J S L) (tyM cy) sz)) (gQi dC dI (wM a cy) (tyM cy) (va_A (wM a cy I J S L) sz) Φ) 0 0 (va_A (wM a cy I J S L) sz) := by
  refine Met.ofW (cc := cX8_isOpen) (maxL := 3) (ret := (some .boolean)) (by decide) rfl ?_
  intro p e s m args below meth c s₁ B hml hv
  obtain ⟨hargs, hsz, hP, hK, hD0, hN⟩ := hv
  have hx := B.exec
  have hb := B.bytes
  have hr := B.returns
  have hts := atoms_spec (ws := wsX8_isOpen) B.pre
  have hown : s.vm.findClass RX8 = some m.cls := findClass_of_methodNamed B.named
  have hlocks := B.notSynchronized
  subst hsz
  have hD := hD0.self (sz := s.heap.size)
  generalize hAe : va_A (wM a cy I J S L) s.heap.size = A at hD ⊢
  have hA : ∀ q : Nat, s.heap.size ≤ q → A q := fun q h => by rw [← hAe]; exact Or.inr h
  obtain ⟨H, hH⟩ : ∃ z : Heap, z = s.heap := ⟨_, rfl⟩
  rw [← hH] at hP
  have hS : va_S A s.heap H [] := by rw [hH]; exact va_S.rf
  have hl := lv_entry ([.ref (a 0), .int p0, .int p1]) (n := 3) (Nat.le_of_ble_eq_true rfl)
  have hE : entryFrame m args 3 = F0 m 0 ((lg_sl ([.ref (a 0), .int p0, .int p1]) ++ List.replicate (3 - (lg_sl ([.ref (a 0), .int p0, .int p1])).length) Slot.unset).toArray) [] := by rw [hargs]; exact lg_entry_eq m _ _
  rw [hE, ← hH]
  clear hE
  generalize (lg_sl ([.ref (a 0), .int p0, .int p1]) ++ List.replicate (3 - (lg_sl ([.ref (a 0), .int p0, .int p1])).length) Slot.unset).toArray = ls at hl ⊢
  have hl : lv_has ls 3 [(0, .ref (a 0)), (1, .int p0), (2, .int p1)] := hl
  unfold wp_X8_isOpen at h
  refine lv_iload_n hx hb dX8_isOpen_0 rfl (lv_at hl 2 rfl) ?_
  refine lv_aload_n hx hb dX8_isOpen_1 rfl (lv_at hl 0 rfl) ?_
  refine va_get (D := (dC, dI)) (ci := 8) (v := .ref (a 19)) (C := RX8) (T := TX8) (N := 47) hx hb hts nX8_isOpen_X8 hown hK hP 0 (wM_at0 _ _ _ _ _ _) rfl 20 (by decide) (hts (.fieldLink RX8 64 "SongOfficeModel" "torn" "[I") kX8_isOpen_1) (fun _ h9 => h9) rfl dX8_isOpen_2 ?_
  refine lv_iload_n hx hb dX8_isOpen_5 rfl (lv_at hl 1 rfl) ?_
  obtain ⟨hi, h⟩ := h
  refine va_iald hx hb hK hP 19 18 (wM_at19 _ _ _ _ _ _) rfl hi dX8_isOpen_6 ?_
  obtain ⟨B_1, hB_1, h⟩ := h
  have jB_1 : ∀ (I_2 : TI) (J_3 : TJ) (S_4 : TS) (L_5 : TL) (s_6 : Int32) (H : Heap) (locs : List Loc) (ls : Array Slot), va_P (dC, dI) vwCl (wM a cy I_2 J_3 S_4 L_5) H → va_D A (wM a cy I_2 J_3 S_4 L_5) → va_S A s.heap H locs → lv_has ls 3 [] → B_1 I_2 J_3 S_4 L_5 s_6 → W p l e (headSpec wsX8_isOpen rmX8_isOpen).room s m args below meth c H locs 0 0 (MQ below (gQi dC dI (wM a cy) (tyM cy) A Φ) args s 0 0 A) (F0 m 29 ls [.int s_6]) := by
    intro I_2 J_3 S_4 L_5 s_6 H locs ls hP hD hS hl h
    have h := hB_1 I_2 J_3 S_4 L_5 s_6 h
    exact grz hx hb hr hlocks hP hK hD hS h dX8_isOpen_29
  obtain ⟨B_7, hB_7, h⟩ := h
  have jB_7 : ∀ (I_8 : TI) (J_9 : TJ) (S_10 : TS) (L_11 : TL) (H : Heap) (locs : List Loc) (ls : Array Slot), va_P (dC, dI) vwCl (wM a cy I_8 J_9 S_10 L_11) H → va_D A (wM a cy I_8 J_9 S_10 L_11) → va_S A s.heap H locs → lv_has ls 3 [] → B_7 I_8 J_9 S_10 L_11 → W p l e (headSpec wsX8_isOpen rmX8_isOpen).room s m args below meth c H locs 0 0 (MQ below (gQi dC dI (wM a cy) (tyM cy) A Φ) args s 0 0 A) (F0 m 28 ls []) := by
    intro I_8 J_9 S_10 L_11 H locs ls hP hD hS hl h
    have h := hB_7 I_8 J_9 S_10 L_11 h
    refine lv_iconst (v := 0) hx hb dX8_isOpen_28 (by decide) ?_
    exact jB_1 I_8 J_9 S_10 L_11 (0 : Int32) _ _ _ hP hD hS (lv_sub hl [] rfl) h
  refine lv_icmp_lt (tgt := 28) hx hb dX8_isOpen_7 (by decide) (fun hc => ?_) (fun hc => ?_)
  · have h := h.1 hc
    exact jB_7 I J S L _ _ _ hP hD hS (lv_sub hl [] rfl) h
  · have h := h.2 hc
    refine lv_aload_n hx hb dX8_isOpen_10 rfl (lv_at hl 0 rfl) ?_
    refine va_get (D := (dC, dI)) (ci := 8) (v := .ref (a 20)) (C := RX8) (T := TX8) (N := 47) hx hb hts nX8_isOpen_X8 hown hK hP 0 (wM_at0 _ _ _ _ _ _) rfl 21 (by decide) (hts (.fieldLink RX8 67 "SongOfficeModel" "mended" "[Z") kX8_isOpen_2) (fun _ h9 => h9) rfl dX8_isOpen_11 ?_
    refine lv_bipush (v := 12) hx hb dX8_isOpen_14 (by decide) ?_
    refine lv_iload_n hx hb dX8_isOpen_16 rfl (lv_at hl 1 rfl) ?_
    refine lv_imul hx hb dX8_isOpen_17 ?_
    refine lv_iload_n hx hb dX8_isOpen_18 rfl (lv_at hl 2 rfl) ?_
    refine lv_iadd hx hb dX8_isOpen_19 ?_
    obtain ⟨hi, h⟩ := h
    refine va_zald hx hb hK hP 20 19 (wM_at20 _ _ _ _ _ _) rfl hi dX8_isOpen_20 ?_
    refine lv_if_ne (tgt := 28) hx hb dX8_isOpen_21 (by decide) (fun hc => ?_) (fun hc => ?_)
    · have h := h.1 hc
      exact jB_7 I J S L _ _ _ hP hD hS (lv_sub hl [] rfl) h
    · have h := h.2 hc
      refine lv_iconst (v := 1) hx hb dX8_isOpen_24 (by decide) ?_
      refine lv_goto (tgt := 29) hx hb dX8_isOpen_25 (by decide) ?_
      exact jB_1 I J S L (1 : Int32) _ _ _ hP hD hS (lv_sub hl [] rfl) h
def wp_X8_told (I : TI) (J : TJ) (S : TS) (L : TL) (p0 : Int32) (p1 : Int32) (p2 : Int32) (Φ : Int32 → TI → TJ → TS → TL → Prop) : Prop := ∃ B_1 : TI → TJ → TS → TL → Prop, (∀ (I_2 : TI) (J_3 : TJ) (S_4 : TS) (L_5 : TL), B_1 I_2 J_3 S_4 L_5 → (Φ (-1 : Int32) I_2 J_3 S_4 L_5)) ∧ (((p0 < 0) → (B_1 I J S L)) ∧ ((¬ p0 < 0) → ((((S 0) < p0) → (B_1 I J S L)) ∧ ((¬ (S 0) < p0) → ((((40 : Int32) ≤ p0) → (B_1 I J S L)) ∧ ((¬ (40 : Int32) ≤ p0) → (wp_X8_isWork I J S L p1 (fun (r_10 : Int32) (I_6 : TI) (J_7 : TJ) (S_8 : TS) (L_9 : TL) => (((¬ r_10 = 0) → (∀ x_11 : Int32, x_11 = (((12 : Int32) * p0) + p1) → (((p2 = nI 0) → ((vp_in x_11 480) ∧ (Φ (I_6 13 (x_11).toNatClampNeg) I_6 J_7 S_8 L_9))) ∧ ((p2 = nI 1) → ((vp_in x_11 480) ∧ (Φ (I_6 14 (x_11).toNatClampNeg) I_6 J_7 S_8 L_9))) ∧ ((p2 = nI 2) → ((vp_in x_11 480) ∧ (Φ (I_6 15 (x_11).toNatClampNeg) I_6 J_7 S_8 L_9))) ∧ ((p2 = nI 3) → ((vp_in x_11 480) ∧ (wp_X8_isOpen I_6 J_7 S_8 L_9 p0 p1 (fun (r_16 : Int32) (I_12 : TI) (J_13 : TJ) (S_14 : TS) (L_15 : TL) => (∃ B_17 : TI → TJ → TS → TL → Int32 → Int32 → Prop, (∀ (I_18 : TI) (J_19 : TJ) (S_20 : TS) (L_21 : TL) (s_22 : Int32) (s_23 : Int32), B_17 I_18 J_19 S_20 L_21 s_22 s_23 → (Φ (s_22 + s_23) I_18 J_19 S_20 L_21)) ∧ (((r_16 = 0) → (B_17 I_12 J_13 S_14 L_15 (I_6 16 (x_11).toNatClampNeg) (0 : Int32))) ∧ ((¬ r_16 = 0) → (B_17 I_12 J_13 S_14 L_15 (I_6 16 (x_11).toNatClampNeg) (4 : Int32))))))))) ∧ ((p2 = nI 4) → (∃ V_24 : Nat → TI → TJ → TS → TL → Int32 → Prop, (∃ n_26, V_24 n_26 I_6 J_7 S_8 L_9 (0 : Int32)) ∧ ∀ (n_25 : Nat) (I_27 : TI) (J_28 : TJ) (S_29 : TS) (L_30 : TL) (x_31 : Int32), V_24 n_25 I_27 J_28 S_29 L_30 x_31 → ((vp_in p0 40) ∧ ((((I_27 18 (p0).toNatClampNeg) ≤ x_31) → (Φ (-1 : Int32) I_27 J_28 S_29 L_30)) ∧ ((¬ (I_27 18 (p0).toNatClampNeg) ≤ x_31) → ((vp_in (((12 : Int32) * p0) + x_31) 480) ∧ (((¬ (I_27 17 ((((12 : Int32) * p0) + x_31)).toNatClampNeg) = p1) → (∀ x_32 : Int32, x_32 = x_31 + 1 → (∃ n_33, n_33 < n_25 ∧ V_24 n_33 I_27 J_28 S_29 L_30 x_32))) ∧ (((I_27 17 ((((12 : Int32) * p0) + x_31)).toNatClampNeg) = p1) → (Φ x_31 I_27 J_28 S_29 L_30))))))))) ∧ ((∀ k, k < 5 → ¬ p2 = nI k) → (Φ (-1 : Int32) I_6 J_7 S_8 L_9))))) ∧ ((r_10 = 0) → (B_1 I_6 J_7 S_8 L_9)))))))))))
theorem nX8_told_X8 : ∀ w ∈ wsX80, w ∈ wsX8_told := fun _ h => List.mem_cons_of_mem _ (List.mem_append_right _ h)
theorem kX8_told_2 : Cond.fieldLink RX8 46 "SongOfficeModel" "first" "[I" ∈ wsX8_told := List.mem_of_getElem? (i := 2) rfl
theorem kX8_told_3 : Cond.fieldLink RX8 49 "SongOfficeModel" "second" "[I" ∈ wsX8_told := List.mem_of_getElem? (i := 3) rfl
theorem kX8_told_4 : Cond.fieldLink RX8 52 "SongOfficeModel" "third" "[I" ∈ wsX8_told := List.mem_of_getElem? (i := 4) rfl
theorem kX8_told_5 : Cond.fieldLink RX8 55 "SongOfficeModel" "how" "[I" ∈ wsX8_told := List.mem_of_getElem? (i := 5) rfl
theorem kX8_told_7 : Cond.fieldLink RX8 58 "SongOfficeModel" "order" "[I" ∈ wsX8_told := List.mem_of_getElem? (i := 7) rfl
theorem kX8_told_6 : Cond.fieldLink RX8 61 "SongOfficeModel" "orderMany" "[I" ∈ wsX8_told := List.mem_of_getElem? (i := 6) rfl
theorem kX8_told_1 : Cond.fieldLink RX8 136 "SongOfficeModel" "term" "I" ∈ wsX8_told := List.mem_of_getElem? (i := 1) rfl
abbrev rmX8_told : Room := { frames := 1, cells := 0, slots := 0, locals := 22 }
set_option maxHeartbeats 4000000 in
set_option maxRecDepth 100000 in
theorem c_X8_told (l : Launch) (dC : Nat → ClassId) (dI : Nat → Nat → Nat) (a : Nat → Nat) (cy : Nat → ClassId) (sz : Nat) (I : TI) (J : TJ) (S : TS) (L : TL) (p0 : Int32) (p1 : Int32) (p2 : Int32) (Φ : Int32 → TI → TJ → TS → TL → Prop) (h : wp_X8_told I J S L p0 p1 p2 Φ) : Met l yX8_told wsX8_told rmX8_told (va_Pc [.ref (a 0), .int p0, .int p1, .int p2] (gpre dC dI (wM a cy I J S L) (tyM cy) sz)) (gQi dC dI (wM a cy) (tyM cy) (va_A (wM a cy I J S L) sz) Φ) 0 0 (va_A (wM a cy I J S L) sz) := by
  refine Met.ofW (cc := cX8_told) (maxL := 6) (ret := (some .int)) (by decide) rfl ?_
  intro p e s m args below meth c s₁ B hml hv
  obtain ⟨hargs, hsz, hP, hK, hD0, hN⟩ := hv
  have hx := B.exec
  have hb := B.bytes
  have hr := B.returns
  have hts := atoms_spec (ws := wsX8_told) B.pre
  have hown : s.vm.findClass RX8 = some m.cls := findClass_of_methodNamed B.named
  have hlocks := B.notSynchronized
  subst hsz
  have hD := hD0.self (sz := s.heap.size)
  generalize hAe : va_A (wM a cy I J S L) s.heap.size = A at hD ⊢
  have hA : ∀ q : Nat, s.heap.size ≤ q → A q := fun q h => by rw [← hAe]; exact Or.inr h
  obtain ⟨H, hH⟩ : ∃ z : Heap, z = s.heap := ⟨_, rfl⟩
  rw [← hH] at hP
  have hS : va_S A s.heap H [] := by rw [hH]; exact va_S.rf
  have hl := lv_entry ([.ref (a 0), .int p0, .int p1, .int p2]) (n := 6) (Nat.le_of_ble_eq_true rfl)
  have hE : entryFrame m args 6 = F0 m 0 ((lg_sl ([.ref (a 0), .int p0, .int p1, .int p2]) ++ List.replicate (6 - (lg_sl ([.ref (a 0), .int p0, .int p1, .int p2])).length) Slot.unset).toArray) [] := by rw [hargs]; exact lg_entry_eq m _ _
  rw [hE, ← hH]
  clear hE
  generalize (lg_sl ([.ref (a 0), .int p0, .int p1, .int p2]) ++ List.replicate (6 - (lg_sl ([.ref (a 0), .int p0, .int p1, .int p2])).length) Slot.unset).toArray = ls at hl ⊢
  have hl : lv_has ls 6 [(0, .ref (a 0)), (1, .int p0), (2, .int p1), (3, .int p2)] := hl
  unfold wp_X8_told at h
  refine lv_iload_n hx hb dX8_told_0 rfl (lv_at hl 1 rfl) ?_
  obtain ⟨B_1, hB_1, h⟩ := h
  have jB_1 : ∀ (I_2 : TI) (J_3 : TJ) (S_4 : TS) (L_5 : TL) (H : Heap) (locs : List Loc) (ls : Array Slot), va_P (dC, dI) vwCl (wM a cy I_2 J_3 S_4 L_5) H → va_D A (wM a cy I_2 J_3 S_4 L_5) → va_S A s.heap H locs → lv_has ls 6 [] → B_1 I_2 J_3 S_4 L_5 → W p l e (headSpec wsX8_told rmX8_told).room s m args below meth c H locs 0 0 (MQ below (gQi dC dI (wM a cy) (tyM cy) A Φ) args s 0 0 A) (F0 m 25 ls []) := by
    intro I_2 J_3 S_4 L_5 H locs ls hP hD hS hl h
    have h := hB_1 I_2 J_3 S_4 L_5 h
    refine lv_iconst (v := -1) hx hb dX8_told_25 (by decide) ?_
    exact gri hx hb hr hlocks hP hK hD hS h dX8_told_26
  refine lv_if_lt (tgt := 25) hx hb dX8_told_1 (by decide) (fun hc => ?_) (fun hc => ?_)
  · have h := h.1 hc
    exact jB_1 I J S L _ _ _ hP hD hS (lv_sub hl [] rfl) h
  · have h := h.2 hc
    refine lv_iload_n hx hb dX8_told_4 rfl (lv_at hl 1 rfl) ?_
    refine lv_aload_n hx hb dX8_told_5 rfl (lv_at hl 0 rfl) ?_
    refine va_get (D := (dC, dI)) (ci := 8) (v := .int (S 0)) (C := RX8) (T := TX8) (N := 47) hx hb hts nX8_told_X8 hown hK hP 0 (wM_at0 _ _ _ _ _ _) rfl 0 (by decide) (hts (.fieldLink RX8 136 "SongOfficeModel" "term" "I") kX8_told_1) (fun _ h9 => h9) rfl dX8_told_6 ?_
    refine lv_icmp_gt (tgt := 25) hx hb dX8_told_9 (by decide) (fun hc => ?_) (fun hc => ?_)
    · have h := h.1 hc
      exact jB_1 I J S L _ _ _ hP hD hS (lv_sub hl [] rfl) h
    · have h := h.2 hc
      refine lv_iload_n hx hb dX8_told_12 rfl (lv_at hl 1 rfl) ?_
      refine lv_bipush (v := 40) hx hb dX8_told_13 (by decide) ?_
      refine lv_icmp_ge (tgt := 25) hx hb dX8_told_15 (by decide) (fun hc => ?_) (fun hc => ?_)
      · have h := h.1 hc
        exact jB_1 I J S L _ _ _ hP hD hS (lv_sub hl [] rfl) h
      · have h := h.2 hc
        refine lv_iload_n hx hb dX8_told_18 rfl (lv_at hl 2 rfl) ?_
        refine gcalli (va_runS (As := [.int p1]) (rest := []) ⟨hx, hb, hml, hown, hts⟩ (c_X8_isWork l dC dI (wM a cy) (tyM cy) H.size I J S L p1 _ h) (va_cwS 1 hts gX8_told_X8_isWork rfl rfl rfl (by decide +kernel) ⟨(Nat.le_of_ble_eq_true rfl), (Nat.le_of_ble_eq_true rfl)⟩) (g_pS hP hK hD hN [.int p1]) rfl rfl hl.1 rfl (lv_room (Nat.le_of_ble_eq_true rfl)) dX8_told_19 ⟨(Nat.le_of_ble_eq_true rfl), (Nat.le_of_ble_eq_true rfl)⟩) hS hA hD (fun r_10 I_6 J_7 S_8 L_9 H locs hP hD hS h => ?_)
        refine lv_if_ne (tgt := 27) hx hb dX8_told_22 (by decide) (fun hc => ?_) (fun hc => ?_)
        · have h := h.1 hc
          refine lv_bipush (v := 12) hx hb dX8_told_27 (by decide) ?_
          refine lv_iload_n hx hb dX8_told_29 rfl (lv_at hl 1 rfl) ?_
          refine lv_imul hx hb dX8_told_30 ?_
          refine lv_iload_n hx hb dX8_told_31 rfl (lv_at hl 2 rfl) ?_
          refine lv_iadd hx hb dX8_told_32 ?_
          refine lv_topi (fun x_11 ex_11 => ?_)
          have h := h x_11 ex_11
          refine lv_istore (lv' := [(4, .int x_11), (0, .ref (a 0)), (1, .int p0), (2, .int p1), (3, .int p2)]) hx hb dX8_told_33 hl (by decide) rfl (fun ls hl => ?_)
          refine lv_iload_n hx hb dX8_told_35 rfl (lv_at hl 4 rfl) ?_
          by_cases hc0 : p2 = nI 0
          · have h := h.1 hc0
            refine lv_tableIn (off := 36) (tgt := 72) hx hb dX8_told_36 (by rw [hc0]; decide) (by rw [hc0]; decide) (by rw [hc0]; decide) (by decide) ?_
            refine lv_aload_n hx hb dX8_told_72 rfl (lv_at hl 1 rfl) ?_
            refine va_get (D := (dC, dI)) (ci := 8) (v := .ref (a 13)) (C := RX8) (T := TX8) (N := 47) hx hb hts nX8_told_X8 hown hK hP 0 (wM_at0 _ _ _ _ _ _) rfl 14 (by decide) (hts (.fieldLink RX8 46 "SongOfficeModel" "first" "[I") kX8_told_2) (fun _ h9 => h9) rfl dX8_told_73 ?_
            refine lv_iload hx hb dX8_told_76 (lv_at hl 0 rfl) ?_
            obtain ⟨hi, h⟩ := h
            refine va_iald hx hb hK hP 13 12 (wM_at13 _ _ _ _ _ _) rfl hi dX8_told_78 ?_
            exact gri hx hb hr hlocks hP hK hD hS h dX8_told_79
          by_cases hc1 : p2 = nI 1
          · have h := h.2.1 hc1
            refine lv_tableIn (off := 44) (tgt := 80) hx hb dX8_told_36 (by rw [hc1]; decide) (by rw [hc1]; decide) (by rw [hc1]; decide) (by decide) ?_
            refine lv_aload_n hx hb dX8_told_80 rfl (lv_at hl 1 rfl) ?_
            refine va_get (D := (dC, dI)) (ci := 8) (v := .ref (a 14)) (C := RX8) (T := TX8) (N := 47) hx hb hts nX8_told_X8 hown hK hP 0 (wM_at0 _ _ _ _ _ _) rfl 15 (by decide) (hts (.fieldLink RX8 49 "SongOfficeModel" "second" "[I") kX8_told_3) (fun _ h9 => h9) rfl dX8_told_81 ?_
            refine lv_iload hx hb dX8_told_84 (lv_at hl 0 rfl) ?_
            obtain ⟨hi, h⟩ := h
            refine va_iald hx hb hK hP 14 13 (wM_at14 _ _ _ _ _ _) rfl hi dX8_told_86 ?_
            exact gri hx hb hr hlocks hP hK hD hS h dX8_told_87
          by_cases hc2 : p2 = nI 2
          · have h := h.2.2.1 hc2
            refine lv_tableIn (off := 52) (tgt := 88) hx hb dX8_told_36 (by rw [hc2]; decide) (by rw [hc2]; decide) (by rw [hc2]; decide) (by decide) ?_
            refine lv_aload_n hx hb dX8_told_88 rfl (lv_at hl 1 rfl) ?_
            refine va_get (D := (dC, dI)) (ci := 8) (v := .ref (a 15)) (C := RX8) (T := TX8) (N := 47) hx hb hts nX8_told_X8 hown hK hP 0 (wM_at0 _ _ _ _ _ _) rfl 16 (by decide) (hts (.fieldLink RX8 52 "SongOfficeModel" "third" "[I") kX8_told_4) (fun _ h9 => h9) rfl dX8_told_89 ?_
            refine lv_iload hx hb dX8_told_92 (lv_at hl 0 rfl) ?_
            obtain ⟨hi, h⟩ := h
            refine va_iald hx hb hK hP 15 14 (wM_at15 _ _ _ _ _ _) rfl hi dX8_told_94 ?_
            exact gri hx hb hr hlocks hP hK hD hS h dX8_told_95
          by_cases hc3 : p2 = nI 3
          · have h := h.2.2.2.1 hc3
            refine lv_tableIn (off := 60) (tgt := 96) hx hb dX8_told_36 (by rw [hc3]; decide) (by rw [hc3]; decide) (by rw [hc3]; decide) (by decide) ?_
            refine lv_aload_n hx hb dX8_told_96 rfl (lv_at hl 1 rfl) ?_
            refine va_get (D := (dC, dI)) (ci := 8) (v := .ref (a 16)) (C := RX8) (T := TX8) (N := 47) hx hb hts nX8_told_X8 hown hK hP 0 (wM_at0 _ _ _ _ _ _) rfl 17 (by decide) (hts (.fieldLink RX8 55 "SongOfficeModel" "how" "[I") kX8_told_5) (fun _ h9 => h9) rfl dX8_told_97 ?_
            refine lv_iload hx hb dX8_told_100 (lv_at hl 0 rfl) ?_
            obtain ⟨hi, h⟩ := h
            refine va_iald hx hb hK hP 16 15 (wM_at16 _ _ _ _ _ _) rfl hi dX8_told_102 ?_
            refine lv_aload_n hx hb dX8_told_103 rfl (lv_at hl 1 rfl) ?_
            refine lv_iload_n hx hb dX8_told_104 rfl (lv_at hl 2 rfl) ?_
            refine lv_iload_n hx hb dX8_told_105 rfl (lv_at hl 3 rfl) ?_
            refine gcalli (va_runV (As := [.int p0, .int p1]) (rest := [.int (I_6 16 (x_11).toNatClampNeg)]) ⟨hx, hb, hml, hown, hts⟩ (c_X8_isOpen l dC dI a cy H.size I_6 J_7 S_8 L_9 p0 p1 _ h) (cwV 2 hts gX8_told_X8_isOpen rfl rfl rfl (by decide +kernel) ⟨(Nat.le_of_ble_eq_true rfl), (Nat.le_of_ble_eq_true rfl)⟩) (g_pV hP hK hD hN (va_recv hK hP (ci := 8) (q0 := 0) rfl (wM_at0 _ _ _ _ _ _)) [.int p0, .int p1]) rfl rfl hl.1 rfl (lv_room (Nat.le_of_ble_eq_true rfl)) dX8_told_106 ⟨(Nat.le_of_ble_eq_true rfl), (Nat.le_of_ble_eq_true rfl)⟩) hS hA hD (fun r_16 I_12 J_13 S_14 L_15 H locs hP hD hS h => ?_)
            obtain ⟨B_17, hB_17, h⟩ := h
            have jB_17 : ∀ (I_18 : TI) (J_19 : TJ) (S_20 : TS) (L_21 : TL) (s_22 : Int32) (s_23 : Int32) (H : Heap) (locs : List Loc) (ls : Array Slot), va_P (dC, dI) vwCl (wM a cy I_18 J_19 S_20 L_21) H → va_D A (wM a cy I_18 J_19 S_20 L_21) → va_S A s.heap H locs → lv_has ls 6 [] → B_17 I_18 J_19 S_20 L_21 s_22 s_23 → W p l e (headSpec wsX8_told rmX8_told).room s m args below meth c H locs 0 0 (MQ below (gQi dC dI (wM a cy) (tyM cy) A Φ) args s 0 0 A) (F0 m 117 ls [.int s_23, .int s_22]) := by
              intro I_18 J_19 S_20 L_21 s_22 s_23 H locs ls hP hD hS hl h
              have h := hB_17 I_18 J_19 S_20 L_21 s_22 s_23 h
              refine lv_iadd hx hb dX8_told_117 ?_
              exact gri hx hb hr hlocks hP hK hD hS h dX8_told_118
            refine lv_if_eq (tgt := 116) hx hb dX8_told_109 (by decide) (fun hc => ?_) (fun hc => ?_)
            · have h := h.1 hc
              refine lv_iconst (v := 0) hx hb dX8_told_116 (by decide) ?_
              exact jB_17 I_12 J_13 S_14 L_15 (I_6 16 (x_11).toNatClampNeg) (0 : Int32) _ _ _ hP hD hS (lv_sub hl [] rfl) h
            · have h := h.2 hc
              refine lv_iconst (v := 4) hx hb dX8_told_112 (by decide) ?_
              refine lv_goto (tgt := 117) hx hb dX8_told_113 (by decide) ?_
              exact jB_17 I_12 J_13 S_14 L_15 (I_6 16 (x_11).toNatClampNeg) (4 : Int32) _ _ _ hP hD hS (lv_sub hl [] rfl) h
          by_cases hc4 : p2 = nI 4
          · have h := h.2.2.2.2.1 hc4
            refine lv_tableIn (off := 83) (tgt := 119) hx hb dX8_told_36 (by rw [hc4]; decide) (by rw [hc4]; decide) (by rw [hc4]; decide) (by decide) ?_
            refine lv_iconst (v := 0) hx hb dX8_told_119 (by decide) ?_
            refine lv_istore (lv' := [(5, .int (0 : Int32)), (4, .int x_11), (0, .ref (a 0)), (1, .int p0), (2, .int p1), (3, .int p2)]) hx hb dX8_told_120 hl (by decide) rfl (fun ls hl => ?_)
            obtain ⟨V_24, ⟨n_26, h0V_24⟩, hV_24⟩ := h
            have lV_24 : ∀ (n_25 : Nat) (I_27 : TI) (J_28 : TJ) (S_29 : TS) (L_30 : TL) (x_31 : Int32) (H : Heap) (locs : List Loc) (ls : Array Slot), va_P (dC, dI) vwCl (wM a cy I_27 J_28 S_29 L_30) H → va_D A (wM a cy I_27 J_28 S_29 L_30) → va_S A s.heap H locs → lv_has ls 6 [(0, .ref (a 0)), (1, .int p0), (2, .int p1), (5, .int x_31)] → V_24 n_25 I_27 J_28 S_29 L_30 x_31 → W p l e (headSpec wsX8_told rmX8_told).room s m args below meth c H locs 0 0 (MQ below (gQi dC dI (wM a cy) (tyM cy) A Φ) args s 0 0 A) (F0 m 122 ls []) := by
              intro n_25
              induction n_25 using Nat.strongRecOn with
              | ind n_25 ihV_24 =>
                  intro I_27 J_28 S_29 L_30 x_31 H locs ls hP hD hS hl h
                  have h := hV_24 n_25 I_27 J_28 S_29 L_30 x_31 h
                  refine lv_iload hx hb dX8_told_122 (lv_at hl 3 rfl) ?_
                  refine lv_aload_n hx hb dX8_told_124 rfl (lv_at hl 0 rfl) ?_
                  refine va_get (D := (dC, dI)) (ci := 8) (v := .ref (a 18)) (C := RX8) (T := TX8) (N := 47) hx hb hts nX8_told_X8 hown hK hP 0 (wM_at0 _ _ _ _ _ _) rfl 19 (by decide) (hts (.fieldLink RX8 61 "SongOfficeModel" "orderMany" "[I") kX8_told_6) (fun _ h9 => h9) rfl dX8_told_125 ?_
                  refine lv_iload_n hx hb dX8_told_128 rfl (lv_at hl 1 rfl) ?_
                  obtain ⟨hi, h⟩ := h
                  refine va_iald hx hb hK hP 18 17 (wM_at18 _ _ _ _ _ _) rfl hi dX8_told_129 ?_
                  refine lv_icmp_ge (tgt := 158) hx hb dX8_told_130 (by decide) (fun hc => ?_) (fun hc => ?_)
                  · have h := h.1 hc
                    refine lv_iconst (v := -1) hx hb dX8_told_158 (by decide) ?_
                    exact gri hx hb hr hlocks hP hK hD hS h dX8_told_159
                  · have h := h.2 hc
                    refine lv_aload_n hx hb dX8_told_133 rfl (lv_at hl 0 rfl) ?_
                    refine va_get (D := (dC, dI)) (ci := 8) (v := .ref (a 17)) (C := RX8) (T := TX8) (N := 47) hx hb hts nX8_told_X8 hown hK hP 0 (wM_at0 _ _ _ _ _ _) rfl 18 (by decide) (hts (.fieldLink RX8 58 "SongOfficeModel" "order" "[I") kX8_told_7) (fun _ h9 => h9) rfl dX8_told_134 ?_
                    refine lv_bipush (v := 12) hx hb dX8_told_137 (by decide) ?_
                    refine lv_iload_n hx hb dX8_told_139 rfl (lv_at hl 1 rfl) ?_
                    refine lv_imul hx hb dX8_told_140 ?_
                    refine lv_iload hx hb dX8_told_141 (lv_at hl 3 rfl) ?_
                    refine lv_iadd hx hb dX8_told_143 ?_
                    obtain ⟨hi, h⟩ := h
                    refine va_iald hx hb hK hP 17 16 (wM_at17 _ _ _ _ _ _) rfl hi dX8_told_144 ?_
                    refine lv_iload_n hx hb dX8_told_145 rfl (lv_at hl 2 rfl) ?_
                    refine lv_icmp_ne (tgt := 152) hx hb dX8_told_146 (by decide) (fun hc => ?_) (fun hc => ?_)
                    · have h := h.1 hc
                      obtain ⟨x_32, ex_32⟩ : ∃ z : Int32, z = x_31 + 1 := ⟨_, rfl⟩
                      have h := h x_32 ex_32
                      refine lv_iinc (v := x_32) (lv' := [(5, .int x_32), (0, .ref (a 0)), (1, .int p0), (2, .int p1)]) hx hb dX8_told_152 hl (k := 3) rfl (by rw [ex_32]; rfl) (by decide) rfl (fun ls hl => ?_)
                      refine lv_goto (tgt := 122) hx hb dX8_told_155 (by decide) ?_
                      obtain ⟨n_33, hn2, h⟩ := h
                      exact ihV_24 n_33 hn2 I_27 J_28 S_29 L_30 x_32 _ _ _ hP hD hS (lv_sub hl [1, 2, 3, 0] rfl) h
                    · have h := h.2 hc
                      refine lv_iload hx hb dX8_told_149 (lv_at hl 3 rfl) ?_
                      exact gri hx hb hr hlocks hP hK hD hS h dX8_told_151
            exact lV_24 n_26 I_6 J_7 S_8 L_9 (0 : Int32) _ _ _ hP hD hS (lv_sub hl [2, 3, 4, 0] rfl) h0V_24
          have hno : ∀ k, k < 5 → ¬ p2 = nI k := fun k hk => by rcases (show k = 0 ∨ k = 1 ∨ k = 2 ∨ k = 3 ∨ k = 4 by omega) with rfl | rfl | rfl | rfl | rfl <;> assumption
          have h := h.2.2.2.2.2 hno
          refine lv_tableOut (tgt := 160) hx hb dX8_told_36 (sw_out 5 (by decide) hno) (by decide) ?_
          refine lv_iconst (v := -1) hx hb dX8_told_160 (by decide) ?_
          exact gri hx hb hr hlocks hP hK hD hS h dX8_told_161
        · have h := h.2 hc
          exact jB_1 I_6 J_7 S_8 L_9 _ _ _ hP hD hS (lv_sub hl [] rfl) h
