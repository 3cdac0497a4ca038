def wp_X8_pays (I : TI) (J : TJ) (S : TS) (L : TL) (p0 : Int32) (p1 : Int32) (p2 : Int32) (Φ : TI → TJ → TS → TL → Prop) : Prop := ∀ x_1 : Int32, x_1 = (((12 : Int32) * p0) + p2) → ((vp_in x_1 24) ∧ (∃ B_2 : TI → TJ → TS → TL → Int32 → Int32 → Int32 → Int32 → Prop, (∀ (I_3 : TI) (J_4 : TJ) (S_5 : TS) (L_6 : TL) (x_7 : Int32) (x_8 : Int32) (x_9 : Int32) (x_10 : Int32), B_2 I_3 J_4 S_5 L_6 x_7 x_8 x_9 x_10 → ((vp_in x_10 24) ∧ (∃ B_11 : TI → TJ → TS → TL → Int32 → Int32 → Int32 → Int32 → Int32 → Prop, (∀ (I_12 : TI) (J_13 : TJ) (S_14 : TS) (L_15 : TL) (x_16 : Int32) (x_17 : Int32) (x_18 : Int32) (x_19 : Int32) (s_20 : Int32), B_11 I_12 J_13 S_14 L_15 x_16 x_17 x_18 x_19 s_20 → (wp_X8_dueAt I_12 J_13 S_14 L_15 x_16 x_18 x_17 (fun (r_25 : Int32) (I_21 : TI) (J_22 : TJ) (S_23 : TS) (L_24 : TL) => ((vp_in r_25 960) ∧ ∀ I_26 : TI, I_26 = va_up I_21 26 (upd (I_21 26) (r_25).toNatClampNeg s_20) → ((vp_in x_19 24) ∧ ((vp_in x_19 24) ∧ ∀ J_27 : TJ, J_27 = va_up J_22 21 (vp_updL (J_22 21) (x_19).toNatClampNeg ((J_22 21 (x_19).toNatClampNeg) - (((s_20).toInt64) * (1000000 : Int64)))) → (Φ I_26 J_27 S_23 L_24))))))) ∧ (((0 ≤ (lg_cmp (J_4 21 (x_10).toNatClampNeg) (1000000 : Int64))) → ((vp_in x_10 24) ∧ (B_11 I_3 J_4 S_5 L_6 x_7 x_8 x_9 x_10 ((((J_4 21 (x_10).toNatClampNeg) / (1000000 : Int64))).toInt32)))) ∧ ((¬ 0 ≤ (lg_cmp (J_4 21 (x_10).toNatClampNeg) (1000000 : Int64))) → (B_11 I_3 J_4 S_5 L_6 x_7 x_8 x_9 x_10 (0 : Int32))))))) ∧ ((((lg_cmp (J 22 (x_1).toNatClampNeg) (0 : Int64)) ≤ 0) → (B_2 I J S L p0 p1 p2 x_1)) ∧ ((¬ (lg_cmp (J 22 (x_1).toNatClampNeg) (0 : Int64)) ≤ 0) → ((vp_in x_1 24) ∧ ((((lg_cmp (J 21 (x_1).toNatClampNeg) (0 : Int64)) ≤ 0) → (B_2 I J S L p0 p1 p2 x_1)) ∧ ((¬ (lg_cmp (J 21 (x_1).toNatClampNeg) (0 : Int64)) ≤ 0) → ((vp_in x_1 24) ∧ ((vp_in x_1 24) ∧ (∃ B_28 : TI → TJ → TS → TL → Int32 → Int32 → Int32 → Int32 → Int64 → Prop, (∀ (I_29 : TI) (J_30 : TJ) (S_31 : TS) (L_32 : TL) (x_33 : Int32) (x_34 : Int32) (x_35 : Int32) (x_36 : Int32) (s_37 : Int64), B_28 I_29 J_30 S_31 L_32 x_33 x_34 x_35 x_36 s_37 → ((vp_in x_36 24) ∧ ((vp_in x_36 24) ∧ ∀ J_38 : TJ, J_38 = va_up J_30 21 (vp_updL (J_30 21) (x_36).toNatClampNeg ((J_30 21 (x_36).toNatClampNeg) - s_37)) → ((vp_in x_36 24) ∧ ((vp_in x_36 24) ∧ ∀ J_39 : TJ, J_39 = va_up J_38 22 (vp_updL (J_38 22) (x_36).toNatClampNeg ((J_38 22 (x_36).toNatClampNeg) - s_37)) → (B_2 I_29 J_39 S_31 L_32 x_33 x_34 x_35 x_36)))))) ∧ (((0 ≤ (lg_cmp (J 21 (x_1).toNatClampNeg) (J 22 (x_1).toNatClampNeg))) → ((vp_in x_1 24) ∧ (B_28 I J S L p0 p1 p2 x_1 (J 22 (x_1).toNatClampNeg)))) ∧ ((¬ 0 ≤ (lg_cmp (J 21 (x_1).toNatClampNeg) (J 22 (x_1).toNatClampNeg))) → ((vp_in x_1 24) ∧ (B_28 I J S L p0 p1 p2 x_1 (J 21 (x_1).toNatClampNeg)))))))))))))))
theorem kX8_pays_3 : Cond.constantLong RX8 194 (1000000) ∈ wsX8_pays := List.mem_of_getElem? (i := 3) rfl
theorem nX8_pays_X8 : ∀ w ∈ wsX80, w ∈ wsX8_pays := fun _ h => List.mem_cons_of_mem _ (List.mem_append_right _ h)
theorem kX8_pays_2 : Cond.fieldLink RX8 71 "SongOfficeModel" "purse" "[J" ∈ wsX8_pays := List.mem_of_getElem? (i := 2) rfl
theorem kX8_pays_4 : Cond.fieldLink RX8 87 "SongOfficeModel" "dues" "[I" ∈ wsX8_pays := List.mem_of_getElem? (i := 4) rfl
theorem kX8_pays_1 : Cond.fieldLink RX8 75 "SongOfficeModel" "debt" "[J" ∈ wsX8_pays := List.mem_of_getElem? (i := 1) rfl
abbrev rmX8_pays : Room := { frames := 1, cells := 0, slots := 0, locals := 22 }
set_option maxHeartbeats 4000000 in
set_option maxRecDepth 100000 in
theorem c_X8_pays (l : Launch) (dC : Nat → ClassId) (dI : Nat → Nat → Nat) (a : Nat → Nat) (cy : Nat → ClassId) (sz : Nat) (I : TI) (J : TJ) (S : TS) (L : TL) (p0 : Int32) (p1 : Int32) (p2 : Int32) (Φ : TI → TJ → TS → TL → Prop) (h : wp_X8_pays I J S L p0 p1 p2 Φ) : Met l yX8_pays wsX8_pays rmX8_pays (va_Pc [.ref (a 0), .int p0, .int p1, .int p2] (gpre dC dI (wM a cy I J S L) (tyM cy) sz)) (gQv dC dI (wM a cy) (tyM cy) (va_A (wM a cy I J S L) sz) Φ) 0 0 (va_A (wM a cy I J S L) sz) := by
  refine Met.ofW (cc := cX8_pays) (maxL := 7) (ret := none) (by decide) rfl ?_
  intro p e s m args below meth c s₁ B hml hv
  obtain ⟨hargs, hsz, hP, hK, hD0⟩ := hv
  have hx := B.exec
  have hb := B.bytes
  have hr := B.returns
  have hts := atoms_spec (ws := wsX8_pays) B.pre
  have hown : s.vm.findClass RX8 = some m.cls := findClass_of_methodNamed B.named
  have hlocks := B.notSynchronized
  subst hsz
  have hD := hD0.self (sz := s.heap.size)
  generalize hAe : va_A (wM a cy I J S L) s.heap.size = A at hD ⊢
  have hA : ∀ q : Nat, s.heap.size ≤ q → A q := fun q h => by rw [← hAe]; exact Or.inr h
  have hS : va_S A s.heap s.heap [] := va_S.rf
  have hl := lv_entry ([.ref (a 0), .int p0, .int p1, .int p2]) (n := 7) (Nat.le_of_ble_eq_true rfl)
  have hE : entryFrame m args 7 = F0 m 0 ((lg_sl ([.ref (a 0), .int p0, .int p1, .int p2]) ++ List.replicate (7 - (lg_sl ([.ref (a 0), .int p0, .int p1, .int p2])).length) Slot.unset).toArray) [] := by rw [hargs]; exact lg_entry_eq m _ _
  rw [hE]
  clear hE
  generalize (lg_sl ([.ref (a 0), .int p0, .int p1, .int p2]) ++ List.replicate (7 - (lg_sl ([.ref (a 0), .int p0, .int p1, .int p2])).length) Slot.unset).toArray = ls at hl ⊢
  have hl : lv_has ls 7 [(0, .ref (a 0)), (1, .int p0), (2, .int p1), (3, .int p2)] := hl
  unfold wp_X8_pays at h
  refine lv_bipush (v := 12) hx hb dX8_pays_0 (by decide) ?_
  refine lv_iload_n hx hb dX8_pays_2 rfl (lv_at hl 1 rfl) ?_
  refine lv_imul hx hb dX8_pays_3 ?_
  refine lv_iload_n hx hb dX8_pays_4 rfl (lv_at hl 3 rfl) ?_
  refine lv_iadd hx hb dX8_pays_5 ?_
  refine lv_topi (fun x_1 ex_1 => ?_)
  have h := h x_1 ex_1
  refine lv_istore (lv' := [(4, .int x_1), (0, .ref (a 0)), (1, .int p0), (2, .int p1), (3, .int p2)]) hx hb dX8_pays_6 hl (by decide) rfl (fun ls hl => ?_)
  refine lv_aload_n hx hb dX8_pays_8 rfl (lv_at hl 1 rfl) ?_
  refine va_get (D := (dC, dI)) (ci := 8) (v := .ref (a 22)) (C := RX8) (T := TX8) (N := 47) hx hb hts nX8_pays_X8 hown hK hP 0 (wM_at0 _ _ _ _ _ _) rfl 23 (by decide) (hts (.fieldLink RX8 75 "SongOfficeModel" "debt" "[J") kX8_pays_1) (fun _ h9 => h9) rfl dX8_pays_9 ?_
  refine lv_iload hx hb dX8_pays_12 (lv_at hl 0 rfl) ?_
  obtain ⟨hi, h⟩ := h
  refine va_lald hx hb hK hP 22 21 (wM_at22 _ _ _ _ _ _) rfl hi dX8_pays_14 ?_
  refine lv_lconst (v := 0) hx hb dX8_pays_15 (by decide) ?_
  refine W.lcmp hx hb dX8_pays_16 ?_
  obtain ⟨B_2, hB_2, h⟩ := h
  have jB_2 : ∀ (I_3 : TI) (J_4 : TJ) (S_5 : TS) (L_6 : TL) (x_7 : Int32) (x_8 : Int32) (x_9 : Int32) (x_10 : Int32) (H : Heap) (locs : List Loc) (ls : Array Slot), va_P (dC, dI) vwCl (wM a cy I_3 J_4 S_5 L_6) H → va_D A (wM a cy I_3 J_4 S_5 L_6) → va_S A s.heap H locs → lv_has ls 7 [(0, .ref (a 0)), (1, .int x_7), (2, .int x_8), (3, .int x_9), (4, .int x_10)] → B_2 I_3 J_4 S_5 L_6 x_7 x_8 x_9 x_10 → W p l e (headSpec wsX8_pays rmX8_pays).room s m args below meth c H locs 0 0 (MQ below (gQv dC dI (wM a cy) (tyM cy) A Φ) args s 0 0 A) (F0 m 103 ls []) := by
    intro I_3 J_4 S_5 L_6 x_7 x_8 x_9 x_10 H locs ls hP hD hS hl h
    have h := hB_2 I_3 J_4 S_5 L_6 x_7 x_8 x_9 x_10 h
    refine lv_aload_n hx hb dX8_pays_103 rfl (lv_at hl 0 rfl) ?_
    refine va_get (D := (dC, dI)) (ci := 8) (v := .ref (a 21)) (C := RX8) (T := TX8) (N := 47) hx hb hts nX8_pays_X8 hown hK hP 0 (wM_at0 _ _ _ _ _ _) rfl 22 (by decide) (hts (.fieldLink RX8 71 "SongOfficeModel" "purse" "[J") kX8_pays_2) (fun _ h9 => h9) rfl dX8_pays_104 ?_
    refine lv_iload hx hb dX8_pays_107 (lv_at hl 4 rfl) ?_
    obtain ⟨hi, h⟩ := h
    refine va_lald hx hb hK hP 21 20 (wM_at21 _ _ _ _ _ _) rfl hi dX8_pays_109 ?_
    refine lv_ldc2 (v := 1000000) hx hb hown (hts (.constantLong RX8 194 (1000000)) kX8_pays_3) dX8_pays_110 ?_
    refine W.lcmp hx hb dX8_pays_113 ?_
    obtain ⟨B_11, hB_11, h⟩ := h
    have jB_11 : ∀ (I_12 : TI) (J_13 : TJ) (S_14 : TS) (L_15 : TL) (x_16 : Int32) (x_17 : Int32) (x_18 : Int32) (x_19 : Int32) (s_20 : Int32) (H : Heap) (locs : List Loc) (ls : Array Slot), va_P (dC, dI) vwCl (wM a cy I_12 J_13 S_14 L_15) H → va_D A (wM a cy I_12 J_13 S_14 L_15) → va_S A s.heap H locs → lv_has ls 7 [(0, .ref (a 0)), (1, .int x_16), (2, .int x_17), (3, .int x_18), (4, .int x_19)] → B_11 I_12 J_13 S_14 L_15 x_16 x_17 x_18 x_19 s_20 → W p l e (headSpec wsX8_pays rmX8_pays).room s m args below meth c H locs 0 0 (MQ below (gQv dC dI (wM a cy) (tyM cy) A Φ) args s 0 0 A) (F0 m 133 ls [.int s_20]) := by
      intro I_12 J_13 S_14 L_15 x_16 x_17 x_18 x_19 s_20 H locs ls hP hD hS hl h
      have h := hB_11 I_12 J_13 S_14 L_15 x_16 x_17 x_18 x_19 s_20 h
      refine lv_istore (lv' := [(5, .int s_20), (0, .ref (a 0)), (1, .int x_16), (2, .int x_17), (3, .int x_18), (4, .int x_19)]) hx hb dX8_pays_133 hl (by decide) rfl (fun ls hl => ?_)
      refine lv_aload_n hx hb dX8_pays_135 rfl (lv_at hl 1 rfl) ?_
      refine va_get (D := (dC, dI)) (ci := 8) (v := .ref (a 26)) (C := RX8) (T := TX8) (N := 47) hx hb hts nX8_pays_X8 hown hK hP 0 (wM_at0 _ _ _ _ _ _) rfl 27 (by decide) (hts (.fieldLink RX8 87 "SongOfficeModel" "dues" "[I") kX8_pays_4) (fun _ h9 => h9) rfl dX8_pays_136 ?_
      refine lv_iload_n hx hb dX8_pays_139 rfl (lv_at hl 2 rfl) ?_
      refine lv_iload_n hx hb dX8_pays_140 rfl (lv_at hl 4 rfl) ?_
      refine lv_iload_n hx hb dX8_pays_141 rfl (lv_at hl 3 rfl) ?_
      refine gcalli (va_runS (As := [.int x_16, .int x_18, .int x_17]) (rest := [.ref (a 26)]) ⟨hx, hb, hml, hown, hts⟩ (c_X8_dueAt l dC dI (wM a cy) (tyM cy) H.size I_12 J_13 S_14 L_15 x_16 x_18 x_17 _ h) (va_cwS 3 hts gX8_pays_X8_dueAt rfl rfl rfl (by decide +kernel) ⟨(Nat.le_of_ble_eq_true rfl), (Nat.le_of_ble_eq_true rfl)⟩) (g_pS hP hK hD [.int x_16, .int x_18, .int x_17]) rfl rfl hl.1 rfl (lv_room (Nat.le_of_ble_eq_true rfl)) dX8_pays_142 ⟨(Nat.le_of_ble_eq_true rfl), (Nat.le_of_ble_eq_true rfl)⟩) hS hA hD (fun r_25 I_21 J_22 S_23 L_24 H locs hP hD hS h => ?_)
      refine lv_iload hx hb dX8_pays_145 (lv_at hl 0 rfl) ?_
      obtain ⟨hi, h⟩ := h
      obtain ⟨I_26, eI_26⟩ : ∃ z : TI, z = va_up I_21 26 (upd (I_21 26) (r_25).toNatClampNeg s_20) := ⟨_, rfl⟩
      have h := h I_26 eI_26
      refine va_iast hx hb hK hP hD hS 26 25 (wM_at26 _ _ _ _ _ _) rfl hi dX8_pays_147 (fun H locs hP hD hS => ?_)
      have hP : va_P (dC, dI) vwCl (wM a cy I_26 J_22 S_23 L_24) H := by rw [eI_26]; exact setP hP (wM_set26 _ _ _ _ _ _ _)
      have hD : va_D A (wM a cy I_26 J_22 S_23 L_24) := by rw [eI_26]; exact setD hD (wM_set26 _ _ _ _ _ _ _)
      refine lv_aload_n hx hb dX8_pays_148 rfl (lv_at hl 1 rfl) ?_
      refine va_get (D := (dC, dI)) (ci := 8) (v := .ref (a 21)) (C := RX8) (T := TX8) (N := 47) hx hb hts nX8_pays_X8 hown hK hP 0 (wM_at0 _ _ _ _ _ _) rfl 22 (by decide) (hts (.fieldLink RX8 71 "SongOfficeModel" "purse" "[J") kX8_pays_2) (fun _ h9 => h9) rfl dX8_pays_149 ?_
      refine lv_iload hx hb dX8_pays_152 (lv_at hl 5 rfl) ?_
      refine lv_aload_n hx hb dX8_pays_154 rfl (lv_at hl 1 rfl) ?_
      refine va_get (D := (dC, dI)) (ci := 8) (v := .ref (a 21)) (C := RX8) (T := TX8) (N := 47) hx hb hts nX8_pays_X8 hown hK hP 0 (wM_at0 _ _ _ _ _ _) rfl 22 (by decide) (hts (.fieldLink RX8 71 "SongOfficeModel" "purse" "[J") kX8_pays_2) (fun _ h9 => h9) rfl dX8_pays_155 ?_
      refine lv_iload hx hb dX8_pays_158 (lv_at hl 5 rfl) ?_
      obtain ⟨hi, h⟩ := h
      refine va_lald hx hb hK hP 21 20 (wM_at21 _ _ _ _ _ _) rfl hi dX8_pays_160 ?_
      refine lv_iload hx hb dX8_pays_161 (lv_at hl 0 rfl) ?_
      refine lv_i2l (v := ((s_20).toInt64)) hx hb dX8_pays_163 rfl ?_
      refine lv_ldc2 (v := 1000000) hx hb hown (hts (.constantLong RX8 194 (1000000)) kX8_pays_3) dX8_pays_164 ?_
      refine lv_lmul hx hb dX8_pays_167 ?_
      refine lv_lsub hx hb dX8_pays_168 ?_
      obtain ⟨hi, h⟩ := h
      obtain ⟨J_27, eJ_27⟩ : ∃ z : TJ, z = va_up J_22 21 (vp_updL (J_22 21) (x_19).toNatClampNeg ((J_22 21 (x_19).toNatClampNeg) - (((s_20).toInt64) * (1000000 : Int64)))) := ⟨_, rfl⟩
      have h := h J_27 eJ_27
      refine va_last hx hb hK hP hD hS 21 20 (wM_at21 _ _ _ _ _ _) rfl hi dX8_pays_169 (fun H locs hP hD hS => ?_)
      have hP : va_P (dC, dI) vwCl (wM a cy I_26 J_27 S_23 L_24) H := by rw [eJ_27]; exact setP hP (wM_set21 _ _ _ _ _ _ _)
      have hD : va_D A (wM a cy I_26 J_27 S_23 L_24) := by rw [eJ_27]; exact setD hD (wM_set21 _ _ _ _ _ _ _)
      exact grv hx hb hr hlocks hP hK hD hS h dX8_pays_170
    refine lv_if_ge (tgt := 121) hx hb dX8_pays_114 (by decide) (fun hc => ?_) (fun hc => ?_)
    · have h := h.1 hc
      refine lv_aload_n hx hb dX8_pays_121 rfl (lv_at hl 0 rfl) ?_
      refine va_get (D := (dC, dI)) (ci := 8) (v := .ref (a 21)) (C := RX8) (T := TX8) (N := 47) hx hb hts nX8_pays_X8 hown hK hP 0 (wM_at0 _ _ _ _ _ _) rfl 22 (by decide) (hts (.fieldLink RX8 71 "SongOfficeModel" "purse" "[J") kX8_pays_2) (fun _ h9 => h9) rfl dX8_pays_122 ?_
      refine lv_iload hx hb dX8_pays_125 (lv_at hl 4 rfl) ?_
      obtain ⟨hi, h⟩ := h
      refine va_lald hx hb hK hP 21 20 (wM_at21 _ _ _ _ _ _) rfl hi dX8_pays_127 ?_
      refine lv_ldc2 (v := 1000000) hx hb hown (hts (.constantLong RX8 194 (1000000)) kX8_pays_3) dX8_pays_128 ?_
      refine lv_ldiv hx hb dX8_pays_131 (by decide) ?_
      refine lv_l2i (v := ((((J_4 21 (x_10).toNatClampNeg) / (1000000 : Int64))).toInt32)) hx hb dX8_pays_132 rfl ?_
      exact jB_11 I_3 J_4 S_5 L_6 x_7 x_8 x_9 x_10 ((((J_4 21 (x_10).toNatClampNeg) / (1000000 : Int64))).toInt32) _ _ _ hP hD hS (lv_sub hl [0, 1, 2, 3, 4] rfl) h
    · have h := h.2 hc
      refine lv_iconst (v := 0) hx hb dX8_pays_117 (by decide) ?_
      refine lv_goto (tgt := 133) hx hb dX8_pays_118 (by decide) ?_
      exact jB_11 I_3 J_4 S_5 L_6 x_7 x_8 x_9 x_10 (0 : Int32) _ _ _ hP hD hS (lv_sub hl [0, 1, 2, 3, 4] rfl) h
  refine lv_if_le (tgt := 103) hx hb dX8_pays_17 (by decide) (fun hc => ?_) (fun hc => ?_)
  · have h := h.1 hc
    exact jB_2 I J S L p0 p1 p2 x_1 _ _ _ hP hD hS (lv_sub hl [1, 2, 3, 4, 0] rfl) h
  · have h := h.2 hc
    refine lv_aload_n hx hb dX8_pays_20 rfl (lv_at hl 1 rfl) ?_
    refine va_get (D := (dC, dI)) (ci := 8) (v := .ref (a 21)) (C := RX8) (T := TX8) (N := 47) hx hb hts nX8_pays_X8 hown hK hP 0 (wM_at0 _ _ _ _ _ _) rfl 22 (by decide) (hts (.fieldLink RX8 71 "SongOfficeModel" "purse" "[J") kX8_pays_2) (fun _ h9 => h9) rfl dX8_pays_21 ?_
    refine lv_iload hx hb dX8_pays_24 (lv_at hl 0 rfl) ?_
    obtain ⟨hi, h⟩ := h
    refine va_lald hx hb hK hP 21 20 (wM_at21 _ _ _ _ _ _) rfl hi dX8_pays_26 ?_
    refine lv_lconst (v := 0) hx hb dX8_pays_27 (by decide) ?_
    refine W.lcmp hx hb dX8_pays_28 ?_
    refine lv_if_le (tgt := 103) hx hb dX8_pays_29 (by decide) (fun hc => ?_) (fun hc => ?_)
    · have h := h.1 hc
      exact jB_2 I J S L p0 p1 p2 x_1 _ _ _ hP hD hS (lv_sub hl [1, 2, 3, 4, 0] rfl) h
    · have h := h.2 hc
      refine lv_aload_n hx hb dX8_pays_32 rfl (lv_at hl 1 rfl) ?_
      refine va_get (D := (dC, dI)) (ci := 8) (v := .ref (a 21)) (C := RX8) (T := TX8) (N := 47) hx hb hts nX8_pays_X8 hown hK hP 0 (wM_at0 _ _ _ _ _ _) rfl 22 (by decide) (hts (.fieldLink RX8 71 "SongOfficeModel" "purse" "[J") kX8_pays_2) (fun _ h9 => h9) rfl dX8_pays_33 ?_
      refine lv_iload hx hb dX8_pays_36 (lv_at hl 0 rfl) ?_
      obtain ⟨hi, h⟩ := h
      refine va_lald hx hb hK hP 21 20 (wM_at21 _ _ _ _ _ _) rfl hi dX8_pays_38 ?_
      refine lv_aload_n hx hb dX8_pays_39 rfl (lv_at hl 1 rfl) ?_
      refine va_get (D := (dC, dI)) (ci := 8) (v := .ref (a 22)) (C := RX8) (T := TX8) (N := 47) hx hb hts nX8_pays_X8 hown hK hP 0 (wM_at0 _ _ _ _ _ _) rfl 23 (by decide) (hts (.fieldLink RX8 75 "SongOfficeModel" "debt" "[J") kX8_pays_1) (fun _ h9 => h9) rfl dX8_pays_40 ?_
      refine lv_iload hx hb dX8_pays_43 (lv_at hl 0 rfl) ?_
      obtain ⟨hi, h⟩ := h
      refine va_lald hx hb hK hP 22 21 (wM_at22 _ _ _ _ _ _) rfl hi dX8_pays_45 ?_
      refine W.lcmp hx hb dX8_pays_46 ?_
      obtain ⟨B_28, hB_28, h⟩ := h
      have jB_28 : ∀ (I_29 : TI) (J_30 : TJ) (S_31 : TS) (L_32 : TL) (x_33 : Int32) (x_34 : Int32) (x_35 : Int32) (x_36 : Int32) (s_37 : Int64) (H : Heap) (locs : List Loc) (ls : Array Slot), va_P (dC, dI) vwCl (wM a cy I_29 J_30 S_31 L_32) H → va_D A (wM a cy I_29 J_30 S_31 L_32) → va_S A s.heap H locs → lv_has ls 7 [(0, .ref (a 0)), (1, .int x_33), (2, .int x_34), (3, .int x_35), (4, .int x_36)] → B_28 I_29 J_30 S_31 L_32 x_33 x_34 x_35 x_36 s_37 → W p l e (headSpec wsX8_pays rmX8_pays).room s m args below meth c H locs 0 0 (MQ below (gQv dC dI (wM a cy) (tyM cy) A Φ) args s 0 0 A) (F0 m 67 ls [.long s_37]) := by
        intro I_29 J_30 S_31 L_32 x_33 x_34 x_35 x_36 s_37 H locs ls hP hD hS hl h
        have h := hB_28 I_29 J_30 S_31 L_32 x_33 x_34 x_35 x_36 s_37 h
        refine lv_lstore (lv' := [(5, .long s_37), (0, .ref (a 0)), (1, .int x_33), (2, .int x_34), (3, .int x_35), (4, .int x_36)]) hx hb dX8_pays_67 hl (by decide) rfl (fun ls hl => ?_)
        refine lv_aload_n hx hb dX8_pays_69 rfl (lv_at hl 1 rfl) ?_
        refine va_get (D := (dC, dI)) (ci := 8) (v := .ref (a 21)) (C := RX8) (T := TX8) (N := 47) hx hb hts nX8_pays_X8 hown hK hP 0 (wM_at0 _ _ _ _ _ _) rfl 22 (by decide) (hts (.fieldLink RX8 71 "SongOfficeModel" "purse" "[J") kX8_pays_2) (fun _ h9 => h9) rfl dX8_pays_70 ?_
        refine lv_iload hx hb dX8_pays_73 (lv_at hl 5 rfl) ?_
        refine lv_aload_n hx hb dX8_pays_75 rfl (lv_at hl 1 rfl) ?_
        refine va_get (D := (dC, dI)) (ci := 8) (v := .ref (a 21)) (C := RX8) (T := TX8) (N := 47) hx hb hts nX8_pays_X8 hown hK hP 0 (wM_at0 _ _ _ _ _ _) rfl 22 (by decide) (hts (.fieldLink RX8 71 "SongOfficeModel" "purse" "[J") kX8_pays_2) (fun _ h9 => h9) rfl dX8_pays_76 ?_
        refine lv_iload hx hb dX8_pays_79 (lv_at hl 5 rfl) ?_
        obtain ⟨hi, h⟩ := h
        refine va_lald hx hb hK hP 21 20 (wM_at21 _ _ _ _ _ _) rfl hi dX8_pays_81 ?_
        refine lv_lload hx hb dX8_pays_82 (lv_at hl 0 rfl) ?_
        refine lv_lsub hx hb dX8_pays_84 ?_
        obtain ⟨hi, h⟩ := h
        obtain ⟨J_38, eJ_38⟩ : ∃ z : TJ, z = va_up J_30 21 (vp_updL (J_30 21) (x_36).toNatClampNeg ((J_30 21 (x_36).toNatClampNeg) - s_37)) := ⟨_, rfl⟩
        have h := h J_38 eJ_38
        refine va_last hx hb hK hP hD hS 21 20 (wM_at21 _ _ _ _ _ _) rfl hi dX8_pays_85 (fun H locs hP hD hS => ?_)
        have hP : va_P (dC, dI) vwCl (wM a cy I_29 J_38 S_31 L_32) H := by rw [eJ_38]; exact setP hP (wM_set21 _ _ _ _ _ _ _)
        have hD : va_D A (wM a cy I_29 J_38 S_31 L_32) := by rw [eJ_38]; exact setD hD (wM_set21 _ _ _ _ _ _ _)
        refine lv_aload_n hx hb dX8_pays_86 rfl (lv_at hl 1 rfl) ?_
        refine va_get (D := (dC, dI)) (ci := 8) (v := .ref (a 22)) (C := RX8) (T := TX8) (N := 47) hx hb hts nX8_pays_X8 hown hK hP 0 (wM_at0 _ _ _ _ _ _) rfl 23 (by decide) (hts (.fieldLink RX8 75 "SongOfficeModel" "debt" "[J") kX8_pays_1) (fun _ h9 => h9) rfl dX8_pays_87 ?_
        refine lv_iload hx hb dX8_pays_90 (lv_at hl 5 rfl) ?_
        refine lv_aload_n hx hb dX8_pays_92 rfl (lv_at hl 1 rfl) ?_
        refine va_get (D := (dC, dI)) (ci := 8) (v := .ref (a 22)) (C := RX8) (T := TX8) (N := 47) hx hb hts nX8_pays_X8 hown hK hP 0 (wM_at0 _ _ _ _ _ _) rfl 23 (by decide) (hts (.fieldLink RX8 75 "SongOfficeModel" "debt" "[J") kX8_pays_1) (fun _ h9 => h9) rfl dX8_pays_93 ?_
        refine lv_iload hx hb dX8_pays_96 (lv_at hl 5 rfl) ?_
        obtain ⟨hi, h⟩ := h
        refine va_lald hx hb hK hP 22 21 (wM_at22 _ _ _ _ _ _) rfl hi dX8_pays_98 ?_
        refine lv_lload hx hb dX8_pays_99 (lv_at hl 0 rfl) ?_
        refine lv_lsub hx hb dX8_pays_101 ?_
        obtain ⟨hi, h⟩ := h
        obtain ⟨J_39, eJ_39⟩ : ∃ z : TJ, z = va_up J_38 22 (vp_updL (J_38 22) (x_36).toNatClampNeg ((J_38 22 (x_36).toNatClampNeg) - s_37)) := ⟨_, rfl⟩
        have h := h J_39 eJ_39
        refine va_last hx hb hK hP hD hS 22 21 (wM_at22 _ _ _ _ _ _) rfl hi dX8_pays_102 (fun H locs hP hD hS => ?_)
        have hP : va_P (dC, dI) vwCl (wM a cy I_29 J_39 S_31 L_32) H := by rw [eJ_39]; exact setP hP (wM_set22 _ _ _ _ _ _ _)
        have hD : va_D A (wM a cy I_29 J_39 S_31 L_32) := by rw [eJ_39]; exact setD hD (wM_set22 _ _ _ _ _ _ _)
        exact jB_2 I_29 J_39 S_31 L_32 x_33 x_34 x_35 x_36 _ _ _ hP hD hS (lv_sub hl [1, 2, 3, 4, 5] rfl) h
      refine lv_if_ge (tgt := 60) hx hb dX8_pays_47 (by decide) (fun hc => ?_) (fun hc => ?_)
      · have h := h.1 hc
        refine lv_aload_n hx hb dX8_pays_60 rfl (lv_at hl 1 rfl) ?_
        refine va_get (D := (dC, dI)) (ci := 8) (v := .ref (a 22)) (C := RX8) (T := TX8) (N := 47) hx hb hts nX8_pays_X8 hown hK hP 0 (wM_at0 _ _ _ _ _ _) rfl 23 (by decide) (hts (.fieldLink RX8 75 "SongOfficeModel" "debt" "[J") kX8_pays_1) (fun _ h9 => h9) rfl dX8_pays_61 ?_
        refine lv_iload hx hb dX8_pays_64 (lv_at hl 0 rfl) ?_
        obtain ⟨hi, h⟩ := h
        refine va_lald hx hb hK hP 22 21 (wM_at22 _ _ _ _ _ _) rfl hi dX8_pays_66 ?_
        exact jB_28 I J S L p0 p1 p2 x_1 (J 22 (x_1).toNatClampNeg) _ _ _ hP hD hS (lv_sub hl [1, 2, 3, 4, 0] rfl) h
      · have h := h.2 hc
        refine lv_aload_n hx hb dX8_pays_50 rfl (lv_at hl 1 rfl) ?_
        refine va_get (D := (dC, dI)) (ci := 8) (v := .ref (a 21)) (C := RX8) (T := TX8) (N := 47) hx hb hts nX8_pays_X8 hown hK hP 0 (wM_at0 _ _ _ _ _ _) rfl 22 (by decide) (hts (.fieldLink RX8 71 "SongOfficeModel" "purse" "[J") kX8_pays_2) (fun _ h9 => h9) rfl dX8_pays_51 ?_
        refine lv_iload hx hb dX8_pays_54 (lv_at hl 0 rfl) ?_
        obtain ⟨hi, h⟩ := h
        refine va_lald hx hb hK hP 21 20 (wM_at21 _ _ _ _ _ _) rfl hi dX8_pays_56 ?_
        refine lv_goto (tgt := 67) hx hb dX8_pays_57 (by decide) ?_
        exact jB_28 I J S L p0 p1 p2 x_1 (J 21 (x_1).toNatClampNeg) _ _ _ hP hD hS (lv_sub hl [1, 2, 3, 4, 0] rfl) h
def wp_X8_fills (I : TI) (J : TJ) (S : TS) (L : TL) (p0 : Int32) (p1 : Int32) (p2 : Int32) (Φ : TI → TJ → TS → TL → Prop) : Prop := (vp_in p2 24) ∧ (∀ x_1 : Int32, x_1 = (I 6 (p2).toNatClampNeg) → (∀ x_2 : Int32, x_2 = (p1 - (3 : Int32)) → (∃ V_3 : Nat → TI → TJ → TS → TL → Int32 → Int32 → Int32 → Int32 → Int64 → Int32 → Prop, (∃ n_5, V_3 n_5 I J S L p0 p1 p2 x_1 (0 : Int64) x_2) ∧ ∀ (n_4 : Nat) (I_6 : TI) (J_7 : TJ) (S_8 : TS) (L_9 : TL) (x_10 : Int32) (x_11 : Int32) (x_12 : Int32) (x_13 : Int32) (y_14 : Int64) (x_15 : Int32), V_3 n_4 I_6 J_7 S_8 L_9 x_10 x_11 x_12 x_13 y_14 x_15 → (((x_11 < x_15) → ((vp_in x_12 24) ∧ ((((lg_cmp y_14 (((I_6 9 (x_12).toNatClampNeg)).toInt64)) < 0) → ((vp_in x_12 24) ∧ (∀ x_16 : Int32, x_16 = ((((((I_6 9 (x_12).toNatClampNeg)).toInt64) - y_14)).toInt32) → (wp_X8_dueAt I_6 J_7 S_8 L_9 x_10 x_13 x_11 (fun (r_21 : Int32) (I_17 : TI) (J_18 : TJ) (S_19 : TS) (L_20 : TL) => (wp_X8_dueAt I_17 J_18 S_19 L_20 x_10 x_13 x_11 (fun (r_26 : Int32) (I_22 : TI) (J_23 : TJ) (S_24 : TS) (L_25 : TL) => ((vp_in r_26 960) ∧ ((vp_in r_21 960) ∧ ∀ I_27 : TI, I_27 = va_up I_22 26 (upd (I_22 26) (r_21).toNatClampNeg ((I_22 26 (r_26).toNatClampNeg) + x_16)) → ((vp_in (((12 : Int32) * x_10) + x_13) 24) ∧ ((vp_in (((12 : Int32) * x_10) + x_13) 24) ∧ ∀ I_28 : TI, I_28 = va_up I_27 27 (upd (I_27 27) ((((12 : Int32) * x_10) + x_13)).toNatClampNeg ((I_27 27 ((((12 : Int32) * x_10) + x_13)).toNatClampNeg) + x_16)) → (Φ I_28 J_23 S_24 L_25)))))))))))) ∧ ((¬ (lg_cmp y_14 (((I_6 9 (x_12).toNatClampNeg)).toInt64)) < 0) → (Φ I_6 J_7 S_8 L_9))))) ∧ ((¬ x_11 < x_15) → (wp_X8_dueAt I_6 J_7 S_8 L_9 x_10 x_13 x_15 (fun (r_33 : Int32) (I_29 : TI) (J_30 : TJ) (S_31 : TS) (L_32 : TL) => ((vp_in r_33 960) ∧ (∀ y_34 : Int64, y_34 = (y_14 + (((I_29 26 (r_33).toNatClampNeg)).toInt64)) → (∀ x_35 : Int32, x_35 = x_15 + 1 → (∃ n_36, n_36 < n_4 ∧ V_3 n_36 I_29 J_30 S_31 L_32 x_10 x_11 x_12 x_13 y_34 x_35)))))))))))
theorem nX8_fills_X8 : ∀ w ∈ wsX80, w ∈ wsX8_fills := fun _ h => List.mem_cons_of_mem _ (List.mem_append_right _ h)
theorem kX8_fills_4 : Cond.fieldLink RX8 90 "SongOfficeModel" "filled" "[I" ∈ wsX8_fills := List.mem_of_getElem? (i := 4) rfl
theorem kX8_fills_2 : Cond.fieldLink RX8 87 "SongOfficeModel" "dues" "[I" ∈ wsX8_fills := List.mem_of_getElem? (i := 2) rfl
theorem kX8_fills_3 : Cond.fieldLink RX8 34 "SongOfficeModel" "bx" "[I" ∈ wsX8_fills := List.mem_of_getElem? (i := 3) rfl
theorem kX8_fills_1 : Cond.fieldLink RX8 25 "SongOfficeModel" "hand" "[I" ∈ wsX8_fills := List.mem_of_getElem? (i := 1) rfl
abbrev rmX8_fills : Room := { frames := 1, cells := 0, slots := 0, locals := 22 }
set_option maxHeartbeats 4000000 in
set_option maxRecDepth 100000 in
theorem c_X8_fills (l : Launch) (dC : Nat → ClassId) (dI : Nat → Nat → Nat) (a : Nat → Nat) (cy : Nat → ClassId) (sz : Nat) (I : TI) (J : TJ) (S : TS) (L : TL) (p0 : Int32) (p1 : Int32) (p2 : Int32) (Φ : TI → TJ → TS → TL → Prop) (h : wp_X8_fills I J S L p0 p1 p2 Φ) : Met l yX8_fills wsX8_fills rmX8_fills (va_Pc [.ref (a 0), .int p0, .int p1, .int p2] (gpre dC dI (wM a cy I J S L) (tyM cy) sz)) (gQv dC dI (wM a cy) (tyM cy) (va_A (wM a cy I J S L) sz) Φ) 0 0 (va_A (wM a cy I J S L) sz) := by
  refine Met.ofW (cc := cX8_fills) (maxL := 8) (ret := none) (by decide) rfl ?_
  intro p e s m args below meth c s₁ B hml hv
  obtain ⟨hargs, hsz, hP, hK, hD0⟩ := hv
  have hx := B.exec
  have hb := B.bytes
  have hr := B.returns
  have hts := atoms_spec (ws := wsX8_fills) B.pre
  have hown : s.vm.findClass RX8 = some m.cls := findClass_of_methodNamed B.named
  have hlocks := B.notSynchronized
  subst hsz
  have hD := hD0.self (sz := s.heap.size)
  generalize hAe : va_A (wM a cy I J S L) s.heap.size = A at hD ⊢
  have hA : ∀ q : Nat, s.heap.size ≤ q → A q := fun q h => by rw [← hAe]; exact Or.inr h
  have hS : va_S A s.heap s.heap [] := va_S.rf
  have hl := lv_entry ([.ref (a 0), .int p0, .int p1, .int p2]) (n := 8) (Nat.le_of_ble_eq_true rfl)
  have hE : entryFrame m args 8 = F0 m 0 ((lg_sl ([.ref (a 0), .int p0, .int p1, .int p2]) ++ List.replicate (8 - (lg_sl ([.ref (a 0), .int p0, .int p1, .int p2])).length) Slot.unset).toArray) [] := by rw [hargs]; exact lg_entry_eq m _ _
  rw [hE]
  clear hE
  generalize (lg_sl ([.ref (a 0), .int p0, .int p1, .int p2]) ++ List.replicate (8 - (lg_sl ([.ref (a 0), .int p0, .int p1, .int p2])).length) Slot.unset).toArray = ls at hl ⊢
  have hl : lv_has ls 8 [(0, .ref (a 0)), (1, .int p0), (2, .int p1), (3, .int p2)] := hl
  unfold wp_X8_fills at h
  refine lv_aload_n hx hb dX8_fills_0 rfl (lv_at hl 0 rfl) ?_
  refine va_get (D := (dC, dI)) (ci := 8) (v := .ref (a 6)) (C := RX8) (T := TX8) (N := 47) hx hb hts nX8_fills_X8 hown hK hP 0 (wM_at0 _ _ _ _ _ _) rfl 7 (by decide) (hts (.fieldLink RX8 25 "SongOfficeModel" "hand" "[I") kX8_fills_1) (fun _ h9 => h9) rfl dX8_fills_1 ?_
  refine lv_iload_n hx hb dX8_fills_4 rfl (lv_at hl 3 rfl) ?_
  obtain ⟨hi, h⟩ := h
  refine va_iald hx hb hK hP 6 5 (wM_at6 _ _ _ _ _ _) rfl hi dX8_fills_5 ?_
  refine lv_topi (fun x_1 ex_1 => ?_)
  have h := h x_1 ex_1
  refine lv_istore (lv' := [(4, .int x_1), (0, .ref (a 0)), (1, .int p0), (2, .int p1), (3, .int p2)]) hx hb dX8_fills_6 hl (by decide) rfl (fun ls hl => ?_)
  refine lv_lconst (v := 0) hx hb dX8_fills_8 (by decide) ?_
  refine lv_lstore (lv' := [(5, .long (0 : Int64)), (4, .int x_1), (0, .ref (a 0)), (1, .int p0), (2, .int p1), (3, .int p2)]) hx hb dX8_fills_9 hl (by decide) rfl (fun ls hl => ?_)
  refine lv_iload_n hx hb dX8_fills_11 rfl (lv_at hl 4 rfl) ?_
  refine lv_iconst (v := 3) hx hb dX8_fills_12 (by decide) ?_
  refine lv_isub hx hb dX8_fills_13 ?_
  refine lv_topi (fun x_2 ex_2 => ?_)
  have h := h x_2 ex_2
  refine lv_istore (lv' := [(7, .int x_2), (5, .long (0 : Int64)), (4, .int x_1), (0, .ref (a 0)), (1, .int p0), (2, .int p1), (3, .int p2)]) hx hb dX8_fills_14 hl (by decide) rfl (fun ls hl => ?_)
  obtain ⟨V_3, ⟨n_5, h0V_3⟩, hV_3⟩ := h
  have lV_3 : ∀ (n_4 : Nat) (I_6 : TI) (J_7 : TJ) (S_8 : TS) (L_9 : TL) (x_10 : Int32) (x_11 : Int32) (x_12 : Int32) (x_13 : Int32) (y_14 : Int64) (x_15 : Int32) (H : Heap) (locs : List Loc) (ls : Array Slot), va_P (dC, dI) vwCl (wM a cy I_6 J_7 S_8 L_9) H → va_D A (wM a cy I_6 J_7 S_8 L_9) → va_S A s.heap H locs → lv_has ls 8 [(0, .ref (a 0)), (1, .int x_10), (2, .int x_11), (3, .int x_12), (4, .int x_13), (5, .long y_14), (7, .int x_15)] → V_3 n_4 I_6 J_7 S_8 L_9 x_10 x_11 x_12 x_13 y_14 x_15 → W p l e (headSpec wsX8_fills rmX8_fills).room s m args below meth c H locs 0 0 (MQ below (gQv dC dI (wM a cy) (tyM cy) A Φ) args s 0 0 A) (F0 m 16 ls []) := by
    intro n_4
    induction n_4 using Nat.strongRecOn with
    | ind n_4 ihV_3 =>
        intro I_6 J_7 S_8 L_9 x_10 x_11 x_12 x_13 y_14 x_15 H locs ls hP hD hS hl h
        have h := hV_3 n_4 I_6 J_7 S_8 L_9 x_10 x_11 x_12 x_13 y_14 x_15 h
        refine lv_iload hx hb dX8_fills_16 (lv_at hl 6 rfl) ?_
        refine lv_iload_n hx hb dX8_fills_18 rfl (lv_at hl 2 rfl) ?_
        refine lv_icmp_gt (tgt := 47) hx hb dX8_fills_19 (by decide) (fun hc => ?_) (fun hc => ?_)
        · have h := h.1 hc
          refine lv_lload hx hb dX8_fills_47 (lv_at hl 5 rfl) ?_
          refine lv_aload_n hx hb dX8_fills_49 rfl (lv_at hl 0 rfl) ?_
          refine va_get (D := (dC, dI)) (ci := 8) (v := .ref (a 9)) (C := RX8) (T := TX8) (N := 47) hx hb hts nX8_fills_X8 hown hK hP 0 (wM_at0 _ _ _ _ _ _) rfl 10 (by decide) (hts (.fieldLink RX8 34 "SongOfficeModel" "bx" "[I") kX8_fills_3) (fun _ h9 => h9) rfl dX8_fills_50 ?_
          refine lv_iload_n hx hb dX8_fills_53 rfl (lv_at hl 3 rfl) ?_
          obtain ⟨hi, h⟩ := h
          refine va_iald hx hb hK hP 9 8 (wM_at9 _ _ _ _ _ _) rfl hi dX8_fills_54 ?_
          refine lv_i2l (v := (((I_6 9 (x_12).toNatClampNeg)).toInt64)) hx hb dX8_fills_55 rfl ?_
          refine W.lcmp hx hb dX8_fills_56 ?_
          refine lv_if_lt (tgt := 61) hx hb dX8_fills_57 (by decide) (fun hc => ?_) (fun hc => ?_)
          · have h := h.1 hc
            refine lv_aload_n hx hb dX8_fills_61 rfl (lv_at hl 0 rfl) ?_
            refine va_get (D := (dC, dI)) (ci := 8) (v := .ref (a 9)) (C := RX8) (T := TX8) (N := 47) hx hb hts nX8_fills_X8 hown hK hP 0 (wM_at0 _ _ _ _ _ _) rfl 10 (by decide) (hts (.fieldLink RX8 34 "SongOfficeModel" "bx" "[I") kX8_fills_3) (fun _ h9 => h9) rfl dX8_fills_62 ?_
            refine lv_iload_n hx hb dX8_fills_65 rfl (lv_at hl 3 rfl) ?_
            obtain ⟨hi, h⟩ := h
            refine va_iald hx hb hK hP 9 8 (wM_at9 _ _ _ _ _ _) rfl hi dX8_fills_66 ?_
            refine lv_i2l (v := (((I_6 9 (x_12).toNatClampNeg)).toInt64)) hx hb dX8_fills_67 rfl ?_
            refine lv_lload hx hb dX8_fills_68 (lv_at hl 5 rfl) ?_
            refine lv_lsub hx hb dX8_fills_70 ?_
            refine lv_l2i (v := ((((((I_6 9 (x_12).toNatClampNeg)).toInt64) - y_14)).toInt32)) hx hb dX8_fills_71 rfl ?_
            refine lv_topi (fun x_16 ex_16 => ?_)
            have h := h x_16 ex_16
            refine lv_istore (lv' := [(7, .int x_16), (0, .ref (a 0)), (1, .int x_10), (2, .int x_11), (3, .int x_12), (4, .int x_13), (5, .long y_14)]) hx hb dX8_fills_72 hl (by decide) rfl (fun ls hl => ?_)
            refine lv_aload_n hx hb dX8_fills_74 rfl (lv_at hl 1 rfl) ?_
            refine va_get (D := (dC, dI)) (ci := 8) (v := .ref (a 26)) (C := RX8) (T := TX8) (N := 47) hx hb hts nX8_fills_X8 hown hK hP 0 (wM_at0 _ _ _ _ _ _) rfl 27 (by decide) (hts (.fieldLink RX8 87 "SongOfficeModel" "dues" "[I") kX8_fills_2) (fun _ h9 => h9) rfl dX8_fills_75 ?_
            refine lv_iload_n hx hb dX8_fills_78 rfl (lv_at hl 2 rfl) ?_
            refine lv_iload hx hb dX8_fills_79 (lv_at hl 5 rfl) ?_
            refine lv_iload_n hx hb dX8_fills_81 rfl (lv_at hl 3 rfl) ?_
            refine gcalli (va_runS (As := [.int x_10, .int x_13, .int x_11]) (rest := [.ref (a 26)]) ⟨hx, hb, hml, hown, hts⟩ (c_X8_dueAt l dC dI (wM a cy) (tyM cy) H.size I_6 J_7 S_8 L_9 x_10 x_13 x_11 _ h) (va_cwS 3 hts gX8_fills_X8_dueAt rfl rfl rfl (by decide +kernel) ⟨(Nat.le_of_ble_eq_true rfl), (Nat.le_of_ble_eq_true rfl)⟩) (g_pS hP hK hD [.int x_10, .int x_13, .int x_11]) rfl rfl hl.1 rfl (lv_room (Nat.le_of_ble_eq_true rfl)) dX8_fills_82 ⟨(Nat.le_of_ble_eq_true rfl), (Nat.le_of_ble_eq_true rfl)⟩) hS hA hD (fun r_21 I_17 J_18 S_19 L_20 H locs hP hD hS h => ?_)
            refine lv_aload_n hx hb dX8_fills_85 rfl (lv_at hl 1 rfl) ?_
            refine va_get (D := (dC, dI)) (ci := 8) (v := .ref (a 26)) (C := RX8) (T := TX8) (N := 47) hx hb hts nX8_fills_X8 hown hK hP 0 (wM_at0 _ _ _ _ _ _) rfl 27 (by decide) (hts (.fieldLink RX8 87 "SongOfficeModel" "dues" "[I") kX8_fills_2) (fun _ h9 => h9) rfl dX8_fills_86 ?_
            refine lv_iload_n hx hb dX8_fills_89 rfl (lv_at hl 2 rfl) ?_
            refine lv_iload hx hb dX8_fills_90 (lv_at hl 5 rfl) ?_
            refine lv_iload_n hx hb dX8_fills_92 rfl (lv_at hl 3 rfl) ?_
            refine gcalli (va_runS (As := [.int x_10, .int x_13, .int x_11]) (rest := [.ref (a 26), .int r_21, .ref (a 26)]) ⟨hx, hb, hml, hown, hts⟩ (c_X8_dueAt l dC dI (wM a cy) (tyM cy) H.size I_17 J_18 S_19 L_20 x_10 x_13 x_11 _ h) (va_cwS 3 hts gX8_fills_X8_dueAt rfl rfl rfl (by decide +kernel) ⟨(Nat.le_of_ble_eq_true rfl), (Nat.le_of_ble_eq_true rfl)⟩) (g_pS hP hK hD [.int x_10, .int x_13, .int x_11]) rfl rfl hl.1 rfl (lv_room (Nat.le_of_ble_eq_true rfl)) dX8_fills_93 ⟨(Nat.le_of_ble_eq_true rfl), (Nat.le_of_ble_eq_true rfl)⟩) hS hA hD (fun r_26 I_22 J_23 S_24 L_25 H locs hP hD hS h => ?_)
            obtain ⟨hi, h⟩ := h
            refine va_iald hx hb hK hP 26 25 (wM_at26 _ _ _ _ _ _) rfl hi dX8_fills_96 ?_
            refine lv_iload hx hb dX8_fills_97 (lv_at hl 0 rfl) ?_
            refine lv_iadd hx hb dX8_fills_99 ?_
            obtain ⟨hi, h⟩ := h
            obtain ⟨I_27, eI_27⟩ : ∃ z : TI, z = va_up I_22 26 (upd (I_22 26) (r_21).toNatClampNeg ((I_22 26 (r_26).toNatClampNeg) + x_16)) := ⟨_, rfl⟩
            have h := h I_27 eI_27
            refine va_iast hx hb hK hP hD hS 26 25 (wM_at26 _ _ _ _ _ _) rfl hi dX8_fills_100 (fun H locs hP hD hS => ?_)
            have hP : va_P (dC, dI) vwCl (wM a cy I_27 J_23 S_24 L_25) H := by rw [eI_27]; exact setP hP (wM_set26 _ _ _ _ _ _ _)
            have hD : va_D A (wM a cy I_27 J_23 S_24 L_25) := by rw [eI_27]; exact setD hD (wM_set26 _ _ _ _ _ _ _)
            refine lv_aload_n hx hb dX8_fills_101 rfl (lv_at hl 1 rfl) ?_
            refine va_get (D := (dC, dI)) (ci := 8) (v := .ref (a 27)) (C := RX8) (T := TX8) (N := 47) hx hb hts nX8_fills_X8 hown hK hP 0 (wM_at0 _ _ _ _ _ _) rfl 28 (by decide) (hts (.fieldLink RX8 90 "SongOfficeModel" "filled" "[I") kX8_fills_4) (fun _ h9 => h9) rfl dX8_fills_102 ?_
            refine lv_bipush (v := 12) hx hb dX8_fills_105 (by decide) ?_
            refine lv_iload_n hx hb dX8_fills_107 rfl (lv_at hl 2 rfl) ?_
            refine lv_imul hx hb dX8_fills_108 ?_
            refine lv_iload hx hb dX8_fills_109 (lv_at hl 5 rfl) ?_
            refine lv_iadd hx hb dX8_fills_111 ?_
            refine lv_aload_n hx hb dX8_fills_112 rfl (lv_at hl 1 rfl) ?_
            refine va_get (D := (dC, dI)) (ci := 8) (v := .ref (a 27)) (C := RX8) (T := TX8) (N := 47) hx hb hts nX8_fills_X8 hown hK hP 0 (wM_at0 _ _ _ _ _ _) rfl 28 (by decide) (hts (.fieldLink RX8 90 "SongOfficeModel" "filled" "[I") kX8_fills_4) (fun _ h9 => h9) rfl dX8_fills_113 ?_
            refine lv_bipush (v := 12) hx hb dX8_fills_116 (by decide) ?_
            refine lv_iload_n hx hb dX8_fills_118 rfl (lv_at hl 2 rfl) ?_
            refine lv_imul hx hb dX8_fills_119 ?_
            refine lv_iload hx hb dX8_fills_120 (lv_at hl 5 rfl) ?_
            refine lv_iadd hx hb dX8_fills_122 ?_
            obtain ⟨hi, h⟩ := h
            refine va_iald hx hb hK hP 27 26 (wM_at27 _ _ _ _ _ _) rfl hi dX8_fills_123 ?_
            refine lv_iload hx hb dX8_fills_124 (lv_at hl 0 rfl) ?_
            refine lv_iadd hx hb dX8_fills_126 ?_
            obtain ⟨hi, h⟩ := h
            obtain ⟨I_28, eI_28⟩ : ∃ z : TI, z = va_up I_27 27 (upd (I_27 27) ((((12 : Int32) * x_10) + x_13)).toNatClampNeg ((I_27 27 ((((12 : Int32) * x_10) + x_13)).toNatClampNeg) + x_16)) := ⟨_, rfl⟩
            have h := h I_28 eI_28
            refine va_iast hx hb hK hP hD hS 27 26 (wM_at27 _ _ _ _ _ _) rfl hi dX8_fills_127 (fun H locs hP hD hS => ?_)
            have hP : va_P (dC, dI) vwCl (wM a cy I_28 J_23 S_24 L_25) H := by rw [eI_28]; exact setP hP (wM_set27 _ _ _ _ _ _ _)
            have hD : va_D A (wM a cy I_28 J_23 S_24 L_25) := by rw [eI_28]; exact setD hD (wM_set27 _ _ _ _ _ _ _)
            exact grv hx hb hr hlocks hP hK hD hS h dX8_fills_128
          · have h := h.2 hc
            exact grv hx hb hr hlocks hP hK hD hS h dX8_fills_60
        · have h := h.2 hc
          refine lv_lload hx hb dX8_fills_22 (lv_at hl 5 rfl) ?_
          refine lv_aload_n hx hb dX8_fills_24 rfl (lv_at hl 0 rfl) ?_
          refine va_get (D := (dC, dI)) (ci := 8) (v := .ref (a 26)) (C := RX8) (T := TX8) (N := 47) hx hb hts nX8_fills_X8 hown hK hP 0 (wM_at0 _ _ _ _ _ _) rfl 27 (by decide) (hts (.fieldLink RX8 87 "SongOfficeModel" "dues" "[I") kX8_fills_2) (fun _ h9 => h9) rfl dX8_fills_25 ?_
          refine lv_iload_n hx hb dX8_fills_28 rfl (lv_at hl 1 rfl) ?_
          refine lv_iload hx hb dX8_fills_29 (lv_at hl 4 rfl) ?_
          refine lv_iload hx hb dX8_fills_31 (lv_at hl 6 rfl) ?_
          refine gcalli (va_runS (As := [.int x_10, .int x_13, .int x_15]) (rest := [.ref (a 26), .long y_14]) ⟨hx, hb, hml, hown, hts⟩ (c_X8_dueAt l dC dI (wM a cy) (tyM cy) H.size I_6 J_7 S_8 L_9 x_10 x_13 x_15 _ h) (va_cwS 3 hts gX8_fills_X8_dueAt rfl rfl rfl (by decide +kernel) ⟨(Nat.le_of_ble_eq_true rfl), (Nat.le_of_ble_eq_true rfl)⟩) (g_pS hP hK hD [.int x_10, .int x_13, .int x_15]) rfl rfl hl.1 rfl (lv_room (Nat.le_of_ble_eq_true rfl)) dX8_fills_33 ⟨(Nat.le_of_ble_eq_true rfl), (Nat.le_of_ble_eq_true rfl)⟩) hS hA hD (fun r_33 I_29 J_30 S_31 L_32 H locs hP hD hS h => ?_)
          obtain ⟨hi, h⟩ := h
          refine va_iald hx hb hK hP 26 25 (wM_at26 _ _ _ _ _ _) rfl hi dX8_fills_36 ?_
          refine lv_i2l (v := (((I_29 26 (r_33).toNatClampNeg)).toInt64)) hx hb dX8_fills_37 rfl ?_
          refine lv_ladd hx hb dX8_fills_38 ?_
          refine lv_topl (fun y_34 ey_34 => ?_)
          have h := h y_34 ey_34
          refine lv_lstore (lv' := [(5, .long y_34), (0, .ref (a 0)), (1, .int x_10), (2, .int x_11), (3, .int x_12), (4, .int x_13), (7, .int x_15)]) hx hb dX8_fills_39 hl (by decide) rfl (fun ls hl => ?_)
          obtain ⟨x_35, ex_35⟩ : ∃ z : Int32, z = x_15 + 1 := ⟨_, rfl⟩
          have h := h x_35 ex_35
          refine lv_iinc (v := x_35) (lv' := [(7, .int x_35), (5, .long y_34), (0, .ref (a 0)), (1, .int x_10), (2, .int x_11), (3, .int x_12), (4, .int x_13)]) hx hb dX8_fills_41 hl (k := 6) rfl (by rw [ex_35]; rfl) (by decide) rfl (fun ls hl => ?_)
          refine lv_goto (tgt := 16) hx hb dX8_fills_44 (by decide) ?_
          obtain ⟨n_36, hn2, h⟩ := h
          exact ihV_3 n_36 hn2 I_29 J_30 S_31 L_32 x_10 x_11 x_12 x_13 y_34 x_35 _ _ _ hP hD hS (lv_sub hl [2, 3, 4, 5, 6, 1, 0] rfl) h
  exact lV_3 n_5 I J S L p0 p1 p2 x_1 (0 : Int64) x_2 _ _ _ hP hD hS (lv_sub hl [3, 4, 5, 6, 2, 1, 0] rfl) h0V_3
def wp_X8_closes (I : TI) (J : TJ) (S : TS) (L : TL) (p0 : Int32) (p1 : Int32) (Φ : TI → TJ → TS → TL → Prop) : Prop := ∃ V_1 : Nat → TI → TJ → TS → TL → Int32 → Int32 → Int32 → Prop, (∃ n_3, V_1 n_3 I J S L p0 p1 (0 : Int32)) ∧ ∀ (n_2 : Nat) (I_4 : TI) (J_5 : TJ) (S_6 : TS) (L_7 : TL) (x_8 : Int32) (x_9 : Int32) (x_10 : Int32), V_1 n_2 I_4 J_5 S_6 L_7 x_8 x_9 x_10 → ((vp_in x_9 40) ∧ ((((I_4 18 (x_9).toNatClampNeg) ≤ x_10) → (∃ V_11 : Nat → TI → TJ → TS → TL → Int32 → Int32 → Int32 → Prop, (∃ n_13, V_11 n_13 I_4 J_5 S_6 L_7 x_8 x_9 (0 : Int32)) ∧ ∀ (n_12 : Nat) (I_14 : TI) (J_15 : TJ) (S_16 : TS) (L_17 : TL) (x_18 : Int32) (x_19 : Int32) (x_20 : Int32), V_11 n_12 I_14 J_15 S_16 L_17 x_18 x_19 x_20 → ((((S_16 1) ≤ x_20) → (∃ V_21 : Nat → TI → TJ → TS → TL → Int32 → Int32 → Int32 → Prop, (∃ n_23, V_21 n_23 I_14 J_15 S_16 L_17 x_18 x_19 (0 : Int32)) ∧ ∀ (n_22 : Nat) (I_24 : TI) (J_25 : TJ) (S_26 : TS) (L_27 : TL) (x_28 : Int32) (x_29 : Int32) (x_30 : Int32), V_21 n_22 I_24 J_25 S_26 L_27 x_28 x_29 x_30 → ((((12 : Int32) ≤ x_30) → (∃ V_31 : Nat → TI → TJ → TS → TL → Int32 → Int32 → Int32 → Prop, (∃ n_33, V_31 n_33 I_24 J_25 S_26 L_27 x_28 x_29 (0 : Int32)) ∧ ∀ (n_32 : Nat) (I_34 : TI) (J_35 : TJ) (S_36 : TS) (L_37 : TL) (x_38 : Int32) (x_39 : Int32) (x_40 : Int32), V_31 n_32 I_34 J_35 S_36 L_37 x_38 x_39 x_40 → (∃ B_41 : TI → TJ → TS → TL → Prop, (∀ (I_42 : TI) (J_43 : TJ) (S_44 : TS) (L_45 : TL), B_41 I_42 J_43 S_44 L_45 → (Φ I_42 J_43 S_44 L_45)) ∧ ((((S_36 1) ≤ x_40) → (B_41 I_34 J_35 S_36 L_37)) ∧ ((¬ (S_36 1) ≤ x_40) → (((¬ (x_39 - x_39 / (4 : Int32) * (4 : Int32)) = (3 : Int32)) → (B_41 I_34 J_35 S_36 L_37)) ∧ (((x_39 - x_39 / (4 : Int32) * (4 : Int32)) = (3 : Int32)) → ((vp_in x_40 24) ∧ (∃ B_46 : TI → TJ → TS → TL → Int32 → Int32 → Int32 → Prop, (∀ (I_47 : TI) (J_48 : TJ) (S_49 : TS) (L_50 : TL) (x_51 : Int32) (x_52 : Int32) (x_53 : Int32), B_46 I_47 J_48 S_49 L_50 x_51 x_52 x_53 → (∀ x_54 : Int32, x_54 = x_53 + 1 → (∃ n_55, n_55 < n_32 ∧ V_31 n_55 I_47 J_48 S_49 L_50 x_51 x_52 x_54))) ∧ (((¬ (I_34 5 (x_40).toNatClampNeg) = (2 : Int32)) → (B_46 I_34 J_35 S_36 L_37 x_38 x_39 x_40)) ∧ (((I_34 5 (x_40).toNatClampNeg) = (2 : Int32)) → ((vp_in x_40 24) ∧ ((((((90 : Int32) * x_39) + (89 : Int32)) < (I_34 8 (x_40).toNatClampNeg)) → (B_46 I_34 J_35 S_36 L_37 x_38 x_39 x_40)) ∧ ((¬ (((90 : Int32) * x_39) + (89 : Int32)) < (I_34 8 (x_40).toNatClampNeg)) → (wp_X8_fills I_34 J_35 S_36 L_37 x_38 x_39 x_40 (fun (I_56 : TI) (J_57 : TJ) (S_58 : TS) (L_59 : TL) => (B_46 I_56 J_57 S_58 L_59 x_38 x_39 x_40))))))))))))))))) ∧ ((¬ (12 : Int32) ≤ x_30) → (wp_X8_pays I_24 J_25 S_26 L_27 x_28 x_29 x_30 (fun (I_60 : TI) (J_61 : TJ) (S_62 : TS) (L_63 : TL) => (∀ x_64 : Int32, x_64 = x_30 + 1 → (∃ n_65, n_65 < n_22 ∧ V_21 n_65 I_60 J_61 S_62 L_63 x_28 x_29 x_64)))))))) ∧ ((¬ (S_16 1) ≤ x_20) → ((vp_in x_20 24) ∧ (∃ B_66 : TI → TJ → TS → TL → Int32 → Int32 → Int32 → Prop, (∀ (I_67 : TI) (J_68 : TJ) (S_69 : TS) (L_70 : TL) (x_71 : Int32) (x_72 : Int32) (x_73 : Int32), B_66 I_67 J_68 S_69 L_70 x_71 x_72 x_73 → (∀ x_74 : Int32, x_74 = x_73 + 1 → (∃ n_75, n_75 < n_12 ∧ V_11 n_75 I_67 J_68 S_69 L_70 x_71 x_72 x_74))) ∧ (((¬ (I_14 5 (x_20).toNatClampNeg) = (4 : Int32)) → (B_66 I_14 J_15 S_16 L_17 x_18 x_19 x_20)) ∧ (((I_14 5 (x_20).toNatClampNeg) = (4 : Int32)) → ((vp_in x_20 24) ∧ ((((I_14 10 (x_20).toNatClampNeg) ≤ x_19) → ((vp_in x_20 24) ∧ (wp_X8_bag I_14 J_15 S_16 L_17 x_18 x_20 (x_19 - (I_14 10 (x_20).toNatClampNeg)) (fun (r_80 : Int32) (I_76 : TI) (J_77 : TJ) (S_78 : TS) (L_79 : TL) => ((vp_in x_20 24) ∧ (∀ x_81 : Int32, x_81 = (((12 : Int32) * x_18) + (I_76 6 (x_20).toNatClampNeg)) → ((vp_in x_81 24) ∧ ((vp_in r_80 1920) ∧ ((vp_in x_81 24) ∧ ∀ J_82 : TJ, J_82 = va_up J_77 21 (vp_updL (J_77 21) (x_81).toNatClampNeg ((J_77 21 (x_81).toNatClampNeg) + (J_77 25 (r_80).toNatClampNeg))) → ((vp_in r_80 1920) ∧ ∀ J_83 : TJ, J_83 = va_up J_82 25 (vp_updL (J_82 25) (r_80).toNatClampNeg (0 : Int64)) → (B_66 I_76 J_83 S_78 L_79 x_18 x_19 x_20))))))))))) ∧ ((¬ (I_14 10 (x_20).toNatClampNeg) ≤ x_19) → (B_66 I_14 J_15 S_16 L_17 x_18 x_19 x_20)))))))))))) ∧ ((¬ (I_4 18 (x_9).toNatClampNeg) ≤ x_10) → ((vp_in (((12 : Int32) * x_9) + x_10) 480) ∧ (∀ x_84 : Int32, x_84 = (I_4 17 ((((12 : Int32) * x_9) + x_10)).toNatClampNeg) → (∀ x_85 : Int32, x_85 = (((12 : Int32) * x_9) + x_84) → (wp_X8_isOpen I_4 J_5 S_6 L_7 x_9 x_84 (fun (r_90 : Int32) (I_86 : TI) (J_87 : TJ) (S_88 : TS) (L_89 : TL) => (∃ B_91 : TI → TJ → TS → TL → Int32 → Int32 → Int32 → Prop, (∀ (I_92 : TI) (J_93 : TJ) (S_94 : TS) (L_95 : TL) (x_96 : Int32) (x_97 : Int32) (x_98 : Int32), B_91 I_92 J_93 S_94 L_95 x_96 x_97 x_98 → (∀ x_99 : Int32, x_99 = x_98 + 1 → (∃ n_100, n_100 < n_2 ∧ V_1 n_100 I_92 J_93 S_94 L_95 x_96 x_97 x_99))) ∧ (((r_90 = 0) → ((vp_in x_85 480) ∧ (((¬ (I_86 16 (x_85).toNatClampNeg) = (2 : Int32)) → ((vp_in x_85 480) ∧ (wp_X8_comes I_86 J_87 S_88 L_89 x_8 x_9 x_84 (I_86 13 (x_85).toNatClampNeg) (((90 : Int32) * x_9) + (89 : Int32)) (fun (I_101 : TI) (J_102 : TJ) (S_103 : TS) (L_104 : TL) => (B_91 I_101 J_102 S_103 L_104 x_8 x_9 x_10))))) ∧ (((I_86 16 (x_85).toNatClampNeg) = (2 : Int32)) → ((vp_in x_85 480) ∧ (wp_X8_comes I_86 J_87 S_88 L_89 x_8 x_9 x_84 (I_86 13 (x_85).toNatClampNeg) (((90 : Int32) * x_9) + (29 : Int32)) (fun (I_105 : TI) (J_106 : TJ) (S_107 : TS) (L_108 : TL) => ((vp_in x_85 480) ∧ (wp_X8_comes I_105 J_106 S_107 L_108 x_8 x_9 x_84 (I_105 14 (x_85).toNatClampNeg) (((90 : Int32) * x_9) + (59 : Int32)) (fun (I_109 : TI) (J_110 : TJ) (S_111 : TS) (L_112 : TL) => ((vp_in x_85 480) ∧ (wp_X8_comes I_109 J_110 S_111 L_112 x_8 x_9 x_84 (I_109 15 (x_85).toNatClampNeg) (((90 : Int32) * x_9) + (89 : Int32)) (fun (I_113 : TI) (J_114 : TJ) (S_115 : TS) (L_116 : TL) => (B_91 I_113 J_114 S_115 L_116 x_8 x_9 x_10)))))))))))))) ∧ ((¬ r_90 = 0) → (B_91 I_86 J_87 S_88 L_89 x_8 x_9 x_10))))))))))))
theorem nX8_closes_X8 : ∀ w ∈ wsX80, w ∈ wsX8_closes := fun _ h => List.mem_cons_of_mem _ (List.mem_append_right _ h)
theorem kX8_closes_13 : Cond.fieldLink RX8 31 "SongOfficeModel" "since" "[I" ∈ wsX8_closes := List.mem_of_getElem? (i := 13) rfl
theorem kX8_closes_8 : Cond.fieldLink RX8 22 "SongOfficeModel" "kind" "[I" ∈ wsX8_closes := List.mem_of_getElem? (i := 8) rfl
theorem kX8_closes_7 : Cond.fieldLink RX8 157 "SongOfficeModel" "bargains" "I" ∈ wsX8_closes := List.mem_of_getElem? (i := 7) rfl
theorem kX8_closes_12 : Cond.fieldLink RX8 84 "SongOfficeModel" "bags" "[J" ∈ wsX8_closes := List.mem_of_getElem? (i := 12) rfl
theorem kX8_closes_11 : Cond.fieldLink RX8 71 "SongOfficeModel" "purse" "[J" ∈ wsX8_closes := List.mem_of_getElem? (i := 11) rfl
theorem kX8_closes_10 : Cond.fieldLink RX8 25 "SongOfficeModel" "hand" "[I" ∈ wsX8_closes := List.mem_of_getElem? (i := 10) rfl
theorem kX8_closes_9 : Cond.fieldLink RX8 37 "SongOfficeModel" "by" "[I" ∈ wsX8_closes := List.mem_of_getElem? (i := 9) rfl
theorem kX8_closes_4 : Cond.fieldLink RX8 46 "SongOfficeModel" "first" "[I" ∈ wsX8_closes := List.mem_of_getElem? (i := 4) rfl
theorem kX8_closes_6 : Cond.fieldLink RX8 52 "SongOfficeModel" "third" "[I" ∈ wsX8_closes := List.mem_of_getElem? (i := 6) rfl
theorem kX8_closes_5 : Cond.fieldLink RX8 49 "SongOfficeModel" "second" "[I" ∈ wsX8_closes := List.mem_of_getElem? (i := 5) rfl
theorem kX8_closes_3 : Cond.fieldLink RX8 55 "SongOfficeModel" "how" "[I" ∈ wsX8_closes := List.mem_of_getElem? (i := 3) rfl
theorem kX8_closes_2 : Cond.fieldLink RX8 58 "SongOfficeModel" "order" "[I" ∈ wsX8_closes := List.mem_of_getElem? (i := 2) rfl
theorem kX8_closes_1 : Cond.fieldLink RX8 61 "SongOfficeModel" "orderMany" "[I" ∈ wsX8_closes := List.mem_of_getElem? (i := 1) rfl
abbrev rmX8_closes : Room := { frames := 4, cells := 0, slots := 0, locals := 116 }
set_option maxHeartbeats 4000000 in
set_option maxRecDepth 100000 in
theorem c_X8_closes (l : Launch) (dC : Nat → ClassId) (dI : Nat → Nat → Nat) (a : Nat → Nat) (cy : Nat → ClassId) (sz : Nat) (I : TI) (J : TJ) (S : TS) (L : TL) (p0 : Int32) (p1 : Int32) (Φ : TI → TJ → TS → TL → Prop) (h : wp_X8_closes I J S L p0 p1 Φ) : Met l yX8_closes wsX8_closes rmX8_closes (va_Pc [.ref (a 0), .int p0, .int p1] (gpre dC dI (wM a cy I J S L) (tyM cy) sz)) (gQv dC dI (wM a cy) (tyM cy) (va_A (wM a cy I J S L) sz) Φ) 0 0 (va_A (wM a cy I J S L) sz) := by
  refine Met.ofW (cc := cX8_closes) (maxL := 6) (ret := none) (by decide) rfl ?_
  intro p e s m args below meth c s₁ B hml hv
  obtain ⟨hargs, hsz, hP, hK, hD0⟩ := hv
  have hx := B.exec
  have hb := B.bytes
  have hr := B.returns
  have hts := atoms_spec (ws := wsX8_closes) B.pre
  have hown : s.vm.findClass RX8 = some m.cls := findClass_of_methodNamed B.named
  have hlocks := B.notSynchronized
  subst hsz
  have hD := hD0.self (sz := s.heap.size)
  generalize hAe : va_A (wM a cy I J S L) s.heap.size = A at hD ⊢
  have hA : ∀ q : Nat, s.heap.size ≤ q → A q := fun q h => by rw [← hAe]; exact Or.inr h
  have hS : va_S A s.heap s.heap [] := va_S.rf
  have hl := lv_entry ([.ref (a 0), .int p0, .int p1]) (n := 6) (Nat.le_of_ble_eq_true rfl)
  have hE : entryFrame m args 6 = F0 m 0 ((lg_sl ([.ref (a 0), .int p0, .int p1]) ++ List.replicate (6 - (lg_sl ([.ref (a 0), .int p0, .int p1])).length) Slot.unset).toArray) [] := by rw [hargs]; exact lg_entry_eq m _ _
  rw [hE]
  clear hE
  generalize (lg_sl ([.ref (a 0), .int p0, .int p1]) ++ List.replicate (6 - (lg_sl ([.ref (a 0), .int p0, .int p1])).length) Slot.unset).toArray = ls at hl ⊢
  have hl : lv_has ls 6 [(0, .ref (a 0)), (1, .int p0), (2, .int p1)] := hl
  unfold wp_X8_closes at h
  refine lv_iconst (v := 0) hx hb dX8_closes_0 (by decide) ?_
  refine lv_istore_n (lv' := [(3, .int (0 : Int32)), (0, .ref (a 0)), (1, .int p0), (2, .int p1)]) hx hb dX8_closes_1 rfl hl (by decide) rfl (fun ls hl => ?_)
  obtain ⟨V_1, ⟨n_3, h0V_1⟩, hV_1⟩ := h
  have lV_1 : ∀ (n_2 : Nat) (I_4 : TI) (J_5 : TJ) (S_6 : TS) (L_7 : TL) (x_8 : Int32) (x_9 : Int32) (x_10 : Int32) (H : Heap) (locs : List Loc) (ls : Array Slot), va_P (dC, dI) vwCl (wM a cy I_4 J_5 S_6 L_7) H → va_D A (wM a cy I_4 J_5 S_6 L_7) → va_S A s.heap H locs → lv_has ls 6 [(0, .ref (a 0)), (1, .int x_8), (2, .int x_9), (3, .int x_10)] → V_1 n_2 I_4 J_5 S_6 L_7 x_8 x_9 x_10 → W p l e (headSpec wsX8_closes rmX8_closes).room s m args below meth c H locs 0 0 (MQ below (gQv dC dI (wM a cy) (tyM cy) A Φ) args s 0 0 A) (F0 m 2 ls []) := by
    intro n_2
    induction n_2 using Nat.strongRecOn with
    | ind n_2 ihV_1 =>
        intro I_4 J_5 S_6 L_7 x_8 x_9 x_10 H locs ls hP hD hS hl h
        have h := hV_1 n_2 I_4 J_5 S_6 L_7 x_8 x_9 x_10 h
        refine lv_iload_n hx hb dX8_closes_2 rfl (lv_at hl 3 rfl) ?_
        refine lv_aload_n hx hb dX8_closes_3 rfl (lv_at hl 0 rfl) ?_
        refine va_get (D := (dC, dI)) (ci := 8) (v := .ref (a 18)) (C := RX8) (T := TX8) (N := 47) hx hb hts nX8_closes_X8 hown hK hP 0 (wM_at0 _ _ _ _ _ _) rfl 19 (by decide) (hts (.fieldLink RX8 61 "SongOfficeModel" "orderMany" "[I") kX8_closes_1) (fun _ h9 => h9) rfl dX8_closes_4 ?_
        refine lv_iload_n hx hb dX8_closes_7 rfl (lv_at hl 2 rfl) ?_
        obtain ⟨hi, h⟩ := h
        refine va_iald hx hb hK hP 18 17 (wM_at18 _ _ _ _ _ _) rfl hi dX8_closes_8 ?_
        refine lv_icmp_ge (tgt := 155) hx hb dX8_closes_9 (by decide) (fun hc => ?_) (fun hc => ?_)
        · have h := h.1 hc
          refine lv_iconst (v := 0) hx hb dX8_closes_155 (by decide) ?_
          refine lv_istore_n (lv' := [(3, .int (0 : Int32)), (0, .ref (a 0)), (1, .int x_8), (2, .int x_9)]) hx hb dX8_closes_156 rfl hl (by decide) rfl (fun ls hl => ?_)
          obtain ⟨V_11, ⟨n_13, h0V_11⟩, hV_11⟩ := h
          have lV_11 : ∀ (n_12 : Nat) (I_14 : TI) (J_15 : TJ) (S_16 : TS) (L_17 : TL) (x_18 : Int32) (x_19 : Int32) (x_20 : Int32) (H : Heap) (locs : List Loc) (ls : Array Slot), va_P (dC, dI) vwCl (wM a cy I_14 J_15 S_16 L_17) H → va_D A (wM a cy I_14 J_15 S_16 L_17) → va_S A s.heap H locs → lv_has ls 6 [(0, .ref (a 0)), (1, .int x_18), (2, .int x_19), (3, .int x_20)] → V_11 n_12 I_14 J_15 S_16 L_17 x_18 x_19 x_20 → W p l e (headSpec wsX8_closes rmX8_closes).room s m args below meth c H locs 0 0 (MQ below (gQv dC dI (wM a cy) (tyM cy) A Φ) args s 0 0 A) (F0 m 157 ls []) := by
            intro n_12
            induction n_12 using Nat.strongRecOn with
            | ind n_12 ihV_11 =>
                intro I_14 J_15 S_16 L_17 x_18 x_19 x_20 H locs ls hP hD hS hl h
                have h := hV_11 n_12 I_14 J_15 S_16 L_17 x_18 x_19 x_20 h
                refine lv_iload_n hx hb dX8_closes_157 rfl (lv_at hl 3 rfl) ?_
                refine lv_aload_n hx hb dX8_closes_158 rfl (lv_at hl 0 rfl) ?_
                refine va_get (D := (dC, dI)) (ci := 8) (v := .int (S_16 1)) (C := RX8) (T := TX8) (N := 47) hx hb hts nX8_closes_X8 hown hK hP 0 (wM_at0 _ _ _ _ _ _) rfl 5 (by decide) (hts (.fieldLink RX8 157 "SongOfficeModel" "bargains" "I") kX8_closes_7) (fun _ h9 => h9) rfl dX8_closes_159 ?_
                refine lv_icmp_ge (tgt := 252) hx hb dX8_closes_162 (by decide) (fun hc => ?_) (fun hc => ?_)
                · have h := h.1 hc
                  refine lv_iconst (v := 0) hx hb dX8_closes_252 (by decide) ?_
                  refine lv_istore_n (lv' := [(3, .int (0 : Int32)), (0, .ref (a 0)), (1, .int x_18), (2, .int x_19)]) hx hb dX8_closes_253 rfl hl (by decide) rfl (fun ls hl => ?_)
                  obtain ⟨V_21, ⟨n_23, h0V_21⟩, hV_21⟩ := h
                  have lV_21 : ∀ (n_22 : Nat) (I_24 : TI) (J_25 : TJ) (S_26 : TS) (L_27 : TL) (x_28 : Int32) (x_29 : Int32) (x_30 : Int32) (H : Heap) (locs : List Loc) (ls : Array Slot), va_P (dC, dI) vwCl (wM a cy I_24 J_25 S_26 L_27) H → va_D A (wM a cy I_24 J_25 S_26 L_27) → va_S A s.heap H locs → lv_has ls 6 [(0, .ref (a 0)), (1, .int x_28), (2, .int x_29), (3, .int x_30)] → V_21 n_22 I_24 J_25 S_26 L_27 x_28 x_29 x_30 → W p l e (headSpec wsX8_closes rmX8_closes).room s m args below meth c H locs 0 0 (MQ below (gQv dC dI (wM a cy) (tyM cy) A Φ) args s 0 0 A) (F0 m 254 ls []) := by
                    intro n_22
                    induction n_22 using Nat.strongRecOn with
                    | ind n_22 ihV_21 =>
                        intro I_24 J_25 S_26 L_27 x_28 x_29 x_30 H locs ls hP hD hS hl h
                        have h := hV_21 n_22 I_24 J_25 S_26 L_27 x_28 x_29 x_30 h
                        refine lv_iload_n hx hb dX8_closes_254 rfl (lv_at hl 3 rfl) ?_
                        refine lv_bipush (v := 12) hx hb dX8_closes_255 (by decide) ?_
                        refine lv_icmp_ge (tgt := 273) hx hb dX8_closes_257 (by decide) (fun hc => ?_) (fun hc => ?_)
                        · have h := h.1 hc
                          refine lv_iconst (v := 0) hx hb dX8_closes_273 (by decide) ?_
                          refine lv_istore_n (lv' := [(3, .int (0 : Int32)), (0, .ref (a 0)), (1, .int x_28), (2, .int x_29)]) hx hb dX8_closes_274 rfl hl (by decide) rfl (fun ls hl => ?_)
                          obtain ⟨V_31, ⟨n_33, h0V_31⟩, hV_31⟩ := h
                          have lV_31 : ∀ (n_32 : Nat) (I_34 : TI) (J_35 : TJ) (S_36 : TS) (L_37 : TL) (x_38 : Int32) (x_39 : Int32) (x_40 : Int32) (H : Heap) (locs : List Loc) (ls : Array Slot), va_P (dC, dI) vwCl (wM a cy I_34 J_35 S_36 L_37) H → va_D A (wM a cy I_34 J_35 S_36 L_37) → va_S A s.heap H locs → lv_has ls 6 [(0, .ref (a 0)), (1, .int x_38), (2, .int x_39), (3, .int x_40)] → V_31 n_32 I_34 J_35 S_36 L_37 x_38 x_39 x_40 → W p l e (headSpec wsX8_closes rmX8_closes).room s m args below meth c H locs 0 0 (MQ below (gQv dC dI (wM a cy) (tyM cy) A Φ) args s 0 0 A) (F0 m 275 ls []) := by
                            intro n_32
                            induction n_32 using Nat.strongRecOn with
                            | ind n_32 ihV_31 =>
                                intro I_34 J_35 S_36 L_37 x_38 x_39 x_40 H locs ls hP hD hS hl h
                                have h := hV_31 n_32 I_34 J_35 S_36 L_37 x_38 x_39 x_40 h
                                refine lv_iload_n hx hb dX8_closes_275 rfl (lv_at hl 3 rfl) ?_
                                refine lv_aload_n hx hb dX8_closes_276 rfl (lv_at hl 0 rfl) ?_
                                refine va_get (D := (dC, dI)) (ci := 8) (v := .int (S_36 1)) (C := RX8) (T := TX8) (N := 47) hx hb hts nX8_closes_X8 hown hK hP 0 (wM_at0 _ _ _ _ _ _) rfl 5 (by decide) (hts (.fieldLink RX8 157 "SongOfficeModel" "bargains" "I") kX8_closes_7) (fun _ h9 => h9) rfl dX8_closes_277 ?_
                                obtain ⟨B_41, hB_41, h⟩ := h
                                have jB_41 : ∀ (I_42 : TI) (J_43 : TJ) (S_44 : TS) (L_45 : TL) (H : Heap) (locs : List Loc) (ls : Array Slot), va_P (dC, dI) vwCl (wM a cy I_42 J_43 S_44 L_45) H → va_D A (wM a cy I_42 J_43 S_44 L_45) → va_S A s.heap H locs → lv_has ls 6 [] → B_41 I_42 J_43 S_44 L_45 → W p l e (headSpec wsX8_closes rmX8_closes).room s m args below meth c H locs 0 0 (MQ below (gQv dC dI (wM a cy) (tyM cy) A Φ) args s 0 0 A) (F0 m 329 ls []) := by
                                  intro I_42 J_43 S_44 L_45 H locs ls hP hD hS hl h
                                  have h := hB_41 I_42 J_43 S_44 L_45 h
                                  exact grv hx hb hr hlocks hP hK hD hS h dX8_closes_329
                                refine lv_icmp_ge (tgt := 329) hx hb dX8_closes_280 (by decide) (fun hc => ?_) (fun hc => ?_)
                                · have h := h.1 hc
                                  exact jB_41 I_34 J_35 S_36 L_37 _ _ _ hP hD hS (lv_sub hl [] rfl) h
                                · have h := h.2 hc
                                  refine lv_iload_n hx hb dX8_closes_283 rfl (lv_at hl 2 rfl) ?_
                                  refine lv_iconst (v := 4) hx hb dX8_closes_284 (by decide) ?_
                                  refine lv_irem hx hb dX8_closes_285 (by decide) ?_
                                  refine lv_iconst (v := 3) hx hb dX8_closes_286 (by decide) ?_
                                  refine lv_icmp_ne (tgt := 329) hx hb dX8_closes_287 (by decide) (fun hc => ?_) (fun hc => ?_)
                                  · have h := h.1 hc
                                    exact jB_41 I_34 J_35 S_36 L_37 _ _ _ hP hD hS (lv_sub hl [] rfl) h
                                  · have h := h.2 hc
                                    refine lv_aload_n hx hb dX8_closes_290 rfl (lv_at hl 0 rfl) ?_
                                    refine va_get (D := (dC, dI)) (ci := 8) (v := .ref (a 5)) (C := RX8) (T := TX8) (N := 47) hx hb hts nX8_closes_X8 hown hK hP 0 (wM_at0 _ _ _ _ _ _) rfl 6 (by decide) (hts (.fieldLink RX8 22 "SongOfficeModel" "kind" "[I") kX8_closes_8) (fun _ h9 => h9) rfl dX8_closes_291 ?_
                                    refine lv_iload_n hx hb dX8_closes_294 rfl (lv_at hl 3 rfl) ?_
                                    obtain ⟨hi, h⟩ := h
                                    refine va_iald hx hb hK hP 5 4 (wM_at5 _ _ _ _ _ _) rfl hi dX8_closes_295 ?_
                                    refine lv_iconst (v := 2) hx hb dX8_closes_296 (by decide) ?_
                                    obtain ⟨B_46, hB_46, h⟩ := h
                                    have jB_46 : ∀ (I_47 : TI) (J_48 : TJ) (S_49 : TS) (L_50 : TL) (x_51 : Int32) (x_52 : Int32) (x_53 : Int32) (H : Heap) (locs : List Loc) (ls : Array Slot), va_P (dC, dI) vwCl (wM a cy I_47 J_48 S_49 L_50) H → va_D A (wM a cy I_47 J_48 S_49 L_50) → va_S A s.heap H locs → lv_has ls 6 [(0, .ref (a 0)), (1, .int x_51), (2, .int x_52), (3, .int x_53)] → B_46 I_47 J_48 S_49 L_50 x_51 x_52 x_53 → W p l e (headSpec wsX8_closes rmX8_closes).room s m args below meth c H locs 0 0 (MQ below (gQv dC dI (wM a cy) (tyM cy) A Φ) args s 0 0 A) (F0 m 323 ls []) := by
                                      intro I_47 J_48 S_49 L_50 x_51 x_52 x_53 H locs ls hP hD hS hl h
                                      have h := hB_46 I_47 J_48 S_49 L_50 x_51 x_52 x_53 h
                                      obtain ⟨x_54, ex_54⟩ : ∃ z : Int32, z = x_53 + 1 := ⟨_, rfl⟩
                                      have h := h x_54 ex_54
                                      refine lv_iinc (v := x_54) (lv' := [(3, .int x_54), (0, .ref (a 0)), (1, .int x_51), (2, .int x_52)]) hx hb dX8_closes_323 hl (k := 3) rfl (by rw [ex_54]; rfl) (by decide) rfl (fun ls hl => ?_)
                                      refine lv_goto (tgt := 275) hx hb dX8_closes_326 (by decide) ?_
                                      obtain ⟨n_55, hn2, h⟩ := h
                                      exact ihV_31 n_55 hn2 I_47 J_48 S_49 L_50 x_51 x_52 x_54 _ _ _ hP hD hS (lv_sub hl [1, 2, 3, 0] rfl) h
                                    refine lv_icmp_ne (tgt := 323) hx hb dX8_closes_297 (by decide) (fun hc => ?_) (fun hc => ?_)
                                    · have h := h.1 hc
                                      exact jB_46 I_34 J_35 S_36 L_37 x_38 x_39 x_40 _ _ _ hP hD hS (lv_sub hl [0, 1, 2, 3] rfl) h
                                    · have h := h.2 hc
                                      refine lv_aload_n hx hb dX8_closes_300 rfl (lv_at hl 0 rfl) ?_
                                      refine va_get (D := (dC, dI)) (ci := 8) (v := .ref (a 8)) (C := RX8) (T := TX8) (N := 47) hx hb hts nX8_closes_X8 hown hK hP 0 (wM_at0 _ _ _ _ _ _) rfl 9 (by decide) (hts (.fieldLink RX8 31 "SongOfficeModel" "since" "[I") kX8_closes_13) (fun _ h9 => h9) rfl dX8_closes_301 ?_
                                      refine lv_iload_n hx hb dX8_closes_304 rfl (lv_at hl 3 rfl) ?_
                                      obtain ⟨hi, h⟩ := h
                                      refine va_iald hx hb hK hP 8 7 (wM_at8 _ _ _ _ _ _) rfl hi dX8_closes_305 ?_
                                      refine lv_bipush (v := 90) hx hb dX8_closes_306 (by decide) ?_
                                      refine lv_iload_n hx hb dX8_closes_308 rfl (lv_at hl 2 rfl) ?_
                                      refine lv_imul hx hb dX8_closes_309 ?_
                                      refine lv_bipush (v := 89) hx hb dX8_closes_310 (by decide) ?_
                                      refine lv_iadd hx hb dX8_closes_312 ?_
                                      refine lv_icmp_gt (tgt := 323) hx hb dX8_closes_313 (by decide) (fun hc => ?_) (fun hc => ?_)
                                      · have h := h.1 hc
                                        exact jB_46 I_34 J_35 S_36 L_37 x_38 x_39 x_40 _ _ _ hP hD hS (lv_sub hl [0, 1, 2, 3] rfl) h
                                      · have h := h.2 hc
                                        refine lv_aload_n hx hb dX8_closes_316 rfl (lv_at hl 0 rfl) ?_
                                        refine lv_iload_n hx hb dX8_closes_317 rfl (lv_at hl 1 rfl) ?_
                                        refine lv_iload_n hx hb dX8_closes_318 rfl (lv_at hl 2 rfl) ?_
                                        refine lv_iload_n hx hb dX8_closes_319 rfl (lv_at hl 3 rfl) ?_
                                        refine gcallv (va_runV (As := [.int x_38, .int x_39, .int x_40]) (rest := []) ⟨hx, hb, hml, hown, hts⟩ (c_X8_fills l dC dI a cy H.size I_34 J_35 S_36 L_37 x_38 x_39 x_40 _ h) (cwV 3 hts gX8_closes_X8_fills rfl rfl rfl (by decide +kernel) ⟨(Nat.le_of_ble_eq_true rfl), (Nat.le_of_ble_eq_true rfl)⟩) (g_pV hP hK hD (va_recv hK hP (ci := 8) (q0 := 0) rfl (wM_at0 _ _ _ _ _ _)) [.int x_38, .int x_39, .int x_40]) rfl rfl hl.1 rfl (lv_room (Nat.le_of_ble_eq_true rfl)) dX8_closes_320 ⟨(Nat.le_of_ble_eq_true rfl), (Nat.le_of_ble_eq_true rfl)⟩) hS hA hD (fun I_56 J_57 S_58 L_59 H locs hP hD hS h => ?_)
                                        exact jB_46 I_56 J_57 S_58 L_59 x_38 x_39 x_40 _ _ _ hP hD hS (lv_sub hl [0, 1, 2, 3] rfl) h
                          exact lV_31 n_33 I_24 J_25 S_26 L_27 x_28 x_29 (0 : Int32) _ _ _ hP hD hS (lv_sub hl [1, 2, 3, 0] rfl) h0V_31
                        · have h := h.2 hc
                          refine lv_aload_n hx hb dX8_closes_260 rfl (lv_at hl 0 rfl) ?_
                          refine lv_iload_n hx hb dX8_closes_261 rfl (lv_at hl 1 rfl) ?_
                          refine lv_iload_n hx hb dX8_closes_262 rfl (lv_at hl 2 rfl) ?_
                          refine lv_iload_n hx hb dX8_closes_263 rfl (lv_at hl 3 rfl) ?_
                          refine gcallv (va_runV (As := [.int x_28, .int x_29, .int x_30]) (rest := []) ⟨hx, hb, hml, hown, hts⟩ (c_X8_pays l dC dI a cy H.size I_24 J_25 S_26 L_27 x_28 x_29 x_30 _ h) (cwV 3 hts gX8_closes_X8_pays rfl rfl rfl (by decide +kernel) ⟨(Nat.le_of_ble_eq_true rfl), (Nat.le_of_ble_eq_true rfl)⟩) (g_pV hP hK hD (va_recv hK hP (ci := 8) (q0 := 0) rfl (wM_at0 _ _ _ _ _ _)) [.int x_28, .int x_29, .int x_30]) rfl rfl hl.1 rfl (lv_room (Nat.le_of_ble_eq_true rfl)) dX8_closes_264 ⟨(Nat.le_of_ble_eq_true rfl), (Nat.le_of_ble_eq_true rfl)⟩) hS hA hD (fun I_60 J_61 S_62 L_63 H locs hP hD hS h => ?_)
                          obtain ⟨x_64, ex_64⟩ : ∃ z : Int32, z = x_30 + 1 := ⟨_, rfl⟩
                          have h := h x_64 ex_64
                          refine lv_iinc (v := x_64) (lv' := [(3, .int x_64), (0, .ref (a 0)), (1, .int x_28), (2, .int x_29)]) hx hb dX8_closes_267 hl (k := 3) rfl (by rw [ex_64]; rfl) (by decide) rfl (fun ls hl => ?_)
                          refine lv_goto (tgt := 254) hx hb dX8_closes_270 (by decide) ?_
                          obtain ⟨n_65, hn2, h⟩ := h
                          exact ihV_21 n_65 hn2 I_60 J_61 S_62 L_63 x_28 x_29 x_64 _ _ _ hP hD hS (lv_sub hl [1, 2, 3, 0] rfl) h
                  exact lV_21 n_23 I_14 J_15 S_16 L_17 x_18 x_19 (0 : Int32) _ _ _ hP hD hS (lv_sub hl [1, 2, 3, 0] rfl) h0V_21
                · have h := h.2 hc
                  refine lv_aload_n hx hb dX8_closes_165 rfl (lv_at hl 0 rfl) ?_
                  refine va_get (D := (dC, dI)) (ci := 8) (v := .ref (a 5)) (C := RX8) (T := TX8) (N := 47) hx hb hts nX8_closes_X8 hown hK hP 0 (wM_at0 _ _ _ _ _ _) rfl 6 (by decide) (hts (.fieldLink RX8 22 "SongOfficeModel" "kind" "[I") kX8_closes_8) (fun _ h9 => h9) rfl dX8_closes_166 ?_
                  refine lv_iload_n hx hb dX8_closes_169 rfl (lv_at hl 3 rfl) ?_
                  obtain ⟨hi, h⟩ := h
                  refine va_iald hx hb hK hP 5 4 (wM_at5 _ _ _ _ _ _) rfl hi dX8_closes_170 ?_
                  refine lv_iconst (v := 4) hx hb dX8_closes_171 (by decide) ?_
                  obtain ⟨B_66, hB_66, h⟩ := h
                  have jB_66 : ∀ (I_67 : TI) (J_68 : TJ) (S_69 : TS) (L_70 : TL) (x_71 : Int32) (x_72 : Int32) (x_73 : Int32) (H : Heap) (locs : List Loc) (ls : Array Slot), va_P (dC, dI) vwCl (wM a cy I_67 J_68 S_69 L_70) H → va_D A (wM a cy I_67 J_68 S_69 L_70) → va_S A s.heap H locs → lv_has ls 6 [(0, .ref (a 0)), (1, .int x_71), (2, .int x_72), (3, .int x_73)] → B_66 I_67 J_68 S_69 L_70 x_71 x_72 x_73 → W p l e (headSpec wsX8_closes rmX8_closes).room s m args below meth c H locs 0 0 (MQ below (gQv dC dI (wM a cy) (tyM cy) A Φ) args s 0 0 A) (F0 m 246 ls []) := by
                    intro I_67 J_68 S_69 L_70 x_71 x_72 x_73 H locs ls hP hD hS hl h
                    have h := hB_66 I_67 J_68 S_69 L_70 x_71 x_72 x_73 h
                    obtain ⟨x_74, ex_74⟩ : ∃ z : Int32, z = x_73 + 1 := ⟨_, rfl⟩
                    have h := h x_74 ex_74
                    refine lv_iinc (v := x_74) (lv' := [(3, .int x_74), (0, .ref (a 0)), (1, .int x_71), (2, .int x_72)]) hx hb dX8_closes_246 hl (k := 3) rfl (by rw [ex_74]; rfl) (by decide) rfl (fun ls hl => ?_)
                    refine lv_goto (tgt := 157) hx hb dX8_closes_249 (by decide) ?_
                    obtain ⟨n_75, hn2, h⟩ := h
                    exact ihV_11 n_75 hn2 I_67 J_68 S_69 L_70 x_71 x_72 x_74 _ _ _ hP hD hS (lv_sub hl [1, 2, 3, 0] rfl) h
                  refine lv_icmp_ne (tgt := 246) hx hb dX8_closes_172 (by decide) (fun hc => ?_) (fun hc => ?_)
                  · have h := h.1 hc
                    exact jB_66 I_14 J_15 S_16 L_17 x_18 x_19 x_20 _ _ _ hP hD hS (lv_sub hl [0, 1, 2, 3] rfl) h
                  · have h := h.2 hc
                    refine lv_iload_n hx hb dX8_closes_175 rfl (lv_at hl 2 rfl) ?_
                    refine lv_aload_n hx hb dX8_closes_176 rfl (lv_at hl 0 rfl) ?_
                    refine va_get (D := (dC, dI)) (ci := 8) (v := .ref (a 10)) (C := RX8) (T := TX8) (N := 47) hx hb hts nX8_closes_X8 hown hK hP 0 (wM_at0 _ _ _ _ _ _) rfl 11 (by decide) (hts (.fieldLink RX8 37 "SongOfficeModel" "by" "[I") kX8_closes_9) (fun _ h9 => h9) rfl dX8_closes_177 ?_
                    refine lv_iload_n hx hb dX8_closes_180 rfl (lv_at hl 3 rfl) ?_
                    obtain ⟨hi, h⟩ := h
                    refine va_iald hx hb hK hP 10 9 (wM_at10 _ _ _ _ _ _) rfl hi dX8_closes_181 ?_
                    refine lv_icmp_ge (tgt := 188) hx hb dX8_closes_182 (by decide) (fun hc => ?_) (fun hc => ?_)
                    · have h := h.1 hc
                      refine lv_iload_n hx hb dX8_closes_188 rfl (lv_at hl 1 rfl) ?_
                      refine lv_iload_n hx hb dX8_closes_189 rfl (lv_at hl 3 rfl) ?_
                      refine lv_iload_n hx hb dX8_closes_190 rfl (lv_at hl 2 rfl) ?_
                      refine lv_aload_n hx hb dX8_closes_191 rfl (lv_at hl 0 rfl) ?_
                      refine va_get (D := (dC, dI)) (ci := 8) (v := .ref (a 10)) (C := RX8) (T := TX8) (N := 47) hx hb hts nX8_closes_X8 hown hK hP 0 (wM_at0 _ _ _ _ _ _) rfl 11 (by decide) (hts (.fieldLink RX8 37 "SongOfficeModel" "by" "[I") kX8_closes_9) (fun _ h9 => h9) rfl dX8_closes_192 ?_
                      refine lv_iload_n hx hb dX8_closes_195 rfl (lv_at hl 3 rfl) ?_
                      obtain ⟨hi, h⟩ := h
                      refine va_iald hx hb hK hP 10 9 (wM_at10 _ _ _ _ _ _) rfl hi dX8_closes_196 ?_
                      refine lv_isub hx hb dX8_closes_197 ?_
                      refine gcalli (va_runS (As := [.int x_18, .int x_20, .int (x_19 - (I_14 10 (x_20).toNatClampNeg))]) (rest := []) ⟨hx, hb, hml, hown, hts⟩ (c_X8_bag l dC dI (wM a cy) (tyM cy) H.size I_14 J_15 S_16 L_17 x_18 x_20 (x_19 - (I_14 10 (x_20).toNatClampNeg)) _ h) (va_cwS 3 hts gX8_closes_X8_bag rfl rfl rfl (by decide +kernel) ⟨(Nat.le_of_ble_eq_true rfl), (Nat.le_of_ble_eq_true rfl)⟩) (g_pS hP hK hD [.int x_18, .int x_20, .int (x_19 - (I_14 10 (x_20).toNatClampNeg))]) rfl rfl hl.1 rfl (lv_room (Nat.le_of_ble_eq_true rfl)) dX8_closes_198 ⟨(Nat.le_of_ble_eq_true rfl), (Nat.le_of_ble_eq_true rfl)⟩) hS hA hD (fun r_80 I_76 J_77 S_78 L_79 H locs hP hD hS h => ?_)
                      refine lv_istore (lv' := [(4, .int r_80), (0, .ref (a 0)), (1, .int x_18), (2, .int x_19), (3, .int x_20)]) hx hb dX8_closes_201 hl (by decide) rfl (fun ls hl => ?_)
                      refine lv_bipush (v := 12) hx hb dX8_closes_203 (by decide) ?_
                      refine lv_iload_n hx hb dX8_closes_205 rfl (lv_at hl 2 rfl) ?_
                      refine lv_imul hx hb dX8_closes_206 ?_
                      refine lv_aload_n hx hb dX8_closes_207 rfl (lv_at hl 1 rfl) ?_
                      refine va_get (D := (dC, dI)) (ci := 8) (v := .ref (a 6)) (C := RX8) (T := TX8) (N := 47) hx hb hts nX8_closes_X8 hown hK hP 0 (wM_at0 _ _ _ _ _ _) rfl 7 (by decide) (hts (.fieldLink RX8 25 "SongOfficeModel" "hand" "[I") kX8_closes_10) (fun _ h9 => h9) rfl dX8_closes_208 ?_
                      refine lv_iload_n hx hb dX8_closes_211 rfl (lv_at hl 4 rfl) ?_
                      obtain ⟨hi, h⟩ := h
                      refine va_iald hx hb hK hP 6 5 (wM_at6 _ _ _ _ _ _) rfl hi dX8_closes_212 ?_
                      refine lv_iadd hx hb dX8_closes_213 ?_
                      refine lv_topi (fun x_81 ex_81 => ?_)
                      have h := h x_81 ex_81
                      refine lv_istore (lv' := [(5, .int x_81), (4, .int r_80), (0, .ref (a 0)), (1, .int x_18), (2, .int x_19), (3, .int x_20)]) hx hb dX8_closes_214 hl (by decide) rfl (fun ls hl => ?_)
                      refine lv_aload_n hx hb dX8_closes_216 rfl (lv_at hl 2 rfl) ?_
                      refine va_get (D := (dC, dI)) (ci := 8) (v := .ref (a 21)) (C := RX8) (T := TX8) (N := 47) hx hb hts nX8_closes_X8 hown hK hP 0 (wM_at0 _ _ _ _ _ _) rfl 22 (by decide) (hts (.fieldLink RX8 71 "SongOfficeModel" "purse" "[J") kX8_closes_11) (fun _ h9 => h9) rfl dX8_closes_217 ?_
                      refine lv_iload hx hb dX8_closes_220 (lv_at hl 0 rfl) ?_
                      refine lv_aload_n hx hb dX8_closes_222 rfl (lv_at hl 2 rfl) ?_
                      refine va_get (D := (dC, dI)) (ci := 8) (v := .ref (a 21)) (C := RX8) (T := TX8) (N := 47) hx hb hts nX8_closes_X8 hown hK hP 0 (wM_at0 _ _ _ _ _ _) rfl 22 (by decide) (hts (.fieldLink RX8 71 "SongOfficeModel" "purse" "[J") kX8_closes_11) (fun _ h9 => h9) rfl dX8_closes_223 ?_
                      refine lv_iload hx hb dX8_closes_226 (lv_at hl 0 rfl) ?_
                      obtain ⟨hi, h⟩ := h
                      refine va_lald hx hb hK hP 21 20 (wM_at21 _ _ _ _ _ _) rfl hi dX8_closes_228 ?_
                      refine lv_aload_n hx hb dX8_closes_229 rfl (lv_at hl 2 rfl) ?_
                      refine va_get (D := (dC, dI)) (ci := 8) (v := .ref (a 25)) (C := RX8) (T := TX8) (N := 47) hx hb hts nX8_closes_X8 hown hK hP 0 (wM_at0 _ _ _ _ _ _) rfl 26 (by decide) (hts (.fieldLink RX8 84 "SongOfficeModel" "bags" "[J") kX8_closes_12) (fun _ h9 => h9) rfl dX8_closes_230 ?_
                      refine lv_iload hx hb dX8_closes_233 (lv_at hl 1 rfl) ?_
                      obtain ⟨hi, h⟩ := h
                      refine va_lald hx hb hK hP 25 24 (wM_at25 _ _ _ _ _ _) rfl hi dX8_closes_235 ?_
                      refine lv_ladd hx hb dX8_closes_236 ?_
                      obtain ⟨hi, h⟩ := h
                      obtain ⟨J_82, eJ_82⟩ : ∃ z : TJ, z = va_up J_77 21 (vp_updL (J_77 21) (x_81).toNatClampNeg ((J_77 21 (x_81).toNatClampNeg) + (J_77 25 (r_80).toNatClampNeg))) := ⟨_, rfl⟩
                      have h := h J_82 eJ_82
                      refine va_last hx hb hK hP hD hS 21 20 (wM_at21 _ _ _ _ _ _) rfl hi dX8_closes_237 (fun H locs hP hD hS => ?_)
                      have hP : va_P (dC, dI) vwCl (wM a cy I_76 J_82 S_78 L_79) H := by rw [eJ_82]; exact setP hP (wM_set21 _ _ _ _ _ _ _)
                      have hD : va_D A (wM a cy I_76 J_82 S_78 L_79) := by rw [eJ_82]; exact setD hD (wM_set21 _ _ _ _ _ _ _)
                      refine lv_aload_n hx hb dX8_closes_238 rfl (lv_at hl 2 rfl) ?_
                      refine va_get (D := (dC, dI)) (ci := 8) (v := .ref (a 25)) (C := RX8) (T := TX8) (N := 47) hx hb hts nX8_closes_X8 hown hK hP 0 (wM_at0 _ _ _ _ _ _) rfl 26 (by decide) (hts (.fieldLink RX8 84 "SongOfficeModel" "bags" "[J") kX8_closes_12) (fun _ h9 => h9) rfl dX8_closes_239 ?_
                      refine lv_iload hx hb dX8_closes_242 (lv_at hl 1 rfl) ?_
                      refine lv_lconst (v := 0) hx hb dX8_closes_244 (by decide) ?_
                      obtain ⟨hi, h⟩ := h
                      obtain ⟨J_83, eJ_83⟩ : ∃ z : TJ, z = va_up J_82 25 (vp_updL (J_82 25) (r_80).toNatClampNeg (0 : Int64)) := ⟨_, rfl⟩
                      have h := h J_83 eJ_83
                      refine va_last hx hb hK hP hD hS 25 24 (wM_at25 _ _ _ _ _ _) rfl hi dX8_closes_245 (fun H locs hP hD hS => ?_)
                      have hP : va_P (dC, dI) vwCl (wM a cy I_76 J_83 S_78 L_79) H := by rw [eJ_83]; exact setP hP (wM_set25 _ _ _ _ _ _ _)
                      have hD : va_D A (wM a cy I_76 J_83 S_78 L_79) := by rw [eJ_83]; exact setD hD (wM_set25 _ _ _ _ _ _ _)
                      exact jB_66 I_76 J_83 S_78 L_79 x_18 x_19 x_20 _ _ _ hP hD hS (lv_sub hl [2, 3, 4, 5] rfl) h
                    · have h := h.2 hc
                      refine lv_goto (tgt := 246) hx hb dX8_closes_185 (by decide) ?_
                      exact jB_66 I_14 J_15 S_16 L_17 x_18 x_19 x_20 _ _ _ hP hD hS (lv_sub hl [0, 1, 2, 3] rfl) h
          exact lV_11 n_13 I_4 J_5 S_6 L_7 x_8 x_9 (0 : Int32) _ _ _ hP hD hS (lv_sub hl [1, 2, 3, 0] rfl) h0V_11
        · have h := h.2 hc
          refine lv_aload_n hx hb dX8_closes_12 rfl (lv_at hl 0 rfl) ?_
          refine va_get (D := (dC, dI)) (ci := 8) (v := .ref (a 17)) (C := RX8) (T := TX8) (N := 47) hx hb hts nX8_closes_X8 hown hK hP 0 (wM_at0 _ _ _ _ _ _) rfl 18 (by decide) (hts (.fieldLink RX8 58 "SongOfficeModel" "order" "[I") kX8_closes_2) (fun _ h9 => h9) rfl dX8_closes_13 ?_
          refine lv_bipush (v := 12) hx hb dX8_closes_16 (by decide) ?_
          refine lv_iload_n hx hb dX8_closes_18 rfl (lv_at hl 2 rfl) ?_
          refine lv_imul hx hb dX8_closes_19 ?_
          refine lv_iload_n hx hb dX8_closes_20 rfl (lv_at hl 3 rfl) ?_
          refine lv_iadd hx hb dX8_closes_21 ?_
          obtain ⟨hi, h⟩ := h
          refine va_iald hx hb hK hP 17 16 (wM_at17 _ _ _ _ _ _) rfl hi dX8_closes_22 ?_
          refine lv_topi (fun x_84 ex_84 => ?_)
          have h := h x_84 ex_84
          refine lv_istore (lv' := [(4, .int x_84), (0, .ref (a 0)), (1, .int x_8), (2, .int x_9), (3, .int x_10)]) hx hb dX8_closes_23 hl (by decide) rfl (fun ls hl => ?_)
          refine lv_bipush (v := 12) hx hb dX8_closes_25 (by decide) ?_
          refine lv_iload_n hx hb dX8_closes_27 rfl (lv_at hl 3 rfl) ?_
          refine lv_imul hx hb dX8_closes_28 ?_
          refine lv_iload hx hb dX8_closes_29 (lv_at hl 0 rfl) ?_
          refine lv_iadd hx hb dX8_closes_31 ?_
          refine lv_topi (fun x_85 ex_85 => ?_)
          have h := h x_85 ex_85
          refine lv_istore (lv' := [(5, .int x_85), (4, .int x_84), (0, .ref (a 0)), (1, .int x_8), (2, .int x_9), (3, .int x_10)]) hx hb dX8_closes_32 hl (by decide) rfl (fun ls hl => ?_)
          refine lv_aload_n hx hb dX8_closes_34 rfl (lv_at hl 2 rfl) ?_
          refine lv_iload_n hx hb dX8_closes_35 rfl (lv_at hl 4 rfl) ?_
          refine lv_iload hx hb dX8_closes_36 (lv_at hl 1 rfl) ?_
          refine gcalli (va_runV (As := [.int x_9, .int x_84]) (rest := []) ⟨hx, hb, hml, hown, hts⟩ (c_X8_isOpen l dC dI a cy H.size I_4 J_5 S_6 L_7 x_9 x_84 _ h) (cwV 2 hts gX8_closes_X8_isOpen rfl rfl rfl (by decide +kernel) ⟨(Nat.le_of_ble_eq_true rfl), (Nat.le_of_ble_eq_true rfl)⟩) (g_pV hP hK hD (va_recv hK hP (ci := 8) (q0 := 0) rfl (wM_at0 _ _ _ _ _ _)) [.int x_9, .int x_84]) rfl rfl hl.1 rfl (lv_room (Nat.le_of_ble_eq_true rfl)) dX8_closes_38 ⟨(Nat.le_of_ble_eq_true rfl), (Nat.le_of_ble_eq_true rfl)⟩) hS hA hD (fun r_90 I_86 J_87 S_88 L_89 H locs hP hD hS h => ?_)
          obtain ⟨B_91, hB_91, h⟩ := h
          have jB_91 : ∀ (I_92 : TI) (J_93 : TJ) (S_94 : TS) (L_95 : TL) (x_96 : Int32) (x_97 : Int32) (x_98 : Int32) (H : Heap) (locs : List Loc) (ls : Array Slot), va_P (dC, dI) vwCl (wM a cy I_92 J_93 S_94 L_95) H → va_D A (wM a cy I_92 J_93 S_94 L_95) → va_S A s.heap H locs → lv_has ls 6 [(0, .ref (a 0)), (1, .int x_96), (2, .int x_97), (3, .int x_98)] → B_91 I_92 J_93 S_94 L_95 x_96 x_97 x_98 → W p l e (headSpec wsX8_closes rmX8_closes).room s m args below meth c H locs 0 0 (MQ below (gQv dC dI (wM a cy) (tyM cy) A Φ) args s 0 0 A) (F0 m 149 ls []) := by
            intro I_92 J_93 S_94 L_95 x_96 x_97 x_98 H locs ls hP hD hS hl h
            have h := hB_91 I_92 J_93 S_94 L_95 x_96 x_97 x_98 h
            obtain ⟨x_99, ex_99⟩ : ∃ z : Int32, z = x_98 + 1 := ⟨_, rfl⟩
            have h := h x_99 ex_99
            refine lv_iinc (v := x_99) (lv' := [(3, .int x_99), (0, .ref (a 0)), (1, .int x_96), (2, .int x_97)]) hx hb dX8_closes_149 hl (k := 3) rfl (by rw [ex_99]; rfl) (by decide) rfl (fun ls hl => ?_)
            refine lv_goto (tgt := 2) hx hb dX8_closes_152 (by decide) ?_
            obtain ⟨n_100, hn2, h⟩ := h
            exact ihV_1 n_100 hn2 I_92 J_93 S_94 L_95 x_96 x_97 x_99 _ _ _ hP hD hS (lv_sub hl [1, 2, 3, 0] rfl) h
          refine lv_if_eq (tgt := 47) hx hb dX8_closes_41 (by decide) (fun hc => ?_) (fun hc => ?_)
          · have h := h.1 hc
            refine lv_aload_n hx hb dX8_closes_47 rfl (lv_at hl 2 rfl) ?_
            refine va_get (D := (dC, dI)) (ci := 8) (v := .ref (a 16)) (C := RX8) (T := TX8) (N := 47) hx hb hts nX8_closes_X8 hown hK hP 0 (wM_at0 _ _ _ _ _ _) rfl 17 (by decide) (hts (.fieldLink RX8 55 "SongOfficeModel" "how" "[I") kX8_closes_3) (fun _ h9 => h9) rfl dX8_closes_48 ?_
            refine lv_iload hx hb dX8_closes_51 (lv_at hl 0 rfl) ?_
            obtain ⟨hi, h⟩ := h
            refine va_iald hx hb hK hP 16 15 (wM_at16 _ _ _ _ _ _) rfl hi dX8_closes_53 ?_
            refine lv_iconst (v := 2) hx hb dX8_closes_54 (by decide) ?_
            refine lv_icmp_ne (tgt := 127) hx hb dX8_closes_55 (by decide) (fun hc => ?_) (fun hc => ?_)
            · have h := h.1 hc
              refine lv_aload_n hx hb dX8_closes_127 rfl (lv_at hl 2 rfl) ?_
              refine lv_iload_n hx hb dX8_closes_128 rfl (lv_at hl 3 rfl) ?_
              refine lv_iload_n hx hb dX8_closes_129 rfl (lv_at hl 4 rfl) ?_
              refine lv_iload hx hb dX8_closes_130 (lv_at hl 1 rfl) ?_
              refine lv_aload_n hx hb dX8_closes_132 rfl (lv_at hl 2 rfl) ?_
              refine va_get (D := (dC, dI)) (ci := 8) (v := .ref (a 13)) (C := RX8) (T := TX8) (N := 47) hx hb hts nX8_closes_X8 hown hK hP 0 (wM_at0 _ _ _ _ _ _) rfl 14 (by decide) (hts (.fieldLink RX8 46 "SongOfficeModel" "first" "[I") kX8_closes_4) (fun _ h9 => h9) rfl dX8_closes_133 ?_
              refine lv_iload hx hb dX8_closes_136 (lv_at hl 0 rfl) ?_
              obtain ⟨hi, h⟩ := h
              refine va_iald hx hb hK hP 13 12 (wM_at13 _ _ _ _ _ _) rfl hi dX8_closes_138 ?_
              refine lv_bipush (v := 90) hx hb dX8_closes_139 (by decide) ?_
              refine lv_iload_n hx hb dX8_closes_141 rfl (lv_at hl 4 rfl) ?_
              refine lv_imul hx hb dX8_closes_142 ?_
              refine lv_bipush (v := 89) hx hb dX8_closes_143 (by decide) ?_
              refine lv_iadd hx hb dX8_closes_145 ?_
              refine gcallv (va_runV (As := [.int x_8, .int x_9, .int x_84, .int (I_86 13 (x_85).toNatClampNeg), .int (((90 : Int32) * x_9) + (89 : Int32))]) (rest := []) ⟨hx, hb, hml, hown, hts⟩ (c_X8_comes l dC dI a cy H.size I_86 J_87 S_88 L_89 x_8 x_9 x_84 (I_86 13 (x_85).toNatClampNeg) (((90 : Int32) * x_9) + (89 : Int32)) _ h) (cwV 5 hts gX8_closes_X8_comes rfl rfl rfl (by decide +kernel) ⟨(Nat.le_of_ble_eq_true rfl), (Nat.le_of_ble_eq_true rfl)⟩) (g_pV hP hK hD (va_recv hK hP (ci := 8) (q0 := 0) rfl (wM_at0 _ _ _ _ _ _)) [.int x_8, .int x_9, .int x_84, .int (I_86 13 (x_85).toNatClampNeg), .int (((90 : Int32) * x_9) + (89 : Int32))]) rfl rfl hl.1 rfl (lv_room (Nat.le_of_ble_eq_true rfl)) dX8_closes_146 ⟨(Nat.le_of_ble_eq_true rfl), (Nat.le_of_ble_eq_true rfl)⟩) hS hA hD (fun I_101 J_102 S_103 L_104 H locs hP hD hS h => ?_)
              exact jB_91 I_101 J_102 S_103 L_104 x_8 x_9 x_10 _ _ _ hP hD hS (lv_sub hl [2, 3, 4, 5] rfl) h
            · have h := h.2 hc
              refine lv_aload_n hx hb dX8_closes_58 rfl (lv_at hl 2 rfl) ?_
              refine lv_iload_n hx hb dX8_closes_59 rfl (lv_at hl 3 rfl) ?_
              refine lv_iload_n hx hb dX8_closes_60 rfl (lv_at hl 4 rfl) ?_
              refine lv_iload hx hb dX8_closes_61 (lv_at hl 1 rfl) ?_
              refine lv_aload_n hx hb dX8_closes_63 rfl (lv_at hl 2 rfl) ?_
              refine va_get (D := (dC, dI)) (ci := 8) (v := .ref (a 13)) (C := RX8) (T := TX8) (N := 47) hx hb hts nX8_closes_X8 hown hK hP 0 (wM_at0 _ _ _ _ _ _) rfl 14 (by decide) (hts (.fieldLink RX8 46 "SongOfficeModel" "first" "[I") kX8_closes_4) (fun _ h9 => h9) rfl dX8_closes_64 ?_
              refine lv_iload hx hb dX8_closes_67 (lv_at hl 0 rfl) ?_
              obtain ⟨hi, h⟩ := h
              refine va_iald hx hb hK hP 13 12 (wM_at13 _ _ _ _ _ _) rfl hi dX8_closes_69 ?_
              refine lv_bipush (v := 90) hx hb dX8_closes_70 (by decide) ?_
              refine lv_iload_n hx hb dX8_closes_72 rfl (lv_at hl 4 rfl) ?_
              refine lv_imul hx hb dX8_closes_73 ?_
              refine lv_bipush (v := 29) hx hb dX8_closes_74 (by decide) ?_
              refine lv_iadd hx hb dX8_closes_76 ?_
              refine gcallv (va_runV (As := [.int x_8, .int x_9, .int x_84, .int (I_86 13 (x_85).toNatClampNeg), .int (((90 : Int32) * x_9) + (29 : Int32))]) (rest := []) ⟨hx, hb, hml, hown, hts⟩ (c_X8_comes l dC dI a cy H.size I_86 J_87 S_88 L_89 x_8 x_9 x_84 (I_86 13 (x_85).toNatClampNeg) (((90 : Int32) * x_9) + (29 : Int32)) _ h) (cwV 5 hts gX8_closes_X8_comes rfl rfl rfl (by decide +kernel) ⟨(Nat.le_of_ble_eq_true rfl), (Nat.le_of_ble_eq_true rfl)⟩) (g_pV hP hK hD (va_recv hK hP (ci := 8) (q0 := 0) rfl (wM_at0 _ _ _ _ _ _)) [.int x_8, .int x_9, .int x_84, .int (I_86 13 (x_85).toNatClampNeg), .int (((90 : Int32) * x_9) + (29 : Int32))]) rfl rfl hl.1 rfl (lv_room (Nat.le_of_ble_eq_true rfl)) dX8_closes_77 ⟨(Nat.le_of_ble_eq_true rfl), (Nat.le_of_ble_eq_true rfl)⟩) hS hA hD (fun I_105 J_106 S_107 L_108 H locs hP hD hS h => ?_)
              refine lv_aload_n hx hb dX8_closes_80 rfl (lv_at hl 2 rfl) ?_
              refine lv_iload_n hx hb dX8_closes_81 rfl (lv_at hl 3 rfl) ?_
              refine lv_iload_n hx hb dX8_closes_82 rfl (lv_at hl 4 rfl) ?_
              refine lv_iload hx hb dX8_closes_83 (lv_at hl 1 rfl) ?_
              refine lv_aload_n hx hb dX8_closes_85 rfl (lv_at hl 2 rfl) ?_
              refine va_get (D := (dC, dI)) (ci := 8) (v := .ref (a 14)) (C := RX8) (T := TX8) (N := 47) hx hb hts nX8_closes_X8 hown hK hP 0 (wM_at0 _ _ _ _ _ _) rfl 15 (by decide) (hts (.fieldLink RX8 49 "SongOfficeModel" "second" "[I") kX8_closes_5) (fun _ h9 => h9) rfl dX8_closes_86 ?_
              refine lv_iload hx hb dX8_closes_89 (lv_at hl 0 rfl) ?_
              obtain ⟨hi, h⟩ := h
              refine va_iald hx hb hK hP 14 13 (wM_at14 _ _ _ _ _ _) rfl hi dX8_closes_91 ?_
              refine lv_bipush (v := 90) hx hb dX8_closes_92 (by decide) ?_
              refine lv_iload_n hx hb dX8_closes_94 rfl (lv_at hl 4 rfl) ?_
              refine lv_imul hx hb dX8_closes_95 ?_
              refine lv_bipush (v := 59) hx hb dX8_closes_96 (by decide) ?_
              refine lv_iadd hx hb dX8_closes_98 ?_
              refine gcallv (va_runV (As := [.int x_8, .int x_9, .int x_84, .int (I_105 14 (x_85).toNatClampNeg), .int (((90 : Int32) * x_9) + (59 : Int32))]) (rest := []) ⟨hx, hb, hml, hown, hts⟩ (c_X8_comes l dC dI a cy H.size I_105 J_106 S_107 L_108 x_8 x_9 x_84 (I_105 14 (x_85).toNatClampNeg) (((90 : Int32) * x_9) + (59 : Int32)) _ h) (cwV 5 hts gX8_closes_X8_comes rfl rfl rfl (by decide +kernel) ⟨(Nat.le_of_ble_eq_true rfl), (Nat.le_of_ble_eq_true rfl)⟩) (g_pV hP hK hD (va_recv hK hP (ci := 8) (q0 := 0) rfl (wM_at0 _ _ _ _ _ _)) [.int x_8, .int x_9, .int x_84, .int (I_105 14 (x_85).toNatClampNeg), .int (((90 : Int32) * x_9) + (59 : Int32))]) rfl rfl hl.1 rfl (lv_room (Nat.le_of_ble_eq_true rfl)) dX8_closes_99 ⟨(Nat.le_of_ble_eq_true rfl), (Nat.le_of_ble_eq_true rfl)⟩) hS hA hD (fun I_109 J_110 S_111 L_112 H locs hP hD hS h => ?_)
              refine lv_aload_n hx hb dX8_closes_102 rfl (lv_at hl 2 rfl) ?_
              refine lv_iload_n hx hb dX8_closes_103 rfl (lv_at hl 3 rfl) ?_
              refine lv_iload_n hx hb dX8_closes_104 rfl (lv_at hl 4 rfl) ?_
              refine lv_iload hx hb dX8_closes_105 (lv_at hl 1 rfl) ?_
              refine lv_aload_n hx hb dX8_closes_107 rfl (lv_at hl 2 rfl) ?_
              refine va_get (D := (dC, dI)) (ci := 8) (v := .ref (a 15)) (C := RX8) (T := TX8) (N := 47) hx hb hts nX8_closes_X8 hown hK hP 0 (wM_at0 _ _ _ _ _ _) rfl 16 (by decide) (hts (.fieldLink RX8 52 "SongOfficeModel" "third" "[I") kX8_closes_6) (fun _ h9 => h9) rfl dX8_closes_108 ?_
              refine lv_iload hx hb dX8_closes_111 (lv_at hl 0 rfl) ?_
              obtain ⟨hi, h⟩ := h
              refine va_iald hx hb hK hP 15 14 (wM_at15 _ _ _ _ _ _) rfl hi dX8_closes_113 ?_
              refine lv_bipush (v := 90) hx hb dX8_closes_114 (by decide) ?_
              refine lv_iload_n hx hb dX8_closes_116 rfl (lv_at hl 4 rfl) ?_
              refine lv_imul hx hb dX8_closes_117 ?_
              refine lv_bipush (v := 89) hx hb dX8_closes_118 (by decide) ?_
              refine lv_iadd hx hb dX8_closes_120 ?_
              refine gcallv (va_runV (As := [.int x_8, .int x_9, .int x_84, .int (I_109 15 (x_85).toNatClampNeg), .int (((90 : Int32) * x_9) + (89 : Int32))]) (rest := []) ⟨hx, hb, hml, hown, hts⟩ (c_X8_comes l dC dI a cy H.size I_109 J_110 S_111 L_112 x_8 x_9 x_84 (I_109 15 (x_85).toNatClampNeg) (((90 : Int32) * x_9) + (89 : Int32)) _ h) (cwV 5 hts gX8_closes_X8_comes rfl rfl rfl (by decide +kernel) ⟨(Nat.le_of_ble_eq_true rfl), (Nat.le_of_ble_eq_true rfl)⟩) (g_pV hP hK hD (va_recv hK hP (ci := 8) (q0 := 0) rfl (wM_at0 _ _ _ _ _ _)) [.int x_8, .int x_9, .int x_84, .int (I_109 15 (x_85).toNatClampNeg), .int (((90 : Int32) * x_9) + (89 : Int32))]) rfl rfl hl.1 rfl (lv_room (Nat.le_of_ble_eq_true rfl)) dX8_closes_121 ⟨(Nat.le_of_ble_eq_true rfl), (Nat.le_of_ble_eq_true rfl)⟩) hS hA hD (fun I_113 J_114 S_115 L_116 H locs hP hD hS h => ?_)
              refine lv_goto (tgt := 149) hx hb dX8_closes_124 (by decide) ?_
              exact jB_91 I_113 J_114 S_115 L_116 x_8 x_9 x_10 _ _ _ hP hD hS (lv_sub hl [2, 3, 4, 5] rfl) h
          · have h := h.2 hc
            refine lv_goto (tgt := 149) hx hb dX8_closes_44 (by decide) ?_
            exact jB_91 I_86 J_87 S_88 L_89 x_8 x_9 x_10 _ _ _ hP hD hS (lv_sub hl [2, 3, 4, 5] rfl) h
  exact lV_1 n_3 I J S L p0 p1 (0 : Int32) _ _ _ hP hD hS (lv_sub hl [1, 2, 3, 0] rfl) h0V_1
def wp_X8_close (I : TI) (J : TJ) (S : TS) (L : TL) (Φ : Int32 → TI → TJ → TS → TL → Prop) : Prop := ((¬ (S 0) = (40 : Int32)) → (∀ S_1 : TS, S_1 = va_up S 3 (0 : Int32) → (wp_X8_closes I J S_1 L (0 : Int32) (S_1 0) (fun (I_2 : TI) (J_3 : TJ) (S_4 : TS) (L_5 : TL) => (∀ S_6 : TS, S_6 = va_up S_4 0 ((S_4 0) + (1 : Int32)) → (Φ ((S_6 0) - (1 : Int32)) I_2 J_3 S_6 L_5)))))) ∧ (((S 0) = (40 : Int32)) → (Φ (-1 : Int32) I J S L))
theorem nX8_close_X8 : ∀ w ∈ wsX80, w ∈ wsX8_close := fun _ h => List.mem_cons_of_mem _ (List.mem_append_right _ h)
theorem kX8_close_1 : Cond.fieldLink RX8 136 "SongOfficeModel" "term" "I" ∈ wsX8_close := List.mem_of_getElem? (i := 1) rfl
theorem kX8_close_2 : Cond.fieldLink RX8 178 "SongOfficeModel" "lines" "I" ∈ wsX8_close := List.mem_of_getElem? (i := 2) rfl
abbrev rmX8_close : Room := { frames := 5, cells := 0, slots := 0, locals := 141 }
set_option maxHeartbeats 4000000 in
set_option maxRecDepth 100000 in
theorem c_X8_close (l : Launch) (dC : Nat → ClassId) (dI : Nat → Nat → Nat) (a : Nat → Nat) (cy : Nat → ClassId) (sz : Nat) (I : TI) (J : TJ) (S : TS) (L : TL) (Φ : Int32 → TI → TJ → TS → TL → Prop) (h : wp_X8_close I J S L Φ) : Met l yX8_close wsX8_close rmX8_close (va_Pc [.ref (a 0)] (gpre dC dI (wM a cy I J S L) (tyM cy) sz)) (gQi dC dI (wM a cy) (tyM cy) (va_A (wM a cy I J S L) sz) Φ) 0 0 (va_A (wM a cy I J S L) sz) := by
  refine Met.ofW (cc := cX8_close) (maxL := 1) (ret := (some .int)) (by decide) rfl ?_
  intro p e s m args below meth c s₁ B hml hv
  obtain ⟨hargs, hsz, hP, hK, hD0⟩ := hv
  have hx := B.exec
  have hb := B.bytes
  have hr := B.returns
  have hts := atoms_spec (ws := wsX8_close) B.pre
  have hown : s.vm.findClass RX8 = some m.cls := findClass_of_methodNamed B.named
  have hlocks := B.notSynchronized
  subst hsz
  have hD := hD0.self (sz := s.heap.size)
  generalize hAe : va_A (wM a cy I J S L) s.heap.size = A at hD ⊢
  have hA : ∀ q : Nat, s.heap.size ≤ q → A q := fun q h => by rw [← hAe]; exact Or.inr h
  have hS : va_S A s.heap s.heap [] := va_S.rf
  have hl := lv_entry ([.ref (a 0)]) (n := 1) (Nat.le_of_ble_eq_true rfl)
  have hE : entryFrame m args 1 = F0 m 0 ((lg_sl ([.ref (a 0)]) ++ List.replicate (1 - (lg_sl ([.ref (a 0)])).length) Slot.unset).toArray) [] := by rw [hargs]; exact lg_entry_eq m _ _
  rw [hE]
  clear hE
  generalize (lg_sl ([.ref (a 0)]) ++ List.replicate (1 - (lg_sl ([.ref (a 0)])).length) Slot.unset).toArray = ls at hl ⊢
  have hl : lv_has ls 1 [(0, .ref (a 0))] := hl
  unfold wp_X8_close at h
  refine lv_aload_n hx hb dX8_close_0 rfl (lv_at hl 0 rfl) ?_
  refine va_get (D := (dC, dI)) (ci := 8) (v := .int (S 0)) (C := RX8) (T := TX8) (N := 47) hx hb hts nX8_close_X8 hown hK hP 0 (wM_at0 _ _ _ _ _ _) rfl 0 (by decide) (hts (.fieldLink RX8 136 "SongOfficeModel" "term" "I") kX8_close_1) (fun _ h9 => h9) rfl dX8_close_1 ?_
  refine lv_bipush (v := 40) hx hb dX8_close_4 (by decide) ?_
  refine lv_icmp_ne (tgt := 11) hx hb dX8_close_6 (by decide) (fun hc => ?_) (fun hc => ?_)
  · have h := h.1 hc
    refine lv_aload_n hx hb dX8_close_11 rfl (lv_at hl 0 rfl) ?_
    refine lv_iconst (v := 0) hx hb dX8_close_12 (by decide) ?_
    obtain ⟨S_1, eS_1⟩ : ∃ z : TS, z = va_up S 3 (0 : Int32) := ⟨_, rfl⟩
    have h := h S_1 eS_1
    refine va_put (D := (dC, dI)) (ci := 8) (v := .int (0 : Int32)) (ty := .int) (C := RX8) (T := TX8) (N := 47) hx hb hts nX8_close_X8 tyX8 tyX8_ok nmX8 hown hK hP hD hS 0 (wM_at0 _ _ _ _ _ _) rfl 35 (by decide) (hts (.fieldLink RX8 178 "SongOfficeModel" "lines" "I") kX8_close_2) (fun _ h9 => h9) rfl (by decide +kernel) rfl rfl (Nat.le_of_ble_eq_true rfl) dX8_close_13 (fun H locs hP hD hS => ?_)
    have hP : va_P (dC, dI) vwCl (wM a cy I J S_1 L) H := by rw [eS_1]; exact setP hP (wM_setS3 _ _ _ _ _ _ _)
    have hD : va_D A (wM a cy I J S_1 L) := by rw [eS_1]; exact setD hD (wM_setS3 _ _ _ _ _ _ _)
    refine lv_aload_n hx hb dX8_close_16 rfl (lv_at hl 0 rfl) ?_
    refine lv_iconst (v := 0) hx hb dX8_close_17 (by decide) ?_
    refine lv_aload_n hx hb dX8_close_18 rfl (lv_at hl 0 rfl) ?_
    refine va_get (D := (dC, dI)) (ci := 8) (v := .int (S_1 0)) (C := RX8) (T := TX8) (N := 47) hx hb hts nX8_close_X8 hown hK hP 0 (wM_at0 _ _ _ _ _ _) rfl 0 (by decide) (hts (.fieldLink RX8 136 "SongOfficeModel" "term" "I") kX8_close_1) (fun _ h9 => h9) rfl dX8_close_19 ?_
    refine gcallv (va_runV (As := [.int (0 : Int32), .int (S_1 0)]) (rest := []) ⟨hx, hb, hml, hown, hts⟩ (c_X8_closes l dC dI a cy H.size I J S_1 L (0 : Int32) (S_1 0) _ h) (cwV 2 hts gX8_close_X8_closes rfl rfl rfl (by decide +kernel) ⟨(Nat.le_of_ble_eq_true rfl), (Nat.le_of_ble_eq_true rfl)⟩) (g_pV hP hK hD (va_recv hK hP (ci := 8) (q0 := 0) rfl (wM_at0 _ _ _ _ _ _)) [.int (0 : Int32), .int (S_1 0)]) rfl rfl hl.1 rfl (lv_room (Nat.le_of_ble_eq_true rfl)) dX8_close_22 ⟨(Nat.le_of_ble_eq_true rfl), (Nat.le_of_ble_eq_true rfl)⟩) hS hA hD (fun I_2 J_3 S_4 L_5 H locs hP hD hS h => ?_)
    refine lv_aload_n hx hb dX8_close_25 rfl (lv_at hl 0 rfl) ?_
    refine lv_aload_n hx hb dX8_close_26 rfl (lv_at hl 0 rfl) ?_
    refine va_get (D := (dC, dI)) (ci := 8) (v := .int (S_4 0)) (C := RX8) (T := TX8) (N := 47) hx hb hts nX8_close_X8 hown hK hP 0 (wM_at0 _ _ _ _ _ _) rfl 0 (by decide) (hts (.fieldLink RX8 136 "SongOfficeModel" "term" "I") kX8_close_1) (fun _ h9 => h9) rfl dX8_close_27 ?_
    refine lv_iconst (v := 1) hx hb dX8_close_30 (by decide) ?_
    refine lv_iadd hx hb dX8_close_31 ?_
    obtain ⟨S_6, eS_6⟩ : ∃ z : TS, z = va_up S_4 0 ((S_4 0) + (1 : Int32)) := ⟨_, rfl⟩
    have h := h S_6 eS_6
    refine va_put (D := (dC, dI)) (ci := 8) (v := .int ((S_4 0) + (1 : Int32))) (ty := .int) (C := RX8) (T := TX8) (N := 47) hx hb hts nX8_close_X8 tyX8 tyX8_ok nmX8 hown hK hP hD hS 0 (wM_at0 _ _ _ _ _ _) rfl 0 (by decide) (hts (.fieldLink RX8 136 "SongOfficeModel" "term" "I") kX8_close_1) (fun _ h9 => h9) rfl (by decide +kernel) rfl rfl (Nat.le_of_ble_eq_true rfl) dX8_close_32 (fun H locs hP hD hS => ?_)
    have hP : va_P (dC, dI) vwCl (wM a cy I_2 J_3 S_6 L_5) H := by rw [eS_6]; exact setP hP (wM_setS0 _ _ _ _ _ _ _)
    have hD : va_D A (wM a cy I_2 J_3 S_6 L_5) := by rw [eS_6]; exact setD hD (wM_setS0 _ _ _ _ _ _ _)
    refine lv_aload_n hx hb dX8_close_35 rfl (lv_at hl 0 rfl) ?_
    refine va_get (D := (dC, dI)) (ci := 8) (v := .int (S_6 0)) (C := RX8) (T := TX8) (N := 47) hx hb hts nX8_close_X8 hown hK hP 0 (wM_at0 _ _ _ _ _ _) rfl 0 (by decide) (hts (.fieldLink RX8 136 "SongOfficeModel" "term" "I") kX8_close_1) (fun _ h9 => h9) rfl dX8_close_36 ?_
    refine lv_iconst (v := 1) hx hb dX8_close_39 (by decide) ?_
    refine lv_isub hx hb dX8_close_40 ?_
    exact gri hx hb hr hlocks hP hK hD hS h dX8_close_41
  · have h := h.2 hc
    refine lv_iconst (v := -1) hx hb dX8_close_9 (by decide) ?_
    exact gri hx hb hr hlocks hP hK hD hS h dX8_close_10
def wp_X8_takes (I : TI) (J : TJ) (S : TS) (L : TL) (p0 : Int32) (p1 : Int32) (p2 : Int32) (Φ : Int64 → TI → TJ → TS → TL → Prop) : Prop := ∀ y_1 : Int64, y_1 = (((p2).toInt64) * (1000000 : Int64)) → (∃ V_2 : Nat → TI → TJ → TS → TL → Int32 → Int32 → Int64 → Int32 → Prop, (∃ n_4, V_2 n_4 I J S L p0 p1 y_1 (0 : Int32)) ∧ ∀ (n_3 : Nat) (I_5 : TI) (J_6 : TJ) (S_7 : TS) (L_8 : TL) (x_9 : Int32) (x_10 : Int32) (y_11 : Int64) (x_12 : Int32), V_2 n_3 I_5 J_6 S_7 L_8 x_9 x_10 y_11 x_12 → ((((40 : Int32) ≤ x_12) → ((vp_in (((12 : Int32) * x_9) + x_10) 24) ∧ ((vp_in (((12 : Int32) * x_9) + x_10) 24) ∧ ∀ J_13 : TJ, J_13 = va_up J_6 22 (vp_updL (J_6 22) ((((12 : Int32) * x_9) + x_10)).toNatClampNeg ((J_6 22 ((((12 : Int32) * x_9) + x_10)).toNatClampNeg) + y_11)) → (Φ y_11 I_5 J_13 S_7 L_8)))) ∧ ((¬ (40 : Int32) ≤ x_12) → (∃ V_14 : Nat → TI → TJ → TS → TL → Int32 → Int32 → Int64 → Int32 → Int32 → Prop, (∃ n_16, V_14 n_16 I_5 J_6 S_7 L_8 x_9 x_10 y_11 x_12 (0 : Int32)) ∧ ∀ (n_15 : Nat) (I_17 : TI) (J_18 : TJ) (S_19 : TS) (L_20 : TL) (x_21 : Int32) (x_22 : Int32) (y_23 : Int64) (x_24 : Int32) (x_25 : Int32), V_14 n_15 I_17 J_18 S_19 L_20 x_21 x_22 y_23 x_24 x_25 → ((((S_19 1) ≤ x_25) → (∀ x_26 : Int32, x_26 = x_24 + 1 → (∃ n_27, n_27 < n_3 ∧ V_2 n_27 I_17 J_18 S_19 L_20 x_21 x_22 y_23 x_26))) ∧ ((¬ (S_19 1) ≤ x_25) → ((vp_in x_25 24) ∧ (∃ B_28 : TI → TJ → TS → TL → Int32 → Int32 → Int64 → Int32 → Int32 → Prop, (∀ (I_29 : TI) (J_30 : TJ) (S_31 : TS) (L_32 : TL) (x_33 : Int32) (x_34 : Int32) (y_35 : Int64) (x_36 : Int32) (x_37 : Int32), B_28 I_29 J_30 S_31 L_32 x_33 x_34 y_35 x_36 x_37 → (∀ x_38 : Int32, x_38 = x_37 + 1 → (∃ n_39, n_39 < n_15 ∧ V_14 n_39 I_29 J_30 S_31 L_32 x_33 x_34 y_35 x_36 x_38))) ∧ (((¬ (I_17 5 (x_25).toNatClampNeg) = (4 : Int32)) → (B_28 I_17 J_18 S_19 L_20 x_21 x_22 y_23 x_24 x_25)) ∧ (((I_17 5 (x_25).toNatClampNeg) = (4 : Int32)) → ((vp_in x_25 24) ∧ ((((I_17 6 (x_25).toNatClampNeg) = x_22) → (wp_X8_bag I_17 J_18 S_19 L_20 x_21 x_25 x_24 (fun (r_44 : Int32) (I_40 : TI) (J_41 : TJ) (S_42 : TS) (L_43 : TL) => ((vp_in r_44 1920) ∧ (∃ B_45 : TI → TJ → TS → TL → Int32 → Int32 → Int64 → Int32 → Int32 → Int32 → Int64 → Prop, (∀ (I_46 : TI) (J_47 : TJ) (S_48 : TS) (L_49 : TL) (x_50 : Int32) (x_51 : Int32) (y_52 : Int64) (x_53 : Int32) (x_54 : Int32) (x_55 : Int32) (s_56 : Int64), B_45 I_46 J_47 S_48 L_49 x_50 x_51 y_52 x_53 x_54 x_55 s_56 → ((vp_in x_55 1920) ∧ ((vp_in x_55 1920) ∧ ∀ J_57 : TJ, J_57 = va_up J_47 25 (vp_updL (J_47 25) (x_55).toNatClampNeg ((J_47 25 (x_55).toNatClampNeg) - s_56)) → (∀ y_58 : Int64, y_58 = (y_52 - s_56) → (B_28 I_46 J_57 S_48 L_49 x_50 x_51 y_58 x_53 x_54))))) ∧ (((0 ≤ (lg_cmp (J_41 25 (r_44).toNatClampNeg) y_23)) → (B_45 I_40 J_41 S_42 L_43 x_21 x_22 y_23 x_24 x_25 r_44 y_23)) ∧ ((¬ 0 ≤ (lg_cmp (J_41 25 (r_44).toNatClampNeg) y_23)) → ((vp_in r_44 1920) ∧ (B_45 I_40 J_41 S_42 L_43 x_21 x_22 y_23 x_24 x_25 r_44 (J_41 25 (r_44).toNatClampNeg)))))))))) ∧ ((¬ (I_17 6 (x_25).toNatClampNeg) = x_22) → (B_28 I_17 J_18 S_19 L_20 x_21 x_22 y_23 x_24 x_25))))))))))))))
theorem nX8_takes_X8 : ∀ w ∈ wsX80, w ∈ wsX8_takes := fun _ h => List.mem_cons_of_mem _ (List.mem_append_right _ h)
theorem kX8_takes_6 : Cond.fieldLink RX8 75 "SongOfficeModel" "debt" "[J" ∈ wsX8_takes := List.mem_of_getElem? (i := 6) rfl
theorem kX8_takes_5 : Cond.fieldLink RX8 84 "SongOfficeModel" "bags" "[J" ∈ wsX8_takes := List.mem_of_getElem? (i := 5) rfl
theorem kX8_takes_4 : Cond.fieldLink RX8 25 "SongOfficeModel" "hand" "[I" ∈ wsX8_takes := List.mem_of_getElem? (i := 4) rfl
theorem kX8_takes_3 : Cond.fieldLink RX8 22 "SongOfficeModel" "kind" "[I" ∈ wsX8_takes := List.mem_of_getElem? (i := 3) rfl
theorem kX8_takes_2 : Cond.fieldLink RX8 157 "SongOfficeModel" "bargains" "I" ∈ wsX8_takes := List.mem_of_getElem? (i := 2) rfl
theorem kX8_takes_1 : Cond.constantLong RX8 194 (1000000) ∈ wsX8_takes := List.mem_of_getElem? (i := 1) rfl
abbrev rmX8_takes : Room := { frames := 1, cells := 0, slots := 0, locals := 22 }
set_option maxHeartbeats 4000000 in
set_option maxRecDepth 100000 in
theorem c_X8_takes (l : Launch) (dC : Nat → ClassId) (dI : Nat → Nat → Nat) (a : Nat → Nat) (cy : Nat → ClassId) (sz : Nat) (I : TI) (J : TJ) (S : TS) (L : TL) (p0 : Int32) (p1 : Int32) (p2 : Int32) (Φ : Int64 → TI → TJ → TS → TL → Prop) (h : wp_X8_takes I J S L p0 p1 p2 Φ) : Met l yX8_takes wsX8_takes rmX8_takes (va_Pc [.ref (a 0), .int p0, .int p1, .int p2] (gpre dC dI (wM a cy I J S L) (tyM cy) sz)) (gQl dC dI (wM a cy) (tyM cy) (va_A (wM a cy I J S L) sz) Φ) 0 0 (va_A (wM a cy I J S L) sz) := by
  refine Met.ofW (cc := cX8_takes) (maxL := 11) (ret := (some .long)) (by decide) rfl ?_
  intro p e s m args below meth c s₁ B hml hv
  obtain ⟨hargs, hsz, hP, hK, hD0⟩ := hv
  have hx := B.exec
  have hb := B.bytes
  have hr := B.returns
  have hts := atoms_spec (ws := wsX8_takes) B.pre
  have hown : s.vm.findClass RX8 = some m.cls := findClass_of_methodNamed B.named
  have hlocks := B.notSynchronized
  subst hsz
  have hD := hD0.self (sz := s.heap.size)
  generalize hAe : va_A (wM a cy I J S L) s.heap.size = A at hD ⊢
  have hA : ∀ q : Nat, s.heap.size ≤ q → A q := fun q h => by rw [← hAe]; exact Or.inr h
  have hS : va_S A s.heap s.heap [] := va_S.rf
  have hl := lv_entry ([.ref (a 0), .int p0, .int p1, .int p2]) (n := 11) (Nat.le_of_ble_eq_true rfl)
  have hE : entryFrame m args 11 = F0 m 0 ((lg_sl ([.ref (a 0), .int p0, .int p1, .int p2]) ++ List.replicate (11 - (lg_sl ([.ref (a 0), .int p0, .int p1, .int p2])).length) Slot.unset).toArray) [] := by rw [hargs]; exact lg_entry_eq m _ _
  rw [hE]
  clear hE
  generalize (lg_sl ([.ref (a 0), .int p0, .int p1, .int p2]) ++ List.replicate (11 - (lg_sl ([.ref (a 0), .int p0, .int p1, .int p2])).length) Slot.unset).toArray = ls at hl ⊢
  have hl : lv_has ls 11 [(0, .ref (a 0)), (1, .int p0), (2, .int p1), (3, .int p2)] := hl
  unfold wp_X8_takes at h
  refine lv_iload_n hx hb dX8_takes_0 rfl (lv_at hl 3 rfl) ?_
  refine lv_i2l (v := ((p2).toInt64)) hx hb dX8_takes_1 rfl ?_
  refine lv_ldc2 (v := 1000000) hx hb hown (hts (.constantLong RX8 194 (1000000)) kX8_takes_1) dX8_takes_2 ?_
  refine lv_lmul hx hb dX8_takes_5 ?_
  refine lv_topl (fun y_1 ey_1 => ?_)
  have h := h y_1 ey_1
  refine lv_lstore (lv' := [(4, .long y_1), (0, .ref (a 0)), (1, .int p0), (2, .int p1), (3, .int p2)]) hx hb dX8_takes_6 hl (by decide) rfl (fun ls hl => ?_)
  refine lv_iconst (v := 0) hx hb dX8_takes_8 (by decide) ?_
  refine lv_istore (lv' := [(6, .int (0 : Int32)), (4, .long y_1), (0, .ref (a 0)), (1, .int p0), (2, .int p1), (3, .int p2)]) hx hb dX8_takes_9 hl (by decide) rfl (fun ls hl => ?_)
  obtain ⟨V_2, ⟨n_4, h0V_2⟩, hV_2⟩ := h
  have lV_2 : ∀ (n_3 : Nat) (I_5 : TI) (J_6 : TJ) (S_7 : TS) (L_8 : TL) (x_9 : Int32) (x_10 : Int32) (y_11 : Int64) (x_12 : Int32) (H : Heap) (locs : List Loc) (ls : Array Slot), va_P (dC, dI) vwCl (wM a cy I_5 J_6 S_7 L_8) H → va_D A (wM a cy I_5 J_6 S_7 L_8) → va_S A s.heap H locs → lv_has ls 11 [(0, .ref (a 0)), (1, .int x_9), (2, .int x_10), (4, .long y_11), (6, .int x_12)] → V_2 n_3 I_5 J_6 S_7 L_8 x_9 x_10 y_11 x_12 → W p l e (headSpec wsX8_takes rmX8_takes).room s m args below meth c H locs 0 0 (MQ below (gQl dC dI (wM a cy) (tyM cy) A Φ) args s 0 0 A) (F0 m 11 ls []) := by
    intro n_3
    induction n_3 using Nat.strongRecOn with
    | ind n_3 ihV_2 =>
        intro I_5 J_6 S_7 L_8 x_9 x_10 y_11 x_12 H locs ls hP hD hS hl h
        have h := hV_2 n_3 I_5 J_6 S_7 L_8 x_9 x_10 y_11 x_12 h
        refine lv_iload hx hb dX8_takes_11 (lv_at hl 4 rfl) ?_
        refine lv_bipush (v := 40) hx hb dX8_takes_13 (by decide) ?_
        refine lv_icmp_ge (tgt := 128) hx hb dX8_takes_15 (by decide) (fun hc => ?_) (fun hc => ?_)
        · have h := h.1 hc
          refine lv_aload_n hx hb dX8_takes_128 rfl (lv_at hl 0 rfl) ?_
          refine va_get (D := (dC, dI)) (ci := 8) (v := .ref (a 22)) (C := RX8) (T := TX8) (N := 47) hx hb hts nX8_takes_X8 hown hK hP 0 (wM_at0 _ _ _ _ _ _) rfl 23 (by decide) (hts (.fieldLink RX8 75 "SongOfficeModel" "debt" "[J") kX8_takes_6) (fun _ h9 => h9) rfl dX8_takes_129 ?_
          refine lv_bipush (v := 12) hx hb dX8_takes_132 (by decide) ?_
          refine lv_iload_n hx hb dX8_takes_134 rfl (lv_at hl 1 rfl) ?_
          refine lv_imul hx hb dX8_takes_135 ?_
          refine lv_iload_n hx hb dX8_takes_136 rfl (lv_at hl 2 rfl) ?_
          refine lv_iadd hx hb dX8_takes_137 ?_
          refine lv_aload_n hx hb dX8_takes_138 rfl (lv_at hl 0 rfl) ?_
          refine va_get (D := (dC, dI)) (ci := 8) (v := .ref (a 22)) (C := RX8) (T := TX8) (N := 47) hx hb hts nX8_takes_X8 hown hK hP 0 (wM_at0 _ _ _ _ _ _) rfl 23 (by decide) (hts (.fieldLink RX8 75 "SongOfficeModel" "debt" "[J") kX8_takes_6) (fun _ h9 => h9) rfl dX8_takes_139 ?_
          refine lv_bipush (v := 12) hx hb dX8_takes_142 (by decide) ?_
          refine lv_iload_n hx hb dX8_takes_144 rfl (lv_at hl 1 rfl) ?_
          refine lv_imul hx hb dX8_takes_145 ?_
          refine lv_iload_n hx hb dX8_takes_146 rfl (lv_at hl 2 rfl) ?_
          refine lv_iadd hx hb dX8_takes_147 ?_
          obtain ⟨hi, h⟩ := h
          refine va_lald hx hb hK hP 22 21 (wM_at22 _ _ _ _ _ _) rfl hi dX8_takes_148 ?_
          refine lv_lload hx hb dX8_takes_149 (lv_at hl 3 rfl) ?_
          refine lv_ladd hx hb dX8_takes_151 ?_
          obtain ⟨hi, h⟩ := h
          obtain ⟨J_13, eJ_13⟩ : ∃ z : TJ, z = va_up J_6 22 (vp_updL (J_6 22) ((((12 : Int32) * x_9) + x_10)).toNatClampNeg ((J_6 22 ((((12 : Int32) * x_9) + x_10)).toNatClampNeg) + y_11)) := ⟨_, rfl⟩
          have h := h J_13 eJ_13
          refine va_last hx hb hK hP hD hS 22 21 (wM_at22 _ _ _ _ _ _) rfl hi dX8_takes_152 (fun H locs hP hD hS => ?_)
          have hP : va_P (dC, dI) vwCl (wM a cy I_5 J_13 S_7 L_8) H := by rw [eJ_13]; exact setP hP (wM_set22 _ _ _ _ _ _ _)
          have hD : va_D A (wM a cy I_5 J_13 S_7 L_8) := by rw [eJ_13]; exact setD hD (wM_set22 _ _ _ _ _ _ _)
          refine lv_lload hx hb dX8_takes_153 (lv_at hl 3 rfl) ?_
          exact grl hx hb hr hlocks hP hK hD hS h dX8_takes_155
        · have h := h.2 hc
          refine lv_iconst (v := 0) hx hb dX8_takes_18 (by decide) ?_
          refine lv_istore (lv' := [(7, .int (0 : Int32)), (0, .ref (a 0)), (1, .int x_9), (2, .int x_10), (4, .long y_11), (6, .int x_12)]) hx hb dX8_takes_19 hl (by decide) rfl (fun ls hl => ?_)
          obtain ⟨V_14, ⟨n_16, h0V_14⟩, hV_14⟩ := h
          have lV_14 : ∀ (n_15 : Nat) (I_17 : TI) (J_18 : TJ) (S_19 : TS) (L_20 : TL) (x_21 : Int32) (x_22 : Int32) (y_23 : Int64) (x_24 : Int32) (x_25 : Int32) (H : Heap) (locs : List Loc) (ls : Array Slot), va_P (dC, dI) vwCl (wM a cy I_17 J_18 S_19 L_20) H → va_D A (wM a cy I_17 J_18 S_19 L_20) → va_S A s.heap H locs → lv_has ls 11 [(0, .ref (a 0)), (1, .int x_21), (2, .int x_22), (4, .long y_23), (6, .int x_24), (7, .int x_25)] → V_14 n_15 I_17 J_18 S_19 L_20 x_21 x_22 y_23 x_24 x_25 → W p l e (headSpec wsX8_takes rmX8_takes).room s m args below meth c H locs 0 0 (MQ below (gQl dC dI (wM a cy) (tyM cy) A Φ) args s 0 0 A) (F0 m 21 ls []) := by
            intro n_15
            induction n_15 using Nat.strongRecOn with
            | ind n_15 ihV_14 =>
                intro I_17 J_18 S_19 L_20 x_21 x_22 y_23 x_24 x_25 H locs ls hP hD hS hl h
                have h := hV_14 n_15 I_17 J_18 S_19 L_20 x_21 x_22 y_23 x_24 x_25 h
                refine lv_iload hx hb dX8_takes_21 (lv_at hl 5 rfl) ?_
                refine lv_aload_n hx hb dX8_takes_23 rfl (lv_at hl 0 rfl) ?_
                refine va_get (D := (dC, dI)) (ci := 8) (v := .int (S_19 1)) (C := RX8) (T := TX8) (N := 47) hx hb hts nX8_takes_X8 hown hK hP 0 (wM_at0 _ _ _ _ _ _) rfl 5 (by decide) (hts (.fieldLink RX8 157 "SongOfficeModel" "bargains" "I") kX8_takes_2) (fun _ h9 => h9) rfl dX8_takes_24 ?_
                refine lv_icmp_ge (tgt := 122) hx hb dX8_takes_27 (by decide) (fun hc => ?_) (fun hc => ?_)
                · have h := h.1 hc
                  obtain ⟨x_26, ex_26⟩ : ∃ z : Int32, z = x_24 + 1 := ⟨_, rfl⟩
                  have h := h x_26 ex_26
                  refine lv_iinc (v := x_26) (lv' := [(6, .int x_26), (0, .ref (a 0)), (1, .int x_21), (2, .int x_22), (4, .long y_23), (7, .int x_25)]) hx hb dX8_takes_122 hl (k := 4) rfl (by rw [ex_26]; rfl) (by decide) rfl (fun ls hl => ?_)
                  refine lv_goto (tgt := 11) hx hb dX8_takes_125 (by decide) ?_
                  obtain ⟨n_27, hn2, h⟩ := h
                  exact ihV_2 n_27 hn2 I_17 J_18 S_19 L_20 x_21 x_22 y_23 x_26 _ _ _ hP hD hS (lv_sub hl [1, 2, 3, 4, 0] rfl) h
                · have h := h.2 hc
                  refine lv_aload_n hx hb dX8_takes_30 rfl (lv_at hl 0 rfl) ?_
                  refine va_get (D := (dC, dI)) (ci := 8) (v := .ref (a 5)) (C := RX8) (T := TX8) (N := 47) hx hb hts nX8_takes_X8 hown hK hP 0 (wM_at0 _ _ _ _ _ _) rfl 6 (by decide) (hts (.fieldLink RX8 22 "SongOfficeModel" "kind" "[I") kX8_takes_3) (fun _ h9 => h9) rfl dX8_takes_31 ?_
                  refine lv_iload hx hb dX8_takes_34 (lv_at hl 5 rfl) ?_
                  obtain ⟨hi, h⟩ := h
                  refine va_iald hx hb hK hP 5 4 (wM_at5 _ _ _ _ _ _) rfl hi dX8_takes_36 ?_
                  refine lv_iconst (v := 4) hx hb dX8_takes_37 (by decide) ?_
                  obtain ⟨B_28, hB_28, h⟩ := h
                  have jB_28 : ∀ (I_29 : TI) (J_30 : TJ) (S_31 : TS) (L_32 : TL) (x_33 : Int32) (x_34 : Int32) (y_35 : Int64) (x_36 : Int32) (x_37 : Int32) (H : Heap) (locs : List Loc) (ls : Array Slot), va_P (dC, dI) vwCl (wM a cy I_29 J_30 S_31 L_32) H → va_D A (wM a cy I_29 J_30 S_31 L_32) → va_S A s.heap H locs → lv_has ls 11 [(0, .ref (a 0)), (1, .int x_33), (2, .int x_34), (4, .long y_35), (6, .int x_36), (7, .int x_37)] → B_28 I_29 J_30 S_31 L_32 x_33 x_34 y_35 x_36 x_37 → W p l e (headSpec wsX8_takes rmX8_takes).room s m args below meth c H locs 0 0 (MQ below (gQl dC dI (wM a cy) (tyM cy) A Φ) args s 0 0 A) (F0 m 116 ls []) := by
                    intro I_29 J_30 S_31 L_32 x_33 x_34 y_35 x_36 x_37 H locs ls hP hD hS hl h
                    have h := hB_28 I_29 J_30 S_31 L_32 x_33 x_34 y_35 x_36 x_37 h
                    obtain ⟨x_38, ex_38⟩ : ∃ z : Int32, z = x_37 + 1 := ⟨_, rfl⟩
                    have h := h x_38 ex_38
                    refine lv_iinc (v := x_38) (lv' := [(7, .int x_38), (0, .ref (a 0)), (1, .int x_33), (2, .int x_34), (4, .long y_35), (6, .int x_36)]) hx hb dX8_takes_116 hl (k := 5) rfl (by rw [ex_38]; rfl) (by decide) rfl (fun ls hl => ?_)
                    refine lv_goto (tgt := 21) hx hb dX8_takes_119 (by decide) ?_
                    obtain ⟨n_39, hn2, h⟩ := h
                    exact ihV_14 n_39 hn2 I_29 J_30 S_31 L_32 x_33 x_34 y_35 x_36 x_38 _ _ _ hP hD hS (lv_sub hl [1, 2, 3, 4, 5, 0] rfl) h
                  refine lv_icmp_ne (tgt := 116) hx hb dX8_takes_38 (by decide) (fun hc => ?_) (fun hc => ?_)
                  · have h := h.1 hc
                    exact jB_28 I_17 J_18 S_19 L_20 x_21 x_22 y_23 x_24 x_25 _ _ _ hP hD hS (lv_sub hl [0, 1, 2, 3, 4, 5] rfl) h
                  · have h := h.2 hc
                    refine lv_aload_n hx hb dX8_takes_41 rfl (lv_at hl 0 rfl) ?_
                    refine va_get (D := (dC, dI)) (ci := 8) (v := .ref (a 6)) (C := RX8) (T := TX8) (N := 47) hx hb hts nX8_takes_X8 hown hK hP 0 (wM_at0 _ _ _ _ _ _) rfl 7 (by decide) (hts (.fieldLink RX8 25 "SongOfficeModel" "hand" "[I") kX8_takes_4) (fun _ h9 => h9) rfl dX8_takes_42 ?_
                    refine lv_iload hx hb dX8_takes_45 (lv_at hl 5 rfl) ?_
                    obtain ⟨hi, h⟩ := h
                    refine va_iald hx hb hK hP 6 5 (wM_at6 _ _ _ _ _ _) rfl hi dX8_takes_47 ?_
                    refine lv_iload_n hx hb dX8_takes_48 rfl (lv_at hl 2 rfl) ?_
                    refine lv_icmp_eq (tgt := 55) hx hb dX8_takes_49 (by decide) (fun hc => ?_) (fun hc => ?_)
                    · have h := h.1 hc
                      refine lv_iload_n hx hb dX8_takes_55 rfl (lv_at hl 1 rfl) ?_
                      refine lv_iload hx hb dX8_takes_56 (lv_at hl 5 rfl) ?_
                      refine lv_iload hx hb dX8_takes_58 (lv_at hl 4 rfl) ?_
                      refine gcalli (va_runS (As := [.int x_21, .int x_25, .int x_24]) (rest := []) ⟨hx, hb, hml, hown, hts⟩ (c_X8_bag l dC dI (wM a cy) (tyM cy) H.size I_17 J_18 S_19 L_20 x_21 x_25 x_24 _ h) (va_cwS 3 hts gX8_takes_X8_bag rfl rfl rfl (by decide +kernel) ⟨(Nat.le_of_ble_eq_true rfl), (Nat.le_of_ble_eq_true rfl)⟩) (g_pS hP hK hD [.int x_21, .int x_25, .int x_24]) rfl rfl hl.1 rfl (lv_room (Nat.le_of_ble_eq_true rfl)) dX8_takes_60 ⟨(Nat.le_of_ble_eq_true rfl), (Nat.le_of_ble_eq_true rfl)⟩) hS hA hD (fun r_44 I_40 J_41 S_42 L_43 H locs hP hD hS h => ?_)
                      refine lv_istore (lv' := [(8, .int r_44), (0, .ref (a 0)), (1, .int x_21), (2, .int x_22), (4, .long y_23), (6, .int x_24), (7, .int x_25)]) hx hb dX8_takes_63 hl (by decide) rfl (fun ls hl => ?_)
                      refine lv_aload_n hx hb dX8_takes_65 rfl (lv_at hl 1 rfl) ?_
                      refine va_get (D := (dC, dI)) (ci := 8) (v := .ref (a 25)) (C := RX8) (T := TX8) (N := 47) hx hb hts nX8_takes_X8 hown hK hP 0 (wM_at0 _ _ _ _ _ _) rfl 26 (by decide) (hts (.fieldLink RX8 84 "SongOfficeModel" "bags" "[J") kX8_takes_5) (fun _ h9 => h9) rfl dX8_takes_66 ?_
                      refine lv_iload hx hb dX8_takes_69 (lv_at hl 0 rfl) ?_
                      obtain ⟨hi, h⟩ := h
                      refine va_lald hx hb hK hP 25 24 (wM_at25 _ _ _ _ _ _) rfl hi dX8_takes_71 ?_
                      refine lv_lload hx hb dX8_takes_72 (lv_at hl 4 rfl) ?_
                      refine W.lcmp hx hb dX8_takes_74 ?_
                      obtain ⟨B_45, hB_45, h⟩ := h
                      have jB_45 : ∀ (I_46 : TI) (J_47 : TJ) (S_48 : TS) (L_49 : TL) (x_50 : Int32) (x_51 : Int32) (y_52 : Int64) (x_53 : Int32) (x_54 : Int32) (x_55 : Int32) (s_56 : Int64) (H : Heap) (locs : List Loc) (ls : Array Slot), va_P (dC, dI) vwCl (wM a cy I_46 J_47 S_48 L_49) H → va_D A (wM a cy I_46 J_47 S_48 L_49) → va_S A s.heap H locs → lv_has ls 11 [(0, .ref (a 0)), (1, .int x_50), (2, .int x_51), (4, .long y_52), (6, .int x_53), (7, .int x_54), (8, .int x_55)] → B_45 I_46 J_47 S_48 L_49 x_50 x_51 y_52 x_53 x_54 x_55 s_56 → W p l e (headSpec wsX8_takes rmX8_takes).room s m args below meth c H locs 0 0 (MQ below (gQl dC dI (wM a cy) (tyM cy) A Φ) args s 0 0 A) (F0 m 90 ls [.long s_56]) := by
                        intro I_46 J_47 S_48 L_49 x_50 x_51 y_52 x_53 x_54 x_55 s_56 H locs ls hP hD hS hl h
                        have h := hB_45 I_46 J_47 S_48 L_49 x_50 x_51 y_52 x_53 x_54 x_55 s_56 h
                        refine lv_lstore (lv' := [(9, .long s_56), (0, .ref (a 0)), (1, .int x_50), (2, .int x_51), (4, .long y_52), (6, .int x_53), (7, .int x_54), (8, .int x_55)]) hx hb dX8_takes_90 hl (by decide) rfl (fun ls hl => ?_)
                        refine lv_aload_n hx hb dX8_takes_92 rfl (lv_at hl 1 rfl) ?_
                        refine va_get (D := (dC, dI)) (ci := 8) (v := .ref (a 25)) (C := RX8) (T := TX8) (N := 47) hx hb hts nX8_takes_X8 hown hK hP 0 (wM_at0 _ _ _ _ _ _) rfl 26 (by decide) (hts (.fieldLink RX8 84 "SongOfficeModel" "bags" "[J") kX8_takes_5) (fun _ h9 => h9) rfl dX8_takes_93 ?_
                        refine lv_iload hx hb dX8_takes_96 (lv_at hl 7 rfl) ?_
                        refine lv_aload_n hx hb dX8_takes_98 rfl (lv_at hl 1 rfl) ?_
                        refine va_get (D := (dC, dI)) (ci := 8) (v := .ref (a 25)) (C := RX8) (T := TX8) (N := 47) hx hb hts nX8_takes_X8 hown hK hP 0 (wM_at0 _ _ _ _ _ _) rfl 26 (by decide) (hts (.fieldLink RX8 84 "SongOfficeModel" "bags" "[J") kX8_takes_5) (fun _ h9 => h9) rfl dX8_takes_99 ?_
                        refine lv_iload hx hb dX8_takes_102 (lv_at hl 7 rfl) ?_
                        obtain ⟨hi, h⟩ := h
                        refine va_lald hx hb hK hP 25 24 (wM_at25 _ _ _ _ _ _) rfl hi dX8_takes_104 ?_
                        refine lv_lload hx hb dX8_takes_105 (lv_at hl 0 rfl) ?_
                        refine lv_lsub hx hb dX8_takes_107 ?_
                        obtain ⟨hi, h⟩ := h
                        obtain ⟨J_57, eJ_57⟩ : ∃ z : TJ, z = va_up J_47 25 (vp_updL (J_47 25) (x_55).toNatClampNeg ((J_47 25 (x_55).toNatClampNeg) - s_56)) := ⟨_, rfl⟩
                        have h := h J_57 eJ_57
                        refine va_last hx hb hK hP hD hS 25 24 (wM_at25 _ _ _ _ _ _) rfl hi dX8_takes_108 (fun H locs hP hD hS => ?_)
                        have hP : va_P (dC, dI) vwCl (wM a cy I_46 J_57 S_48 L_49) H := by rw [eJ_57]; exact setP hP (wM_set25 _ _ _ _ _ _ _)
                        have hD : va_D A (wM a cy I_46 J_57 S_48 L_49) := by rw [eJ_57]; exact setD hD (wM_set25 _ _ _ _ _ _ _)
                        refine lv_lload hx hb dX8_takes_109 (lv_at hl 4 rfl) ?_
                        refine lv_lload hx hb dX8_takes_111 (lv_at hl 0 rfl) ?_
                        refine lv_lsub hx hb dX8_takes_113 ?_
                        refine lv_topl (fun y_58 ey_58 => ?_)
                        have h := h y_58 ey_58
                        refine lv_lstore (lv' := [(4, .long y_58), (9, .long s_56), (0, .ref (a 0)), (1, .int x_50), (2, .int x_51), (6, .int x_53), (7, .int x_54), (8, .int x_55)]) hx hb dX8_takes_114 hl (by decide) rfl (fun ls hl => ?_)
                        exact jB_28 I_46 J_57 S_48 L_49 x_50 x_51 y_58 x_53 x_54 _ _ _ hP hD hS (lv_sub hl [2, 3, 4, 0, 5, 6] rfl) h
                      refine lv_if_ge (tgt := 88) hx hb dX8_takes_75 (by decide) (fun hc => ?_) (fun hc => ?_)
                      · have h := h.1 hc
                        refine lv_lload hx hb dX8_takes_88 (lv_at hl 4 rfl) ?_
                        exact jB_45 I_40 J_41 S_42 L_43 x_21 x_22 y_23 x_24 x_25 r_44 y_23 _ _ _ hP hD hS (lv_sub hl [1, 2, 3, 4, 5, 6, 0] rfl) h
                      · have h := h.2 hc
                        refine lv_aload_n hx hb dX8_takes_78 rfl (lv_at hl 1 rfl) ?_
                        refine va_get (D := (dC, dI)) (ci := 8) (v := .ref (a 25)) (C := RX8) (T := TX8) (N := 47) hx hb hts nX8_takes_X8 hown hK hP 0 (wM_at0 _ _ _ _ _ _) rfl 26 (by decide) (hts (.fieldLink RX8 84 "SongOfficeModel" "bags" "[J") kX8_takes_5) (fun _ h9 => h9) rfl dX8_takes_79 ?_
                        refine lv_iload hx hb dX8_takes_82 (lv_at hl 0 rfl) ?_
                        obtain ⟨hi, h⟩ := h
                        refine va_lald hx hb hK hP 25 24 (wM_at25 _ _ _ _ _ _) rfl hi dX8_takes_84 ?_
                        refine lv_goto (tgt := 90) hx hb dX8_takes_85 (by decide) ?_
                        exact jB_45 I_40 J_41 S_42 L_43 x_21 x_22 y_23 x_24 x_25 r_44 (J_41 25 (r_44).toNatClampNeg) _ _ _ hP hD hS (lv_sub hl [1, 2, 3, 4, 5, 6, 0] rfl) h
                    · have h := h.2 hc
                      refine lv_goto (tgt := 116) hx hb dX8_takes_52 (by decide) ?_
                      exact jB_28 I_17 J_18 S_19 L_20 x_21 x_22 y_23 x_24 x_25 _ _ _ hP hD hS (lv_sub hl [0, 1, 2, 3, 4, 5] rfl) h
          exact lV_14 n_16 I_5 J_6 S_7 L_8 x_9 x_10 y_11 x_12 (0 : Int32) _ _ _ hP hD hS (lv_sub hl [1, 2, 3, 4, 5, 0] rfl) h0V_14
  exact lV_2 n_4 I J S L p0 p1 y_1 (0 : Int32) _ _ _ hP hD hS (lv_sub hl [2, 3, 4, 1, 0] rfl) h0V_2
def wp_X8_sent (I : TI) (J : TJ) (S : TS) (L : TL) (p0 : Int32) (p1 : Int32) (Φ : Int64 → TI → TJ → TS → TL → Prop) : Prop := wp_X8_isHand I J S L p0 (fun (r_5 : Int32) (I_1 : TI) (J_2 : TJ) (S_3 : TS) (L_4 : TL) => (∃ B_6 : TI → TJ → TS → TL → Prop, (∀ (I_7 : TI) (J_8 : TJ) (S_9 : TS) (L_10 : TL), B_6 I_7 J_8 S_9 L_10 → (Φ (-1 : Int64) I_7 J_8 S_9 L_10)) ∧ (((r_5 = 0) → (B_6 I_1 J_2 S_3 L_4)) ∧ ((¬ r_5 = 0) → (((p1 < (1 : Int32)) → (B_6 I_1 J_2 S_3 L_4)) ∧ ((¬ p1 < (1 : Int32)) → ((((1000000 : Int32) < p1) → (B_6 I_1 J_2 S_3 L_4)) ∧ ((¬ (1000000 : Int32) < p1) → (((¬ (S_3 4) = (60 : Int32)) → ((vp_in (S_3 4) 60) ∧ ∀ I_11 : TI, I_11 = va_up I_1 38 (upd (I_1 38) ((S_3 4)).toNatClampNeg p0) → ((vp_in (S_3 4) 60) ∧ ∀ I_12 : TI, I_12 = va_up I_11 39 (upd (I_11 39) ((S_3 4)).toNatClampNeg p1) → ((vp_in (S_3 4) 60) ∧ ∀ I_13 : TI, I_13 = va_up I_12 40 (upd (I_12 40) ((S_3 4)).toNatClampNeg (S_3 0)) → (∀ S_14 : TS, S_14 = va_up S_3 4 ((S_3 4) + (1 : Int32)) → (∀ L_15 : TL, L_15 = va_up L_4 0 ((L_4 0) + (((p1).toInt64) * (1000000 : Int64))) → (wp_X8_takes I_13 J_2 S_14 L_15 (0 : Int32) p0 p1 (fun (r_20 : Int64) (I_16 : TI) (J_17 : TJ) (S_18 : TS) (L_19 : TL) => (Φ r_20 I_16 J_17 S_18 L_19))))))))) ∧ (((S_3 4) = (60 : Int32)) → (B_6 I_1 J_2 S_3 L_4)))))))))))
theorem kX8_sent_3 : Cond.constantLong RX8 227 (-1) ∈ wsX8_sent := List.mem_of_getElem? (i := 3) rfl
theorem nX8_sent_X8 : ∀ w ∈ wsX80, w ∈ wsX8_sent := fun _ h => List.mem_cons_of_mem _ (List.mem_append_right _ h)
theorem kX8_sent_8 : Cond.fieldLink RX8 229 "SongOfficeModel" "sentAll" "J" ∈ wsX8_sent := List.mem_of_getElem? (i := 8) rfl
theorem kX8_sent_9 : Cond.constantLong RX8 194 (1000000) ∈ wsX8_sent := List.mem_of_getElem? (i := 9) rfl
theorem kX8_sent_2 : Cond.fieldLink RX8 224 "SongOfficeModel" "sents" "I" ∈ wsX8_sent := List.mem_of_getElem? (i := 2) rfl
theorem kX8_sent_7 : Cond.fieldLink RX8 136 "SongOfficeModel" "term" "I" ∈ wsX8_sent := List.mem_of_getElem? (i := 7) rfl
theorem kX8_sent_6 : Cond.fieldLink RX8 129 "SongOfficeModel" "sentTerm" "[I" ∈ wsX8_sent := List.mem_of_getElem? (i := 6) rfl
theorem kX8_sent_5 : Cond.fieldLink RX8 126 "SongOfficeModel" "sentCoins" "[I" ∈ wsX8_sent := List.mem_of_getElem? (i := 5) rfl
theorem kX8_sent_4 : Cond.fieldLink RX8 123 "SongOfficeModel" "sentHand" "[I" ∈ wsX8_sent := List.mem_of_getElem? (i := 4) rfl
theorem kX8_sent_1 : Cond.constant RX8 150 (1000000) ∈ wsX8_sent := List.mem_of_getElem? (i := 1) rfl
abbrev rmX8_sent : Room := { frames := 2, cells := 0, slots := 0, locals := 52 }
set_option maxHeartbeats 4000000 in
set_option maxRecDepth 100000 in
theorem c_X8_sent (l : Launch) (dC : Nat → ClassId) (dI : Nat → Nat → Nat) (a : Nat → Nat) (cy : Nat → ClassId) (sz : Nat) (I : TI) (J : TJ) (S : TS) (L : TL) (p0 : Int32) (p1 : Int32) (Φ : Int64 → TI → TJ → TS → TL → Prop) (h : wp_X8_sent I J S L p0 p1 Φ) : Met l yX8_sent wsX8_sent rmX8_sent (va_Pc [.ref (a 0), .int p0, .int p1] (gpre dC dI (wM a cy I J S L) (tyM cy) sz)) (gQl dC dI (wM a cy) (tyM cy) (va_A (wM a cy I J S L) sz) Φ) 0 0 (va_A (wM a cy I J S L) sz) := by
  refine Met.ofW (cc := cX8_sent) (maxL := 3) (ret := (some .long)) (by decide) rfl ?_
  intro p e s m args below meth c s₁ B hml hv
  obtain ⟨hargs, hsz, hP, hK, hD0⟩ := hv
  have hx := B.exec
  have hb := B.bytes
  have hr := B.returns
  have hts := atoms_spec (ws := wsX8_sent) B.pre
  have hown : s.vm.findClass RX8 = some m.cls := findClass_of_methodNamed B.named
  have hlocks := B.notSynchronized
  subst hsz
  have hD := hD0.self (sz := s.heap.size)
  generalize hAe : va_A (wM a cy I J S L) s.heap.size = A at hD ⊢
  have hA : ∀ q : Nat, s.heap.size ≤ q → A q := fun q h => by rw [← hAe]; exact Or.inr h
  have hS : va_S A s.heap s.heap [] := va_S.rf
  have hl := lv_entry ([.ref (a 0), .int p0, .int p1]) (n := 3) (Nat.le_of_ble_eq_true rfl)
  have hE : entryFrame m args 3 = F0 m 0 ((lg_sl ([.ref (a 0), .int p0, .int p1]) ++ List.replicate (3 - (lg_sl ([.ref (a 0), .int p0, .int p1])).length) Slot.unset).toArray) [] := by rw [hargs]; exact lg_entry_eq m _ _
  rw [hE]
  clear hE
  generalize (lg_sl ([.ref (a 0), .int p0, .int p1]) ++ List.replicate (3 - (lg_sl ([.ref (a 0), .int p0, .int p1])).length) Slot.unset).toArray = ls at hl ⊢
  have hl : lv_has ls 3 [(0, .ref (a 0)), (1, .int p0), (2, .int p1)] := hl
  unfold wp_X8_sent at h
  refine lv_iload_n hx hb dX8_sent_0 rfl (lv_at hl 1 rfl) ?_
  refine gcalli (va_runS (As := [.int p0]) (rest := []) ⟨hx, hb, hml, hown, hts⟩ (c_X8_isHand l dC dI (wM a cy) (tyM cy) H.size I J S L p0 _ h) (va_cwS 1 hts gX8_sent_X8_isHand rfl rfl rfl (by decide +kernel) ⟨(Nat.le_of_ble_eq_true rfl), (Nat.le_of_ble_eq_true rfl)⟩) (g_pS hP hK hD [.int p0]) rfl rfl hl.1 rfl (lv_room (Nat.le_of_ble_eq_true rfl)) dX8_sent_1 ⟨(Nat.le_of_ble_eq_true rfl), (Nat.le_of_ble_eq_true rfl)⟩) hS hA hD (fun r_5 I_1 J_2 S_3 L_4 H locs hP hD hS h => ?_)
  obtain ⟨B_6, hB_6, h⟩ := h
  have jB_6 : ∀ (I_7 : TI) (J_8 : TJ) (S_9 : TS) (L_10 : TL) (H : Heap) (locs : List Loc) (ls : Array Slot), va_P (dC, dI) vwCl (wM a cy I_7 J_8 S_9 L_10) H → va_D A (wM a cy I_7 J_8 S_9 L_10) → va_S A s.heap H locs → lv_has ls 3 [] → B_6 I_7 J_8 S_9 L_10 → W p l e (headSpec wsX8_sent rmX8_sent).room s m args below meth c H locs 0 0 (MQ below (gQl dC dI (wM a cy) (tyM cy) A Φ) args s 0 0 A) (F0 m 27 ls []) := by
    intro I_7 J_8 S_9 L_10 H locs ls hP hD hS hl h
    have h := hB_6 I_7 J_8 S_9 L_10 h
    refine lv_ldc2 (v := -1) hx hb hown (hts (.constantLong RX8 227 (-1)) kX8_sent_3) dX8_sent_27 ?_
    exact grl hx hb hr hlocks hP hK hD hS h dX8_sent_30
  refine lv_if_eq (tgt := 27) hx hb dX8_sent_4 (by decide) (fun hc => ?_) (fun hc => ?_)
  · have h := h.1 hc
    exact jB_6 I_1 J_2 S_3 L_4 _ _ _ hP hD hS (lv_sub hl [] rfl) h
  · have h := h.2 hc
    refine lv_iload_n hx hb dX8_sent_7 rfl (lv_at hl 2 rfl) ?_
    refine lv_iconst (v := 1) hx hb dX8_sent_8 (by decide) ?_
    refine lv_icmp_lt (tgt := 27) hx hb dX8_sent_9 (by decide) (fun hc => ?_) (fun hc => ?_)
    · have h := h.1 hc
      exact jB_6 I_1 J_2 S_3 L_4 _ _ _ hP hD hS (lv_sub hl [] rfl) h
    · have h := h.2 hc
      refine lv_iload_n hx hb dX8_sent_12 rfl (lv_at hl 2 rfl) ?_
      refine lv_ldc (v := 1000000) hx hb hown (hts (.constant RX8 150 (1000000)) kX8_sent_1) dX8_sent_13 ?_
      refine lv_icmp_gt (tgt := 27) hx hb dX8_sent_15 (by decide) (fun hc => ?_) (fun hc => ?_)
      · have h := h.1 hc
        exact jB_6 I_1 J_2 S_3 L_4 _ _ _ hP hD hS (lv_sub hl [] rfl) h
      · have h := h.2 hc
        refine lv_aload_n hx hb dX8_sent_18 rfl (lv_at hl 0 rfl) ?_
        refine va_get (D := (dC, dI)) (ci := 8) (v := .int (S_3 4)) (C := RX8) (T := TX8) (N := 47) hx hb hts nX8_sent_X8 hown hK hP 0 (wM_at0 _ _ _ _ _ _) rfl 41 (by decide) (hts (.fieldLink RX8 224 "SongOfficeModel" "sents" "I") kX8_sent_2) (fun _ h9 => h9) rfl dX8_sent_19 ?_
        refine lv_bipush (v := 60) hx hb dX8_sent_22 (by decide) ?_
        refine lv_icmp_ne (tgt := 31) hx hb dX8_sent_24 (by decide) (fun hc => ?_) (fun hc => ?_)
        · have h := h.1 hc
          refine lv_aload_n hx hb dX8_sent_31 rfl (lv_at hl 0 rfl) ?_
          refine va_get (D := (dC, dI)) (ci := 8) (v := .ref (a 38)) (C := RX8) (T := TX8) (N := 47) hx hb hts nX8_sent_X8 hown hK hP 0 (wM_at0 _ _ _ _ _ _) rfl 42 (by decide) (hts (.fieldLink RX8 123 "SongOfficeModel" "sentHand" "[I") kX8_sent_4) (fun _ h9 => h9) rfl dX8_sent_32 ?_
          refine lv_aload_n hx hb dX8_sent_35 rfl (lv_at hl 0 rfl) ?_
          refine va_get (D := (dC, dI)) (ci := 8) (v := .int (S_3 4)) (C := RX8) (T := TX8) (N := 47) hx hb hts nX8_sent_X8 hown hK hP 0 (wM_at0 _ _ _ _ _ _) rfl 41 (by decide) (hts (.fieldLink RX8 224 "SongOfficeModel" "sents" "I") kX8_sent_2) (fun _ h9 => h9) rfl dX8_sent_36 ?_
          refine lv_iload_n hx hb dX8_sent_39 rfl (lv_at hl 1 rfl) ?_
          obtain ⟨hi, h⟩ := h
          obtain ⟨I_11, eI_11⟩ : ∃ z : TI, z = va_up I_1 38 (upd (I_1 38) ((S_3 4)).toNatClampNeg p0) := ⟨_, rfl⟩
          have h := h I_11 eI_11
          refine va_iast hx hb hK hP hD hS 38 37 (wM_at38 _ _ _ _ _ _) rfl hi dX8_sent_40 (fun H locs hP hD hS => ?_)
          have hP : va_P (dC, dI) vwCl (wM a cy I_11 J_2 S_3 L_4) H := by rw [eI_11]; exact setP hP (wM_set38 _ _ _ _ _ _ _)
          have hD : va_D A (wM a cy I_11 J_2 S_3 L_4) := by rw [eI_11]; exact setD hD (wM_set38 _ _ _ _ _ _ _)
          refine lv_aload_n hx hb dX8_sent_41 rfl (lv_at hl 0 rfl) ?_
          refine va_get (D := (dC, dI)) (ci := 8) (v := .ref (a 39)) (C := RX8) (T := TX8) (N := 47) hx hb hts nX8_sent_X8 hown hK hP 0 (wM_at0 _ _ _ _ _ _) rfl 43 (by decide) (hts (.fieldLink RX8 126 "SongOfficeModel" "sentCoins" "[I") kX8_sent_5) (fun _ h9 => h9) rfl dX8_sent_42 ?_
          refine lv_aload_n hx hb dX8_sent_45 rfl (lv_at hl 0 rfl) ?_
          refine va_get (D := (dC, dI)) (ci := 8) (v := .int (S_3 4)) (C := RX8) (T := TX8) (N := 47) hx hb hts nX8_sent_X8 hown hK hP 0 (wM_at0 _ _ _ _ _ _) rfl 41 (by decide) (hts (.fieldLink RX8 224 "SongOfficeModel" "sents" "I") kX8_sent_2) (fun _ h9 => h9) rfl dX8_sent_46 ?_
          refine lv_iload_n hx hb dX8_sent_49 rfl (lv_at hl 2 rfl) ?_
          obtain ⟨hi, h⟩ := h
          obtain ⟨I_12, eI_12⟩ : ∃ z : TI, z = va_up I_11 39 (upd (I_11 39) ((S_3 4)).toNatClampNeg p1) := ⟨_, rfl⟩
          have h := h I_12 eI_12
          refine va_iast hx hb hK hP hD hS 39 38 (wM_at39 _ _ _ _ _ _) rfl hi dX8_sent_50 (fun H locs hP hD hS => ?_)
          have hP : va_P (dC, dI) vwCl (wM a cy I_12 J_2 S_3 L_4) H := by rw [eI_12]; exact setP hP (wM_set39 _ _ _ _ _ _ _)
          have hD : va_D A (wM a cy I_12 J_2 S_3 L_4) := by rw [eI_12]; exact setD hD (wM_set39 _ _ _ _ _ _ _)
          refine lv_aload_n hx hb dX8_sent_51 rfl (lv_at hl 0 rfl) ?_
          refine va_get (D := (dC, dI)) (ci := 8) (v := .ref (a 40)) (C := RX8) (T := TX8) (N := 47) hx hb hts nX8_sent_X8 hown hK hP 0 (wM_at0 _ _ _ _ _ _) rfl 44 (by decide) (hts (.fieldLink RX8 129 "SongOfficeModel" "sentTerm" "[I") kX8_sent_6) (fun _ h9 => h9) rfl dX8_sent_52 ?_
          refine lv_aload_n hx hb dX8_sent_55 rfl (lv_at hl 0 rfl) ?_
          refine va_get (D := (dC, dI)) (ci := 8) (v := .int (S_3 4)) (C := RX8) (T := TX8) (N := 47) hx hb hts nX8_sent_X8 hown hK hP 0 (wM_at0 _ _ _ _ _ _) rfl 41 (by decide) (hts (.fieldLink RX8 224 "SongOfficeModel" "sents" "I") kX8_sent_2) (fun _ h9 => h9) rfl dX8_sent_56 ?_
          refine lv_aload_n hx hb dX8_sent_59 rfl (lv_at hl 0 rfl) ?_
          refine va_get (D := (dC, dI)) (ci := 8) (v := .int (S_3 0)) (C := RX8) (T := TX8) (N := 47) hx hb hts nX8_sent_X8 hown hK hP 0 (wM_at0 _ _ _ _ _ _) rfl 0 (by decide) (hts (.fieldLink RX8 136 "SongOfficeModel" "term" "I") kX8_sent_7) (fun _ h9 => h9) rfl dX8_sent_60 ?_
          obtain ⟨hi, h⟩ := h
          obtain ⟨I_13, eI_13⟩ : ∃ z : TI, z = va_up I_12 40 (upd (I_12 40) ((S_3 4)).toNatClampNeg (S_3 0)) := ⟨_, rfl⟩
          have h := h I_13 eI_13
          refine va_iast hx hb hK hP hD hS 40 39 (wM_at40 _ _ _ _ _ _) rfl hi dX8_sent_63 (fun H locs hP hD hS => ?_)
          have hP : va_P (dC, dI) vwCl (wM a cy I_13 J_2 S_3 L_4) H := by rw [eI_13]; exact setP hP (wM_set40 _ _ _ _ _ _ _)
          have hD : va_D A (wM a cy I_13 J_2 S_3 L_4) := by rw [eI_13]; exact setD hD (wM_set40 _ _ _ _ _ _ _)
          refine lv_aload_n hx hb dX8_sent_64 rfl (lv_at hl 0 rfl) ?_
          refine lv_aload_n hx hb dX8_sent_65 rfl (lv_at hl 0 rfl) ?_
          refine va_get (D := (dC, dI)) (ci := 8) (v := .int (S_3 4)) (C := RX8) (T := TX8) (N := 47) hx hb hts nX8_sent_X8 hown hK hP 0 (wM_at0 _ _ _ _ _ _) rfl 41 (by decide) (hts (.fieldLink RX8 224 "SongOfficeModel" "sents" "I") kX8_sent_2) (fun _ h9 => h9) rfl dX8_sent_66 ?_
          refine lv_iconst (v := 1) hx hb dX8_sent_69 (by decide) ?_
          refine lv_iadd hx hb dX8_sent_70 ?_
          obtain ⟨S_14, eS_14⟩ : ∃ z : TS, z = va_up S_3 4 ((S_3 4) + (1 : Int32)) := ⟨_, rfl⟩
          have h := h S_14 eS_14
          refine va_put (D := (dC, dI)) (ci := 8) (v := .int ((S_3 4) + (1 : Int32))) (ty := .int) (C := RX8) (T := TX8) (N := 47) hx hb hts nX8_sent_X8 tyX8 tyX8_ok nmX8 hown hK hP hD hS 0 (wM_at0 _ _ _ _ _ _) rfl 41 (by decide) (hts (.fieldLink RX8 224 "SongOfficeModel" "sents" "I") kX8_sent_2) (fun _ h9 => h9) rfl (by decide +kernel) rfl rfl (Nat.le_of_ble_eq_true rfl) dX8_sent_71 (fun H locs hP hD hS => ?_)
          have hP : va_P (dC, dI) vwCl (wM a cy I_13 J_2 S_14 L_4) H := by rw [eS_14]; exact setP hP (wM_setS4 _ _ _ _ _ _ _)
          have hD : va_D A (wM a cy I_13 J_2 S_14 L_4) := by rw [eS_14]; exact setD hD (wM_setS4 _ _ _ _ _ _ _)
          refine lv_aload_n hx hb dX8_sent_74 rfl (lv_at hl 0 rfl) ?_
          refine lv_aload_n hx hb dX8_sent_75 rfl (lv_at hl 0 rfl) ?_
          refine va_get (D := (dC, dI)) (ci := 8) (v := .long (L_4 0)) (C := RX8) (T := TX8) (N := 47) hx hb hts nX8_sent_X8 hown hK hP 0 (wM_at0 _ _ _ _ _ _) rfl 45 (by decide) (hts (.fieldLink RX8 229 "SongOfficeModel" "sentAll" "J") kX8_sent_8) (fun _ h9 => h9) rfl dX8_sent_76 ?_
          refine lv_iload_n hx hb dX8_sent_79 rfl (lv_at hl 2 rfl) ?_
          refine lv_i2l (v := ((p1).toInt64)) hx hb dX8_sent_80 rfl ?_
          refine lv_ldc2 (v := 1000000) hx hb hown (hts (.constantLong RX8 194 (1000000)) kX8_sent_9) dX8_sent_81 ?_
          refine lv_lmul hx hb dX8_sent_84 ?_
          refine lv_ladd hx hb dX8_sent_85 ?_
          obtain ⟨L_15, eL_15⟩ : ∃ z : TL, z = va_up L_4 0 ((L_4 0) + (((p1).toInt64) * (1000000 : Int64))) := ⟨_, rfl⟩
          have h := h L_15 eL_15
          refine va_put (D := (dC, dI)) (ci := 8) (v := .long ((L_4 0) + (((p1).toInt64) * (1000000 : Int64)))) (ty := .long) (C := RX8) (T := TX8) (N := 47) hx hb hts nX8_sent_X8 tyX8 tyX8_ok nmX8 hown hK hP hD hS 0 (wM_at0 _ _ _ _ _ _) rfl 45 (by decide) (hts (.fieldLink RX8 229 "SongOfficeModel" "sentAll" "J") kX8_sent_8) (fun _ h9 => h9) rfl (by decide +kernel) rfl rfl (Nat.le_of_ble_eq_true rfl) dX8_sent_86 (fun H locs hP hD hS => ?_)
          have hP : va_P (dC, dI) vwCl (wM a cy I_13 J_2 S_14 L_15) H := by rw [eL_15]; exact setP hP (wM_setL0 _ _ _ _ _ _ _)
          have hD : va_D A (wM a cy I_13 J_2 S_14 L_15) := by rw [eL_15]; exact setD hD (wM_setL0 _ _ _ _ _ _ _)
          refine lv_aload_n hx hb dX8_sent_89 rfl (lv_at hl 0 rfl) ?_
          refine lv_iconst (v := 0) hx hb dX8_sent_90 (by decide) ?_
          refine lv_iload_n hx hb dX8_sent_91 rfl (lv_at hl 1 rfl) ?_
          refine lv_iload_n hx hb dX8_sent_92 rfl (lv_at hl 2 rfl) ?_
          refine gcalll (va_runV (As := [.int (0 : Int32), .int p0, .int p1]) (rest := []) ⟨hx, hb, hml, hown, hts⟩ (c_X8_takes l dC dI a cy H.size I_13 J_2 S_14 L_15 (0 : Int32) p0 p1 _ h) (cwV 3 hts gX8_sent_X8_takes rfl rfl rfl (by decide +kernel) ⟨(Nat.le_of_ble_eq_true rfl), (Nat.le_of_ble_eq_true rfl)⟩) (g_pV hP hK hD (va_recv hK hP (ci := 8) (q0 := 0) rfl (wM_at0 _ _ _ _ _ _)) [.int (0 : Int32), .int p0, .int p1]) rfl rfl hl.1 rfl (lv_room (Nat.le_of_ble_eq_true rfl)) dX8_sent_93 ⟨(Nat.le_of_ble_eq_true rfl), (Nat.le_of_ble_eq_true rfl)⟩) hS hA hD (fun r_20 I_16 J_17 S_18 L_19 H locs hP hD hS h => ?_)
          exact grl hx hb hr hlocks hP hK hD hS h dX8_sent_96
        · have h := h.2 hc
          exact jB_6 I_1 J_2 S_3 L_4 _ _ _ hP hD hS (lv_sub hl [] rfl) h
def wp_X8_sentIn (I : TI) (J : TJ) (S : TS) (L : TL) (p0 : Int32) (Φ : TI → TJ → TS → TL → Prop) : Prop := ∃ V_1 : Nat → TI → TJ → TS → TL → Int32 → Int32 → Prop, (∃ n_3, V_1 n_3 I J S L p0 (0 : Int32)) ∧ ∀ (n_2 : Nat) (I_4 : TI) (J_5 : TJ) (S_6 : TS) (L_7 : TL) (x_8 : Int32) (x_9 : Int32), V_1 n_2 I_4 J_5 S_6 L_7 x_8 x_9 → ((((S_6 4) ≤ x_9) → (Φ I_4 J_5 S_6 L_7)) ∧ ((¬ (S_6 4) ≤ x_9) → ((vp_in x_9 60) ∧ (∃ B_10 : TI → TJ → TS → TL → Int32 → Int32 → Prop, (∀ (I_11 : TI) (J_12 : TJ) (S_13 : TS) (L_14 : TL) (x_15 : Int32) (x_16 : Int32), B_10 I_11 J_12 S_13 L_14 x_15 x_16 → (∀ x_17 : Int32, x_17 = x_16 + 1 → (∃ n_18, n_18 < n_2 ∧ V_1 n_18 I_11 J_12 S_13 L_14 x_15 x_17))) ∧ (((¬ (I_4 40 (x_9).toNatClampNeg) = x_8) → (B_10 I_4 J_5 S_6 L_7 x_8 x_9)) ∧ (((I_4 40 (x_9).toNatClampNeg) = x_8) → ((vp_in x_9 60) ∧ ((vp_in x_9 60) ∧ (wp_X8_takes I_4 J_5 S_6 L_7 (1 : Int32) (I_4 38 (x_9).toNatClampNeg) (I_4 39 (x_9).toNatClampNeg) (fun (r_23 : Int64) (I_19 : TI) (J_20 : TJ) (S_21 : TS) (L_22 : TL) => (B_10 I_19 J_20 S_21 L_22 x_8 x_9)))))))))))
theorem nX8_sentIn_X8 : ∀ w ∈ wsX80, w ∈ wsX8_sentIn := fun _ h => List.mem_cons_of_mem _ (List.mem_append_right _ h)
theorem kX8_sentIn_4 : Cond.fieldLink RX8 126 "SongOfficeModel" "sentCoins" "[I" ∈ wsX8_sentIn := List.mem_of_getElem? (i := 4) rfl
theorem kX8_sentIn_3 : Cond.fieldLink RX8 123 "SongOfficeModel" "sentHand" "[I" ∈ wsX8_sentIn := List.mem_of_getElem? (i := 3) rfl
theorem kX8_sentIn_2 : Cond.fieldLink RX8 129 "SongOfficeModel" "sentTerm" "[I" ∈ wsX8_sentIn := List.mem_of_getElem? (i := 2) rfl
theorem kX8_sentIn_1 : Cond.fieldLink RX8 224 "SongOfficeModel" "sents" "I" ∈ wsX8_sentIn := List.mem_of_getElem? (i := 1) rfl
abbrev rmX8_sentIn : Room := { frames := 2, cells := 0, slots := 0, locals := 52 }
set_option maxHeartbeats 4000000 in
set_option maxRecDepth 100000 in
theorem c_X8_sentIn (l : Launch) (dC : Nat → ClassId) (dI : Nat → Nat → Nat) (a : Nat → Nat) (cy : Nat → ClassId) (sz : Nat) (I : TI) (J : TJ) (S : TS) (L : TL) (p0 : Int32) (Φ : TI → TJ → TS → TL → Prop) (h : wp_X8_sentIn I J S L p0 Φ) : Met l yX8_sentIn wsX8_sentIn rmX8_sentIn (va_Pc [.ref (a 0), .int p0] (gpre dC dI (wM a cy I J S L) (tyM cy) sz)) (gQv dC dI (wM a cy) (tyM cy) (va_A (wM a cy I J S L) sz) Φ) 0 0 (va_A (wM a cy I J S L) sz) := by
  refine Met.ofW (cc := cX8_sentIn) (maxL := 3) (ret := none) (by decide) rfl ?_
  intro p e s m args below meth c s₁ B hml hv
  obtain ⟨hargs, hsz, hP, hK, hD0⟩ := hv
  have hx := B.exec
  have hb := B.bytes
  have hr := B.returns
  have hts := atoms_spec (ws := wsX8_sentIn) B.pre
  have hown : s.vm.findClass RX8 = some m.cls := findClass_of_methodNamed B.named
  have hlocks := B.notSynchronized
  subst hsz
  have hD := hD0.self (sz := s.heap.size)
  generalize hAe : va_A (wM a cy I J S L) s.heap.size = A at hD ⊢
  have hA : ∀ q : Nat, s.heap.size ≤ q → A q := fun q h => by rw [← hAe]; exact Or.inr h
  have hS : va_S A s.heap s.heap [] := va_S.rf
  have hl := lv_entry ([.ref (a 0), .int p0]) (n := 3) (Nat.le_of_ble_eq_true rfl)
  have hE : entryFrame m args 3 = F0 m 0 ((lg_sl ([.ref (a 0), .int p0]) ++ List.replicate (3 - (lg_sl ([.ref (a 0), .int p0])).length) Slot.unset).toArray) [] := by rw [hargs]; exact lg_entry_eq m _ _
  rw [hE]
  clear hE
  generalize (lg_sl ([.ref (a 0), .int p0]) ++ List.replicate (3 - (lg_sl ([.ref (a 0), .int p0])).length) Slot.unset).toArray = ls at hl ⊢
  have hl : lv_has ls 3 [(0, .ref (a 0)), (1, .int p0)] := hl
  unfold wp_X8_sentIn at h
  refine lv_iconst (v := 0) hx hb dX8_sentIn_0 (by decide) ?_
  refine lv_istore_n (lv' := [(2, .int (0 : Int32)), (0, .ref (a 0)), (1, .int p0)]) hx hb dX8_sentIn_1 rfl hl (by decide) rfl (fun ls hl => ?_)
  obtain ⟨V_1, ⟨n_3, h0V_1⟩, hV_1⟩ := h
  have lV_1 : ∀ (n_2 : Nat) (I_4 : TI) (J_5 : TJ) (S_6 : TS) (L_7 : TL) (x_8 : Int32) (x_9 : Int32) (H : Heap) (locs : List Loc) (ls : Array Slot), va_P (dC, dI) vwCl (wM a cy I_4 J_5 S_6 L_7) H → va_D A (wM a cy I_4 J_5 S_6 L_7) → va_S A s.heap H locs → lv_has ls 3 [(0, .ref (a 0)), (1, .int x_8), (2, .int x_9)] → V_1 n_2 I_4 J_5 S_6 L_7 x_8 x_9 → W p l e (headSpec wsX8_sentIn rmX8_sentIn).room s m args below meth c H locs 0 0 (MQ below (gQv dC dI (wM a cy) (tyM cy) A Φ) args s 0 0 A) (F0 m 2 ls []) := by
    intro n_2
    induction n_2 using Nat.strongRecOn with
    | ind n_2 ihV_1 =>
        intro I_4 J_5 S_6 L_7 x_8 x_9 H locs ls hP hD hS hl h
        have h := hV_1 n_2 I_4 J_5 S_6 L_7 x_8 x_9 h
        refine lv_iload_n hx hb dX8_sentIn_2 rfl (lv_at hl 2 rfl) ?_
        refine lv_aload_n hx hb dX8_sentIn_3 rfl (lv_at hl 0 rfl) ?_
        refine va_get (D := (dC, dI)) (ci := 8) (v := .int (S_6 4)) (C := RX8) (T := TX8) (N := 47) hx hb hts nX8_sentIn_X8 hown hK hP 0 (wM_at0 _ _ _ _ _ _) rfl 41 (by decide) (hts (.fieldLink RX8 224 "SongOfficeModel" "sents" "I") kX8_sentIn_1) (fun _ h9 => h9) rfl dX8_sentIn_4 ?_
        refine lv_icmp_ge (tgt := 44) hx hb dX8_sentIn_7 (by decide) (fun hc => ?_) (fun hc => ?_)
        · have h := h.1 hc
          exact grv hx hb hr hlocks hP hK hD hS h dX8_sentIn_44
        · have h := h.2 hc
          refine lv_aload_n hx hb dX8_sentIn_10 rfl (lv_at hl 0 rfl) ?_
          refine va_get (D := (dC, dI)) (ci := 8) (v := .ref (a 40)) (C := RX8) (T := TX8) (N := 47) hx hb hts nX8_sentIn_X8 hown hK hP 0 (wM_at0 _ _ _ _ _ _) rfl 44 (by decide) (hts (.fieldLink RX8 129 "SongOfficeModel" "sentTerm" "[I") kX8_sentIn_2) (fun _ h9 => h9) rfl dX8_sentIn_11 ?_
          refine lv_iload_n hx hb dX8_sentIn_14 rfl (lv_at hl 2 rfl) ?_
          obtain ⟨hi, h⟩ := h
          refine va_iald hx hb hK hP 40 39 (wM_at40 _ _ _ _ _ _) rfl hi dX8_sentIn_15 ?_
          refine lv_iload_n hx hb dX8_sentIn_16 rfl (lv_at hl 1 rfl) ?_
          obtain ⟨B_10, hB_10, h⟩ := h
          have jB_10 : ∀ (I_11 : TI) (J_12 : TJ) (S_13 : TS) (L_14 : TL) (x_15 : Int32) (x_16 : Int32) (H : Heap) (locs : List Loc) (ls : Array Slot), va_P (dC, dI) vwCl (wM a cy I_11 J_12 S_13 L_14) H → va_D A (wM a cy I_11 J_12 S_13 L_14) → va_S A s.heap H locs → lv_has ls 3 [(0, .ref (a 0)), (1, .int x_15), (2, .int x_16)] → B_10 I_11 J_12 S_13 L_14 x_15 x_16 → W p l e (headSpec wsX8_sentIn rmX8_sentIn).room s m args below meth c H locs 0 0 (MQ below (gQv dC dI (wM a cy) (tyM cy) A Φ) args s 0 0 A) (F0 m 38 ls []) := by
            intro I_11 J_12 S_13 L_14 x_15 x_16 H locs ls hP hD hS hl h
            have h := hB_10 I_11 J_12 S_13 L_14 x_15 x_16 h
            obtain ⟨x_17, ex_17⟩ : ∃ z : Int32, z = x_16 + 1 := ⟨_, rfl⟩
            have h := h x_17 ex_17
            refine lv_iinc (v := x_17) (lv' := [(2, .int x_17), (0, .ref (a 0)), (1, .int x_15)]) hx hb dX8_sentIn_38 hl (k := 2) rfl (by rw [ex_17]; rfl) (by decide) rfl (fun ls hl => ?_)
            refine lv_goto (tgt := 2) hx hb dX8_sentIn_41 (by decide) ?_
            obtain ⟨n_18, hn2, h⟩ := h
            exact ihV_1 n_18 hn2 I_11 J_12 S_13 L_14 x_15 x_17 _ _ _ hP hD hS (lv_sub hl [1, 2, 0] rfl) h
          refine lv_icmp_ne (tgt := 38) hx hb dX8_sentIn_17 (by decide) (fun hc => ?_) (fun hc => ?_)
          · have h := h.1 hc
            exact jB_10 I_4 J_5 S_6 L_7 x_8 x_9 _ _ _ hP hD hS (lv_sub hl [0, 1, 2] rfl) h
          · have h := h.2 hc
            refine lv_aload_n hx hb dX8_sentIn_20 rfl (lv_at hl 0 rfl) ?_
            refine lv_iconst (v := 1) hx hb dX8_sentIn_21 (by decide) ?_
            refine lv_aload_n hx hb dX8_sentIn_22 rfl (lv_at hl 0 rfl) ?_
            refine va_get (D := (dC, dI)) (ci := 8) (v := .ref (a 38)) (C := RX8) (T := TX8) (N := 47) hx hb hts nX8_sentIn_X8 hown hK hP 0 (wM_at0 _ _ _ _ _ _) rfl 42 (by decide) (hts (.fieldLink RX8 123 "SongOfficeModel" "sentHand" "[I") kX8_sentIn_3) (fun _ h9 => h9) rfl dX8_sentIn_23 ?_
            refine lv_iload_n hx hb dX8_sentIn_26 rfl (lv_at hl 2 rfl) ?_
            obtain ⟨hi, h⟩ := h
            refine va_iald hx hb hK hP 38 37 (wM_at38 _ _ _ _ _ _) rfl hi dX8_sentIn_27 ?_
            refine lv_aload_n hx hb dX8_sentIn_28 rfl (lv_at hl 0 rfl) ?_
            refine va_get (D := (dC, dI)) (ci := 8) (v := .ref (a 39)) (C := RX8) (T := TX8) (N := 47) hx hb hts nX8_sentIn_X8 hown hK hP 0 (wM_at0 _ _ _ _ _ _) rfl 43 (by decide) (hts (.fieldLink RX8 126 "SongOfficeModel" "sentCoins" "[I") kX8_sentIn_4) (fun _ h9 => h9) rfl dX8_sentIn_29 ?_
            refine lv_iload_n hx hb dX8_sentIn_32 rfl (lv_at hl 2 rfl) ?_
            obtain ⟨hi, h⟩ := h
            refine va_iald hx hb hK hP 39 38 (wM_at39 _ _ _ _ _ _) rfl hi dX8_sentIn_33 ?_
            refine gcalll (va_runV (As := [.int (1 : Int32), .int (I_4 38 (x_9).toNatClampNeg), .int (I_4 39 (x_9).toNatClampNeg)]) (rest := []) ⟨hx, hb, hml, hown, hts⟩ (c_X8_takes l dC dI a cy H.size I_4 J_5 S_6 L_7 (1 : Int32) (I_4 38 (x_9).toNatClampNeg) (I_4 39 (x_9).toNatClampNeg) _ h) (cwV 3 hts gX8_sentIn_X8_takes rfl rfl rfl (by decide +kernel) ⟨(Nat.le_of_ble_eq_true rfl), (Nat.le_of_ble_eq_true rfl)⟩) (g_pV hP hK hD (va_recv hK hP (ci := 8) (q0 := 0) rfl (wM_at0 _ _ _ _ _ _)) [.int (1 : Int32), .int (I_4 38 (x_9).toNatClampNeg), .int (I_4 39 (x_9).toNatClampNeg)]) rfl rfl hl.1 rfl (lv_room (Nat.le_of_ble_eq_true rfl)) dX8_sentIn_34 ⟨(Nat.le_of_ble_eq_true rfl), (Nat.le_of_ble_eq_true rfl)⟩) hS hA hD (fun r_23 I_19 J_20 S_21 L_22 H locs hP hD hS h => ?_)
            refine lv_pop2_2 hx hb dX8_sentIn_37 rfl ?_
            exact jB_10 I_19 J_20 S_21 L_22 x_8 x_9 _ _ _ hP hD hS (lv_sub hl [0, 1, 2] rfl) h
  exact lV_1 n_3 I J S L p0 (0 : Int32) _ _ _ hP hD hS (lv_sub hl [1, 2, 0] rfl) h0V_1
