def wp_X8_pays (I : TI) (J : TJ) (S : TS) (L : TL) (p0 : Int32) (p1 : Int32) (p2 : Int32) (Φ : TI → TJ → TS → TL → Prop) : Prop := ∀ x_1 : Int32, x_1 = (((12 : Int32) * p0) + p2) → ((vp_in x_1 24) ∧ (∃ B_2 : TI → TJ → TS → TL → Int32 → Prop, (∀ (I_3 : TI) (J_4 : TJ) (S_5 : TS) (L_6 : TL) (x_7 : Int32), B_2 I_3 J_4 S_5 L_6 x_7 → ((vp_in x_7 24) ∧ (∃ B_8 : TI → TJ → TS → TL → Int32 → Int32 → Prop, (∀ (I_9 : TI) (J_10 : TJ) (S_11 : TS) (L_12 : TL) (x_13 : Int32) (s_14 : Int32), B_8 I_9 J_10 S_11 L_12 x_13 s_14 → (wp_X8_dueAt I_9 J_10 S_11 L_12 p0 p2 p1 (fun (r_19 : Int32) (I_15 : TI) (J_16 : TJ) (S_17 : TS) (L_18 : TL) => ((vp_in r_19 960) ∧ ∀ I_20 : TI, I_20 = va_up I_15 26 (upd (I_15 26) (r_19).toNatClampNeg s_14) → ((vp_in x_13 24) ∧ ((vp_in x_13 24) ∧ ∀ J_21 : TJ, J_21 = va_up J_16 21 (vp_updL (J_16 21) (x_13).toNatClampNeg ((J_16 21 (x_13).toNatClampNeg) - (((s_14).toInt64) * (1000000 : Int64)))) → (Φ I_20 J_21 S_17 L_18))))))) ∧ (((0 ≤ (lg_cmp (J_4 21 (x_7).toNatClampNeg) (1000000 : Int64))) → ((vp_in x_7 24) ∧ (B_8 I_3 J_4 S_5 L_6 x_7 ((((J_4 21 (x_7).toNatClampNeg) / (1000000 : Int64))).toInt32)))) ∧ ((¬ 0 ≤ (lg_cmp (J_4 21 (x_7).toNatClampNeg) (1000000 : Int64))) → (B_8 I_3 J_4 S_5 L_6 x_7 (0 : Int32))))))) ∧ ((((lg_cmp (J 22 (x_1).toNatClampNeg) (0 : Int64)) ≤ 0) → (B_2 I J S L x_1)) ∧ ((¬ (lg_cmp (J 22 (x_1).toNatClampNeg) (0 : Int64)) ≤ 0) → ((vp_in x_1 24) ∧ ((((lg_cmp (J 21 (x_1).toNatClampNeg) (0 : Int64)) ≤ 0) → (B_2 I J S L x_1)) ∧ ((¬ (lg_cmp (J 21 (x_1).toNatClampNeg) (0 : Int64)) ≤ 0) → ((vp_in x_1 24) ∧ ((vp_in x_1 24) ∧ (∃ B_22 : TI → TJ → TS → TL → Int32 → Int64 → Prop, (∀ (I_23 : TI) (J_24 : TJ) (S_25 : TS) (L_26 : TL) (x_27 : Int32) (s_28 : Int64), B_22 I_23 J_24 S_25 L_26 x_27 s_28 → ((vp_in x_27 24) ∧ ((vp_in x_27 24) ∧ ∀ J_29 : TJ, J_29 = va_up J_24 21 (vp_updL (J_24 21) (x_27).toNatClampNeg ((J_24 21 (x_27).toNatClampNeg) - s_28)) → ((vp_in x_27 24) ∧ ((vp_in x_27 24) ∧ ∀ J_30 : TJ, J_30 = va_up J_29 22 (vp_updL (J_29 22) (x_27).toNatClampNeg ((J_29 22 (x_27).toNatClampNeg) - s_28)) → (B_2 I_23 J_30 S_25 L_26 x_27)))))) ∧ (((0 ≤ (lg_cmp (J 21 (x_1).toNatClampNeg) (J 22 (x_1).toNatClampNeg))) → ((vp_in x_1 24) ∧ (B_22 I J S L x_1 (J 22 (x_1).toNatClampNeg)))) ∧ ((¬ 0 ≤ (lg_cmp (J 21 (x_1).toNatClampNeg) (J 22 (x_1).toNatClampNeg))) → ((vp_in x_1 24) ∧ (B_22 I J S L x_1 (J 21 (x_1).toNatClampNeg)))))))))))))))
theorem kX8_pays_3 : Cond.constantLong RX8 194 (1000000) ∈ wsX8_pays := List.mem_of_getElem? (i := 3) rfl
theorem nX8_pays_X8 : ∀ w ∈ wsX80, w ∈ wsX8_pays := fun _ h => List.mem_cons_of_mem _ (List.mem_append_right _ h)
theorem kX8_pays_2 : Cond.fieldLink RX8 71 "SongOfficeModel" "purse" "[J" ∈ wsX8_pays := List.mem_of_getElem? (i := 2) rfl
theorem kX8_pays_4 : Cond.fieldLink RX8 87 "SongOfficeModel" "dues" "[I" ∈ wsX8_pays := List.mem_of_getElem? (i := 4) rfl
theorem kX8_pays_1 : Cond.fieldLink RX8 75 "SongOfficeModel" "debt" "[J" ∈ wsX8_pays := List.mem_of_getElem? (i := 1) rfl
abbrev rmX8_pays : Room := { frames := 1, cells := 0, slots := 0, locals := 22 }
set_option maxHeartbeats 4000000 in
set_option maxRecDepth 100000 in
theorem c_X8_pays (l : Launch) (dC : Nat → ClassId) (dI : Nat → Nat → Nat) (a : Nat → Nat) (cy : Nat → ClassId) (sz : Nat) (I : TI) (J : TJ) (S : TS) (L : TL) (p0 : Int32) (p1 : Int32) (p2 : Int32) (Φ : TI → TJ → TS → TL → Prop) (h : wp_X8_pays I J S L p0 p1 p2 Φ) : Met l yX8_pays wsX8_pays rmX8_pays (va_Pc [.ref (a 0), .int p0, .int p1, .int p2] (gpre dC dI (wM a cy I J S L) (tyM cy) sz)) (gQv dC dI (wM a cy) (tyM cy) (va_A (wM a cy I J S L) sz) Φ) 0 0 (va_A (wM a cy I J S L) sz) := by
  refine Met.ofW (cc := cX8_pays) (maxL := 7) (ret := none) (by decide) rfl ?_
  intro p e s m args below meth c s₁ B hml hv
  obtain ⟨hargs, hsz, hP, hK, hD0, hN⟩ := hv
  have hx := B.exec
  have hb := B.bytes
  have hr := B.returns
  have hts := atoms_spec (ws := wsX8_pays) B.pre
  have hown : s.vm.findClass RX8 = some m.cls := findClass_of_methodNamed B.named
  have hlocks := B.notSynchronized
  subst hsz
  have hD := hD0.self (sz := s.heap.size)
  generalize hAe : va_A (wM a cy I J S L) s.heap.size = A at hD ⊢
  have hA : ∀ q : Nat, s.heap.size ≤ q → A q := fun q h => by rw [← hAe]; exact Or.inr h
  obtain ⟨H, hH⟩ : ∃ z : Heap, z = s.heap := ⟨_, rfl⟩
  rw [← hH] at hP
  have hS : va_S A s.heap H [] := by rw [hH]; exact va_S.rf
  have hl := lv_entry ([.ref (a 0), .int p0, .int p1, .int p2]) (n := 7) (Nat.le_of_ble_eq_true rfl)
  have hE : entryFrame m args 7 = F0 m 0 ((lg_sl ([.ref (a 0), .int p0, .int p1, .int p2]) ++ List.replicate (7 - (lg_sl ([.ref (a 0), .int p0, .int p1, .int p2])).length) Slot.unset).toArray) [] := by rw [hargs]; exact lg_entry_eq m _ _
  rw [hE, ← hH]
  clear hE
  generalize (lg_sl ([.ref (a 0), .int p0, .int p1, .int p2]) ++ List.replicate (7 - (lg_sl ([.ref (a 0), .int p0, .int p1, .int p2])).length) Slot.unset).toArray = ls at hl ⊢
  have hl : lv_has ls 7 [(0, .ref (a 0)), (1, .int p0), (2, .int p1), (3, .int p2)] := hl
  unfold wp_X8_pays at h
  refine lv_bipush (v := 12) hx hb dX8_pays_0 (by decide) ?_
  refine lv_iload_n hx hb dX8_pays_2 rfl (lv_at hl 1 rfl) ?_
  refine lv_imul hx hb dX8_pays_3 ?_
  refine lv_iload_n hx hb dX8_pays_4 rfl (lv_at hl 3 rfl) ?_
  refine lv_iadd hx hb dX8_pays_5 ?_
  refine lv_topi (fun x_1 ex_1 => ?_)
  have h := h x_1 ex_1
  refine lv_istore (lv' := [(4, .int x_1), (0, .ref (a 0)), (1, .int p0), (2, .int p1), (3, .int p2)]) hx hb dX8_pays_6 hl (by decide) rfl (fun ls hl => ?_)
  refine lv_aload_n hx hb dX8_pays_8 rfl (lv_at hl 1 rfl) ?_
  refine va_get (D := (dC, dI)) (ci := 8) (v := .ref (a 22)) (C := RX8) (T := TX8) (N := 47) hx hb hts nX8_pays_X8 hown hK hP 0 (wM_at0 _ _ _ _ _ _) rfl 23 (by decide) (hts (.fieldLink RX8 75 "SongOfficeModel" "debt" "[J") kX8_pays_1) (fun _ h9 => h9) rfl dX8_pays_9 ?_
  refine lv_iload hx hb dX8_pays_12 (lv_at hl 0 rfl) ?_
  obtain ⟨hi, h⟩ := h
  refine va_lald hx hb hK hP 22 21 (wM_at22 _ _ _ _ _ _) rfl hi dX8_pays_14 ?_
  refine lv_lconst (v := 0) hx hb dX8_pays_15 (by decide) ?_
  refine W.lcmp hx hb dX8_pays_16 ?_
  obtain ⟨B_2, hB_2, h⟩ := h
  have jB_2 : ∀ (I_3 : TI) (J_4 : TJ) (S_5 : TS) (L_6 : TL) (x_7 : Int32) (H : Heap) (locs : List Loc) (ls : Array Slot), va_P (dC, dI) vwCl (wM a cy I_3 J_4 S_5 L_6) H → va_D A (wM a cy I_3 J_4 S_5 L_6) → va_S A s.heap H locs → lv_has ls 7 [(0, .ref (a 0)), (1, .int p0), (2, .int p1), (3, .int p2), (4, .int x_7)] → B_2 I_3 J_4 S_5 L_6 x_7 → W p l e (headSpec wsX8_pays rmX8_pays).room s m args below meth c H locs 0 0 (MQ below (gQv dC dI (wM a cy) (tyM cy) A Φ) args s 0 0 A) (F0 m 103 ls []) := by
    intro I_3 J_4 S_5 L_6 x_7 H locs ls hP hD hS hl h
    have h := hB_2 I_3 J_4 S_5 L_6 x_7 h
    refine lv_aload_n hx hb dX8_pays_103 rfl (lv_at hl 0 rfl) ?_
    refine va_get (D := (dC, dI)) (ci := 8) (v := .ref (a 21)) (C := RX8) (T := TX8) (N := 47) hx hb hts nX8_pays_X8 hown hK hP 0 (wM_at0 _ _ _ _ _ _) rfl 22 (by decide) (hts (.fieldLink RX8 71 "SongOfficeModel" "purse" "[J") kX8_pays_2) (fun _ h9 => h9) rfl dX8_pays_104 ?_
    refine lv_iload hx hb dX8_pays_107 (lv_at hl 4 rfl) ?_
    obtain ⟨hi, h⟩ := h
    refine va_lald hx hb hK hP 21 20 (wM_at21 _ _ _ _ _ _) rfl hi dX8_pays_109 ?_
    refine lv_ldc2 (v := 1000000) hx hb hown (hts (.constantLong RX8 194 (1000000)) kX8_pays_3) dX8_pays_110 ?_
    refine W.lcmp hx hb dX8_pays_113 ?_
    obtain ⟨B_8, hB_8, h⟩ := h
    have jB_8 : ∀ (I_9 : TI) (J_10 : TJ) (S_11 : TS) (L_12 : TL) (x_13 : Int32) (s_14 : Int32) (H : Heap) (locs : List Loc) (ls : Array Slot), va_P (dC, dI) vwCl (wM a cy I_9 J_10 S_11 L_12) H → va_D A (wM a cy I_9 J_10 S_11 L_12) → va_S A s.heap H locs → lv_has ls 7 [(0, .ref (a 0)), (1, .int p0), (2, .int p1), (3, .int p2), (4, .int x_13)] → B_8 I_9 J_10 S_11 L_12 x_13 s_14 → W p l e (headSpec wsX8_pays rmX8_pays).room s m args below meth c H locs 0 0 (MQ below (gQv dC dI (wM a cy) (tyM cy) A Φ) args s 0 0 A) (F0 m 133 ls [.int s_14]) := by
      intro I_9 J_10 S_11 L_12 x_13 s_14 H locs ls hP hD hS hl h
      have h := hB_8 I_9 J_10 S_11 L_12 x_13 s_14 h
      refine lv_istore (lv' := [(5, .int s_14), (0, .ref (a 0)), (1, .int p0), (2, .int p1), (3, .int p2), (4, .int x_13)]) hx hb dX8_pays_133 hl (by decide) rfl (fun ls hl => ?_)
      refine lv_aload_n hx hb dX8_pays_135 rfl (lv_at hl 1 rfl) ?_
      refine va_get (D := (dC, dI)) (ci := 8) (v := .ref (a 26)) (C := RX8) (T := TX8) (N := 47) hx hb hts nX8_pays_X8 hown hK hP 0 (wM_at0 _ _ _ _ _ _) rfl 27 (by decide) (hts (.fieldLink RX8 87 "SongOfficeModel" "dues" "[I") kX8_pays_4) (fun _ h9 => h9) rfl dX8_pays_136 ?_
      refine lv_iload_n hx hb dX8_pays_139 rfl (lv_at hl 2 rfl) ?_
      refine lv_iload_n hx hb dX8_pays_140 rfl (lv_at hl 4 rfl) ?_
      refine lv_iload_n hx hb dX8_pays_141 rfl (lv_at hl 3 rfl) ?_
      refine gcalli (va_runS (As := [.int p0, .int p2, .int p1]) (rest := [.ref (a 26)]) ⟨hx, hb, hml, hown, hts⟩ (c_X8_dueAt l dC dI (wM a cy) (tyM cy) H.size I_9 J_10 S_11 L_12 p0 p2 p1 _ h) (va_cwS 3 hts gX8_pays_X8_dueAt rfl rfl rfl (by decide +kernel) ⟨(Nat.le_of_ble_eq_true rfl), (Nat.le_of_ble_eq_true rfl)⟩) (g_pS hP hK hD hN [.int p0, .int p2, .int p1]) rfl rfl hl.1 rfl (lv_room (Nat.le_of_ble_eq_true rfl)) dX8_pays_142 ⟨(Nat.le_of_ble_eq_true rfl), (Nat.le_of_ble_eq_true rfl)⟩) hS hA hD (fun r_19 I_15 J_16 S_17 L_18 H locs hP hD hS h => ?_)
      refine lv_iload hx hb dX8_pays_145 (lv_at hl 0 rfl) ?_
      obtain ⟨hi, h⟩ := h
      obtain ⟨I_20, eI_20⟩ : ∃ z : TI, z = va_up I_15 26 (upd (I_15 26) (r_19).toNatClampNeg s_14) := ⟨_, rfl⟩
      have h := h I_20 eI_20
      refine va_iast hx hb hK hP hD hS 26 25 (wM_at26 _ _ _ _ _ _) rfl hi dX8_pays_147 (fun H locs hP hD hS => ?_)
      have hP : va_P (dC, dI) vwCl (wM a cy I_20 J_16 S_17 L_18) H := by rw [eI_20]; exact setP hP (wM_set26 _ _ _ _ _ _ _)
      have hD : va_D A (wM a cy I_20 J_16 S_17 L_18) := by rw [eI_20]; exact setD hD (wM_set26 _ _ _ _ _ _ _)
      refine lv_aload_n hx hb dX8_pays_148 rfl (lv_at hl 1 rfl) ?_
      refine va_get (D := (dC, dI)) (ci := 8) (v := .ref (a 21)) (C := RX8) (T := TX8) (N := 47) hx hb hts nX8_pays_X8 hown hK hP 0 (wM_at0 _ _ _ _ _ _) rfl 22 (by decide) (hts (.fieldLink RX8 71 "SongOfficeModel" "purse" "[J") kX8_pays_2) (fun _ h9 => h9) rfl dX8_pays_149 ?_
      refine lv_iload hx hb dX8_pays_152 (lv_at hl 5 rfl) ?_
      refine lv_aload_n hx hb dX8_pays_154 rfl (lv_at hl 1 rfl) ?_
      refine va_get (D := (dC, dI)) (ci := 8) (v := .ref (a 21)) (C := RX8) (T := TX8) (N := 47) hx hb hts nX8_pays_X8 hown hK hP 0 (wM_at0 _ _ _ _ _ _) rfl 22 (by decide) (hts (.fieldLink RX8 71 "SongOfficeModel" "purse" "[J") kX8_pays_2) (fun _ h9 => h9) rfl dX8_pays_155 ?_
      refine lv_iload hx hb dX8_pays_158 (lv_at hl 5 rfl) ?_
      obtain ⟨hi, h⟩ := h
      refine va_lald hx hb hK hP 21 20 (wM_at21 _ _ _ _ _ _) rfl hi dX8_pays_160 ?_
      refine lv_iload hx hb dX8_pays_161 (lv_at hl 0 rfl) ?_
      refine lv_i2l (v := ((s_14).toInt64)) hx hb dX8_pays_163 rfl ?_
      refine lv_ldc2 (v := 1000000) hx hb hown (hts (.constantLong RX8 194 (1000000)) kX8_pays_3) dX8_pays_164 ?_
      refine lv_lmul hx hb dX8_pays_167 ?_
      refine lv_lsub hx hb dX8_pays_168 ?_
      obtain ⟨hi, h⟩ := h
      obtain ⟨J_21, eJ_21⟩ : ∃ z : TJ, z = va_up J_16 21 (vp_updL (J_16 21) (x_13).toNatClampNeg ((J_16 21 (x_13).toNatClampNeg) - (((s_14).toInt64) * (1000000 : Int64)))) := ⟨_, rfl⟩
      have h := h J_21 eJ_21
      refine va_last hx hb hK hP hD hS 21 20 (wM_at21 _ _ _ _ _ _) rfl hi dX8_pays_169 (fun H locs hP hD hS => ?_)
      have hP : va_P (dC, dI) vwCl (wM a cy I_20 J_21 S_17 L_18) H := by rw [eJ_21]; exact setP hP (wM_set21 _ _ _ _ _ _ _)
      have hD : va_D A (wM a cy I_20 J_21 S_17 L_18) := by rw [eJ_21]; exact setD hD (wM_set21 _ _ _ _ _ _ _)
      exact grv hx hb hr hlocks hP hK hD hS h dX8_pays_170
    refine lv_if_ge (tgt := 121) hx hb dX8_pays_114 (by decide) (fun hc => ?_) (fun hc => ?_)
    · have h := h.1 hc
      refine lv_aload_n hx hb dX8_pays_121 rfl (lv_at hl 0 rfl) ?_
      refine va_get (D := (dC, dI)) (ci := 8) (v := .ref (a 21)) (C := RX8) (T := TX8) (N := 47) hx hb hts nX8_pays_X8 hown hK hP 0 (wM_at0 _ _ _ _ _ _) rfl 22 (by decide) (hts (.fieldLink RX8 71 "SongOfficeModel" "purse" "[J") kX8_pays_2) (fun _ h9 => h9) rfl dX8_pays_122 ?_
      refine lv_iload hx hb dX8_pays_125 (lv_at hl 4 rfl) ?_
      obtain ⟨hi, h⟩ := h
      refine va_lald hx hb hK hP 21 20 (wM_at21 _ _ _ _ _ _) rfl hi dX8_pays_127 ?_
      refine lv_ldc2 (v := 1000000) hx hb hown (hts (.constantLong RX8 194 (1000000)) kX8_pays_3) dX8_pays_128 ?_
      refine lv_ldiv hx hb dX8_pays_131 (by decide) ?_
      refine lv_l2i (v := ((((J_4 21 (x_7).toNatClampNeg) / (1000000 : Int64))).toInt32)) hx hb dX8_pays_132 rfl ?_
      exact jB_8 I_3 J_4 S_5 L_6 x_7 ((((J_4 21 (x_7).toNatClampNeg) / (1000000 : Int64))).toInt32) _ _ _ hP hD hS (lv_sub hl [0, 1, 2, 3, 4] rfl) h
    · have h := h.2 hc
      refine lv_iconst (v := 0) hx hb dX8_pays_117 (by decide) ?_
      refine lv_goto (tgt := 133) hx hb dX8_pays_118 (by decide) ?_
      exact jB_8 I_3 J_4 S_5 L_6 x_7 (0 : Int32) _ _ _ hP hD hS (lv_sub hl [0, 1, 2, 3, 4] rfl) h
  refine lv_if_le (tgt := 103) hx hb dX8_pays_17 (by decide) (fun hc => ?_) (fun hc => ?_)
  · have h := h.1 hc
    exact jB_2 I J S L x_1 _ _ _ hP hD hS (lv_sub hl [1, 2, 3, 4, 0] rfl) h
  · have h := h.2 hc
    refine lv_aload_n hx hb dX8_pays_20 rfl (lv_at hl 1 rfl) ?_
    refine va_get (D := (dC, dI)) (ci := 8) (v := .ref (a 21)) (C := RX8) (T := TX8) (N := 47) hx hb hts nX8_pays_X8 hown hK hP 0 (wM_at0 _ _ _ _ _ _) rfl 22 (by decide) (hts (.fieldLink RX8 71 "SongOfficeModel" "purse" "[J") kX8_pays_2) (fun _ h9 => h9) rfl dX8_pays_21 ?_
    refine lv_iload hx hb dX8_pays_24 (lv_at hl 0 rfl) ?_
    obtain ⟨hi, h⟩ := h
    refine va_lald hx hb hK hP 21 20 (wM_at21 _ _ _ _ _ _) rfl hi dX8_pays_26 ?_
    refine lv_lconst (v := 0) hx hb dX8_pays_27 (by decide) ?_
    refine W.lcmp hx hb dX8_pays_28 ?_
    refine lv_if_le (tgt := 103) hx hb dX8_pays_29 (by decide) (fun hc => ?_) (fun hc => ?_)
    · have h := h.1 hc
      exact jB_2 I J S L x_1 _ _ _ hP hD hS (lv_sub hl [1, 2, 3, 4, 0] rfl) h
    · have h := h.2 hc
      refine lv_aload_n hx hb dX8_pays_32 rfl (lv_at hl 1 rfl) ?_
      refine va_get (D := (dC, dI)) (ci := 8) (v := .ref (a 21)) (C := RX8) (T := TX8) (N := 47) hx hb hts nX8_pays_X8 hown hK hP 0 (wM_at0 _ _ _ _ _ _) rfl 22 (by decide) (hts (.fieldLink RX8 71 "SongOfficeModel" "purse" "[J") kX8_pays_2) (fun _ h9 => h9) rfl dX8_pays_33 ?_
      refine lv_iload hx hb dX8_pays_36 (lv_at hl 0 rfl) ?_
      obtain ⟨hi, h⟩ := h
      refine va_lald hx hb hK hP 21 20 (wM_at21 _ _ _ _ _ _) rfl hi dX8_pays_38 ?_
      refine lv_aload_n hx hb dX8_pays_39 rfl (lv_at hl 1 rfl) ?_
      refine va_get (D := (dC, dI)) (ci := 8) (v := .ref (a 22)) (C := RX8) (T := TX8) (N := 47) hx hb hts nX8_pays_X8 hown hK hP 0 (wM_at0 _ _ _ _ _ _) rfl 23 (by decide) (hts (.fieldLink RX8 75 "SongOfficeModel" "debt" "[J") kX8_pays_1) (fun _ h9 => h9) rfl dX8_pays_40 ?_
      refine lv_iload hx hb dX8_pays_43 (lv_at hl 0 rfl) ?_
      obtain ⟨hi, h⟩ := h
      refine va_lald hx hb hK hP 22 21 (wM_at22 _ _ _ _ _ _) rfl hi dX8_pays_45 ?_
      refine W.lcmp hx hb dX8_pays_46 ?_
      obtain ⟨B_22, hB_22, h⟩ := h
      have jB_22 : ∀ (I_23 : TI) (J_24 : TJ) (S_25 : TS) (L_26 : TL) (x_27 : Int32) (s_28 : Int64) (H : Heap) (locs : List Loc) (ls : Array Slot), va_P (dC, dI) vwCl (wM a cy I_23 J_24 S_25 L_26) H → va_D A (wM a cy I_23 J_24 S_25 L_26) → va_S A s.heap H locs → lv_has ls 7 [(0, .ref (a 0)), (1, .int p0), (2, .int p1), (3, .int p2), (4, .int x_27)] → B_22 I_23 J_24 S_25 L_26 x_27 s_28 → W p l e (headSpec wsX8_pays rmX8_pays).room s m args below meth c H locs 0 0 (MQ below (gQv dC dI (wM a cy) (tyM cy) A Φ) args s 0 0 A) (F0 m 67 ls [.long s_28]) := by
        intro I_23 J_24 S_25 L_26 x_27 s_28 H locs ls hP hD hS hl h
        have h := hB_22 I_23 J_24 S_25 L_26 x_27 s_28 h
        refine lv_lstore (lv' := [(5, .long s_28), (0, .ref (a 0)), (1, .int p0), (2, .int p1), (3, .int p2), (4, .int x_27)]) hx hb dX8_pays_67 hl (by decide) rfl (fun ls hl => ?_)
        refine lv_aload_n hx hb dX8_pays_69 rfl (lv_at hl 1 rfl) ?_
        refine va_get (D := (dC, dI)) (ci := 8) (v := .ref (a 21)) (C := RX8) (T := TX8) (N := 47) hx hb hts nX8_pays_X8 hown hK hP 0 (wM_at0 _ _ _ _ _ _) rfl 22 (by decide) (hts (.fieldLink RX8 71 "SongOfficeModel" "purse" "[J") kX8_pays_2) (fun _ h9 => h9) rfl dX8_pays_70 ?_
        refine lv_iload hx hb dX8_pays_73 (lv_at hl 5 rfl) ?_
        refine lv_aload_n hx hb dX8_pays_75 rfl (lv_at hl 1 rfl) ?_
        refine va_get (D := (dC, dI)) (ci := 8) (v := .ref (a 21)) (C := RX8) (T := TX8) (N := 47) hx hb hts nX8_pays_X8 hown hK hP 0 (wM_at0 _ _ _ _ _ _) rfl 22 (by decide) (hts (.fieldLink RX8 71 "SongOfficeModel" "purse" "[J") kX8_pays_2) (fun _ h9 => h9) rfl dX8_pays_76 ?_
        refine lv_iload hx hb dX8_pays_79 (lv_at hl 5 rfl) ?_
        obtain ⟨hi, h⟩ := h
        refine va_lald hx hb hK hP 21 20 (wM_at21 _ _ _ _ _ _) rfl hi dX8_pays_81 ?_
        refine lv_lload hx hb dX8_pays_82 (lv_at hl 0 rfl) ?_
        refine lv_lsub hx hb dX8_pays_84 ?_
        obtain ⟨hi, h⟩ := h
        obtain ⟨J_29, eJ_29⟩ : ∃ z : TJ, z = va_up J_24 21 (vp_updL (J_24 21) (x_27).toNatClampNeg ((J_24 21 (x_27).toNatClampNeg) - s_28)) := ⟨_, rfl⟩
        have h := h J_29 eJ_29
        refine va_last hx hb hK hP hD hS 21 20 (wM_at21 _ _ _ _ _ _) rfl hi dX8_pays_85 (fun H locs hP hD hS => ?_)
        have hP : va_P (dC, dI) vwCl (wM a cy I_23 J_29 S_25 L_26) H := by rw [eJ_29]; exact setP hP (wM_set21 _ _ _ _ _ _ _)
        have hD : va_D A (wM a cy I_23 J_29 S_25 L_26) := by rw [eJ_29]; exact setD hD (wM_set21 _ _ _ _ _ _ _)
        refine lv_aload_n hx hb dX8_pays_86 rfl (lv_at hl 1 rfl) ?_
        refine va_get (D := (dC, dI)) (ci := 8) (v := .ref (a 22)) (C := RX8) (T := TX8) (N := 47) hx hb hts nX8_pays_X8 hown hK hP 0 (wM_at0 _ _ _ _ _ _) rfl 23 (by decide) (hts (.fieldLink RX8 75 "SongOfficeModel" "debt" "[J") kX8_pays_1) (fun _ h9 => h9) rfl dX8_pays_87 ?_
        refine lv_iload hx hb dX8_pays_90 (lv_at hl 5 rfl) ?_
        refine lv_aload_n hx hb dX8_pays_92 rfl (lv_at hl 1 rfl) ?_
        refine va_get (D := (dC, dI)) (ci := 8) (v := .ref (a 22)) (C := RX8) (T := TX8) (N := 47) hx hb hts nX8_pays_X8 hown hK hP 0 (wM_at0 _ _ _ _ _ _) rfl 23 (by decide) (hts (.fieldLink RX8 75 "SongOfficeModel" "debt" "[J") kX8_pays_1) (fun _ h9 => h9) rfl dX8_pays_93 ?_
        refine lv_iload hx hb dX8_pays_96 (lv_at hl 5 rfl) ?_
        obtain ⟨hi, h⟩ := h
        refine va_lald hx hb hK hP 22 21 (wM_at22 _ _ _ _ _ _) rfl hi dX8_pays_98 ?_
        refine lv_lload hx hb dX8_pays_99 (lv_at hl 0 rfl) ?_
        refine lv_lsub hx hb dX8_pays_101 ?_
        obtain ⟨hi, h⟩ := h
        obtain ⟨J_30, eJ_30⟩ : ∃ z : TJ, z = va_up J_29 22 (vp_updL (J_29 22) (x_27).toNatClampNeg ((J_29 22 (x_27).toNatClampNeg) - s_28)) := ⟨_, rfl⟩
        have h := h J_30 eJ_30
        refine va_last hx hb hK hP hD hS 22 21 (wM_at22 _ _ _ _ _ _) rfl hi dX8_pays_102 (fun H locs hP hD hS => ?_)
        have hP : va_P (dC, dI) vwCl (wM a cy I_23 J_30 S_25 L_26) H := by rw [eJ_30]; exact setP hP (wM_set22 _ _ _ _ _ _ _)
        have hD : va_D A (wM a cy I_23 J_30 S_25 L_26) := by rw [eJ_30]; exact setD hD (wM_set22 _ _ _ _ _ _ _)
        exact jB_2 I_23 J_30 S_25 L_26 x_27 _ _ _ hP hD hS (lv_sub hl [1, 2, 3, 4, 5] rfl) h
      refine lv_if_ge (tgt := 60) hx hb dX8_pays_47 (by decide) (fun hc => ?_) (fun hc => ?_)
      · have h := h.1 hc
        refine lv_aload_n hx hb dX8_pays_60 rfl (lv_at hl 1 rfl) ?_
        refine va_get (D := (dC, dI)) (ci := 8) (v := .ref (a 22)) (C := RX8) (T := TX8) (N := 47) hx hb hts nX8_pays_X8 hown hK hP 0 (wM_at0 _ _ _ _ _ _) rfl 23 (by decide) (hts (.fieldLink RX8 75 "SongOfficeModel" "debt" "[J") kX8_pays_1) (fun _ h9 => h9) rfl dX8_pays_61 ?_
        refine lv_iload hx hb dX8_pays_64 (lv_at hl 0 rfl) ?_
        obtain ⟨hi, h⟩ := h
        refine va_lald hx hb hK hP 22 21 (wM_at22 _ _ _ _ _ _) rfl hi dX8_pays_66 ?_
        exact jB_22 I J S L x_1 (J 22 (x_1).toNatClampNeg) _ _ _ hP hD hS (lv_sub hl [1, 2, 3, 4, 0] rfl) h
      · have h := h.2 hc
        refine lv_aload_n hx hb dX8_pays_50 rfl (lv_at hl 1 rfl) ?_
        refine va_get (D := (dC, dI)) (ci := 8) (v := .ref (a 21)) (C := RX8) (T := TX8) (N := 47) hx hb hts nX8_pays_X8 hown hK hP 0 (wM_at0 _ _ _ _ _ _) rfl 22 (by decide) (hts (.fieldLink RX8 71 "SongOfficeModel" "purse" "[J") kX8_pays_2) (fun _ h9 => h9) rfl dX8_pays_51 ?_
        refine lv_iload hx hb dX8_pays_54 (lv_at hl 0 rfl) ?_
        obtain ⟨hi, h⟩ := h
        refine va_lald hx hb hK hP 21 20 (wM_at21 _ _ _ _ _ _) rfl hi dX8_pays_56 ?_
        refine lv_goto (tgt := 67) hx hb dX8_pays_57 (by decide) ?_
        exact jB_22 I J S L x_1 (J 21 (x_1).toNatClampNeg) _ _ _ hP hD hS (lv_sub hl [1, 2, 3, 4, 0] rfl) h
def wp_X8_fills (I : TI) (J : TJ) (S : TS) (L : TL) (p0 : Int32) (p1 : Int32) (p2 : Int32) (Φ : TI → TJ → TS → TL → Prop) : Prop := (vp_in p2 24) ∧ (∀ x_1 : Int32, x_1 = (I 6 (p2).toNatClampNeg) → (∀ x_2 : Int32, x_2 = (p1 - (3 : Int32)) → (∃ V_3 : Nat → TI → TJ → TS → TL → Int32 → Int64 → Int32 → Prop, (∃ n_5, V_3 n_5 I J S L x_1 (0 : Int64) x_2) ∧ ∀ (n_4 : Nat) (I_6 : TI) (J_7 : TJ) (S_8 : TS) (L_9 : TL) (x_10 : Int32) (y_11 : Int64) (x_12 : Int32), V_3 n_4 I_6 J_7 S_8 L_9 x_10 y_11 x_12 → (((p1 < x_12) → ((vp_in p2 24) ∧ ((((lg_cmp y_11 (((I_6 9 (p2).toNatClampNeg)).toInt64)) < 0) → ((vp_in p2 24) ∧ (∀ x_13 : Int32, x_13 = ((((((I_6 9 (p2).toNatClampNeg)).toInt64) - y_11)).toInt32) → (wp_X8_dueAt I_6 J_7 S_8 L_9 p0 x_10 p1 (fun (r_18 : Int32) (I_14 : TI) (J_15 : TJ) (S_16 : TS) (L_17 : TL) => (wp_X8_dueAt I_14 J_15 S_16 L_17 p0 x_10 p1 (fun (r_23 : Int32) (I_19 : TI) (J_20 : TJ) (S_21 : TS) (L_22 : TL) => ((vp_in r_23 960) ∧ ((vp_in r_18 960) ∧ ∀ I_24 : TI, I_24 = va_up I_19 26 (upd (I_19 26) (r_18).toNatClampNeg ((I_19 26 (r_23).toNatClampNeg) + x_13)) → ((vp_in (((12 : Int32) * p0) + x_10) 24) ∧ ((vp_in (((12 : Int32) * p0) + x_10) 24) ∧ ∀ I_25 : TI, I_25 = va_up I_24 27 (upd (I_24 27) ((((12 : Int32) * p0) + x_10)).toNatClampNeg ((I_24 27 ((((12 : Int32) * p0) + x_10)).toNatClampNeg) + x_13)) → (Φ I_25 J_20 S_21 L_22)))))))))))) ∧ ((¬ (lg_cmp y_11 (((I_6 9 (p2).toNatClampNeg)).toInt64)) < 0) → (Φ I_6 J_7 S_8 L_9))))) ∧ ((¬ p1 < x_12) → (wp_X8_dueAt I_6 J_7 S_8 L_9 p0 x_10 x_12 (fun (r_30 : Int32) (I_26 : TI) (J_27 : TJ) (S_28 : TS) (L_29 : TL) => ((vp_in r_30 960) ∧ (∀ y_31 : Int64, y_31 = (y_11 + (((I_26 26 (r_30).toNatClampNeg)).toInt64)) → (∀ x_32 : Int32, x_32 = x_12 + 1 → (∃ n_33, n_33 < n_4 ∧ V_3 n_33 I_26 J_27 S_28 L_29 x_10 y_31 x_32)))))))))))
theorem nX8_fills_X8 : ∀ w ∈ wsX80, w ∈ wsX8_fills := fun _ h => List.mem_cons_of_mem _ (List.mem_append_right _ h)
theorem kX8_fills_4 : Cond.fieldLink RX8 90 "SongOfficeModel" "filled" "[I" ∈ wsX8_fills := List.mem_of_getElem? (i := 4) rfl
theorem kX8_fills_2 : Cond.fieldLink RX8 87 "SongOfficeModel" "dues" "[I" ∈ wsX8_fills := List.mem_of_getElem? (i := 2) rfl
theorem kX8_fills_3 : Cond.fieldLink RX8 34 "SongOfficeModel" "bx" "[I" ∈ wsX8_fills := List.mem_of_getElem? (i := 3) rfl
theorem kX8_fills_1 : Cond.fieldLink RX8 25 "SongOfficeModel" "hand" "[I" ∈ wsX8_fills := List.mem_of_getElem? (i := 1) rfl
abbrev rmX8_fills : Room := { frames := 1, cells := 0, slots := 0, locals := 22 }
set_option maxHeartbeats 4000000 in
set_option maxRecDepth 100000 in
theorem c_X8_fills (l : Launch) (dC : Nat → ClassId) (dI : Nat → Nat → Nat) (a : Nat → Nat) (cy : Nat → ClassId) (sz : Nat) (I : TI) (J : TJ) (S : TS) (L : TL) (p0 : Int32) (p1 : Int32) (p2 : Int32) (Φ : TI → TJ → TS → TL → Prop) (h : wp_X8_fills I J S L p0 p1 p2 Φ) : Met l yX8_fills wsX8_fills rmX8_fills (va_Pc [.ref (a 0), .int p0, .int p1, .int p2] (gpre dC dI (wM a cy I J S L) (tyM cy) sz)) (gQv dC dI (wM a cy) (tyM cy) (va_A (wM a cy I J S L) sz) Φ) 0 0 (va_A (wM a cy I J S L) sz) := by
  refine Met.ofW (cc := cX8_fills) (maxL := 8) (ret := none) (by decide) rfl ?_
  intro p e s m args below meth c s₁ B hml hv
  obtain ⟨hargs, hsz, hP, hK, hD0, hN⟩ := hv
  have hx := B.exec
  have hb := B.bytes
  have hr := B.returns
  have hts := atoms_spec (ws := wsX8_fills) B.pre
  have hown : s.vm.findClass RX8 = some m.cls := findClass_of_methodNamed B.named
  have hlocks := B.notSynchronized
  subst hsz
  have hD := hD0.self (sz := s.heap.size)
  generalize hAe : va_A (wM a cy I J S L) s.heap.size = A at hD ⊢
  have hA : ∀ q : Nat, s.heap.size ≤ q → A q := fun q h => by rw [← hAe]; exact Or.inr h
  obtain ⟨H, hH⟩ : ∃ z : Heap, z = s.heap := ⟨_, rfl⟩
  rw [← hH] at hP
  have hS : va_S A s.heap H [] := by rw [hH]; exact va_S.rf
  have hl := lv_entry ([.ref (a 0), .int p0, .int p1, .int p2]) (n := 8) (Nat.le_of_ble_eq_true rfl)
  have hE : entryFrame m args 8 = F0 m 0 ((lg_sl ([.ref (a 0), .int p0, .int p1, .int p2]) ++ List.replicate (8 - (lg_sl ([.ref (a 0), .int p0, .int p1, .int p2])).length) Slot.unset).toArray) [] := by rw [hargs]; exact lg_entry_eq m _ _
  rw [hE, ← hH]
  clear hE
  generalize (lg_sl ([.ref (a 0), .int p0, .int p1, .int p2]) ++ List.replicate (8 - (lg_sl ([.ref (a 0), .int p0, .int p1, .int p2])).length) Slot.unset).toArray = ls at hl ⊢
  have hl : lv_has ls 8 [(0, .ref (a 0)), (1, .int p0), (2, .int p1), (3, .int p2)] := hl
  unfold wp_X8_fills at h
  refine lv_aload_n hx hb dX8_fills_0 rfl (lv_at hl 0 rfl) ?_
  refine va_get (D := (dC, dI)) (ci := 8) (v := .ref (a 6)) (C := RX8) (T := TX8) (N := 47) hx hb hts nX8_fills_X8 hown hK hP 0 (wM_at0 _ _ _ _ _ _) rfl 7 (by decide) (hts (.fieldLink RX8 25 "SongOfficeModel" "hand" "[I") kX8_fills_1) (fun _ h9 => h9) rfl dX8_fills_1 ?_
  refine lv_iload_n hx hb dX8_fills_4 rfl (lv_at hl 3 rfl) ?_
  obtain ⟨hi, h⟩ := h
  refine va_iald hx hb hK hP 6 5 (wM_at6 _ _ _ _ _ _) rfl hi dX8_fills_5 ?_
  refine lv_topi (fun x_1 ex_1 => ?_)
  have h := h x_1 ex_1
  refine lv_istore (lv' := [(4, .int x_1), (0, .ref (a 0)), (1, .int p0), (2, .int p1), (3, .int p2)]) hx hb dX8_fills_6 hl (by decide) rfl (fun ls hl => ?_)
  refine lv_lconst (v := 0) hx hb dX8_fills_8 (by decide) ?_
  refine lv_lstore (lv' := [(5, .long (0 : Int64)), (4, .int x_1), (0, .ref (a 0)), (1, .int p0), (2, .int p1), (3, .int p2)]) hx hb dX8_fills_9 hl (by decide) rfl (fun ls hl => ?_)
  refine lv_iload_n hx hb dX8_fills_11 rfl (lv_at hl 4 rfl) ?_
  refine lv_iconst (v := 3) hx hb dX8_fills_12 (by decide) ?_
  refine lv_isub hx hb dX8_fills_13 ?_
  refine lv_topi (fun x_2 ex_2 => ?_)
  have h := h x_2 ex_2
  refine lv_istore (lv' := [(7, .int x_2), (5, .long (0 : Int64)), (4, .int x_1), (0, .ref (a 0)), (1, .int p0), (2, .int p1), (3, .int p2)]) hx hb dX8_fills_14 hl (by decide) rfl (fun ls hl => ?_)
  obtain ⟨V_3, ⟨n_5, h0V_3⟩, hV_3⟩ := h
  have lV_3 : ∀ (n_4 : Nat) (I_6 : TI) (J_7 : TJ) (S_8 : TS) (L_9 : TL) (x_10 : Int32) (y_11 : Int64) (x_12 : Int32) (H : Heap) (locs : List Loc) (ls : Array Slot), va_P (dC, dI) vwCl (wM a cy I_6 J_7 S_8 L_9) H → va_D A (wM a cy I_6 J_7 S_8 L_9) → va_S A s.heap H locs → lv_has ls 8 [(0, .ref (a 0)), (1, .int p0), (2, .int p1), (3, .int p2), (4, .int x_10), (5, .long y_11), (7, .int x_12)] → V_3 n_4 I_6 J_7 S_8 L_9 x_10 y_11 x_12 → W p l e (headSpec wsX8_fills rmX8_fills).room s m args below meth c H locs 0 0 (MQ below (gQv dC dI (wM a cy) (tyM cy) A Φ) args s 0 0 A) (F0 m 16 ls []) := by
    intro n_4
    induction n_4 using Nat.strongRecOn with
    | ind n_4 ihV_3 =>
        intro I_6 J_7 S_8 L_9 x_10 y_11 x_12 H locs ls hP hD hS hl h
        have h := hV_3 n_4 I_6 J_7 S_8 L_9 x_10 y_11 x_12 h
        refine lv_iload hx hb dX8_fills_16 (lv_at hl 6 rfl) ?_
        refine lv_iload_n hx hb dX8_fills_18 rfl (lv_at hl 2 rfl) ?_
        refine lv_icmp_gt (tgt := 47) hx hb dX8_fills_19 (by decide) (fun hc => ?_) (fun hc => ?_)
        · have h := h.1 hc
          refine lv_lload hx hb dX8_fills_47 (lv_at hl 5 rfl) ?_
          refine lv_aload_n hx hb dX8_fills_49 rfl (lv_at hl 0 rfl) ?_
          refine va_get (D := (dC, dI)) (ci := 8) (v := .ref (a 9)) (C := RX8) (T := TX8) (N := 47) hx hb hts nX8_fills_X8 hown hK hP 0 (wM_at0 _ _ _ _ _ _) rfl 10 (by decide) (hts (.fieldLink RX8 34 "SongOfficeModel" "bx" "[I") kX8_fills_3) (fun _ h9 => h9) rfl dX8_fills_50 ?_
          refine lv_iload_n hx hb dX8_fills_53 rfl (lv_at hl 3 rfl) ?_
          obtain ⟨hi, h⟩ := h
          refine va_iald hx hb hK hP 9 8 (wM_at9 _ _ _ _ _ _) rfl hi dX8_fills_54 ?_
          refine lv_i2l (v := (((I_6 9 (p2).toNatClampNeg)).toInt64)) hx hb dX8_fills_55 rfl ?_
          refine W.lcmp hx hb dX8_fills_56 ?_
          refine lv_if_lt (tgt := 61) hx hb dX8_fills_57 (by decide) (fun hc => ?_) (fun hc => ?_)
          · have h := h.1 hc
            refine lv_aload_n hx hb dX8_fills_61 rfl (lv_at hl 0 rfl) ?_
            refine va_get (D := (dC, dI)) (ci := 8) (v := .ref (a 9)) (C := RX8) (T := TX8) (N := 47) hx hb hts nX8_fills_X8 hown hK hP 0 (wM_at0 _ _ _ _ _ _) rfl 10 (by decide) (hts (.fieldLink RX8 34 "SongOfficeModel" "bx" "[I") kX8_fills_3) (fun _ h9 => h9) rfl dX8_fills_62 ?_
            refine lv_iload_n hx hb dX8_fills_65 rfl (lv_at hl 3 rfl) ?_
            obtain ⟨hi, h⟩ := h
            refine va_iald hx hb hK hP 9 8 (wM_at9 _ _ _ _ _ _) rfl hi dX8_fills_66 ?_
            refine lv_i2l (v := (((I_6 9 (p2).toNatClampNeg)).toInt64)) hx hb dX8_fills_67 rfl ?_
            refine lv_lload hx hb dX8_fills_68 (lv_at hl 5 rfl) ?_
            refine lv_lsub hx hb dX8_fills_70 ?_
            refine lv_l2i (v := ((((((I_6 9 (p2).toNatClampNeg)).toInt64) - y_11)).toInt32)) hx hb dX8_fills_71 rfl ?_
            refine lv_topi (fun x_13 ex_13 => ?_)
            have h := h x_13 ex_13
            refine lv_istore (lv' := [(7, .int x_13), (0, .ref (a 0)), (1, .int p0), (2, .int p1), (3, .int p2), (4, .int x_10), (5, .long y_11)]) hx hb dX8_fills_72 hl (by decide) rfl (fun ls hl => ?_)
            refine lv_aload_n hx hb dX8_fills_74 rfl (lv_at hl 1 rfl) ?_
            refine va_get (D := (dC, dI)) (ci := 8) (v := .ref (a 26)) (C := RX8) (T := TX8) (N := 47) hx hb hts nX8_fills_X8 hown hK hP 0 (wM_at0 _ _ _ _ _ _) rfl 27 (by decide) (hts (.fieldLink RX8 87 "SongOfficeModel" "dues" "[I") kX8_fills_2) (fun _ h9 => h9) rfl dX8_fills_75 ?_
            refine lv_iload_n hx hb dX8_fills_78 rfl (lv_at hl 2 rfl) ?_
            refine lv_iload hx hb dX8_fills_79 (lv_at hl 5 rfl) ?_
            refine lv_iload_n hx hb dX8_fills_81 rfl (lv_at hl 3 rfl) ?_
            refine gcalli (va_runS (As := [.int p0, .int x_10, .int p1]) (rest := [.ref (a 26)]) ⟨hx, hb, hml, hown, hts⟩ (c_X8_dueAt l dC dI (wM a cy) (tyM cy) H.size I_6 J_7 S_8 L_9 p0 x_10 p1 _ h) (va_cwS 3 hts gX8_fills_X8_dueAt rfl rfl rfl (by decide +kernel) ⟨(Nat.le_of_ble_eq_true rfl), (Nat.le_of_ble_eq_true rfl)⟩) (g_pS hP hK hD hN [.int p0, .int x_10, .int p1]) rfl rfl hl.1 rfl (lv_room (Nat.le_of_ble_eq_true rfl)) dX8_fills_82 ⟨(Nat.le_of_ble_eq_true rfl), (Nat.le_of_ble_eq_true rfl)⟩) hS hA hD (fun r_18 I_14 J_15 S_16 L_17 H locs hP hD hS h => ?_)
            refine lv_aload_n hx hb dX8_fills_85 rfl (lv_at hl 1 rfl) ?_
            refine va_get (D := (dC, dI)) (ci := 8) (v := .ref (a 26)) (C := RX8) (T := TX8) (N := 47) hx hb hts nX8_fills_X8 hown hK hP 0 (wM_at0 _ _ _ _ _ _) rfl 27 (by decide) (hts (.fieldLink RX8 87 "SongOfficeModel" "dues" "[I") kX8_fills_2) (fun _ h9 => h9) rfl dX8_fills_86 ?_
            refine lv_iload_n hx hb dX8_fills_89 rfl (lv_at hl 2 rfl) ?_
            refine lv_iload hx hb dX8_fills_90 (lv_at hl 5 rfl) ?_
            refine lv_iload_n hx hb dX8_fills_92 rfl (lv_at hl 3 rfl) ?_
            refine gcalli (va_runS (As := [.int p0, .int x_10, .int p1]) (rest := [.ref (a 26), .int r_18, .ref (a 26)]) ⟨hx, hb, hml, hown, hts⟩ (c_X8_dueAt l dC dI (wM a cy) (tyM cy) H.size I_14 J_15 S_16 L_17 p0 x_10 p1 _ h) (va_cwS 3 hts gX8_fills_X8_dueAt rfl rfl rfl (by decide +kernel) ⟨(Nat.le_of_ble_eq_true rfl), (Nat.le_of_ble_eq_true rfl)⟩) (g_pS hP hK hD hN [.int p0, .int x_10, .int p1]) rfl rfl hl.1 rfl (lv_room (Nat.le_of_ble_eq_true rfl)) dX8_fills_93 ⟨(Nat.le_of_ble_eq_true rfl), (Nat.le_of_ble_eq_true rfl)⟩) hS hA hD (fun r_23 I_19 J_20 S_21 L_22 H locs hP hD hS h => ?_)
            obtain ⟨hi, h⟩ := h
            refine va_iald hx hb hK hP 26 25 (wM_at26 _ _ _ _ _ _) rfl hi dX8_fills_96 ?_
            refine lv_iload hx hb dX8_fills_97 (lv_at hl 0 rfl) ?_
            refine lv_iadd hx hb dX8_fills_99 ?_
            obtain ⟨hi, h⟩ := h
            obtain ⟨I_24, eI_24⟩ : ∃ z : TI, z = va_up I_19 26 (upd (I_19 26) (r_18).toNatClampNeg ((I_19 26 (r_23).toNatClampNeg) + x_13)) := ⟨_, rfl⟩
            have h := h I_24 eI_24
            refine va_iast hx hb hK hP hD hS 26 25 (wM_at26 _ _ _ _ _ _) rfl hi dX8_fills_100 (fun H locs hP hD hS => ?_)
            have hP : va_P (dC, dI) vwCl (wM a cy I_24 J_20 S_21 L_22) H := by rw [eI_24]; exact setP hP (wM_set26 _ _ _ _ _ _ _)
            have hD : va_D A (wM a cy I_24 J_20 S_21 L_22) := by rw [eI_24]; exact setD hD (wM_set26 _ _ _ _ _ _ _)
            refine lv_aload_n hx hb dX8_fills_101 rfl (lv_at hl 1 rfl) ?_
            refine va_get (D := (dC, dI)) (ci := 8) (v := .ref (a 27)) (C := RX8) (T := TX8) (N := 47) hx hb hts nX8_fills_X8 hown hK hP 0 (wM_at0 _ _ _ _ _ _) rfl 28 (by decide) (hts (.fieldLink RX8 90 "SongOfficeModel" "filled" "[I") kX8_fills_4) (fun _ h9 => h9) rfl dX8_fills_102 ?_
            refine lv_bipush (v := 12) hx hb dX8_fills_105 (by decide) ?_
            refine lv_iload_n hx hb dX8_fills_107 rfl (lv_at hl 2 rfl) ?_
            refine lv_imul hx hb dX8_fills_108 ?_
            refine lv_iload hx hb dX8_fills_109 (lv_at hl 5 rfl) ?_
            refine lv_iadd hx hb dX8_fills_111 ?_
            refine lv_aload_n hx hb dX8_fills_112 rfl (lv_at hl 1 rfl) ?_
            refine va_get (D := (dC, dI)) (ci := 8) (v := .ref (a 27)) (C := RX8) (T := TX8) (N := 47) hx hb hts nX8_fills_X8 hown hK hP 0 (wM_at0 _ _ _ _ _ _) rfl 28 (by decide) (hts (.fieldLink RX8 90 "SongOfficeModel" "filled" "[I") kX8_fills_4) (fun _ h9 => h9) rfl dX8_fills_113 ?_
            refine lv_bipush (v := 12) hx hb dX8_fills_116 (by decide) ?_
            refine lv_iload_n hx hb dX8_fills_118 rfl (lv_at hl 2 rfl) ?_
            refine lv_imul hx hb dX8_fills_119 ?_
            refine lv_iload hx hb dX8_fills_120 (lv_at hl 5 rfl) ?_
            refine lv_iadd hx hb dX8_fills_122 ?_
            obtain ⟨hi, h⟩ := h
            refine va_iald hx hb hK hP 27 26 (wM_at27 _ _ _ _ _ _) rfl hi dX8_fills_123 ?_
            refine lv_iload hx hb dX8_fills_124 (lv_at hl 0 rfl) ?_
            refine lv_iadd hx hb dX8_fills_126 ?_
            obtain ⟨hi, h⟩ := h
            obtain ⟨I_25, eI_25⟩ : ∃ z : TI, z = va_up I_24 27 (upd (I_24 27) ((((12 : Int32) * p0) + x_10)).toNatClampNeg ((I_24 27 ((((12 : Int32) * p0) + x_10)).toNatClampNeg) + x_13)) := ⟨_, rfl⟩
            have h := h I_25 eI_25
            refine va_iast hx hb hK hP hD hS 27 26 (wM_at27 _ _ _ _ _ _) rfl hi dX8_fills_127 (fun H locs hP hD hS => ?_)
            have hP : va_P (dC, dI) vwCl (wM a cy I_25 J_20 S_21 L_22) H := by rw [eI_25]; exact setP hP (wM_set27 _ _ _ _ _ _ _)
            have hD : va_D A (wM a cy I_25 J_20 S_21 L_22) := by rw [eI_25]; exact setD hD (wM_set27 _ _ _ _ _ _ _)
            exact grv hx hb hr hlocks hP hK hD hS h dX8_fills_128
          · have h := h.2 hc
            exact grv hx hb hr hlocks hP hK hD hS h dX8_fills_60
        · have h := h.2 hc
          refine lv_lload hx hb dX8_fills_22 (lv_at hl 5 rfl) ?_
          refine lv_aload_n hx hb dX8_fills_24 rfl (lv_at hl 0 rfl) ?_
          refine va_get (D := (dC, dI)) (ci := 8) (v := .ref (a 26)) (C := RX8) (T := TX8) (N := 47) hx hb hts nX8_fills_X8 hown hK hP 0 (wM_at0 _ _ _ _ _ _) rfl 27 (by decide) (hts (.fieldLink RX8 87 "SongOfficeModel" "dues" "[I") kX8_fills_2) (fun _ h9 => h9) rfl dX8_fills_25 ?_
          refine lv_iload_n hx hb dX8_fills_28 rfl (lv_at hl 1 rfl) ?_
          refine lv_iload hx hb dX8_fills_29 (lv_at hl 4 rfl) ?_
          refine lv_iload hx hb dX8_fills_31 (lv_at hl 6 rfl) ?_
          refine gcalli (va_runS (As := [.int p0, .int x_10, .int x_12]) (rest := [.ref (a 26), .long y_11]) ⟨hx, hb, hml, hown, hts⟩ (c_X8_dueAt l dC dI (wM a cy) (tyM cy) H.size I_6 J_7 S_8 L_9 p0 x_10 x_12 _ h) (va_cwS 3 hts gX8_fills_X8_dueAt rfl rfl rfl (by decide +kernel) ⟨(Nat.le_of_ble_eq_true rfl), (Nat.le_of_ble_eq_true rfl)⟩) (g_pS hP hK hD hN [.int p0, .int x_10, .int x_12]) rfl rfl hl.1 rfl (lv_room (Nat.le_of_ble_eq_true rfl)) dX8_fills_33 ⟨(Nat.le_of_ble_eq_true rfl), (Nat.le_of_ble_eq_true rfl)⟩) hS hA hD (fun r_30 I_26 J_27 S_28 L_29 H locs hP hD hS h => ?_)
          obtain ⟨hi, h⟩ := h
          refine va_iald hx hb hK hP 26 25 (wM_at26 _ _ _ _ _ _) rfl hi dX8_fills_36 ?_
          refine lv_i2l (v := (((I_26 26 (r_30).toNatClampNeg)).toInt64)) hx hb dX8_fills_37 rfl ?_
          refine lv_ladd hx hb dX8_fills_38 ?_
          refine lv_topl (fun y_31 ey_31 => ?_)
          have h := h y_31 ey_31
          refine lv_lstore (lv' := [(5, .long y_31), (0, .ref (a 0)), (1, .int p0), (2, .int p1), (3, .int p2), (4, .int x_10), (7, .int x_12)]) hx hb dX8_fills_39 hl (by decide) rfl (fun ls hl => ?_)
          obtain ⟨x_32, ex_32⟩ : ∃ z : Int32, z = x_12 + 1 := ⟨_, rfl⟩
          have h := h x_32 ex_32
          refine lv_iinc (v := x_32) (lv' := [(7, .int x_32), (5, .long y_31), (0, .ref (a 0)), (1, .int p0), (2, .int p1), (3, .int p2), (4, .int x_10)]) hx hb dX8_fills_41 hl (k := 6) rfl (by rw [ex_32]; rfl) (by decide) rfl (fun ls hl => ?_)
          refine lv_goto (tgt := 16) hx hb dX8_fills_44 (by decide) ?_
          obtain ⟨n_33, hn2, h⟩ := h
          exact ihV_3 n_33 hn2 I_26 J_27 S_28 L_29 x_10 y_31 x_32 _ _ _ hP hD hS (lv_sub hl [2, 3, 4, 5, 6, 1, 0] rfl) h
  exact lV_3 n_5 I J S L x_1 (0 : Int64) x_2 _ _ _ hP hD hS (lv_sub hl [3, 4, 5, 6, 2, 1, 0] rfl) h0V_3
def wp_X8_closes (I : TI) (J : TJ) (S : TS) (L : TL) (p0 : Int32) (p1 : Int32) (Φ : TI → TJ → TS → TL → Prop) : Prop := ∃ V_1 : Nat → TI → TJ → TS → TL → Int32 → Prop, (∃ n_3, V_1 n_3 I J S L (0 : Int32)) ∧ ∀ (n_2 : Nat) (I_4 : TI) (J_5 : TJ) (S_6 : TS) (L_7 : TL) (x_8 : Int32), V_1 n_2 I_4 J_5 S_6 L_7 x_8 → ((vp_in p1 40) ∧ ((((I_4 18 (p1).toNatClampNeg) ≤ x_8) → (∃ V_9 : Nat → TI → TJ → TS → TL → Int32 → Prop, (∃ n_11, V_9 n_11 I_4 J_5 S_6 L_7 (0 : Int32)) ∧ ∀ (n_10 : Nat) (I_12 : TI) (J_13 : TJ) (S_14 : TS) (L_15 : TL) (x_16 : Int32), V_9 n_10 I_12 J_13 S_14 L_15 x_16 → ((((S_14 1) ≤ x_16) → (∃ V_17 : Nat → TI → TJ → TS → TL → Int32 → Prop, (∃ n_19, V_17 n_19 I_12 J_13 S_14 L_15 (0 : Int32)) ∧ ∀ (n_18 : Nat) (I_20 : TI) (J_21 : TJ) (S_22 : TS) (L_23 : TL) (x_24 : Int32), V_17 n_18 I_20 J_21 S_22 L_23 x_24 → ((((12 : Int32) ≤ x_24) → (∃ V_25 : Nat → TI → TJ → TS → TL → Int32 → Prop, (∃ n_27, V_25 n_27 I_20 J_21 S_22 L_23 (0 : Int32)) ∧ ∀ (n_26 : Nat) (I_28 : TI) (J_29 : TJ) (S_30 : TS) (L_31 : TL) (x_32 : Int32), V_25 n_26 I_28 J_29 S_30 L_31 x_32 → (∃ B_33 : TI → TJ → TS → TL → Prop, (∀ (I_34 : TI) (J_35 : TJ) (S_36 : TS) (L_37 : TL), B_33 I_34 J_35 S_36 L_37 → (Φ I_34 J_35 S_36 L_37)) ∧ ((((S_30 1) ≤ x_32) → (B_33 I_28 J_29 S_30 L_31)) ∧ ((¬ (S_30 1) ≤ x_32) → (((¬ (p1 - p1 / (4 : Int32) * (4 : Int32)) = (3 : Int32)) → (B_33 I_28 J_29 S_30 L_31)) ∧ (((p1 - p1 / (4 : Int32) * (4 : Int32)) = (3 : Int32)) → ((vp_in x_32 24) ∧ (∃ B_38 : TI → TJ → TS → TL → Int32 → Prop, (∀ (I_39 : TI) (J_40 : TJ) (S_41 : TS) (L_42 : TL) (x_43 : Int32), B_38 I_39 J_40 S_41 L_42 x_43 → (∀ x_44 : Int32, x_44 = x_43 + 1 → (∃ n_45, n_45 < n_26 ∧ V_25 n_45 I_39 J_40 S_41 L_42 x_44))) ∧ (((¬ (I_28 5 (x_32).toNatClampNeg) = (2 : Int32)) → (B_38 I_28 J_29 S_30 L_31 x_32)) ∧ (((I_28 5 (x_32).toNatClampNeg) = (2 : Int32)) → ((vp_in x_32 24) ∧ ((((((90 : Int32) * p1) + (89 : Int32)) < (I_28 8 (x_32).toNatClampNeg)) → (B_38 I_28 J_29 S_30 L_31 x_32)) ∧ ((¬ (((90 : Int32) * p1) + (89 : Int32)) < (I_28 8 (x_32).toNatClampNeg)) → (wp_X8_fills I_28 J_29 S_30 L_31 p0 p1 x_32 (fun (I_46 : TI) (J_47 : TJ) (S_48 : TS) (L_49 : TL) => (B_38 I_46 J_47 S_48 L_49 x_32))))))))))))))))) ∧ ((¬ (12 : Int32) ≤ x_24) → (wp_X8_pays I_20 J_21 S_22 L_23 p0 p1 x_24 (fun (I_50 : TI) (J_51 : TJ) (S_52 : TS) (L_53 : TL) => (∀ x_54 : Int32, x_54 = x_24 + 1 → (∃ n_55, n_55 < n_18 ∧ V_17 n_55 I_50 J_51 S_52 L_53 x_54)))))))) ∧ ((¬ (S_14 1) ≤ x_16) → ((vp_in x_16 24) ∧ (∃ B_56 : TI → TJ → TS → TL → Int32 → Prop, (∀ (I_57 : TI) (J_58 : TJ) (S_59 : TS) (L_60 : TL) (x_61 : Int32), B_56 I_57 J_58 S_59 L_60 x_61 → (∀ x_62 : Int32, x_62 = x_61 + 1 → (∃ n_63, n_63 < n_10 ∧ V_9 n_63 I_57 J_58 S_59 L_60 x_62))) ∧ (((¬ (I_12 5 (x_16).toNatClampNeg) = (4 : Int32)) → (B_56 I_12 J_13 S_14 L_15 x_16)) ∧ (((I_12 5 (x_16).toNatClampNeg) = (4 : Int32)) → ((vp_in x_16 24) ∧ ((((I_12 10 (x_16).toNatClampNeg) ≤ p1) → ((vp_in x_16 24) ∧ (wp_X8_bag I_12 J_13 S_14 L_15 p0 x_16 (p1 - (I_12 10 (x_16).toNatClampNeg)) (fun (r_68 : Int32) (I_64 : TI) (J_65 : TJ) (S_66 : TS) (L_67 : TL) => ((vp_in x_16 24) ∧ (∀ x_69 : Int32, x_69 = (((12 : Int32) * p0) + (I_64 6 (x_16).toNatClampNeg)) → ((vp_in x_69 24) ∧ ((vp_in r_68 1920) ∧ ((vp_in x_69 24) ∧ ∀ J_70 : TJ, J_70 = va_up J_65 21 (vp_updL (J_65 21) (x_69).toNatClampNeg ((J_65 21 (x_69).toNatClampNeg) + (J_65 25 (r_68).toNatClampNeg))) → ((vp_in r_68 1920) ∧ ∀ J_71 : TJ, J_71 = va_up J_70 25 (vp_updL (J_70 25) (r_68).toNatClampNeg (0 : Int64)) → (B_56 I_64 J_71 S_66 L_67 x_16))))))))))) ∧ ((¬ (I_12 10 (x_16).toNatClampNeg) ≤ p1) → (B_56 I_12 J_13 S_14 L_15 x_16)))))))))))) ∧ ((¬ (I_4 18 (p1).toNatClampNeg) ≤ x_8) → ((vp_in (((12 : Int32) * p1) + x_8) 480) ∧ (∀ x_72 : Int32, x_72 = (I_4 17 ((((12 : Int32) * p1) + x_8)).toNatClampNeg) → (∀ x_73 : Int32, x_73 = (((12 : Int32) * p1) + x_72) → (wp_X8_isOpen I_4 J_5 S_6 L_7 p1 x_72 (fun (r_78 : Int32) (I_74 : TI) (J_75 : TJ) (S_76 : TS) (L_77 : TL) => (∃ B_79 : TI → TJ → TS → TL → Int32 → Prop, (∀ (I_80 : TI) (J_81 : TJ) (S_82 : TS) (L_83 : TL) (x_84 : Int32), B_79 I_80 J_81 S_82 L_83 x_84 → (∀ x_85 : Int32, x_85 = x_84 + 1 → (∃ n_86, n_86 < n_2 ∧ V_1 n_86 I_80 J_81 S_82 L_83 x_85))) ∧ (((r_78 = 0) → ((vp_in x_73 480) ∧ (((¬ (I_74 16 (x_73).toNatClampNeg) = (2 : Int32)) → ((vp_in x_73 480) ∧ (wp_X8_comes I_74 J_75 S_76 L_77 p0 p1 x_72 (I_74 13 (x_73).toNatClampNeg) (((90 : Int32) * p1) + (89 : Int32)) (fun (I_87 : TI) (J_88 : TJ) (S_89 : TS) (L_90 : TL) => (B_79 I_87 J_88 S_89 L_90 x_8))))) ∧ (((I_74 16 (x_73).toNatClampNeg) = (2 : Int32)) → ((vp_in x_73 480) ∧ (wp_X8_comes I_74 J_75 S_76 L_77 p0 p1 x_72 (I_74 13 (x_73).toNatClampNeg) (((90 : Int32) * p1) + (29 : Int32)) (fun (I_91 : TI) (J_92 : TJ) (S_93 : TS) (L_94 : TL) => ((vp_in x_73 480) ∧ (wp_X8_comes I_91 J_92 S_93 L_94 p0 p1 x_72 (I_91 14 (x_73).toNatClampNeg) (((90 : Int32) * p1) + (59 : Int32)) (fun (I_95 : TI) (J_96 : TJ) (S_97 : TS) (L_98 : TL) => ((vp_in x_73 480) ∧ (wp_X8_comes I_95 J_96 S_97 L_98 p0 p1 x_72 (I_95 15 (x_73).toNatClampNeg) (((90 : Int32) * p1) + (89 : Int32)) (fun (I_99 : TI) (J_100 : TJ) (S_101 : TS) (L_102 : TL) => (B_79 I_99 J_100 S_101 L_102 x_8)))))))))))))) ∧ ((¬ r_78 = 0) → (B_79 I_74 J_75 S_76 L_77 x_8))))))))))))
theorem nX8_closes_X8 : ∀ w ∈ wsX80, w ∈ wsX8_closes := fun _ h => List.mem_cons_of_mem _ (List.mem_append_right _ h)
theorem kX8_closes_13 : Cond.fieldLink RX8 31 "SongOfficeModel" "since" "[I" ∈ wsX8_closes := List.mem_of_getElem? (i := 13) rfl
theorem kX8_closes_8 : Cond.fieldLink RX8 22 "SongOfficeModel" "kind" "[I" ∈ wsX8_closes := List.mem_of_getElem? (i := 8) rfl
theorem kX8_closes_7 : Cond.fieldLink RX8 157 "SongOfficeModel" "bargains" "I" ∈ wsX8_closes := List.mem_of_getElem? (i := 7) rfl
theorem kX8_closes_12 : Cond.fieldLink RX8 84 "SongOfficeModel" "bags" "[J" ∈ wsX8_closes := List.mem_of_getElem? (i := 12) rfl
theorem kX8_closes_11 : Cond.fieldLink RX8 71 "SongOfficeModel" "purse" "[J" ∈ wsX8_closes := List.mem_of_getElem? (i := 11) rfl
theorem kX8_closes_10 : Cond.fieldLink RX8 25 "SongOfficeModel" "hand" "[I" ∈ wsX8_closes := List.mem_of_getElem? (i := 10) rfl
theorem kX8_closes_9 : Cond.fieldLink RX8 37 "SongOfficeModel" "by" "[I" ∈ wsX8_closes := List.mem_of_getElem? (i := 9) rfl
theorem kX8_closes_4 : Cond.fieldLink RX8 46 "SongOfficeModel" "first" "[I" ∈ wsX8_closes := List.mem_of_getElem? (i := 4) rfl
theorem kX8_closes_6 : Cond.fieldLink RX8 52 "SongOfficeModel" "third" "[I" ∈ wsX8_closes := List.mem_of_getElem? (i := 6) rfl
theorem kX8_closes_5 : Cond.fieldLink RX8 49 "SongOfficeModel" "second" "[I" ∈ wsX8_closes := List.mem_of_getElem? (i := 5) rfl
theorem kX8_closes_3 : Cond.fieldLink RX8 55 "SongOfficeModel" "how" "[I" ∈ wsX8_closes := List.mem_of_getElem? (i := 3) rfl
theorem kX8_closes_2 : Cond.fieldLink RX8 58 "SongOfficeModel" "order" "[I" ∈ wsX8_closes := List.mem_of_getElem? (i := 2) rfl
theorem kX8_closes_1 : Cond.fieldLink RX8 61 "SongOfficeModel" "orderMany" "[I" ∈ wsX8_closes := List.mem_of_getElem? (i := 1) rfl
abbrev rmX8_closes : Room := { frames := 4, cells := 0, slots := 0, locals := 116 }
set_option maxHeartbeats 4000000 in
set_option maxRecDepth 100000 in
theorem c_X8_closes (l : Launch) (dC : Nat → ClassId) (dI : Nat → Nat → Nat) (a : Nat → Nat) (cy : Nat → ClassId) (sz : Nat) (I : TI) (J : TJ) (S : TS) (L : TL) (p0 : Int32) (p1 : Int32) (Φ : TI → TJ → TS → TL → Prop) (h : wp_X8_closes I J S L p0 p1 Φ) : Met l yX8_closes wsX8_closes rmX8_closes (va_Pc [.ref (a 0), .int p0, .int p1] (gpre dC dI (wM a cy I J S L) (tyM cy) sz)) (gQv dC dI (wM a cy) (tyM cy) (va_A (wM a cy I J S L) sz) Φ) 0 0 (va_A (wM a cy I J S L) sz) := by
  refine Met.ofW (cc := cX8_closes) (maxL := 6) (ret := none) (by decide) rfl ?_
  intro p e s m args below meth c s₁ B hml hv
  obtain ⟨hargs, hsz, hP, hK, hD0, hN⟩ := hv
  have hx := B.exec
  have hb := B.bytes
  have hr := B.returns
  have hts := atoms_spec (ws := wsX8_closes) B.pre
  have hown : s.vm.findClass RX8 = some m.cls := findClass_of_methodNamed B.named
  have hlocks := B.notSynchronized
  subst hsz
  have hD := hD0.self (sz := s.heap.size)
  generalize hAe : va_A (wM a cy I J S L) s.heap.size = A at hD ⊢
  have hA : ∀ q : Nat, s.heap.size ≤ q → A q := fun q h => by rw [← hAe]; exact Or.inr h
  obtain ⟨H, hH⟩ : ∃ z : Heap, z = s.heap := ⟨_, rfl⟩
  rw [← hH] at hP
  have hS : va_S A s.heap H [] := by rw [hH]; exact va_S.rf
  have hl := lv_entry ([.ref (a 0), .int p0, .int p1]) (n := 6) (Nat.le_of_ble_eq_true rfl)
  have hE : entryFrame m args 6 = F0 m 0 ((lg_sl ([.ref (a 0), .int p0, .int p1]) ++ List.replicate (6 - (lg_sl ([.ref (a 0), .int p0, .int p1])).length) Slot.unset).toArray) [] := by rw [hargs]; exact lg_entry_eq m _ _
  rw [hE, ← hH]
  clear hE
  generalize (lg_sl ([.ref (a 0), .int p0, .int p1]) ++ List.replicate (6 - (lg_sl ([.ref (a 0), .int p0, .int p1])).length) Slot.unset).toArray = ls at hl ⊢
  have hl : lv_has ls 6 [(0, .ref (a 0)), (1, .int p0), (2, .int p1)] := hl
  unfold wp_X8_closes at h
  refine lv_iconst (v := 0) hx hb dX8_closes_0 (by decide) ?_
  refine lv_istore_n (lv' := [(3, .int (0 : Int32)), (0, .ref (a 0)), (1, .int p0), (2, .int p1)]) hx hb dX8_closes_1 rfl hl (by decide) rfl (fun ls hl => ?_)
  obtain ⟨V_1, ⟨n_3, h0V_1⟩, hV_1⟩ := h
  have lV_1 : ∀ (n_2 : Nat) (I_4 : TI) (J_5 : TJ) (S_6 : TS) (L_7 : TL) (x_8 : Int32) (H : Heap) (locs : List Loc) (ls : Array Slot), va_P (dC, dI) vwCl (wM a cy I_4 J_5 S_6 L_7) H → va_D A (wM a cy I_4 J_5 S_6 L_7) → va_S A s.heap H locs → lv_has ls 6 [(0, .ref (a 0)), (1, .int p0), (2, .int p1), (3, .int x_8)] → V_1 n_2 I_4 J_5 S_6 L_7 x_8 → W p l e (headSpec wsX8_closes rmX8_closes).room s m args below meth c H locs 0 0 (MQ below (gQv dC dI (wM a cy) (tyM cy) A Φ) args s 0 0 A) (F0 m 2 ls []) := by
    intro n_2
    induction n_2 using Nat.strongRecOn with
    | ind n_2 ihV_1 =>
        intro I_4 J_5 S_6 L_7 x_8 H locs ls hP hD hS hl h
        have h := hV_1 n_2 I_4 J_5 S_6 L_7 x_8 h
        refine lv_iload_n hx hb dX8_closes_2 rfl (lv_at hl 3 rfl) ?_
        refine lv_aload_n hx hb dX8_closes_3 rfl (lv_at hl 0 rfl) ?_
        refine va_get (D := (dC, dI)) (ci := 8) (v := .ref (a 18)) (C := RX8) (T := TX8) (N := 47) hx hb hts nX8_closes_X8 hown hK hP 0 (wM_at0 _ _ _ _ _ _) rfl 19 (by decide) (hts (.fieldLink RX8 61 "SongOfficeModel" "orderMany" "[I") kX8_closes_1) (fun _ h9 => h9) rfl dX8_closes_4 ?_
        refine lv_iload_n hx hb dX8_closes_7 rfl (lv_at hl 2 rfl) ?_
        obtain ⟨hi, h⟩ := h
        refine va_iald hx hb hK hP 18 17 (wM_at18 _ _ _ _ _ _) rfl hi dX8_closes_8 ?_
        refine lv_icmp_ge (tgt := 155) hx hb dX8_closes_9 (by decide) (fun hc => ?_) (fun hc => ?_)
        · have h := h.1 hc
          refine lv_iconst (v := 0) hx hb dX8_closes_155 (by decide) ?_
          refine lv_istore_n (lv' := [(3, .int (0 : Int32)), (0, .ref (a 0)), (1, .int p0), (2, .int p1)]) hx hb dX8_closes_156 rfl hl (by decide) rfl (fun ls hl => ?_)
          obtain ⟨V_9, ⟨n_11, h0V_9⟩, hV_9⟩ := h
          have lV_9 : ∀ (n_10 : Nat) (I_12 : TI) (J_13 : TJ) (S_14 : TS) (L_15 : TL) (x_16 : Int32) (H : Heap) (locs : List Loc) (ls : Array Slot), va_P (dC, dI) vwCl (wM a cy I_12 J_13 S_14 L_15) H → va_D A (wM a cy I_12 J_13 S_14 L_15) → va_S A s.heap H locs → lv_has ls 6 [(0, .ref (a 0)), (1, .int p0), (2, .int p1), (3, .int x_16)] → V_9 n_10 I_12 J_13 S_14 L_15 x_16 → W p l e (headSpec wsX8_closes rmX8_closes).room s m args below meth c H locs 0 0 (MQ below (gQv dC dI (wM a cy) (tyM cy) A Φ) args s 0 0 A) (F0 m 157 ls []) := by
            intro n_10
            induction n_10 using Nat.strongRecOn with
            | ind n_10 ihV_9 =>
                intro I_12 J_13 S_14 L_15 x_16 H locs ls hP hD hS hl h
                have h := hV_9 n_10 I_12 J_13 S_14 L_15 x_16 h
                refine lv_iload_n hx hb dX8_closes_157 rfl (lv_at hl 3 rfl) ?_
                refine lv_aload_n hx hb dX8_closes_158 rfl (lv_at hl 0 rfl) ?_
                refine va_get (D := (dC, dI)) (ci := 8) (v := .int (S_14 1)) (C := RX8) (T := TX8) (N := 47) hx hb hts nX8_closes_X8 hown hK hP 0 (wM_at0 _ _ _ _ _ _) rfl 5 (by decide) (hts (.fieldLink RX8 157 "SongOfficeModel" "bargains" "I") kX8_closes_7) (fun _ h9 => h9) rfl dX8_closes_159 ?_
                refine lv_icmp_ge (tgt := 252) hx hb dX8_closes_162 (by decide) (fun hc => ?_) (fun hc => ?_)
                · have h := h.1 hc
                  refine lv_iconst (v := 0) hx hb dX8_closes_252 (by decide) ?_
                  refine lv_istore_n (lv' := [(3, .int (0 : Int32)), (0, .ref (a 0)), (1, .int p0), (2, .int p1)]) hx hb dX8_closes_253 rfl hl (by decide) rfl (fun ls hl => ?_)
                  obtain ⟨V_17, ⟨n_19, h0V_17⟩, hV_17⟩ := h
                  have lV_17 : ∀ (n_18 : Nat) (I_20 : TI) (J_21 : TJ) (S_22 : TS) (L_23 : TL) (x_24 : Int32) (H : Heap) (locs : List Loc) (ls : Array Slot), va_P (dC, dI) vwCl (wM a cy I_20 J_21 S_22 L_23) H → va_D A (wM a cy I_20 J_21 S_22 L_23) → va_S A s.heap H locs → lv_has ls 6 [(0, .ref (a 0)), (1, .int p0), (2, .int p1), (3, .int x_24)] → V_17 n_18 I_20 J_21 S_22 L_23 x_24 → W p l e (headSpec wsX8_closes rmX8_closes).room s m args below meth c H locs 0 0 (MQ below (gQv dC dI (wM a cy) (tyM cy) A Φ) args s 0 0 A) (F0 m 254 ls []) := by
                    intro n_18
                    induction n_18 using Nat.strongRecOn with
                    | ind n_18 ihV_17 =>
                        intro I_20 J_21 S_22 L_23 x_24 H locs ls hP hD hS hl h
                        have h := hV_17 n_18 I_20 J_21 S_22 L_23 x_24 h
                        refine lv_iload_n hx hb dX8_closes_254 rfl (lv_at hl 3 rfl) ?_
                        refine lv_bipush (v := 12) hx hb dX8_closes_255 (by decide) ?_
                        refine lv_icmp_ge (tgt := 273) hx hb dX8_closes_257 (by decide) (fun hc => ?_) (fun hc => ?_)
                        · have h := h.1 hc
                          refine lv_iconst (v := 0) hx hb dX8_closes_273 (by decide) ?_
                          refine lv_istore_n (lv' := [(3, .int (0 : Int32)), (0, .ref (a 0)), (1, .int p0), (2, .int p1)]) hx hb dX8_closes_274 rfl hl (by decide) rfl (fun ls hl => ?_)
                          obtain ⟨V_25, ⟨n_27, h0V_25⟩, hV_25⟩ := h
                          have lV_25 : ∀ (n_26 : Nat) (I_28 : TI) (J_29 : TJ) (S_30 : TS) (L_31 : TL) (x_32 : Int32) (H : Heap) (locs : List Loc) (ls : Array Slot), va_P (dC, dI) vwCl (wM a cy I_28 J_29 S_30 L_31) H → va_D A (wM a cy I_28 J_29 S_30 L_31) → va_S A s.heap H locs → lv_has ls 6 [(0, .ref (a 0)), (1, .int p0), (2, .int p1), (3, .int x_32)] → V_25 n_26 I_28 J_29 S_30 L_31 x_32 → W p l e (headSpec wsX8_closes rmX8_closes).room s m args below meth c H locs 0 0 (MQ below (gQv dC dI (wM a cy) (tyM cy) A Φ) args s 0 0 A) (F0 m 275 ls []) := by
                            intro n_26
                            induction n_26 using Nat.strongRecOn with
                            | ind n_26 ihV_25 =>
                                intro I_28 J_29 S_30 L_31 x_32 H locs ls hP hD hS hl h
                                have h := hV_25 n_26 I_28 J_29 S_30 L_31 x_32 h
                                refine lv_iload_n hx hb dX8_closes_275 rfl (lv_at hl 3 rfl) ?_
                                refine lv_aload_n hx hb dX8_closes_276 rfl (lv_at hl 0 rfl) ?_
                                refine va_get (D := (dC, dI)) (ci := 8) (v := .int (S_30 1)) (C := RX8) (T := TX8) (N := 47) hx hb hts nX8_closes_X8 hown hK hP 0 (wM_at0 _ _ _ _ _ _) rfl 5 (by decide) (hts (.fieldLink RX8 157 "SongOfficeModel" "bargains" "I") kX8_closes_7) (fun _ h9 => h9) rfl dX8_closes_277 ?_
                                obtain ⟨B_33, hB_33, h⟩ := h
                                have jB_33 : ∀ (I_34 : TI) (J_35 : TJ) (S_36 : TS) (L_37 : TL) (H : Heap) (locs : List Loc) (ls : Array Slot), va_P (dC, dI) vwCl (wM a cy I_34 J_35 S_36 L_37) H → va_D A (wM a cy I_34 J_35 S_36 L_37) → va_S A s.heap H locs → lv_has ls 6 [] → B_33 I_34 J_35 S_36 L_37 → W p l e (headSpec wsX8_closes rmX8_closes).room s m args below meth c H locs 0 0 (MQ below (gQv dC dI (wM a cy) (tyM cy) A Φ) args s 0 0 A) (F0 m 329 ls []) := by
                                  intro I_34 J_35 S_36 L_37 H locs ls hP hD hS hl h
                                  have h := hB_33 I_34 J_35 S_36 L_37 h
                                  exact grv hx hb hr hlocks hP hK hD hS h dX8_closes_329
                                refine lv_icmp_ge (tgt := 329) hx hb dX8_closes_280 (by decide) (fun hc => ?_) (fun hc => ?_)
                                · have h := h.1 hc
                                  exact jB_33 I_28 J_29 S_30 L_31 _ _ _ hP hD hS (lv_sub hl [] rfl) h
                                · have h := h.2 hc
                                  refine lv_iload_n hx hb dX8_closes_283 rfl (lv_at hl 2 rfl) ?_
                                  refine lv_iconst (v := 4) hx hb dX8_closes_284 (by decide) ?_
                                  refine lv_irem hx hb dX8_closes_285 (by decide) ?_
                                  refine lv_iconst (v := 3) hx hb dX8_closes_286 (by decide) ?_
                                  refine lv_icmp_ne (tgt := 329) hx hb dX8_closes_287 (by decide) (fun hc => ?_) (fun hc => ?_)
                                  · have h := h.1 hc
                                    exact jB_33 I_28 J_29 S_30 L_31 _ _ _ hP hD hS (lv_sub hl [] rfl) h
                                  · have h := h.2 hc
                                    refine lv_aload_n hx hb dX8_closes_290 rfl (lv_at hl 0 rfl) ?_
                                    refine va_get (D := (dC, dI)) (ci := 8) (v := .ref (a 5)) (C := RX8) (T := TX8) (N := 47) hx hb hts nX8_closes_X8 hown hK hP 0 (wM_at0 _ _ _ _ _ _) rfl 6 (by decide) (hts (.fieldLink RX8 22 "SongOfficeModel" "kind" "[I") kX8_closes_8) (fun _ h9 => h9) rfl dX8_closes_291 ?_
                                    refine lv_iload_n hx hb dX8_closes_294 rfl (lv_at hl 3 rfl) ?_
                                    obtain ⟨hi, h⟩ := h
                                    refine va_iald hx hb hK hP 5 4 (wM_at5 _ _ _ _ _ _) rfl hi dX8_closes_295 ?_
                                    refine lv_iconst (v := 2) hx hb dX8_closes_296 (by decide) ?_
                                    obtain ⟨B_38, hB_38, h⟩ := h
                                    have jB_38 : ∀ (I_39 : TI) (J_40 : TJ) (S_41 : TS) (L_42 : TL) (x_43 : Int32) (H : Heap) (locs : List Loc) (ls : Array Slot), va_P (dC, dI) vwCl (wM a cy I_39 J_40 S_41 L_42) H → va_D A (wM a cy I_39 J_40 S_41 L_42) → va_S A s.heap H locs → lv_has ls 6 [(0, .ref (a 0)), (1, .int p0), (2, .int p1), (3, .int x_43)] → B_38 I_39 J_40 S_41 L_42 x_43 → W p l e (headSpec wsX8_closes rmX8_closes).room s m args below meth c H locs 0 0 (MQ below (gQv dC dI (wM a cy) (tyM cy) A Φ) args s 0 0 A) (F0 m 323 ls []) := by
                                      intro I_39 J_40 S_41 L_42 x_43 H locs ls hP hD hS hl h
                                      have h := hB_38 I_39 J_40 S_41 L_42 x_43 h
                                      obtain ⟨x_44, ex_44⟩ : ∃ z : Int32, z = x_43 + 1 := ⟨_, rfl⟩
                                      have h := h x_44 ex_44
                                      refine lv_iinc (v := x_44) (lv' := [(3, .int x_44), (0, .ref (a 0)), (1, .int p0), (2, .int p1)]) hx hb dX8_closes_323 hl (k := 3) rfl (by rw [ex_44]; rfl) (by decide) rfl (fun ls hl => ?_)
                                      refine lv_goto (tgt := 275) hx hb dX8_closes_326 (by decide) ?_
                                      obtain ⟨n_45, hn2, h⟩ := h
                                      exact ihV_25 n_45 hn2 I_39 J_40 S_41 L_42 x_44 _ _ _ hP hD hS (lv_sub hl [1, 2, 3, 0] rfl) h
                                    refine lv_icmp_ne (tgt := 323) hx hb dX8_closes_297 (by decide) (fun hc => ?_) (fun hc => ?_)
                                    · have h := h.1 hc
                                      exact jB_38 I_28 J_29 S_30 L_31 x_32 _ _ _ hP hD hS (lv_sub hl [0, 1, 2, 3] rfl) h
                                    · have h := h.2 hc
                                      refine lv_aload_n hx hb dX8_closes_300 rfl (lv_at hl 0 rfl) ?_
                                      refine va_get (D := (dC, dI)) (ci := 8) (v := .ref (a 8)) (C := RX8) (T := TX8) (N := 47) hx hb hts nX8_closes_X8 hown hK hP 0 (wM_at0 _ _ _ _ _ _) rfl 9 (by decide) (hts (.fieldLink RX8 31 "SongOfficeModel" "since" "[I") kX8_closes_13) (fun _ h9 => h9) rfl dX8_closes_301 ?_
                                      refine lv_iload_n hx hb dX8_closes_304 rfl (lv_at hl 3 rfl) ?_
                                      obtain ⟨hi, h⟩ := h
                                      refine va_iald hx hb hK hP 8 7 (wM_at8 _ _ _ _ _ _) rfl hi dX8_closes_305 ?_
                                      refine lv_bipush (v := 90) hx hb dX8_closes_306 (by decide) ?_
                                      refine lv_iload_n hx hb dX8_closes_308 rfl (lv_at hl 2 rfl) ?_
                                      refine lv_imul hx hb dX8_closes_309 ?_
                                      refine lv_bipush (v := 89) hx hb dX8_closes_310 (by decide) ?_
                                      refine lv_iadd hx hb dX8_closes_312 ?_
                                      refine lv_icmp_gt (tgt := 323) hx hb dX8_closes_313 (by decide) (fun hc => ?_) (fun hc => ?_)
                                      · have h := h.1 hc
                                        exact jB_38 I_28 J_29 S_30 L_31 x_32 _ _ _ hP hD hS (lv_sub hl [0, 1, 2, 3] rfl) h
                                      · have h := h.2 hc
                                        refine lv_aload_n hx hb dX8_closes_316 rfl (lv_at hl 0 rfl) ?_
                                        refine lv_iload_n hx hb dX8_closes_317 rfl (lv_at hl 1 rfl) ?_
                                        refine lv_iload_n hx hb dX8_closes_318 rfl (lv_at hl 2 rfl) ?_
                                        refine lv_iload_n hx hb dX8_closes_319 rfl (lv_at hl 3 rfl) ?_
                                        refine gcallv (va_runV (As := [.int p0, .int p1, .int x_32]) (rest := []) ⟨hx, hb, hml, hown, hts⟩ (c_X8_fills l dC dI a cy H.size I_28 J_29 S_30 L_31 p0 p1 x_32 _ h) (cwV 3 hts gX8_closes_X8_fills rfl rfl rfl (by decide +kernel) ⟨(Nat.le_of_ble_eq_true rfl), (Nat.le_of_ble_eq_true rfl)⟩) (g_pV hP hK hD hN (va_recv hK hP (ci := 8) (q0 := 0) rfl (wM_at0 _ _ _ _ _ _)) [.int p0, .int p1, .int x_32]) rfl rfl hl.1 rfl (lv_room (Nat.le_of_ble_eq_true rfl)) dX8_closes_320 ⟨(Nat.le_of_ble_eq_true rfl), (Nat.le_of_ble_eq_true rfl)⟩) hS hA hD (fun I_46 J_47 S_48 L_49 H locs hP hD hS h => ?_)
                                        exact jB_38 I_46 J_47 S_48 L_49 x_32 _ _ _ hP hD hS (lv_sub hl [0, 1, 2, 3] rfl) h
                          exact lV_25 n_27 I_20 J_21 S_22 L_23 (0 : Int32) _ _ _ hP hD hS (lv_sub hl [1, 2, 3, 0] rfl) h0V_25
                        · have h := h.2 hc
                          refine lv_aload_n hx hb dX8_closes_260 rfl (lv_at hl 0 rfl) ?_
                          refine lv_iload_n hx hb dX8_closes_261 rfl (lv_at hl 1 rfl) ?_
                          refine lv_iload_n hx hb dX8_closes_262 rfl (lv_at hl 2 rfl) ?_
                          refine lv_iload_n hx hb dX8_closes_263 rfl (lv_at hl 3 rfl) ?_
                          refine gcallv (va_runV (As := [.int p0, .int p1, .int x_24]) (rest := []) ⟨hx, hb, hml, hown, hts⟩ (c_X8_pays l dC dI a cy H.size I_20 J_21 S_22 L_23 p0 p1 x_24 _ h) (cwV 3 hts gX8_closes_X8_pays rfl rfl rfl (by decide +kernel) ⟨(Nat.le_of_ble_eq_true rfl), (Nat.le_of_ble_eq_true rfl)⟩) (g_pV hP hK hD hN (va_recv hK hP (ci := 8) (q0 := 0) rfl (wM_at0 _ _ _ _ _ _)) [.int p0, .int p1, .int x_24]) rfl rfl hl.1 rfl (lv_room (Nat.le_of_ble_eq_true rfl)) dX8_closes_264 ⟨(Nat.le_of_ble_eq_true rfl), (Nat.le_of_ble_eq_true rfl)⟩) hS hA hD (fun I_50 J_51 S_52 L_53 H locs hP hD hS h => ?_)
                          obtain ⟨x_54, ex_54⟩ : ∃ z : Int32, z = x_24 + 1 := ⟨_, rfl⟩
                          have h := h x_54 ex_54
                          refine lv_iinc (v := x_54) (lv' := [(3, .int x_54), (0, .ref (a 0)), (1, .int p0), (2, .int p1)]) hx hb dX8_closes_267 hl (k := 3) rfl (by rw [ex_54]; rfl) (by decide) rfl (fun ls hl => ?_)
                          refine lv_goto (tgt := 254) hx hb dX8_closes_270 (by decide) ?_
                          obtain ⟨n_55, hn2, h⟩ := h
                          exact ihV_17 n_55 hn2 I_50 J_51 S_52 L_53 x_54 _ _ _ hP hD hS (lv_sub hl [1, 2, 3, 0] rfl) h
                  exact lV_17 n_19 I_12 J_13 S_14 L_15 (0 : Int32) _ _ _ hP hD hS (lv_sub hl [1, 2, 3, 0] rfl) h0V_17
                · have h := h.2 hc
                  refine lv_aload_n hx hb dX8_closes_165 rfl (lv_at hl 0 rfl) ?_
                  refine va_get (D := (dC, dI)) (ci := 8) (v := .ref (a 5)) (C := RX8) (T := TX8) (N := 47) hx hb hts nX8_closes_X8 hown hK hP 0 (wM_at0 _ _ _ _ _ _) rfl 6 (by decide) (hts (.fieldLink RX8 22 "SongOfficeModel" "kind" "[I") kX8_closes_8) (fun _ h9 => h9) rfl dX8_closes_166 ?_
                  refine lv_iload_n hx hb dX8_closes_169 rfl (lv_at hl 3 rfl) ?_
                  obtain ⟨hi, h⟩ := h
                  refine va_iald hx hb hK hP 5 4 (wM_at5 _ _ _ _ _ _) rfl hi dX8_closes_170 ?_
                  refine lv_iconst (v := 4) hx hb dX8_closes_171 (by decide) ?_
                  obtain ⟨B_56, hB_56, h⟩ := h
                  have jB_56 : ∀ (I_57 : TI) (J_58 : TJ) (S_59 : TS) (L_60 : TL) (x_61 : Int32) (H : Heap) (locs : List Loc) (ls : Array Slot), va_P (dC, dI) vwCl (wM a cy I_57 J_58 S_59 L_60) H → va_D A (wM a cy I_57 J_58 S_59 L_60) → va_S A s.heap H locs → lv_has ls 6 [(0, .ref (a 0)), (1, .int p0), (2, .int p1), (3, .int x_61)] → B_56 I_57 J_58 S_59 L_60 x_61 → W p l e (headSpec wsX8_closes rmX8_closes).room s m args below meth c H locs 0 0 (MQ below (gQv dC dI (wM a cy) (tyM cy) A Φ) args s 0 0 A) (F0 m 246 ls []) := by
                    intro I_57 J_58 S_59 L_60 x_61 H locs ls hP hD hS hl h
                    have h := hB_56 I_57 J_58 S_59 L_60 x_61 h
                    obtain ⟨x_62, ex_62⟩ : ∃ z : Int32, z = x_61 + 1 := ⟨_, rfl⟩
                    have h := h x_62 ex_62
                    refine lv_iinc (v := x_62) (lv' := [(3, .int x_62), (0, .ref (a 0)), (1, .int p0), (2, .int p1)]) hx hb dX8_closes_246 hl (k := 3) rfl (by rw [ex_62]; rfl) (by decide) rfl (fun ls hl => ?_)
                    refine lv_goto (tgt := 157) hx hb dX8_closes_249 (by decide) ?_
                    obtain ⟨n_63, hn2, h⟩ := h
                    exact ihV_9 n_63 hn2 I_57 J_58 S_59 L_60 x_62 _ _ _ hP hD hS (lv_sub hl [1, 2, 3, 0] rfl) h
                  refine lv_icmp_ne (tgt := 246) hx hb dX8_closes_172 (by decide) (fun hc => ?_) (fun hc => ?_)
                  · have h := h.1 hc
                    exact jB_56 I_12 J_13 S_14 L_15 x_16 _ _ _ hP hD hS (lv_sub hl [0, 1, 2, 3] rfl) h
                  · have h := h.2 hc
                    refine lv_iload_n hx hb dX8_closes_175 rfl (lv_at hl 2 rfl) ?_
                    refine lv_aload_n hx hb dX8_closes_176 rfl (lv_at hl 0 rfl) ?_
                    refine va_get (D := (dC, dI)) (ci := 8) (v := .ref (a 10)) (C := RX8) (T := TX8) (N := 47) hx hb hts nX8_closes_X8 hown hK hP 0 (wM_at0 _ _ _ _ _ _) rfl 11 (by decide) (hts (.fieldLink RX8 37 "SongOfficeModel" "by" "[I") kX8_closes_9) (fun _ h9 => h9) rfl dX8_closes_177 ?_
                    refine lv_iload_n hx hb dX8_closes_180 rfl (lv_at hl 3 rfl) ?_
                    obtain ⟨hi, h⟩ := h
                    refine va_iald hx hb hK hP 10 9 (wM_at10 _ _ _ _ _ _) rfl hi dX8_closes_181 ?_
                    refine lv_icmp_ge (tgt := 188) hx hb dX8_closes_182 (by decide) (fun hc => ?_) (fun hc => ?_)
                    · have h := h.1 hc
                      refine lv_iload_n hx hb dX8_closes_188 rfl (lv_at hl 1 rfl) ?_
                      refine lv_iload_n hx hb dX8_closes_189 rfl (lv_at hl 3 rfl) ?_
                      refine lv_iload_n hx hb dX8_closes_190 rfl (lv_at hl 2 rfl) ?_
                      refine lv_aload_n hx hb dX8_closes_191 rfl (lv_at hl 0 rfl) ?_
                      refine va_get (D := (dC, dI)) (ci := 8) (v := .ref (a 10)) (C := RX8) (T := TX8) (N := 47) hx hb hts nX8_closes_X8 hown hK hP 0 (wM_at0 _ _ _ _ _ _) rfl 11 (by decide) (hts (.fieldLink RX8 37 "SongOfficeModel" "by" "[I") kX8_closes_9) (fun _ h9 => h9) rfl dX8_closes_192 ?_
                      refine lv_iload_n hx hb dX8_closes_195 rfl (lv_at hl 3 rfl) ?_
                      obtain ⟨hi, h⟩ := h
                      refine va_iald hx hb hK hP 10 9 (wM_at10 _ _ _ _ _ _) rfl hi dX8_closes_196 ?_
                      refine lv_isub hx hb dX8_closes_197 ?_
                      refine gcalli (va_runS (As := [.int p0, .int x_16, .int (p1 - (I_12 10 (x_16).toNatClampNeg))]) (rest := []) ⟨hx, hb, hml, hown, hts⟩ (c_X8_bag l dC dI (wM a cy) (tyM cy) H.size I_12 J_13 S_14 L_15 p0 x_16 (p1 - (I_12 10 (x_16).toNatClampNeg)) _ h) (va_cwS 3 hts gX8_closes_X8_bag rfl rfl rfl (by decide +kernel) ⟨(Nat.le_of_ble_eq_true rfl), (Nat.le_of_ble_eq_true rfl)⟩) (g_pS hP hK hD hN [.int p0, .int x_16, .int (p1 - (I_12 10 (x_16).toNatClampNeg))]) rfl rfl hl.1 rfl (lv_room (Nat.le_of_ble_eq_true rfl)) dX8_closes_198 ⟨(Nat.le_of_ble_eq_true rfl), (Nat.le_of_ble_eq_true rfl)⟩) hS hA hD (fun r_68 I_64 J_65 S_66 L_67 H locs hP hD hS h => ?_)
                      refine lv_istore (lv' := [(4, .int r_68), (0, .ref (a 0)), (1, .int p0), (2, .int p1), (3, .int x_16)]) hx hb dX8_closes_201 hl (by decide) rfl (fun ls hl => ?_)
                      refine lv_bipush (v := 12) hx hb dX8_closes_203 (by decide) ?_
                      refine lv_iload_n hx hb dX8_closes_205 rfl (lv_at hl 2 rfl) ?_
                      refine lv_imul hx hb dX8_closes_206 ?_
                      refine lv_aload_n hx hb dX8_closes_207 rfl (lv_at hl 1 rfl) ?_
                      refine va_get (D := (dC, dI)) (ci := 8) (v := .ref (a 6)) (C := RX8) (T := TX8) (N := 47) hx hb hts nX8_closes_X8 hown hK hP 0 (wM_at0 _ _ _ _ _ _) rfl 7 (by decide) (hts (.fieldLink RX8 25 "SongOfficeModel" "hand" "[I") kX8_closes_10) (fun _ h9 => h9) rfl dX8_closes_208 ?_
                      refine lv_iload_n hx hb dX8_closes_211 rfl (lv_at hl 4 rfl) ?_
                      obtain ⟨hi, h⟩ := h
                      refine va_iald hx hb hK hP 6 5 (wM_at6 _ _ _ _ _ _) rfl hi dX8_closes_212 ?_
                      refine lv_iadd hx hb dX8_closes_213 ?_
                      refine lv_topi (fun x_69 ex_69 => ?_)
                      have h := h x_69 ex_69
                      refine lv_istore (lv' := [(5, .int x_69), (4, .int r_68), (0, .ref (a 0)), (1, .int p0), (2, .int p1), (3, .int x_16)]) hx hb dX8_closes_214 hl (by decide) rfl (fun ls hl => ?_)
                      refine lv_aload_n hx hb dX8_closes_216 rfl (lv_at hl 2 rfl) ?_
                      refine va_get (D := (dC, dI)) (ci := 8) (v := .ref (a 21)) (C := RX8) (T := TX8) (N := 47) hx hb hts nX8_closes_X8 hown hK hP 0 (wM_at0 _ _ _ _ _ _) rfl 22 (by decide) (hts (.fieldLink RX8 71 "SongOfficeModel" "purse" "[J") kX8_closes_11) (fun _ h9 => h9) rfl dX8_closes_217 ?_
                      refine lv_iload hx hb dX8_closes_220 (lv_at hl 0 rfl) ?_
                      refine lv_aload_n hx hb dX8_closes_222 rfl (lv_at hl 2 rfl) ?_
                      refine va_get (D := (dC, dI)) (ci := 8) (v := .ref (a 21)) (C := RX8) (T := TX8) (N := 47) hx hb hts nX8_closes_X8 hown hK hP 0 (wM_at0 _ _ _ _ _ _) rfl 22 (by decide) (hts (.fieldLink RX8 71 "SongOfficeModel" "purse" "[J") kX8_closes_11) (fun _ h9 => h9) rfl dX8_closes_223 ?_
                      refine lv_iload hx hb dX8_closes_226 (lv_at hl 0 rfl) ?_
                      obtain ⟨hi, h⟩ := h
                      refine va_lald hx hb hK hP 21 20 (wM_at21 _ _ _ _ _ _) rfl hi dX8_closes_228 ?_
                      refine lv_aload_n hx hb dX8_closes_229 rfl (lv_at hl 2 rfl) ?_
                      refine va_get (D := (dC, dI)) (ci := 8) (v := .ref (a 25)) (C := RX8) (T := TX8) (N := 47) hx hb hts nX8_closes_X8 hown hK hP 0 (wM_at0 _ _ _ _ _ _) rfl 26 (by decide) (hts (.fieldLink RX8 84 "SongOfficeModel" "bags" "[J") kX8_closes_12) (fun _ h9 => h9) rfl dX8_closes_230 ?_
                      refine lv_iload hx hb dX8_closes_233 (lv_at hl 1 rfl) ?_
                      obtain ⟨hi, h⟩ := h
                      refine va_lald hx hb hK hP 25 24 (wM_at25 _ _ _ _ _ _) rfl hi dX8_closes_235 ?_
                      refine lv_ladd hx hb dX8_closes_236 ?_
                      obtain ⟨hi, h⟩ := h
                      obtain ⟨J_70, eJ_70⟩ : ∃ z : TJ, z = va_up J_65 21 (vp_updL (J_65 21) (x_69).toNatClampNeg ((J_65 21 (x_69).toNatClampNeg) + (J_65 25 (r_68).toNatClampNeg))) := ⟨_, rfl⟩
                      have h := h J_70 eJ_70
                      refine va_last hx hb hK hP hD hS 21 20 (wM_at21 _ _ _ _ _ _) rfl hi dX8_closes_237 (fun H locs hP hD hS => ?_)
                      have hP : va_P (dC, dI) vwCl (wM a cy I_64 J_70 S_66 L_67) H := by rw [eJ_70]; exact setP hP (wM_set21 _ _ _ _ _ _ _)
                      have hD : va_D A (wM a cy I_64 J_70 S_66 L_67) := by rw [eJ_70]; exact setD hD (wM_set21 _ _ _ _ _ _ _)
                      refine lv_aload_n hx hb dX8_closes_238 rfl (lv_at hl 2 rfl) ?_
                      refine va_get (D := (dC, dI)) (ci := 8) (v := .ref (a 25)) (C := RX8) (T := TX8) (N := 47) hx hb hts nX8_closes_X8 hown hK hP 0 (wM_at0 _ _ _ _ _ _) rfl 26 (by decide) (hts (.fieldLink RX8 84 "SongOfficeModel" "bags" "[J") kX8_closes_12) (fun _ h9 => h9) rfl dX8_closes_239 ?_
                      refine lv_iload hx hb dX8_closes_242 (lv_at hl 1 rfl) ?_
                      refine lv_lconst (v := 0) hx hb dX8_closes_244 (by decide) ?_
                      obtain ⟨hi, h⟩ := h
                      obtain ⟨J_71, eJ_71⟩ : ∃ z : TJ, z = va_up J_70 25 (vp_updL (J_70 25) (r_68).toNatClampNeg (0 : Int64)) := ⟨_, rfl⟩
                      have h := h J_71 eJ_71
                      refine va_last hx hb hK hP hD hS 25 24 (wM_at25 _ _ _ _ _ _) rfl hi dX8_closes_245 (fun H locs hP hD hS => ?_)
                      have hP : va_P (dC, dI) vwCl (wM a cy I_64 J_71 S_66 L_67) H := by rw [eJ_71]; exact setP hP (wM_set25 _ _ _ _ _ _ _)
                      have hD : va_D A (wM a cy I_64 J_71 S_66 L_67) := by rw [eJ_71]; exact setD hD (wM_set25 _ _ _ _ _ _ _)
                      exact jB_56 I_64 J_71 S_66 L_67 x_16 _ _ _ hP hD hS (lv_sub hl [2, 3, 4, 5] rfl) h
                    · have h := h.2 hc
                      refine lv_goto (tgt := 246) hx hb dX8_closes_185 (by decide) ?_
                      exact jB_56 I_12 J_13 S_14 L_15 x_16 _ _ _ hP hD hS (lv_sub hl [0, 1, 2, 3] rfl) h
          exact lV_9 n_11 I_4 J_5 S_6 L_7 (0 : Int32) _ _ _ hP hD hS (lv_sub hl [1, 2, 3, 0] rfl) h0V_9
        · have h := h.2 hc
          refine lv_aload_n hx hb dX8_closes_12 rfl (lv_at hl 0 rfl) ?_
          refine va_get (D := (dC, dI)) (ci := 8) (v := .ref (a 17)) (C := RX8) (T := TX8) (N := 47) hx hb hts nX8_closes_X8 hown hK hP 0 (wM_at0 _ _ _ _ _ _) rfl 18 (by decide) (hts (.fieldLink RX8 58 "SongOfficeModel" "order" "[I") kX8_closes_2) (fun _ h9 => h9) rfl dX8_closes_13 ?_
          refine lv_bipush (v := 12) hx hb dX8_closes_16 (by decide) ?_
          refine lv_iload_n hx hb dX8_closes_18 rfl (lv_at hl 2 rfl) ?_
          refine lv_imul hx hb dX8_closes_19 ?_
          refine lv_iload_n hx hb dX8_closes_20 rfl (lv_at hl 3 rfl) ?_
          refine lv_iadd hx hb dX8_closes_21 ?_
          obtain ⟨hi, h⟩ := h
          refine va_iald hx hb hK hP 17 16 (wM_at17 _ _ _ _ _ _) rfl hi dX8_closes_22 ?_
          refine lv_topi (fun x_72 ex_72 => ?_)
          have h := h x_72 ex_72
          refine lv_istore (lv' := [(4, .int x_72), (0, .ref (a 0)), (1, .int p0), (2, .int p1), (3, .int x_8)]) hx hb dX8_closes_23 hl (by decide) rfl (fun ls hl => ?_)
          refine lv_bipush (v := 12) hx hb dX8_closes_25 (by decide) ?_
          refine lv_iload_n hx hb dX8_closes_27 rfl (lv_at hl 3 rfl) ?_
          refine lv_imul hx hb dX8_closes_28 ?_
          refine lv_iload hx hb dX8_closes_29 (lv_at hl 0 rfl) ?_
          refine lv_iadd hx hb dX8_closes_31 ?_
          refine lv_topi (fun x_73 ex_73 => ?_)
          have h := h x_73 ex_73
          refine lv_istore (lv' := [(5, .int x_73), (4, .int x_72), (0, .ref (a 0)), (1, .int p0), (2, .int p1), (3, .int x_8)]) hx hb dX8_closes_32 hl (by decide) rfl (fun ls hl => ?_)
          refine lv_aload_n hx hb dX8_closes_34 rfl (lv_at hl 2 rfl) ?_
          refine lv_iload_n hx hb dX8_closes_35 rfl (lv_at hl 4 rfl) ?_
          refine lv_iload hx hb dX8_closes_36 (lv_at hl 1 rfl) ?_
          refine gcalli (va_runV (As := [.int p1, .int x_72]) (rest := []) ⟨hx, hb, hml, hown, hts⟩ (c_X8_isOpen l dC dI a cy H.size I_4 J_5 S_6 L_7 p1 x_72 _ h) (cwV 2 hts gX8_closes_X8_isOpen rfl rfl rfl (by decide +kernel) ⟨(Nat.le_of_ble_eq_true rfl), (Nat.le_of_ble_eq_true rfl)⟩) (g_pV hP hK hD hN (va_recv hK hP (ci := 8) (q0 := 0) rfl (wM_at0 _ _ _ _ _ _)) [.int p1, .int x_72]) rfl rfl hl.1 rfl (lv_room (Nat.le_of_ble_eq_true rfl)) dX8_closes_38 ⟨(Nat.le_of_ble_eq_true rfl), (Nat.le_of_ble_eq_true rfl)⟩) hS hA hD (fun r_78 I_74 J_75 S_76 L_77 H locs hP hD hS h => ?_)
          obtain ⟨B_79, hB_79, h⟩ := h
          have jB_79 : ∀ (I_80 : TI) (J_81 : TJ) (S_82 : TS) (L_83 : TL) (x_84 : Int32) (H : Heap) (locs : List Loc) (ls : Array Slot), va_P (dC, dI) vwCl (wM a cy I_80 J_81 S_82 L_83) H → va_D A (wM a cy I_80 J_81 S_82 L_83) → va_S A s.heap H locs → lv_has ls 6 [(0, .ref (a 0)), (1, .int p0), (2, .int p1), (3, .int x_84)] → B_79 I_80 J_81 S_82 L_83 x_84 → W p l e (headSpec wsX8_closes rmX8_closes).room s m args below meth c H locs 0 0 (MQ below (gQv dC dI (wM a cy) (tyM cy) A Φ) args s 0 0 A) (F0 m 149 ls []) := by
            intro I_80 J_81 S_82 L_83 x_84 H locs ls hP hD hS hl h
            have h := hB_79 I_80 J_81 S_82 L_83 x_84 h
            obtain ⟨x_85, ex_85⟩ : ∃ z : Int32, z = x_84 + 1 := ⟨_, rfl⟩
            have h := h x_85 ex_85
            refine lv_iinc (v := x_85) (lv' := [(3, .int x_85), (0, .ref (a 0)), (1, .int p0), (2, .int p1)]) hx hb dX8_closes_149 hl (k := 3) rfl (by rw [ex_85]; rfl) (by decide) rfl (fun ls hl => ?_)
            refine lv_goto (tgt := 2) hx hb dX8_closes_152 (by decide) ?_
            obtain ⟨n_86, hn2, h⟩ := h
            exact ihV_1 n_86 hn2 I_80 J_81 S_82 L_83 x_85 _ _ _ hP hD hS (lv_sub hl [1, 2, 3, 0] rfl) h
          refine lv_if_eq (tgt := 47) hx hb dX8_closes_41 (by decide) (fun hc => ?_) (fun hc => ?_)
          · have h := h.1 hc
            refine lv_aload_n hx hb dX8_closes_47 rfl (lv_at hl 2 rfl) ?_
            refine va_get (D := (dC, dI)) (ci := 8) (v := .ref (a 16)) (C := RX8) (T := TX8) (N := 47) hx hb hts nX8_closes_X8 hown hK hP 0 (wM_at0 _ _ _ _ _ _) rfl 17 (by decide) (hts (.fieldLink RX8 55 "SongOfficeModel" "how" "[I") kX8_closes_3) (fun _ h9 => h9) rfl dX8_closes_48 ?_
            refine lv_iload hx hb dX8_closes_51 (lv_at hl 0 rfl) ?_
            obtain ⟨hi, h⟩ := h
            refine va_iald hx hb hK hP 16 15 (wM_at16 _ _ _ _ _ _) rfl hi dX8_closes_53 ?_
            refine lv_iconst (v := 2) hx hb dX8_closes_54 (by decide) ?_
            refine lv_icmp_ne (tgt := 127) hx hb dX8_closes_55 (by decide) (fun hc => ?_) (fun hc => ?_)
            · have h := h.1 hc
              refine lv_aload_n hx hb dX8_closes_127 rfl (lv_at hl 2 rfl) ?_
              refine lv_iload_n hx hb dX8_closes_128 rfl (lv_at hl 3 rfl) ?_
              refine lv_iload_n hx hb dX8_closes_129 rfl (lv_at hl 4 rfl) ?_
              refine lv_iload hx hb dX8_closes_130 (lv_at hl 1 rfl) ?_
              refine lv_aload_n hx hb dX8_closes_132 rfl (lv_at hl 2 rfl) ?_
              refine va_get (D := (dC, dI)) (ci := 8) (v := .ref (a 13)) (C := RX8) (T := TX8) (N := 47) hx hb hts nX8_closes_X8 hown hK hP 0 (wM_at0 _ _ _ _ _ _) rfl 14 (by decide) (hts (.fieldLink RX8 46 "SongOfficeModel" "first" "[I") kX8_closes_4) (fun _ h9 => h9) rfl dX8_closes_133 ?_
              refine lv_iload hx hb dX8_closes_136 (lv_at hl 0 rfl) ?_
              obtain ⟨hi, h⟩ := h
              refine va_iald hx hb hK hP 13 12 (wM_at13 _ _ _ _ _ _) rfl hi dX8_closes_138 ?_
              refine lv_bipush (v := 90) hx hb dX8_closes_139 (by decide) ?_
              refine lv_iload_n hx hb dX8_closes_141 rfl (lv_at hl 4 rfl) ?_
              refine lv_imul hx hb dX8_closes_142 ?_
              refine lv_bipush (v := 89) hx hb dX8_closes_143 (by decide) ?_
              refine lv_iadd hx hb dX8_closes_145 ?_
              refine gcallv (va_runV (As := [.int p0, .int p1, .int x_72, .int (I_74 13 (x_73).toNatClampNeg), .int (((90 : Int32) * p1) + (89 : Int32))]) (rest := []) ⟨hx, hb, hml, hown, hts⟩ (c_X8_comes l dC dI a cy H.size I_74 J_75 S_76 L_77 p0 p1 x_72 (I_74 13 (x_73).toNatClampNeg) (((90 : Int32) * p1) + (89 : Int32)) _ h) (cwV 5 hts gX8_closes_X8_comes rfl rfl rfl (by decide +kernel) ⟨(Nat.le_of_ble_eq_true rfl), (Nat.le_of_ble_eq_true rfl)⟩) (g_pV hP hK hD hN (va_recv hK hP (ci := 8) (q0 := 0) rfl (wM_at0 _ _ _ _ _ _)) [.int p0, .int p1, .int x_72, .int (I_74 13 (x_73).toNatClampNeg), .int (((90 : Int32) * p1) + (89 : Int32))]) rfl rfl hl.1 rfl (lv_room (Nat.le_of_ble_eq_true rfl)) dX8_closes_146 ⟨(Nat.le_of_ble_eq_true rfl), (Nat.le_of_ble_eq_true rfl)⟩) hS hA hD (fun I_87 J_88 S_89 L_90 H locs hP hD hS h => ?_)
              exact jB_79 I_87 J_88 S_89 L_90 x_8 _ _ _ hP hD hS (lv_sub hl [2, 3, 4, 5] rfl) h
            · have h := h.2 hc
              refine lv_aload_n hx hb dX8_closes_58 rfl (lv_at hl 2 rfl) ?_
              refine lv_iload_n hx hb dX8_closes_59 rfl (lv_at hl 3 rfl) ?_
              refine lv_iload_n hx hb dX8_closes_60 rfl (lv_at hl 4 rfl) ?_
              refine lv_iload hx hb dX8_closes_61 (lv_at hl 1 rfl) ?_
              refine lv_aload_n hx hb dX8_closes_63 rfl (lv_at hl 2 rfl) ?_
              refine va_get (D := (dC, dI)) (ci := 8) (v := .ref (a 13)) (C := RX8) (T := TX8) (N := 47) hx hb hts nX8_closes_X8 hown hK hP 0 (wM_at0 _ _ _ _ _ _) rfl 14 (by decide) (hts (.fieldLink RX8 46 "SongOfficeModel" "first" "[I") kX8_closes_4) (fun _ h9 => h9) rfl dX8_closes_64 ?_
              refine lv_iload hx hb dX8_closes_67 (lv_at hl 0 rfl) ?_
              obtain ⟨hi, h⟩ := h
              refine va_iald hx hb hK hP 13 12 (wM_at13 _ _ _ _ _ _) rfl hi dX8_closes_69 ?_
              refine lv_bipush (v := 90) hx hb dX8_closes_70 (by decide) ?_
              refine lv_iload_n hx hb dX8_closes_72 rfl (lv_at hl 4 rfl) ?_
              refine lv_imul hx hb dX8_closes_73 ?_
              refine lv_bipush (v := 29) hx hb dX8_closes_74 (by decide) ?_
              refine lv_iadd hx hb dX8_closes_76 ?_
              refine gcallv (va_runV (As := [.int p0, .int p1, .int x_72, .int (I_74 13 (x_73).toNatClampNeg), .int (((90 : Int32) * p1) + (29 : Int32))]) (rest := []) ⟨hx, hb, hml, hown, hts⟩ (c_X8_comes l dC dI a cy H.size I_74 J_75 S_76 L_77 p0 p1 x_72 (I_74 13 (x_73).toNatClampNeg) (((90 : Int32) * p1) + (29 : Int32)) _ h) (cwV 5 hts gX8_closes_X8_comes rfl rfl rfl (by decide +kernel) ⟨(Nat.le_of_ble_eq_true rfl), (Nat.le_of_ble_eq_true rfl)⟩) (g_pV hP hK hD hN (va_recv hK hP (ci := 8) (q0 := 0) rfl (wM_at0 _ _ _ _ _ _)) [.int p0, .int p1, .int x_72, .int (I_74 13 (x_73).toNatClampNeg), .int (((90 : Int32) * p1) + (29 : Int32))]) rfl rfl hl.1 rfl (lv_room (Nat.le_of_ble_eq_true rfl)) dX8_closes_77 ⟨(Nat.le_of_ble_eq_true rfl), (Nat.le_of_ble_eq_true rfl)⟩) hS hA hD (fun I_91 J_92 S_93 L_94 H locs hP hD hS h => ?_)
              refine lv_aload_n hx hb dX8_closes_80 rfl (lv_at hl 2 rfl) ?_
              refine lv_iload_n hx hb dX8_closes_81 rfl (lv_at hl 3 rfl) ?_
              refine lv_iload_n hx hb dX8_closes_82 rfl (lv_at hl 4 rfl) ?_
              refine lv_iload hx hb dX8_closes_83 (lv_at hl 1 rfl) ?_
              refine lv_aload_n hx hb dX8_closes_85 rfl (lv_at hl 2 rfl) ?_
              refine va_get (D := (dC, dI)) (ci := 8) (v := .ref (a 14)) (C := RX8) (T := TX8) (N := 47) hx hb hts nX8_closes_X8 hown hK hP 0 (wM_at0 _ _ _ _ _ _) rfl 15 (by decide) (hts (.fieldLink RX8 49 "SongOfficeModel" "second" "[I") kX8_closes_5) (fun _ h9 => h9) rfl dX8_closes_86 ?_
              refine lv_iload hx hb dX8_closes_89 (lv_at hl 0 rfl) ?_
              obtain ⟨hi, h⟩ := h
              refine va_iald hx hb hK hP 14 13 (wM_at14 _ _ _ _ _ _) rfl hi dX8_closes_91 ?_
              refine lv_bipush (v := 90) hx hb dX8_closes_92 (by decide) ?_
              refine lv_iload_n hx hb dX8_closes_94 rfl (lv_at hl 4 rfl) ?_
              refine lv_imul hx hb dX8_closes_95 ?_
              refine lv_bipush (v := 59) hx hb dX8_closes_96 (by decide) ?_
              refine lv_iadd hx hb dX8_closes_98 ?_
              refine gcallv (va_runV (As := [.int p0, .int p1, .int x_72, .int (I_91 14 (x_73).toNatClampNeg), .int (((90 : Int32) * p1) + (59 : Int32))]) (rest := []) ⟨hx, hb, hml, hown, hts⟩ (c_X8_comes l dC dI a cy H.size I_91 J_92 S_93 L_94 p0 p1 x_72 (I_91 14 (x_73).toNatClampNeg) (((90 : Int32) * p1) + (59 : Int32)) _ h) (cwV 5 hts gX8_closes_X8_comes rfl rfl rfl (by decide +kernel) ⟨(Nat.le_of_ble_eq_true rfl), (Nat.le_of_ble_eq_true rfl)⟩) (g_pV hP hK hD hN (va_recv hK hP (ci := 8) (q0 := 0) rfl (wM_at0 _ _ _ _ _ _)) [.int p0, .int p1, .int x_72, .int (I_91 14 (x_73).toNatClampNeg), .int (((90 : Int32) * p1) + (59 : Int32))]) rfl rfl hl.1 rfl (lv_room (Nat.le_of_ble_eq_true rfl)) dX8_closes_99 ⟨(Nat.le_of_ble_eq_true rfl), (Nat.le_of_ble_eq_true rfl)⟩) hS hA hD (fun I_95 J_96 S_97 L_98 H locs hP hD hS h => ?_)
              refine lv_aload_n hx hb dX8_closes_102 rfl (lv_at hl 2 rfl) ?_
              refine lv_iload_n hx hb dX8_closes_103 rfl (lv_at hl 3 rfl) ?_
              refine lv_iload_n hx hb dX8_closes_104 rfl (lv_at hl 4 rfl) ?_
              refine lv_iload hx hb dX8_closes_105 (lv_at hl 1 rfl) ?_
              refine lv_aload_n hx hb dX8_closes_107 rfl (lv_at hl 2 rfl) ?_
              refine va_get (D := (dC, dI)) (ci := 8) (v := .ref (a 15)) (C := RX8) (T := TX8) (N := 47) hx hb hts nX8_closes_X8 hown hK hP 0 (wM_at0 _ _ _ _ _ _) rfl 16 (by decide) (hts (.fieldLink RX8 52 "SongOfficeModel" "third" "[I") kX8_closes_6) (fun _ h9 => h9) rfl dX8_closes_108 ?_
              refine lv_iload hx hb dX8_closes_111 (lv_at hl 0 rfl) ?_
              obtain ⟨hi, h⟩ := h
              refine va_iald hx hb hK hP 15 14 (wM_at15 _ _ _ _ _ _) rfl hi dX8_closes_113 ?_
              refine lv_bipush (v := 90) hx hb dX8_closes_114 (by decide) ?_
              refine lv_iload_n hx hb dX8_closes_116 rfl (lv_at hl 4 rfl) ?_
              refine lv_imul hx hb dX8_closes_117 ?_
              refine lv_bipush (v := 89) hx hb dX8_closes_118 (by decide) ?_
              refine lv_iadd hx hb dX8_closes_120 ?_
              refine gcallv (va_runV (As := [.int p0, .int p1, .int x_72, .int (I_95 15 (x_73).toNatClampNeg), .int (((90 : Int32) * p1) + (89 : Int32))]) (rest := []) ⟨hx, hb, hml, hown, hts⟩ (c_X8_comes l dC dI a cy H.size I_95 J_96 S_97 L_98 p0 p1 x_72 (I_95 15 (x_73).toNatClampNeg) (((90 : Int32) * p1) + (89 : Int32)) _ h) (cwV 5 hts gX8_closes_X8_comes rfl rfl rfl (by decide +kernel) ⟨(Nat.le_of_ble_eq_true rfl), (Nat.le_of_ble_eq_true rfl)⟩) (g_pV hP hK hD hN (va_recv hK hP (ci := 8) (q0 := 0) rfl (wM_at0 _ _ _ _ _ _)) [.int p0, .int p1, .int x_72, .int (I_95 15 (x_73).toNatClampNeg), .int (((90 : Int32) * p1) + (89 : Int32))]) rfl rfl hl.1 rfl (lv_room (Nat.le_of_ble_eq_true rfl)) dX8_closes_121 ⟨(Nat.le_of_ble_eq_true rfl), (Nat.le_of_ble_eq_true rfl)⟩) hS hA hD (fun I_99 J_100 S_101 L_102 H locs hP hD hS h => ?_)
              refine lv_goto (tgt := 149) hx hb dX8_closes_124 (by decide) ?_
              exact jB_79 I_99 J_100 S_101 L_102 x_8 _ _ _ hP hD hS (lv_sub hl [2, 3, 4, 5] rfl) h
          · have h := h.2 hc
            refine lv_goto (tgt := 149) hx hb dX8_closes_44 (by decide) ?_
            exact jB_79 I_74 J_75 S_76 L_77 x_8 _ _ _ hP hD hS (lv_sub hl [2, 3, 4, 5] rfl) h
  exact lV_1 n_3 I J S L (0 : Int32) _ _ _ hP hD hS (lv_sub hl [1, 2, 3, 0] rfl) h0V_1
def wp_X8_close (I : TI) (J : TJ) (S : TS) (L : TL) (Φ : Int32 → TI → TJ → TS → TL → Prop) : Prop := ((¬ (S 0) = (40 : Int32)) → (∀ S_1 : TS, S_1 = va_up S 3 (0 : Int32) → (wp_X8_closes I J S_1 L (0 : Int32) (S_1 0) (fun (I_2 : TI) (J_3 : TJ) (S_4 : TS) (L_5 : TL) => (∀ S_6 : TS, S_6 = va_up S_4 0 ((S_4 0) + (1 : Int32)) → (Φ ((S_6 0) - (1 : Int32)) I_2 J_3 S_6 L_5)))))) ∧ (((S 0) = (40 : Int32)) → (Φ (-1 : Int32) I J S L))
theorem nX8_close_X8 : ∀ w ∈ wsX80, w ∈ wsX8_close := fun _ h => List.mem_cons_of_mem _ (List.mem_append_right _ h)
theorem kX8_close_1 : Cond.fieldLink RX8 136 "SongOfficeModel" "term" "I" ∈ wsX8_close := List.mem_of_getElem? (i := 1) rfl
theorem kX8_close_2 : Cond.fieldLink RX8 178 "SongOfficeModel" "lines" "I" ∈ wsX8_close := List.mem_of_getElem? (i := 2) rfl
abbrev rmX8_close : Room := { frames := 5, cells := 0, slots := 0, locals := 141 }
set_option maxHeartbeats 4000000 in
set_option maxRecDepth 100000 in
theorem c_X8_close (l : Launch) (dC : Nat → ClassId) (dI : Nat → Nat → Nat) (a : Nat → Nat) (cy : Nat → ClassId) (sz : Nat) (I : TI) (J : TJ) (S : TS) (L : TL) (Φ : Int32 → TI → TJ → TS → TL → Prop) (h : wp_X8_close I J S L Φ) : Met l yX8_close wsX8_close rmX8_close (va_Pc [.ref (a 0)] (gpre dC dI (wM a cy I J S L) (tyM cy) sz)) (gQi dC dI (wM a cy) (tyM cy) (va_A (wM a cy I J S L) sz) Φ) 0 0 (va_A (wM a cy I J S L) sz) := by
  refine Met.ofW (cc := cX8_close) (maxL := 1) (ret := (some .int)) (by decide) rfl ?_
  intro p e s m args below meth c s₁ B hml hv
  obtain ⟨hargs, hsz, hP, hK, hD0, hN⟩ := hv
  have hx := B.exec
  have hb := B.bytes
  have hr := B.returns
  have hts := atoms_spec (ws := wsX8_close) B.pre
  have hown : s.vm.findClass RX8 = some m.cls := findClass_of_methodNamed B.named
  have hlocks := B.notSynchronized
  subst hsz
  have hD := hD0.self (sz := s.heap.size)
  generalize hAe : va_A (wM a cy I J S L) s.heap.size = A at hD ⊢
  have hA : ∀ q : Nat, s.heap.size ≤ q → A q := fun q h => by rw [← hAe]; exact Or.inr h
  obtain ⟨H, hH⟩ : ∃ z : Heap, z = s.heap := ⟨_, rfl⟩
  rw [← hH] at hP
  have hS : va_S A s.heap H [] := by rw [hH]; exact va_S.rf
  have hl := lv_entry ([.ref (a 0)]) (n := 1) (Nat.le_of_ble_eq_true rfl)
  have hE : entryFrame m args 1 = F0 m 0 ((lg_sl ([.ref (a 0)]) ++ List.replicate (1 - (lg_sl ([.ref (a 0)])).length) Slot.unset).toArray) [] := by rw [hargs]; exact lg_entry_eq m _ _
  rw [hE, ← hH]
  clear hE
  generalize (lg_sl ([.ref (a 0)]) ++ List.replicate (1 - (lg_sl ([.ref (a 0)])).length) Slot.unset).toArray = ls at hl ⊢
  have hl : lv_has ls 1 [(0, .ref (a 0))] := hl
  unfold wp_X8_close at h
  refine lv_aload_n hx hb dX8_close_0 rfl (lv_at hl 0 rfl) ?_
  refine va_get (D := (dC, dI)) (ci := 8) (v := .int (S 0)) (C := RX8) (T := TX8) (N := 47) hx hb hts nX8_close_X8 hown hK hP 0 (wM_at0 _ _ _ _ _ _) rfl 0 (by decide) (hts (.fieldLink RX8 136 "SongOfficeModel" "term" "I") kX8_close_1) (fun _ h9 => h9) rfl dX8_close_1 ?_
  refine lv_bipush (v := 40) hx hb dX8_close_4 (by decide) ?_
  refine lv_icmp_ne (tgt := 11) hx hb dX8_close_6 (by decide) (fun hc => ?_) (fun hc => ?_)
  · have h := h.1 hc
    refine lv_aload_n hx hb dX8_close_11 rfl (lv_at hl 0 rfl) ?_
    refine lv_iconst (v := 0) hx hb dX8_close_12 (by decide) ?_
    obtain ⟨S_1, eS_1⟩ : ∃ z : TS, z = va_up S 3 (0 : Int32) := ⟨_, rfl⟩
    have h := h S_1 eS_1
    refine va_put (D := (dC, dI)) (ci := 8) (v := .int (0 : Int32)) (ty := .int) (C := RX8) (T := TX8) (N := 47) hx hb hts nX8_close_X8 tyX8 tyX8_ok nmX8 hown hK hP hD hS 0 (wM_at0 _ _ _ _ _ _) rfl 35 (by decide) (hts (.fieldLink RX8 178 "SongOfficeModel" "lines" "I") kX8_close_2) (fun _ h9 => h9) rfl (by decide +kernel) rfl rfl (Nat.le_of_ble_eq_true rfl) dX8_close_13 (fun H locs hP hD hS => ?_)
    have hP : va_P (dC, dI) vwCl (wM a cy I J S_1 L) H := by rw [eS_1]; exact setP hP (wM_setS3 _ _ _ _ _ _ _)
    have hD : va_D A (wM a cy I J S_1 L) := by rw [eS_1]; exact setD hD (wM_setS3 _ _ _ _ _ _ _)
    refine lv_aload_n hx hb dX8_close_16 rfl (lv_at hl 0 rfl) ?_
    refine lv_iconst (v := 0) hx hb dX8_close_17 (by decide) ?_
    refine lv_aload_n hx hb dX8_close_18 rfl (lv_at hl 0 rfl) ?_
    refine va_get (D := (dC, dI)) (ci := 8) (v := .int (S_1 0)) (C := RX8) (T := TX8) (N := 47) hx hb hts nX8_close_X8 hown hK hP 0 (wM_at0 _ _ _ _ _ _) rfl 0 (by decide) (hts (.fieldLink RX8 136 "SongOfficeModel" "term" "I") kX8_close_1) (fun _ h9 => h9) rfl dX8_close_19 ?_
    refine gcallv (va_runV (As := [.int (0 : Int32), .int (S_1 0)]) (rest := []) ⟨hx, hb, hml, hown, hts⟩ (c_X8_closes l dC dI a cy H.size I J S_1 L (0 : Int32) (S_1 0) _ h) (cwV 2 hts gX8_close_X8_closes rfl rfl rfl (by decide +kernel) ⟨(Nat.le_of_ble_eq_true rfl), (Nat.le_of_ble_eq_true rfl)⟩) (g_pV hP hK hD hN (va_recv hK hP (ci := 8) (q0 := 0) rfl (wM_at0 _ _ _ _ _ _)) [.int (0 : Int32), .int (S_1 0)]) rfl rfl hl.1 rfl (lv_room (Nat.le_of_ble_eq_true rfl)) dX8_close_22 ⟨(Nat.le_of_ble_eq_true rfl), (Nat.le_of_ble_eq_true rfl)⟩) hS hA hD (fun I_2 J_3 S_4 L_5 H locs hP hD hS h => ?_)
    refine lv_aload_n hx hb dX8_close_25 rfl (lv_at hl 0 rfl) ?_
    refine lv_aload_n hx hb dX8_close_26 rfl (lv_at hl 0 rfl) ?_
    refine va_get (D := (dC, dI)) (ci := 8) (v := .int (S_4 0)) (C := RX8) (T := TX8) (N := 47) hx hb hts nX8_close_X8 hown hK hP 0 (wM_at0 _ _ _ _ _ _) rfl 0 (by decide) (hts (.fieldLink RX8 136 "SongOfficeModel" "term" "I") kX8_close_1) (fun _ h9 => h9) rfl dX8_close_27 ?_
    refine lv_iconst (v := 1) hx hb dX8_close_30 (by decide) ?_
    refine lv_iadd hx hb dX8_close_31 ?_
    obtain ⟨S_6, eS_6⟩ : ∃ z : TS, z = va_up S_4 0 ((S_4 0) + (1 : Int32)) := ⟨_, rfl⟩
    have h := h S_6 eS_6
    refine va_put (D := (dC, dI)) (ci := 8) (v := .int ((S_4 0) + (1 : Int32))) (ty := .int) (C := RX8) (T := TX8) (N := 47) hx hb hts nX8_close_X8 tyX8 tyX8_ok nmX8 hown hK hP hD hS 0 (wM_at0 _ _ _ _ _ _) rfl 0 (by decide) (hts (.fieldLink RX8 136 "SongOfficeModel" "term" "I") kX8_close_1) (fun _ h9 => h9) rfl (by decide +kernel) rfl rfl (Nat.le_of_ble_eq_true rfl) dX8_close_32 (fun H locs hP hD hS => ?_)
    have hP : va_P (dC, dI) vwCl (wM a cy I_2 J_3 S_6 L_5) H := by rw [eS_6]; exact setP hP (wM_setS0 _ _ _ _ _ _ _)
    have hD : va_D A (wM a cy I_2 J_3 S_6 L_5) := by rw [eS_6]; exact setD hD (wM_setS0 _ _ _ _ _ _ _)
    refine lv_aload_n hx hb dX8_close_35 rfl (lv_at hl 0 rfl) ?_
    refine va_get (D := (dC, dI)) (ci := 8) (v := .int (S_6 0)) (C := RX8) (T := TX8) (N := 47) hx hb hts nX8_close_X8 hown hK hP 0 (wM_at0 _ _ _ _ _ _) rfl 0 (by decide) (hts (.fieldLink RX8 136 "SongOfficeModel" "term" "I") kX8_close_1) (fun _ h9 => h9) rfl dX8_close_36 ?_
    refine lv_iconst (v := 1) hx hb dX8_close_39 (by decide) ?_
    refine lv_isub hx hb dX8_close_40 ?_
    exact gri hx hb hr hlocks hP hK hD hS h dX8_close_41
  · have h := h.2 hc
    refine lv_iconst (v := -1) hx hb dX8_close_9 (by decide) ?_
    exact gri hx hb hr hlocks hP hK hD hS h dX8_close_10
def wp_X8_takes (I : TI) (J : TJ) (S : TS) (L : TL) (p0 : Int32) (p1 : Int32) (p2 : Int32) (Φ : Int64 → TI → TJ → TS → TL → Prop) : Prop := ∀ y_1 : Int64, y_1 = (((p2).toInt64) * (1000000 : Int64)) → (∃ V_2 : Nat → TI → TJ → TS → TL → Int64 → Int32 → Prop, (∃ n_4, V_2 n_4 I J S L y_1 (0 : Int32)) ∧ ∀ (n_3 : Nat) (I_5 : TI) (J_6 : TJ) (S_7 : TS) (L_8 : TL) (y_9 : Int64) (x_10 : Int32), V_2 n_3 I_5 J_6 S_7 L_8 y_9 x_10 → ((((40 : Int32) ≤ x_10) → ((vp_in (((12 : Int32) * p0) + p1) 24) ∧ ((vp_in (((12 : Int32) * p0) + p1) 24) ∧ ∀ J_11 : TJ, J_11 = va_up J_6 22 (vp_updL (J_6 22) ((((12 : Int32) * p0) + p1)).toNatClampNeg ((J_6 22 ((((12 : Int32) * p0) + p1)).toNatClampNeg) + y_9)) → (Φ y_9 I_5 J_11 S_7 L_8)))) ∧ ((¬ (40 : Int32) ≤ x_10) → (∃ V_12 : Nat → TI → TJ → TS → TL → Int64 → Int32 → Int32 → Prop, (∃ n_14, V_12 n_14 I_5 J_6 S_7 L_8 y_9 x_10 (0 : Int32)) ∧ ∀ (n_13 : Nat) (I_15 : TI) (J_16 : TJ) (S_17 : TS) (L_18 : TL) (y_19 : Int64) (x_20 : Int32) (x_21 : Int32), V_12 n_13 I_15 J_16 S_17 L_18 y_19 x_20 x_21 → ((((S_17 1) ≤ x_21) → (∀ x_22 : Int32, x_22 = x_20 + 1 → (∃ n_23, n_23 < n_3 ∧ V_2 n_23 I_15 J_16 S_17 L_18 y_19 x_22))) ∧ ((¬ (S_17 1) ≤ x_21) → ((vp_in x_21 24) ∧ (∃ B_24 : TI → TJ → TS → TL → Int64 → Int32 → Int32 → Prop, (∀ (I_25 : TI) (J_26 : TJ) (S_27 : TS) (L_28 : TL) (y_29 : Int64) (x_30 : Int32) (x_31 : Int32), B_24 I_25 J_26 S_27 L_28 y_29 x_30 x_31 → (∀ x_32 : Int32, x_32 = x_31 + 1 → (∃ n_33, n_33 < n_13 ∧ V_12 n_33 I_25 J_26 S_27 L_28 y_29 x_30 x_32))) ∧ (((¬ (I_15 5 (x_21).toNatClampNeg) = (4 : Int32)) → (B_24 I_15 J_16 S_17 L_18 y_19 x_20 x_21)) ∧ (((I_15 5 (x_21).toNatClampNeg) = (4 : Int32)) → ((vp_in x_21 24) ∧ ((((I_15 6 (x_21).toNatClampNeg) = p1) → (wp_X8_bag I_15 J_16 S_17 L_18 p0 x_21 x_20 (fun (r_38 : Int32) (I_34 : TI) (J_35 : TJ) (S_36 : TS) (L_37 : TL) => ((vp_in r_38 1920) ∧ (∃ B_39 : TI → TJ → TS → TL → Int64 → Int32 → Int32 → Int32 → Int64 → Prop, (∀ (I_40 : TI) (J_41 : TJ) (S_42 : TS) (L_43 : TL) (y_44 : Int64) (x_45 : Int32) (x_46 : Int32) (x_47 : Int32) (s_48 : Int64), B_39 I_40 J_41 S_42 L_43 y_44 x_45 x_46 x_47 s_48 → ((vp_in x_47 1920) ∧ ((vp_in x_47 1920) ∧ ∀ J_49 : TJ, J_49 = va_up J_41 25 (vp_updL (J_41 25) (x_47).toNatClampNeg ((J_41 25 (x_47).toNatClampNeg) - s_48)) → (∀ y_50 : Int64, y_50 = (y_44 - s_48) → (B_24 I_40 J_49 S_42 L_43 y_50 x_45 x_46))))) ∧ (((0 ≤ (lg_cmp (J_35 25 (r_38).toNatClampNeg) y_19)) → (B_39 I_34 J_35 S_36 L_37 y_19 x_20 x_21 r_38 y_19)) ∧ ((¬ 0 ≤ (lg_cmp (J_35 25 (r_38).toNatClampNeg) y_19)) → ((vp_in r_38 1920) ∧ (B_39 I_34 J_35 S_36 L_37 y_19 x_20 x_21 r_38 (J_35 25 (r_38).toNatClampNeg)))))))))) ∧ ((¬ (I_15 6 (x_21).toNatClampNeg) = p1) → (B_24 I_15 J_16 S_17 L_18 y_19 x_20 x_21))))))))))))))
theorem nX8_takes_X8 : ∀ w ∈ wsX80, w ∈ wsX8_takes := fun _ h => List.mem_cons_of_mem _ (List.mem_append_right _ h)
theorem kX8_takes_6 : Cond.fieldLink RX8 75 "SongOfficeModel" "debt" "[J" ∈ wsX8_takes := List.mem_of_getElem? (i := 6) rfl
theorem kX8_takes_5 : Cond.fieldLink RX8 84 "SongOfficeModel" "bags" "[J" ∈ wsX8_takes := List.mem_of_getElem? (i := 5) rfl
theorem kX8_takes_4 : Cond.fieldLink RX8 25 "SongOfficeModel" "hand" "[I" ∈ wsX8_takes := List.mem_of_getElem? (i := 4) rfl
theorem kX8_takes_3 : Cond.fieldLink RX8 22 "SongOfficeModel" "kind" "[I" ∈ wsX8_takes := List.mem_of_getElem? (i := 3) rfl
theorem kX8_takes_2 : Cond.fieldLink RX8 157 "SongOfficeModel" "bargains" "I" ∈ wsX8_takes := List.mem_of_getElem? (i := 2) rfl
theorem kX8_takes_1 : Cond.constantLong RX8 194 (1000000) ∈ wsX8_takes := List.mem_of_getElem? (i := 1) rfl
abbrev rmX8_takes : Room := { frames := 1, cells := 0, slots := 0, locals := 22 }
set_option maxHeartbeats 4000000 in
set_option maxRecDepth 100000 in
theorem c_X8_takes (l : Launch) (dC : Nat → ClassId) (dI : Nat → Nat → Nat) (a : Nat → Nat) (cy : Nat → ClassId) (sz : Nat) (I : TI) (J : TJ) (S : TS) (L : TL) (p0 : Int32) (p1 : Int32) (p2 : Int32) (Φ : Int64 → TI → TJ → TS → TL → Prop) (h : wp_X8_takes I J S L p0 p1 p2 Φ) : Met l yX8_takes wsX8_takes rmX8_takes (va_Pc [.ref (a 0), .int p0, .int p1, .int p2] (gpre dC dI (wM a cy I J S L) (tyM cy) sz)) (gQl dC dI (wM a cy) (tyM cy) (va_A (wM a cy I J S L) sz) Φ) 0 0 (va_A (wM a cy I J S L) sz) := by
  refine Met.ofW (cc := cX8_takes) (maxL := 11) (ret := (some .long)) (by decide) rfl ?_
  intro p e s m args below meth c s₁ B hml hv
  obtain ⟨hargs, hsz, hP, hK, hD0, hN⟩ := hv
  have hx := B.exec
  have hb := B.bytes
  have hr := B.returns
  have hts := atoms_spec (ws := wsX8_takes) B.pre
  have hown : s.vm.findClass RX8 = some m.cls := findClass_of_methodNamed B.named
  have hlocks := B.notSynchronized
  subst hsz
  have hD := hD0.self (sz := s.heap.size)
  generalize hAe : va_A (wM a cy I J S L) s.heap.size = A at hD ⊢
  have hA : ∀ q : Nat, s.heap.size ≤ q → A q := fun q h => by rw [← hAe]; exact Or.inr h
  obtain ⟨H, hH⟩ : ∃ z : Heap, z = s.heap := ⟨_, rfl⟩
  rw [← hH] at hP
  have hS : va_S A s.heap H [] := by rw [hH]; exact va_S.rf
  have hl := lv_entry ([.ref (a 0), .int p0, .int p1, .int p2]) (n := 11) (Nat.le_of_ble_eq_true rfl)
  have hE : entryFrame m args 11 = F0 m 0 ((lg_sl ([.ref (a 0), .int p0, .int p1, .int p2]) ++ List.replicate (11 - (lg_sl ([.ref (a 0), .int p0, .int p1, .int p2])).length) Slot.unset).toArray) [] := by rw [hargs]; exact lg_entry_eq m _ _
  rw [hE, ← hH]
  clear hE
  generalize (lg_sl ([.ref (a 0), .int p0, .int p1, .int p2]) ++ List.replicate (11 - (lg_sl ([.ref (a 0), .int p0, .int p1, .int p2])).length) Slot.unset).toArray = ls at hl ⊢
  have hl : lv_has ls 11 [(0, .ref (a 0)), (1, .int p0), (2, .int p1), (3, .int p2)] := hl
  unfold wp_X8_takes at h
  refine lv_iload_n hx hb dX8_takes_0 rfl (lv_at hl 3 rfl) ?_
  refine lv_i2l (v := ((p2).toInt64)) hx hb dX8_takes_1 rfl ?_
  refine lv_ldc2 (v := 1000000) hx hb hown (hts (.constantLong RX8 194 (1000000)) kX8_takes_1) dX8_takes_2 ?_
  refine lv_lmul hx hb dX8_takes_5 ?_
  refine lv_topl (fun y_1 ey_1 => ?_)
  have h := h y_1 ey_1
  refine lv_lstore (lv' := [(4, .long y_1), (0, .ref (a 0)), (1, .int p0), (2, .int p1), (3, .int p2)]) hx hb dX8_takes_6 hl (by decide) rfl (fun ls hl => ?_)
  refine lv_iconst (v := 0) hx hb dX8_takes_8 (by decide) ?_
  refine lv_istore (lv' := [(6, .int (0 : Int32)), (4, .long y_1), (0, .ref (a 0)), (1, .int p0), (2, .int p1), (3, .int p2)]) hx hb dX8_takes_9 hl (by decide) rfl (fun ls hl => ?_)
  obtain ⟨V_2, ⟨n_4, h0V_2⟩, hV_2⟩ := h
  have lV_2 : ∀ (n_3 : Nat) (I_5 : TI) (J_6 : TJ) (S_7 : TS) (L_8 : TL) (y_9 : Int64) (x_10 : Int32) (H : Heap) (locs : List Loc) (ls : Array Slot), va_P (dC, dI) vwCl (wM a cy I_5 J_6 S_7 L_8) H → va_D A (wM a cy I_5 J_6 S_7 L_8) → va_S A s.heap H locs → lv_has ls 11 [(0, .ref (a 0)), (1, .int p0), (2, .int p1), (4, .long y_9), (6, .int x_10)] → V_2 n_3 I_5 J_6 S_7 L_8 y_9 x_10 → W p l e (headSpec wsX8_takes rmX8_takes).room s m args below meth c H locs 0 0 (MQ below (gQl dC dI (wM a cy) (tyM cy) A Φ) args s 0 0 A) (F0 m 11 ls []) := by
    intro n_3
    induction n_3 using Nat.strongRecOn with
    | ind n_3 ihV_2 =>
        intro I_5 J_6 S_7 L_8 y_9 x_10 H locs ls hP hD hS hl h
        have h := hV_2 n_3 I_5 J_6 S_7 L_8 y_9 x_10 h
        refine lv_iload hx hb dX8_takes_11 (lv_at hl 4 rfl) ?_
        refine lv_bipush (v := 40) hx hb dX8_takes_13 (by decide) ?_
        refine lv_icmp_ge (tgt := 128) hx hb dX8_takes_15 (by decide) (fun hc => ?_) (fun hc => ?_)
        · have h := h.1 hc
          refine lv_aload_n hx hb dX8_takes_128 rfl (lv_at hl 0 rfl) ?_
          refine va_get (D := (dC, dI)) (ci := 8) (v := .ref (a 22)) (C := RX8) (T := TX8) (N := 47) hx hb hts nX8_takes_X8 hown hK hP 0 (wM_at0 _ _ _ _ _ _) rfl 23 (by decide) (hts (.fieldLink RX8 75 "SongOfficeModel" "debt" "[J") kX8_takes_6) (fun _ h9 => h9) rfl dX8_takes_129 ?_
          refine lv_bipush (v := 12) hx hb dX8_takes_132 (by decide) ?_
          refine lv_iload_n hx hb dX8_takes_134 rfl (lv_at hl 1 rfl) ?_
          refine lv_imul hx hb dX8_takes_135 ?_
          refine lv_iload_n hx hb dX8_takes_136 rfl (lv_at hl 2 rfl) ?_
          refine lv_iadd hx hb dX8_takes_137 ?_
          refine lv_aload_n hx hb dX8_takes_138 rfl (lv_at hl 0 rfl) ?_
          refine va_get (D := (dC, dI)) (ci := 8) (v := .ref (a 22)) (C := RX8) (T := TX8) (N := 47) hx hb hts nX8_takes_X8 hown hK hP 0 (wM_at0 _ _ _ _ _ _) rfl 23 (by decide) (hts (.fieldLink RX8 75 "SongOfficeModel" "debt" "[J") kX8_takes_6) (fun _ h9 => h9) rfl dX8_takes_139 ?_
          refine lv_bipush (v := 12) hx hb dX8_takes_142 (by decide) ?_
          refine lv_iload_n hx hb dX8_takes_144 rfl (lv_at hl 1 rfl) ?_
          refine lv_imul hx hb dX8_takes_145 ?_
          refine lv_iload_n hx hb dX8_takes_146 rfl (lv_at hl 2 rfl) ?_
          refine lv_iadd hx hb dX8_takes_147 ?_
          obtain ⟨hi, h⟩ := h
          refine va_lald hx hb hK hP 22 21 (wM_at22 _ _ _ _ _ _) rfl hi dX8_takes_148 ?_
          refine lv_lload hx hb dX8_takes_149 (lv_at hl 3 rfl) ?_
          refine lv_ladd hx hb dX8_takes_151 ?_
          obtain ⟨hi, h⟩ := h
          obtain ⟨J_11, eJ_11⟩ : ∃ z : TJ, z = va_up J_6 22 (vp_updL (J_6 22) ((((12 : Int32) * p0) + p1)).toNatClampNeg ((J_6 22 ((((12 : Int32) * p0) + p1)).toNatClampNeg) + y_9)) := ⟨_, rfl⟩
          have h := h J_11 eJ_11
          refine va_last hx hb hK hP hD hS 22 21 (wM_at22 _ _ _ _ _ _) rfl hi dX8_takes_152 (fun H locs hP hD hS => ?_)
          have hP : va_P (dC, dI) vwCl (wM a cy I_5 J_11 S_7 L_8) H := by rw [eJ_11]; exact setP hP (wM_set22 _ _ _ _ _ _ _)
          have hD : va_D A (wM a cy I_5 J_11 S_7 L_8) := by rw [eJ_11]; exact setD hD (wM_set22 _ _ _ _ _ _ _)
          refine lv_lload hx hb dX8_takes_153 (lv_at hl 3 rfl) ?_
          exact grl hx hb hr hlocks hP hK hD hS h dX8_takes_155
        · have h := h.2 hc
          refine lv_iconst (v := 0) hx hb dX8_takes_18 (by decide) ?_
          refine lv_istore (lv' := [(7, .int (0 : Int32)), (0, .ref (a 0)), (1, .int p0), (2, .int p1), (4, .long y_9), (6, .int x_10)]) hx hb dX8_takes_19 hl (by decide) rfl (fun ls hl => ?_)
          obtain ⟨V_12, ⟨n_14, h0V_12⟩, hV_12⟩ := h
          have lV_12 : ∀ (n_13 : Nat) (I_15 : TI) (J_16 : TJ) (S_17 : TS) (L_18 : TL) (y_19 : Int64) (x_20 : Int32) (x_21 : Int32) (H : Heap) (locs : List Loc) (ls : Array Slot), va_P (dC, dI) vwCl (wM a cy I_15 J_16 S_17 L_18) H → va_D A (wM a cy I_15 J_16 S_17 L_18) → va_S A s.heap H locs → lv_has ls 11 [(0, .ref (a 0)), (1, .int p0), (2, .int p1), (4, .long y_19), (6, .int x_20), (7, .int x_21)] → V_12 n_13 I_15 J_16 S_17 L_18 y_19 x_20 x_21 → W p l e (headSpec wsX8_takes rmX8_takes).room s m args below meth c H locs 0 0 (MQ below (gQl dC dI (wM a cy) (tyM cy) A Φ) args s 0 0 A) (F0 m 21 ls []) := by
            intro n_13
            induction n_13 using Nat.strongRecOn with
            | ind n_13 ihV_12 =>
                intro I_15 J_16 S_17 L_18 y_19 x_20 x_21 H locs ls hP hD hS hl h
                have h := hV_12 n_13 I_15 J_16 S_17 L_18 y_19 x_20 x_21 h
                refine lv_iload hx hb dX8_takes_21 (lv_at hl 5 rfl) ?_
                refine lv_aload_n hx hb dX8_takes_23 rfl (lv_at hl 0 rfl) ?_
                refine va_get (D := (dC, dI)) (ci := 8) (v := .int (S_17 1)) (C := RX8) (T := TX8) (N := 47) hx hb hts nX8_takes_X8 hown hK hP 0 (wM_at0 _ _ _ _ _ _) rfl 5 (by decide) (hts (.fieldLink RX8 157 "SongOfficeModel" "bargains" "I") kX8_takes_2) (fun _ h9 => h9) rfl dX8_takes_24 ?_
                refine lv_icmp_ge (tgt := 122) hx hb dX8_takes_27 (by decide) (fun hc => ?_) (fun hc => ?_)
                · have h := h.1 hc
                  obtain ⟨x_22, ex_22⟩ : ∃ z : Int32, z = x_20 + 1 := ⟨_, rfl⟩
                  have h := h x_22 ex_22
                  refine lv_iinc (v := x_22) (lv' := [(6, .int x_22), (0, .ref (a 0)), (1, .int p0), (2, .int p1), (4, .long y_19), (7, .int x_21)]) hx hb dX8_takes_122 hl (k := 4) rfl (by rw [ex_22]; rfl) (by decide) rfl (fun ls hl => ?_)
                  refine lv_goto (tgt := 11) hx hb dX8_takes_125 (by decide) ?_
                  obtain ⟨n_23, hn2, h⟩ := h
                  exact ihV_2 n_23 hn2 I_15 J_16 S_17 L_18 y_19 x_22 _ _ _ hP hD hS (lv_sub hl [1, 2, 3, 4, 0] rfl) h
                · have h := h.2 hc
                  refine lv_aload_n hx hb dX8_takes_30 rfl (lv_at hl 0 rfl) ?_
                  refine va_get (D := (dC, dI)) (ci := 8) (v := .ref (a 5)) (C := RX8) (T := TX8) (N := 47) hx hb hts nX8_takes_X8 hown hK hP 0 (wM_at0 _ _ _ _ _ _) rfl 6 (by decide) (hts (.fieldLink RX8 22 "SongOfficeModel" "kind" "[I") kX8_takes_3) (fun _ h9 => h9) rfl dX8_takes_31 ?_
                  refine lv_iload hx hb dX8_takes_34 (lv_at hl 5 rfl) ?_
                  obtain ⟨hi, h⟩ := h
                  refine va_iald hx hb hK hP 5 4 (wM_at5 _ _ _ _ _ _) rfl hi dX8_takes_36 ?_
                  refine lv_iconst (v := 4) hx hb dX8_takes_37 (by decide) ?_
                  obtain ⟨B_24, hB_24, h⟩ := h
                  have jB_24 : ∀ (I_25 : TI) (J_26 : TJ) (S_27 : TS) (L_28 : TL) (y_29 : Int64) (x_30 : Int32) (x_31 : Int32) (H : Heap) (locs : List Loc) (ls : Array Slot), va_P (dC, dI) vwCl (wM a cy I_25 J_26 S_27 L_28) H → va_D A (wM a cy I_25 J_26 S_27 L_28) → va_S A s.heap H locs → lv_has ls 11 [(0, .ref (a 0)), (1, .int p0), (2, .int p1), (4, .long y_29), (6, .int x_30), (7, .int x_31)] → B_24 I_25 J_26 S_27 L_28 y_29 x_30 x_31 → W p l e (headSpec wsX8_takes rmX8_takes).room s m args below meth c H locs 0 0 (MQ below (gQl dC dI (wM a cy) (tyM cy) A Φ) args s 0 0 A) (F0 m 116 ls []) := by
                    intro I_25 J_26 S_27 L_28 y_29 x_30 x_31 H locs ls hP hD hS hl h
                    have h := hB_24 I_25 J_26 S_27 L_28 y_29 x_30 x_31 h
                    obtain ⟨x_32, ex_32⟩ : ∃ z : Int32, z = x_31 + 1 := ⟨_, rfl⟩
                    have h := h x_32 ex_32
                    refine lv_iinc (v := x_32) (lv' := [(7, .int x_32), (0, .ref (a 0)), (1, .int p0), (2, .int p1), (4, .long y_29), (6, .int x_30)]) hx hb dX8_takes_116 hl (k := 5) rfl (by rw [ex_32]; rfl) (by decide) rfl (fun ls hl => ?_)
                    refine lv_goto (tgt := 21) hx hb dX8_takes_119 (by decide) ?_
                    obtain ⟨n_33, hn2, h⟩ := h
                    exact ihV_12 n_33 hn2 I_25 J_26 S_27 L_28 y_29 x_30 x_32 _ _ _ hP hD hS (lv_sub hl [1, 2, 3, 4, 5, 0] rfl) h
                  refine lv_icmp_ne (tgt := 116) hx hb dX8_takes_38 (by decide) (fun hc => ?_) (fun hc => ?_)
                  · have h := h.1 hc
                    exact jB_24 I_15 J_16 S_17 L_18 y_19 x_20 x_21 _ _ _ hP hD hS (lv_sub hl [0, 1, 2, 3, 4, 5] rfl) h
                  · have h := h.2 hc
                    refine lv_aload_n hx hb dX8_takes_41 rfl (lv_at hl 0 rfl) ?_
                    refine va_get (D := (dC, dI)) (ci := 8) (v := .ref (a 6)) (C := RX8) (T := TX8) (N := 47) hx hb hts nX8_takes_X8 hown hK hP 0 (wM_at0 _ _ _ _ _ _) rfl 7 (by decide) (hts (.fieldLink RX8 25 "SongOfficeModel" "hand" "[I") kX8_takes_4) (fun _ h9 => h9) rfl dX8_takes_42 ?_
                    refine lv_iload hx hb dX8_takes_45 (lv_at hl 5 rfl) ?_
                    obtain ⟨hi, h⟩ := h
                    refine va_iald hx hb hK hP 6 5 (wM_at6 _ _ _ _ _ _) rfl hi dX8_takes_47 ?_
                    refine lv_iload_n hx hb dX8_takes_48 rfl (lv_at hl 2 rfl) ?_
                    refine lv_icmp_eq (tgt := 55) hx hb dX8_takes_49 (by decide) (fun hc => ?_) (fun hc => ?_)
                    · have h := h.1 hc
                      refine lv_iload_n hx hb dX8_takes_55 rfl (lv_at hl 1 rfl) ?_
                      refine lv_iload hx hb dX8_takes_56 (lv_at hl 5 rfl) ?_
                      refine lv_iload hx hb dX8_takes_58 (lv_at hl 4 rfl) ?_
                      refine gcalli (va_runS (As := [.int p0, .int x_21, .int x_20]) (rest := []) ⟨hx, hb, hml, hown, hts⟩ (c_X8_bag l dC dI (wM a cy) (tyM cy) H.size I_15 J_16 S_17 L_18 p0 x_21 x_20 _ h) (va_cwS 3 hts gX8_takes_X8_bag rfl rfl rfl (by decide +kernel) ⟨(Nat.le_of_ble_eq_true rfl), (Nat.le_of_ble_eq_true rfl)⟩) (g_pS hP hK hD hN [.int p0, .int x_21, .int x_20]) rfl rfl hl.1 rfl (lv_room (Nat.le_of_ble_eq_true rfl)) dX8_takes_60 ⟨(Nat.le_of_ble_eq_true rfl), (Nat.le_of_ble_eq_true rfl)⟩) hS hA hD (fun r_38 I_34 J_35 S_36 L_37 H locs hP hD hS h => ?_)
                      refine lv_istore (lv' := [(8, .int r_38), (0, .ref (a 0)), (1, .int p0), (2, .int p1), (4, .long y_19), (6, .int x_20), (7, .int x_21)]) hx hb dX8_takes_63 hl (by decide) rfl (fun ls hl => ?_)
                      refine lv_aload_n hx hb dX8_takes_65 rfl (lv_at hl 1 rfl) ?_
                      refine va_get (D := (dC, dI)) (ci := 8) (v := .ref (a 25)) (C := RX8) (T := TX8) (N := 47) hx hb hts nX8_takes_X8 hown hK hP 0 (wM_at0 _ _ _ _ _ _) rfl 26 (by decide) (hts (.fieldLink RX8 84 "SongOfficeModel" "bags" "[J") kX8_takes_5) (fun _ h9 => h9) rfl dX8_takes_66 ?_
                      refine lv_iload hx hb dX8_takes_69 (lv_at hl 0 rfl) ?_
                      obtain ⟨hi, h⟩ := h
                      refine va_lald hx hb hK hP 25 24 (wM_at25 _ _ _ _ _ _) rfl hi dX8_takes_71 ?_
                      refine lv_lload hx hb dX8_takes_72 (lv_at hl 4 rfl) ?_
                      refine W.lcmp hx hb dX8_takes_74 ?_
                      obtain ⟨B_39, hB_39, h⟩ := h
                      have jB_39 : ∀ (I_40 : TI) (J_41 : TJ) (S_42 : TS) (L_43 : TL) (y_44 : Int64) (x_45 : Int32) (x_46 : Int32) (x_47 : Int32) (s_48 : Int64) (H : Heap) (locs : List Loc) (ls : Array Slot), va_P (dC, dI) vwCl (wM a cy I_40 J_41 S_42 L_43) H → va_D A (wM a cy I_40 J_41 S_42 L_43) → va_S A s.heap H locs → lv_has ls 11 [(0, .ref (a 0)), (1, .int p0), (2, .int p1), (4, .long y_44), (6, .int x_45), (7, .int x_46), (8, .int x_47)] → B_39 I_40 J_41 S_42 L_43 y_44 x_45 x_46 x_47 s_48 → W p l e (headSpec wsX8_takes rmX8_takes).room s m args below meth c H locs 0 0 (MQ below (gQl dC dI (wM a cy) (tyM cy) A Φ) args s 0 0 A) (F0 m 90 ls [.long s_48]) := by
                        intro I_40 J_41 S_42 L_43 y_44 x_45 x_46 x_47 s_48 H locs ls hP hD hS hl h
                        have h := hB_39 I_40 J_41 S_42 L_43 y_44 x_45 x_46 x_47 s_48 h
                        refine lv_lstore (lv' := [(9, .long s_48), (0, .ref (a 0)), (1, .int p0), (2, .int p1), (4, .long y_44), (6, .int x_45), (7, .int x_46), (8, .int x_47)]) hx hb dX8_takes_90 hl (by decide) rfl (fun ls hl => ?_)
                        refine lv_aload_n hx hb dX8_takes_92 rfl (lv_at hl 1 rfl) ?_
                        refine va_get (D := (dC, dI)) (ci := 8) (v := .ref (a 25)) (C := RX8) (T := TX8) (N := 47) hx hb hts nX8_takes_X8 hown hK hP 0 (wM_at0 _ _ _ _ _ _) rfl 26 (by decide) (hts (.fieldLink RX8 84 "SongOfficeModel" "bags" "[J") kX8_takes_5) (fun _ h9 => h9) rfl dX8_takes_93 ?_
                        refine lv_iload hx hb dX8_takes_96 (lv_at hl 7 rfl) ?_
                        refine lv_aload_n hx hb dX8_takes_98 rfl (lv_at hl 1 rfl) ?_
                        refine va_get (D := (dC, dI)) (ci := 8) (v := .ref (a 25)) (C := RX8) (T := TX8) (N := 47) hx hb hts nX8_takes_X8 hown hK hP 0 (wM_at0 _ _ _ _ _ _) rfl 26 (by decide) (hts (.fieldLink RX8 84 "SongOfficeModel" "bags" "[J") kX8_takes_5) (fun _ h9 => h9) rfl dX8_takes_99 ?_
                        refine lv_iload hx hb dX8_takes_102 (lv_at hl 7 rfl) ?_
                        obtain ⟨hi, h⟩ := h
                        refine va_lald hx hb hK hP 25 24 (wM_at25 _ _ _ _ _ _) rfl hi dX8_takes_104 ?_
                        refine lv_lload hx hb dX8_takes_105 (lv_at hl 0 rfl) ?_
                        refine lv_lsub hx hb dX8_takes_107 ?_
                        obtain ⟨hi, h⟩ := h
                        obtain ⟨J_49, eJ_49⟩ : ∃ z : TJ, z = va_up J_41 25 (vp_updL (J_41 25) (x_47).toNatClampNeg ((J_41 25 (x_47).toNatClampNeg) - s_48)) := ⟨_, rfl⟩
                        have h := h J_49 eJ_49
                        refine va_last hx hb hK hP hD hS 25 24 (wM_at25 _ _ _ _ _ _) rfl hi dX8_takes_108 (fun H locs hP hD hS => ?_)
                        have hP : va_P (dC, dI) vwCl (wM a cy I_40 J_49 S_42 L_43) H := by rw [eJ_49]; exact setP hP (wM_set25 _ _ _ _ _ _ _)
                        have hD : va_D A (wM a cy I_40 J_49 S_42 L_43) := by rw [eJ_49]; exact setD hD (wM_set25 _ _ _ _ _ _ _)
                        refine lv_lload hx hb dX8_takes_109 (lv_at hl 4 rfl) ?_
                        refine lv_lload hx hb dX8_takes_111 (lv_at hl 0 rfl) ?_
                        refine lv_lsub hx hb dX8_takes_113 ?_
                        refine lv_topl (fun y_50 ey_50 => ?_)
                        have h := h y_50 ey_50
                        refine lv_lstore (lv' := [(4, .long y_50), (9, .long s_48), (0, .ref (a 0)), (1, .int p0), (2, .int p1), (6, .int x_45), (7, .int x_46), (8, .int x_47)]) hx hb dX8_takes_114 hl (by decide) rfl (fun ls hl => ?_)
                        exact jB_24 I_40 J_49 S_42 L_43 y_50 x_45 x_46 _ _ _ hP hD hS (lv_sub hl [2, 3, 4, 0, 5, 6] rfl) h
                      refine lv_if_ge (tgt := 88) hx hb dX8_takes_75 (by decide) (fun hc => ?_) (fun hc => ?_)
                      · have h := h.1 hc
                        refine lv_lload hx hb dX8_takes_88 (lv_at hl 4 rfl) ?_
                        exact jB_39 I_34 J_35 S_36 L_37 y_19 x_20 x_21 r_38 y_19 _ _ _ hP hD hS (lv_sub hl [1, 2, 3, 4, 5, 6, 0] rfl) h
                      · have h := h.2 hc
                        refine lv_aload_n hx hb dX8_takes_78 rfl (lv_at hl 1 rfl) ?_
                        refine va_get (D := (dC, dI)) (ci := 8) (v := .ref (a 25)) (C := RX8) (T := TX8) (N := 47) hx hb hts nX8_takes_X8 hown hK hP 0 (wM_at0 _ _ _ _ _ _) rfl 26 (by decide) (hts (.fieldLink RX8 84 "SongOfficeModel" "bags" "[J") kX8_takes_5) (fun _ h9 => h9) rfl dX8_takes_79 ?_
                        refine lv_iload hx hb dX8_takes_82 (lv_at hl 0 rfl) ?_
                        obtain ⟨hi, h⟩ := h
                        refine va_lald hx hb hK hP 25 24 (wM_at25 _ _ _ _ _ _) rfl hi dX8_takes_84 ?_
                        refine lv_goto (tgt := 90) hx hb dX8_takes_85 (by decide) ?_
                        exact jB_39 I_34 J_35 S_36 L_37 y_19 x_20 x_21 r_38 (J_35 25 (r_38).toNatClampNeg) _ _ _ hP hD hS (lv_sub hl [1, 2, 3, 4, 5, 6, 0] rfl) h
                    · have h := h.2 hc
                      refine lv_goto (tgt := 116) hx hb dX8_takes_52 (by decide) ?_
                      exact jB_24 I_15 J_16 S_17 L_18 y_19 x_20 x_21 _ _ _ hP hD hS (lv_sub hl [0, 1, 2, 3, 4, 5] rfl) h
          exact lV_12 n_14 I_5 J_6 S_7 L_8 y_9 x_10 (0 : Int32) _ _ _ hP hD hS (lv_sub hl [1, 2, 3, 4, 5, 0] rfl) h0V_12
  exact lV_2 n_4 I J S L y_1 (0 : Int32) _ _ _ hP hD hS (lv_sub hl [2, 3, 4, 1, 0] rfl) h0V_2
def wp_X8_sent (I : TI) (J : TJ) (S : TS) (L : TL) (p0 : Int32) (p1 : Int32) (Φ : Int64 → TI → TJ → TS → TL → Prop) : Prop := wp_X8_isHand I J S L p0 (fun (r_5 : Int32) (I_1 : TI) (J_2 : TJ) (S_3 : TS) (L_4 : TL) => (∃ B_6 : TI → TJ → TS → TL → Prop, (∀ (I_7 : TI) (J_8 : TJ) (S_9 : TS) (L_10 : TL), B_6 I_7 J_8 S_9 L_10 → (Φ (-1 : Int64) I_7 J_8 S_9 L_10)) ∧ (((r_5 = 0) → (B_6 I_1 J_2 S_3 L_4)) ∧ ((¬ r_5 = 0) → (((p1 < (1 : Int32)) → (B_6 I_1 J_2 S_3 L_4)) ∧ ((¬ p1 < (1 : Int32)) → ((((1000000 : Int32) < p1) → (B_6 I_1 J_2 S_3 L_4)) ∧ ((¬ (1000000 : Int32) < p1) → (((¬ (S_3 4) = (60 : Int32)) → ((vp_in (S_3 4) 60) ∧ ∀ I_11 : TI, I_11 = va_up I_1 38 (upd (I_1 38) ((S_3 4)).toNatClampNeg p0) → ((vp_in (S_3 4) 60) ∧ ∀ I_12 : TI, I_12 = va_up I_11 39 (upd (I_11 39) ((S_3 4)).toNatClampNeg p1) → ((vp_in (S_3 4) 60) ∧ ∀ I_13 : TI, I_13 = va_up I_12 40 (upd (I_12 40) ((S_3 4)).toNatClampNeg (S_3 0)) → (∀ S_14 : TS, S_14 = va_up S_3 4 ((S_3 4) + (1 : Int32)) → (∀ L_15 : TL, L_15 = va_up L_4 0 ((L_4 0) + (((p1).toInt64) * (1000000 : Int64))) → (wp_X8_takes I_13 J_2 S_14 L_15 (0 : Int32) p0 p1 (fun (r_20 : Int64) (I_16 : TI) (J_17 : TJ) (S_18 : TS) (L_19 : TL) => (Φ r_20 I_16 J_17 S_18 L_19))))))))) ∧ (((S_3 4) = (60 : Int32)) → (B_6 I_1 J_2 S_3 L_4)))))))))))
theorem kX8_sent_3 : Cond.constantLong RX8 227 (-1) ∈ wsX8_sent := List.mem_of_getElem? (i := 3) rfl
theorem nX8_sent_X8 : ∀ w ∈ wsX80, w ∈ wsX8_sent := fun _ h => List.mem_cons_of_mem _ (List.mem_append_right _ h)
theorem kX8_sent_8 : Cond.fieldLink RX8 229 "SongOfficeModel" "sentAll" "J" ∈ wsX8_sent := List.mem_of_getElem? (i := 8) rfl
theorem kX8_sent_9 : Cond.constantLong RX8 194 (1000000) ∈ wsX8_sent := List.mem_of_getElem? (i := 9) rfl
theorem kX8_sent_2 : Cond.fieldLink RX8 224 "SongOfficeModel" "sents" "I" ∈ wsX8_sent := List.mem_of_getElem? (i := 2) rfl
theorem kX8_sent_7 : Cond.fieldLink RX8 136 "SongOfficeModel" "term" "I" ∈ wsX8_sent := List.mem_of_getElem? (i := 7) rfl
theorem kX8_sent_6 : Cond.fieldLink RX8 129 "SongOfficeModel" "sentTerm" "[I" ∈ wsX8_sent := List.mem_of_getElem? (i := 6) rfl
theorem kX8_sent_5 : Cond.fieldLink RX8 126 "SongOfficeModel" "sentCoins" "[I" ∈ wsX8_sent := List.mem_of_getElem? (i := 5) rfl
theorem kX8_sent_4 : Cond.fieldLink RX8 123 "SongOfficeModel" "sentHand" "[I" ∈ wsX8_sent := List.mem_of_getElem? (i := 4) rfl
theorem kX8_sent_1 : Cond.constant RX8 150 (1000000) ∈ wsX8_sent := List.mem_of_getElem? (i := 1) rfl
abbrev rmX8_sent : Room := { frames := 2, cells := 0, slots := 0, locals := 52 }
set_option maxHeartbeats 4000000 in
set_option maxRecDepth 100000 in
theorem c_X8_sent (l : Launch) (dC : Nat → ClassId) (dI : Nat → Nat → Nat) (a : Nat → Nat) (cy : Nat → ClassId) (sz : Nat) (I : TI) (J : TJ) (S : TS) (L : TL) (p0 : Int32) (p1 : Int32) (Φ : Int64 → TI → TJ → TS → TL → Prop) (h : wp_X8_sent I J S L p0 p1 Φ) : Met l yX8_sent wsX8_sent rmX8_sent (va_Pc [.ref (a 0), .int p0, .int p1] (gpre dC dI (wM a cy I J S L) (tyM cy) sz)) (gQl dC dI (wM a cy) (tyM cy) (va_A (wM a cy I J S L) sz) Φ) 0 0 (va_A (wM a cy I J S L) sz) := by
  refine Met.ofW (cc := cX8_sent) (maxL := 3) (ret := (some .long)) (by decide) rfl ?_
  intro p e s m args below meth c s₁ B hml hv
  obtain ⟨hargs, hsz, hP, hK, hD0, hN⟩ := hv
  have hx := B.exec
  have hb := B.bytes
  have hr := B.returns
  have hts := atoms_spec (ws := wsX8_sent) B.pre
  have hown : s.vm.findClass RX8 = some m.cls := findClass_of_methodNamed B.named
  have hlocks := B.notSynchronized
  subst hsz
  have hD := hD0.self (sz := s.heap.size)
  generalize hAe : va_A (wM a cy I J S L) s.heap.size = A at hD ⊢
  have hA : ∀ q : Nat, s.heap.size ≤ q → A q := fun q h => by rw [← hAe]; exact Or.inr h
  obtain ⟨H, hH⟩ : ∃ z : Heap, z = s.heap := ⟨_, rfl⟩
  rw [← hH] at hP
  have hS : va_S A s.heap H [] := by rw [hH]; exact va_S.rf
  have hl := lv_entry ([.ref (a 0), .int p0, .int p1]) (n := 3) (Nat.le_of_ble_eq_true rfl)
  have hE : entryFrame m args 3 = F0 m 0 ((lg_sl ([.ref (a 0), .int p0, .int p1]) ++ List.replicate (3 - (lg_sl ([.ref (a 0), .int p0, .int p1])).length) Slot.unset).toArray) [] := by rw [hargs]; exact lg_entry_eq m _ _
  rw [hE, ← hH]
  clear hE
  generalize (lg_sl ([.ref (a 0), .int p0, .int p1]) ++ List.replicate (3 - (lg_sl ([.ref (a 0), .int p0, .int p1])).length) Slot.unset).toArray = ls at hl ⊢
  have hl : lv_has ls 3 [(0, .ref (a 0)), (1, .int p0), (2, .int p1)] := hl
  unfold wp_X8_sent at h
  refine lv_iload_n hx hb dX8_sent_0 rfl (lv_at hl 1 rfl) ?_
  refine gcalli (va_runS (As := [.int p0]) (rest := []) ⟨hx, hb, hml, hown, hts⟩ (c_X8_isHand l dC dI (wM a cy) (tyM cy) H.size I J S L p0 _ h) (va_cwS 1 hts gX8_sent_X8_isHand rfl rfl rfl (by decide +kernel) ⟨(Nat.le_of_ble_eq_true rfl), (Nat.le_of_ble_eq_true rfl)⟩) (g_pS hP hK hD hN [.int p0]) rfl rfl hl.1 rfl (lv_room (Nat.le_of_ble_eq_true rfl)) dX8_sent_1 ⟨(Nat.le_of_ble_eq_true rfl), (Nat.le_of_ble_eq_true rfl)⟩) hS hA hD (fun r_5 I_1 J_2 S_3 L_4 H locs hP hD hS h => ?_)
  obtain ⟨B_6, hB_6, h⟩ := h
  have jB_6 : ∀ (I_7 : TI) (J_8 : TJ) (S_9 : TS) (L_10 : TL) (H : Heap) (locs : List Loc) (ls : Array Slot), va_P (dC, dI) vwCl (wM a cy I_7 J_8 S_9 L_10) H → va_D A (wM a cy I_7 J_8 S_9 L_10) → va_S A s.heap H locs → lv_has ls 3 [] → B_6 I_7 J_8 S_9 L_10 → W p l e (headSpec wsX8_sent rmX8_sent).room s m args below meth c H locs 0 0 (MQ below (gQl dC dI (wM a cy) (tyM cy) A Φ) args s 0 0 A) (F0 m 27 ls []) := by
    intro I_7 J_8 S_9 L_10 H locs ls hP hD hS hl h
    have h := hB_6 I_7 J_8 S_9 L_10 h
    refine lv_ldc2 (v := -1) hx hb hown (hts (.constantLong RX8 227 (-1)) kX8_sent_3) dX8_sent_27 ?_
    exact grl hx hb hr hlocks hP hK hD hS h dX8_sent_30
  refine lv_if_eq (tgt := 27) hx hb dX8_sent_4 (by decide) (fun hc => ?_) (fun hc => ?_)
  · have h := h.1 hc
    exact jB_6 I_1 J_2 S_3 L_4 _ _ _ hP hD hS (lv_sub hl [] rfl) h
  · have h := h.2 hc
    refine lv_iload_n hx hb dX8_sent_7 rfl (lv_at hl 2 rfl) ?_
    refine lv_iconst (v := 1) hx hb dX8_sent_8 (by decide) ?_
    refine lv_icmp_lt (tgt := 27) hx hb dX8_sent_9 (by decide) (fun hc => ?_) (fun hc => ?_)
    · have h := h.1 hc
      exact jB_6 I_1 J_2 S_3 L_4 _ _ _ hP hD hS (lv_sub hl [] rfl) h
    · have h := h.2 hc
      refine lv_iload_n hx hb dX8_sent_12 rfl (lv_at hl 2 rfl) ?_
      refine lv_ldc (v := 1000000) hx hb hown (hts (.constant RX8 150 (1000000)) kX8_sent_1) dX8_sent_13 ?_
      refine lv_icmp_gt (tgt := 27) hx hb dX8_sent_15 (by decide) (fun hc => ?_) (fun hc => ?_)
      · have h := h.1 hc
        exact jB_6 I_1 J_2 S_3 L_4 _ _ _ hP hD hS (lv_sub hl [] rfl) h
      · have h := h.2 hc
        refine lv_aload_n hx hb dX8_sent_18 rfl (lv_at hl 0 rfl) ?_
        refine va_get (D := (dC, dI)) (ci := 8) (v := .int (S_3 4)) (C := RX8) (T := TX8) (N := 47) hx hb hts nX8_sent_X8 hown hK hP 0 (wM_at0 _ _ _ _ _ _) rfl 41 (by decide) (hts (.fieldLink RX8 224 "SongOfficeModel" "sents" "I") kX8_sent_2) (fun _ h9 => h9) rfl dX8_sent_19 ?_
        refine lv_bipush (v := 60) hx hb dX8_sent_22 (by decide) ?_
        refine lv_icmp_ne (tgt := 31) hx hb dX8_sent_24 (by decide) (fun hc => ?_) (fun hc => ?_)
        · have h := h.1 hc
          refine lv_aload_n hx hb dX8_sent_31 rfl (lv_at hl 0 rfl) ?_
          refine va_get (D := (dC, dI)) (ci := 8) (v := .ref (a 38)) (C := RX8) (T := TX8) (N := 47) hx hb hts nX8_sent_X8 hown hK hP 0 (wM_at0 _ _ _ _ _ _) rfl 42 (by decide) (hts (.fieldLink RX8 123 "SongOfficeModel" "sentHand" "[I") kX8_sent_4) (fun _ h9 => h9) rfl dX8_sent_32 ?_
          refine lv_aload_n hx hb dX8_sent_35 rfl (lv_at hl 0 rfl) ?_
          refine va_get (D := (dC, dI)) (ci := 8) (v := .int (S_3 4)) (C := RX8) (T := TX8) (N := 47) hx hb hts nX8_sent_X8 hown hK hP 0 (wM_at0 _ _ _ _ _ _) rfl 41 (by decide) (hts (.fieldLink RX8 224 "SongOfficeModel" "sents" "I") kX8_sent_2) (fun _ h9 => h9) rfl dX8_sent_36 ?_
          refine lv_iload_n hx hb dX8_sent_39 rfl (lv_at hl 1 rfl) ?_
          obtain ⟨hi, h⟩ := h
          obtain ⟨I_11, eI_11⟩ : ∃ z : TI, z = va_up I_1 38 (upd (I_1 38) ((S_3 4)).toNatClampNeg p0) := ⟨_, rfl⟩
          have h := h I_11 eI_11
          refine va_iast hx hb hK hP hD hS 38 37 (wM_at38 _ _ _ _ _ _) rfl hi dX8_sent_40 (fun H locs hP hD hS => ?_)
          have hP : va_P (dC, dI) vwCl (wM a cy I_11 J_2 S_3 L_4) H := by rw [eI_11]; exact setP hP (wM_set38 _ _ _ _ _ _ _)
          have hD : va_D A (wM a cy I_11 J_2 S_3 L_4) := by rw [eI_11]; exact setD hD (wM_set38 _ _ _ _ _ _ _)
          refine lv_aload_n hx hb dX8_sent_41 rfl (lv_at hl 0 rfl) ?_
          refine va_get (D := (dC, dI)) (ci := 8) (v := .ref (a 39)) (C := RX8) (T := TX8) (N := 47) hx hb hts nX8_sent_X8 hown hK hP 0 (wM_at0 _ _ _ _ _ _) rfl 43 (by decide) (hts (.fieldLink RX8 126 "SongOfficeModel" "sentCoins" "[I") kX8_sent_5) (fun _ h9 => h9) rfl dX8_sent_42 ?_
          refine lv_aload_n hx hb dX8_sent_45 rfl (lv_at hl 0 rfl) ?_
          refine va_get (D := (dC, dI)) (ci := 8) (v := .int (S_3 4)) (C := RX8) (T := TX8) (N := 47) hx hb hts nX8_sent_X8 hown hK hP 0 (wM_at0 _ _ _ _ _ _) rfl 41 (by decide) (hts (.fieldLink RX8 224 "SongOfficeModel" "sents" "I") kX8_sent_2) (fun _ h9 => h9) rfl dX8_sent_46 ?_
          refine lv_iload_n hx hb dX8_sent_49 rfl (lv_at hl 2 rfl) ?_
          obtain ⟨hi, h⟩ := h
          obtain ⟨I_12, eI_12⟩ : ∃ z : TI, z = va_up I_11 39 (upd (I_11 39) ((S_3 4)).toNatClampNeg p1) := ⟨_, rfl⟩
          have h := h I_12 eI_12
          refine va_iast hx hb hK hP hD hS 39 38 (wM_at39 _ _ _ _ _ _) rfl hi dX8_sent_50 (fun H locs hP hD hS => ?_)
          have hP : va_P (dC, dI) vwCl (wM a cy I_12 J_2 S_3 L_4) H := by rw [eI_12]; exact setP hP (wM_set39 _ _ _ _ _ _ _)
          have hD : va_D A (wM a cy I_12 J_2 S_3 L_4) := by rw [eI_12]; exact setD hD (wM_set39 _ _ _ _ _ _ _)
          refine lv_aload_n hx hb dX8_sent_51 rfl (lv_at hl 0 rfl) ?_
          refine va_get (D := (dC, dI)) (ci := 8) (v := .ref (a 40)) (C := RX8) (T := TX8) (N := 47) hx hb hts nX8_sent_X8 hown hK hP 0 (wM_at0 _ _ _ _ _ _) rfl 44 (by decide) (hts (.fieldLink RX8 129 "SongOfficeModel" "sentTerm" "[I") kX8_sent_6) (fun _ h9 => h9) rfl dX8_sent_52 ?_
          refine lv_aload_n hx hb dX8_sent_55 rfl (lv_at hl 0 rfl) ?_
          refine va_get (D := (dC, dI)) (ci := 8) (v := .int (S_3 4)) (C := RX8) (T := TX8) (N := 47) hx hb hts nX8_sent_X8 hown hK hP 0 (wM_at0 _ _ _ _ _ _) rfl 41 (by decide) (hts (.fieldLink RX8 224 "SongOfficeModel" "sents" "I") kX8_sent_2) (fun _ h9 => h9) rfl dX8_sent_56 ?_
          refine lv_aload_n hx hb dX8_sent_59 rfl (lv_at hl 0 rfl) ?_
          refine va_get (D := (dC, dI)) (ci := 8) (v := .int (S_3 0)) (C := RX8) (T := TX8) (N := 47) hx hb hts nX8_sent_X8 hown hK hP 0 (wM_at0 _ _ _ _ _ _) rfl 0 (by decide) (hts (.fieldLink RX8 136 "SongOfficeModel" "term" "I") kX8_sent_7) (fun _ h9 => h9) rfl dX8_sent_60 ?_
          obtain ⟨hi, h⟩ := h
          obtain ⟨I_13, eI_13⟩ : ∃ z : TI, z = va_up I_12 40 (upd (I_12 40) ((S_3 4)).toNatClampNeg (S_3 0)) := ⟨_, rfl⟩
          have h := h I_13 eI_13
          refine va_iast hx hb hK hP hD hS 40 39 (wM_at40 _ _ _ _ _ _) rfl hi dX8_sent_63 (fun H locs hP hD hS => ?_)
          have hP : va_P (dC, dI) vwCl (wM a cy I_13 J_2 S_3 L_4) H := by rw [eI_13]; exact setP hP (wM_set40 _ _ _ _ _ _ _)
          have hD : va_D A (wM a cy I_13 J_2 S_3 L_4) := by rw [eI_13]; exact setD hD (wM_set40 _ _ _ _ _ _ _)
          refine lv_aload_n hx hb dX8_sent_64 rfl (lv_at hl 0 rfl) ?_
          refine lv_aload_n hx hb dX8_sent_65 rfl (lv_at hl 0 rfl) ?_
          refine va_get (D := (dC, dI)) (ci := 8) (v := .int (S_3 4)) (C := RX8) (T := TX8) (N := 47) hx hb hts nX8_sent_X8 hown hK hP 0 (wM_at0 _ _ _ _ _ _) rfl 41 (by decide) (hts (.fieldLink RX8 224 "SongOfficeModel" "sents" "I") kX8_sent_2) (fun _ h9 => h9) rfl dX8_sent_66 ?_
          refine lv_iconst (v := 1) hx hb dX8_sent_69 (by decide) ?_
          refine lv_iadd hx hb dX8_sent_70 ?_
          obtain ⟨S_14, eS_14⟩ : ∃ z : TS, z = va_up S_3 4 ((S_3 4) + (1 : Int32)) := ⟨_, rfl⟩
          have h := h S_14 eS_14
          refine va_put (D := (dC, dI)) (ci := 8) (v := .int ((S_3 4) + (1 : Int32))) (ty := .int) (C := RX8) (T := TX8) (N := 47) hx hb hts nX8_sent_X8 tyX8 tyX8_ok nmX8 hown hK hP hD hS 0 (wM_at0 _ _ _ _ _ _) rfl 41 (by decide) (hts (.fieldLink RX8 224 "SongOfficeModel" "sents" "I") kX8_sent_2) (fun _ h9 => h9) rfl (by decide +kernel) rfl rfl (Nat.le_of_ble_eq_true rfl) dX8_sent_71 (fun H locs hP hD hS => ?_)
          have hP : va_P (dC, dI) vwCl (wM a cy I_13 J_2 S_14 L_4) H := by rw [eS_14]; exact setP hP (wM_setS4 _ _ _ _ _ _ _)
          have hD : va_D A (wM a cy I_13 J_2 S_14 L_4) := by rw [eS_14]; exact setD hD (wM_setS4 _ _ _ _ _ _ _)
          refine lv_aload_n hx hb dX8_sent_74 rfl (lv_at hl 0 rfl) ?_
          refine lv_aload_n hx hb dX8_sent_75 rfl (lv_at hl 0 rfl) ?_
          refine va_get (D := (dC, dI)) (ci := 8) (v := .long (L_4 0)) (C := RX8) (T := TX8) (N := 47) hx hb hts nX8_sent_X8 hown hK hP 0 (wM_at0 _ _ _ _ _ _) rfl 45 (by decide) (hts (.fieldLink RX8 229 "SongOfficeModel" "sentAll" "J") kX8_sent_8) (fun _ h9 => h9) rfl dX8_sent_76 ?_
          refine lv_iload_n hx hb dX8_sent_79 rfl (lv_at hl 2 rfl) ?_
          refine lv_i2l (v := ((p1).toInt64)) hx hb dX8_sent_80 rfl ?_
          refine lv_ldc2 (v := 1000000) hx hb hown (hts (.constantLong RX8 194 (1000000)) kX8_sent_9) dX8_sent_81 ?_
          refine lv_lmul hx hb dX8_sent_84 ?_
          refine lv_ladd hx hb dX8_sent_85 ?_
          obtain ⟨L_15, eL_15⟩ : ∃ z : TL, z = va_up L_4 0 ((L_4 0) + (((p1).toInt64) * (1000000 : Int64))) := ⟨_, rfl⟩
          have h := h L_15 eL_15
          refine va_put (D := (dC, dI)) (ci := 8) (v := .long ((L_4 0) + (((p1).toInt64) * (1000000 : Int64)))) (ty := .long) (C := RX8) (T := TX8) (N := 47) hx hb hts nX8_sent_X8 tyX8 tyX8_ok nmX8 hown hK hP hD hS 0 (wM_at0 _ _ _ _ _ _) rfl 45 (by decide) (hts (.fieldLink RX8 229 "SongOfficeModel" "sentAll" "J") kX8_sent_8) (fun _ h9 => h9) rfl (by decide +kernel) rfl rfl (Nat.le_of_ble_eq_true rfl) dX8_sent_86 (fun H locs hP hD hS => ?_)
          have hP : va_P (dC, dI) vwCl (wM a cy I_13 J_2 S_14 L_15) H := by rw [eL_15]; exact setP hP (wM_setL0 _ _ _ _ _ _ _)
          have hD : va_D A (wM a cy I_13 J_2 S_14 L_15) := by rw [eL_15]; exact setD hD (wM_setL0 _ _ _ _ _ _ _)
          refine lv_aload_n hx hb dX8_sent_89 rfl (lv_at hl 0 rfl) ?_
          refine lv_iconst (v := 0) hx hb dX8_sent_90 (by decide) ?_
          refine lv_iload_n hx hb dX8_sent_91 rfl (lv_at hl 1 rfl) ?_
          refine lv_iload_n hx hb dX8_sent_92 rfl (lv_at hl 2 rfl) ?_
          refine gcalll (va_runV (As := [.int (0 : Int32), .int p0, .int p1]) (rest := []) ⟨hx, hb, hml, hown, hts⟩ (c_X8_takes l dC dI a cy H.size I_13 J_2 S_14 L_15 (0 : Int32) p0 p1 _ h) (cwV 3 hts gX8_sent_X8_takes rfl rfl rfl (by decide +kernel) ⟨(Nat.le_of_ble_eq_true rfl), (Nat.le_of_ble_eq_true rfl)⟩) (g_pV hP hK hD hN (va_recv hK hP (ci := 8) (q0 := 0) rfl (wM_at0 _ _ _ _ _ _)) [.int (0 : Int32), .int p0, .int p1]) rfl rfl hl.1 rfl (lv_room (Nat.le_of_ble_eq_true rfl)) dX8_sent_93 ⟨(Nat.le_of_ble_eq_true rfl), (Nat.le_of_ble_eq_true rfl)⟩) hS hA hD (fun r_20 I_16 J_17 S_18 L_19 H locs hP hD hS h => ?_)
          exact grl hx hb hr hlocks hP hK hD hS h dX8_sent_96
        · have h := h.2 hc
          exact jB_6 I_1 J_2 S_3 L_4 _ _ _ hP hD hS (lv_sub hl [] rfl) h
def wp_X8_sentIn (I : TI) (J : TJ) (S : TS) (L : TL) (p0 : Int32) (Φ : TI → TJ → TS → TL → Prop) : Prop := ∃ V_1 : Nat → TI → TJ → TS → TL → Int32 → Prop, (∃ n_3, V_1 n_3 I J S L (0 : Int32)) ∧ ∀ (n_2 : Nat) (I_4 : TI) (J_5 : TJ) (S_6 : TS) (L_7 : TL) (x_8 : Int32), V_1 n_2 I_4 J_5 S_6 L_7 x_8 → ((((S_6 4) ≤ x_8) → (Φ I_4 J_5 S_6 L_7)) ∧ ((¬ (S_6 4) ≤ x_8) → ((vp_in x_8 60) ∧ (∃ B_9 : TI → TJ → TS → TL → Int32 → Prop, (∀ (I_10 : TI) (J_11 : TJ) (S_12 : TS) (L_13 : TL) (x_14 : Int32), B_9 I_10 J_11 S_12 L_13 x_14 → (∀ x_15 : Int32, x_15 = x_14 + 1 → (∃ n_16, n_16 < n_2 ∧ V_1 n_16 I_10 J_11 S_12 L_13 x_15))) ∧ (((¬ (I_4 40 (x_8).toNatClampNeg) = p0) → (B_9 I_4 J_5 S_6 L_7 x_8)) ∧ (((I_4 40 (x_8).toNatClampNeg) = p0) → ((vp_in x_8 60) ∧ ((vp_in x_8 60) ∧ (wp_X8_takes I_4 J_5 S_6 L_7 (1 : Int32) (I_4 38 (x_8).toNatClampNeg) (I_4 39 (x_8).toNatClampNeg) (fun (r_21 : Int64) (I_17 : TI) (J_18 : TJ) (S_19 : TS) (L_20 : TL) => (B_9 I_17 J_18 S_19 L_20 x_8)))))))))))
theorem nX8_sentIn_X8 : ∀ w ∈ wsX80, w ∈ wsX8_sentIn := fun _ h => List.mem_cons_of_mem _ (List.mem_append_right _ h)
theorem kX8_sentIn_4 : Cond.fieldLink RX8 126 "SongOfficeModel" "sentCoins" "[I" ∈ wsX8_sentIn := List.mem_of_getElem? (i := 4) rfl
theorem kX8_sentIn_3 : Cond.fieldLink RX8 123 "SongOfficeModel" "sentHand" "[I" ∈ wsX8_sentIn := List.mem_of_getElem? (i := 3) rfl
theorem kX8_sentIn_2 : Cond.fieldLink RX8 129 "SongOfficeModel" "sentTerm" "[I" ∈ wsX8_sentIn := List.mem_of_getElem? (i := 2) rfl
theorem kX8_sentIn_1 : Cond.fieldLink RX8 224 "SongOfficeModel" "sents" "I" ∈ wsX8_sentIn := List.mem_of_getElem? (i := 1) rfl
abbrev rmX8_sentIn : Room := { frames := 2, cells := 0, slots := 0, locals := 52 }
set_option maxHeartbeats 4000000 in
set_option maxRecDepth 100000 in
theorem c_X8_sentIn (l : Launch) (dC : Nat → ClassId) (dI : Nat → Nat → Nat) (a : Nat → Nat) (cy : Nat → ClassId) (sz : Nat) (I : TI) (J : TJ) (S : TS) (L : TL) (p0 : Int32) (Φ : TI → TJ → TS → TL → Prop) (h : wp_X8_sentIn I J S L p0 Φ) : Met l yX8_sentIn wsX8_sentIn rmX8_sentIn (va_Pc [.ref (a 0), .int p0] (gpre dC dI (wM a cy I J S L) (tyM cy) sz)) (gQv dC dI (wM a cy) (tyM cy) (va_A (wM a cy I J S L) sz) Φ) 0 0 (va_A (wM a cy I J S L) sz) := by
  refine Met.ofW (cc := cX8_sentIn) (maxL := 3) (ret := none) (by decide) rfl ?_
  intro p e s m args below meth c s₁ B hml hv
  obtain ⟨hargs, hsz, hP, hK, hD0, hN⟩ := hv
  have hx := B.exec
  have hb := B.bytes
  have hr := B.returns
  have hts := atoms_spec (ws := wsX8_sentIn) B.pre
  have hown : s.vm.findClass RX8 = some m.cls := findClass_of_methodNamed B.named
  have hlocks := B.notSynchronized
  subst hsz
  have hD := hD0.self (sz := s.heap.size)
  generalize hAe : va_A (wM a cy I J S L) s.heap.size = A at hD ⊢
  have hA : ∀ q : Nat, s.heap.size ≤ q → A q := fun q h => by rw [← hAe]; exact Or.inr h
  obtain ⟨H, hH⟩ : ∃ z : Heap, z = s.heap := ⟨_, rfl⟩
  rw [← hH] at hP
  have hS : va_S A s.heap H [] := by rw [hH]; exact va_S.rf
  have hl := lv_entry ([.ref (a 0), .int p0]) (n := 3) (Nat.le_of_ble_eq_true rfl)
  have hE : entryFrame m args 3 = F0 m 0 ((lg_sl ([.ref (a 0), .int p0]) ++ List.replicate (3 - (lg_sl ([.ref (a 0), .int p0])).length) Slot.unset).toArray) [] := by rw [hargs]; exact lg_entry_eq m _ _
  rw [hE, ← hH]
  clear hE
  generalize (lg_sl ([.ref (a 0), .int p0]) ++ List.replicate (3 - (lg_sl ([.ref (a 0), .int p0])).length) Slot.unset).toArray = ls at hl ⊢
  have hl : lv_has ls 3 [(0, .ref (a 0)), (1, .int p0)] := hl
  unfold wp_X8_sentIn at h
  refine lv_iconst (v := 0) hx hb dX8_sentIn_0 (by decide) ?_
  refine lv_istore_n (lv' := [(2, .int (0 : Int32)), (0, .ref (a 0)), (1, .int p0)]) hx hb dX8_sentIn_1 rfl hl (by decide) rfl (fun ls hl => ?_)
  obtain ⟨V_1, ⟨n_3, h0V_1⟩, hV_1⟩ := h
  have lV_1 : ∀ (n_2 : Nat) (I_4 : TI) (J_5 : TJ) (S_6 : TS) (L_7 : TL) (x_8 : Int32) (H : Heap) (locs : List Loc) (ls : Array Slot), va_P (dC, dI) vwCl (wM a cy I_4 J_5 S_6 L_7) H → va_D A (wM a cy I_4 J_5 S_6 L_7) → va_S A s.heap H locs → lv_has ls 3 [(0, .ref (a 0)), (1, .int p0), (2, .int x_8)] → V_1 n_2 I_4 J_5 S_6 L_7 x_8 → W p l e (headSpec wsX8_sentIn rmX8_sentIn).room s m args below meth c H locs 0 0 (MQ below (gQv dC dI (wM a cy) (tyM cy) A Φ) args s 0 0 A) (F0 m 2 ls []) := by
    intro n_2
    induction n_2 using Nat.strongRecOn with
    | ind n_2 ihV_1 =>
        intro I_4 J_5 S_6 L_7 x_8 H locs ls hP hD hS hl h
        have h := hV_1 n_2 I_4 J_5 S_6 L_7 x_8 h
        refine lv_iload_n hx hb dX8_sentIn_2 rfl (lv_at hl 2 rfl) ?_
        refine lv_aload_n hx hb dX8_sentIn_3 rfl (lv_at hl 0 rfl) ?_
        refine va_get (D := (dC, dI)) (ci := 8) (v := .int (S_6 4)) (C := RX8) (T := TX8) (N := 47) hx hb hts nX8_sentIn_X8 hown hK hP 0 (wM_at0 _ _ _ _ _ _) rfl 41 (by decide) (hts (.fieldLink RX8 224 "SongOfficeModel" "sents" "I") kX8_sentIn_1) (fun _ h9 => h9) rfl dX8_sentIn_4 ?_
        refine lv_icmp_ge (tgt := 44) hx hb dX8_sentIn_7 (by decide) (fun hc => ?_) (fun hc => ?_)
        · have h := h.1 hc
          exact grv hx hb hr hlocks hP hK hD hS h dX8_sentIn_44
        · have h := h.2 hc
          refine lv_aload_n hx hb dX8_sentIn_10 rfl (lv_at hl 0 rfl) ?_
          refine va_get (D := (dC, dI)) (ci := 8) (v := .ref (a 40)) (C := RX8) (T := TX8) (N := 47) hx hb hts nX8_sentIn_X8 hown hK hP 0 (wM_at0 _ _ _ _ _ _) rfl 44 (by decide) (hts (.fieldLink RX8 129 "SongOfficeModel" "sentTerm" "[I") kX8_sentIn_2) (fun _ h9 => h9) rfl dX8_sentIn_11 ?_
          refine lv_iload_n hx hb dX8_sentIn_14 rfl (lv_at hl 2 rfl) ?_
          obtain ⟨hi, h⟩ := h
          refine va_iald hx hb hK hP 40 39 (wM_at40 _ _ _ _ _ _) rfl hi dX8_sentIn_15 ?_
          refine lv_iload_n hx hb dX8_sentIn_16 rfl (lv_at hl 1 rfl) ?_
          obtain ⟨B_9, hB_9, h⟩ := h
          have jB_9 : ∀ (I_10 : TI) (J_11 : TJ) (S_12 : TS) (L_13 : TL) (x_14 : Int32) (H : Heap) (locs : List Loc) (ls : Array Slot), va_P (dC, dI) vwCl (wM a cy I_10 J_11 S_12 L_13) H → va_D A (wM a cy I_10 J_11 S_12 L_13) → va_S A s.heap H locs → lv_has ls 3 [(0, .ref (a 0)), (1, .int p0), (2, .int x_14)] → B_9 I_10 J_11 S_12 L_13 x_14 → W p l e (headSpec wsX8_sentIn rmX8_sentIn).room s m args below meth c H locs 0 0 (MQ below (gQv dC dI (wM a cy) (tyM cy) A Φ) args s 0 0 A) (F0 m 38 ls []) := by
            intro I_10 J_11 S_12 L_13 x_14 H locs ls hP hD hS hl h
            have h := hB_9 I_10 J_11 S_12 L_13 x_14 h
            obtain ⟨x_15, ex_15⟩ : ∃ z : Int32, z = x_14 + 1 := ⟨_, rfl⟩
            have h := h x_15 ex_15
            refine lv_iinc (v := x_15) (lv' := [(2, .int x_15), (0, .ref (a 0)), (1, .int p0)]) hx hb dX8_sentIn_38 hl (k := 2) rfl (by rw [ex_15]; rfl) (by decide) rfl (fun ls hl => ?_)
            refine lv_goto (tgt := 2) hx hb dX8_sentIn_41 (by decide) ?_
            obtain ⟨n_16, hn2, h⟩ := h
            exact ihV_1 n_16 hn2 I_10 J_11 S_12 L_13 x_15 _ _ _ hP hD hS (lv_sub hl [1, 2, 0] rfl) h
          refine lv_icmp_ne (tgt := 38) hx hb dX8_sentIn_17 (by decide) (fun hc => ?_) (fun hc => ?_)
          · have h := h.1 hc
            exact jB_9 I_4 J_5 S_6 L_7 x_8 _ _ _ hP hD hS (lv_sub hl [0, 1, 2] rfl) h
          · have h := h.2 hc
            refine lv_aload_n hx hb dX8_sentIn_20 rfl (lv_at hl 0 rfl) ?_
            refine lv_iconst (v := 1) hx hb dX8_sentIn_21 (by decide) ?_
            refine lv_aload_n hx hb dX8_sentIn_22 rfl (lv_at hl 0 rfl) ?_
            refine va_get (D := (dC, dI)) (ci := 8) (v := .ref (a 38)) (C := RX8) (T := TX8) (N := 47) hx hb hts nX8_sentIn_X8 hown hK hP 0 (wM_at0 _ _ _ _ _ _) rfl 42 (by decide) (hts (.fieldLink RX8 123 "SongOfficeModel" "sentHand" "[I") kX8_sentIn_3) (fun _ h9 => h9) rfl dX8_sentIn_23 ?_
            refine lv_iload_n hx hb dX8_sentIn_26 rfl (lv_at hl 2 rfl) ?_
            obtain ⟨hi, h⟩ := h
            refine va_iald hx hb hK hP 38 37 (wM_at38 _ _ _ _ _ _) rfl hi dX8_sentIn_27 ?_
            refine lv_aload_n hx hb dX8_sentIn_28 rfl (lv_at hl 0 rfl) ?_
            refine va_get (D := (dC, dI)) (ci := 8) (v := .ref (a 39)) (C := RX8) (T := TX8) (N := 47) hx hb hts nX8_sentIn_X8 hown hK hP 0 (wM_at0 _ _ _ _ _ _) rfl 43 (by decide) (hts (.fieldLink RX8 126 "SongOfficeModel" "sentCoins" "[I") kX8_sentIn_4) (fun _ h9 => h9) rfl dX8_sentIn_29 ?_
            refine lv_iload_n hx hb dX8_sentIn_32 rfl (lv_at hl 2 rfl) ?_
            obtain ⟨hi, h⟩ := h
            refine va_iald hx hb hK hP 39 38 (wM_at39 _ _ _ _ _ _) rfl hi dX8_sentIn_33 ?_
            refine gcalll (va_runV (As := [.int (1 : Int32), .int (I_4 38 (x_8).toNatClampNeg), .int (I_4 39 (x_8).toNatClampNeg)]) (rest := []) ⟨hx, hb, hml, hown, hts⟩ (c_X8_takes l dC dI a cy H.size I_4 J_5 S_6 L_7 (1 : Int32) (I_4 38 (x_8).toNatClampNeg) (I_4 39 (x_8).toNatClampNeg) _ h) (cwV 3 hts gX8_sentIn_X8_takes rfl rfl rfl (by decide +kernel) ⟨(Nat.le_of_ble_eq_true rfl), (Nat.le_of_ble_eq_true rfl)⟩) (g_pV hP hK hD hN (va_recv hK hP (ci := 8) (q0 := 0) rfl (wM_at0 _ _ _ _ _ _)) [.int (1 : Int32), .int (I_4 38 (x_8).toNatClampNeg), .int (I_4 39 (x_8).toNatClampNeg)]) rfl rfl hl.1 rfl (lv_room (Nat.le_of_ble_eq_true rfl)) dX8_sentIn_34 ⟨(Nat.le_of_ble_eq_true rfl), (Nat.le_of_ble_eq_true rfl)⟩) hS hA hD (fun r_21 I_17 J_18 S_19 L_20 H locs hP hD hS h => ?_)
            refine lv_pop2_2 hx hb dX8_sentIn_37 rfl ?_
            exact jB_9 I_17 J_18 S_19 L_20 x_8 _ _ _ hP hD hS (lv_sub hl [0, 1, 2] rfl) h
  exact lV_1 n_3 I J S L (0 : Int32) _ _ _ hP hD hS (lv_sub hl [1, 2, 0] rfl) h0V_1
def wp_X8_anew (I : TI) (J : TJ) (S : TS) (L : TL) (Φ : TI → TJ → TS → TL → Prop) : Prop := wp_X8_empties I J S L (fun (I_1 : TI) (J_2 : TJ) (S_3 : TS) (L_4 : TL) => (∃ V_5 : Nat → TI → TJ → TS → TL → Int32 → Prop, (∃ n_7, V_5 n_7 I_1 J_2 S_3 L_4 (0 : Int32)) ∧ ∀ (n_6 : Nat) (I_8 : TI) (J_9 : TJ) (S_10 : TS) (L_11 : TL) (x_12 : Int32), V_5 n_6 I_8 J_9 S_10 L_11 x_12 → ((((S_10 0) ≤ x_12) → (wp_X8_sentIn I_8 J_9 S_10 L_11 (S_10 0) (fun (I_13 : TI) (J_14 : TJ) (S_15 : TS) (L_16 : TL) => (Φ I_13 J_14 S_15 L_16)))) ∧ ((¬ (S_10 0) ≤ x_12) → (wp_X8_sentIn I_8 J_9 S_10 L_11 x_12 (fun (I_17 : TI) (J_18 : TJ) (S_19 : TS) (L_20 : TL) => (wp_X8_closes I_17 J_18 S_19 L_20 (1 : Int32) x_12 (fun (I_21 : TI) (J_22 : TJ) (S_23 : TS) (L_24 : TL) => (∀ x_25 : Int32, x_25 = x_12 + 1 → (∃ n_26, n_26 < n_6 ∧ V_5 n_26 I_21 J_22 S_23 L_24 x_25))))))))))
theorem nX8_anew_X8 : ∀ w ∈ wsX80, w ∈ wsX8_anew := fun _ h => List.mem_cons_of_mem _ (List.mem_append_right _ h)
theorem kX8_anew_1 : Cond.fieldLink RX8 136 "SongOfficeModel" "term" "I" ∈ wsX8_anew := List.mem_of_getElem? (i := 1) rfl
abbrev rmX8_anew : Room := { frames := 5, cells := 0, slots := 0, locals := 141 }
set_option maxHeartbeats 4000000 in
set_option maxRecDepth 100000 in
theorem c_X8_anew (l : Launch) (dC : Nat → ClassId) (dI : Nat → Nat → Nat) (a : Nat → Nat) (cy : Nat → ClassId) (sz : Nat) (I : TI) (J : TJ) (S : TS) (L : TL) (Φ : TI → TJ → TS → TL → Prop) (h : wp_X8_anew I J S L Φ) : Met l yX8_anew wsX8_anew rmX8_anew (va_Pc [.ref (a 0)] (gpre dC dI (wM a cy I J S L) (tyM cy) sz)) (gQv dC dI (wM a cy) (tyM cy) (va_A (wM a cy I J S L) sz) Φ) 0 0 (va_A (wM a cy I J S L) sz) := by
  refine Met.ofW (cc := cX8_anew) (maxL := 2) (ret := none) (by decide) rfl ?_
  intro p e s m args below meth c s₁ B hml hv
  obtain ⟨hargs, hsz, hP, hK, hD0, hN⟩ := hv
  have hx := B.exec
  have hb := B.bytes
  have hr := B.returns
  have hts := atoms_spec (ws := wsX8_anew) B.pre
  have hown : s.vm.findClass RX8 = some m.cls := findClass_of_methodNamed B.named
  have hlocks := B.notSynchronized
  subst hsz
  have hD := hD0.self (sz := s.heap.size)
  generalize hAe : va_A (wM a cy I J S L) s.heap.size = A at hD ⊢
  have hA : ∀ q : Nat, s.heap.size ≤ q → A q := fun q h => by rw [← hAe]; exact Or.inr h
  obtain ⟨H, hH⟩ : ∃ z : Heap, z = s.heap := ⟨_, rfl⟩
  rw [← hH] at hP
  have hS : va_S A s.heap H [] := by rw [hH]; exact va_S.rf
  have hl := lv_entry ([.ref (a 0)]) (n := 2) (Nat.le_of_ble_eq_true rfl)
  have hE : entryFrame m args 2 = F0 m 0 ((lg_sl ([.ref (a 0)]) ++ List.replicate (2 - (lg_sl ([.ref (a 0)])).length) Slot.unset).toArray) [] := by rw [hargs]; exact lg_entry_eq m _ _
  rw [hE, ← hH]
  clear hE
  generalize (lg_sl ([.ref (a 0)]) ++ List.replicate (2 - (lg_sl ([.ref (a 0)])).length) Slot.unset).toArray = ls at hl ⊢
  have hl : lv_has ls 2 [(0, .ref (a 0))] := hl
  unfold wp_X8_anew at h
  refine lv_aload_n hx hb dX8_anew_0 rfl (lv_at hl 0 rfl) ?_
  refine gcallv (va_runV (As := []) (rest := []) ⟨hx, hb, hml, hown, hts⟩ (c_X8_empties l dC dI a cy H.size I J S L _ h) (cwV 0 hts gX8_anew_X8_empties rfl rfl rfl (by decide +kernel) ⟨(Nat.le_of_ble_eq_true rfl), (Nat.le_of_ble_eq_true rfl)⟩) (g_pV hP hK hD hN (va_recv hK hP (ci := 8) (q0 := 0) rfl (wM_at0 _ _ _ _ _ _)) []) rfl rfl hl.1 rfl (lv_room (Nat.le_of_ble_eq_true rfl)) dX8_anew_1 ⟨(Nat.le_of_ble_eq_true rfl), (Nat.le_of_ble_eq_true rfl)⟩) hS hA hD (fun I_1 J_2 S_3 L_4 H locs hP hD hS h => ?_)
  refine lv_iconst (v := 0) hx hb dX8_anew_4 (by decide) ?_
  refine lv_istore_n (lv' := [(1, .int (0 : Int32)), (0, .ref (a 0))]) hx hb dX8_anew_5 rfl hl (by decide) rfl (fun ls hl => ?_)
  obtain ⟨V_5, ⟨n_7, h0V_5⟩, hV_5⟩ := h
  have lV_5 : ∀ (n_6 : Nat) (I_8 : TI) (J_9 : TJ) (S_10 : TS) (L_11 : TL) (x_12 : Int32) (H : Heap) (locs : List Loc) (ls : Array Slot), va_P (dC, dI) vwCl (wM a cy I_8 J_9 S_10 L_11) H → va_D A (wM a cy I_8 J_9 S_10 L_11) → va_S A s.heap H locs → lv_has ls 2 [(0, .ref (a 0)), (1, .int x_12)] → V_5 n_6 I_8 J_9 S_10 L_11 x_12 → W p l e (headSpec wsX8_anew rmX8_anew).room s m args below meth c H locs 0 0 (MQ below (gQv dC dI (wM a cy) (tyM cy) A Φ) args s 0 0 A) (F0 m 6 ls []) := by
    intro n_6
    induction n_6 using Nat.strongRecOn with
    | ind n_6 ihV_5 =>
        intro I_8 J_9 S_10 L_11 x_12 H locs ls hP hD hS hl h
        have h := hV_5 n_6 I_8 J_9 S_10 L_11 x_12 h
        refine lv_iload_n hx hb dX8_anew_6 rfl (lv_at hl 1 rfl) ?_
        refine lv_aload_n hx hb dX8_anew_7 rfl (lv_at hl 0 rfl) ?_
        refine va_get (D := (dC, dI)) (ci := 8) (v := .int (S_10 0)) (C := RX8) (T := TX8) (N := 47) hx hb hts nX8_anew_X8 hown hK hP 0 (wM_at0 _ _ _ _ _ _) rfl 0 (by decide) (hts (.fieldLink RX8 136 "SongOfficeModel" "term" "I") kX8_anew_1) (fun _ h9 => h9) rfl dX8_anew_8 ?_
        refine lv_icmp_ge (tgt := 31) hx hb dX8_anew_11 (by decide) (fun hc => ?_) (fun hc => ?_)
        · have h := h.1 hc
          refine lv_aload_n hx hb dX8_anew_31 rfl (lv_at hl 0 rfl) ?_
          refine lv_aload_n hx hb dX8_anew_32 rfl (lv_at hl 0 rfl) ?_
          refine va_get (D := (dC, dI)) (ci := 8) (v := .int (S_10 0)) (C := RX8) (T := TX8) (N := 47) hx hb hts nX8_anew_X8 hown hK hP 0 (wM_at0 _ _ _ _ _ _) rfl 0 (by decide) (hts (.fieldLink RX8 136 "SongOfficeModel" "term" "I") kX8_anew_1) (fun _ h9 => h9) rfl dX8_anew_33 ?_
          refine gcallv (va_runV (As := [.int (S_10 0)]) (rest := []) ⟨hx, hb, hml, hown, hts⟩ (c_X8_sentIn l dC dI a cy H.size I_8 J_9 S_10 L_11 (S_10 0) _ h) (cwV 1 hts gX8_anew_X8_sentIn rfl rfl rfl (by decide +kernel) ⟨(Nat.le_of_ble_eq_true rfl), (Nat.le_of_ble_eq_true rfl)⟩) (g_pV hP hK hD hN (va_recv hK hP (ci := 8) (q0 := 0) rfl (wM_at0 _ _ _ _ _ _)) [.int (S_10 0)]) rfl rfl hl.1 rfl (lv_room (Nat.le_of_ble_eq_true rfl)) dX8_anew_36 ⟨(Nat.le_of_ble_eq_true rfl), (Nat.le_of_ble_eq_true rfl)⟩) hS hA hD (fun I_13 J_14 S_15 L_16 H locs hP hD hS h => ?_)
          exact grv hx hb hr hlocks hP hK hD hS h dX8_anew_39
        · have h := h.2 hc
          refine lv_aload_n hx hb dX8_anew_14 rfl (lv_at hl 0 rfl) ?_
          refine lv_iload_n hx hb dX8_anew_15 rfl (lv_at hl 1 rfl) ?_
          refine gcallv (va_runV (As := [.int x_12]) (rest := []) ⟨hx, hb, hml, hown, hts⟩ (c_X8_sentIn l dC dI a cy H.size I_8 J_9 S_10 L_11 x_12 _ h) (cwV 1 hts gX8_anew_X8_sentIn rfl rfl rfl (by decide +kernel) ⟨(Nat.le_of_ble_eq_true rfl), (Nat.le_of_ble_eq_true rfl)⟩) (g_pV hP hK hD hN (va_recv hK hP (ci := 8) (q0 := 0) rfl (wM_at0 _ _ _ _ _ _)) [.int x_12]) rfl rfl hl.1 rfl (lv_room (Nat.le_of_ble_eq_true rfl)) dX8_anew_16 ⟨(Nat.le_of_ble_eq_true rfl), (Nat.le_of_ble_eq_true rfl)⟩) hS hA hD (fun I_17 J_18 S_19 L_20 H locs hP hD hS h => ?_)
          refine lv_aload_n hx hb dX8_anew_19 rfl (lv_at hl 0 rfl) ?_
          refine lv_iconst (v := 1) hx hb dX8_anew_20 (by decide) ?_
          refine lv_iload_n hx hb dX8_anew_21 rfl (lv_at hl 1 rfl) ?_
          refine gcallv (va_runV (As := [.int (1 : Int32), .int x_12]) (rest := []) ⟨hx, hb, hml, hown, hts⟩ (c_X8_closes l dC dI a cy H.size I_17 J_18 S_19 L_20 (1 : Int32) x_12 _ h) (cwV 2 hts gX8_anew_X8_closes rfl rfl rfl (by decide +kernel) ⟨(Nat.le_of_ble_eq_true rfl), (Nat.le_of_ble_eq_true rfl)⟩) (g_pV hP hK hD hN (va_recv hK hP (ci := 8) (q0 := 0) rfl (wM_at0 _ _ _ _ _ _)) [.int (1 : Int32), .int x_12]) rfl rfl hl.1 rfl (lv_room (Nat.le_of_ble_eq_true rfl)) dX8_anew_22 ⟨(Nat.le_of_ble_eq_true rfl), (Nat.le_of_ble_eq_true rfl)⟩) hS hA hD (fun I_21 J_22 S_23 L_24 H locs hP hD hS h => ?_)
          obtain ⟨x_25, ex_25⟩ : ∃ z : Int32, z = x_12 + 1 := ⟨_, rfl⟩
          have h := h x_25 ex_25
          refine lv_iinc (v := x_25) (lv' := [(1, .int x_25), (0, .ref (a 0))]) hx hb dX8_anew_25 hl (k := 1) rfl (by rw [ex_25]; rfl) (by decide) rfl (fun ls hl => ?_)
          refine lv_goto (tgt := 6) hx hb dX8_anew_28 (by decide) ?_
          obtain ⟨n_26, hn2, h⟩ := h
          exact ihV_5 n_26 hn2 I_21 J_22 S_23 L_24 x_25 _ _ _ hP hD hS (lv_sub hl [1, 0] rfl) h
  exact lV_5 n_7 I_1 J_2 S_3 L_4 (0 : Int32) _ _ _ hP hD hS (lv_sub hl [1, 0] rfl) h0V_5
