def wp_X8_duesOf (I : TI) (J : TJ) (S : TS) (L : TL) (p0 : Int32) (p1 : Int32) (Φ : Int64 → TI → TJ → TS → TL → Prop) : Prop := ∃ V_1 : Nat → TI → TJ → TS → TL → Int64 → Int32 → Prop, (∃ n_3, V_1 n_3 I J S L (0 : Int64) (0 : Int32)) ∧ ∀ (n_2 : Nat) (I_4 : TI) (J_5 : TJ) (S_6 : TS) (L_7 : TL) (y_8 : Int64) (x_9 : Int32), V_1 n_2 I_4 J_5 S_6 L_7 y_8 x_9 → ((((40 : Int32) ≤ x_9) → (Φ y_8 I_4 J_5 S_6 L_7)) ∧ ((¬ (40 : Int32) ≤ x_9) → (wp_X8_dueAt I_4 J_5 S_6 L_7 p0 p1 x_9 (fun (r_14 : Int32) (I_10 : TI) (J_11 : TJ) (S_12 : TS) (L_13 : TL) => ((vp_in r_14 960) ∧ (∀ y_15 : Int64, y_15 = (y_8 + (((I_10 26 (r_14).toNatClampNeg)).toInt64)) → (∀ x_16 : Int32, x_16 = x_9 + 1 → (∃ n_17, n_17 < n_2 ∧ V_1 n_17 I_10 J_11 S_12 L_13 y_15 x_16))))))))
theorem nX8_duesOf_X8 : ∀ w ∈ wsX80, w ∈ wsX8_duesOf := fun _ h => List.mem_cons_of_mem _ (List.mem_append_right _ h)
theorem kX8_duesOf_1 : Cond.fieldLink RX8 87 "SongOfficeModel" "dues" "[I" ∈ wsX8_duesOf := List.mem_of_getElem? (i := 1) rfl
abbrev rmX8_duesOf : Room := { frames := 1, cells := 0, slots := 0, locals := 22 }
set_option maxHeartbeats 4000000 in
set_option maxRecDepth 100000 in
theorem c_X8_duesOf (l : Launch) (dC : Nat → ClassId) (dI : Nat → Nat → Nat) (a : Nat → Nat) (cy : Nat → ClassId) (sz : Nat) (I : TI) (J : TJ) (S : TS) (L : TL) (p0 : Int32) (p1 : Int32) (Φ : Int64 → TI → TJ → TS → TL → Prop) (h : wp_X8_duesOf I J S L p0 p1 Φ) : Met l yX8_duesOf wsX8_duesOf rmX8_duesOf (va_Pc [.ref (a 0), .int p0, .int p1] (gpre dC dI (wM a cy I J S L) (tyM cy) sz)) (gQl dC dI (wM a cy) (tyM cy) (va_A (wM a cy I J S L) sz) Φ) 0 0 (va_A (wM a cy I J S L) sz) := by
  refine Met.ofW (cc := cX8_duesOf) (maxL := 6) (ret := (some .long)) (by decide) rfl ?_
  intro p e s m args below meth c s₁ B hml hv
  obtain ⟨hargs, hsz, hP, hK, hD0, hN⟩ := hv
  have hx := B.exec
  have hb := B.bytes
  have hr := B.returns
  have hts := atoms_spec (ws := wsX8_duesOf) B.pre
  have hown : s.vm.findClass RX8 = some m.cls := findClass_of_methodNamed B.named
  have hlocks := B.notSynchronized
  subst hsz
  have hD := hD0.self (sz := s.heap.size)
  generalize hAe : va_A (wM a cy I J S L) s.heap.size = A at hD ⊢
  have hA : ∀ q : Nat, s.heap.size ≤ q → A q := fun q h => by rw [← hAe]; exact Or.inr h
  obtain ⟨H, hH⟩ : ∃ z : Heap, z = s.heap := ⟨_, rfl⟩
  rw [← hH] at hP
  have hS : va_S A s.heap H [] := by rw [hH]; exact va_S.rf
  have hl := lv_entry ([.ref (a 0), .int p0, .int p1]) (n := 6) (Nat.le_of_ble_eq_true rfl)
  have hE : entryFrame m args 6 = F0 m 0 ((lg_sl ([.ref (a 0), .int p0, .int p1]) ++ List.replicate (6 - (lg_sl ([.ref (a 0), .int p0, .int p1])).length) Slot.unset).toArray) [] := by rw [hargs]; exact lg_entry_eq m _ _
  rw [hE, ← hH]
  clear hE
  generalize (lg_sl ([.ref (a 0), .int p0, .int p1]) ++ List.replicate (6 - (lg_sl ([.ref (a 0), .int p0, .int p1])).length) Slot.unset).toArray = ls at hl ⊢
  have hl : lv_has ls 6 [(0, .ref (a 0)), (1, .int p0), (2, .int p1)] := hl
  unfold wp_X8_duesOf at h
  refine lv_lconst (v := 0) hx hb dX8_duesOf_0 (by decide) ?_
  refine lv_lstore_n (lv' := [(3, .long (0 : Int64)), (0, .ref (a 0)), (1, .int p0), (2, .int p1)]) hx hb dX8_duesOf_1 rfl hl (by decide) rfl (fun ls hl => ?_)
  refine lv_iconst (v := 0) hx hb dX8_duesOf_2 (by decide) ?_
  refine lv_istore (lv' := [(5, .int (0 : Int32)), (3, .long (0 : Int64)), (0, .ref (a 0)), (1, .int p0), (2, .int p1)]) hx hb dX8_duesOf_3 hl (by decide) rfl (fun ls hl => ?_)
  obtain ⟨V_1, ⟨n_3, h0V_1⟩, hV_1⟩ := h
  have lV_1 : ∀ (n_2 : Nat) (I_4 : TI) (J_5 : TJ) (S_6 : TS) (L_7 : TL) (y_8 : Int64) (x_9 : Int32) (H : Heap) (locs : List Loc) (ls : Array Slot), va_P (dC, dI) vwCl (wM a cy I_4 J_5 S_6 L_7) H → va_D A (wM a cy I_4 J_5 S_6 L_7) → va_S A s.heap H locs → lv_has ls 6 [(0, .ref (a 0)), (1, .int p0), (2, .int p1), (3, .long y_8), (5, .int x_9)] → V_1 n_2 I_4 J_5 S_6 L_7 y_8 x_9 → W p l e (headSpec wsX8_duesOf rmX8_duesOf).room s m args below meth c H locs 0 0 (MQ below (gQl dC dI (wM a cy) (tyM cy) A Φ) args s 0 0 A) (F0 m 5 ls []) := by
    intro n_2
    induction n_2 using Nat.strongRecOn with
    | ind n_2 ihV_1 =>
        intro I_4 J_5 S_6 L_7 y_8 x_9 H locs ls hP hD hS hl h
        have h := hV_1 n_2 I_4 J_5 S_6 L_7 y_8 x_9 h
        refine lv_iload hx hb dX8_duesOf_5 (lv_at hl 4 rfl) ?_
        refine lv_bipush (v := 40) hx hb dX8_duesOf_7 (by decide) ?_
        refine lv_icmp_ge (tgt := 34) hx hb dX8_duesOf_9 (by decide) (fun hc => ?_) (fun hc => ?_)
        · have h := h.1 hc
          refine lv_lload_n hx hb dX8_duesOf_34 rfl (lv_at hl 3 rfl) ?_
          exact grl hx hb hr hlocks hP hK hD hS h dX8_duesOf_35
        · have h := h.2 hc
          refine lv_lload_n hx hb dX8_duesOf_12 rfl (lv_at hl 3 rfl) ?_
          refine lv_aload_n hx hb dX8_duesOf_13 rfl (lv_at hl 0 rfl) ?_
          refine va_get (D := (dC, dI)) (ci := 8) (v := .ref (a 26)) (C := RX8) (T := TX8) (N := 47) hx hb hts nX8_duesOf_X8 hown hK hP 0 (wM_at0 _ _ _ _ _ _) rfl 27 (by decide) (hts (.fieldLink RX8 87 "SongOfficeModel" "dues" "[I") kX8_duesOf_1) (fun _ h9 => h9) rfl dX8_duesOf_14 ?_
          refine lv_iload_n hx hb dX8_duesOf_17 rfl (lv_at hl 1 rfl) ?_
          refine lv_iload_n hx hb dX8_duesOf_18 rfl (lv_at hl 2 rfl) ?_
          refine lv_iload hx hb dX8_duesOf_19 (lv_at hl 4 rfl) ?_
          refine gcalli (va_runS (As := [.int p0, .int p1, .int x_9]) (rest := [.ref (a 26), .long y_8]) ⟨hx, hb, hml, hown, hts⟩ (c_X8_dueAt l dC dI (wM a cy) (tyM cy) H.size I_4 J_5 S_6 L_7 p0 p1 x_9 _ h) (va_cwS 3 hts gX8_duesOf_X8_dueAt rfl rfl rfl (by decide +kernel) ⟨(Nat.le_of_ble_eq_true rfl), (Nat.le_of_ble_eq_true rfl)⟩) (g_pS hP hK hD hN [.int p0, .int p1, .int x_9]) rfl rfl hl.1 rfl (lv_room (Nat.le_of_ble_eq_true rfl)) dX8_duesOf_21 ⟨(Nat.le_of_ble_eq_true rfl), (Nat.le_of_ble_eq_true rfl)⟩) hS hA hD (fun r_14 I_10 J_11 S_12 L_13 H locs hP hD hS h => ?_)
          obtain ⟨hi, h⟩ := h
          refine va_iald hx hb hK hP 26 25 (wM_at26 _ _ _ _ _ _) rfl hi dX8_duesOf_24 ?_
          refine lv_i2l (v := (((I_10 26 (r_14).toNatClampNeg)).toInt64)) hx hb dX8_duesOf_25 rfl ?_
          refine lv_ladd hx hb dX8_duesOf_26 ?_
          refine lv_topl (fun y_15 ey_15 => ?_)
          have h := h y_15 ey_15
          refine lv_lstore_n (lv' := [(3, .long y_15), (0, .ref (a 0)), (1, .int p0), (2, .int p1), (5, .int x_9)]) hx hb dX8_duesOf_27 rfl hl (by decide) rfl (fun ls hl => ?_)
          obtain ⟨x_16, ex_16⟩ : ∃ z : Int32, z = x_9 + 1 := ⟨_, rfl⟩
          have h := h x_16 ex_16
          refine lv_iinc (v := x_16) (lv' := [(5, .int x_16), (3, .long y_15), (0, .ref (a 0)), (1, .int p0), (2, .int p1)]) hx hb dX8_duesOf_28 hl (k := 4) rfl (by rw [ex_16]; rfl) (by decide) rfl (fun ls hl => ?_)
          refine lv_goto (tgt := 5) hx hb dX8_duesOf_31 (by decide) ?_
          obtain ⟨n_17, hn2, h⟩ := h
          exact ihV_1 n_17 hn2 I_10 J_11 S_12 L_13 y_15 x_16 _ _ _ hP hD hS (lv_sub hl [2, 3, 4, 1, 0] rfl) h
  exact lV_1 n_3 I J S L (0 : Int64) (0 : Int32) _ _ _ hP hD hS (lv_sub hl [2, 3, 4, 1, 0] rfl) h0V_1
def wp_X8_worth (I : TI) (J : TJ) (S : TS) (L : TL) (p0 : Int32) (p1 : Int32) (Φ : Int64 → TI → TJ → TS → TL → Prop) : Prop := wp_X8_duesOf I J S L p0 p1 (fun (r_5 : Int64) (I_1 : TI) (J_2 : TJ) (S_3 : TS) (L_4 : TL) => ((vp_in (((12 : Int32) * p0) + p1) 24) ∧ ((vp_in (((12 : Int32) * p0) + p1) 24) ∧ (Φ (((r_5 * (1000000 : Int64)) + (J_2 21 ((((12 : Int32) * p0) + p1)).toNatClampNeg)) - (J_2 22 ((((12 : Int32) * p0) + p1)).toNatClampNeg)) I_1 J_2 S_3 L_4))))
theorem nX8_worth_X8 : ∀ w ∈ wsX80, w ∈ wsX8_worth := fun _ h => List.mem_cons_of_mem _ (List.mem_append_right _ h)
theorem kX8_worth_3 : Cond.fieldLink RX8 75 "SongOfficeModel" "debt" "[J" ∈ wsX8_worth := List.mem_of_getElem? (i := 3) rfl
theorem kX8_worth_2 : Cond.fieldLink RX8 71 "SongOfficeModel" "purse" "[J" ∈ wsX8_worth := List.mem_of_getElem? (i := 2) rfl
theorem kX8_worth_1 : Cond.constantLong RX8 194 (1000000) ∈ wsX8_worth := List.mem_of_getElem? (i := 1) rfl
abbrev rmX8_worth : Room := { frames := 2, cells := 0, slots := 0, locals := 47 }
set_option maxHeartbeats 4000000 in
set_option maxRecDepth 100000 in
theorem c_X8_worth (l : Launch) (dC : Nat → ClassId) (dI : Nat → Nat → Nat) (a : Nat → Nat) (cy : Nat → ClassId) (sz : Nat) (I : TI) (J : TJ) (S : TS) (L : TL) (p0 : Int32) (p1 : Int32) (Φ : Int64 → TI → TJ → TS → TL → Prop) (h : wp_X8_worth I J S L p0 p1 Φ) : Met l yX8_worth wsX8_worth rmX8_worth (va_Pc [.ref (a 0), .int p0, .int p1] (gpre dC dI (wM a cy I J S L) (tyM cy) sz)) (gQl dC dI (wM a cy) (tyM cy) (va_A (wM a cy I J S L) sz) Φ) 0 0 (va_A (wM a cy I J S L) sz) := by
  refine Met.ofW (cc := cX8_worth) (maxL := 3) (ret := (some .long)) (by decide) rfl ?_
  intro p e s m args below meth c s₁ B hml hv
  obtain ⟨hargs, hsz, hP, hK, hD0, hN⟩ := hv
  have hx := B.exec
  have hb := B.bytes
  have hr := B.returns
  have hts := atoms_spec (ws := wsX8_worth) B.pre
  have hown : s.vm.findClass RX8 = some m.cls := findClass_of_methodNamed B.named
  have hlocks := B.notSynchronized
  subst hsz
  have hD := hD0.self (sz := s.heap.size)
  generalize hAe : va_A (wM a cy I J S L) s.heap.size = A at hD ⊢
  have hA : ∀ q : Nat, s.heap.size ≤ q → A q := fun q h => by rw [← hAe]; exact Or.inr h
  obtain ⟨H, hH⟩ : ∃ z : Heap, z = s.heap := ⟨_, rfl⟩
  rw [← hH] at hP
  have hS : va_S A s.heap H [] := by rw [hH]; exact va_S.rf
  have hl := lv_entry ([.ref (a 0), .int p0, .int p1]) (n := 3) (Nat.le_of_ble_eq_true rfl)
  have hE : entryFrame m args 3 = F0 m 0 ((lg_sl ([.ref (a 0), .int p0, .int p1]) ++ List.replicate (3 - (lg_sl ([.ref (a 0), .int p0, .int p1])).length) Slot.unset).toArray) [] := by rw [hargs]; exact lg_entry_eq m _ _
  rw [hE, ← hH]
  clear hE
  generalize (lg_sl ([.ref (a 0), .int p0, .int p1]) ++ List.replicate (3 - (lg_sl ([.ref (a 0), .int p0, .int p1])).length) Slot.unset).toArray = ls at hl ⊢
  have hl : lv_has ls 3 [(0, .ref (a 0)), (1, .int p0), (2, .int p1)] := hl
  unfold wp_X8_worth at h
  refine lv_aload_n hx hb dX8_worth_0 rfl (lv_at hl 0 rfl) ?_
  refine lv_iload_n hx hb dX8_worth_1 rfl (lv_at hl 1 rfl) ?_
  refine lv_iload_n hx hb dX8_worth_2 rfl (lv_at hl 2 rfl) ?_
  refine gcalll (va_runV (As := [.int p0, .int p1]) (rest := []) ⟨hx, hb, hml, hown, hts⟩ (c_X8_duesOf l dC dI a cy H.size I J S L p0 p1 _ h) (cwV 2 hts gX8_worth_X8_duesOf rfl rfl rfl (by decide +kernel) ⟨(Nat.le_of_ble_eq_true rfl), (Nat.le_of_ble_eq_true rfl)⟩) (g_pV hP hK hD hN (va_recv hK hP (ci := 8) (q0 := 0) rfl (wM_at0 _ _ _ _ _ _)) [.int p0, .int p1]) rfl rfl hl.1 rfl (lv_room (Nat.le_of_ble_eq_true rfl)) dX8_worth_3 ⟨(Nat.le_of_ble_eq_true rfl), (Nat.le_of_ble_eq_true rfl)⟩) hS hA hD (fun r_5 I_1 J_2 S_3 L_4 H locs hP hD hS h => ?_)
  refine lv_ldc2 (v := 1000000) hx hb hown (hts (.constantLong RX8 194 (1000000)) kX8_worth_1) dX8_worth_6 ?_
  refine lv_lmul hx hb dX8_worth_9 ?_
  refine lv_aload_n hx hb dX8_worth_10 rfl (lv_at hl 0 rfl) ?_
  refine va_get (D := (dC, dI)) (ci := 8) (v := .ref (a 21)) (C := RX8) (T := TX8) (N := 47) hx hb hts nX8_worth_X8 hown hK hP 0 (wM_at0 _ _ _ _ _ _) rfl 22 (by decide) (hts (.fieldLink RX8 71 "SongOfficeModel" "purse" "[J") kX8_worth_2) (fun _ h9 => h9) rfl dX8_worth_11 ?_
  refine lv_bipush (v := 12) hx hb dX8_worth_14 (by decide) ?_
  refine lv_iload_n hx hb dX8_worth_16 rfl (lv_at hl 1 rfl) ?_
  refine lv_imul hx hb dX8_worth_17 ?_
  refine lv_iload_n hx hb dX8_worth_18 rfl (lv_at hl 2 rfl) ?_
  refine lv_iadd hx hb dX8_worth_19 ?_
  obtain ⟨hi, h⟩ := h
  refine va_lald hx hb hK hP 21 20 (wM_at21 _ _ _ _ _ _) rfl hi dX8_worth_20 ?_
  refine lv_ladd hx hb dX8_worth_21 ?_
  refine lv_aload_n hx hb dX8_worth_22 rfl (lv_at hl 0 rfl) ?_
  refine va_get (D := (dC, dI)) (ci := 8) (v := .ref (a 22)) (C := RX8) (T := TX8) (N := 47) hx hb hts nX8_worth_X8 hown hK hP 0 (wM_at0 _ _ _ _ _ _) rfl 23 (by decide) (hts (.fieldLink RX8 75 "SongOfficeModel" "debt" "[J") kX8_worth_3) (fun _ h9 => h9) rfl dX8_worth_23 ?_
  refine lv_bipush (v := 12) hx hb dX8_worth_26 (by decide) ?_
  refine lv_iload_n hx hb dX8_worth_28 rfl (lv_at hl 1 rfl) ?_
  refine lv_imul hx hb dX8_worth_29 ?_
  refine lv_iload_n hx hb dX8_worth_30 rfl (lv_at hl 2 rfl) ?_
  refine lv_iadd hx hb dX8_worth_31 ?_
  obtain ⟨hi, h⟩ := h
  refine va_lald hx hb hK hP 22 21 (wM_at22 _ _ _ _ _ _) rfl hi dX8_worth_32 ?_
  refine lv_lsub hx hb dX8_worth_33 ?_
  exact grl hx hb hr hlocks hP hK hD hS h dX8_worth_34
def wp_X8_owed (I : TI) (J : TJ) (S : TS) (L : TL) (p0 : Int32) (Φ : Int64 → TI → TJ → TS → TL → Prop) : Prop := wp_X8_worth I J S L (1 : Int32) p0 (fun (r_5 : Int64) (I_1 : TI) (J_2 : TJ) (S_3 : TS) (L_4 : TL) => (wp_X8_worth I_1 J_2 S_3 L_4 (0 : Int32) p0 (fun (r_10 : Int64) (I_6 : TI) (J_7 : TJ) (S_8 : TS) (L_9 : TL) => (Φ (r_5 - r_10) I_6 J_7 S_8 L_9))))
abbrev rmX8_owed : Room := { frames := 3, cells := 0, slots := 0, locals := 69 }
set_option maxHeartbeats 4000000 in
set_option maxRecDepth 100000 in
theorem c_X8_owed (l : Launch) (dC : Nat → ClassId) (dI : Nat → Nat → Nat) (a : Nat → Nat) (cy : Nat → ClassId) (sz : Nat) (I : TI) (J : TJ) (S : TS) (L : TL) (p0 : Int32) (Φ : Int64 → TI → TJ → TS → TL → Prop) (h : wp_X8_owed I J S L p0 Φ) : Met l yX8_owed wsX8_owed rmX8_owed (va_Pc [.ref (a 0), .int p0] (gpre dC dI (wM a cy I J S L) (tyM cy) sz)) (gQl dC dI (wM a cy) (tyM cy) (va_A (wM a cy I J S L) sz) Φ) 0 0 (va_A (wM a cy I J S L) sz) := by
  refine Met.ofW (cc := cX8_owed) (maxL := 2) (ret := (some .long)) (by decide) rfl ?_
  intro p e s m args below meth c s₁ B hml hv
  obtain ⟨hargs, hsz, hP, hK, hD0, hN⟩ := hv
  have hx := B.exec
  have hb := B.bytes
  have hr := B.returns
  have hts := atoms_spec (ws := wsX8_owed) B.pre
  have hown : s.vm.findClass RX8 = some m.cls := findClass_of_methodNamed B.named
  have hlocks := B.notSynchronized
  subst hsz
  have hD := hD0.self (sz := s.heap.size)
  generalize hAe : va_A (wM a cy I J S L) s.heap.size = A at hD ⊢
  have hA : ∀ q : Nat, s.heap.size ≤ q → A q := fun q h => by rw [← hAe]; exact Or.inr h
  obtain ⟨H, hH⟩ : ∃ z : Heap, z = s.heap := ⟨_, rfl⟩
  rw [← hH] at hP
  have hS : va_S A s.heap H [] := by rw [hH]; exact va_S.rf
  have hl := lv_entry ([.ref (a 0), .int p0]) (n := 2) (Nat.le_of_ble_eq_true rfl)
  have hE : entryFrame m args 2 = F0 m 0 ((lg_sl ([.ref (a 0), .int p0]) ++ List.replicate (2 - (lg_sl ([.ref (a 0), .int p0])).length) Slot.unset).toArray) [] := by rw [hargs]; exact lg_entry_eq m _ _
  rw [hE, ← hH]
  clear hE
  generalize (lg_sl ([.ref (a 0), .int p0]) ++ List.replicate (2 - (lg_sl ([.ref (a 0), .int p0])).length) Slot.unset).toArray = ls at hl ⊢
  have hl : lv_has ls 2 [(0, .ref (a 0)), (1, .int p0)] := hl
  unfold wp_X8_owed at h
  refine lv_aload_n hx hb dX8_owed_0 rfl (lv_at hl 0 rfl) ?_
  refine lv_iconst (v := 1) hx hb dX8_owed_1 (by decide) ?_
  refine lv_iload_n hx hb dX8_owed_2 rfl (lv_at hl 1 rfl) ?_
  refine gcalll (va_runV (As := [.int (1 : Int32), .int p0]) (rest := []) ⟨hx, hb, hml, hown, hts⟩ (c_X8_worth l dC dI a cy H.size I J S L (1 : Int32) p0 _ h) (cwV 2 hts gX8_owed_X8_worth rfl rfl rfl (by decide +kernel) ⟨(Nat.le_of_ble_eq_true rfl), (Nat.le_of_ble_eq_true rfl)⟩) (g_pV hP hK hD hN (va_recv hK hP (ci := 8) (q0 := 0) rfl (wM_at0 _ _ _ _ _ _)) [.int (1 : Int32), .int p0]) rfl rfl hl.1 rfl (lv_room (Nat.le_of_ble_eq_true rfl)) dX8_owed_3 ⟨(Nat.le_of_ble_eq_true rfl), (Nat.le_of_ble_eq_true rfl)⟩) hS hA hD (fun r_5 I_1 J_2 S_3 L_4 H locs hP hD hS h => ?_)
  refine lv_aload_n hx hb dX8_owed_6 rfl (lv_at hl 0 rfl) ?_
  refine lv_iconst (v := 0) hx hb dX8_owed_7 (by decide) ?_
  refine lv_iload_n hx hb dX8_owed_8 rfl (lv_at hl 1 rfl) ?_
  refine gcalll (va_runV (As := [.int (0 : Int32), .int p0]) (rest := [.long r_5]) ⟨hx, hb, hml, hown, hts⟩ (c_X8_worth l dC dI a cy H.size I_1 J_2 S_3 L_4 (0 : Int32) p0 _ h) (cwV 2 hts gX8_owed_X8_worth rfl rfl rfl (by decide +kernel) ⟨(Nat.le_of_ble_eq_true rfl), (Nat.le_of_ble_eq_true rfl)⟩) (g_pV hP hK hD hN (va_recv hK hP (ci := 8) (q0 := 0) rfl (wM_at0 _ _ _ _ _ _)) [.int (0 : Int32), .int p0]) rfl rfl hl.1 rfl (lv_room (Nat.le_of_ble_eq_true rfl)) dX8_owed_9 ⟨(Nat.le_of_ble_eq_true rfl), (Nat.le_of_ble_eq_true rfl)⟩) hS hA hD (fun r_10 I_6 J_7 S_8 L_9 H locs hP hD hS h => ?_)
  refine lv_lsub hx hb dX8_owed_12 ?_
  exact grl hx hb hr hlocks hP hK hD hS h dX8_owed_13
def wp_X8_owe (I : TI) (J : TJ) (S : TS) (L : TL) (Φ : Int64 → TI → TJ → TS → TL → Prop) : Prop := wp_X8_anew I J S L (fun (I_1 : TI) (J_2 : TJ) (S_3 : TS) (L_4 : TL) => (∃ V_5 : Nat → TI → TJ → TS → TL → Int64 → Int32 → Prop, (∃ n_7, V_5 n_7 I_1 J_2 S_3 L_4 (0 : Int64) (0 : Int32)) ∧ ∀ (n_6 : Nat) (I_8 : TI) (J_9 : TJ) (S_10 : TS) (L_11 : TL) (y_12 : Int64) (x_13 : Int32), V_5 n_6 I_8 J_9 S_10 L_11 y_12 x_13 → ((((12 : Int32) ≤ x_13) → (Φ y_12 I_8 J_9 S_10 L_11)) ∧ ((¬ (12 : Int32) ≤ x_13) → (wp_X8_owed I_8 J_9 S_10 L_11 x_13 (fun (r_18 : Int64) (I_14 : TI) (J_15 : TJ) (S_16 : TS) (L_17 : TL) => (∀ y_19 : Int64, y_19 = (y_12 + r_18) → (∀ x_20 : Int32, x_20 = x_13 + 1 → (∃ n_21, n_21 < n_6 ∧ V_5 n_21 I_14 J_15 S_16 L_17 y_19 x_20)))))))))
abbrev rmX8_owe : Room := { frames := 6, cells := 0, slots := 0, locals := 162 }
set_option maxHeartbeats 4000000 in
set_option maxRecDepth 100000 in
theorem c_X8_owe (l : Launch) (dC : Nat → ClassId) (dI : Nat → Nat → Nat) (a : Nat → Nat) (cy : Nat → ClassId) (sz : Nat) (I : TI) (J : TJ) (S : TS) (L : TL) (Φ : Int64 → TI → TJ → TS → TL → Prop) (h : wp_X8_owe I J S L Φ) : Met l yX8_owe wsX8_owe rmX8_owe (va_Pc [.ref (a 0)] (gpre dC dI (wM a cy I J S L) (tyM cy) sz)) (gQl dC dI (wM a cy) (tyM cy) (va_A (wM a cy I J S L) sz) Φ) 0 0 (va_A (wM a cy I J S L) sz) := by
  refine Met.ofW (cc := cX8_owe) (maxL := 4) (ret := (some .long)) (by decide) rfl ?_
  intro p e s m args below meth c s₁ B hml hv
  obtain ⟨hargs, hsz, hP, hK, hD0, hN⟩ := hv
  have hx := B.exec
  have hb := B.bytes
  have hr := B.returns
  have hts := atoms_spec (ws := wsX8_owe) B.pre
  have hown : s.vm.findClass RX8 = some m.cls := findClass_of_methodNamed B.named
  have hlocks := B.notSynchronized
  subst hsz
  have hD := hD0.self (sz := s.heap.size)
  generalize hAe : va_A (wM a cy I J S L) s.heap.size = A at hD ⊢
  have hA : ∀ q : Nat, s.heap.size ≤ q → A q := fun q h => by rw [← hAe]; exact Or.inr h
  obtain ⟨H, hH⟩ : ∃ z : Heap, z = s.heap := ⟨_, rfl⟩
  rw [← hH] at hP
  have hS : va_S A s.heap H [] := by rw [hH]; exact va_S.rf
  have hl := lv_entry ([.ref (a 0)]) (n := 4) (Nat.le_of_ble_eq_true rfl)
  have hE : entryFrame m args 4 = F0 m 0 ((lg_sl ([.ref (a 0)]) ++ List.replicate (4 - (lg_sl ([.ref (a 0)])).length) Slot.unset).toArray) [] := by rw [hargs]; exact lg_entry_eq m _ _
  rw [hE, ← hH]
  clear hE
  generalize (lg_sl ([.ref (a 0)]) ++ List.replicate (4 - (lg_sl ([.ref (a 0)])).length) Slot.unset).toArray = ls at hl ⊢
  have hl : lv_has ls 4 [(0, .ref (a 0))] := hl
  unfold wp_X8_owe at h
  refine lv_aload_n hx hb dX8_owe_0 rfl (lv_at hl 0 rfl) ?_
  refine gcallv (va_runV (As := []) (rest := []) ⟨hx, hb, hml, hown, hts⟩ (c_X8_anew l dC dI a cy H.size I J S L _ h) (cwV 0 hts gX8_owe_X8_anew rfl rfl rfl (by decide +kernel) ⟨(Nat.le_of_ble_eq_true rfl), (Nat.le_of_ble_eq_true rfl)⟩) (g_pV hP hK hD hN (va_recv hK hP (ci := 8) (q0 := 0) rfl (wM_at0 _ _ _ _ _ _)) []) rfl rfl hl.1 rfl (lv_room (Nat.le_of_ble_eq_true rfl)) dX8_owe_1 ⟨(Nat.le_of_ble_eq_true rfl), (Nat.le_of_ble_eq_true rfl)⟩) hS hA hD (fun I_1 J_2 S_3 L_4 H locs hP hD hS h => ?_)
  refine lv_lconst (v := 0) hx hb dX8_owe_4 (by decide) ?_
  refine lv_lstore_n (lv' := [(1, .long (0 : Int64)), (0, .ref (a 0))]) hx hb dX8_owe_5 rfl hl (by decide) rfl (fun ls hl => ?_)
  refine lv_iconst (v := 0) hx hb dX8_owe_6 (by decide) ?_
  refine lv_istore_n (lv' := [(3, .int (0 : Int32)), (1, .long (0 : Int64)), (0, .ref (a 0))]) hx hb dX8_owe_7 rfl hl (by decide) rfl (fun ls hl => ?_)
  obtain ⟨V_5, ⟨n_7, h0V_5⟩, hV_5⟩ := h
  have lV_5 : ∀ (n_6 : Nat) (I_8 : TI) (J_9 : TJ) (S_10 : TS) (L_11 : TL) (y_12 : Int64) (x_13 : Int32) (H : Heap) (locs : List Loc) (ls : Array Slot), va_P (dC, dI) vwCl (wM a cy I_8 J_9 S_10 L_11) H → va_D A (wM a cy I_8 J_9 S_10 L_11) → va_S A s.heap H locs → lv_has ls 4 [(0, .ref (a 0)), (1, .long y_12), (3, .int x_13)] → V_5 n_6 I_8 J_9 S_10 L_11 y_12 x_13 → W p l e (headSpec wsX8_owe rmX8_owe).room s m args below meth c H locs 0 0 (MQ below (gQl dC dI (wM a cy) (tyM cy) A Φ) args s 0 0 A) (F0 m 8 ls []) := by
    intro n_6
    induction n_6 using Nat.strongRecOn with
    | ind n_6 ihV_5 =>
        intro I_8 J_9 S_10 L_11 y_12 x_13 H locs ls hP hD hS hl h
        have h := hV_5 n_6 I_8 J_9 S_10 L_11 y_12 x_13 h
        refine lv_iload_n hx hb dX8_owe_8 rfl (lv_at hl 2 rfl) ?_
        refine lv_bipush (v := 12) hx hb dX8_owe_9 (by decide) ?_
        refine lv_icmp_ge (tgt := 28) hx hb dX8_owe_11 (by decide) (fun hc => ?_) (fun hc => ?_)
        · have h := h.1 hc
          refine lv_lload_n hx hb dX8_owe_28 rfl (lv_at hl 1 rfl) ?_
          exact grl hx hb hr hlocks hP hK hD hS h dX8_owe_29
        · have h := h.2 hc
          refine lv_lload_n hx hb dX8_owe_14 rfl (lv_at hl 1 rfl) ?_
          refine lv_aload_n hx hb dX8_owe_15 rfl (lv_at hl 0 rfl) ?_
          refine lv_iload_n hx hb dX8_owe_16 rfl (lv_at hl 2 rfl) ?_
          refine gcalll (va_runV (As := [.int x_13]) (rest := [.long y_12]) ⟨hx, hb, hml, hown, hts⟩ (c_X8_owed l dC dI a cy H.size I_8 J_9 S_10 L_11 x_13 _ h) (cwV 1 hts gX8_owe_X8_owed rfl rfl rfl (by decide +kernel) ⟨(Nat.le_of_ble_eq_true rfl), (Nat.le_of_ble_eq_true rfl)⟩) (g_pV hP hK hD hN (va_recv hK hP (ci := 8) (q0 := 0) rfl (wM_at0 _ _ _ _ _ _)) [.int x_13]) rfl rfl hl.1 rfl (lv_room (Nat.le_of_ble_eq_true rfl)) dX8_owe_17 ⟨(Nat.le_of_ble_eq_true rfl), (Nat.le_of_ble_eq_true rfl)⟩) hS hA hD (fun r_18 I_14 J_15 S_16 L_17 H locs hP hD hS h => ?_)
          refine lv_ladd hx hb dX8_owe_20 ?_
          refine lv_topl (fun y_19 ey_19 => ?_)
          have h := h y_19 ey_19
          refine lv_lstore_n (lv' := [(1, .long y_19), (0, .ref (a 0)), (3, .int x_13)]) hx hb dX8_owe_21 rfl hl (by decide) rfl (fun ls hl => ?_)
          obtain ⟨x_20, ex_20⟩ : ∃ z : Int32, z = x_13 + 1 := ⟨_, rfl⟩
          have h := h x_20 ex_20
          refine lv_iinc (v := x_20) (lv' := [(3, .int x_20), (1, .long y_19), (0, .ref (a 0))]) hx hb dX8_owe_22 hl (k := 2) rfl (by rw [ex_20]; rfl) (by decide) rfl (fun ls hl => ?_)
          refine lv_goto (tgt := 8) hx hb dX8_owe_25 (by decide) ?_
          obtain ⟨n_21, hn2, h⟩ := h
          exact ihV_5 n_21 hn2 I_14 J_15 S_16 L_17 y_19 x_20 _ _ _ hP hD hS (lv_sub hl [2, 1, 0] rfl) h
  exact lV_5 n_7 I_1 J_2 S_3 L_4 (0 : Int64) (0 : Int32) _ _ _ hP hD hS (lv_sub hl [2, 1, 0] rfl) h0V_5
def wp_X8_settle (I : TI) (J : TJ) (S : TS) (L : TL) (Φ : Int32 → TI → TJ → TS → TL → Prop) : Prop := wp_X8_anew I J S L (fun (I_1 : TI) (J_2 : TJ) (S_3 : TS) (L_4 : TL) => (∃ V_5 : Nat → TI → TJ → TS → TL → Int32 → Int32 → Prop, (∃ n_7, V_5 n_7 I_1 J_2 S_3 L_4 (0 : Int32) (0 : Int32)) ∧ ∀ (n_6 : Nat) (I_8 : TI) (J_9 : TJ) (S_10 : TS) (L_11 : TL) (x_12 : Int32) (x_13 : Int32), V_5 n_6 I_8 J_9 S_10 L_11 x_12 x_13 → ((((12 : Int32) ≤ x_13) → (∃ V_14 : Nat → TI → TJ → TS → TL → Int32 → Int32 → Prop, (∃ n_16, V_14 n_16 I_8 J_9 S_10 L_11 x_12 (0 : Int32)) ∧ ∀ (n_15 : Nat) (I_17 : TI) (J_18 : TJ) (S_19 : TS) (L_20 : TL) (x_21 : Int32) (x_22 : Int32), V_14 n_15 I_17 J_18 S_19 L_20 x_21 x_22 → ((((24 : Int32) ≤ x_22) → (∃ V_23 : Nat → TI → TJ → TS → TL → Int32 → Int32 → Prop, (∃ n_25, V_23 n_25 I_17 J_18 S_19 L_20 x_21 (0 : Int32)) ∧ ∀ (n_24 : Nat) (I_26 : TI) (J_27 : TJ) (S_28 : TS) (L_29 : TL) (x_30 : Int32) (x_31 : Int32), V_23 n_24 I_26 J_27 S_28 L_29 x_30 x_31 → ((((960 : Int32) ≤ x_31) → ((vp_in (1 : Int32) 2) ∧ ((vp_in (0 : Int32) 2) ∧ ∀ J_32 : TJ, J_32 = va_up J_27 28 (vp_updL (J_27 28) ((0 : Int32)).toNatClampNeg (J_27 28 ((1 : Int32)).toNatClampNeg)) → (∀ S_33 : TS, S_33 = va_up S_28 5 ((S_28 5) + (1 : Int32)) → (Φ x_30 I_26 J_32 S_33 L_29))))) ∧ ((¬ (960 : Int32) ≤ x_31) → ((vp_in ((960 : Int32) + x_31) 1920) ∧ ((vp_in x_31 1920) ∧ ∀ J_34 : TJ, J_34 = va_up J_27 25 (vp_updL (J_27 25) (x_31).toNatClampNeg (J_27 25 (((960 : Int32) + x_31)).toNatClampNeg)) → (∀ x_35 : Int32, x_35 = x_31 + 1 → (∃ n_36, n_36 < n_24 ∧ V_23 n_36 I_26 J_34 S_28 L_29 x_30 x_35)))))))) ∧ ((¬ (24 : Int32) ≤ x_22) → ((vp_in ((24 : Int32) + x_22) 48) ∧ ((vp_in x_22 48) ∧ ∀ J_37 : TJ, J_37 = va_up J_18 23 (vp_updL (J_18 23) (x_22).toNatClampNeg (J_18 23 (((24 : Int32) + x_22)).toNatClampNeg)) → ((vp_in ((24 : Int32) + x_22) 48) ∧ ((vp_in x_22 48) ∧ ∀ J_38 : TJ, J_38 = va_up J_37 24 (vp_updL (J_37 24) (x_22).toNatClampNeg (J_37 24 (((24 : Int32) + x_22)).toNatClampNeg)) → (∀ x_39 : Int32, x_39 = x_22 + 1 → (∃ n_40, n_40 < n_15 ∧ V_14 n_40 I_17 J_38 S_19 L_20 x_21 x_39)))))))))) ∧ ((¬ (12 : Int32) ≤ x_13) → (wp_X8_owed I_8 J_9 S_10 L_11 x_13 (fun (r_45 : Int64) (I_41 : TI) (J_42 : TJ) (S_43 : TS) (L_44 : TL) => (∃ B_46 : TI → TJ → TS → TL → Int32 → Int64 → Int32 → Int32 → Prop, (∀ (I_47 : TI) (J_48 : TJ) (S_49 : TS) (L_50 : TL) (x_51 : Int32) (y_52 : Int64) (s_53 : Int32) (s_54 : Int32), B_46 I_47 J_48 S_49 L_50 x_51 y_52 s_53 s_54 → (∀ x_55 : Int32, x_55 = (s_53 + s_54) → ((vp_in x_51 24) ∧ ((vp_in x_51 24) ∧ ((vp_in ((12 : Int32) + x_51) 24) ∧ ((vp_in x_51 24) ∧ ∀ J_56 : TJ, J_56 = va_up J_48 21 (vp_updL (J_48 21) (x_51).toNatClampNeg ((((J_48 21 (x_51).toNatClampNeg) + y_52) - (J_48 22 (x_51).toNatClampNeg)) + (J_48 22 (((12 : Int32) + x_51)).toNatClampNeg))) → ((vp_in ((12 : Int32) + x_51) 24) ∧ ((vp_in x_51 24) ∧ ∀ J_57 : TJ, J_57 = va_up J_56 22 (vp_updL (J_56 22) (x_51).toNatClampNeg (J_56 22 (((12 : Int32) + x_51)).toNatClampNeg)) → ((vp_in ((12 : Int32) + x_51) 24) ∧ ((vp_in x_51 24) ∧ ∀ I_58 : TI, I_58 = va_up I_47 27 (upd (I_47 27) (x_51).toNatClampNeg (I_47 27 (((12 : Int32) + x_51)).toNatClampNeg)) → (∀ x_59 : Int32, x_59 = x_51 + 1 → (∃ n_60, n_60 < n_6 ∧ V_5 n_60 I_58 J_57 S_49 L_50 x_55 x_59)))))))))))) ∧ ((((lg_cmp r_45 (0 : Int64)) = 0) → (B_46 I_41 J_42 S_43 L_44 x_13 r_45 x_12 (0 : Int32))) ∧ ((¬ (lg_cmp r_45 (0 : Int64)) = 0) → (B_46 I_41 J_42 S_43 L_44 x_13 r_45 x_12 (1 : Int32)))))))))))
theorem nX8_settle_X8 : ∀ w ∈ wsX80, w ∈ wsX8_settle := fun _ h => List.mem_cons_of_mem _ (List.mem_append_right _ h)
theorem kX8_settle_8 : Cond.fieldLink RX8 258 "SongOfficeModel" "settled" "I" ∈ wsX8_settle := List.mem_of_getElem? (i := 8) rfl
theorem kX8_settle_7 : Cond.fieldLink RX8 93 "SongOfficeModel" "cameIn" "[J" ∈ wsX8_settle := List.mem_of_getElem? (i := 7) rfl
theorem kX8_settle_6 : Cond.fieldLink RX8 84 "SongOfficeModel" "bags" "[J" ∈ wsX8_settle := List.mem_of_getElem? (i := 6) rfl
theorem kX8_settle_5 : Cond.fieldLink RX8 81 "SongOfficeModel" "came" "[J" ∈ wsX8_settle := List.mem_of_getElem? (i := 5) rfl
theorem kX8_settle_4 : Cond.fieldLink RX8 78 "SongOfficeModel" "kept" "[J" ∈ wsX8_settle := List.mem_of_getElem? (i := 4) rfl
theorem kX8_settle_3 : Cond.fieldLink RX8 90 "SongOfficeModel" "filled" "[I" ∈ wsX8_settle := List.mem_of_getElem? (i := 3) rfl
theorem kX8_settle_2 : Cond.fieldLink RX8 75 "SongOfficeModel" "debt" "[J" ∈ wsX8_settle := List.mem_of_getElem? (i := 2) rfl
theorem kX8_settle_1 : Cond.fieldLink RX8 71 "SongOfficeModel" "purse" "[J" ∈ wsX8_settle := List.mem_of_getElem? (i := 1) rfl
abbrev rmX8_settle : Room := { frames := 6, cells := 0, slots := 0, locals := 162 }
set_option maxHeartbeats 4000000 in
set_option maxRecDepth 100000 in
theorem c_X8_settle (l : Launch) (dC : Nat → ClassId) (dI : Nat → Nat → Nat) (a : Nat → Nat) (cy : Nat → ClassId) (sz : Nat) (I : TI) (J : TJ) (S : TS) (L : TL) (Φ : Int32 → TI → TJ → TS → TL → Prop) (h : wp_X8_settle I J S L Φ) : Met l yX8_settle wsX8_settle rmX8_settle (va_Pc [.ref (a 0)] (gpre dC dI (wM a cy I J S L) (tyM cy) sz)) (gQi dC dI (wM a cy) (tyM cy) (va_A (wM a cy I J S L) sz) Φ) 0 0 (va_A (wM a cy I J S L) sz) := by
  refine Met.ofW (cc := cX8_settle) (maxL := 5) (ret := (some .int)) (by decide) rfl ?_
  intro p e s m args below meth c s₁ B hml hv
  obtain ⟨hargs, hsz, hP, hK, hD0, hN⟩ := hv
  have hx := B.exec
  have hb := B.bytes
  have hr := B.returns
  have hts := atoms_spec (ws := wsX8_settle) B.pre
  have hown : s.vm.findClass RX8 = some m.cls := findClass_of_methodNamed B.named
  have hlocks := B.notSynchronized
  subst hsz
  have hD := hD0.self (sz := s.heap.size)
  generalize hAe : va_A (wM a cy I J S L) s.heap.size = A at hD ⊢
  have hA : ∀ q : Nat, s.heap.size ≤ q → A q := fun q h => by rw [← hAe]; exact Or.inr h
  obtain ⟨H, hH⟩ : ∃ z : Heap, z = s.heap := ⟨_, rfl⟩
  rw [← hH] at hP
  have hS : va_S A s.heap H [] := by rw [hH]; exact va_S.rf
  have hl := lv_entry ([.ref (a 0)]) (n := 5) (Nat.le_of_ble_eq_true rfl)
  have hE : entryFrame m args 5 = F0 m 0 ((lg_sl ([.ref (a 0)]) ++ List.replicate (5 - (lg_sl ([.ref (a 0)])).length) Slot.unset).toArray) [] := by rw [hargs]; exact lg_entry_eq m _ _
  rw [hE, ← hH]
  clear hE
  generalize (lg_sl ([.ref (a 0)]) ++ List.replicate (5 - (lg_sl ([.ref (a 0)])).length) Slot.unset).toArray = ls at hl ⊢
  have hl : lv_has ls 5 [(0, .ref (a 0))] := hl
  unfold wp_X8_settle at h
  refine lv_aload_n hx hb dX8_settle_0 rfl (lv_at hl 0 rfl) ?_
  refine gcallv (va_runV (As := []) (rest := []) ⟨hx, hb, hml, hown, hts⟩ (c_X8_anew l dC dI a cy H.size I J S L _ h) (cwV 0 hts gX8_settle_X8_anew rfl rfl rfl (by decide +kernel) ⟨(Nat.le_of_ble_eq_true rfl), (Nat.le_of_ble_eq_true rfl)⟩) (g_pV hP hK hD hN (va_recv hK hP (ci := 8) (q0 := 0) rfl (wM_at0 _ _ _ _ _ _)) []) rfl rfl hl.1 rfl (lv_room (Nat.le_of_ble_eq_true rfl)) dX8_settle_1 ⟨(Nat.le_of_ble_eq_true rfl), (Nat.le_of_ble_eq_true rfl)⟩) hS hA hD (fun I_1 J_2 S_3 L_4 H locs hP hD hS h => ?_)
  refine lv_iconst (v := 0) hx hb dX8_settle_4 (by decide) ?_
  refine lv_istore_n (lv' := [(1, .int (0 : Int32)), (0, .ref (a 0))]) hx hb dX8_settle_5 rfl hl (by decide) rfl (fun ls hl => ?_)
  refine lv_iconst (v := 0) hx hb dX8_settle_6 (by decide) ?_
  refine lv_istore_n (lv' := [(2, .int (0 : Int32)), (1, .int (0 : Int32)), (0, .ref (a 0))]) hx hb dX8_settle_7 rfl hl (by decide) rfl (fun ls hl => ?_)
  obtain ⟨V_5, ⟨n_7, h0V_5⟩, hV_5⟩ := h
  have lV_5 : ∀ (n_6 : Nat) (I_8 : TI) (J_9 : TJ) (S_10 : TS) (L_11 : TL) (x_12 : Int32) (x_13 : Int32) (H : Heap) (locs : List Loc) (ls : Array Slot), va_P (dC, dI) vwCl (wM a cy I_8 J_9 S_10 L_11) H → va_D A (wM a cy I_8 J_9 S_10 L_11) → va_S A s.heap H locs → lv_has ls 5 [(0, .ref (a 0)), (1, .int x_12), (2, .int x_13)] → V_5 n_6 I_8 J_9 S_10 L_11 x_12 x_13 → W p l e (headSpec wsX8_settle rmX8_settle).room s m args below meth c H locs 0 0 (MQ below (gQi dC dI (wM a cy) (tyM cy) A Φ) args s 0 0 A) (F0 m 8 ls []) := by
    intro n_6
    induction n_6 using Nat.strongRecOn with
    | ind n_6 ihV_5 =>
        intro I_8 J_9 S_10 L_11 x_12 x_13 H locs ls hP hD hS hl h
        have h := hV_5 n_6 I_8 J_9 S_10 L_11 x_12 x_13 h
        refine lv_iload_n hx hb dX8_settle_8 rfl (lv_at hl 2 rfl) ?_
        refine lv_bipush (v := 12) hx hb dX8_settle_9 (by decide) ?_
        refine lv_icmp_ge (tgt := 101) hx hb dX8_settle_11 (by decide) (fun hc => ?_) (fun hc => ?_)
        · have h := h.1 hc
          refine lv_iconst (v := 0) hx hb dX8_settle_101 (by decide) ?_
          refine lv_istore_n (lv' := [(2, .int (0 : Int32)), (0, .ref (a 0)), (1, .int x_12)]) hx hb dX8_settle_102 rfl hl (by decide) rfl (fun ls hl => ?_)
          obtain ⟨V_14, ⟨n_16, h0V_14⟩, hV_14⟩ := h
          have lV_14 : ∀ (n_15 : Nat) (I_17 : TI) (J_18 : TJ) (S_19 : TS) (L_20 : TL) (x_21 : Int32) (x_22 : Int32) (H : Heap) (locs : List Loc) (ls : Array Slot), va_P (dC, dI) vwCl (wM a cy I_17 J_18 S_19 L_20) H → va_D A (wM a cy I_17 J_18 S_19 L_20) → va_S A s.heap H locs → lv_has ls 5 [(0, .ref (a 0)), (1, .int x_21), (2, .int x_22)] → V_14 n_15 I_17 J_18 S_19 L_20 x_21 x_22 → W p l e (headSpec wsX8_settle rmX8_settle).room s m args below meth c H locs 0 0 (MQ below (gQi dC dI (wM a cy) (tyM cy) A Φ) args s 0 0 A) (F0 m 103 ls []) := by
            intro n_15
            induction n_15 using Nat.strongRecOn with
            | ind n_15 ihV_14 =>
                intro I_17 J_18 S_19 L_20 x_21 x_22 H locs ls hP hD hS hl h
                have h := hV_14 n_15 I_17 J_18 S_19 L_20 x_21 x_22 h
                refine lv_iload_n hx hb dX8_settle_103 rfl (lv_at hl 2 rfl) ?_
                refine lv_bipush (v := 24) hx hb dX8_settle_104 (by decide) ?_
                refine lv_icmp_ge (tgt := 145) hx hb dX8_settle_106 (by decide) (fun hc => ?_) (fun hc => ?_)
                · have h := h.1 hc
                  refine lv_iconst (v := 0) hx hb dX8_settle_145 (by decide) ?_
                  refine lv_istore_n (lv' := [(2, .int (0 : Int32)), (0, .ref (a 0)), (1, .int x_21)]) hx hb dX8_settle_146 rfl hl (by decide) rfl (fun ls hl => ?_)
                  obtain ⟨V_23, ⟨n_25, h0V_23⟩, hV_23⟩ := h
                  have lV_23 : ∀ (n_24 : Nat) (I_26 : TI) (J_27 : TJ) (S_28 : TS) (L_29 : TL) (x_30 : Int32) (x_31 : Int32) (H : Heap) (locs : List Loc) (ls : Array Slot), va_P (dC, dI) vwCl (wM a cy I_26 J_27 S_28 L_29) H → va_D A (wM a cy I_26 J_27 S_28 L_29) → va_S A s.heap H locs → lv_has ls 5 [(0, .ref (a 0)), (1, .int x_30), (2, .int x_31)] → V_23 n_24 I_26 J_27 S_28 L_29 x_30 x_31 → W p l e (headSpec wsX8_settle rmX8_settle).room s m args below meth c H locs 0 0 (MQ below (gQi dC dI (wM a cy) (tyM cy) A Φ) args s 0 0 A) (F0 m 147 ls []) := by
                    intro n_24
                    induction n_24 using Nat.strongRecOn with
                    | ind n_24 ihV_23 =>
                        intro I_26 J_27 S_28 L_29 x_30 x_31 H locs ls hP hD hS hl h
                        have h := hV_23 n_24 I_26 J_27 S_28 L_29 x_30 x_31 h
                        refine lv_iload_n hx hb dX8_settle_147 rfl (lv_at hl 2 rfl) ?_
                        refine lv_sipush (v := 960) hx hb dX8_settle_148 (by decide) ?_
                        refine lv_icmp_ge (tgt := 176) hx hb dX8_settle_151 (by decide) (fun hc => ?_) (fun hc => ?_)
                        · have h := h.1 hc
                          refine lv_aload_n hx hb dX8_settle_176 rfl (lv_at hl 0 rfl) ?_
                          refine va_get (D := (dC, dI)) (ci := 8) (v := .ref (a 28)) (C := RX8) (T := TX8) (N := 47) hx hb hts nX8_settle_X8 hown hK hP 0 (wM_at0 _ _ _ _ _ _) rfl 29 (by decide) (hts (.fieldLink RX8 93 "SongOfficeModel" "cameIn" "[J") kX8_settle_7) (fun _ h9 => h9) rfl dX8_settle_177 ?_
                          refine lv_iconst (v := 0) hx hb dX8_settle_180 (by decide) ?_
                          refine lv_aload_n hx hb dX8_settle_181 rfl (lv_at hl 0 rfl) ?_
                          refine va_get (D := (dC, dI)) (ci := 8) (v := .ref (a 28)) (C := RX8) (T := TX8) (N := 47) hx hb hts nX8_settle_X8 hown hK hP 0 (wM_at0 _ _ _ _ _ _) rfl 29 (by decide) (hts (.fieldLink RX8 93 "SongOfficeModel" "cameIn" "[J") kX8_settle_7) (fun _ h9 => h9) rfl dX8_settle_182 ?_
                          refine lv_iconst (v := 1) hx hb dX8_settle_185 (by decide) ?_
                          obtain ⟨hi, h⟩ := h
                          refine va_lald hx hb hK hP 28 27 (wM_at28 _ _ _ _ _ _) rfl hi dX8_settle_186 ?_
                          obtain ⟨hi, h⟩ := h
                          obtain ⟨J_32, eJ_32⟩ : ∃ z : TJ, z = va_up J_27 28 (vp_updL (J_27 28) ((0 : Int32)).toNatClampNeg (J_27 28 ((1 : Int32)).toNatClampNeg)) := ⟨_, rfl⟩
                          have h := h J_32 eJ_32
                          refine va_last hx hb hK hP hD hS 28 27 (wM_at28 _ _ _ _ _ _) rfl hi dX8_settle_187 (fun H locs hP hD hS => ?_)
                          have hP : va_P (dC, dI) vwCl (wM a cy I_26 J_32 S_28 L_29) H := by rw [eJ_32]; exact setP hP (wM_set28 _ _ _ _ _ _ _)
                          have hD : va_D A (wM a cy I_26 J_32 S_28 L_29) := by rw [eJ_32]; exact setD hD (wM_set28 _ _ _ _ _ _ _)
                          refine lv_aload_n hx hb dX8_settle_188 rfl (lv_at hl 0 rfl) ?_
                          refine lv_aload_n hx hb dX8_settle_189 rfl (lv_at hl 0 rfl) ?_
                          refine va_get (D := (dC, dI)) (ci := 8) (v := .int (S_28 5)) (C := RX8) (T := TX8) (N := 47) hx hb hts nX8_settle_X8 hown hK hP 0 (wM_at0 _ _ _ _ _ _) rfl 46 (by decide) (hts (.fieldLink RX8 258 "SongOfficeModel" "settled" "I") kX8_settle_8) (fun _ h9 => h9) rfl dX8_settle_190 ?_
                          refine lv_iconst (v := 1) hx hb dX8_settle_193 (by decide) ?_
                          refine lv_iadd hx hb dX8_settle_194 ?_
                          obtain ⟨S_33, eS_33⟩ : ∃ z : TS, z = va_up S_28 5 ((S_28 5) + (1 : Int32)) := ⟨_, rfl⟩
                          have h := h S_33 eS_33
                          refine va_put (D := (dC, dI)) (ci := 8) (v := .int ((S_28 5) + (1 : Int32))) (ty := .int) (C := RX8) (T := TX8) (N := 47) hx hb hts nX8_settle_X8 tyX8 tyX8_ok nmX8 hown hK hP hD hS 0 (wM_at0 _ _ _ _ _ _) rfl 46 (by decide) (hts (.fieldLink RX8 258 "SongOfficeModel" "settled" "I") kX8_settle_8) (fun _ h9 => h9) rfl (by decide +kernel) rfl rfl (Nat.le_of_ble_eq_true rfl) dX8_settle_195 (fun H locs hP hD hS => ?_)
                          have hP : va_P (dC, dI) vwCl (wM a cy I_26 J_32 S_33 L_29) H := by rw [eS_33]; exact setP hP (wM_setS5 _ _ _ _ _ _ _)
                          have hD : va_D A (wM a cy I_26 J_32 S_33 L_29) := by rw [eS_33]; exact setD hD (wM_setS5 _ _ _ _ _ _ _)
                          refine lv_iload_n hx hb dX8_settle_198 rfl (lv_at hl 1 rfl) ?_
                          exact gri hx hb hr hlocks hP hK hD hS h dX8_settle_199
                        · have h := h.2 hc
                          refine lv_aload_n hx hb dX8_settle_154 rfl (lv_at hl 0 rfl) ?_
                          refine va_get (D := (dC, dI)) (ci := 8) (v := .ref (a 25)) (C := RX8) (T := TX8) (N := 47) hx hb hts nX8_settle_X8 hown hK hP 0 (wM_at0 _ _ _ _ _ _) rfl 26 (by decide) (hts (.fieldLink RX8 84 "SongOfficeModel" "bags" "[J") kX8_settle_6) (fun _ h9 => h9) rfl dX8_settle_155 ?_
                          refine lv_iload_n hx hb dX8_settle_158 rfl (lv_at hl 2 rfl) ?_
                          refine lv_aload_n hx hb dX8_settle_159 rfl (lv_at hl 0 rfl) ?_
                          refine va_get (D := (dC, dI)) (ci := 8) (v := .ref (a 25)) (C := RX8) (T := TX8) (N := 47) hx hb hts nX8_settle_X8 hown hK hP 0 (wM_at0 _ _ _ _ _ _) rfl 26 (by decide) (hts (.fieldLink RX8 84 "SongOfficeModel" "bags" "[J") kX8_settle_6) (fun _ h9 => h9) rfl dX8_settle_160 ?_
                          refine lv_sipush (v := 960) hx hb dX8_settle_163 (by decide) ?_
                          refine lv_iload_n hx hb dX8_settle_166 rfl (lv_at hl 2 rfl) ?_
                          refine lv_iadd hx hb dX8_settle_167 ?_
                          obtain ⟨hi, h⟩ := h
                          refine va_lald hx hb hK hP 25 24 (wM_at25 _ _ _ _ _ _) rfl hi dX8_settle_168 ?_
                          obtain ⟨hi, h⟩ := h
                          obtain ⟨J_34, eJ_34⟩ : ∃ z : TJ, z = va_up J_27 25 (vp_updL (J_27 25) (x_31).toNatClampNeg (J_27 25 (((960 : Int32) + x_31)).toNatClampNeg)) := ⟨_, rfl⟩
                          have h := h J_34 eJ_34
                          refine va_last hx hb hK hP hD hS 25 24 (wM_at25 _ _ _ _ _ _) rfl hi dX8_settle_169 (fun H locs hP hD hS => ?_)
                          have hP : va_P (dC, dI) vwCl (wM a cy I_26 J_34 S_28 L_29) H := by rw [eJ_34]; exact setP hP (wM_set25 _ _ _ _ _ _ _)
                          have hD : va_D A (wM a cy I_26 J_34 S_28 L_29) := by rw [eJ_34]; exact setD hD (wM_set25 _ _ _ _ _ _ _)
                          obtain ⟨x_35, ex_35⟩ : ∃ z : Int32, z = x_31 + 1 := ⟨_, rfl⟩
                          have h := h x_35 ex_35
                          refine lv_iinc (v := x_35) (lv' := [(2, .int x_35), (0, .ref (a 0)), (1, .int x_30)]) hx hb dX8_settle_170 hl (k := 2) rfl (by rw [ex_35]; rfl) (by decide) rfl (fun ls hl => ?_)
                          refine lv_goto (tgt := 147) hx hb dX8_settle_173 (by decide) ?_
                          obtain ⟨n_36, hn2, h⟩ := h
                          exact ihV_23 n_36 hn2 I_26 J_34 S_28 L_29 x_30 x_35 _ _ _ hP hD hS (lv_sub hl [1, 2, 0] rfl) h
                  exact lV_23 n_25 I_17 J_18 S_19 L_20 x_21 (0 : Int32) _ _ _ hP hD hS (lv_sub hl [1, 2, 0] rfl) h0V_23
                · have h := h.2 hc
                  refine lv_aload_n hx hb dX8_settle_109 rfl (lv_at hl 0 rfl) ?_
                  refine va_get (D := (dC, dI)) (ci := 8) (v := .ref (a 23)) (C := RX8) (T := TX8) (N := 47) hx hb hts nX8_settle_X8 hown hK hP 0 (wM_at0 _ _ _ _ _ _) rfl 24 (by decide) (hts (.fieldLink RX8 78 "SongOfficeModel" "kept" "[J") kX8_settle_4) (fun _ h9 => h9) rfl dX8_settle_110 ?_
                  refine lv_iload_n hx hb dX8_settle_113 rfl (lv_at hl 2 rfl) ?_
                  refine lv_aload_n hx hb dX8_settle_114 rfl (lv_at hl 0 rfl) ?_
                  refine va_get (D := (dC, dI)) (ci := 8) (v := .ref (a 23)) (C := RX8) (T := TX8) (N := 47) hx hb hts nX8_settle_X8 hown hK hP 0 (wM_at0 _ _ _ _ _ _) rfl 24 (by decide) (hts (.fieldLink RX8 78 "SongOfficeModel" "kept" "[J") kX8_settle_4) (fun _ h9 => h9) rfl dX8_settle_115 ?_
                  refine lv_bipush (v := 24) hx hb dX8_settle_118 (by decide) ?_
                  refine lv_iload_n hx hb dX8_settle_120 rfl (lv_at hl 2 rfl) ?_
                  refine lv_iadd hx hb dX8_settle_121 ?_
                  obtain ⟨hi, h⟩ := h
                  refine va_lald hx hb hK hP 23 22 (wM_at23 _ _ _ _ _ _) rfl hi dX8_settle_122 ?_
                  obtain ⟨hi, h⟩ := h
                  obtain ⟨J_37, eJ_37⟩ : ∃ z : TJ, z = va_up J_18 23 (vp_updL (J_18 23) (x_22).toNatClampNeg (J_18 23 (((24 : Int32) + x_22)).toNatClampNeg)) := ⟨_, rfl⟩
                  have h := h J_37 eJ_37
                  refine va_last hx hb hK hP hD hS 23 22 (wM_at23 _ _ _ _ _ _) rfl hi dX8_settle_123 (fun H locs hP hD hS => ?_)
                  have hP : va_P (dC, dI) vwCl (wM a cy I_17 J_37 S_19 L_20) H := by rw [eJ_37]; exact setP hP (wM_set23 _ _ _ _ _ _ _)
                  have hD : va_D A (wM a cy I_17 J_37 S_19 L_20) := by rw [eJ_37]; exact setD hD (wM_set23 _ _ _ _ _ _ _)
                  refine lv_aload_n hx hb dX8_settle_124 rfl (lv_at hl 0 rfl) ?_
                  refine va_get (D := (dC, dI)) (ci := 8) (v := .ref (a 24)) (C := RX8) (T := TX8) (N := 47) hx hb hts nX8_settle_X8 hown hK hP 0 (wM_at0 _ _ _ _ _ _) rfl 25 (by decide) (hts (.fieldLink RX8 81 "SongOfficeModel" "came" "[J") kX8_settle_5) (fun _ h9 => h9) rfl dX8_settle_125 ?_
                  refine lv_iload_n hx hb dX8_settle_128 rfl (lv_at hl 2 rfl) ?_
                  refine lv_aload_n hx hb dX8_settle_129 rfl (lv_at hl 0 rfl) ?_
                  refine va_get (D := (dC, dI)) (ci := 8) (v := .ref (a 24)) (C := RX8) (T := TX8) (N := 47) hx hb hts nX8_settle_X8 hown hK hP 0 (wM_at0 _ _ _ _ _ _) rfl 25 (by decide) (hts (.fieldLink RX8 81 "SongOfficeModel" "came" "[J") kX8_settle_5) (fun _ h9 => h9) rfl dX8_settle_130 ?_
                  refine lv_bipush (v := 24) hx hb dX8_settle_133 (by decide) ?_
                  refine lv_iload_n hx hb dX8_settle_135 rfl (lv_at hl 2 rfl) ?_
                  refine lv_iadd hx hb dX8_settle_136 ?_
                  obtain ⟨hi, h⟩ := h
                  refine va_lald hx hb hK hP 24 23 (wM_at24 _ _ _ _ _ _) rfl hi dX8_settle_137 ?_
                  obtain ⟨hi, h⟩ := h
                  obtain ⟨J_38, eJ_38⟩ : ∃ z : TJ, z = va_up J_37 24 (vp_updL (J_37 24) (x_22).toNatClampNeg (J_37 24 (((24 : Int32) + x_22)).toNatClampNeg)) := ⟨_, rfl⟩
                  have h := h J_38 eJ_38
                  refine va_last hx hb hK hP hD hS 24 23 (wM_at24 _ _ _ _ _ _) rfl hi dX8_settle_138 (fun H locs hP hD hS => ?_)
                  have hP : va_P (dC, dI) vwCl (wM a cy I_17 J_38 S_19 L_20) H := by rw [eJ_38]; exact setP hP (wM_set24 _ _ _ _ _ _ _)
                  have hD : va_D A (wM a cy I_17 J_38 S_19 L_20) := by rw [eJ_38]; exact setD hD (wM_set24 _ _ _ _ _ _ _)
                  obtain ⟨x_39, ex_39⟩ : ∃ z : Int32, z = x_22 + 1 := ⟨_, rfl⟩
                  have h := h x_39 ex_39
                  refine lv_iinc (v := x_39) (lv' := [(2, .int x_39), (0, .ref (a 0)), (1, .int x_21)]) hx hb dX8_settle_139 hl (k := 2) rfl (by rw [ex_39]; rfl) (by decide) rfl (fun ls hl => ?_)
                  refine lv_goto (tgt := 103) hx hb dX8_settle_142 (by decide) ?_
                  obtain ⟨n_40, hn2, h⟩ := h
                  exact ihV_14 n_40 hn2 I_17 J_38 S_19 L_20 x_21 x_39 _ _ _ hP hD hS (lv_sub hl [1, 2, 0] rfl) h
          exact lV_14 n_16 I_8 J_9 S_10 L_11 x_12 (0 : Int32) _ _ _ hP hD hS (lv_sub hl [1, 2, 0] rfl) h0V_14
        · have h := h.2 hc
          refine lv_aload_n hx hb dX8_settle_14 rfl (lv_at hl 0 rfl) ?_
          refine lv_iload_n hx hb dX8_settle_15 rfl (lv_at hl 2 rfl) ?_
          refine gcalll (va_runV (As := [.int x_13]) (rest := []) ⟨hx, hb, hml, hown, hts⟩ (c_X8_owed l dC dI a cy H.size I_8 J_9 S_10 L_11 x_13 _ h) (cwV 1 hts gX8_settle_X8_owed rfl rfl rfl (by decide +kernel) ⟨(Nat.le_of_ble_eq_true rfl), (Nat.le_of_ble_eq_true rfl)⟩) (g_pV hP hK hD hN (va_recv hK hP (ci := 8) (q0 := 0) rfl (wM_at0 _ _ _ _ _ _)) [.int x_13]) rfl rfl hl.1 rfl (lv_room (Nat.le_of_ble_eq_true rfl)) dX8_settle_16 ⟨(Nat.le_of_ble_eq_true rfl), (Nat.le_of_ble_eq_true rfl)⟩) hS hA hD (fun r_45 I_41 J_42 S_43 L_44 H locs hP hD hS h => ?_)
          refine lv_lstore_n (lv' := [(3, .long r_45), (0, .ref (a 0)), (1, .int x_12), (2, .int x_13)]) hx hb dX8_settle_19 rfl hl (by decide) rfl (fun ls hl => ?_)
          refine lv_iload_n hx hb dX8_settle_20 rfl (lv_at hl 2 rfl) ?_
          refine lv_lload_n hx hb dX8_settle_21 rfl (lv_at hl 0 rfl) ?_
          refine lv_lconst (v := 0) hx hb dX8_settle_22 (by decide) ?_
          refine W.lcmp hx hb dX8_settle_23 ?_
          obtain ⟨B_46, hB_46, h⟩ := h
          have jB_46 : ∀ (I_47 : TI) (J_48 : TJ) (S_49 : TS) (L_50 : TL) (x_51 : Int32) (y_52 : Int64) (s_53 : Int32) (s_54 : Int32) (H : Heap) (locs : List Loc) (ls : Array Slot), va_P (dC, dI) vwCl (wM a cy I_47 J_48 S_49 L_50) H → va_D A (wM a cy I_47 J_48 S_49 L_50) → va_S A s.heap H locs → lv_has ls 5 [(0, .ref (a 0)), (2, .int x_51), (3, .long y_52)] → B_46 I_47 J_48 S_49 L_50 x_51 y_52 s_53 s_54 → W p l e (headSpec wsX8_settle rmX8_settle).room s m args below meth c H locs 0 0 (MQ below (gQi dC dI (wM a cy) (tyM cy) A Φ) args s 0 0 A) (F0 m 32 ls [.int s_54, .int s_53]) := by
            intro I_47 J_48 S_49 L_50 x_51 y_52 s_53 s_54 H locs ls hP hD hS hl h
            have h := hB_46 I_47 J_48 S_49 L_50 x_51 y_52 s_53 s_54 h
            refine lv_iadd hx hb dX8_settle_32 ?_
            refine lv_topi (fun x_55 ex_55 => ?_)
            have h := h x_55 ex_55
            refine lv_istore_n (lv' := [(1, .int x_55), (0, .ref (a 0)), (2, .int x_51), (3, .long y_52)]) hx hb dX8_settle_33 rfl hl (by decide) rfl (fun ls hl => ?_)
            refine lv_aload_n hx hb dX8_settle_34 rfl (lv_at hl 1 rfl) ?_
            refine va_get (D := (dC, dI)) (ci := 8) (v := .ref (a 21)) (C := RX8) (T := TX8) (N := 47) hx hb hts nX8_settle_X8 hown hK hP 0 (wM_at0 _ _ _ _ _ _) rfl 22 (by decide) (hts (.fieldLink RX8 71 "SongOfficeModel" "purse" "[J") kX8_settle_1) (fun _ h9 => h9) rfl dX8_settle_35 ?_
            refine lv_iload_n hx hb dX8_settle_38 rfl (lv_at hl 2 rfl) ?_
            refine lv_aload_n hx hb dX8_settle_39 rfl (lv_at hl 1 rfl) ?_
            refine va_get (D := (dC, dI)) (ci := 8) (v := .ref (a 21)) (C := RX8) (T := TX8) (N := 47) hx hb hts nX8_settle_X8 hown hK hP 0 (wM_at0 _ _ _ _ _ _) rfl 22 (by decide) (hts (.fieldLink RX8 71 "SongOfficeModel" "purse" "[J") kX8_settle_1) (fun _ h9 => h9) rfl dX8_settle_40 ?_
            refine lv_iload_n hx hb dX8_settle_43 rfl (lv_at hl 2 rfl) ?_
            obtain ⟨hi, h⟩ := h
            refine va_lald hx hb hK hP 21 20 (wM_at21 _ _ _ _ _ _) rfl hi dX8_settle_44 ?_
            refine lv_lload_n hx hb dX8_settle_45 rfl (lv_at hl 3 rfl) ?_
            refine lv_ladd hx hb dX8_settle_46 ?_
            refine lv_aload_n hx hb dX8_settle_47 rfl (lv_at hl 1 rfl) ?_
            refine va_get (D := (dC, dI)) (ci := 8) (v := .ref (a 22)) (C := RX8) (T := TX8) (N := 47) hx hb hts nX8_settle_X8 hown hK hP 0 (wM_at0 _ _ _ _ _ _) rfl 23 (by decide) (hts (.fieldLink RX8 75 "SongOfficeModel" "debt" "[J") kX8_settle_2) (fun _ h9 => h9) rfl dX8_settle_48 ?_
            refine lv_iload_n hx hb dX8_settle_51 rfl (lv_at hl 2 rfl) ?_
            obtain ⟨hi, h⟩ := h
            refine va_lald hx hb hK hP 22 21 (wM_at22 _ _ _ _ _ _) rfl hi dX8_settle_52 ?_
            refine lv_lsub hx hb dX8_settle_53 ?_
            refine lv_aload_n hx hb dX8_settle_54 rfl (lv_at hl 1 rfl) ?_
            refine va_get (D := (dC, dI)) (ci := 8) (v := .ref (a 22)) (C := RX8) (T := TX8) (N := 47) hx hb hts nX8_settle_X8 hown hK hP 0 (wM_at0 _ _ _ _ _ _) rfl 23 (by decide) (hts (.fieldLink RX8 75 "SongOfficeModel" "debt" "[J") kX8_settle_2) (fun _ h9 => h9) rfl dX8_settle_55 ?_
            refine lv_bipush (v := 12) hx hb dX8_settle_58 (by decide) ?_
            refine lv_iload_n hx hb dX8_settle_60 rfl (lv_at hl 2 rfl) ?_
            refine lv_iadd hx hb dX8_settle_61 ?_
            obtain ⟨hi, h⟩ := h
            refine va_lald hx hb hK hP 22 21 (wM_at22 _ _ _ _ _ _) rfl hi dX8_settle_62 ?_
            refine lv_ladd hx hb dX8_settle_63 ?_
            obtain ⟨hi, h⟩ := h
            obtain ⟨J_56, eJ_56⟩ : ∃ z : TJ, z = va_up J_48 21 (vp_updL (J_48 21) (x_51).toNatClampNeg ((((J_48 21 (x_51).toNatClampNeg) + y_52) - (J_48 22 (x_51).toNatClampNeg)) + (J_48 22 (((12 : Int32) + x_51)).toNatClampNeg))) := ⟨_, rfl⟩
            have h := h J_56 eJ_56
            refine va_last hx hb hK hP hD hS 21 20 (wM_at21 _ _ _ _ _ _) rfl hi dX8_settle_64 (fun H locs hP hD hS => ?_)
            have hP : va_P (dC, dI) vwCl (wM a cy I_47 J_56 S_49 L_50) H := by rw [eJ_56]; exact setP hP (wM_set21 _ _ _ _ _ _ _)
            have hD : va_D A (wM a cy I_47 J_56 S_49 L_50) := by rw [eJ_56]; exact setD hD (wM_set21 _ _ _ _ _ _ _)
            refine lv_aload_n hx hb dX8_settle_65 rfl (lv_at hl 1 rfl) ?_
            refine va_get (D := (dC, dI)) (ci := 8) (v := .ref (a 22)) (C := RX8) (T := TX8) (N := 47) hx hb hts nX8_settle_X8 hown hK hP 0 (wM_at0 _ _ _ _ _ _) rfl 23 (by decide) (hts (.fieldLink RX8 75 "SongOfficeModel" "debt" "[J") kX8_settle_2) (fun _ h9 => h9) rfl dX8_settle_66 ?_
            refine lv_iload_n hx hb dX8_settle_69 rfl (lv_at hl 2 rfl) ?_
            refine lv_aload_n hx hb dX8_settle_70 rfl (lv_at hl 1 rfl) ?_
            refine va_get (D := (dC, dI)) (ci := 8) (v := .ref (a 22)) (C := RX8) (T := TX8) (N := 47) hx hb hts nX8_settle_X8 hown hK hP 0 (wM_at0 _ _ _ _ _ _) rfl 23 (by decide) (hts (.fieldLink RX8 75 "SongOfficeModel" "debt" "[J") kX8_settle_2) (fun _ h9 => h9) rfl dX8_settle_71 ?_
            refine lv_bipush (v := 12) hx hb dX8_settle_74 (by decide) ?_
            refine lv_iload_n hx hb dX8_settle_76 rfl (lv_at hl 2 rfl) ?_
            refine lv_iadd hx hb dX8_settle_77 ?_
            obtain ⟨hi, h⟩ := h
            refine va_lald hx hb hK hP 22 21 (wM_at22 _ _ _ _ _ _) rfl hi dX8_settle_78 ?_
            obtain ⟨hi, h⟩ := h
            obtain ⟨J_57, eJ_57⟩ : ∃ z : TJ, z = va_up J_56 22 (vp_updL (J_56 22) (x_51).toNatClampNeg (J_56 22 (((12 : Int32) + x_51)).toNatClampNeg)) := ⟨_, rfl⟩
            have h := h J_57 eJ_57
            refine va_last hx hb hK hP hD hS 22 21 (wM_at22 _ _ _ _ _ _) rfl hi dX8_settle_79 (fun H locs hP hD hS => ?_)
            have hP : va_P (dC, dI) vwCl (wM a cy I_47 J_57 S_49 L_50) H := by rw [eJ_57]; exact setP hP (wM_set22 _ _ _ _ _ _ _)
            have hD : va_D A (wM a cy I_47 J_57 S_49 L_50) := by rw [eJ_57]; exact setD hD (wM_set22 _ _ _ _ _ _ _)
            refine lv_aload_n hx hb dX8_settle_80 rfl (lv_at hl 1 rfl) ?_
            refine va_get (D := (dC, dI)) (ci := 8) (v := .ref (a 27)) (C := RX8) (T := TX8) (N := 47) hx hb hts nX8_settle_X8 hown hK hP 0 (wM_at0 _ _ _ _ _ _) rfl 28 (by decide) (hts (.fieldLink RX8 90 "SongOfficeModel" "filled" "[I") kX8_settle_3) (fun _ h9 => h9) rfl dX8_settle_81 ?_
            refine lv_iload_n hx hb dX8_settle_84 rfl (lv_at hl 2 rfl) ?_
            refine lv_aload_n hx hb dX8_settle_85 rfl (lv_at hl 1 rfl) ?_
            refine va_get (D := (dC, dI)) (ci := 8) (v := .ref (a 27)) (C := RX8) (T := TX8) (N := 47) hx hb hts nX8_settle_X8 hown hK hP 0 (wM_at0 _ _ _ _ _ _) rfl 28 (by decide) (hts (.fieldLink RX8 90 "SongOfficeModel" "filled" "[I") kX8_settle_3) (fun _ h9 => h9) rfl dX8_settle_86 ?_
            refine lv_bipush (v := 12) hx hb dX8_settle_89 (by decide) ?_
            refine lv_iload_n hx hb dX8_settle_91 rfl (lv_at hl 2 rfl) ?_
            refine lv_iadd hx hb dX8_settle_92 ?_
            obtain ⟨hi, h⟩ := h
            refine va_iald hx hb hK hP 27 26 (wM_at27 _ _ _ _ _ _) rfl hi dX8_settle_93 ?_
            obtain ⟨hi, h⟩ := h
            obtain ⟨I_58, eI_58⟩ : ∃ z : TI, z = va_up I_47 27 (upd (I_47 27) (x_51).toNatClampNeg (I_47 27 (((12 : Int32) + x_51)).toNatClampNeg)) := ⟨_, rfl⟩
            have h := h I_58 eI_58
            refine va_iast hx hb hK hP hD hS 27 26 (wM_at27 _ _ _ _ _ _) rfl hi dX8_settle_94 (fun H locs hP hD hS => ?_)
            have hP : va_P (dC, dI) vwCl (wM a cy I_58 J_57 S_49 L_50) H := by rw [eI_58]; exact setP hP (wM_set27 _ _ _ _ _ _ _)
            have hD : va_D A (wM a cy I_58 J_57 S_49 L_50) := by rw [eI_58]; exact setD hD (wM_set27 _ _ _ _ _ _ _)
            obtain ⟨x_59, ex_59⟩ : ∃ z : Int32, z = x_51 + 1 := ⟨_, rfl⟩
            have h := h x_59 ex_59
            refine lv_iinc (v := x_59) (lv' := [(2, .int x_59), (1, .int x_55), (0, .ref (a 0)), (3, .long y_52)]) hx hb dX8_settle_95 hl (k := 2) rfl (by rw [ex_59]; rfl) (by decide) rfl (fun ls hl => ?_)
            refine lv_goto (tgt := 8) hx hb dX8_settle_98 (by decide) ?_
            obtain ⟨n_60, hn2, h⟩ := h
            exact ihV_5 n_60 hn2 I_58 J_57 S_49 L_50 x_55 x_59 _ _ _ hP hD hS (lv_sub hl [2, 1, 0] rfl) h
          refine lv_if_eq (tgt := 31) hx hb dX8_settle_24 (by decide) (fun hc => ?_) (fun hc => ?_)
          · have h := h.1 hc
            refine lv_iconst (v := 0) hx hb dX8_settle_31 (by decide) ?_
            exact jB_46 I_41 J_42 S_43 L_44 x_13 r_45 x_12 (0 : Int32) _ _ _ hP hD hS (lv_sub hl [1, 3, 0] rfl) h
          · have h := h.2 hc
            refine lv_iconst (v := 1) hx hb dX8_settle_27 (by decide) ?_
            refine lv_goto (tgt := 32) hx hb dX8_settle_28 (by decide) ?_
            exact jB_46 I_41 J_42 S_43 L_44 x_13 r_45 x_12 (1 : Int32) _ _ _ hP hD hS (lv_sub hl [1, 3, 0] rfl) h
  exact lV_5 n_7 I_1 J_2 S_3 L_4 (0 : Int32) (0 : Int32) _ _ _ hP hD hS (lv_sub hl [2, 1, 0] rfl) h0V_5
def wp_X8_due (I : TI) (J : TJ) (S : TS) (L : TL) (p0 : Int32) (p1 : Int32) (Φ : Int32 → TI → TJ → TS → TL → Prop) : Prop := wp_X8_isHand I J S L p0 (fun (r_5 : Int32) (I_1 : TI) (J_2 : TJ) (S_3 : TS) (L_4 : TL) => (∃ B_6 : TI → TJ → TS → TL → Int32 → Prop, (∀ (I_7 : TI) (J_8 : TJ) (S_9 : TS) (L_10 : TL) (s_11 : Int32), B_6 I_7 J_8 S_9 L_10 s_11 → (Φ s_11 I_7 J_8 S_9 L_10)) ∧ (∃ B_12 : TI → TJ → TS → TL → Prop, (∀ (I_13 : TI) (J_14 : TJ) (S_15 : TS) (L_16 : TL), B_12 I_13 J_14 S_15 L_16 → (B_6 I_13 J_14 S_15 L_16 (-1 : Int32))) ∧ (((r_5 = 0) → (B_12 I_1 J_2 S_3 L_4)) ∧ ((¬ r_5 = 0) → (((p1 < 0) → (B_12 I_1 J_2 S_3 L_4)) ∧ ((¬ p1 < 0) → ((((S_3 0) ≤ p1) → (B_12 I_1 J_2 S_3 L_4)) ∧ ((¬ (S_3 0) ≤ p1) → (wp_X8_dueAt I_1 J_2 S_3 L_4 (0 : Int32) p0 p1 (fun (r_21 : Int32) (I_17 : TI) (J_18 : TJ) (S_19 : TS) (L_20 : TL) => ((vp_in r_21 960) ∧ (B_6 I_17 J_18 S_19 L_20 (I_17 26 (r_21).toNatClampNeg))))))))))))))
theorem nX8_due_X8 : ∀ w ∈ wsX80, w ∈ wsX8_due := fun _ h => List.mem_cons_of_mem _ (List.mem_append_right _ h)
theorem kX8_due_2 : Cond.fieldLink RX8 87 "SongOfficeModel" "dues" "[I" ∈ wsX8_due := List.mem_of_getElem? (i := 2) rfl
theorem kX8_due_1 : Cond.fieldLink RX8 136 "SongOfficeModel" "term" "I" ∈ wsX8_due := List.mem_of_getElem? (i := 1) rfl
abbrev rmX8_due : Room := { frames := 1, cells := 0, slots := 0, locals := 22 }
set_option maxHeartbeats 4000000 in
set_option maxRecDepth 100000 in
theorem c_X8_due (l : Launch) (dC : Nat → ClassId) (dI : Nat → Nat → Nat) (a : Nat → Nat) (cy : Nat → ClassId) (sz : Nat) (I : TI) (J : TJ) (S : TS) (L : TL) (p0 : Int32) (p1 : Int32) (Φ : Int32 → TI → TJ → TS → TL → Prop) (h : wp_X8_due I J S L p0 p1 Φ) : Met l yX8_due wsX8_due rmX8_due (va_Pc [.ref (a 0), .int p0, .int p1] (gpre dC dI (wM a cy I J S L) (tyM cy) sz)) (gQi dC dI (wM a cy) (tyM cy) (va_A (wM a cy I J S L) sz) Φ) 0 0 (va_A (wM a cy I J S L) sz) := by
  refine Met.ofW (cc := cX8_due) (maxL := 3) (ret := (some .int)) (by decide) rfl ?_
  intro p e s m args below meth c s₁ B hml hv
  obtain ⟨hargs, hsz, hP, hK, hD0, hN⟩ := hv
  have hx := B.exec
  have hb := B.bytes
  have hr := B.returns
  have hts := atoms_spec (ws := wsX8_due) B.pre
  have hown : s.vm.findClass RX8 = some m.cls := findClass_of_methodNamed B.named
  have hlocks := B.notSynchronized
  subst hsz
  have hD := hD0.self (sz := s.heap.size)
  generalize hAe : va_A (wM a cy I J S L) s.heap.size = A at hD ⊢
  have hA : ∀ q : Nat, s.heap.size ≤ q → A q := fun q h => by rw [← hAe]; exact Or.inr h
  obtain ⟨H, hH⟩ : ∃ z : Heap, z = s.heap := ⟨_, rfl⟩
  rw [← hH] at hP
  have hS : va_S A s.heap H [] := by rw [hH]; exact va_S.rf
  have hl := lv_entry ([.ref (a 0), .int p0, .int p1]) (n := 3) (Nat.le_of_ble_eq_true rfl)
  have hE : entryFrame m args 3 = F0 m 0 ((lg_sl ([.ref (a 0), .int p0, .int p1]) ++ List.replicate (3 - (lg_sl ([.ref (a 0), .int p0, .int p1])).length) Slot.unset).toArray) [] := by rw [hargs]; exact lg_entry_eq m _ _
  rw [hE, ← hH]
  clear hE
  generalize (lg_sl ([.ref (a 0), .int p0, .int p1]) ++ List.replicate (3 - (lg_sl ([.ref (a 0), .int p0, .int p1])).length) Slot.unset).toArray = ls at hl ⊢
  have hl : lv_has ls 3 [(0, .ref (a 0)), (1, .int p0), (2, .int p1)] := hl
  unfold wp_X8_due at h
  refine lv_iload_n hx hb dX8_due_0 rfl (lv_at hl 1 rfl) ?_
  refine gcalli (va_runS (As := [.int p0]) (rest := []) ⟨hx, hb, hml, hown, hts⟩ (c_X8_isHand l dC dI (wM a cy) (tyM cy) H.size I J S L p0 _ h) (va_cwS 1 hts gX8_due_X8_isHand rfl rfl rfl (by decide +kernel) ⟨(Nat.le_of_ble_eq_true rfl), (Nat.le_of_ble_eq_true rfl)⟩) (g_pS hP hK hD hN [.int p0]) rfl rfl hl.1 rfl (lv_room (Nat.le_of_ble_eq_true rfl)) dX8_due_1 ⟨(Nat.le_of_ble_eq_true rfl), (Nat.le_of_ble_eq_true rfl)⟩) hS hA hD (fun r_5 I_1 J_2 S_3 L_4 H locs hP hD hS h => ?_)
  obtain ⟨B_6, hB_6, h⟩ := h
  have jB_6 : ∀ (I_7 : TI) (J_8 : TJ) (S_9 : TS) (L_10 : TL) (s_11 : Int32) (H : Heap) (locs : List Loc) (ls : Array Slot), va_P (dC, dI) vwCl (wM a cy I_7 J_8 S_9 L_10) H → va_D A (wM a cy I_7 J_8 S_9 L_10) → va_S A s.heap H locs → lv_has ls 3 [] → B_6 I_7 J_8 S_9 L_10 s_11 → W p l e (headSpec wsX8_due rmX8_due).room s m args below meth c H locs 0 0 (MQ below (gQi dC dI (wM a cy) (tyM cy) A Φ) args s 0 0 A) (F0 m 34 ls [.int s_11]) := by
    intro I_7 J_8 S_9 L_10 s_11 H locs ls hP hD hS hl h
    have h := hB_6 I_7 J_8 S_9 L_10 s_11 h
    exact gri hx hb hr hlocks hP hK hD hS h dX8_due_34
  obtain ⟨B_12, hB_12, h⟩ := h
  have jB_12 : ∀ (I_13 : TI) (J_14 : TJ) (S_15 : TS) (L_16 : TL) (H : Heap) (locs : List Loc) (ls : Array Slot), va_P (dC, dI) vwCl (wM a cy I_13 J_14 S_15 L_16) H → va_D A (wM a cy I_13 J_14 S_15 L_16) → va_S A s.heap H locs → lv_has ls 3 [] → B_12 I_13 J_14 S_15 L_16 → W p l e (headSpec wsX8_due rmX8_due).room s m args below meth c H locs 0 0 (MQ below (gQi dC dI (wM a cy) (tyM cy) A Φ) args s 0 0 A) (F0 m 33 ls []) := by
    intro I_13 J_14 S_15 L_16 H locs ls hP hD hS hl h
    have h := hB_12 I_13 J_14 S_15 L_16 h
    refine lv_iconst (v := -1) hx hb dX8_due_33 (by decide) ?_
    exact jB_6 I_13 J_14 S_15 L_16 (-1 : Int32) _ _ _ hP hD hS (lv_sub hl [] rfl) h
  refine lv_if_eq (tgt := 33) hx hb dX8_due_4 (by decide) (fun hc => ?_) (fun hc => ?_)
  · have h := h.1 hc
    exact jB_12 I_1 J_2 S_3 L_4 _ _ _ hP hD hS (lv_sub hl [] rfl) h
  · have h := h.2 hc
    refine lv_iload_n hx hb dX8_due_7 rfl (lv_at hl 2 rfl) ?_
    refine lv_if_lt (tgt := 33) hx hb dX8_due_8 (by decide) (fun hc => ?_) (fun hc => ?_)
    · have h := h.1 hc
      exact jB_12 I_1 J_2 S_3 L_4 _ _ _ hP hD hS (lv_sub hl [] rfl) h
    · have h := h.2 hc
      refine lv_iload_n hx hb dX8_due_11 rfl (lv_at hl 2 rfl) ?_
      refine lv_aload_n hx hb dX8_due_12 rfl (lv_at hl 0 rfl) ?_
      refine va_get (D := (dC, dI)) (ci := 8) (v := .int (S_3 0)) (C := RX8) (T := TX8) (N := 47) hx hb hts nX8_due_X8 hown hK hP 0 (wM_at0 _ _ _ _ _ _) rfl 0 (by decide) (hts (.fieldLink RX8 136 "SongOfficeModel" "term" "I") kX8_due_1) (fun _ h9 => h9) rfl dX8_due_13 ?_
      refine lv_icmp_ge (tgt := 33) hx hb dX8_due_16 (by decide) (fun hc => ?_) (fun hc => ?_)
      · have h := h.1 hc
        exact jB_12 I_1 J_2 S_3 L_4 _ _ _ hP hD hS (lv_sub hl [] rfl) h
      · have h := h.2 hc
        refine lv_aload_n hx hb dX8_due_19 rfl (lv_at hl 0 rfl) ?_
        refine va_get (D := (dC, dI)) (ci := 8) (v := .ref (a 26)) (C := RX8) (T := TX8) (N := 47) hx hb hts nX8_due_X8 hown hK hP 0 (wM_at0 _ _ _ _ _ _) rfl 27 (by decide) (hts (.fieldLink RX8 87 "SongOfficeModel" "dues" "[I") kX8_due_2) (fun _ h9 => h9) rfl dX8_due_20 ?_
        refine lv_iconst (v := 0) hx hb dX8_due_23 (by decide) ?_
        refine lv_iload_n hx hb dX8_due_24 rfl (lv_at hl 1 rfl) ?_
        refine lv_iload_n hx hb dX8_due_25 rfl (lv_at hl 2 rfl) ?_
        refine gcalli (va_runS (As := [.int (0 : Int32), .int p0, .int p1]) (rest := [.ref (a 26)]) ⟨hx, hb, hml, hown, hts⟩ (c_X8_dueAt l dC dI (wM a cy) (tyM cy) H.size I_1 J_2 S_3 L_4 (0 : Int32) p0 p1 _ h) (va_cwS 3 hts gX8_due_X8_dueAt rfl rfl rfl (by decide +kernel) ⟨(Nat.le_of_ble_eq_true rfl), (Nat.le_of_ble_eq_true rfl)⟩) (g_pS hP hK hD hN [.int (0 : Int32), .int p0, .int p1]) rfl rfl hl.1 rfl (lv_room (Nat.le_of_ble_eq_true rfl)) dX8_due_26 ⟨(Nat.le_of_ble_eq_true rfl), (Nat.le_of_ble_eq_true rfl)⟩) hS hA hD (fun r_21 I_17 J_18 S_19 L_20 H locs hP hD hS h => ?_)
        obtain ⟨hi, h⟩ := h
        refine va_iald hx hb hK hP 26 25 (wM_at26 _ _ _ _ _ _) rfl hi dX8_due_29 ?_
        refine lv_goto (tgt := 34) hx hb dX8_due_30 (by decide) ?_
        exact jB_6 I_17 J_18 S_19 L_20 (I_17 26 (r_21).toNatClampNeg) _ _ _ hP hD hS (lv_sub hl [] rfl) h
def wp_X8_hand (I : TI) (J : TJ) (S : TS) (L : TL) (p0 : Int32) (p1 : Int32) (Φ : Int64 → TI → TJ → TS → TL → Prop) : Prop := wp_X8_isHand I J S L p0 (fun (r_5 : Int32) (I_1 : TI) (J_2 : TJ) (S_3 : TS) (L_4 : TL) => (((¬ r_5 = 0) → (((p1 = nI 0) → ((vp_in p0 24) ∧ (Φ (J_2 21 (p0).toNatClampNeg) I_1 J_2 S_3 L_4))) ∧ ((p1 = nI 1) → ((vp_in p0 24) ∧ (Φ (J_2 22 (p0).toNatClampNeg) I_1 J_2 S_3 L_4))) ∧ ((p1 = nI 2) → (wp_X8_duesOf I_1 J_2 S_3 L_4 (0 : Int32) p0 (fun (r_10 : Int64) (I_6 : TI) (J_7 : TJ) (S_8 : TS) (L_9 : TL) => (Φ r_10 I_6 J_7 S_8 L_9)))) ∧ ((p1 = nI 3) → ((vp_in p0 24) ∧ (Φ (((I_1 27 (p0).toNatClampNeg)).toInt64) I_1 J_2 S_3 L_4))) ∧ ((p1 = nI 4) → (wp_X8_anew I_1 J_2 S_3 L_4 (fun (I_11 : TI) (J_12 : TJ) (S_13 : TS) (L_14 : TL) => (wp_X8_owed I_11 J_12 S_13 L_14 p0 (fun (r_19 : Int64) (I_15 : TI) (J_16 : TJ) (S_17 : TS) (L_18 : TL) => (Φ r_19 I_15 J_16 S_17 L_18)))))) ∧ ((∀ k, k < 5 → ¬ p1 = nI k) → (Φ (-1 : Int64) I_1 J_2 S_3 L_4)))) ∧ ((r_5 = 0) → (Φ (-1 : Int64) I_1 J_2 S_3 L_4))))
theorem nX8_hand_X8 : ∀ w ∈ wsX80, w ∈ wsX8_hand := fun _ h => List.mem_cons_of_mem _ (List.mem_append_right _ h)
theorem kX8_hand_2 : Cond.fieldLink RX8 71 "SongOfficeModel" "purse" "[J" ∈ wsX8_hand := List.mem_of_getElem? (i := 2) rfl
theorem kX8_hand_3 : Cond.fieldLink RX8 75 "SongOfficeModel" "debt" "[J" ∈ wsX8_hand := List.mem_of_getElem? (i := 3) rfl
theorem kX8_hand_4 : Cond.fieldLink RX8 90 "SongOfficeModel" "filled" "[I" ∈ wsX8_hand := List.mem_of_getElem? (i := 4) rfl
theorem kX8_hand_1 : Cond.constantLong RX8 227 (-1) ∈ wsX8_hand := List.mem_of_getElem? (i := 1) rfl
abbrev rmX8_hand : Room := { frames := 6, cells := 0, slots := 0, locals := 162 }
set_option maxHeartbeats 4000000 in
set_option maxRecDepth 100000 in
theorem c_X8_hand (l : Launch) (dC : Nat → ClassId) (dI : Nat → Nat → Nat) (a : Nat → Nat) (cy : Nat → ClassId) (sz : Nat) (I : TI) (J : TJ) (S : TS) (L : TL) (p0 : Int32) (p1 : Int32) (Φ : Int64 → TI → TJ → TS → TL → Prop) (h : wp_X8_hand I J S L p0 p1 Φ) : Met l yX8_hand wsX8_hand rmX8_hand (va_Pc [.ref (a 0), .int p0, .int p1] (gpre dC dI (wM a cy I J S L) (tyM cy) sz)) (gQl dC dI (wM a cy) (tyM cy) (va_A (wM a cy I J S L) sz) Φ) 0 0 (va_A (wM a cy I J S L) sz) := by
  refine Met.ofW (cc := cX8_hand) (maxL := 3) (ret := (some .long)) (by decide) rfl ?_
  intro p e s m args below meth c s₁ B hml hv
  obtain ⟨hargs, hsz, hP, hK, hD0, hN⟩ := hv
  have hx := B.exec
  have hb := B.bytes
  have hr := B.returns
  have hts := atoms_spec (ws := wsX8_hand) B.pre
  have hown : s.vm.findClass RX8 = some m.cls := findClass_of_methodNamed B.named
  have hlocks := B.notSynchronized
  subst hsz
  have hD := hD0.self (sz := s.heap.size)
  generalize hAe : va_A (wM a cy I J S L) s.heap.size = A at hD ⊢
  have hA : ∀ q : Nat, s.heap.size ≤ q → A q := fun q h => by rw [← hAe]; exact Or.inr h
  obtain ⟨H, hH⟩ : ∃ z : Heap, z = s.heap := ⟨_, rfl⟩
  rw [← hH] at hP
  have hS : va_S A s.heap H [] := by rw [hH]; exact va_S.rf
  have hl := lv_entry ([.ref (a 0), .int p0, .int p1]) (n := 3) (Nat.le_of_ble_eq_true rfl)
  have hE : entryFrame m args 3 = F0 m 0 ((lg_sl ([.ref (a 0), .int p0, .int p1]) ++ List.replicate (3 - (lg_sl ([.ref (a 0), .int p0, .int p1])).length) Slot.unset).toArray) [] := by rw [hargs]; exact lg_entry_eq m _ _
  rw [hE, ← hH]
  clear hE
  generalize (lg_sl ([.ref (a 0), .int p0, .int p1]) ++ List.replicate (3 - (lg_sl ([.ref (a 0), .int p0, .int p1])).length) Slot.unset).toArray = ls at hl ⊢
  have hl : lv_has ls 3 [(0, .ref (a 0)), (1, .int p0), (2, .int p1)] := hl
  unfold wp_X8_hand at h
  refine lv_iload_n hx hb dX8_hand_0 rfl (lv_at hl 1 rfl) ?_
  refine gcalli (va_runS (As := [.int p0]) (rest := []) ⟨hx, hb, hml, hown, hts⟩ (c_X8_isHand l dC dI (wM a cy) (tyM cy) H.size I J S L p0 _ h) (va_cwS 1 hts gX8_hand_X8_isHand rfl rfl rfl (by decide +kernel) ⟨(Nat.le_of_ble_eq_true rfl), (Nat.le_of_ble_eq_true rfl)⟩) (g_pS hP hK hD hN [.int p0]) rfl rfl hl.1 rfl (lv_room (Nat.le_of_ble_eq_true rfl)) dX8_hand_1 ⟨(Nat.le_of_ble_eq_true rfl), (Nat.le_of_ble_eq_true rfl)⟩) hS hA hD (fun r_5 I_1 J_2 S_3 L_4 H locs hP hD hS h => ?_)
  refine lv_if_ne (tgt := 11) hx hb dX8_hand_4 (by decide) (fun hc => ?_) (fun hc => ?_)
  · have h := h.1 hc
    refine lv_iload_n hx hb dX8_hand_11 rfl (lv_at hl 2 rfl) ?_
    by_cases hc0 : p1 = nI 0
    · have h := h.1 hc0
      refine lv_tableIn (off := 36) (tgt := 48) hx hb dX8_hand_12 (by rw [hc0]; decide) (by rw [hc0]; decide) (by rw [hc0]; decide) (by decide) ?_
      refine lv_aload_n hx hb dX8_hand_48 rfl (lv_at hl 0 rfl) ?_
      refine va_get (D := (dC, dI)) (ci := 8) (v := .ref (a 21)) (C := RX8) (T := TX8) (N := 47) hx hb hts nX8_hand_X8 hown hK hP 0 (wM_at0 _ _ _ _ _ _) rfl 22 (by decide) (hts (.fieldLink RX8 71 "SongOfficeModel" "purse" "[J") kX8_hand_2) (fun _ h9 => h9) rfl dX8_hand_49 ?_
      refine lv_iload_n hx hb dX8_hand_52 rfl (lv_at hl 1 rfl) ?_
      obtain ⟨hi, h⟩ := h
      refine va_lald hx hb hK hP 21 20 (wM_at21 _ _ _ _ _ _) rfl hi dX8_hand_53 ?_
      exact grl hx hb hr hlocks hP hK hD hS h dX8_hand_54
    by_cases hc1 : p1 = nI 1
    · have h := h.2.1 hc1
      refine lv_tableIn (off := 43) (tgt := 55) hx hb dX8_hand_12 (by rw [hc1]; decide) (by rw [hc1]; decide) (by rw [hc1]; decide) (by decide) ?_
      refine lv_aload_n hx hb dX8_hand_55 rfl (lv_at hl 0 rfl) ?_
      refine va_get (D := (dC, dI)) (ci := 8) (v := .ref (a 22)) (C := RX8) (T := TX8) (N := 47) hx hb hts nX8_hand_X8 hown hK hP 0 (wM_at0 _ _ _ _ _ _) rfl 23 (by decide) (hts (.fieldLink RX8 75 "SongOfficeModel" "debt" "[J") kX8_hand_3) (fun _ h9 => h9) rfl dX8_hand_56 ?_
      refine lv_iload_n hx hb dX8_hand_59 rfl (lv_at hl 1 rfl) ?_
      obtain ⟨hi, h⟩ := h
      refine va_lald hx hb hK hP 22 21 (wM_at22 _ _ _ _ _ _) rfl hi dX8_hand_60 ?_
      exact grl hx hb hr hlocks hP hK hD hS h dX8_hand_61
    by_cases hc2 : p1 = nI 2
    · have h := h.2.2.1 hc2
      refine lv_tableIn (off := 50) (tgt := 62) hx hb dX8_hand_12 (by rw [hc2]; decide) (by rw [hc2]; decide) (by rw [hc2]; decide) (by decide) ?_
      refine lv_aload_n hx hb dX8_hand_62 rfl (lv_at hl 0 rfl) ?_
      refine lv_iconst (v := 0) hx hb dX8_hand_63 (by decide) ?_
      refine lv_iload_n hx hb dX8_hand_64 rfl (lv_at hl 1 rfl) ?_
      refine gcalll (va_runV (As := [.int (0 : Int32), .int p0]) (rest := []) ⟨hx, hb, hml, hown, hts⟩ (c_X8_duesOf l dC dI a cy H.size I_1 J_2 S_3 L_4 (0 : Int32) p0 _ h) (cwV 2 hts gX8_hand_X8_duesOf rfl rfl rfl (by decide +kernel) ⟨(Nat.le_of_ble_eq_true rfl), (Nat.le_of_ble_eq_true rfl)⟩) (g_pV hP hK hD hN (va_recv hK hP (ci := 8) (q0 := 0) rfl (wM_at0 _ _ _ _ _ _)) [.int (0 : Int32), .int p0]) rfl rfl hl.1 rfl (lv_room (Nat.le_of_ble_eq_true rfl)) dX8_hand_65 ⟨(Nat.le_of_ble_eq_true rfl), (Nat.le_of_ble_eq_true rfl)⟩) hS hA hD (fun r_10 I_6 J_7 S_8 L_9 H locs hP hD hS h => ?_)
      exact grl hx hb hr hlocks hP hK hD hS h dX8_hand_68
    by_cases hc3 : p1 = nI 3
    · have h := h.2.2.2.1 hc3
      refine lv_tableIn (off := 57) (tgt := 69) hx hb dX8_hand_12 (by rw [hc3]; decide) (by rw [hc3]; decide) (by rw [hc3]; decide) (by decide) ?_
      refine lv_aload_n hx hb dX8_hand_69 rfl (lv_at hl 0 rfl) ?_
      refine va_get (D := (dC, dI)) (ci := 8) (v := .ref (a 27)) (C := RX8) (T := TX8) (N := 47) hx hb hts nX8_hand_X8 hown hK hP 0 (wM_at0 _ _ _ _ _ _) rfl 28 (by decide) (hts (.fieldLink RX8 90 "SongOfficeModel" "filled" "[I") kX8_hand_4) (fun _ h9 => h9) rfl dX8_hand_70 ?_
      refine lv_iload_n hx hb dX8_hand_73 rfl (lv_at hl 1 rfl) ?_
      obtain ⟨hi, h⟩ := h
      refine va_iald hx hb hK hP 27 26 (wM_at27 _ _ _ _ _ _) rfl hi dX8_hand_74 ?_
      refine lv_i2l (v := (((I_1 27 (p0).toNatClampNeg)).toInt64)) hx hb dX8_hand_75 rfl ?_
      exact grl hx hb hr hlocks hP hK hD hS h dX8_hand_76
    by_cases hc4 : p1 = nI 4
    · have h := h.2.2.2.2.1 hc4
      refine lv_tableIn (off := 65) (tgt := 77) hx hb dX8_hand_12 (by rw [hc4]; decide) (by rw [hc4]; decide) (by rw [hc4]; decide) (by decide) ?_
      refine lv_aload_n hx hb dX8_hand_77 rfl (lv_at hl 0 rfl) ?_
      refine gcallv (va_runV (As := []) (rest := []) ⟨hx, hb, hml, hown, hts⟩ (c_X8_anew l dC dI a cy H.size I_1 J_2 S_3 L_4 _ h) (cwV 0 hts gX8_hand_X8_anew rfl rfl rfl (by decide +kernel) ⟨(Nat.le_of_ble_eq_true rfl), (Nat.le_of_ble_eq_true rfl)⟩) (g_pV hP hK hD hN (va_recv hK hP (ci := 8) (q0 := 0) rfl (wM_at0 _ _ _ _ _ _)) []) rfl rfl hl.1 rfl (lv_room (Nat.le_of_ble_eq_true rfl)) dX8_hand_78 ⟨(Nat.le_of_ble_eq_true rfl), (Nat.le_of_ble_eq_true rfl)⟩) hS hA hD (fun I_11 J_12 S_13 L_14 H locs hP hD hS h => ?_)
      refine lv_aload_n hx hb dX8_hand_81 rfl (lv_at hl 0 rfl) ?_
      refine lv_iload_n hx hb dX8_hand_82 rfl (lv_at hl 1 rfl) ?_
      refine gcalll (va_runV (As := [.int p0]) (rest := []) ⟨hx, hb, hml, hown, hts⟩ (c_X8_owed l dC dI a cy H.size I_11 J_12 S_13 L_14 p0 _ h) (cwV 1 hts gX8_hand_X8_owed rfl rfl rfl (by decide +kernel) ⟨(Nat.le_of_ble_eq_true rfl), (Nat.le_of_ble_eq_true rfl)⟩) (g_pV hP hK hD hN (va_recv hK hP (ci := 8) (q0 := 0) rfl (wM_at0 _ _ _ _ _ _)) [.int p0]) rfl rfl hl.1 rfl (lv_room (Nat.le_of_ble_eq_true rfl)) dX8_hand_83 ⟨(Nat.le_of_ble_eq_true rfl), (Nat.le_of_ble_eq_true rfl)⟩) hS hA hD (fun r_19 I_15 J_16 S_17 L_18 H locs hP hD hS h => ?_)
      exact grl hx hb hr hlocks hP hK hD hS h dX8_hand_86
    have hno : ∀ k, k < 5 → ¬ p1 = nI k := fun k hk => by rcases (show k = 0 ∨ k = 1 ∨ k = 2 ∨ k = 3 ∨ k = 4 by omega) with rfl | rfl | rfl | rfl | rfl <;> assumption
    have h := h.2.2.2.2.2 hno
    refine lv_tableOut (tgt := 87) hx hb dX8_hand_12 (sw_out 5 (by decide) hno) (by decide) ?_
    refine lv_ldc2 (v := -1) hx hb hown (hts (.constantLong RX8 227 (-1)) kX8_hand_1) dX8_hand_87 ?_
    exact grl hx hb hr hlocks hP hK hD hS h dX8_hand_90
  · have h := h.2 hc
    refine lv_ldc2 (v := -1) hx hb hown (hts (.constantLong RX8 227 (-1)) kX8_hand_1) dX8_hand_7 ?_
    exact grl hx hb hr hlocks hP hK hD hS h dX8_hand_10
def wp_X8_inBags (I : TI) (J : TJ) (S : TS) (L : TL) (p0 : Int32) (Φ : Int64 → TI → TJ → TS → TL → Prop) : Prop := ∃ V_1 : Nat → TI → TJ → TS → TL → Int64 → Int32 → Prop, (∃ n_3, V_1 n_3 I J S L (0 : Int64) (0 : Int32)) ∧ ∀ (n_2 : Nat) (I_4 : TI) (J_5 : TJ) (S_6 : TS) (L_7 : TL) (y_8 : Int64) (x_9 : Int32), V_1 n_2 I_4 J_5 S_6 L_7 y_8 x_9 → ((((40 : Int32) ≤ x_9) → (Φ y_8 I_4 J_5 S_6 L_7)) ∧ ((¬ (40 : Int32) ≤ x_9) → (wp_X8_bag I_4 J_5 S_6 L_7 (0 : Int32) p0 x_9 (fun (r_14 : Int32) (I_10 : TI) (J_11 : TJ) (S_12 : TS) (L_13 : TL) => ((vp_in r_14 1920) ∧ (∀ y_15 : Int64, y_15 = (y_8 + (J_11 25 (r_14).toNatClampNeg)) → (∀ x_16 : Int32, x_16 = x_9 + 1 → (∃ n_17, n_17 < n_2 ∧ V_1 n_17 I_10 J_11 S_12 L_13 y_15 x_16))))))))
theorem nX8_inBags_X8 : ∀ w ∈ wsX80, w ∈ wsX8_inBags := fun _ h => List.mem_cons_of_mem _ (List.mem_append_right _ h)
theorem kX8_inBags_1 : Cond.fieldLink RX8 84 "SongOfficeModel" "bags" "[J" ∈ wsX8_inBags := List.mem_of_getElem? (i := 1) rfl
abbrev rmX8_inBags : Room := { frames := 1, cells := 0, slots := 0, locals := 22 }
set_option maxHeartbeats 4000000 in
set_option maxRecDepth 100000 in
theorem c_X8_inBags (l : Launch) (dC : Nat → ClassId) (dI : Nat → Nat → Nat) (a : Nat → Nat) (cy : Nat → ClassId) (sz : Nat) (I : TI) (J : TJ) (S : TS) (L : TL) (p0 : Int32) (Φ : Int64 → TI → TJ → TS → TL → Prop) (h : wp_X8_inBags I J S L p0 Φ) : Met l yX8_inBags wsX8_inBags rmX8_inBags (va_Pc [.ref (a 0), .int p0] (gpre dC dI (wM a cy I J S L) (tyM cy) sz)) (gQl dC dI (wM a cy) (tyM cy) (va_A (wM a cy I J S L) sz) Φ) 0 0 (va_A (wM a cy I J S L) sz) := by
  refine Met.ofW (cc := cX8_inBags) (maxL := 5) (ret := (some .long)) (by decide) rfl ?_
  intro p e s m args below meth c s₁ B hml hv
  obtain ⟨hargs, hsz, hP, hK, hD0, hN⟩ := hv
  have hx := B.exec
  have hb := B.bytes
  have hr := B.returns
  have hts := atoms_spec (ws := wsX8_inBags) B.pre
  have hown : s.vm.findClass RX8 = some m.cls := findClass_of_methodNamed B.named
  have hlocks := B.notSynchronized
  subst hsz
  have hD := hD0.self (sz := s.heap.size)
  generalize hAe : va_A (wM a cy I J S L) s.heap.size = A at hD ⊢
  have hA : ∀ q : Nat, s.heap.size ≤ q → A q := fun q h => by rw [← hAe]; exact Or.inr h
  obtain ⟨H, hH⟩ : ∃ z : Heap, z = s.heap := ⟨_, rfl⟩
  rw [← hH] at hP
  have hS : va_S A s.heap H [] := by rw [hH]; exact va_S.rf
  have hl := lv_entry ([.ref (a 0), .int p0]) (n := 5) (Nat.le_of_ble_eq_true rfl)
  have hE : entryFrame m args 5 = F0 m 0 ((lg_sl ([.ref (a 0), .int p0]) ++ List.replicate (5 - (lg_sl ([.ref (a 0), .int p0])).length) Slot.unset).toArray) [] := by rw [hargs]; exact lg_entry_eq m _ _
  rw [hE, ← hH]
  clear hE
  generalize (lg_sl ([.ref (a 0), .int p0]) ++ List.replicate (5 - (lg_sl ([.ref (a 0), .int p0])).length) Slot.unset).toArray = ls at hl ⊢
  have hl : lv_has ls 5 [(0, .ref (a 0)), (1, .int p0)] := hl
  unfold wp_X8_inBags at h
  refine lv_lconst (v := 0) hx hb dX8_inBags_0 (by decide) ?_
  refine lv_lstore_n (lv' := [(2, .long (0 : Int64)), (0, .ref (a 0)), (1, .int p0)]) hx hb dX8_inBags_1 rfl hl (by decide) rfl (fun ls hl => ?_)
  refine lv_iconst (v := 0) hx hb dX8_inBags_2 (by decide) ?_
  refine lv_istore (lv' := [(4, .int (0 : Int32)), (2, .long (0 : Int64)), (0, .ref (a 0)), (1, .int p0)]) hx hb dX8_inBags_3 hl (by decide) rfl (fun ls hl => ?_)
  obtain ⟨V_1, ⟨n_3, h0V_1⟩, hV_1⟩ := h
  have lV_1 : ∀ (n_2 : Nat) (I_4 : TI) (J_5 : TJ) (S_6 : TS) (L_7 : TL) (y_8 : Int64) (x_9 : Int32) (H : Heap) (locs : List Loc) (ls : Array Slot), va_P (dC, dI) vwCl (wM a cy I_4 J_5 S_6 L_7) H → va_D A (wM a cy I_4 J_5 S_6 L_7) → va_S A s.heap H locs → lv_has ls 5 [(0, .ref (a 0)), (1, .int p0), (2, .long y_8), (4, .int x_9)] → V_1 n_2 I_4 J_5 S_6 L_7 y_8 x_9 → W p l e (headSpec wsX8_inBags rmX8_inBags).room s m args below meth c H locs 0 0 (MQ below (gQl dC dI (wM a cy) (tyM cy) A Φ) args s 0 0 A) (F0 m 5 ls []) := by
    intro n_2
    induction n_2 using Nat.strongRecOn with
    | ind n_2 ihV_1 =>
        intro I_4 J_5 S_6 L_7 y_8 x_9 H locs ls hP hD hS hl h
        have h := hV_1 n_2 I_4 J_5 S_6 L_7 y_8 x_9 h
        refine lv_iload hx hb dX8_inBags_5 (lv_at hl 3 rfl) ?_
        refine lv_bipush (v := 40) hx hb dX8_inBags_7 (by decide) ?_
        refine lv_icmp_ge (tgt := 33) hx hb dX8_inBags_9 (by decide) (fun hc => ?_) (fun hc => ?_)
        · have h := h.1 hc
          refine lv_lload_n hx hb dX8_inBags_33 rfl (lv_at hl 2 rfl) ?_
          exact grl hx hb hr hlocks hP hK hD hS h dX8_inBags_34
        · have h := h.2 hc
          refine lv_lload_n hx hb dX8_inBags_12 rfl (lv_at hl 2 rfl) ?_
          refine lv_aload_n hx hb dX8_inBags_13 rfl (lv_at hl 0 rfl) ?_
          refine va_get (D := (dC, dI)) (ci := 8) (v := .ref (a 25)) (C := RX8) (T := TX8) (N := 47) hx hb hts nX8_inBags_X8 hown hK hP 0 (wM_at0 _ _ _ _ _ _) rfl 26 (by decide) (hts (.fieldLink RX8 84 "SongOfficeModel" "bags" "[J") kX8_inBags_1) (fun _ h9 => h9) rfl dX8_inBags_14 ?_
          refine lv_iconst (v := 0) hx hb dX8_inBags_17 (by decide) ?_
          refine lv_iload_n hx hb dX8_inBags_18 rfl (lv_at hl 1 rfl) ?_
          refine lv_iload hx hb dX8_inBags_19 (lv_at hl 3 rfl) ?_
          refine gcalli (va_runS (As := [.int (0 : Int32), .int p0, .int x_9]) (rest := [.ref (a 25), .long y_8]) ⟨hx, hb, hml, hown, hts⟩ (c_X8_bag l dC dI (wM a cy) (tyM cy) H.size I_4 J_5 S_6 L_7 (0 : Int32) p0 x_9 _ h) (va_cwS 3 hts gX8_inBags_X8_bag rfl rfl rfl (by decide +kernel) ⟨(Nat.le_of_ble_eq_true rfl), (Nat.le_of_ble_eq_true rfl)⟩) (g_pS hP hK hD hN [.int (0 : Int32), .int p0, .int x_9]) rfl rfl hl.1 rfl (lv_room (Nat.le_of_ble_eq_true rfl)) dX8_inBags_21 ⟨(Nat.le_of_ble_eq_true rfl), (Nat.le_of_ble_eq_true rfl)⟩) hS hA hD (fun r_14 I_10 J_11 S_12 L_13 H locs hP hD hS h => ?_)
          obtain ⟨hi, h⟩ := h
          refine va_lald hx hb hK hP 25 24 (wM_at25 _ _ _ _ _ _) rfl hi dX8_inBags_24 ?_
          refine lv_ladd hx hb dX8_inBags_25 ?_
          refine lv_topl (fun y_15 ey_15 => ?_)
          have h := h y_15 ey_15
          refine lv_lstore_n (lv' := [(2, .long y_15), (0, .ref (a 0)), (1, .int p0), (4, .int x_9)]) hx hb dX8_inBags_26 rfl hl (by decide) rfl (fun ls hl => ?_)
          obtain ⟨x_16, ex_16⟩ : ∃ z : Int32, z = x_9 + 1 := ⟨_, rfl⟩
          have h := h x_16 ex_16
          refine lv_iinc (v := x_16) (lv' := [(4, .int x_16), (2, .long y_15), (0, .ref (a 0)), (1, .int p0)]) hx hb dX8_inBags_27 hl (k := 3) rfl (by rw [ex_16]; rfl) (by decide) rfl (fun ls hl => ?_)
          refine lv_goto (tgt := 5) hx hb dX8_inBags_30 (by decide) ?_
          obtain ⟨n_17, hn2, h⟩ := h
          exact ihV_1 n_17 hn2 I_10 J_11 S_12 L_13 y_15 x_16 _ _ _ hP hD hS (lv_sub hl [2, 3, 1, 0] rfl) h
  exact lV_1 n_3 I J S L (0 : Int64) (0 : Int32) _ _ _ hP hD hS (lv_sub hl [2, 3, 1, 0] rfl) h0V_1
def wp_X8_has (I : TI) (J : TJ) (S : TS) (L : TL) (p0 : Int32) (p1 : Int32) (Φ : Int64 → TI → TJ → TS → TL → Prop) : Prop := ∃ B_1 : TI → TJ → TS → TL → Prop, (∀ (I_2 : TI) (J_3 : TJ) (S_4 : TS) (L_5 : TL), B_1 I_2 J_3 S_4 L_5 → (Φ (-1 : Int64) I_2 J_3 S_4 L_5)) ∧ (((p0 < 0) → (B_1 I J S L)) ∧ ((¬ p0 < 0) → (((p0 < (S 1)) → (((¬ p1 = 0) → (((¬ p1 = (1 : Int32)) → (((¬ p1 = (2 : Int32)) → (∃ B_6 : TI → TJ → TS → TL → Int64 → Prop, (∀ (I_7 : TI) (J_8 : TJ) (S_9 : TS) (L_10 : TL) (s_11 : Int64), B_6 I_7 J_8 S_9 L_10 s_11 → (Φ s_11 I_7 J_8 S_9 L_10)) ∧ (∃ B_12 : TI → TJ → TS → TL → Prop, (∀ (I_13 : TI) (J_14 : TJ) (S_15 : TS) (L_16 : TL), B_12 I_13 J_14 S_15 L_16 → (B_6 I_13 J_14 S_15 L_16 (0 : Int64))) ∧ (((p1 < (20 : Int32)) → (B_12 I J S L)) ∧ ((¬ p1 < (20 : Int32)) → ((((60 : Int32) ≤ p1) → (B_12 I J S L)) ∧ ((¬ (60 : Int32) ≤ p1) → (wp_X8_bag I J S L (0 : Int32) p0 (p1 - (20 : Int32)) (fun (r_21 : Int32) (I_17 : TI) (J_18 : TJ) (S_19 : TS) (L_20 : TL) => ((vp_in r_21 1920) ∧ (B_6 I_17 J_18 S_19 L_20 (J_18 25 (r_21).toNatClampNeg)))))))))))) ∧ ((p1 = (2 : Int32)) → ((vp_in p0 24) ∧ (∃ B_22 : TI → TJ → TS → TL → Int64 → Prop, (∀ (I_23 : TI) (J_24 : TJ) (S_25 : TS) (L_26 : TL) (s_27 : Int64), B_22 I_23 J_24 S_25 L_26 s_27 → (Φ s_27 I_23 J_24 S_25 L_26)) ∧ (((¬ (I 5 (p0).toNatClampNeg) = (1 : Int32)) → ((vp_in p0 24) ∧ (((¬ (I 5 (p0).toNatClampNeg) = (4 : Int32)) → (B_22 I J S L (0 : Int64))) ∧ (((I 5 (p0).toNatClampNeg) = (4 : Int32)) → (wp_X8_inBags I J S L p0 (fun (r_32 : Int64) (I_28 : TI) (J_29 : TJ) (S_30 : TS) (L_31 : TL) => (B_22 I_28 J_29 S_30 L_31 r_32))))))) ∧ (((I 5 (p0).toNatClampNeg) = (1 : Int32)) → ((vp_in p0 24) ∧ ((vp_in p0 48) ∧ (B_22 I J S L (((((I 9 (p0).toNatClampNeg)).toInt64) * (1000000 : Int64)) - (J 23 (p0).toNatClampNeg)))))))))))) ∧ ((p1 = (1 : Int32)) → ((vp_in p0 48) ∧ (Φ (J 24 (p0).toNatClampNeg) I J S L))))) ∧ ((p1 = 0) → ((vp_in p0 48) ∧ (Φ (J 23 (p0).toNatClampNeg) I J S L))))) ∧ ((¬ p0 < (S 1)) → (B_1 I J S L)))))
theorem kX8_has_2 : Cond.constantLong RX8 227 (-1) ∈ wsX8_has := List.mem_of_getElem? (i := 2) rfl
theorem nX8_has_X8 : ∀ w ∈ wsX80, w ∈ wsX8_has := fun _ h => List.mem_cons_of_mem _ (List.mem_append_right _ h)
theorem kX8_has_8 : Cond.fieldLink RX8 84 "SongOfficeModel" "bags" "[J" ∈ wsX8_has := List.mem_of_getElem? (i := 8) rfl
theorem kX8_has_5 : Cond.fieldLink RX8 22 "SongOfficeModel" "kind" "[I" ∈ wsX8_has := List.mem_of_getElem? (i := 5) rfl
theorem kX8_has_3 : Cond.fieldLink RX8 78 "SongOfficeModel" "kept" "[J" ∈ wsX8_has := List.mem_of_getElem? (i := 3) rfl
theorem kX8_has_7 : Cond.constantLong RX8 194 (1000000) ∈ wsX8_has := List.mem_of_getElem? (i := 7) rfl
theorem kX8_has_6 : Cond.fieldLink RX8 34 "SongOfficeModel" "bx" "[I" ∈ wsX8_has := List.mem_of_getElem? (i := 6) rfl
theorem kX8_has_4 : Cond.fieldLink RX8 81 "SongOfficeModel" "came" "[J" ∈ wsX8_has := List.mem_of_getElem? (i := 4) rfl
theorem kX8_has_1 : Cond.fieldLink RX8 157 "SongOfficeModel" "bargains" "I" ∈ wsX8_has := List.mem_of_getElem? (i := 1) rfl
abbrev rmX8_has : Room := { frames := 2, cells := 0, slots := 0, locals := 46 }
set_option maxHeartbeats 4000000 in
set_option maxRecDepth 100000 in
theorem c_X8_has (l : Launch) (dC : Nat → ClassId) (dI : Nat → Nat → Nat) (a : Nat → Nat) (cy : Nat → ClassId) (sz : Nat) (I : TI) (J : TJ) (S : TS) (L : TL) (p0 : Int32) (p1 : Int32) (Φ : Int64 → TI → TJ → TS → TL → Prop) (h : wp_X8_has I J S L p0 p1 Φ) : Met l yX8_has wsX8_has rmX8_has (va_Pc [.ref (a 0), .int p0, .int p1] (gpre dC dI (wM a cy I J S L) (tyM cy) sz)) (gQl dC dI (wM a cy) (tyM cy) (va_A (wM a cy I J S L) sz) Φ) 0 0 (va_A (wM a cy I J S L) sz) := by
  refine Met.ofW (cc := cX8_has) (maxL := 3) (ret := (some .long)) (by decide) rfl ?_
  intro p e s m args below meth c s₁ B hml hv
  obtain ⟨hargs, hsz, hP, hK, hD0, hN⟩ := hv
  have hx := B.exec
  have hb := B.bytes
  have hr := B.returns
  have hts := atoms_spec (ws := wsX8_has) B.pre
  have hown : s.vm.findClass RX8 = some m.cls := findClass_of_methodNamed B.named
  have hlocks := B.notSynchronized
  subst hsz
  have hD := hD0.self (sz := s.heap.size)
  generalize hAe : va_A (wM a cy I J S L) s.heap.size = A at hD ⊢
  have hA : ∀ q : Nat, s.heap.size ≤ q → A q := fun q h => by rw [← hAe]; exact Or.inr h
  obtain ⟨H, hH⟩ : ∃ z : Heap, z = s.heap := ⟨_, rfl⟩
  rw [← hH] at hP
  have hS : va_S A s.heap H [] := by rw [hH]; exact va_S.rf
  have hl := lv_entry ([.ref (a 0), .int p0, .int p1]) (n := 3) (Nat.le_of_ble_eq_true rfl)
  have hE : entryFrame m args 3 = F0 m 0 ((lg_sl ([.ref (a 0), .int p0, .int p1]) ++ List.replicate (3 - (lg_sl ([.ref (a 0), .int p0, .int p1])).length) Slot.unset).toArray) [] := by rw [hargs]; exact lg_entry_eq m _ _
  rw [hE, ← hH]
  clear hE
  generalize (lg_sl ([.ref (a 0), .int p0, .int p1]) ++ List.replicate (3 - (lg_sl ([.ref (a 0), .int p0, .int p1])).length) Slot.unset).toArray = ls at hl ⊢
  have hl : lv_has ls 3 [(0, .ref (a 0)), (1, .int p0), (2, .int p1)] := hl
  unfold wp_X8_has at h
  refine lv_iload_n hx hb dX8_has_0 rfl (lv_at hl 1 rfl) ?_
  obtain ⟨B_1, hB_1, h⟩ := h
  have jB_1 : ∀ (I_2 : TI) (J_3 : TJ) (S_4 : TS) (L_5 : TL) (H : Heap) (locs : List Loc) (ls : Array Slot), va_P (dC, dI) vwCl (wM a cy I_2 J_3 S_4 L_5) H → va_D A (wM a cy I_2 J_3 S_4 L_5) → va_S A s.heap H locs → lv_has ls 3 [] → B_1 I_2 J_3 S_4 L_5 → W p l e (headSpec wsX8_has rmX8_has).room s m args below meth c H locs 0 0 (MQ below (gQl dC dI (wM a cy) (tyM cy) A Φ) args s 0 0 A) (F0 m 12 ls []) := by
    intro I_2 J_3 S_4 L_5 H locs ls hP hD hS hl h
    have h := hB_1 I_2 J_3 S_4 L_5 h
    refine lv_ldc2 (v := -1) hx hb hown (hts (.constantLong RX8 227 (-1)) kX8_has_2) dX8_has_12 ?_
    exact grl hx hb hr hlocks hP hK hD hS h dX8_has_15
  refine lv_if_lt (tgt := 12) hx hb dX8_has_1 (by decide) (fun hc => ?_) (fun hc => ?_)
  · have h := h.1 hc
    exact jB_1 I J S L _ _ _ hP hD hS (lv_sub hl [] rfl) h
  · have h := h.2 hc
    refine lv_iload_n hx hb dX8_has_4 rfl (lv_at hl 1 rfl) ?_
    refine lv_aload_n hx hb dX8_has_5 rfl (lv_at hl 0 rfl) ?_
    refine va_get (D := (dC, dI)) (ci := 8) (v := .int (S 1)) (C := RX8) (T := TX8) (N := 47) hx hb hts nX8_has_X8 hown hK hP 0 (wM_at0 _ _ _ _ _ _) rfl 5 (by decide) (hts (.fieldLink RX8 157 "SongOfficeModel" "bargains" "I") kX8_has_1) (fun _ h9 => h9) rfl dX8_has_6 ?_
    refine lv_icmp_lt (tgt := 16) hx hb dX8_has_9 (by decide) (fun hc => ?_) (fun hc => ?_)
    · have h := h.1 hc
      refine lv_iload_n hx hb dX8_has_16 rfl (lv_at hl 2 rfl) ?_
      refine lv_if_ne (tgt := 27) hx hb dX8_has_17 (by decide) (fun hc => ?_) (fun hc => ?_)
      · have h := h.1 hc
        refine lv_iload_n hx hb dX8_has_27 rfl (lv_at hl 2 rfl) ?_
        refine lv_iconst (v := 1) hx hb dX8_has_28 (by decide) ?_
        refine lv_icmp_ne (tgt := 39) hx hb dX8_has_29 (by decide) (fun hc => ?_) (fun hc => ?_)
        · have h := h.1 hc
          refine lv_iload_n hx hb dX8_has_39 rfl (lv_at hl 2 rfl) ?_
          refine lv_iconst (v := 2) hx hb dX8_has_40 (by decide) ?_
          refine lv_icmp_ne (tgt := 95) hx hb dX8_has_41 (by decide) (fun hc => ?_) (fun hc => ?_)
          · have h := h.1 hc
            refine lv_iload_n hx hb dX8_has_95 rfl (lv_at hl 2 rfl) ?_
            refine lv_bipush (v := 20) hx hb dX8_has_96 (by decide) ?_
            obtain ⟨B_6, hB_6, h⟩ := h
            have jB_6 : ∀ (I_7 : TI) (J_8 : TJ) (S_9 : TS) (L_10 : TL) (s_11 : Int64) (H : Heap) (locs : List Loc) (ls : Array Slot), va_P (dC, dI) vwCl (wM a cy I_7 J_8 S_9 L_10) H → va_D A (wM a cy I_7 J_8 S_9 L_10) → va_S A s.heap H locs → lv_has ls 3 [] → B_6 I_7 J_8 S_9 L_10 s_11 → W p l e (headSpec wsX8_has rmX8_has).room s m args below meth c H locs 0 0 (MQ below (gQl dC dI (wM a cy) (tyM cy) A Φ) args s 0 0 A) (F0 m 125 ls [.long s_11]) := by
              intro I_7 J_8 S_9 L_10 s_11 H locs ls hP hD hS hl h
              have h := hB_6 I_7 J_8 S_9 L_10 s_11 h
              exact grl hx hb hr hlocks hP hK hD hS h dX8_has_125
            obtain ⟨B_12, hB_12, h⟩ := h
            have jB_12 : ∀ (I_13 : TI) (J_14 : TJ) (S_15 : TS) (L_16 : TL) (H : Heap) (locs : List Loc) (ls : Array Slot), va_P (dC, dI) vwCl (wM a cy I_13 J_14 S_15 L_16) H → va_D A (wM a cy I_13 J_14 S_15 L_16) → va_S A s.heap H locs → lv_has ls 3 [] → B_12 I_13 J_14 S_15 L_16 → W p l e (headSpec wsX8_has rmX8_has).room s m args below meth c H locs 0 0 (MQ below (gQl dC dI (wM a cy) (tyM cy) A Φ) args s 0 0 A) (F0 m 124 ls []) := by
              intro I_13 J_14 S_15 L_16 H locs ls hP hD hS hl h
              have h := hB_12 I_13 J_14 S_15 L_16 h
              refine lv_lconst (v := 0) hx hb dX8_has_124 (by decide) ?_
              exact jB_6 I_13 J_14 S_15 L_16 (0 : Int64) _ _ _ hP hD hS (lv_sub hl [] rfl) h
            refine lv_icmp_lt (tgt := 124) hx hb dX8_has_98 (by decide) (fun hc => ?_) (fun hc => ?_)
            · have h := h.1 hc
              exact jB_12 I J S L _ _ _ hP hD hS (lv_sub hl [] rfl) h
            · have h := h.2 hc
              refine lv_iload_n hx hb dX8_has_101 rfl (lv_at hl 2 rfl) ?_
              refine lv_bipush (v := 60) hx hb dX8_has_102 (by decide) ?_
              refine lv_icmp_ge (tgt := 124) hx hb dX8_has_104 (by decide) (fun hc => ?_) (fun hc => ?_)
              · have h := h.1 hc
                exact jB_12 I J S L _ _ _ hP hD hS (lv_sub hl [] rfl) h
              · have h := h.2 hc
                refine lv_aload_n hx hb dX8_has_107 rfl (lv_at hl 0 rfl) ?_
                refine va_get (D := (dC, dI)) (ci := 8) (v := .ref (a 25)) (C := RX8) (T := TX8) (N := 47) hx hb hts nX8_has_X8 hown hK hP 0 (wM_at0 _ _ _ _ _ _) rfl 26 (by decide) (hts (.fieldLink RX8 84 "SongOfficeModel" "bags" "[J") kX8_has_8) (fun _ h9 => h9) rfl dX8_has_108 ?_
                refine lv_iconst (v := 0) hx hb dX8_has_111 (by decide) ?_
                refine lv_iload_n hx hb dX8_has_112 rfl (lv_at hl 1 rfl) ?_
                refine lv_iload_n hx hb dX8_has_113 rfl (lv_at hl 2 rfl) ?_
                refine lv_bipush (v := 20) hx hb dX8_has_114 (by decide) ?_
                refine lv_isub hx hb dX8_has_116 ?_
                refine gcalli (va_runS (As := [.int (0 : Int32), .int p0, .int (p1 - (20 : Int32))]) (rest := [.ref (a 25)]) ⟨hx, hb, hml, hown, hts⟩ (c_X8_bag l dC dI (wM a cy) (tyM cy) H.size I J S L (0 : Int32) p0 (p1 - (20 : Int32)) _ h) (va_cwS 3 hts gX8_has_X8_bag rfl rfl rfl (by decide +kernel) ⟨(Nat.le_of_ble_eq_true rfl), (Nat.le_of_ble_eq_true rfl)⟩) (g_pS hP hK hD hN [.int (0 : Int32), .int p0, .int (p1 - (20 : Int32))]) rfl rfl hl.1 rfl (lv_room (Nat.le_of_ble_eq_true rfl)) dX8_has_117 ⟨(Nat.le_of_ble_eq_true rfl), (Nat.le_of_ble_eq_true rfl)⟩) hS hA hD (fun r_21 I_17 J_18 S_19 L_20 H locs hP hD hS h => ?_)
                obtain ⟨hi, h⟩ := h
                refine va_lald hx hb hK hP 25 24 (wM_at25 _ _ _ _ _ _) rfl hi dX8_has_120 ?_
                refine lv_goto (tgt := 125) hx hb dX8_has_121 (by decide) ?_
                exact jB_6 I_17 J_18 S_19 L_20 (J_18 25 (r_21).toNatClampNeg) _ _ _ hP hD hS (lv_sub hl [] rfl) h
          · have h := h.2 hc
            refine lv_aload_n hx hb dX8_has_44 rfl (lv_at hl 0 rfl) ?_
            refine va_get (D := (dC, dI)) (ci := 8) (v := .ref (a 5)) (C := RX8) (T := TX8) (N := 47) hx hb hts nX8_has_X8 hown hK hP 0 (wM_at0 _ _ _ _ _ _) rfl 6 (by decide) (hts (.fieldLink RX8 22 "SongOfficeModel" "kind" "[I") kX8_has_5) (fun _ h9 => h9) rfl dX8_has_45 ?_
            refine lv_iload_n hx hb dX8_has_48 rfl (lv_at hl 1 rfl) ?_
            obtain ⟨hi, h⟩ := h
            refine va_iald hx hb hK hP 5 4 (wM_at5 _ _ _ _ _ _) rfl hi dX8_has_49 ?_
            refine lv_iconst (v := 1) hx hb dX8_has_50 (by decide) ?_
            obtain ⟨B_22, hB_22, h⟩ := h
            have jB_22 : ∀ (I_23 : TI) (J_24 : TJ) (S_25 : TS) (L_26 : TL) (s_27 : Int64) (H : Heap) (locs : List Loc) (ls : Array Slot), va_P (dC, dI) vwCl (wM a cy I_23 J_24 S_25 L_26) H → va_D A (wM a cy I_23 J_24 S_25 L_26) → va_S A s.heap H locs → lv_has ls 3 [] → B_22 I_23 J_24 S_25 L_26 s_27 → W p l e (headSpec wsX8_has rmX8_has).room s m args below meth c H locs 0 0 (MQ below (gQl dC dI (wM a cy) (tyM cy) A Φ) args s 0 0 A) (F0 m 94 ls [.long s_27]) := by
              intro I_23 J_24 S_25 L_26 s_27 H locs ls hP hD hS hl h
              have h := hB_22 I_23 J_24 S_25 L_26 s_27 h
              exact grl hx hb hr hlocks hP hK hD hS h dX8_has_94
            refine lv_icmp_ne (tgt := 75) hx hb dX8_has_51 (by decide) (fun hc => ?_) (fun hc => ?_)
            · have h := h.1 hc
              refine lv_aload_n hx hb dX8_has_75 rfl (lv_at hl 0 rfl) ?_
              refine va_get (D := (dC, dI)) (ci := 8) (v := .ref (a 5)) (C := RX8) (T := TX8) (N := 47) hx hb hts nX8_has_X8 hown hK hP 0 (wM_at0 _ _ _ _ _ _) rfl 6 (by decide) (hts (.fieldLink RX8 22 "SongOfficeModel" "kind" "[I") kX8_has_5) (fun _ h9 => h9) rfl dX8_has_76 ?_
              refine lv_iload_n hx hb dX8_has_79 rfl (lv_at hl 1 rfl) ?_
              obtain ⟨hi, h⟩ := h
              refine va_iald hx hb hK hP 5 4 (wM_at5 _ _ _ _ _ _) rfl hi dX8_has_80 ?_
              refine lv_iconst (v := 4) hx hb dX8_has_81 (by decide) ?_
              refine lv_icmp_ne (tgt := 93) hx hb dX8_has_82 (by decide) (fun hc => ?_) (fun hc => ?_)
              · have h := h.1 hc
                refine lv_lconst (v := 0) hx hb dX8_has_93 (by decide) ?_
                exact jB_22 I J S L (0 : Int64) _ _ _ hP hD hS (lv_sub hl [] rfl) h
              · have h := h.2 hc
                refine lv_aload_n hx hb dX8_has_85 rfl (lv_at hl 0 rfl) ?_
                refine lv_iload_n hx hb dX8_has_86 rfl (lv_at hl 1 rfl) ?_
                refine gcalll (va_runV (As := [.int p0]) (rest := []) ⟨hx, hb, hml, hown, hts⟩ (c_X8_inBags l dC dI a cy H.size I J S L p0 _ h) (cwV 1 hts gX8_has_X8_inBags rfl rfl rfl (by decide +kernel) ⟨(Nat.le_of_ble_eq_true rfl), (Nat.le_of_ble_eq_true rfl)⟩) (g_pV hP hK hD hN (va_recv hK hP (ci := 8) (q0 := 0) rfl (wM_at0 _ _ _ _ _ _)) [.int p0]) rfl rfl hl.1 rfl (lv_room (Nat.le_of_ble_eq_true rfl)) dX8_has_87 ⟨(Nat.le_of_ble_eq_true rfl), (Nat.le_of_ble_eq_true rfl)⟩) hS hA hD (fun r_32 I_28 J_29 S_30 L_31 H locs hP hD hS h => ?_)
                refine lv_goto (tgt := 94) hx hb dX8_has_90 (by decide) ?_
                exact jB_22 I_28 J_29 S_30 L_31 r_32 _ _ _ hP hD hS (lv_sub hl [] rfl) h
            · have h := h.2 hc
              refine lv_aload_n hx hb dX8_has_54 rfl (lv_at hl 0 rfl) ?_
              refine va_get (D := (dC, dI)) (ci := 8) (v := .ref (a 9)) (C := RX8) (T := TX8) (N := 47) hx hb hts nX8_has_X8 hown hK hP 0 (wM_at0 _ _ _ _ _ _) rfl 10 (by decide) (hts (.fieldLink RX8 34 "SongOfficeModel" "bx" "[I") kX8_has_6) (fun _ h9 => h9) rfl dX8_has_55 ?_
              refine lv_iload_n hx hb dX8_has_58 rfl (lv_at hl 1 rfl) ?_
              obtain ⟨hi, h⟩ := h
              refine va_iald hx hb hK hP 9 8 (wM_at9 _ _ _ _ _ _) rfl hi dX8_has_59 ?_
              refine lv_i2l (v := (((I 9 (p0).toNatClampNeg)).toInt64)) hx hb dX8_has_60 rfl ?_
              refine lv_ldc2 (v := 1000000) hx hb hown (hts (.constantLong RX8 194 (1000000)) kX8_has_7) dX8_has_61 ?_
              refine lv_lmul hx hb dX8_has_64 ?_
              refine lv_aload_n hx hb dX8_has_65 rfl (lv_at hl 0 rfl) ?_
              refine va_get (D := (dC, dI)) (ci := 8) (v := .ref (a 23)) (C := RX8) (T := TX8) (N := 47) hx hb hts nX8_has_X8 hown hK hP 0 (wM_at0 _ _ _ _ _ _) rfl 24 (by decide) (hts (.fieldLink RX8 78 "SongOfficeModel" "kept" "[J") kX8_has_3) (fun _ h9 => h9) rfl dX8_has_66 ?_
              refine lv_iload_n hx hb dX8_has_69 rfl (lv_at hl 1 rfl) ?_
              obtain ⟨hi, h⟩ := h
              refine va_lald hx hb hK hP 23 22 (wM_at23 _ _ _ _ _ _) rfl hi dX8_has_70 ?_
              refine lv_lsub hx hb dX8_has_71 ?_
              refine lv_goto (tgt := 94) hx hb dX8_has_72 (by decide) ?_
              exact jB_22 I J S L (((((I 9 (p0).toNatClampNeg)).toInt64) * (1000000 : Int64)) - (J 23 (p0).toNatClampNeg)) _ _ _ hP hD hS (lv_sub hl [] rfl) h
        · have h := h.2 hc
          refine lv_aload_n hx hb dX8_has_32 rfl (lv_at hl 0 rfl) ?_
          refine va_get (D := (dC, dI)) (ci := 8) (v := .ref (a 24)) (C := RX8) (T := TX8) (N := 47) hx hb hts nX8_has_X8 hown hK hP 0 (wM_at0 _ _ _ _ _ _) rfl 25 (by decide) (hts (.fieldLink RX8 81 "SongOfficeModel" "came" "[J") kX8_has_4) (fun _ h9 => h9) rfl dX8_has_33 ?_
          refine lv_iload_n hx hb dX8_has_36 rfl (lv_at hl 1 rfl) ?_
          obtain ⟨hi, h⟩ := h
          refine va_lald hx hb hK hP 24 23 (wM_at24 _ _ _ _ _ _) rfl hi dX8_has_37 ?_
          exact grl hx hb hr hlocks hP hK hD hS h dX8_has_38
      · have h := h.2 hc
        refine lv_aload_n hx hb dX8_has_20 rfl (lv_at hl 0 rfl) ?_
        refine va_get (D := (dC, dI)) (ci := 8) (v := .ref (a 23)) (C := RX8) (T := TX8) (N := 47) hx hb hts nX8_has_X8 hown hK hP 0 (wM_at0 _ _ _ _ _ _) rfl 24 (by decide) (hts (.fieldLink RX8 78 "SongOfficeModel" "kept" "[J") kX8_has_3) (fun _ h9 => h9) rfl dX8_has_21 ?_
        refine lv_iload_n hx hb dX8_has_24 rfl (lv_at hl 1 rfl) ?_
        obtain ⟨hi, h⟩ := h
        refine va_lald hx hb hK hP 23 22 (wM_at23 _ _ _ _ _ _) rfl hi dX8_has_25 ?_
        exact grl hx hb hr hlocks hP hK hD hS h dX8_has_26
    · have h := h.2 hc
      exact jB_1 I J S L _ _ _ hP hD hS (lv_sub hl [] rfl) h
def wp_X8_line (I : TI) (J : TJ) (S : TS) (L : TL) (p0 : Int32) (p1 : Int32) (Φ : Int64 → TI → TJ → TS → TL → Prop) : Prop := ∃ B_1 : TI → TJ → TS → TL → Prop, (∀ (I_2 : TI) (J_3 : TJ) (S_4 : TS) (L_5 : TL), B_1 I_2 J_3 S_4 L_5 → (Φ (-1 : Int64) I_2 J_3 S_4 L_5)) ∧ (((p0 < 0) → (B_1 I J S L)) ∧ ((¬ p0 < 0) → ((((S 3) ≤ p0) → (B_1 I J S L)) ∧ ((¬ (S 3) ≤ p0) → (((p0 < (600 : Int32)) → (((p1 = nI 0) → ((vp_in p0 600) ∧ (Φ (((I 33 (p0).toNatClampNeg)).toInt64) I J S L))) ∧ ((p1 = nI 1) → ((vp_in p0 600) ∧ (Φ (((I 34 (p0).toNatClampNeg)).toInt64) I J S L))) ∧ ((p1 = nI 2) → ((vp_in p0 600) ∧ (Φ (((I 35 (p0).toNatClampNeg)).toInt64) I J S L))) ∧ ((p1 = nI 3) → ((vp_in p0 600) ∧ (Φ (J 36 (p0).toNatClampNeg) I J S L))) ∧ ((p1 = nI 4) → ((vp_in p0 600) ∧ (Φ (J 37 (p0).toNatClampNeg) I J S L))) ∧ ((∀ k, k < 5 → ¬ p1 = nI k) → (Φ (-1 : Int64) I J S L)))) ∧ ((¬ p0 < (600 : Int32)) → (B_1 I J S L)))))))
theorem kX8_line_2 : Cond.constantLong RX8 227 (-1) ∈ wsX8_line := List.mem_of_getElem? (i := 2) rfl
theorem nX8_line_X8 : ∀ w ∈ wsX80, w ∈ wsX8_line := fun _ h => List.mem_cons_of_mem _ (List.mem_append_right _ h)
theorem kX8_line_3 : Cond.fieldLink RX8 108 "SongOfficeModel" "toldWork" "[I" ∈ wsX8_line := List.mem_of_getElem? (i := 3) rfl
theorem kX8_line_4 : Cond.fieldLink RX8 111 "SongOfficeModel" "toldHand" "[I" ∈ wsX8_line := List.mem_of_getElem? (i := 4) rfl
theorem kX8_line_5 : Cond.fieldLink RX8 114 "SongOfficeModel" "toldFrom" "[I" ∈ wsX8_line := List.mem_of_getElem? (i := 5) rfl
theorem kX8_line_6 : Cond.fieldLink RX8 117 "SongOfficeModel" "toldMites" "[J" ∈ wsX8_line := List.mem_of_getElem? (i := 6) rfl
theorem kX8_line_7 : Cond.fieldLink RX8 120 "SongOfficeModel" "toldPurse" "[J" ∈ wsX8_line := List.mem_of_getElem? (i := 7) rfl
theorem kX8_line_1 : Cond.fieldLink RX8 178 "SongOfficeModel" "lines" "I" ∈ wsX8_line := List.mem_of_getElem? (i := 1) rfl
abbrev rmX8_line : Room := { frames := 0, cells := 0, slots := 0, locals := 0 }
set_option maxHeartbeats 4000000 in
set_option maxRecDepth 100000 in
theorem c_X8_line (l : Launch) (dC : Nat → ClassId) (dI : Nat → Nat → Nat) (a : Nat → Nat) (cy : Nat → ClassId) (sz : Nat) (I : TI) (J : TJ) (S : TS) (L : TL) (p0 : Int32) (p1 : Int32) (Φ : Int64 → TI → TJ → TS → TL → Prop) (h : wp_X8_line I J S L p0 p1 Φ) : Met l yX8_line wsX8_line rmX8_line (va_Pc [.ref (a 0), .int p0, .int p1] (gpre dC dI (wM a cy I J S L) (tyM cy) sz)) (gQl dC dI (wM a cy) (tyM cy) (va_A (wM a cy I J S L) sz) Φ) 0 0 (va_A (wM a cy I J S L) sz) := by
  refine Met.ofW (cc := cX8_line) (maxL := 3) (ret := (some .long)) (by decide) rfl ?_
  intro p e s m args below meth c s₁ B hml hv
  obtain ⟨hargs, hsz, hP, hK, hD0, hN⟩ := hv
  have hx := B.exec
  have hb := B.bytes
  have hr := B.returns
  have hts := atoms_spec (ws := wsX8_line) B.pre
  have hown : s.vm.findClass RX8 = some m.cls := findClass_of_methodNamed B.named
  have hlocks := B.notSynchronized
  subst hsz
  have hD := hD0.self (sz := s.heap.size)
  generalize hAe : va_A (wM a cy I J S L) s.heap.size = A at hD ⊢
  have hA : ∀ q : Nat, s.heap.size ≤ q → A q := fun q h => by rw [← hAe]; exact Or.inr h
  obtain ⟨H, hH⟩ : ∃ z : Heap, z = s.heap := ⟨_, rfl⟩
  rw [← hH] at hP
  have hS : va_S A s.heap H [] := by rw [hH]; exact va_S.rf
  have hl := lv_entry ([.ref (a 0), .int p0, .int p1]) (n := 3) (Nat.le_of_ble_eq_true rfl)
  have hE : entryFrame m args 3 = F0 m 0 ((lg_sl ([.ref (a 0), .int p0, .int p1]) ++ List.replicate (3 - (lg_sl ([.ref (a 0), .int p0, .int p1])).length) Slot.unset).toArray) [] := by rw [hargs]; exact lg_entry_eq m _ _
  rw [hE, ← hH]
  clear hE
  generalize (lg_sl ([.ref (a 0), .int p0, .int p1]) ++ List.replicate (3 - (lg_sl ([.ref (a 0), .int p0, .int p1])).length) Slot.unset).toArray = ls at hl ⊢
  have hl : lv_has ls 3 [(0, .ref (a 0)), (1, .int p0), (2, .int p1)] := hl
  unfold wp_X8_line at h
  refine lv_iload_n hx hb dX8_line_0 rfl (lv_at hl 1 rfl) ?_
  obtain ⟨B_1, hB_1, h⟩ := h
  have jB_1 : ∀ (I_2 : TI) (J_3 : TJ) (S_4 : TS) (L_5 : TL) (H : Heap) (locs : List Loc) (ls : Array Slot), va_P (dC, dI) vwCl (wM a cy I_2 J_3 S_4 L_5) H → va_D A (wM a cy I_2 J_3 S_4 L_5) → va_S A s.heap H locs → lv_has ls 3 [] → B_1 I_2 J_3 S_4 L_5 → W p l e (headSpec wsX8_line rmX8_line).room s m args below meth c H locs 0 0 (MQ below (gQl dC dI (wM a cy) (tyM cy) A Φ) args s 0 0 A) (F0 m 19 ls []) := by
    intro I_2 J_3 S_4 L_5 H locs ls hP hD hS hl h
    have h := hB_1 I_2 J_3 S_4 L_5 h
    refine lv_ldc2 (v := -1) hx hb hown (hts (.constantLong RX8 227 (-1)) kX8_line_2) dX8_line_19 ?_
    exact grl hx hb hr hlocks hP hK hD hS h dX8_line_22
  refine lv_if_lt (tgt := 19) hx hb dX8_line_1 (by decide) (fun hc => ?_) (fun hc => ?_)
  · have h := h.1 hc
    exact jB_1 I J S L _ _ _ hP hD hS (lv_sub hl [] rfl) h
  · have h := h.2 hc
    refine lv_iload_n hx hb dX8_line_4 rfl (lv_at hl 1 rfl) ?_
    refine lv_aload_n hx hb dX8_line_5 rfl (lv_at hl 0 rfl) ?_
    refine va_get (D := (dC, dI)) (ci := 8) (v := .int (S 3)) (C := RX8) (T := TX8) (N := 47) hx hb hts nX8_line_X8 hown hK hP 0 (wM_at0 _ _ _ _ _ _) rfl 35 (by decide) (hts (.fieldLink RX8 178 "SongOfficeModel" "lines" "I") kX8_line_1) (fun _ h9 => h9) rfl dX8_line_6 ?_
    refine lv_icmp_ge (tgt := 19) hx hb dX8_line_9 (by decide) (fun hc => ?_) (fun hc => ?_)
    · have h := h.1 hc
      exact jB_1 I J S L _ _ _ hP hD hS (lv_sub hl [] rfl) h
    · have h := h.2 hc
      refine lv_iload_n hx hb dX8_line_12 rfl (lv_at hl 1 rfl) ?_
      refine lv_sipush (v := 600) hx hb dX8_line_13 (by decide) ?_
      refine lv_icmp_lt (tgt := 23) hx hb dX8_line_16 (by decide) (fun hc => ?_) (fun hc => ?_)
      · have h := h.1 hc
        refine lv_iload_n hx hb dX8_line_23 rfl (lv_at hl 2 rfl) ?_
        by_cases hc0 : p1 = nI 0
        · have h := h.1 hc0
          refine lv_tableIn (off := 36) (tgt := 60) hx hb dX8_line_24 (by rw [hc0]; decide) (by rw [hc0]; decide) (by rw [hc0]; decide) (by decide) ?_
          refine lv_aload_n hx hb dX8_line_60 rfl (lv_at hl 0 rfl) ?_
          refine va_get (D := (dC, dI)) (ci := 8) (v := .ref (a 33)) (C := RX8) (T := TX8) (N := 47) hx hb hts nX8_line_X8 hown hK hP 0 (wM_at0 _ _ _ _ _ _) rfl 36 (by decide) (hts (.fieldLink RX8 108 "SongOfficeModel" "toldWork" "[I") kX8_line_3) (fun _ h9 => h9) rfl dX8_line_61 ?_
          refine lv_iload_n hx hb dX8_line_64 rfl (lv_at hl 1 rfl) ?_
          obtain ⟨hi, h⟩ := h
          refine va_iald hx hb hK hP 33 32 (wM_at33 _ _ _ _ _ _) rfl hi dX8_line_65 ?_
          refine lv_i2l (v := (((I 33 (p0).toNatClampNeg)).toInt64)) hx hb dX8_line_66 rfl ?_
          exact grl hx hb hr hlocks hP hK hD hS h dX8_line_67
        by_cases hc1 : p1 = nI 1
        · have h := h.2.1 hc1
          refine lv_tableIn (off := 44) (tgt := 68) hx hb dX8_line_24 (by rw [hc1]; decide) (by rw [hc1]; decide) (by rw [hc1]; decide) (by decide) ?_
          refine lv_aload_n hx hb dX8_line_68 rfl (lv_at hl 0 rfl) ?_
          refine va_get (D := (dC, dI)) (ci := 8) (v := .ref (a 34)) (C := RX8) (T := TX8) (N := 47) hx hb hts nX8_line_X8 hown hK hP 0 (wM_at0 _ _ _ _ _ _) rfl 37 (by decide) (hts (.fieldLink RX8 111 "SongOfficeModel" "toldHand" "[I") kX8_line_4) (fun _ h9 => h9) rfl dX8_line_69 ?_
          refine lv_iload_n hx hb dX8_line_72 rfl (lv_at hl 1 rfl) ?_
          obtain ⟨hi, h⟩ := h
          refine va_iald hx hb hK hP 34 33 (wM_at34 _ _ _ _ _ _) rfl hi dX8_line_73 ?_
          refine lv_i2l (v := (((I 34 (p0).toNatClampNeg)).toInt64)) hx hb dX8_line_74 rfl ?_
          exact grl hx hb hr hlocks hP hK hD hS h dX8_line_75
        by_cases hc2 : p1 = nI 2
        · have h := h.2.2.1 hc2
          refine lv_tableIn (off := 52) (tgt := 76) hx hb dX8_line_24 (by rw [hc2]; decide) (by rw [hc2]; decide) (by rw [hc2]; decide) (by decide) ?_
          refine lv_aload_n hx hb dX8_line_76 rfl (lv_at hl 0 rfl) ?_
          refine va_get (D := (dC, dI)) (ci := 8) (v := .ref (a 35)) (C := RX8) (T := TX8) (N := 47) hx hb hts nX8_line_X8 hown hK hP 0 (wM_at0 _ _ _ _ _ _) rfl 38 (by decide) (hts (.fieldLink RX8 114 "SongOfficeModel" "toldFrom" "[I") kX8_line_5) (fun _ h9 => h9) rfl dX8_line_77 ?_
          refine lv_iload_n hx hb dX8_line_80 rfl (lv_at hl 1 rfl) ?_
          obtain ⟨hi, h⟩ := h
          refine va_iald hx hb hK hP 35 34 (wM_at35 _ _ _ _ _ _) rfl hi dX8_line_81 ?_
          refine lv_i2l (v := (((I 35 (p0).toNatClampNeg)).toInt64)) hx hb dX8_line_82 rfl ?_
          exact grl hx hb hr hlocks hP hK hD hS h dX8_line_83
        by_cases hc3 : p1 = nI 3
        · have h := h.2.2.2.1 hc3
          refine lv_tableIn (off := 60) (tgt := 84) hx hb dX8_line_24 (by rw [hc3]; decide) (by rw [hc3]; decide) (by rw [hc3]; decide) (by decide) ?_
          refine lv_aload_n hx hb dX8_line_84 rfl (lv_at hl 0 rfl) ?_
          refine va_get (D := (dC, dI)) (ci := 8) (v := .ref (a 36)) (C := RX8) (T := TX8) (N := 47) hx hb hts nX8_line_X8 hown hK hP 0 (wM_at0 _ _ _ _ _ _) rfl 39 (by decide) (hts (.fieldLink RX8 117 "SongOfficeModel" "toldMites" "[J") kX8_line_6) (fun _ h9 => h9) rfl dX8_line_85 ?_
          refine lv_iload_n hx hb dX8_line_88 rfl (lv_at hl 1 rfl) ?_
          obtain ⟨hi, h⟩ := h
          refine va_lald hx hb hK hP 36 35 (wM_at36 _ _ _ _ _ _) rfl hi dX8_line_89 ?_
          exact grl hx hb hr hlocks hP hK hD hS h dX8_line_90
        by_cases hc4 : p1 = nI 4
        · have h := h.2.2.2.2.1 hc4
          refine lv_tableIn (off := 67) (tgt := 91) hx hb dX8_line_24 (by rw [hc4]; decide) (by rw [hc4]; decide) (by rw [hc4]; decide) (by decide) ?_
          refine lv_aload_n hx hb dX8_line_91 rfl (lv_at hl 0 rfl) ?_
          refine va_get (D := (dC, dI)) (ci := 8) (v := .ref (a 37)) (C := RX8) (T := TX8) (N := 47) hx hb hts nX8_line_X8 hown hK hP 0 (wM_at0 _ _ _ _ _ _) rfl 40 (by decide) (hts (.fieldLink RX8 120 "SongOfficeModel" "toldPurse" "[J") kX8_line_7) (fun _ h9 => h9) rfl dX8_line_92 ?_
          refine lv_iload_n hx hb dX8_line_95 rfl (lv_at hl 1 rfl) ?_
          obtain ⟨hi, h⟩ := h
          refine va_lald hx hb hK hP 37 36 (wM_at37 _ _ _ _ _ _) rfl hi dX8_line_96 ?_
          exact grl hx hb hr hlocks hP hK hD hS h dX8_line_97
        have hno : ∀ k, k < 5 → ¬ p1 = nI k := fun k hk => by rcases (show k = 0 ∨ k = 1 ∨ k = 2 ∨ k = 3 ∨ k = 4 by omega) with rfl | rfl | rfl | rfl | rfl <;> assumption
        have h := h.2.2.2.2.2 hno
        refine lv_tableOut (tgt := 98) hx hb dX8_line_24 (sw_out 5 (by decide) hno) (by decide) ?_
        refine lv_ldc2 (v := -1) hx hb hown (hts (.constantLong RX8 227 (-1)) kX8_line_2) dX8_line_98 ?_
        exact grl hx hb hr hlocks hP hK hD hS h dX8_line_101
      · have h := h.2 hc
        exact jB_1 I J S L _ _ _ hP hD hS (lv_sub hl [] rfl) h
def wp_X8_count (I : TI) (J : TJ) (S : TS) (L : TL) (p0 : Int32) (Φ : Int64 → TI → TJ → TS → TL → Prop) : Prop := ((p0 = nI 0) → (Φ (((S 0)).toInt64) I J S L)) ∧ ((p0 = nI 1) → (Φ (((S 1)).toInt64) I J S L)) ∧ ((p0 = nI 2) → (Φ (((S 3)).toInt64) I J S L)) ∧ ((p0 = nI 3) → ((vp_in (0 : Int32) 2) ∧ (Φ (J 28 ((0 : Int32)).toNatClampNeg) I J S L))) ∧ ((p0 = nI 4) → (∃ V_1 : Nat → TI → TJ → TS → TL → Int64 → Int32 → Prop, (∃ n_3, V_1 n_3 I J S L (0 : Int64) (0 : Int32)) ∧ ∀ (n_2 : Nat) (I_4 : TI) (J_5 : TJ) (S_6 : TS) (L_7 : TL) (y_8 : Int64) (x_9 : Int32), V_1 n_2 I_4 J_5 S_6 L_7 y_8 x_9 → ((((12 : Int32) ≤ x_9) → (Φ y_8 I_4 J_5 S_6 L_7)) ∧ ((¬ (12 : Int32) ≤ x_9) → ((vp_in x_9 24) ∧ (∀ y_10 : Int64, y_10 = (y_8 + (((I_4 27 (x_9).toNatClampNeg)).toInt64)) → (∀ x_11 : Int32, x_11 = x_9 + 1 → (∃ n_12, n_12 < n_2 ∧ V_1 n_12 I_4 J_5 S_6 L_7 y_10 x_11)))))))) ∧ ((p0 = nI 5) → (Φ (L 0) I J S L)) ∧ ((p0 = nI 6) → (∃ B_13 : TI → TJ → TS → TL → Int64 → Prop, (∀ (I_14 : TI) (J_15 : TJ) (S_16 : TS) (L_17 : TL) (s_18 : Int64), B_13 I_14 J_15 S_16 L_17 s_18 → (Φ s_18 I_14 J_15 S_16 L_17)) ∧ (((¬ (S 0) = (40 : Int32)) → ((vp_in (S 0) 40) ∧ (B_13 I J S L (((I 19 ((S 0)).toNatClampNeg)).toInt64)))) ∧ (((S 0) = (40 : Int32)) → (B_13 I J S L (-1 : Int64)))))) ∧ ((p0 = nI 7) → (Φ (((S 5)).toInt64) I J S L)) ∧ ((∀ k, k < 8 → ¬ p0 = nI k) → (Φ (-1 : Int64) I J S L))
theorem nX8_count_X8 : ∀ w ∈ wsX80, w ∈ wsX8_count := fun _ h => List.mem_cons_of_mem _ (List.mem_append_right _ h)
theorem kX8_count_1 : Cond.fieldLink RX8 136 "SongOfficeModel" "term" "I" ∈ wsX8_count := List.mem_of_getElem? (i := 1) rfl
theorem kX8_count_2 : Cond.fieldLink RX8 157 "SongOfficeModel" "bargains" "I" ∈ wsX8_count := List.mem_of_getElem? (i := 2) rfl
theorem kX8_count_3 : Cond.fieldLink RX8 178 "SongOfficeModel" "lines" "I" ∈ wsX8_count := List.mem_of_getElem? (i := 3) rfl
theorem kX8_count_4 : Cond.fieldLink RX8 93 "SongOfficeModel" "cameIn" "[J" ∈ wsX8_count := List.mem_of_getElem? (i := 4) rfl
theorem kX8_count_5 : Cond.fieldLink RX8 90 "SongOfficeModel" "filled" "[I" ∈ wsX8_count := List.mem_of_getElem? (i := 5) rfl
theorem kX8_count_6 : Cond.fieldLink RX8 229 "SongOfficeModel" "sentAll" "J" ∈ wsX8_count := List.mem_of_getElem? (i := 6) rfl
theorem kX8_count_8 : Cond.fieldLink RX8 64 "SongOfficeModel" "torn" "[I" ∈ wsX8_count := List.mem_of_getElem? (i := 8) rfl
theorem kX8_count_7 : Cond.constantLong RX8 227 (-1) ∈ wsX8_count := List.mem_of_getElem? (i := 7) rfl
theorem kX8_count_9 : Cond.fieldLink RX8 258 "SongOfficeModel" "settled" "I" ∈ wsX8_count := List.mem_of_getElem? (i := 9) rfl
abbrev rmX8_count : Room := { frames := 0, cells := 0, slots := 0, locals := 0 }
set_option maxHeartbeats 4000000 in
set_option maxRecDepth 100000 in
theorem c_X8_count (l : Launch) (dC : Nat → ClassId) (dI : Nat → Nat → Nat) (a : Nat → Nat) (cy : Nat → ClassId) (sz : Nat) (I : TI) (J : TJ) (S : TS) (L : TL) (p0 : Int32) (Φ : Int64 → TI → TJ → TS → TL → Prop) (h : wp_X8_count I J S L p0 Φ) : Met l yX8_count wsX8_count rmX8_count (va_Pc [.ref (a 0), .int p0] (gpre dC dI (wM a cy I J S L) (tyM cy) sz)) (gQl dC dI (wM a cy) (tyM cy) (va_A (wM a cy I J S L) sz) Φ) 0 0 (va_A (wM a cy I J S L) sz) := by
  refine Met.ofW (cc := cX8_count) (maxL := 5) (ret := (some .long)) (by decide) rfl ?_
  intro p e s m args below meth c s₁ B hml hv
  obtain ⟨hargs, hsz, hP, hK, hD0, hN⟩ := hv
  have hx := B.exec
  have hb := B.bytes
  have hr := B.returns
  have hts := atoms_spec (ws := wsX8_count) B.pre
  have hown : s.vm.findClass RX8 = some m.cls := findClass_of_methodNamed B.named
  have hlocks := B.notSynchronized
  subst hsz
  have hD := hD0.self (sz := s.heap.size)
  generalize hAe : va_A (wM a cy I J S L) s.heap.size = A at hD ⊢
  have hA : ∀ q : Nat, s.heap.size ≤ q → A q := fun q h => by rw [← hAe]; exact Or.inr h
  obtain ⟨H, hH⟩ : ∃ z : Heap, z = s.heap := ⟨_, rfl⟩
  rw [← hH] at hP
  have hS : va_S A s.heap H [] := by rw [hH]; exact va_S.rf
  have hl := lv_entry ([.ref (a 0), .int p0]) (n := 5) (Nat.le_of_ble_eq_true rfl)
  have hE : entryFrame m args 5 = F0 m 0 ((lg_sl ([.ref (a 0), .int p0]) ++ List.replicate (5 - (lg_sl ([.ref (a 0), .int p0])).length) Slot.unset).toArray) [] := by rw [hargs]; exact lg_entry_eq m _ _
  rw [hE, ← hH]
  clear hE
  generalize (lg_sl ([.ref (a 0), .int p0]) ++ List.replicate (5 - (lg_sl ([.ref (a 0), .int p0])).length) Slot.unset).toArray = ls at hl ⊢
  have hl : lv_has ls 5 [(0, .ref (a 0)), (1, .int p0)] := hl
  unfold wp_X8_count at h
  refine lv_lconst (v := 0) hx hb dX8_count_0 (by decide) ?_
  refine lv_lstore_n (lv' := [(2, .long (0 : Int64)), (0, .ref (a 0)), (1, .int p0)]) hx hb dX8_count_1 rfl hl (by decide) rfl (fun ls hl => ?_)
  refine lv_iload_n hx hb dX8_count_2 rfl (lv_at hl 2 rfl) ?_
  by_cases hc0 : p0 = nI 0
  · have h := h.1 hc0
    refine lv_tableIn (off := 45) (tgt := 48) hx hb dX8_count_3 (by rw [hc0]; decide) (by rw [hc0]; decide) (by rw [hc0]; decide) (by decide) ?_
    refine lv_aload_n hx hb dX8_count_48 rfl (lv_at hl 1 rfl) ?_
    refine va_get (D := (dC, dI)) (ci := 8) (v := .int (S 0)) (C := RX8) (T := TX8) (N := 47) hx hb hts nX8_count_X8 hown hK hP 0 (wM_at0 _ _ _ _ _ _) rfl 0 (by decide) (hts (.fieldLink RX8 136 "SongOfficeModel" "term" "I") kX8_count_1) (fun _ h9 => h9) rfl dX8_count_49 ?_
    refine lv_i2l (v := (((S 0)).toInt64)) hx hb dX8_count_52 rfl ?_
    exact grl hx hb hr hlocks hP hK hD hS h dX8_count_53
  by_cases hc1 : p0 = nI 1
  · have h := h.2.1 hc1
    refine lv_tableIn (off := 51) (tgt := 54) hx hb dX8_count_3 (by rw [hc1]; decide) (by rw [hc1]; decide) (by rw [hc1]; decide) (by decide) ?_
    refine lv_aload_n hx hb dX8_count_54 rfl (lv_at hl 1 rfl) ?_
    refine va_get (D := (dC, dI)) (ci := 8) (v := .int (S 1)) (C := RX8) (T := TX8) (N := 47) hx hb hts nX8_count_X8 hown hK hP 0 (wM_at0 _ _ _ _ _ _) rfl 5 (by decide) (hts (.fieldLink RX8 157 "SongOfficeModel" "bargains" "I") kX8_count_2) (fun _ h9 => h9) rfl dX8_count_55 ?_
    refine lv_i2l (v := (((S 1)).toInt64)) hx hb dX8_count_58 rfl ?_
    exact grl hx hb hr hlocks hP hK hD hS h dX8_count_59
  by_cases hc2 : p0 = nI 2
  · have h := h.2.2.1 hc2
    refine lv_tableIn (off := 57) (tgt := 60) hx hb dX8_count_3 (by rw [hc2]; decide) (by rw [hc2]; decide) (by rw [hc2]; decide) (by decide) ?_
    refine lv_aload_n hx hb dX8_count_60 rfl (lv_at hl 1 rfl) ?_
    refine va_get (D := (dC, dI)) (ci := 8) (v := .int (S 3)) (C := RX8) (T := TX8) (N := 47) hx hb hts nX8_count_X8 hown hK hP 0 (wM_at0 _ _ _ _ _ _) rfl 35 (by decide) (hts (.fieldLink RX8 178 "SongOfficeModel" "lines" "I") kX8_count_3) (fun _ h9 => h9) rfl dX8_count_61 ?_
    refine lv_i2l (v := (((S 3)).toInt64)) hx hb dX8_count_64 rfl ?_
    exact grl hx hb hr hlocks hP hK hD hS h dX8_count_65
  by_cases hc3 : p0 = nI 3
  · have h := h.2.2.2.1 hc3
    refine lv_tableIn (off := 63) (tgt := 66) hx hb dX8_count_3 (by rw [hc3]; decide) (by rw [hc3]; decide) (by rw [hc3]; decide) (by decide) ?_
    refine lv_aload_n hx hb dX8_count_66 rfl (lv_at hl 1 rfl) ?_
    refine va_get (D := (dC, dI)) (ci := 8) (v := .ref (a 28)) (C := RX8) (T := TX8) (N := 47) hx hb hts nX8_count_X8 hown hK hP 0 (wM_at0 _ _ _ _ _ _) rfl 29 (by decide) (hts (.fieldLink RX8 93 "SongOfficeModel" "cameIn" "[J") kX8_count_4) (fun _ h9 => h9) rfl dX8_count_67 ?_
    refine lv_iconst (v := 0) hx hb dX8_count_70 (by decide) ?_
    obtain ⟨hi, h⟩ := h
    refine va_lald hx hb hK hP 28 27 (wM_at28 _ _ _ _ _ _) rfl hi dX8_count_71 ?_
    exact grl hx hb hr hlocks hP hK hD hS h dX8_count_72
  by_cases hc4 : p0 = nI 4
  · have h := h.2.2.2.2.1 hc4
    refine lv_tableIn (off := 70) (tgt := 73) hx hb dX8_count_3 (by rw [hc4]; decide) (by rw [hc4]; decide) (by rw [hc4]; decide) (by decide) ?_
    refine lv_iconst (v := 0) hx hb dX8_count_73 (by decide) ?_
    refine lv_istore (lv' := [(4, .int (0 : Int32)), (2, .long (0 : Int64)), (0, .ref (a 0)), (1, .int p0)]) hx hb dX8_count_74 hl (by decide) rfl (fun ls hl => ?_)
    obtain ⟨V_1, ⟨n_3, h0V_1⟩, hV_1⟩ := h
    have lV_1 : ∀ (n_2 : Nat) (I_4 : TI) (J_5 : TJ) (S_6 : TS) (L_7 : TL) (y_8 : Int64) (x_9 : Int32) (H : Heap) (locs : List Loc) (ls : Array Slot), va_P (dC, dI) vwCl (wM a cy I_4 J_5 S_6 L_7) H → va_D A (wM a cy I_4 J_5 S_6 L_7) → va_S A s.heap H locs → lv_has ls 5 [(0, .ref (a 0)), (2, .long y_8), (4, .int x_9)] → V_1 n_2 I_4 J_5 S_6 L_7 y_8 x_9 → W p l e (headSpec wsX8_count rmX8_count).room s m args below meth c H locs 0 0 (MQ below (gQl dC dI (wM a cy) (tyM cy) A Φ) args s 0 0 A) (F0 m 76 ls []) := by
      intro n_2
      induction n_2 using Nat.strongRecOn with
      | ind n_2 ihV_1 =>
          intro I_4 J_5 S_6 L_7 y_8 x_9 H locs ls hP hD hS hl h
          have h := hV_1 n_2 I_4 J_5 S_6 L_7 y_8 x_9 h
          refine lv_iload hx hb dX8_count_76 (lv_at hl 2 rfl) ?_
          refine lv_bipush (v := 12) hx hb dX8_count_78 (by decide) ?_
          refine lv_icmp_ge (tgt := 100) hx hb dX8_count_80 (by decide) (fun hc => ?_) (fun hc => ?_)
          · have h := h.1 hc
            refine lv_lload_n hx hb dX8_count_100 rfl (lv_at hl 1 rfl) ?_
            exact grl hx hb hr hlocks hP hK hD hS h dX8_count_101
          · have h := h.2 hc
            refine lv_lload_n hx hb dX8_count_83 rfl (lv_at hl 1 rfl) ?_
            refine lv_aload_n hx hb dX8_count_84 rfl (lv_at hl 0 rfl) ?_
            refine va_get (D := (dC, dI)) (ci := 8) (v := .ref (a 27)) (C := RX8) (T := TX8) (N := 47) hx hb hts nX8_count_X8 hown hK hP 0 (wM_at0 _ _ _ _ _ _) rfl 28 (by decide) (hts (.fieldLink RX8 90 "SongOfficeModel" "filled" "[I") kX8_count_5) (fun _ h9 => h9) rfl dX8_count_85 ?_
            refine lv_iload hx hb dX8_count_88 (lv_at hl 2 rfl) ?_
            obtain ⟨hi, h⟩ := h
            refine va_iald hx hb hK hP 27 26 (wM_at27 _ _ _ _ _ _) rfl hi dX8_count_90 ?_
            refine lv_i2l (v := (((I_4 27 (x_9).toNatClampNeg)).toInt64)) hx hb dX8_count_91 rfl ?_
            refine lv_ladd hx hb dX8_count_92 ?_
            refine lv_topl (fun y_10 ey_10 => ?_)
            have h := h y_10 ey_10
            refine lv_lstore_n (lv' := [(2, .long y_10), (0, .ref (a 0)), (4, .int x_9)]) hx hb dX8_count_93 rfl hl (by decide) rfl (fun ls hl => ?_)
            obtain ⟨x_11, ex_11⟩ : ∃ z : Int32, z = x_9 + 1 := ⟨_, rfl⟩
            have h := h x_11 ex_11
            refine lv_iinc (v := x_11) (lv' := [(4, .int x_11), (2, .long y_10), (0, .ref (a 0))]) hx hb dX8_count_94 hl (k := 2) rfl (by rw [ex_11]; rfl) (by decide) rfl (fun ls hl => ?_)
            refine lv_goto (tgt := 76) hx hb dX8_count_97 (by decide) ?_
            obtain ⟨n_12, hn2, h⟩ := h
            exact ihV_1 n_12 hn2 I_4 J_5 S_6 L_7 y_10 x_11 _ _ _ hP hD hS (lv_sub hl [2, 1, 0] rfl) h
    exact lV_1 n_3 I J S L (0 : Int64) (0 : Int32) _ _ _ hP hD hS (lv_sub hl [2, 1, 0] rfl) h0V_1
  by_cases hc5 : p0 = nI 5
  · have h := h.2.2.2.2.2.1 hc5
    refine lv_tableIn (off := 99) (tgt := 102) hx hb dX8_count_3 (by rw [hc5]; decide) (by rw [hc5]; decide) (by rw [hc5]; decide) (by decide) ?_
    refine lv_aload_n hx hb dX8_count_102 rfl (lv_at hl 1 rfl) ?_
    refine va_get (D := (dC, dI)) (ci := 8) (v := .long (L 0)) (C := RX8) (T := TX8) (N := 47) hx hb hts nX8_count_X8 hown hK hP 0 (wM_at0 _ _ _ _ _ _) rfl 45 (by decide) (hts (.fieldLink RX8 229 "SongOfficeModel" "sentAll" "J") kX8_count_6) (fun _ h9 => h9) rfl dX8_count_103 ?_
    exact grl hx hb hr hlocks hP hK hD hS h dX8_count_106
  by_cases hc6 : p0 = nI 6
  · have h := h.2.2.2.2.2.2.1 hc6
    refine lv_tableIn (off := 104) (tgt := 107) hx hb dX8_count_3 (by rw [hc6]; decide) (by rw [hc6]; decide) (by rw [hc6]; decide) (by decide) ?_
    refine lv_aload_n hx hb dX8_count_107 rfl (lv_at hl 1 rfl) ?_
    refine va_get (D := (dC, dI)) (ci := 8) (v := .int (S 0)) (C := RX8) (T := TX8) (N := 47) hx hb hts nX8_count_X8 hown hK hP 0 (wM_at0 _ _ _ _ _ _) rfl 0 (by decide) (hts (.fieldLink RX8 136 "SongOfficeModel" "term" "I") kX8_count_1) (fun _ h9 => h9) rfl dX8_count_108 ?_
    refine lv_bipush (v := 40) hx hb dX8_count_111 (by decide) ?_
    obtain ⟨B_13, hB_13, h⟩ := h
    have jB_13 : ∀ (I_14 : TI) (J_15 : TJ) (S_16 : TS) (L_17 : TL) (s_18 : Int64) (H : Heap) (locs : List Loc) (ls : Array Slot), va_P (dC, dI) vwCl (wM a cy I_14 J_15 S_16 L_17) H → va_D A (wM a cy I_14 J_15 S_16 L_17) → va_S A s.heap H locs → lv_has ls 5 [] → B_13 I_14 J_15 S_16 L_17 s_18 → W p l e (headSpec wsX8_count rmX8_count).room s m args below meth c H locs 0 0 (MQ below (gQl dC dI (wM a cy) (tyM cy) A Φ) args s 0 0 A) (F0 m 132 ls [.long s_18]) := by
      intro I_14 J_15 S_16 L_17 s_18 H locs ls hP hD hS hl h
      have h := hB_13 I_14 J_15 S_16 L_17 s_18 h
      exact grl hx hb hr hlocks hP hK hD hS h dX8_count_132
    refine lv_icmp_ne (tgt := 122) hx hb dX8_count_113 (by decide) (fun hc => ?_) (fun hc => ?_)
    · have h := h.1 hc
      refine lv_aload_n hx hb dX8_count_122 rfl (lv_at hl 1 rfl) ?_
      refine va_get (D := (dC, dI)) (ci := 8) (v := .ref (a 19)) (C := RX8) (T := TX8) (N := 47) hx hb hts nX8_count_X8 hown hK hP 0 (wM_at0 _ _ _ _ _ _) rfl 20 (by decide) (hts (.fieldLink RX8 64 "SongOfficeModel" "torn" "[I") kX8_count_8) (fun _ h9 => h9) rfl dX8_count_123 ?_
      refine lv_aload_n hx hb dX8_count_126 rfl (lv_at hl 1 rfl) ?_
      refine va_get (D := (dC, dI)) (ci := 8) (v := .int (S 0)) (C := RX8) (T := TX8) (N := 47) hx hb hts nX8_count_X8 hown hK hP 0 (wM_at0 _ _ _ _ _ _) rfl 0 (by decide) (hts (.fieldLink RX8 136 "SongOfficeModel" "term" "I") kX8_count_1) (fun _ h9 => h9) rfl dX8_count_127 ?_
      obtain ⟨hi, h⟩ := h
      refine va_iald hx hb hK hP 19 18 (wM_at19 _ _ _ _ _ _) rfl hi dX8_count_130 ?_
      refine lv_i2l (v := (((I 19 ((S 0)).toNatClampNeg)).toInt64)) hx hb dX8_count_131 rfl ?_
      exact jB_13 I J S L (((I 19 ((S 0)).toNatClampNeg)).toInt64) _ _ _ hP hD hS (lv_sub hl [] rfl) h
    · have h := h.2 hc
      refine lv_ldc2 (v := -1) hx hb hown (hts (.constantLong RX8 227 (-1)) kX8_count_7) dX8_count_116 ?_
      refine lv_goto (tgt := 132) hx hb dX8_count_119 (by decide) ?_
      exact jB_13 I J S L (-1 : Int64) _ _ _ hP hD hS (lv_sub hl [] rfl) h
  by_cases hc7 : p0 = nI 7
  · have h := h.2.2.2.2.2.2.2.1 hc7
    refine lv_tableIn (off := 130) (tgt := 133) hx hb dX8_count_3 (by rw [hc7]; decide) (by rw [hc7]; decide) (by rw [hc7]; decide) (by decide) ?_
    refine lv_aload_n hx hb dX8_count_133 rfl (lv_at hl 1 rfl) ?_
    refine va_get (D := (dC, dI)) (ci := 8) (v := .int (S 5)) (C := RX8) (T := TX8) (N := 47) hx hb hts nX8_count_X8 hown hK hP 0 (wM_at0 _ _ _ _ _ _) rfl 46 (by decide) (hts (.fieldLink RX8 258 "SongOfficeModel" "settled" "I") kX8_count_9) (fun _ h9 => h9) rfl dX8_count_134 ?_
    refine lv_i2l (v := (((S 5)).toInt64)) hx hb dX8_count_137 rfl ?_
    exact grl hx hb hr hlocks hP hK hD hS h dX8_count_138
  have hno : ∀ k, k < 8 → ¬ p0 = nI k := fun k hk => by rcases (show k = 0 ∨ k = 1 ∨ k = 2 ∨ k = 3 ∨ k = 4 ∨ k = 5 ∨ k = 6 ∨ k = 7 by omega) with rfl | rfl | rfl | rfl | rfl | rfl | rfl | rfl <;> assumption
  have h := h.2.2.2.2.2.2.2.2 hno
  refine lv_tableOut (tgt := 139) hx hb dX8_count_3 (sw_out 8 (by decide) hno) (by decide) ?_
  refine lv_ldc2 (v := -1) hx hb hown (hts (.constantLong RX8 227 (-1)) kX8_count_7) dX8_count_139 ?_
  exact grl hx hb hr hlocks hP hK hD hS h dX8_count_142
