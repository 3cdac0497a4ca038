def wp_X2_runLine_2 (n0 n1 : Nat) (I : TI) (J : TJ) (S : TS) (L : TL) (p0 : Int32) (p1 : Int32) (p2 : Int32) (p3 : Int32) (p4 : Int64) (Φ : TI → TJ → TS → TL → Prop) : Prop := wp_X3_begin n0 n1 I J S L p0 p1 p2 p4 (fun (r_5 : Int32) (I_1 : TI) (J_2 : TJ) (S_3 : TS) (L_4 : TL) => (∀ x_6 : Int32, x_6 = (p2 + (1 : Int32)) → (∃ V_7 : Nat → TI → TJ → TS → TL → Int32 → Int64 → Int32 → Prop, (∃ n_9, V_7 n_9 I_1 J_2 S_3 L_4 r_5 p4 x_6) ∧ ∀ (n_8 : Nat) (I_10 : TI) (J_11 : TJ) (S_12 : TS) (L_13 : TL) (x_14 : Int32) (y_15 : Int64) (x_16 : Int32), V_7 n_8 I_10 J_11 S_12 L_13 x_14 y_15 x_16 → (∃ B_17 : TI → TJ → TS → TL → Int32 → Int64 → Prop, (∀ (I_18 : TI) (J_19 : TJ) (S_20 : TS) (L_21 : TL) (x_22 : Int32) (y_23 : Int64), B_17 I_18 J_19 S_20 L_21 x_22 y_23 → ((vp_in p1 12) ∧ ((vp_in p1 12) ∧ ∀ J_24 : TJ, J_24 = va_up J_19 26 (vp_updL (J_19 26) (p1).toNatClampNeg ((J_19 26 (p1).toNatClampNeg) + y_23)) → (wp_X3_end n0 n1 I_18 J_24 S_20 L_21 x_22 y_23 (fun (I_25 : TI) (J_26 : TJ) (S_27 : TS) (L_28 : TL) => (Φ I_25 J_26 S_27 L_28)))))) ∧ ((((S_12 1) ≤ x_16) → (B_17 I_10 J_11 S_12 L_13 x_14 y_15)) ∧ ((¬ (S_12 1) ≤ x_16) → ((((lg_cmp y_15 (0 : Int64)) ≤ 0) → (B_17 I_10 J_11 S_12 L_13 x_14 y_15)) ∧ ((¬ (lg_cmp y_15 (0 : Int64)) ≤ 0) → ((vp_in x_16 24) ∧ (wp_X7_passesOn I_10 J_11 S_12 L_13 (I_10 6 (x_16).toNatClampNeg) (fun (r_33 : Int32) (I_29 : TI) (J_30 : TJ) (S_31 : TS) (L_32 : TL) => (∃ B_34 : TI → TJ → TS → TL → Int32 → Int64 → Int32 → Int32 → Int32 → Prop, (∀ (I_35 : TI) (J_36 : TJ) (S_37 : TS) (L_38 : TL) (x_39 : Int32) (y_40 : Int64) (x_41 : Int32) (x_42 : Int32) (s_43 : Int32), B_34 I_35 J_36 S_37 L_38 x_39 y_40 x_41 x_42 s_43 → (∃ B_44 : TI → TJ → TS → TL → Int32 → Int64 → Int32 → Prop, (∀ (I_45 : TI) (J_46 : TJ) (S_47 : TS) (L_48 : TL) (x_49 : Int32) (y_50 : Int64) (x_51 : Int32), B_44 I_45 J_46 S_47 L_48 x_49 y_50 x_51 → (∀ x_52 : Int32, x_52 = x_51 + 1 → (∃ n_53, n_53 < n_8 ∧ V_7 n_53 I_45 J_46 S_47 L_48 x_49 y_50 x_52))) ∧ (((¬ s_43 = 0) → (B_44 I_35 J_36 S_37 L_38 x_39 y_40 x_41)) ∧ ((s_43 = 0) → (wp_X2_lastDay n0 n1 I_35 J_36 S_37 L_38 (fun (r_58 : Int32) (I_54 : TI) (J_55 : TJ) (S_56 : TS) (L_57 : TL) => (wp_X0_holdsFor n0 n1 I_54 J_55 S_56 L_57 x_41 p1 p0 r_58 (fun (r_63 : Int32) (I_59 : TI) (J_60 : TJ) (S_61 : TS) (L_62 : TL) => (((¬ r_63 = 0) → (wp_X2_takenBy n0 n1 I_59 J_60 S_61 L_62 x_41 y_40 (fun (r_68 : Int64) (I_64 : TI) (J_65 : TJ) (S_66 : TS) (L_67 : TL) => ((vp_in x_41 24) ∧ ((vp_in x_41 24) ∧ ∀ J_69 : TJ, J_69 = va_up J_65 31 (vp_updL (J_65 31) (x_41).toNatClampNeg ((J_65 31 (x_41).toNatClampNeg) + y_40)) → ((vp_in x_41 24) ∧ ((vp_in x_41 24) ∧ ∀ J_70 : TJ, J_70 = va_up J_69 30 (vp_updL (J_69 30) (x_41).toNatClampNeg ((J_69 30 (x_41).toNatClampNeg) + r_68)) → (∀ y_71 : Int64, y_71 = (y_40 - r_68) → ((vp_in x_41 24) ∧ (∃ B_72 : TI → TJ → TS → TL → Int32 → Int64 → Int32 → Int32 → Int64 → Prop, (∀ (I_73 : TI) (J_74 : TJ) (S_75 : TS) (L_76 : TL) (x_77 : Int32) (y_78 : Int64) (x_79 : Int32) (x_80 : Int32) (y_81 : Int64), B_72 I_73 J_74 S_75 L_76 x_77 y_78 x_79 x_80 y_81 → (((x_80 = 0) → (B_44 I_73 J_74 S_75 L_76 x_77 y_78 x_79)) ∧ ((¬ x_80 = 0) → ((((lg_cmp y_81 (0 : Int64)) ≤ 0) → (B_44 I_73 J_74 S_75 L_76 x_77 y_78 x_79)) ∧ ((¬ (lg_cmp y_81 (0 : Int64)) ≤ 0) → ((vp_in x_79 24) ∧ (False))))))) ∧ (((¬ (I_64 6 (x_41).toNatClampNeg) = (4 : Int32)) → (B_72 I_64 J_70 S_66 L_67 x_39 y_71 x_41 x_42 r_68)) ∧ (((I_64 6 (x_41).toNatClampNeg) = (4 : Int32)) → ((vp_in ((x_41 * (40 : Int32)) + (S_66 3)) 960) ∧ ((vp_in ((x_41 * (40 : Int32)) + (S_66 3)) 960) ∧ ∀ J_82 : TJ, J_82 = va_up J_70 32 (vp_updL (J_70 32) (((x_41 * (40 : Int32)) + (S_66 3))).toNatClampNeg ((J_70 32 (((x_41 * (40 : Int32)) + (S_66 3))).toNatClampNeg) + r_68)) → (B_72 I_64 J_82 S_66 L_67 x_39 y_71 x_41 x_42 r_68))))))))))))))) ∧ ((r_63 = 0) → (B_44 I_59 J_60 S_61 L_62 x_39 y_40 x_41))))))))))) ∧ (∃ B_83 : TI → TJ → TS → TL → Int32 → Int64 → Int32 → Int32 → Prop, (∀ (I_84 : TI) (J_85 : TJ) (S_86 : TS) (L_87 : TL) (x_88 : Int32) (y_89 : Int64) (x_90 : Int32) (x_91 : Int32), B_83 I_84 J_85 S_86 L_87 x_88 y_89 x_90 x_91 → (B_34 I_84 J_85 S_86 L_87 x_88 y_89 x_90 x_91 (0 : Int32))) ∧ (((r_33 = 0) → (B_83 I_29 J_30 S_31 L_32 x_14 y_15 x_16 r_33)) ∧ ((¬ r_33 = 0) → (((p3 < (2 : Int32)) → (B_83 I_29 J_30 S_31 L_32 x_14 y_15 x_16 r_33)) ∧ ((¬ p3 < (2 : Int32)) → (B_34 I_29 J_30 S_31 L_32 x_14 y_15 x_16 r_33 (1 : Int32)))))))))))))))))))
theorem nX2_runLine_2_X2 : ∀ w ∈ wsX20, w ∈ wsX2_runLine := fun _ h => List.mem_cons_of_mem _ (List.mem_append_left _ (List.mem_append_left _ (List.mem_append_right _ h)))
theorem kX2_runLine_2_1 : Cond.fieldLink RX2 61 "SongOffice$Ledger" "lines" "LSongOffice$LineBook;" ∈ wsX2_runLine := List.mem_of_getElem? (i := 1) rfl
theorem kX2_runLine_2_10 : Cond.fieldLink RX2 9 "SongOffice$Ledger" "purse" "[J" ∈ wsX2_runLine := List.mem_of_getElem? (i := 10) rfl
theorem nX2_runLine_2_X0 : ∀ w ∈ wsX00, w ∈ wsX2_runLine := fun _ h => List.mem_cons_of_mem _ (List.mem_append_left _ (List.mem_append_right _ h))
theorem kX2_runLine_2_9 : Cond.fieldLink RX2 220 "SongOffice$BargainBook" "takers" "[I" ∈ wsX2_runLine := List.mem_of_getElem? (i := 9) rfl
theorem kX2_runLine_2_2 : Cond.fieldLink RX2 45 "SongOffice$Ledger" "bargains" "LSongOffice$BargainBook;" ∈ wsX2_runLine := List.mem_of_getElem? (i := 2) rfl
theorem kX2_runLine_2_8 : Cond.fieldLink RX2 78 "SongOffice$Ledger" "closed" "I" ∈ wsX2_runLine := List.mem_of_getElem? (i := 8) rfl
theorem kX2_runLine_2_7 : Cond.fieldLink RX2 31 "SongOffice$Ledger" "bags" "[J" ∈ wsX2_runLine := List.mem_of_getElem? (i := 7) rfl
theorem kX2_runLine_2_4 : Cond.fieldLink RX2 116 "SongOffice$BargainBook" "kinds" "[I" ∈ wsX2_runLine := List.mem_of_getElem? (i := 4) rfl
theorem kX2_runLine_2_6 : Cond.fieldLink RX2 25 "SongOffice$Ledger" "kept" "[J" ∈ wsX2_runLine := List.mem_of_getElem? (i := 6) rfl
theorem kX2_runLine_2_5 : Cond.fieldLink RX2 28 "SongOffice$Ledger" "came" "[J" ∈ wsX2_runLine := List.mem_of_getElem? (i := 5) rfl
theorem kX2_runLine_2_23 : Cond.initialized RX7 ∈ wsX2_runLine := List.mem_of_getElem? (i := 23) rfl
theorem kX2_runLine_2_22 : Cond.static yX7_passesOn ∈ wsX2_runLine := List.mem_of_getElem? (i := 22) rfl
theorem kX2_runLine_2_3 : Cond.fieldLink RX2 142 "SongOffice$BargainBook" "size" "I" ∈ wsX2_runLine := List.mem_of_getElem? (i := 3) rfl
abbrev rmX2_runLine_2 : Room := { frames := 2, cells := 0, slots := 0, locals := 67 }
set_option maxHeartbeats 4000000 in
set_option maxRecDepth 100000 in
theorem c_X2_runLine_2 (l : Launch) (dC : Nat → ClassId) (dI : Nat → Nat → Nat) (a : Nat → Nat) (cy : Nat → ClassId) (n0 n1 : Nat) (sz : Nat) (I : TI) (J : TJ) (S : TS) (L : TL) (p0 : Int32) (p1 : Int32) (p2 : Int32) (p3 : Int32) (p4 : Int64) (Φ : TI → TJ → TS → TL → Prop) (h : wp_X2_runLine_2 n0 n1 I J S L p0 p1 p2 p3 p4 Φ) : Met l yX2_runLine wsX2_runLine rmX2_runLine_2 (va_Pc [.ref (a 25), .int p0, .int p1, .int p2, .int p3, .long p4] (gpre dC dI (wL a cy n0 n1 I J S L) (tyL cy) sz)) (gQv dC dI (wL a cy n0 n1) (tyL cy) (va_A (wL a cy n0 n1 I J S L) sz) Φ) 0 0 (va_A (wL a cy n0 n1 I J S L) sz) := by
  refine Met.ofW (cc := cX2_runLine) (maxL := 15) (ret := none) (by decide) rfl ?_
  intro p e s m args below meth c s₁ B hml hv
  obtain ⟨hargs, hsz, hP, hK, hD0, hN⟩ := hv
  have hx := B.exec
  have hb := B.bytes
  have hr := B.returns
  have hts := atoms_spec (ws := wsX2_runLine) B.pre
  have hown : s.vm.findClass RX2 = some m.cls := findClass_of_methodNamed B.named
  have hlocks := B.notSynchronized
  subst hsz
  have hD := hD0.self (sz := s.heap.size)
  generalize hAe : va_A (wL a cy n0 n1 I J S L) s.heap.size = A at hD ⊢
  have hA : ∀ q : Nat, s.heap.size ≤ q → A q := fun q h => by rw [← hAe]; exact Or.inr h
  obtain ⟨H, hH⟩ : ∃ z : Heap, z = s.heap := ⟨_, rfl⟩
  rw [← hH] at hP
  have hS : va_S A s.heap H [] := by rw [hH]; exact va_S.rf
  have hl := lv_entry ([.ref (a 25), .int p0, .int p1, .int p2, .int p3, .long p4]) (n := 15) (Nat.le_of_ble_eq_true rfl)
  have hE : entryFrame m args 15 = F0 m 0 ((lg_sl ([.ref (a 25), .int p0, .int p1, .int p2, .int p3, .long p4]) ++ List.replicate (15 - (lg_sl ([.ref (a 25), .int p0, .int p1, .int p2, .int p3, .long p4])).length) Slot.unset).toArray) [] := by rw [hargs]; exact lg_entry_eq m _ _
  rw [hE, ← hH]
  clear hE
  generalize (lg_sl ([.ref (a 25), .int p0, .int p1, .int p2, .int p3, .long p4]) ++ List.replicate (15 - (lg_sl ([.ref (a 25), .int p0, .int p1, .int p2, .int p3, .long p4])).length) Slot.unset).toArray = ls at hl ⊢
  have hl : lv_has ls 15 [(0, .ref (a 25)), (1, .int p0), (2, .int p1), (3, .int p2), (4, .int p3), (5, .long p4)] := hl
  unfold wp_X2_runLine_2 at h
  refine lv_aload_n hx hb dX2_runLine_0 rfl (lv_at hl 0 rfl) ?_
  refine va_get (D := (dC, dI)) (ci := 2) (v := .ref (a 33)) (C := RX2) (T := TX2) (N := 16) hx hb hts nX2_runLine_2_X2 hown hK hP 25 (wL_at25 _ _ _ _ _ _ _ _) rfl 7 (by decide) (hts (.fieldLink RX2 61 "SongOffice$Ledger" "lines" "LSongOffice$LineBook;") kX2_runLine_2_1) (fun _ h9 => h9) rfl dX2_runLine_1 ?_
  refine lv_iload_n hx hb dX2_runLine_4 rfl (lv_at hl 1 rfl) ?_
  refine lv_iload_n hx hb dX2_runLine_5 rfl (lv_at hl 2 rfl) ?_
  refine lv_iload_n hx hb dX2_runLine_6 rfl (lv_at hl 3 rfl) ?_
  refine lv_lload hx hb dX2_runLine_7 (lv_at hl 5 rfl) ?_
  refine gcalli (va_runV (As := [.int p0, .int p1, .int p2, .long p4]) (rest := []) ⟨hx, hb, hml, hown, hts⟩ (c_X3_begin l dC dI a cy n0 n1 H.size I J S L p0 p1 p2 p4 _ h) (cwV 4 hts gX2_runLine_X3_begin rfl rfl rfl (by decide +kernel) ⟨(Nat.le_of_ble_eq_true rfl), (Nat.le_of_ble_eq_true rfl)⟩) (g_pV hP hK hD hN (va_recv hK hP (ci := 3) (q0 := 33) rfl (wL_at33 _ _ _ _ _ _ _ _)) [.int p0, .int p1, .int p2, .long p4]) rfl rfl hl.1 rfl (lv_room (Nat.le_of_ble_eq_true rfl)) dX2_runLine_9 ⟨(Nat.le_of_ble_eq_true rfl), (Nat.le_of_ble_eq_true rfl)⟩) hS hA hD (fun r_5 I_1 J_2 S_3 L_4 H locs hP hD hS h => ?_)
  refine lv_istore (lv' := [(7, .int r_5), (0, .ref (a 25)), (1, .int p0), (2, .int p1), (3, .int p2), (4, .int p3), (5, .long p4)]) hx hb dX2_runLine_12 hl (by decide) rfl (fun ls hl => ?_)
  refine lv_lload hx hb dX2_runLine_14 (lv_at hl 6 rfl) ?_
  refine lv_lstore (lv' := [(8, .long p4), (7, .int r_5), (0, .ref (a 25)), (1, .int p0), (2, .int p1), (3, .int p2), (4, .int p3), (5, .long p4)]) hx hb dX2_runLine_16 hl (by decide) rfl (fun ls hl => ?_)
  refine lv_iload_n hx hb dX2_runLine_18 rfl (lv_at hl 5 rfl) ?_
  refine lv_iconst (v := 1) hx hb dX2_runLine_19 (by decide) ?_
  refine lv_iadd hx hb dX2_runLine_20 ?_
  refine lv_topi (fun x_6 ex_6 => ?_)
  have h := h x_6 ex_6
  refine lv_istore (lv' := [(10, .int x_6), (8, .long p4), (7, .int r_5), (0, .ref (a 25)), (1, .int p0), (2, .int p1), (3, .int p2), (4, .int p3), (5, .long p4)]) hx hb dX2_runLine_21 hl (by decide) rfl (fun ls hl => ?_)
  obtain ⟨V_7, ⟨n_9, h0V_7⟩, hV_7⟩ := h
  have lV_7 : ∀ (n_8 : Nat) (I_10 : TI) (J_11 : TJ) (S_12 : TS) (L_13 : TL) (x_14 : Int32) (y_15 : Int64) (x_16 : Int32) (H : Heap) (locs : List Loc) (ls : Array Slot), va_P (dC, dI) vwCl (wL a cy n0 n1 I_10 J_11 S_12 L_13) H → va_D A (wL a cy n0 n1 I_10 J_11 S_12 L_13) → va_S A s.heap H locs → lv_has ls 15 [(0, .ref (a 25)), (1, .int p0), (2, .int p1), (4, .int p3), (7, .int x_14), (8, .long y_15), (10, .int x_16)] → V_7 n_8 I_10 J_11 S_12 L_13 x_14 y_15 x_16 → W p l e (headSpec wsX2_runLine rmX2_runLine_2).room s m args below meth c H locs 0 0 (MQ below (gQv dC dI (wL a cy n0 n1) (tyL cy) A Φ) args s 0 0 A) (F0 m 23 ls []) := by
    intro n_8
    induction n_8 using Nat.strongRecOn with
    | ind n_8 ihV_7 =>
        intro I_10 J_11 S_12 L_13 x_14 y_15 x_16 H locs ls hP hD hS hl h
        have h := hV_7 n_8 I_10 J_11 S_12 L_13 x_14 y_15 x_16 h
        refine lv_iload hx hb dX2_runLine_23 (lv_at hl 6 rfl) ?_
        refine lv_aload_n hx hb dX2_runLine_25 rfl (lv_at hl 0 rfl) ?_
        refine va_get (D := (dC, dI)) (ci := 2) (v := .ref (a 5)) (C := RX2) (T := TX2) (N := 16) hx hb hts nX2_runLine_2_X2 hown hK hP 25 (wL_at25 _ _ _ _ _ _ _ _) rfl 13 (by decide) (hts (.fieldLink RX2 45 "SongOffice$Ledger" "bargains" "LSongOffice$BargainBook;") kX2_runLine_2_2) (fun _ h9 => h9) rfl dX2_runLine_26 ?_
        refine va_get (D := (dC, dI)) (ci := 0) (v := .int (S_12 1)) (C := RX0) (T := TX0) (N := 9) hx hb hts nX2_runLine_2_X0 hown hK hP 5 (wL_at5 _ _ _ _ _ _ _ _) rfl 8 (by decide) (hts (.fieldLink RX2 142 "SongOffice$BargainBook" "size" "I") kX2_runLine_2_3) (fun _ h9 => h9) rfl dX2_runLine_29 ?_
        obtain ⟨B_17, hB_17, h⟩ := h
        have jB_17 : ∀ (I_18 : TI) (J_19 : TJ) (S_20 : TS) (L_21 : TL) (x_22 : Int32) (y_23 : Int64) (H : Heap) (locs : List Loc) (ls : Array Slot), va_P (dC, dI) vwCl (wL a cy n0 n1 I_18 J_19 S_20 L_21) H → va_D A (wL a cy n0 n1 I_18 J_19 S_20 L_21) → va_S A s.heap H locs → lv_has ls 15 [(0, .ref (a 25)), (2, .int p1), (7, .int x_22), (8, .long y_23)] → B_17 I_18 J_19 S_20 L_21 x_22 y_23 → W p l e (headSpec wsX2_runLine rmX2_runLine_2).room s m args below meth c H locs 0 0 (MQ below (gQv dC dI (wL a cy n0 n1) (tyL cy) A Φ) args s 0 0 A) (F0 m 217 ls []) := by
          intro I_18 J_19 S_20 L_21 x_22 y_23 H locs ls hP hD hS hl h
          have h := hB_17 I_18 J_19 S_20 L_21 x_22 y_23 h
          refine lv_aload_n hx hb dX2_runLine_217 rfl (lv_at hl 0 rfl) ?_
          refine va_get (D := (dC, dI)) (ci := 2) (v := .ref (a 26)) (C := RX2) (T := TX2) (N := 16) hx hb hts nX2_runLine_2_X2 hown hK hP 25 (wL_at25 _ _ _ _ _ _ _ _) rfl 0 (by decide) (hts (.fieldLink RX2 9 "SongOffice$Ledger" "purse" "[J") kX2_runLine_2_10) (fun _ h9 => h9) rfl dX2_runLine_218 ?_
          refine lv_iload_n hx hb dX2_runLine_221 rfl (lv_at hl 1 rfl) ?_
          refine lv_dup2_11 hx hb dX2_runLine_222 rfl rfl ?_
          obtain ⟨hi, h⟩ := h
          refine va_lald hx hb hK hP 26 21 (wL_at26 _ _ _ _ _ _ _ _) rfl hi dX2_runLine_223 ?_
          refine lv_lload hx hb dX2_runLine_224 (lv_at hl 3 rfl) ?_
          refine lv_ladd hx hb dX2_runLine_226 ?_
          obtain ⟨hi, h⟩ := h
          obtain ⟨J_24, eJ_24⟩ : ∃ z : TJ, z = va_up J_19 26 (vp_updL (J_19 26) (p1).toNatClampNeg ((J_19 26 (p1).toNatClampNeg) + y_23)) := ⟨_, rfl⟩
          have h := h J_24 eJ_24
          refine va_last hx hb hK hP hD hS 26 21 (wL_at26 _ _ _ _ _ _ _ _) rfl hi dX2_runLine_227 (fun H locs hP hD hS => ?_)
          have hP : va_P (dC, dI) vwCl (wL a cy n0 n1 I_18 J_24 S_20 L_21) H := by rw [eJ_24]; exact setP hP (wL_set26 _ _ _ _ _ _ _ _ _)
          have hD : va_D A (wL a cy n0 n1 I_18 J_24 S_20 L_21) := by rw [eJ_24]; exact setD hD (wL_set26 _ _ _ _ _ _ _ _ _)
          refine lv_aload_n hx hb dX2_runLine_228 rfl (lv_at hl 0 rfl) ?_
          refine va_get (D := (dC, dI)) (ci := 2) (v := .ref (a 33)) (C := RX2) (T := TX2) (N := 16) hx hb hts nX2_runLine_2_X2 hown hK hP 25 (wL_at25 _ _ _ _ _ _ _ _) rfl 7 (by decide) (hts (.fieldLink RX2 61 "SongOffice$Ledger" "lines" "LSongOffice$LineBook;") kX2_runLine_2_1) (fun _ h9 => h9) rfl dX2_runLine_229 ?_
          refine lv_iload hx hb dX2_runLine_232 (lv_at hl 2 rfl) ?_
          refine lv_lload hx hb dX2_runLine_234 (lv_at hl 3 rfl) ?_
          refine gcallv (va_runV (As := [.int x_22, .long y_23]) (rest := []) ⟨hx, hb, hml, hown, hts⟩ (c_X3_end l dC dI a cy n0 n1 H.size I_18 J_24 S_20 L_21 x_22 y_23 _ h) (cwV 2 hts gX2_runLine_X3_end rfl rfl rfl (by decide +kernel) ⟨(Nat.le_of_ble_eq_true rfl), (Nat.le_of_ble_eq_true rfl)⟩) (g_pV hP hK hD hN (va_recv hK hP (ci := 3) (q0 := 33) rfl (wL_at33 _ _ _ _ _ _ _ _)) [.int x_22, .long y_23]) rfl rfl hl.1 rfl (lv_room (Nat.le_of_ble_eq_true rfl)) dX2_runLine_236 ⟨(Nat.le_of_ble_eq_true rfl), (Nat.le_of_ble_eq_true rfl)⟩) hS hA hD (fun I_25 J_26 S_27 L_28 H locs hP hD hS h => ?_)
          exact grv hx hb hr hlocks hP hK hD hS h dX2_runLine_239
        refine lv_icmp_ge (tgt := 217) hx hb dX2_runLine_32 (by decide) (fun hc => ?_) (fun hc => ?_)
        · have h := h.1 hc
          exact jB_17 I_10 J_11 S_12 L_13 x_14 y_15 _ _ _ hP hD hS (lv_sub hl [0, 2, 4, 5] rfl) h
        · have h := h.2 hc
          refine lv_lload hx hb dX2_runLine_35 (lv_at hl 5 rfl) ?_
          refine lv_lconst (v := 0) hx hb dX2_runLine_37 (by decide) ?_
          refine W.lcmp hx hb dX2_runLine_38 ?_
          refine lv_if_le (tgt := 217) hx hb dX2_runLine_39 (by decide) (fun hc => ?_) (fun hc => ?_)
          · have h := h.1 hc
            exact jB_17 I_10 J_11 S_12 L_13 x_14 y_15 _ _ _ hP hD hS (lv_sub hl [0, 2, 4, 5] rfl) h
          · have h := h.2 hc
            refine lv_aload_n hx hb dX2_runLine_42 rfl (lv_at hl 0 rfl) ?_
            refine va_get (D := (dC, dI)) (ci := 2) (v := .ref (a 5)) (C := RX2) (T := TX2) (N := 16) hx hb hts nX2_runLine_2_X2 hown hK hP 25 (wL_at25 _ _ _ _ _ _ _ _) rfl 13 (by decide) (hts (.fieldLink RX2 45 "SongOffice$Ledger" "bargains" "LSongOffice$BargainBook;") kX2_runLine_2_2) (fun _ h9 => h9) rfl dX2_runLine_43 ?_
            refine va_get (D := (dC, dI)) (ci := 0) (v := .ref (a 6)) (C := RX0) (T := TX0) (N := 9) hx hb hts nX2_runLine_2_X0 hown hK hP 5 (wL_at5 _ _ _ _ _ _ _ _) rfl 0 (by decide) (hts (.fieldLink RX2 116 "SongOffice$BargainBook" "kinds" "[I") kX2_runLine_2_4) (fun _ h9 => h9) rfl dX2_runLine_46 ?_
            refine lv_iload hx hb dX2_runLine_49 (lv_at hl 6 rfl) ?_
            obtain ⟨hi, h⟩ := h
            refine va_iald hx hb hK hP 6 4 (wL_at6 _ _ _ _ _ _ _ _) rfl hi dX2_runLine_51 ?_
            refine gcalli (va_runSN (As := [.int (I_10 6 (x_16).toNatClampNeg)]) (rest := []) ⟨hx, hb, hml, hown, hts⟩ (c_X7_passesOn l dC dI (wL a cy n0 n1) (tyL cy) H.size I_10 J_11 S_12 L_13 (I_10 6 (x_16).toNatClampNeg) _ h) ⟨va_cnB 1 hts gX2_runLine_X7_passesOn_n208 rfl rfl rfl hN (hts (.initialized RX7) kX2_runLine_2_23) (by decide +kernel) ⟨(Nat.le_of_ble_eq_true rfl), (Nat.le_of_ble_eq_true rfl)⟩, (hts (.static yX7_passesOn) kX2_runLine_2_22), trivial⟩ (g_pS hP hK hD hN [.int (I_10 6 (x_16).toNatClampNeg)]) rfl rfl hl.1 rfl (lv_room (Nat.le_of_ble_eq_true rfl)) dX2_runLine_52 ⟨(Nat.le_of_ble_eq_true rfl), (Nat.le_of_ble_eq_true rfl)⟩) hS hA hD (fun r_33 I_29 J_30 S_31 L_32 H locs hP hD hS h => ?_)
            refine lv_istore (lv' := [(11, .int r_33), (0, .ref (a 25)), (1, .int p0), (2, .int p1), (4, .int p3), (7, .int x_14), (8, .long y_15), (10, .int x_16)]) hx hb dX2_runLine_55 hl (by decide) rfl (fun ls hl => ?_)
            refine lv_iload hx hb dX2_runLine_57 (lv_at hl 0 rfl) ?_
            obtain ⟨B_34, hB_34, h⟩ := h
            have jB_34 : ∀ (I_35 : TI) (J_36 : TJ) (S_37 : TS) (L_38 : TL) (x_39 : Int32) (y_40 : Int64) (x_41 : Int32) (x_42 : Int32) (s_43 : Int32) (H : Heap) (locs : List Loc) (ls : Array Slot), va_P (dC, dI) vwCl (wL a cy n0 n1 I_35 J_36 S_37 L_38) H → va_D A (wL a cy n0 n1 I_35 J_36 S_37 L_38) → va_S A s.heap H locs → lv_has ls 15 [(0, .ref (a 25)), (1, .int p0), (2, .int p1), (4, .int p3), (7, .int x_39), (8, .long y_40), (10, .int x_41), (11, .int x_42)] → B_34 I_35 J_36 S_37 L_38 x_39 y_40 x_41 x_42 s_43 → W p l e (headSpec wsX2_runLine rmX2_runLine_2).room s m args below meth c H locs 0 0 (MQ below (gQv dC dI (wL a cy n0 n1) (tyL cy) A Φ) args s 0 0 A) (F0 m 73 ls [.int s_43]) := by
              intro I_35 J_36 S_37 L_38 x_39 y_40 x_41 x_42 s_43 H locs ls hP hD hS hl h
              have h := hB_34 I_35 J_36 S_37 L_38 x_39 y_40 x_41 x_42 s_43 h
              refine lv_istore (lv' := [(12, .int s_43), (0, .ref (a 25)), (1, .int p0), (2, .int p1), (4, .int p3), (7, .int x_39), (8, .long y_40), (10, .int x_41), (11, .int x_42)]) hx hb dX2_runLine_73 hl (by decide) rfl (fun ls hl => ?_)
              refine lv_iload hx hb dX2_runLine_75 (lv_at hl 0 rfl) ?_
              obtain ⟨B_44, hB_44, h⟩ := h
              have jB_44 : ∀ (I_45 : TI) (J_46 : TJ) (S_47 : TS) (L_48 : TL) (x_49 : Int32) (y_50 : Int64) (x_51 : Int32) (H : Heap) (locs : List Loc) (ls : Array Slot), va_P (dC, dI) vwCl (wL a cy n0 n1 I_45 J_46 S_47 L_48) H → va_D A (wL a cy n0 n1 I_45 J_46 S_47 L_48) → va_S A s.heap H locs → lv_has ls 15 [(0, .ref (a 25)), (1, .int p0), (2, .int p1), (4, .int p3), (7, .int x_49), (8, .long y_50), (10, .int x_51)] → B_44 I_45 J_46 S_47 L_48 x_49 y_50 x_51 → W p l e (headSpec wsX2_runLine rmX2_runLine_2).room s m args below meth c H locs 0 0 (MQ below (gQv dC dI (wL a cy n0 n1) (tyL cy) A Φ) args s 0 0 A) (F0 m 211 ls []) := by
                intro I_45 J_46 S_47 L_48 x_49 y_50 x_51 H locs ls hP hD hS hl h
                have h := hB_44 I_45 J_46 S_47 L_48 x_49 y_50 x_51 h
                obtain ⟨x_52, ex_52⟩ : ∃ z : Int32, z = x_51 + 1 := ⟨_, rfl⟩
                have h := h x_52 ex_52
                refine lv_iinc (v := x_52) (lv' := [(10, .int x_52), (0, .ref (a 25)), (1, .int p0), (2, .int p1), (4, .int p3), (7, .int x_49), (8, .long y_50)]) hx hb dX2_runLine_211 hl (k := 6) rfl (by rw [ex_52]; rfl) (by decide) rfl (fun ls hl => ?_)
                refine lv_goto (tgt := 23) hx hb dX2_runLine_214 (by decide) ?_
                obtain ⟨n_53, hn2, h⟩ := h
                exact ihV_7 n_53 hn2 I_45 J_46 S_47 L_48 x_49 y_50 x_52 _ _ _ hP hD hS (lv_sub hl [1, 2, 3, 4, 5, 6, 0] rfl) h
              refine lv_if_ne (tgt := 211) hx hb dX2_runLine_77 (by decide) (fun hc => ?_) (fun hc => ?_)
              · have h := h.1 hc
                exact jB_44 I_35 J_36 S_37 L_38 x_39 y_40 x_41 _ _ _ hP hD hS (lv_sub hl [1, 2, 3, 4, 5, 6, 7] rfl) h
              · have h := h.2 hc
                refine lv_aload_n hx hb dX2_runLine_80 rfl (lv_at hl 1 rfl) ?_
                refine va_get (D := (dC, dI)) (ci := 2) (v := .ref (a 5)) (C := RX2) (T := TX2) (N := 16) hx hb hts nX2_runLine_2_X2 hown hK hP 25 (wL_at25 _ _ _ _ _ _ _ _) rfl 13 (by decide) (hts (.fieldLink RX2 45 "SongOffice$Ledger" "bargains" "LSongOffice$BargainBook;") kX2_runLine_2_2) (fun _ h9 => h9) rfl dX2_runLine_81 ?_
                refine lv_iload hx hb dX2_runLine_84 (lv_at hl 7 rfl) ?_
                refine lv_iload_n hx hb dX2_runLine_86 rfl (lv_at hl 3 rfl) ?_
                refine lv_iload_n hx hb dX2_runLine_87 rfl (lv_at hl 2 rfl) ?_
                refine lv_aload_n hx hb dX2_runLine_88 rfl (lv_at hl 1 rfl) ?_
                refine gcalli (va_runV (As := []) (rest := [.int p0, .int p1, .int x_41, .ref (a 5)]) ⟨hx, hb, hml, hown, hts⟩ (c_X2_lastDay l dC dI a cy n0 n1 H.size I_35 J_36 S_37 L_38 _ h) (cwV 0 hts gX2_runLine_X2_lastDay rfl rfl rfl (by decide +kernel) ⟨(Nat.le_of_ble_eq_true rfl), (Nat.le_of_ble_eq_true rfl)⟩) (g_pV hP hK hD hN (va_recv hK hP (ci := 2) (q0 := 25) rfl (wL_at25 _ _ _ _ _ _ _ _)) []) rfl rfl hl.1 rfl (lv_room (Nat.le_of_ble_eq_true rfl)) dX2_runLine_89 ⟨(Nat.le_of_ble_eq_true rfl), (Nat.le_of_ble_eq_true rfl)⟩) hS hA hD (fun r_58 I_54 J_55 S_56 L_57 H locs hP hD hS h => ?_)
                refine gcalli (va_runV (As := [.int x_41, .int p1, .int p0, .int r_58]) (rest := []) ⟨hx, hb, hml, hown, hts⟩ (c_X0_holdsFor l dC dI a cy n0 n1 H.size I_54 J_55 S_56 L_57 x_41 p1 p0 r_58 _ h) (cwV 4 hts gX2_runLine_X0_holdsFor rfl rfl rfl (by decide +kernel) ⟨(Nat.le_of_ble_eq_true rfl), (Nat.le_of_ble_eq_true rfl)⟩) (g_pV hP hK hD hN (va_recv hK hP (ci := 0) (q0 := 5) rfl (wL_at5 _ _ _ _ _ _ _ _)) [.int x_41, .int p1, .int p0, .int r_58]) rfl rfl hl.1 rfl (lv_room (Nat.le_of_ble_eq_true rfl)) dX2_runLine_92 ⟨(Nat.le_of_ble_eq_true rfl), (Nat.le_of_ble_eq_true rfl)⟩) hS hA hD (fun r_63 I_59 J_60 S_61 L_62 H locs hP hD hS h => ?_)
                refine lv_if_ne (tgt := 101) hx hb dX2_runLine_95 (by decide) (fun hc => ?_) (fun hc => ?_)
                · have h := h.1 hc
                  refine lv_aload_n hx hb dX2_runLine_101 rfl (lv_at hl 1 rfl) ?_
                  refine lv_iload hx hb dX2_runLine_102 (lv_at hl 7 rfl) ?_
                  refine lv_lload hx hb dX2_runLine_104 (lv_at hl 6 rfl) ?_
                  refine gcalll (va_runV (As := [.int x_41, .long y_40]) (rest := []) ⟨hx, hb, hml, hown, hts⟩ (c_X2_takenBy l dC dI a cy n0 n1 H.size I_59 J_60 S_61 L_62 x_41 y_40 _ h) (cwV 2 hts gX2_runLine_X2_takenBy rfl rfl rfl (by decide +kernel) ⟨(Nat.le_of_ble_eq_true rfl), (Nat.le_of_ble_eq_true rfl)⟩) (g_pV hP hK hD hN (va_recv hK hP (ci := 2) (q0 := 25) rfl (wL_at25 _ _ _ _ _ _ _ _)) [.int x_41, .long y_40]) rfl rfl hl.1 rfl (lv_room (Nat.le_of_ble_eq_true rfl)) dX2_runLine_106 ⟨(Nat.le_of_ble_eq_true rfl), (Nat.le_of_ble_eq_true rfl)⟩) hS hA hD (fun r_68 I_64 J_65 S_66 L_67 H locs hP hD hS h => ?_)
                  refine lv_lstore (lv' := [(13, .long r_68), (12, .int s_43), (0, .ref (a 25)), (1, .int p0), (2, .int p1), (4, .int p3), (7, .int x_39), (8, .long y_40), (10, .int x_41), (11, .int x_42)]) hx hb dX2_runLine_109 hl (by decide) rfl (fun ls hl => ?_)
                  refine lv_aload_n hx hb dX2_runLine_111 rfl (lv_at hl 2 rfl) ?_
                  refine va_get (D := (dC, dI)) (ci := 2) (v := .ref (a 31)) (C := RX2) (T := TX2) (N := 16) hx hb hts nX2_runLine_2_X2 hown hK hP 25 (wL_at25 _ _ _ _ _ _ _ _) rfl 5 (by decide) (hts (.fieldLink RX2 28 "SongOffice$Ledger" "came" "[J") kX2_runLine_2_5) (fun _ h9 => h9) rfl dX2_runLine_112 ?_
                  refine lv_iload hx hb dX2_runLine_115 (lv_at hl 8 rfl) ?_
                  refine lv_dup2_11 hx hb dX2_runLine_117 rfl rfl ?_
                  obtain ⟨hi, h⟩ := h
                  refine va_lald hx hb hK hP 31 26 (wL_at31 _ _ _ _ _ _ _ _) rfl hi dX2_runLine_118 ?_
                  refine lv_lload hx hb dX2_runLine_119 (lv_at hl 7 rfl) ?_
                  refine lv_ladd hx hb dX2_runLine_121 ?_
                  obtain ⟨hi, h⟩ := h
                  obtain ⟨J_69, eJ_69⟩ : ∃ z : TJ, z = va_up J_65 31 (vp_updL (J_65 31) (x_41).toNatClampNeg ((J_65 31 (x_41).toNatClampNeg) + y_40)) := ⟨_, rfl⟩
                  have h := h J_69 eJ_69
                  refine va_last hx hb hK hP hD hS 31 26 (wL_at31 _ _ _ _ _ _ _ _) rfl hi dX2_runLine_122 (fun H locs hP hD hS => ?_)
                  have hP : va_P (dC, dI) vwCl (wL a cy n0 n1 I_64 J_69 S_66 L_67) H := by rw [eJ_69]; exact setP hP (wL_set31 _ _ _ _ _ _ _ _ _)
                  have hD : va_D A (wL a cy n0 n1 I_64 J_69 S_66 L_67) := by rw [eJ_69]; exact setD hD (wL_set31 _ _ _ _ _ _ _ _ _)
                  refine lv_aload_n hx hb dX2_runLine_123 rfl (lv_at hl 2 rfl) ?_
                  refine va_get (D := (dC, dI)) (ci := 2) (v := .ref (a 30)) (C := RX2) (T := TX2) (N := 16) hx hb hts nX2_runLine_2_X2 hown hK hP 25 (wL_at25 _ _ _ _ _ _ _ _) rfl 4 (by decide) (hts (.fieldLink RX2 25 "SongOffice$Ledger" "kept" "[J") kX2_runLine_2_6) (fun _ h9 => h9) rfl dX2_runLine_124 ?_
                  refine lv_iload hx hb dX2_runLine_127 (lv_at hl 8 rfl) ?_
                  refine lv_dup2_11 hx hb dX2_runLine_129 rfl rfl ?_
                  obtain ⟨hi, h⟩ := h
                  refine va_lald hx hb hK hP 30 25 (wL_at30 _ _ _ _ _ _ _ _) rfl hi dX2_runLine_130 ?_
                  refine lv_lload hx hb dX2_runLine_131 (lv_at hl 0 rfl) ?_
                  refine lv_ladd hx hb dX2_runLine_133 ?_
                  obtain ⟨hi, h⟩ := h
                  obtain ⟨J_70, eJ_70⟩ : ∃ z : TJ, z = va_up J_69 30 (vp_updL (J_69 30) (x_41).toNatClampNeg ((J_69 30 (x_41).toNatClampNeg) + r_68)) := ⟨_, rfl⟩
                  have h := h J_70 eJ_70
                  refine va_last hx hb hK hP hD hS 30 25 (wL_at30 _ _ _ _ _ _ _ _) rfl hi dX2_runLine_134 (fun H locs hP hD hS => ?_)
                  have hP : va_P (dC, dI) vwCl (wL a cy n0 n1 I_64 J_70 S_66 L_67) H := by rw [eJ_70]; exact setP hP (wL_set30 _ _ _ _ _ _ _ _ _)
                  have hD : va_D A (wL a cy n0 n1 I_64 J_70 S_66 L_67) := by rw [eJ_70]; exact setD hD (wL_set30 _ _ _ _ _ _ _ _ _)
                  refine lv_lload hx hb dX2_runLine_135 (lv_at hl 7 rfl) ?_
                  refine lv_lload hx hb dX2_runLine_137 (lv_at hl 0 rfl) ?_
                  refine lv_lsub hx hb dX2_runLine_139 ?_
                  refine lv_topl (fun y_71 ey_71 => ?_)
                  have h := h y_71 ey_71
                  refine lv_lstore (lv' := [(8, .long y_71), (13, .long r_68), (12, .int s_43), (0, .ref (a 25)), (1, .int p0), (2, .int p1), (4, .int p3), (7, .int x_39), (10, .int x_41), (11, .int x_42)]) hx hb dX2_runLine_140 hl (by decide) rfl (fun ls hl => ?_)
                  refine lv_aload_n hx hb dX2_runLine_142 rfl (lv_at hl 3 rfl) ?_
                  refine va_get (D := (dC, dI)) (ci := 2) (v := .ref (a 5)) (C := RX2) (T := TX2) (N := 16) hx hb hts nX2_runLine_2_X2 hown hK hP 25 (wL_at25 _ _ _ _ _ _ _ _) rfl 13 (by decide) (hts (.fieldLink RX2 45 "SongOffice$Ledger" "bargains" "LSongOffice$BargainBook;") kX2_runLine_2_2) (fun _ h9 => h9) rfl dX2_runLine_143 ?_
                  refine va_get (D := (dC, dI)) (ci := 0) (v := .ref (a 6)) (C := RX0) (T := TX0) (N := 9) hx hb hts nX2_runLine_2_X0 hown hK hP 5 (wL_at5 _ _ _ _ _ _ _ _) rfl 0 (by decide) (hts (.fieldLink RX2 116 "SongOffice$BargainBook" "kinds" "[I") kX2_runLine_2_4) (fun _ h9 => h9) rfl dX2_runLine_146 ?_
                  refine lv_iload hx hb dX2_runLine_149 (lv_at hl 8 rfl) ?_
                  obtain ⟨hi, h⟩ := h
                  refine va_iald hx hb hK hP 6 4 (wL_at6 _ _ _ _ _ _ _ _) rfl hi dX2_runLine_151 ?_
                  refine lv_iconst (v := 4) hx hb dX2_runLine_152 (by decide) ?_
                  obtain ⟨B_72, hB_72, h⟩ := h
                  have jB_72 : ∀ (I_73 : TI) (J_74 : TJ) (S_75 : TS) (L_76 : TL) (x_77 : Int32) (y_78 : Int64) (x_79 : Int32) (x_80 : Int32) (y_81 : Int64) (H : Heap) (locs : List Loc) (ls : Array Slot), va_P (dC, dI) vwCl (wL a cy n0 n1 I_73 J_74 S_75 L_76) H → va_D A (wL a cy n0 n1 I_73 J_74 S_75 L_76) → va_S A s.heap H locs → lv_has ls 15 [(0, .ref (a 25)), (1, .int p0), (2, .int p1), (4, .int p3), (7, .int x_77), (8, .long y_78), (10, .int x_79), (11, .int x_80), (13, .long y_81)] → B_72 I_73 J_74 S_75 L_76 x_77 y_78 x_79 x_80 y_81 → W p l e (headSpec wsX2_runLine rmX2_runLine_2).room s m args below meth c H locs 0 0 (MQ below (gQv dC dI (wL a cy n0 n1) (tyL cy) A Φ) args s 0 0 A) (F0 m 176 ls []) := by
                    intro I_73 J_74 S_75 L_76 x_77 y_78 x_79 x_80 y_81 H locs ls hP hD hS hl h
                    have h := hB_72 I_73 J_74 S_75 L_76 x_77 y_78 x_79 x_80 y_81 h
                    refine lv_iload hx hb dX2_runLine_176 (lv_at hl 7 rfl) ?_
                    refine lv_if_eq (tgt := 211) hx hb dX2_runLine_178 (by decide) (fun hc => ?_) (fun hc => ?_)
                    · have h := h.1 hc
                      exact jB_44 I_73 J_74 S_75 L_76 x_77 y_78 x_79 _ _ _ hP hD hS (lv_sub hl [0, 1, 2, 3, 4, 5, 6] rfl) h
                    · have h := h.2 hc
                      refine lv_lload hx hb dX2_runLine_181 (lv_at hl 8 rfl) ?_
                      refine lv_lconst (v := 0) hx hb dX2_runLine_183 (by decide) ?_
                      refine W.lcmp hx hb dX2_runLine_184 ?_
                      refine lv_if_le (tgt := 211) hx hb dX2_runLine_185 (by decide) (fun hc => ?_) (fun hc => ?_)
                      · have h := h.1 hc
                        exact jB_44 I_73 J_74 S_75 L_76 x_77 y_78 x_79 _ _ _ hP hD hS (lv_sub hl [0, 1, 2, 3, 4, 5, 6] rfl) h
                      · have h := h.2 hc
                        refine lv_aload_n hx hb dX2_runLine_188 rfl (lv_at hl 0 rfl) ?_
                        refine lv_iload_n hx hb dX2_runLine_189 rfl (lv_at hl 1 rfl) ?_
                        refine lv_aload_n hx hb dX2_runLine_190 rfl (lv_at hl 0 rfl) ?_
                        refine va_get (D := (dC, dI)) (ci := 2) (v := .ref (a 5)) (C := RX2) (T := TX2) (N := 16) hx hb hts nX2_runLine_2_X2 hown hK hP 25 (wL_at25 _ _ _ _ _ _ _ _) rfl 13 (by decide) (hts (.fieldLink RX2 45 "SongOffice$Ledger" "bargains" "LSongOffice$BargainBook;") kX2_runLine_2_2) (fun _ h9 => h9) rfl dX2_runLine_191 ?_
                        refine va_get (D := (dC, dI)) (ci := 0) (v := .ref (a 13)) (C := RX0) (T := TX0) (N := 9) hx hb hts nX2_runLine_2_X0 hown hK hP 5 (wL_at5 _ _ _ _ _ _ _ _) rfl 7 (by decide) (hts (.fieldLink RX2 220 "SongOffice$BargainBook" "takers" "[I") kX2_runLine_2_9) (fun _ h9 => h9) rfl dX2_runLine_194 ?_
                        refine lv_iload hx hb dX2_runLine_197 (lv_at hl 6 rfl) ?_
                        obtain ⟨hi, h⟩ := h
                        refine va_iald hx hb hK hP 13 11 (wL_at13 _ _ _ _ _ _ _ _) rfl hi dX2_runLine_199 ?_
                        refine lv_iload hx hb dX2_runLine_200 (lv_at hl 6 rfl) ?_
                        refine lv_iload hx hb dX2_runLine_202 (lv_at hl 3 rfl) ?_
                        refine lv_iconst (v := 1) hx hb dX2_runLine_204 (by decide) ?_
                        refine lv_iadd hx hb dX2_runLine_205 ?_
                        refine lv_lload hx hb dX2_runLine_206 (lv_at hl 8 rfl) ?_
                        exact h.elim
                  refine lv_icmp_ne (tgt := 176) hx hb dX2_runLine_153 (by decide) (fun hc => ?_) (fun hc => ?_)
                  · have h := h.1 hc
                    exact jB_72 I_64 J_70 S_66 L_67 x_39 y_71 x_41 x_42 r_68 _ _ _ hP hD hS (lv_sub hl [3, 4, 5, 6, 7, 0, 8, 9, 1] rfl) h
                  · have h := h.2 hc
                    refine lv_aload_n hx hb dX2_runLine_156 rfl (lv_at hl 3 rfl) ?_
                    refine va_get (D := (dC, dI)) (ci := 2) (v := .ref (a 32)) (C := RX2) (T := TX2) (N := 16) hx hb hts nX2_runLine_2_X2 hown hK hP 25 (wL_at25 _ _ _ _ _ _ _ _) rfl 6 (by decide) (hts (.fieldLink RX2 31 "SongOffice$Ledger" "bags" "[J") kX2_runLine_2_7) (fun _ h9 => h9) rfl dX2_runLine_157 ?_
                    refine lv_iload hx hb dX2_runLine_160 (lv_at hl 8 rfl) ?_
                    refine lv_bipush (v := 40) hx hb dX2_runLine_162 (by decide) ?_
                    refine lv_imul hx hb dX2_runLine_164 ?_
                    refine lv_aload_n hx hb dX2_runLine_165 rfl (lv_at hl 3 rfl) ?_
                    refine va_get (D := (dC, dI)) (ci := 2) (v := .int (S_66 3)) (C := RX2) (T := TX2) (N := 16) hx hb hts nX2_runLine_2_X2 hown hK hP 25 (wL_at25 _ _ _ _ _ _ _ _) rfl 10 (by decide) (hts (.fieldLink RX2 78 "SongOffice$Ledger" "closed" "I") kX2_runLine_2_8) (fun _ h9 => h9) rfl dX2_runLine_166 ?_
                    refine lv_iadd hx hb dX2_runLine_169 ?_
                    refine lv_dup2_11 hx hb dX2_runLine_170 rfl rfl ?_
                    obtain ⟨hi, h⟩ := h
                    refine va_lald hx hb hK hP 32 27 (wL_at32 _ _ _ _ _ _ _ _) rfl hi dX2_runLine_171 ?_
                    refine lv_lload hx hb dX2_runLine_172 (lv_at hl 1 rfl) ?_
                    refine lv_ladd hx hb dX2_runLine_174 ?_
                    obtain ⟨hi, h⟩ := h
                    obtain ⟨J_82, eJ_82⟩ : ∃ z : TJ, z = va_up J_70 32 (vp_updL (J_70 32) (((x_41 * (40 : Int32)) + (S_66 3))).toNatClampNeg ((J_70 32 (((x_41 * (40 : Int32)) + (S_66 3))).toNatClampNeg) + r_68)) := ⟨_, rfl⟩
                    have h := h J_82 eJ_82
                    refine va_last hx hb hK hP hD hS 32 27 (wL_at32 _ _ _ _ _ _ _ _) rfl hi dX2_runLine_175 (fun H locs hP hD hS => ?_)
                    have hP : va_P (dC, dI) vwCl (wL a cy n0 n1 I_64 J_82 S_66 L_67) H := by rw [eJ_82]; exact setP hP (wL_set32 _ _ _ _ _ _ _ _ _)
                    have hD : va_D A (wL a cy n0 n1 I_64 J_82 S_66 L_67) := by rw [eJ_82]; exact setD hD (wL_set32 _ _ _ _ _ _ _ _ _)
                    exact jB_72 I_64 J_82 S_66 L_67 x_39 y_71 x_41 x_42 r_68 _ _ _ hP hD hS (lv_sub hl [3, 4, 5, 6, 7, 0, 8, 9, 1] rfl) h
                · have h := h.2 hc
                  refine lv_goto (tgt := 211) hx hb dX2_runLine_98 (by decide) ?_
                  exact jB_44 I_59 J_60 S_61 L_62 x_39 y_40 x_41 _ _ _ hP hD hS (lv_sub hl [1, 2, 3, 4, 5, 6, 7] rfl) h
            obtain ⟨B_83, hB_83, h⟩ := h
            have jB_83 : ∀ (I_84 : TI) (J_85 : TJ) (S_86 : TS) (L_87 : TL) (x_88 : Int32) (y_89 : Int64) (x_90 : Int32) (x_91 : Int32) (H : Heap) (locs : List Loc) (ls : Array Slot), va_P (dC, dI) vwCl (wL a cy n0 n1 I_84 J_85 S_86 L_87) H → va_D A (wL a cy n0 n1 I_84 J_85 S_86 L_87) → va_S A s.heap H locs → lv_has ls 15 [(0, .ref (a 25)), (1, .int p0), (2, .int p1), (4, .int p3), (7, .int x_88), (8, .long y_89), (10, .int x_90), (11, .int x_91)] → B_83 I_84 J_85 S_86 L_87 x_88 y_89 x_90 x_91 → W p l e (headSpec wsX2_runLine rmX2_runLine_2).room s m args below meth c H locs 0 0 (MQ below (gQv dC dI (wL a cy n0 n1) (tyL cy) A Φ) args s 0 0 A) (F0 m 72 ls []) := by
              intro I_84 J_85 S_86 L_87 x_88 y_89 x_90 x_91 H locs ls hP hD hS hl h
              have h := hB_83 I_84 J_85 S_86 L_87 x_88 y_89 x_90 x_91 h
              refine lv_iconst (v := 0) hx hb dX2_runLine_72 (by decide) ?_
              exact jB_34 I_84 J_85 S_86 L_87 x_88 y_89 x_90 x_91 (0 : Int32) _ _ _ hP hD hS (lv_sub hl [0, 1, 2, 3, 4, 5, 6, 7] rfl) h
            refine lv_if_eq (tgt := 72) hx hb dX2_runLine_59 (by decide) (fun hc => ?_) (fun hc => ?_)
            · have h := h.1 hc
              exact jB_83 I_29 J_30 S_31 L_32 x_14 y_15 x_16 r_33 _ _ _ hP hD hS (lv_sub hl [1, 2, 3, 4, 5, 6, 7, 0] rfl) h
            · have h := h.2 hc
              refine lv_iload hx hb dX2_runLine_62 (lv_at hl 4 rfl) ?_
              refine lv_iconst (v := 2) hx hb dX2_runLine_64 (by decide) ?_
              refine lv_icmp_lt (tgt := 72) hx hb dX2_runLine_65 (by decide) (fun hc => ?_) (fun hc => ?_)
              · have h := h.1 hc
                exact jB_83 I_29 J_30 S_31 L_32 x_14 y_15 x_16 r_33 _ _ _ hP hD hS (lv_sub hl [1, 2, 3, 4, 5, 6, 7, 0] rfl) h
              · have h := h.2 hc
                refine lv_iconst (v := 1) hx hb dX2_runLine_68 (by decide) ?_
                refine lv_goto (tgt := 73) hx hb dX2_runLine_69 (by decide) ?_
                exact jB_34 I_29 J_30 S_31 L_32 x_14 y_15 x_16 r_33 (1 : Int32) _ _ _ hP hD hS (lv_sub hl [1, 2, 3, 4, 5, 6, 7, 0] rfl) h
  exact lV_7 n_9 I_1 J_2 S_3 L_4 r_5 p4 x_6 _ _ _ hP hD hS (lv_sub hl [3, 4, 5, 7, 2, 1, 0] rfl) h0V_7
def wp_X2_runLine_1 (n0 n1 : Nat) (I : TI) (J : TJ) (S : TS) (L : TL) (p0 : Int32) (p1 : Int32) (p2 : Int32) (p3 : Int32) (p4 : Int64) (Φ : TI → TJ → TS → TL → Prop) : Prop := wp_X3_begin n0 n1 I J S L p0 p1 p2 p4 (fun (r_5 : Int32) (I_1 : TI) (J_2 : TJ) (S_3 : TS) (L_4 : TL) => (∀ x_6 : Int32, x_6 = (p2 + (1 : Int32)) → (∃ V_7 : Nat → TI → TJ → TS → TL → Int32 → Int64 → Int32 → Prop, (∃ n_9, V_7 n_9 I_1 J_2 S_3 L_4 r_5 p4 x_6) ∧ ∀ (n_8 : Nat) (I_10 : TI) (J_11 : TJ) (S_12 : TS) (L_13 : TL) (x_14 : Int32) (y_15 : Int64) (x_16 : Int32), V_7 n_8 I_10 J_11 S_12 L_13 x_14 y_15 x_16 → (∃ B_17 : TI → TJ → TS → TL → Int32 → Int64 → Prop, (∀ (I_18 : TI) (J_19 : TJ) (S_20 : TS) (L_21 : TL) (x_22 : Int32) (y_23 : Int64), B_17 I_18 J_19 S_20 L_21 x_22 y_23 → ((vp_in p1 12) ∧ ((vp_in p1 12) ∧ ∀ J_24 : TJ, J_24 = va_up J_19 26 (vp_updL (J_19 26) (p1).toNatClampNeg ((J_19 26 (p1).toNatClampNeg) + y_23)) → (wp_X3_end n0 n1 I_18 J_24 S_20 L_21 x_22 y_23 (fun (I_25 : TI) (J_26 : TJ) (S_27 : TS) (L_28 : TL) => (Φ I_25 J_26 S_27 L_28)))))) ∧ ((((S_12 1) ≤ x_16) → (B_17 I_10 J_11 S_12 L_13 x_14 y_15)) ∧ ((¬ (S_12 1) ≤ x_16) → ((((lg_cmp y_15 (0 : Int64)) ≤ 0) → (B_17 I_10 J_11 S_12 L_13 x_14 y_15)) ∧ ((¬ (lg_cmp y_15 (0 : Int64)) ≤ 0) → ((vp_in x_16 24) ∧ (wp_X7_passesOn I_10 J_11 S_12 L_13 (I_10 6 (x_16).toNatClampNeg) (fun (r_33 : Int32) (I_29 : TI) (J_30 : TJ) (S_31 : TS) (L_32 : TL) => (∃ B_34 : TI → TJ → TS → TL → Int32 → Int64 → Int32 → Int32 → Int32 → Prop, (∀ (I_35 : TI) (J_36 : TJ) (S_37 : TS) (L_38 : TL) (x_39 : Int32) (y_40 : Int64) (x_41 : Int32) (x_42 : Int32) (s_43 : Int32), B_34 I_35 J_36 S_37 L_38 x_39 y_40 x_41 x_42 s_43 → (∃ B_44 : TI → TJ → TS → TL → Int32 → Int64 → Int32 → Prop, (∀ (I_45 : TI) (J_46 : TJ) (S_47 : TS) (L_48 : TL) (x_49 : Int32) (y_50 : Int64) (x_51 : Int32), B_44 I_45 J_46 S_47 L_48 x_49 y_50 x_51 → (∀ x_52 : Int32, x_52 = x_51 + 1 → (∃ n_53, n_53 < n_8 ∧ V_7 n_53 I_45 J_46 S_47 L_48 x_49 y_50 x_52))) ∧ (((¬ s_43 = 0) → (B_44 I_35 J_36 S_37 L_38 x_39 y_40 x_41)) ∧ ((s_43 = 0) → (wp_X2_lastDay n0 n1 I_35 J_36 S_37 L_38 (fun (r_58 : Int32) (I_54 : TI) (J_55 : TJ) (S_56 : TS) (L_57 : TL) => (wp_X0_holdsFor n0 n1 I_54 J_55 S_56 L_57 x_41 p1 p0 r_58 (fun (r_63 : Int32) (I_59 : TI) (J_60 : TJ) (S_61 : TS) (L_62 : TL) => (((¬ r_63 = 0) → (wp_X2_takenBy n0 n1 I_59 J_60 S_61 L_62 x_41 y_40 (fun (r_68 : Int64) (I_64 : TI) (J_65 : TJ) (S_66 : TS) (L_67 : TL) => ((vp_in x_41 24) ∧ ((vp_in x_41 24) ∧ ∀ J_69 : TJ, J_69 = va_up J_65 31 (vp_updL (J_65 31) (x_41).toNatClampNeg ((J_65 31 (x_41).toNatClampNeg) + y_40)) → ((vp_in x_41 24) ∧ ((vp_in x_41 24) ∧ ∀ J_70 : TJ, J_70 = va_up J_69 30 (vp_updL (J_69 30) (x_41).toNatClampNeg ((J_69 30 (x_41).toNatClampNeg) + r_68)) → (∀ y_71 : Int64, y_71 = (y_40 - r_68) → ((vp_in x_41 24) ∧ (∃ B_72 : TI → TJ → TS → TL → Int32 → Int64 → Int32 → Int32 → Int64 → Prop, (∀ (I_73 : TI) (J_74 : TJ) (S_75 : TS) (L_76 : TL) (x_77 : Int32) (y_78 : Int64) (x_79 : Int32) (x_80 : Int32) (y_81 : Int64), B_72 I_73 J_74 S_75 L_76 x_77 y_78 x_79 x_80 y_81 → (((x_80 = 0) → (B_44 I_73 J_74 S_75 L_76 x_77 y_78 x_79)) ∧ ((¬ x_80 = 0) → ((((lg_cmp y_81 (0 : Int64)) ≤ 0) → (B_44 I_73 J_74 S_75 L_76 x_77 y_78 x_79)) ∧ ((¬ (lg_cmp y_81 (0 : Int64)) ≤ 0) → ((vp_in x_79 24) ∧ (wp_X2_runLine_2 n0 n1 I_73 J_74 S_75 L_76 p0 (I_73 13 (x_79).toNatClampNeg) x_79 (p3 + (1 : Int32)) y_81 (fun (I_82 : TI) (J_83 : TJ) (S_84 : TS) (L_85 : TL) => (B_44 I_82 J_83 S_84 L_85 x_77 y_78 x_79))))))))) ∧ (((¬ (I_64 6 (x_41).toNatClampNeg) = (4 : Int32)) → (B_72 I_64 J_70 S_66 L_67 x_39 y_71 x_41 x_42 r_68)) ∧ (((I_64 6 (x_41).toNatClampNeg) = (4 : Int32)) → ((vp_in ((x_41 * (40 : Int32)) + (S_66 3)) 960) ∧ ((vp_in ((x_41 * (40 : Int32)) + (S_66 3)) 960) ∧ ∀ J_86 : TJ, J_86 = va_up J_70 32 (vp_updL (J_70 32) (((x_41 * (40 : Int32)) + (S_66 3))).toNatClampNeg ((J_70 32 (((x_41 * (40 : Int32)) + (S_66 3))).toNatClampNeg) + r_68)) → (B_72 I_64 J_86 S_66 L_67 x_39 y_71 x_41 x_42 r_68))))))))))))))) ∧ ((r_63 = 0) → (B_44 I_59 J_60 S_61 L_62 x_39 y_40 x_41))))))))))) ∧ (∃ B_87 : TI → TJ → TS → TL → Int32 → Int64 → Int32 → Int32 → Prop, (∀ (I_88 : TI) (J_89 : TJ) (S_90 : TS) (L_91 : TL) (x_92 : Int32) (y_93 : Int64) (x_94 : Int32) (x_95 : Int32), B_87 I_88 J_89 S_90 L_91 x_92 y_93 x_94 x_95 → (B_34 I_88 J_89 S_90 L_91 x_92 y_93 x_94 x_95 (0 : Int32))) ∧ (((r_33 = 0) → (B_87 I_29 J_30 S_31 L_32 x_14 y_15 x_16 r_33)) ∧ ((¬ r_33 = 0) → (((p3 < (2 : Int32)) → (B_87 I_29 J_30 S_31 L_32 x_14 y_15 x_16 r_33)) ∧ ((¬ p3 < (2 : Int32)) → (B_34 I_29 J_30 S_31 L_32 x_14 y_15 x_16 r_33 (1 : Int32)))))))))))))))))))
theorem nX2_runLine_1_X2 : ∀ w ∈ wsX20, w ∈ wsX2_runLine := fun _ h => List.mem_cons_of_mem _ (List.mem_append_left _ (List.mem_append_left _ (List.mem_append_right _ h)))
theorem kX2_runLine_1_1 : Cond.fieldLink RX2 61 "SongOffice$Ledger" "lines" "LSongOffice$LineBook;" ∈ wsX2_runLine := List.mem_of_getElem? (i := 1) rfl
theorem kX2_runLine_1_10 : Cond.fieldLink RX2 9 "SongOffice$Ledger" "purse" "[J" ∈ wsX2_runLine := List.mem_of_getElem? (i := 10) rfl
theorem nX2_runLine_1_X0 : ∀ w ∈ wsX00, w ∈ wsX2_runLine := fun _ h => List.mem_cons_of_mem _ (List.mem_append_left _ (List.mem_append_right _ h))
theorem kX2_runLine_1_9 : Cond.fieldLink RX2 220 "SongOffice$BargainBook" "takers" "[I" ∈ wsX2_runLine := List.mem_of_getElem? (i := 9) rfl
theorem kX2_runLine_1_2 : Cond.fieldLink RX2 45 "SongOffice$Ledger" "bargains" "LSongOffice$BargainBook;" ∈ wsX2_runLine := List.mem_of_getElem? (i := 2) rfl
theorem kX2_runLine_1_8 : Cond.fieldLink RX2 78 "SongOffice$Ledger" "closed" "I" ∈ wsX2_runLine := List.mem_of_getElem? (i := 8) rfl
theorem kX2_runLine_1_7 : Cond.fieldLink RX2 31 "SongOffice$Ledger" "bags" "[J" ∈ wsX2_runLine := List.mem_of_getElem? (i := 7) rfl
theorem kX2_runLine_1_4 : Cond.fieldLink RX2 116 "SongOffice$BargainBook" "kinds" "[I" ∈ wsX2_runLine := List.mem_of_getElem? (i := 4) rfl
theorem kX2_runLine_1_6 : Cond.fieldLink RX2 25 "SongOffice$Ledger" "kept" "[J" ∈ wsX2_runLine := List.mem_of_getElem? (i := 6) rfl
theorem kX2_runLine_1_5 : Cond.fieldLink RX2 28 "SongOffice$Ledger" "came" "[J" ∈ wsX2_runLine := List.mem_of_getElem? (i := 5) rfl
theorem kX2_runLine_1_23 : Cond.initialized RX7 ∈ wsX2_runLine := List.mem_of_getElem? (i := 23) rfl
theorem kX2_runLine_1_22 : Cond.static yX7_passesOn ∈ wsX2_runLine := List.mem_of_getElem? (i := 22) rfl
theorem kX2_runLine_1_3 : Cond.fieldLink RX2 142 "SongOffice$BargainBook" "size" "I" ∈ wsX2_runLine := List.mem_of_getElem? (i := 3) rfl
abbrev rmX2_runLine_1 : Room := { frames := 3, cells := 0, slots := 0, locals := 101 }
set_option maxHeartbeats 4000000 in
set_option maxRecDepth 100000 in
theorem c_X2_runLine_1 (l : Launch) (dC : Nat → ClassId) (dI : Nat → Nat → Nat) (a : Nat → Nat) (cy : Nat → ClassId) (n0 n1 : Nat) (sz : Nat) (I : TI) (J : TJ) (S : TS) (L : TL) (p0 : Int32) (p1 : Int32) (p2 : Int32) (p3 : Int32) (p4 : Int64) (Φ : TI → TJ → TS → TL → Prop) (h : wp_X2_runLine_1 n0 n1 I J S L p0 p1 p2 p3 p4 Φ) : Met l yX2_runLine wsX2_runLine rmX2_runLine_1 (va_Pc [.ref (a 25), .int p0, .int p1, .int p2, .int p3, .long p4] (gpre dC dI (wL a cy n0 n1 I J S L) (tyL cy) sz)) (gQv dC dI (wL a cy n0 n1) (tyL cy) (va_A (wL a cy n0 n1 I J S L) sz) Φ) 0 0 (va_A (wL a cy n0 n1 I J S L) sz) := by
  refine Met.ofW (cc := cX2_runLine) (maxL := 15) (ret := none) (by decide) rfl ?_
  intro p e s m args below meth c s₁ B hml hv
  obtain ⟨hargs, hsz, hP, hK, hD0, hN⟩ := hv
  have hx := B.exec
  have hb := B.bytes
  have hr := B.returns
  have hts := atoms_spec (ws := wsX2_runLine) B.pre
  have hown : s.vm.findClass RX2 = some m.cls := findClass_of_methodNamed B.named
  have hlocks := B.notSynchronized
  subst hsz
  have hD := hD0.self (sz := s.heap.size)
  generalize hAe : va_A (wL a cy n0 n1 I J S L) s.heap.size = A at hD ⊢
  have hA : ∀ q : Nat, s.heap.size ≤ q → A q := fun q h => by rw [← hAe]; exact Or.inr h
  obtain ⟨H, hH⟩ : ∃ z : Heap, z = s.heap := ⟨_, rfl⟩
  rw [← hH] at hP
  have hS : va_S A s.heap H [] := by rw [hH]; exact va_S.rf
  have hl := lv_entry ([.ref (a 25), .int p0, .int p1, .int p2, .int p3, .long p4]) (n := 15) (Nat.le_of_ble_eq_true rfl)
  have hE : entryFrame m args 15 = F0 m 0 ((lg_sl ([.ref (a 25), .int p0, .int p1, .int p2, .int p3, .long p4]) ++ List.replicate (15 - (lg_sl ([.ref (a 25), .int p0, .int p1, .int p2, .int p3, .long p4])).length) Slot.unset).toArray) [] := by rw [hargs]; exact lg_entry_eq m _ _
  rw [hE, ← hH]
  clear hE
  generalize (lg_sl ([.ref (a 25), .int p0, .int p1, .int p2, .int p3, .long p4]) ++ List.replicate (15 - (lg_sl ([.ref (a 25), .int p0, .int p1, .int p2, .int p3, .long p4])).length) Slot.unset).toArray = ls at hl ⊢
  have hl : lv_has ls 15 [(0, .ref (a 25)), (1, .int p0), (2, .int p1), (3, .int p2), (4, .int p3), (5, .long p4)] := hl
  unfold wp_X2_runLine_1 at h
  refine lv_aload_n hx hb dX2_runLine_0 rfl (lv_at hl 0 rfl) ?_
  refine va_get (D := (dC, dI)) (ci := 2) (v := .ref (a 33)) (C := RX2) (T := TX2) (N := 16) hx hb hts nX2_runLine_1_X2 hown hK hP 25 (wL_at25 _ _ _ _ _ _ _ _) rfl 7 (by decide) (hts (.fieldLink RX2 61 "SongOffice$Ledger" "lines" "LSongOffice$LineBook;") kX2_runLine_1_1) (fun _ h9 => h9) rfl dX2_runLine_1 ?_
  refine lv_iload_n hx hb dX2_runLine_4 rfl (lv_at hl 1 rfl) ?_
  refine lv_iload_n hx hb dX2_runLine_5 rfl (lv_at hl 2 rfl) ?_
  refine lv_iload_n hx hb dX2_runLine_6 rfl (lv_at hl 3 rfl) ?_
  refine lv_lload hx hb dX2_runLine_7 (lv_at hl 5 rfl) ?_
  refine gcalli (va_runV (As := [.int p0, .int p1, .int p2, .long p4]) (rest := []) ⟨hx, hb, hml, hown, hts⟩ (c_X3_begin l dC dI a cy n0 n1 H.size I J S L p0 p1 p2 p4 _ h) (cwV 4 hts gX2_runLine_X3_begin rfl rfl rfl (by decide +kernel) ⟨(Nat.le_of_ble_eq_true rfl), (Nat.le_of_ble_eq_true rfl)⟩) (g_pV hP hK hD hN (va_recv hK hP (ci := 3) (q0 := 33) rfl (wL_at33 _ _ _ _ _ _ _ _)) [.int p0, .int p1, .int p2, .long p4]) rfl rfl hl.1 rfl (lv_room (Nat.le_of_ble_eq_true rfl)) dX2_runLine_9 ⟨(Nat.le_of_ble_eq_true rfl), (Nat.le_of_ble_eq_true rfl)⟩) hS hA hD (fun r_5 I_1 J_2 S_3 L_4 H locs hP hD hS h => ?_)
  refine lv_istore (lv' := [(7, .int r_5), (0, .ref (a 25)), (1, .int p0), (2, .int p1), (3, .int p2), (4, .int p3), (5, .long p4)]) hx hb dX2_runLine_12 hl (by decide) rfl (fun ls hl => ?_)
  refine lv_lload hx hb dX2_runLine_14 (lv_at hl 6 rfl) ?_
  refine lv_lstore (lv' := [(8, .long p4), (7, .int r_5), (0, .ref (a 25)), (1, .int p0), (2, .int p1), (3, .int p2), (4, .int p3), (5, .long p4)]) hx hb dX2_runLine_16 hl (by decide) rfl (fun ls hl => ?_)
  refine lv_iload_n hx hb dX2_runLine_18 rfl (lv_at hl 5 rfl) ?_
  refine lv_iconst (v := 1) hx hb dX2_runLine_19 (by decide) ?_
  refine lv_iadd hx hb dX2_runLine_20 ?_
  refine lv_topi (fun x_6 ex_6 => ?_)
  have h := h x_6 ex_6
  refine lv_istore (lv' := [(10, .int x_6), (8, .long p4), (7, .int r_5), (0, .ref (a 25)), (1, .int p0), (2, .int p1), (3, .int p2), (4, .int p3), (5, .long p4)]) hx hb dX2_runLine_21 hl (by decide) rfl (fun ls hl => ?_)
  obtain ⟨V_7, ⟨n_9, h0V_7⟩, hV_7⟩ := h
  have lV_7 : ∀ (n_8 : Nat) (I_10 : TI) (J_11 : TJ) (S_12 : TS) (L_13 : TL) (x_14 : Int32) (y_15 : Int64) (x_16 : Int32) (H : Heap) (locs : List Loc) (ls : Array Slot), va_P (dC, dI) vwCl (wL a cy n0 n1 I_10 J_11 S_12 L_13) H → va_D A (wL a cy n0 n1 I_10 J_11 S_12 L_13) → va_S A s.heap H locs → lv_has ls 15 [(0, .ref (a 25)), (1, .int p0), (2, .int p1), (4, .int p3), (7, .int x_14), (8, .long y_15), (10, .int x_16)] → V_7 n_8 I_10 J_11 S_12 L_13 x_14 y_15 x_16 → W p l e (headSpec wsX2_runLine rmX2_runLine_1).room s m args below meth c H locs 0 0 (MQ below (gQv dC dI (wL a cy n0 n1) (tyL cy) A Φ) args s 0 0 A) (F0 m 23 ls []) := by
    intro n_8
    induction n_8 using Nat.strongRecOn with
    | ind n_8 ihV_7 =>
        intro I_10 J_11 S_12 L_13 x_14 y_15 x_16 H locs ls hP hD hS hl h
        have h := hV_7 n_8 I_10 J_11 S_12 L_13 x_14 y_15 x_16 h
        refine lv_iload hx hb dX2_runLine_23 (lv_at hl 6 rfl) ?_
        refine lv_aload_n hx hb dX2_runLine_25 rfl (lv_at hl 0 rfl) ?_
        refine va_get (D := (dC, dI)) (ci := 2) (v := .ref (a 5)) (C := RX2) (T := TX2) (N := 16) hx hb hts nX2_runLine_1_X2 hown hK hP 25 (wL_at25 _ _ _ _ _ _ _ _) rfl 13 (by decide) (hts (.fieldLink RX2 45 "SongOffice$Ledger" "bargains" "LSongOffice$BargainBook;") kX2_runLine_1_2) (fun _ h9 => h9) rfl dX2_runLine_26 ?_
        refine va_get (D := (dC, dI)) (ci := 0) (v := .int (S_12 1)) (C := RX0) (T := TX0) (N := 9) hx hb hts nX2_runLine_1_X0 hown hK hP 5 (wL_at5 _ _ _ _ _ _ _ _) rfl 8 (by decide) (hts (.fieldLink RX2 142 "SongOffice$BargainBook" "size" "I") kX2_runLine_1_3) (fun _ h9 => h9) rfl dX2_runLine_29 ?_
        obtain ⟨B_17, hB_17, h⟩ := h
        have jB_17 : ∀ (I_18 : TI) (J_19 : TJ) (S_20 : TS) (L_21 : TL) (x_22 : Int32) (y_23 : Int64) (H : Heap) (locs : List Loc) (ls : Array Slot), va_P (dC, dI) vwCl (wL a cy n0 n1 I_18 J_19 S_20 L_21) H → va_D A (wL a cy n0 n1 I_18 J_19 S_20 L_21) → va_S A s.heap H locs → lv_has ls 15 [(0, .ref (a 25)), (2, .int p1), (7, .int x_22), (8, .long y_23)] → B_17 I_18 J_19 S_20 L_21 x_22 y_23 → W p l e (headSpec wsX2_runLine rmX2_runLine_1).room s m args below meth c H locs 0 0 (MQ below (gQv dC dI (wL a cy n0 n1) (tyL cy) A Φ) args s 0 0 A) (F0 m 217 ls []) := by
          intro I_18 J_19 S_20 L_21 x_22 y_23 H locs ls hP hD hS hl h
          have h := hB_17 I_18 J_19 S_20 L_21 x_22 y_23 h
          refine lv_aload_n hx hb dX2_runLine_217 rfl (lv_at hl 0 rfl) ?_
          refine va_get (D := (dC, dI)) (ci := 2) (v := .ref (a 26)) (C := RX2) (T := TX2) (N := 16) hx hb hts nX2_runLine_1_X2 hown hK hP 25 (wL_at25 _ _ _ _ _ _ _ _) rfl 0 (by decide) (hts (.fieldLink RX2 9 "SongOffice$Ledger" "purse" "[J") kX2_runLine_1_10) (fun _ h9 => h9) rfl dX2_runLine_218 ?_
          refine lv_iload_n hx hb dX2_runLine_221 rfl (lv_at hl 1 rfl) ?_
          refine lv_dup2_11 hx hb dX2_runLine_222 rfl rfl ?_
          obtain ⟨hi, h⟩ := h
          refine va_lald hx hb hK hP 26 21 (wL_at26 _ _ _ _ _ _ _ _) rfl hi dX2_runLine_223 ?_
          refine lv_lload hx hb dX2_runLine_224 (lv_at hl 3 rfl) ?_
          refine lv_ladd hx hb dX2_runLine_226 ?_
          obtain ⟨hi, h⟩ := h
          obtain ⟨J_24, eJ_24⟩ : ∃ z : TJ, z = va_up J_19 26 (vp_updL (J_19 26) (p1).toNatClampNeg ((J_19 26 (p1).toNatClampNeg) + y_23)) := ⟨_, rfl⟩
          have h := h J_24 eJ_24
          refine va_last hx hb hK hP hD hS 26 21 (wL_at26 _ _ _ _ _ _ _ _) rfl hi dX2_runLine_227 (fun H locs hP hD hS => ?_)
          have hP : va_P (dC, dI) vwCl (wL a cy n0 n1 I_18 J_24 S_20 L_21) H := by rw [eJ_24]; exact setP hP (wL_set26 _ _ _ _ _ _ _ _ _)
          have hD : va_D A (wL a cy n0 n1 I_18 J_24 S_20 L_21) := by rw [eJ_24]; exact setD hD (wL_set26 _ _ _ _ _ _ _ _ _)
          refine lv_aload_n hx hb dX2_runLine_228 rfl (lv_at hl 0 rfl) ?_
          refine va_get (D := (dC, dI)) (ci := 2) (v := .ref (a 33)) (C := RX2) (T := TX2) (N := 16) hx hb hts nX2_runLine_1_X2 hown hK hP 25 (wL_at25 _ _ _ _ _ _ _ _) rfl 7 (by decide) (hts (.fieldLink RX2 61 "SongOffice$Ledger" "lines" "LSongOffice$LineBook;") kX2_runLine_1_1) (fun _ h9 => h9) rfl dX2_runLine_229 ?_
          refine lv_iload hx hb dX2_runLine_232 (lv_at hl 2 rfl) ?_
          refine lv_lload hx hb dX2_runLine_234 (lv_at hl 3 rfl) ?_
          refine gcallv (va_runV (As := [.int x_22, .long y_23]) (rest := []) ⟨hx, hb, hml, hown, hts⟩ (c_X3_end l dC dI a cy n0 n1 H.size I_18 J_24 S_20 L_21 x_22 y_23 _ h) (cwV 2 hts gX2_runLine_X3_end rfl rfl rfl (by decide +kernel) ⟨(Nat.le_of_ble_eq_true rfl), (Nat.le_of_ble_eq_true rfl)⟩) (g_pV hP hK hD hN (va_recv hK hP (ci := 3) (q0 := 33) rfl (wL_at33 _ _ _ _ _ _ _ _)) [.int x_22, .long y_23]) rfl rfl hl.1 rfl (lv_room (Nat.le_of_ble_eq_true rfl)) dX2_runLine_236 ⟨(Nat.le_of_ble_eq_true rfl), (Nat.le_of_ble_eq_true rfl)⟩) hS hA hD (fun I_25 J_26 S_27 L_28 H locs hP hD hS h => ?_)
          exact grv hx hb hr hlocks hP hK hD hS h dX2_runLine_239
        refine lv_icmp_ge (tgt := 217) hx hb dX2_runLine_32 (by decide) (fun hc => ?_) (fun hc => ?_)
        · have h := h.1 hc
          exact jB_17 I_10 J_11 S_12 L_13 x_14 y_15 _ _ _ hP hD hS (lv_sub hl [0, 2, 4, 5] rfl) h
        · have h := h.2 hc
          refine lv_lload hx hb dX2_runLine_35 (lv_at hl 5 rfl) ?_
          refine lv_lconst (v := 0) hx hb dX2_runLine_37 (by decide) ?_
          refine W.lcmp hx hb dX2_runLine_38 ?_
          refine lv_if_le (tgt := 217) hx hb dX2_runLine_39 (by decide) (fun hc => ?_) (fun hc => ?_)
          · have h := h.1 hc
            exact jB_17 I_10 J_11 S_12 L_13 x_14 y_15 _ _ _ hP hD hS (lv_sub hl [0, 2, 4, 5] rfl) h
          · have h := h.2 hc
            refine lv_aload_n hx hb dX2_runLine_42 rfl (lv_at hl 0 rfl) ?_
            refine va_get (D := (dC, dI)) (ci := 2) (v := .ref (a 5)) (C := RX2) (T := TX2) (N := 16) hx hb hts nX2_runLine_1_X2 hown hK hP 25 (wL_at25 _ _ _ _ _ _ _ _) rfl 13 (by decide) (hts (.fieldLink RX2 45 "SongOffice$Ledger" "bargains" "LSongOffice$BargainBook;") kX2_runLine_1_2) (fun _ h9 => h9) rfl dX2_runLine_43 ?_
            refine va_get (D := (dC, dI)) (ci := 0) (v := .ref (a 6)) (C := RX0) (T := TX0) (N := 9) hx hb hts nX2_runLine_1_X0 hown hK hP 5 (wL_at5 _ _ _ _ _ _ _ _) rfl 0 (by decide) (hts (.fieldLink RX2 116 "SongOffice$BargainBook" "kinds" "[I") kX2_runLine_1_4) (fun _ h9 => h9) rfl dX2_runLine_46 ?_
            refine lv_iload hx hb dX2_runLine_49 (lv_at hl 6 rfl) ?_
            obtain ⟨hi, h⟩ := h
            refine va_iald hx hb hK hP 6 4 (wL_at6 _ _ _ _ _ _ _ _) rfl hi dX2_runLine_51 ?_
            refine gcalli (va_runSN (As := [.int (I_10 6 (x_16).toNatClampNeg)]) (rest := []) ⟨hx, hb, hml, hown, hts⟩ (c_X7_passesOn l dC dI (wL a cy n0 n1) (tyL cy) H.size I_10 J_11 S_12 L_13 (I_10 6 (x_16).toNatClampNeg) _ h) ⟨va_cnB 1 hts gX2_runLine_X7_passesOn_n208 rfl rfl rfl hN (hts (.initialized RX7) kX2_runLine_1_23) (by decide +kernel) ⟨(Nat.le_of_ble_eq_true rfl), (Nat.le_of_ble_eq_true rfl)⟩, (hts (.static yX7_passesOn) kX2_runLine_1_22), trivial⟩ (g_pS hP hK hD hN [.int (I_10 6 (x_16).toNatClampNeg)]) rfl rfl hl.1 rfl (lv_room (Nat.le_of_ble_eq_true rfl)) dX2_runLine_52 ⟨(Nat.le_of_ble_eq_true rfl), (Nat.le_of_ble_eq_true rfl)⟩) hS hA hD (fun r_33 I_29 J_30 S_31 L_32 H locs hP hD hS h => ?_)
            refine lv_istore (lv' := [(11, .int r_33), (0, .ref (a 25)), (1, .int p0), (2, .int p1), (4, .int p3), (7, .int x_14), (8, .long y_15), (10, .int x_16)]) hx hb dX2_runLine_55 hl (by decide) rfl (fun ls hl => ?_)
            refine lv_iload hx hb dX2_runLine_57 (lv_at hl 0 rfl) ?_
            obtain ⟨B_34, hB_34, h⟩ := h
            have jB_34 : ∀ (I_35 : TI) (J_36 : TJ) (S_37 : TS) (L_38 : TL) (x_39 : Int32) (y_40 : Int64) (x_41 : Int32) (x_42 : Int32) (s_43 : Int32) (H : Heap) (locs : List Loc) (ls : Array Slot), va_P (dC, dI) vwCl (wL a cy n0 n1 I_35 J_36 S_37 L_38) H → va_D A (wL a cy n0 n1 I_35 J_36 S_37 L_38) → va_S A s.heap H locs → lv_has ls 15 [(0, .ref (a 25)), (1, .int p0), (2, .int p1), (4, .int p3), (7, .int x_39), (8, .long y_40), (10, .int x_41), (11, .int x_42)] → B_34 I_35 J_36 S_37 L_38 x_39 y_40 x_41 x_42 s_43 → W p l e (headSpec wsX2_runLine rmX2_runLine_1).room s m args below meth c H locs 0 0 (MQ below (gQv dC dI (wL a cy n0 n1) (tyL cy) A Φ) args s 0 0 A) (F0 m 73 ls [.int s_43]) := by
              intro I_35 J_36 S_37 L_38 x_39 y_40 x_41 x_42 s_43 H locs ls hP hD hS hl h
              have h := hB_34 I_35 J_36 S_37 L_38 x_39 y_40 x_41 x_42 s_43 h
              refine lv_istore (lv' := [(12, .int s_43), (0, .ref (a 25)), (1, .int p0), (2, .int p1), (4, .int p3), (7, .int x_39), (8, .long y_40), (10, .int x_41), (11, .int x_42)]) hx hb dX2_runLine_73 hl (by decide) rfl (fun ls hl => ?_)
              refine lv_iload hx hb dX2_runLine_75 (lv_at hl 0 rfl) ?_
              obtain ⟨B_44, hB_44, h⟩ := h
              have jB_44 : ∀ (I_45 : TI) (J_46 : TJ) (S_47 : TS) (L_48 : TL) (x_49 : Int32) (y_50 : Int64) (x_51 : Int32) (H : Heap) (locs : List Loc) (ls : Array Slot), va_P (dC, dI) vwCl (wL a cy n0 n1 I_45 J_46 S_47 L_48) H → va_D A (wL a cy n0 n1 I_45 J_46 S_47 L_48) → va_S A s.heap H locs → lv_has ls 15 [(0, .ref (a 25)), (1, .int p0), (2, .int p1), (4, .int p3), (7, .int x_49), (8, .long y_50), (10, .int x_51)] → B_44 I_45 J_46 S_47 L_48 x_49 y_50 x_51 → W p l e (headSpec wsX2_runLine rmX2_runLine_1).room s m args below meth c H locs 0 0 (MQ below (gQv dC dI (wL a cy n0 n1) (tyL cy) A Φ) args s 0 0 A) (F0 m 211 ls []) := by
                intro I_45 J_46 S_47 L_48 x_49 y_50 x_51 H locs ls hP hD hS hl h
                have h := hB_44 I_45 J_46 S_47 L_48 x_49 y_50 x_51 h
                obtain ⟨x_52, ex_52⟩ : ∃ z : Int32, z = x_51 + 1 := ⟨_, rfl⟩
                have h := h x_52 ex_52
                refine lv_iinc (v := x_52) (lv' := [(10, .int x_52), (0, .ref (a 25)), (1, .int p0), (2, .int p1), (4, .int p3), (7, .int x_49), (8, .long y_50)]) hx hb dX2_runLine_211 hl (k := 6) rfl (by rw [ex_52]; rfl) (by decide) rfl (fun ls hl => ?_)
                refine lv_goto (tgt := 23) hx hb dX2_runLine_214 (by decide) ?_
                obtain ⟨n_53, hn2, h⟩ := h
                exact ihV_7 n_53 hn2 I_45 J_46 S_47 L_48 x_49 y_50 x_52 _ _ _ hP hD hS (lv_sub hl [1, 2, 3, 4, 5, 6, 0] rfl) h
              refine lv_if_ne (tgt := 211) hx hb dX2_runLine_77 (by decide) (fun hc => ?_) (fun hc => ?_)
              · have h := h.1 hc
                exact jB_44 I_35 J_36 S_37 L_38 x_39 y_40 x_41 _ _ _ hP hD hS (lv_sub hl [1, 2, 3, 4, 5, 6, 7] rfl) h
              · have h := h.2 hc
                refine lv_aload_n hx hb dX2_runLine_80 rfl (lv_at hl 1 rfl) ?_
                refine va_get (D := (dC, dI)) (ci := 2) (v := .ref (a 5)) (C := RX2) (T := TX2) (N := 16) hx hb hts nX2_runLine_1_X2 hown hK hP 25 (wL_at25 _ _ _ _ _ _ _ _) rfl 13 (by decide) (hts (.fieldLink RX2 45 "SongOffice$Ledger" "bargains" "LSongOffice$BargainBook;") kX2_runLine_1_2) (fun _ h9 => h9) rfl dX2_runLine_81 ?_
                refine lv_iload hx hb dX2_runLine_84 (lv_at hl 7 rfl) ?_
                refine lv_iload_n hx hb dX2_runLine_86 rfl (lv_at hl 3 rfl) ?_
                refine lv_iload_n hx hb dX2_runLine_87 rfl (lv_at hl 2 rfl) ?_
                refine lv_aload_n hx hb dX2_runLine_88 rfl (lv_at hl 1 rfl) ?_
                refine gcalli (va_runV (As := []) (rest := [.int p0, .int p1, .int x_41, .ref (a 5)]) ⟨hx, hb, hml, hown, hts⟩ (c_X2_lastDay l dC dI a cy n0 n1 H.size I_35 J_36 S_37 L_38 _ h) (cwV 0 hts gX2_runLine_X2_lastDay rfl rfl rfl (by decide +kernel) ⟨(Nat.le_of_ble_eq_true rfl), (Nat.le_of_ble_eq_true rfl)⟩) (g_pV hP hK hD hN (va_recv hK hP (ci := 2) (q0 := 25) rfl (wL_at25 _ _ _ _ _ _ _ _)) []) rfl rfl hl.1 rfl (lv_room (Nat.le_of_ble_eq_true rfl)) dX2_runLine_89 ⟨(Nat.le_of_ble_eq_true rfl), (Nat.le_of_ble_eq_true rfl)⟩) hS hA hD (fun r_58 I_54 J_55 S_56 L_57 H locs hP hD hS h => ?_)
                refine gcalli (va_runV (As := [.int x_41, .int p1, .int p0, .int r_58]) (rest := []) ⟨hx, hb, hml, hown, hts⟩ (c_X0_holdsFor l dC dI a cy n0 n1 H.size I_54 J_55 S_56 L_57 x_41 p1 p0 r_58 _ h) (cwV 4 hts gX2_runLine_X0_holdsFor rfl rfl rfl (by decide +kernel) ⟨(Nat.le_of_ble_eq_true rfl), (Nat.le_of_ble_eq_true rfl)⟩) (g_pV hP hK hD hN (va_recv hK hP (ci := 0) (q0 := 5) rfl (wL_at5 _ _ _ _ _ _ _ _)) [.int x_41, .int p1, .int p0, .int r_58]) rfl rfl hl.1 rfl (lv_room (Nat.le_of_ble_eq_true rfl)) dX2_runLine_92 ⟨(Nat.le_of_ble_eq_true rfl), (Nat.le_of_ble_eq_true rfl)⟩) hS hA hD (fun r_63 I_59 J_60 S_61 L_62 H locs hP hD hS h => ?_)
                refine lv_if_ne (tgt := 101) hx hb dX2_runLine_95 (by decide) (fun hc => ?_) (fun hc => ?_)
                · have h := h.1 hc
                  refine lv_aload_n hx hb dX2_runLine_101 rfl (lv_at hl 1 rfl) ?_
                  refine lv_iload hx hb dX2_runLine_102 (lv_at hl 7 rfl) ?_
                  refine lv_lload hx hb dX2_runLine_104 (lv_at hl 6 rfl) ?_
                  refine gcalll (va_runV (As := [.int x_41, .long y_40]) (rest := []) ⟨hx, hb, hml, hown, hts⟩ (c_X2_takenBy l dC dI a cy n0 n1 H.size I_59 J_60 S_61 L_62 x_41 y_40 _ h) (cwV 2 hts gX2_runLine_X2_takenBy rfl rfl rfl (by decide +kernel) ⟨(Nat.le_of_ble_eq_true rfl), (Nat.le_of_ble_eq_true rfl)⟩) (g_pV hP hK hD hN (va_recv hK hP (ci := 2) (q0 := 25) rfl (wL_at25 _ _ _ _ _ _ _ _)) [.int x_41, .long y_40]) rfl rfl hl.1 rfl (lv_room (Nat.le_of_ble_eq_true rfl)) dX2_runLine_106 ⟨(Nat.le_of_ble_eq_true rfl), (Nat.le_of_ble_eq_true rfl)⟩) hS hA hD (fun r_68 I_64 J_65 S_66 L_67 H locs hP hD hS h => ?_)
                  refine lv_lstore (lv' := [(13, .long r_68), (12, .int s_43), (0, .ref (a 25)), (1, .int p0), (2, .int p1), (4, .int p3), (7, .int x_39), (8, .long y_40), (10, .int x_41), (11, .int x_42)]) hx hb dX2_runLine_109 hl (by decide) rfl (fun ls hl => ?_)
                  refine lv_aload_n hx hb dX2_runLine_111 rfl (lv_at hl 2 rfl) ?_
                  refine va_get (D := (dC, dI)) (ci := 2) (v := .ref (a 31)) (C := RX2) (T := TX2) (N := 16) hx hb hts nX2_runLine_1_X2 hown hK hP 25 (wL_at25 _ _ _ _ _ _ _ _) rfl 5 (by decide) (hts (.fieldLink RX2 28 "SongOffice$Ledger" "came" "[J") kX2_runLine_1_5) (fun _ h9 => h9) rfl dX2_runLine_112 ?_
                  refine lv_iload hx hb dX2_runLine_115 (lv_at hl 8 rfl) ?_
                  refine lv_dup2_11 hx hb dX2_runLine_117 rfl rfl ?_
                  obtain ⟨hi, h⟩ := h
                  refine va_lald hx hb hK hP 31 26 (wL_at31 _ _ _ _ _ _ _ _) rfl hi dX2_runLine_118 ?_
                  refine lv_lload hx hb dX2_runLine_119 (lv_at hl 7 rfl) ?_
                  refine lv_ladd hx hb dX2_runLine_121 ?_
                  obtain ⟨hi, h⟩ := h
                  obtain ⟨J_69, eJ_69⟩ : ∃ z : TJ, z = va_up J_65 31 (vp_updL (J_65 31) (x_41).toNatClampNeg ((J_65 31 (x_41).toNatClampNeg) + y_40)) := ⟨_, rfl⟩
                  have h := h J_69 eJ_69
                  refine va_last hx hb hK hP hD hS 31 26 (wL_at31 _ _ _ _ _ _ _ _) rfl hi dX2_runLine_122 (fun H locs hP hD hS => ?_)
                  have hP : va_P (dC, dI) vwCl (wL a cy n0 n1 I_64 J_69 S_66 L_67) H := by rw [eJ_69]; exact setP hP (wL_set31 _ _ _ _ _ _ _ _ _)
                  have hD : va_D A (wL a cy n0 n1 I_64 J_69 S_66 L_67) := by rw [eJ_69]; exact setD hD (wL_set31 _ _ _ _ _ _ _ _ _)
                  refine lv_aload_n hx hb dX2_runLine_123 rfl (lv_at hl 2 rfl) ?_
                  refine va_get (D := (dC, dI)) (ci := 2) (v := .ref (a 30)) (C := RX2) (T := TX2) (N := 16) hx hb hts nX2_runLine_1_X2 hown hK hP 25 (wL_at25 _ _ _ _ _ _ _ _) rfl 4 (by decide) (hts (.fieldLink RX2 25 "SongOffice$Ledger" "kept" "[J") kX2_runLine_1_6) (fun _ h9 => h9) rfl dX2_runLine_124 ?_
                  refine lv_iload hx hb dX2_runLine_127 (lv_at hl 8 rfl) ?_
                  refine lv_dup2_11 hx hb dX2_runLine_129 rfl rfl ?_
                  obtain ⟨hi, h⟩ := h
                  refine va_lald hx hb hK hP 30 25 (wL_at30 _ _ _ _ _ _ _ _) rfl hi dX2_runLine_130 ?_
                  refine lv_lload hx hb dX2_runLine_131 (lv_at hl 0 rfl) ?_
                  refine lv_ladd hx hb dX2_runLine_133 ?_
                  obtain ⟨hi, h⟩ := h
                  obtain ⟨J_70, eJ_70⟩ : ∃ z : TJ, z = va_up J_69 30 (vp_updL (J_69 30) (x_41).toNatClampNeg ((J_69 30 (x_41).toNatClampNeg) + r_68)) := ⟨_, rfl⟩
                  have h := h J_70 eJ_70
                  refine va_last hx hb hK hP hD hS 30 25 (wL_at30 _ _ _ _ _ _ _ _) rfl hi dX2_runLine_134 (fun H locs hP hD hS => ?_)
                  have hP : va_P (dC, dI) vwCl (wL a cy n0 n1 I_64 J_70 S_66 L_67) H := by rw [eJ_70]; exact setP hP (wL_set30 _ _ _ _ _ _ _ _ _)
                  have hD : va_D A (wL a cy n0 n1 I_64 J_70 S_66 L_67) := by rw [eJ_70]; exact setD hD (wL_set30 _ _ _ _ _ _ _ _ _)
                  refine lv_lload hx hb dX2_runLine_135 (lv_at hl 7 rfl) ?_
                  refine lv_lload hx hb dX2_runLine_137 (lv_at hl 0 rfl) ?_
                  refine lv_lsub hx hb dX2_runLine_139 ?_
                  refine lv_topl (fun y_71 ey_71 => ?_)
                  have h := h y_71 ey_71
                  refine lv_lstore (lv' := [(8, .long y_71), (13, .long r_68), (12, .int s_43), (0, .ref (a 25)), (1, .int p0), (2, .int p1), (4, .int p3), (7, .int x_39), (10, .int x_41), (11, .int x_42)]) hx hb dX2_runLine_140 hl (by decide) rfl (fun ls hl => ?_)
                  refine lv_aload_n hx hb dX2_runLine_142 rfl (lv_at hl 3 rfl) ?_
                  refine va_get (D := (dC, dI)) (ci := 2) (v := .ref (a 5)) (C := RX2) (T := TX2) (N := 16) hx hb hts nX2_runLine_1_X2 hown hK hP 25 (wL_at25 _ _ _ _ _ _ _ _) rfl 13 (by decide) (hts (.fieldLink RX2 45 "SongOffice$Ledger" "bargains" "LSongOffice$BargainBook;") kX2_runLine_1_2) (fun _ h9 => h9) rfl dX2_runLine_143 ?_
                  refine va_get (D := (dC, dI)) (ci := 0) (v := .ref (a 6)) (C := RX0) (T := TX0) (N := 9) hx hb hts nX2_runLine_1_X0 hown hK hP 5 (wL_at5 _ _ _ _ _ _ _ _) rfl 0 (by decide) (hts (.fieldLink RX2 116 "SongOffice$BargainBook" "kinds" "[I") kX2_runLine_1_4) (fun _ h9 => h9) rfl dX2_runLine_146 ?_
                  refine lv_iload hx hb dX2_runLine_149 (lv_at hl 8 rfl) ?_
                  obtain ⟨hi, h⟩ := h
                  refine va_iald hx hb hK hP 6 4 (wL_at6 _ _ _ _ _ _ _ _) rfl hi dX2_runLine_151 ?_
                  refine lv_iconst (v := 4) hx hb dX2_runLine_152 (by decide) ?_
                  obtain ⟨B_72, hB_72, h⟩ := h
                  have jB_72 : ∀ (I_73 : TI) (J_74 : TJ) (S_75 : TS) (L_76 : TL) (x_77 : Int32) (y_78 : Int64) (x_79 : Int32) (x_80 : Int32) (y_81 : Int64) (H : Heap) (locs : List Loc) (ls : Array Slot), va_P (dC, dI) vwCl (wL a cy n0 n1 I_73 J_74 S_75 L_76) H → va_D A (wL a cy n0 n1 I_73 J_74 S_75 L_76) → va_S A s.heap H locs → lv_has ls 15 [(0, .ref (a 25)), (1, .int p0), (2, .int p1), (4, .int p3), (7, .int x_77), (8, .long y_78), (10, .int x_79), (11, .int x_80), (13, .long y_81)] → B_72 I_73 J_74 S_75 L_76 x_77 y_78 x_79 x_80 y_81 → W p l e (headSpec wsX2_runLine rmX2_runLine_1).room s m args below meth c H locs 0 0 (MQ below (gQv dC dI (wL a cy n0 n1) (tyL cy) A Φ) args s 0 0 A) (F0 m 176 ls []) := by
                    intro I_73 J_74 S_75 L_76 x_77 y_78 x_79 x_80 y_81 H locs ls hP hD hS hl h
                    have h := hB_72 I_73 J_74 S_75 L_76 x_77 y_78 x_79 x_80 y_81 h
                    refine lv_iload hx hb dX2_runLine_176 (lv_at hl 7 rfl) ?_
                    refine lv_if_eq (tgt := 211) hx hb dX2_runLine_178 (by decide) (fun hc => ?_) (fun hc => ?_)
                    · have h := h.1 hc
                      exact jB_44 I_73 J_74 S_75 L_76 x_77 y_78 x_79 _ _ _ hP hD hS (lv_sub hl [0, 1, 2, 3, 4, 5, 6] rfl) h
                    · have h := h.2 hc
                      refine lv_lload hx hb dX2_runLine_181 (lv_at hl 8 rfl) ?_
                      refine lv_lconst (v := 0) hx hb dX2_runLine_183 (by decide) ?_
                      refine W.lcmp hx hb dX2_runLine_184 ?_
                      refine lv_if_le (tgt := 211) hx hb dX2_runLine_185 (by decide) (fun hc => ?_) (fun hc => ?_)
                      · have h := h.1 hc
                        exact jB_44 I_73 J_74 S_75 L_76 x_77 y_78 x_79 _ _ _ hP hD hS (lv_sub hl [0, 1, 2, 3, 4, 5, 6] rfl) h
                      · have h := h.2 hc
                        refine lv_aload_n hx hb dX2_runLine_188 rfl (lv_at hl 0 rfl) ?_
                        refine lv_iload_n hx hb dX2_runLine_189 rfl (lv_at hl 1 rfl) ?_
                        refine lv_aload_n hx hb dX2_runLine_190 rfl (lv_at hl 0 rfl) ?_
                        refine va_get (D := (dC, dI)) (ci := 2) (v := .ref (a 5)) (C := RX2) (T := TX2) (N := 16) hx hb hts nX2_runLine_1_X2 hown hK hP 25 (wL_at25 _ _ _ _ _ _ _ _) rfl 13 (by decide) (hts (.fieldLink RX2 45 "SongOffice$Ledger" "bargains" "LSongOffice$BargainBook;") kX2_runLine_1_2) (fun _ h9 => h9) rfl dX2_runLine_191 ?_
                        refine va_get (D := (dC, dI)) (ci := 0) (v := .ref (a 13)) (C := RX0) (T := TX0) (N := 9) hx hb hts nX2_runLine_1_X0 hown hK hP 5 (wL_at5 _ _ _ _ _ _ _ _) rfl 7 (by decide) (hts (.fieldLink RX2 220 "SongOffice$BargainBook" "takers" "[I") kX2_runLine_1_9) (fun _ h9 => h9) rfl dX2_runLine_194 ?_
                        refine lv_iload hx hb dX2_runLine_197 (lv_at hl 6 rfl) ?_
                        obtain ⟨hi, h⟩ := h
                        refine va_iald hx hb hK hP 13 11 (wL_at13 _ _ _ _ _ _ _ _) rfl hi dX2_runLine_199 ?_
                        refine lv_iload hx hb dX2_runLine_200 (lv_at hl 6 rfl) ?_
                        refine lv_iload hx hb dX2_runLine_202 (lv_at hl 3 rfl) ?_
                        refine lv_iconst (v := 1) hx hb dX2_runLine_204 (by decide) ?_
                        refine lv_iadd hx hb dX2_runLine_205 ?_
                        refine lv_lload hx hb dX2_runLine_206 (lv_at hl 8 rfl) ?_
                        refine gcallv (va_runV (As := [.int p0, .int (I_73 13 (x_79).toNatClampNeg), .int x_79, .int (p3 + (1 : Int32)), .long y_81]) (rest := []) ⟨hx, hb, hml, hown, hts⟩ (c_X2_runLine_2 l dC dI a cy n0 n1 H.size I_73 J_74 S_75 L_76 p0 (I_73 13 (x_79).toNatClampNeg) x_79 (p3 + (1 : Int32)) y_81 _ h) (cwV 5 hts gX2_runLine_X2_runLine rfl rfl rfl (by decide +kernel) ⟨(Nat.le_of_ble_eq_true rfl), (Nat.le_of_ble_eq_true rfl)⟩) (g_pV hP hK hD hN (va_recv hK hP (ci := 2) (q0 := 25) rfl (wL_at25 _ _ _ _ _ _ _ _)) [.int p0, .int (I_73 13 (x_79).toNatClampNeg), .int x_79, .int (p3 + (1 : Int32)), .long y_81]) rfl rfl hl.1 rfl (lv_room (Nat.le_of_ble_eq_true rfl)) dX2_runLine_208 ⟨(Nat.le_of_ble_eq_true rfl), (Nat.le_of_ble_eq_true rfl)⟩) hS hA hD (fun I_82 J_83 S_84 L_85 H locs hP hD hS h => ?_)
                        exact jB_44 I_82 J_83 S_84 L_85 x_77 y_78 x_79 _ _ _ hP hD hS (lv_sub hl [0, 1, 2, 3, 4, 5, 6] rfl) h
                  refine lv_icmp_ne (tgt := 176) hx hb dX2_runLine_153 (by decide) (fun hc => ?_) (fun hc => ?_)
                  · have h := h.1 hc
                    exact jB_72 I_64 J_70 S_66 L_67 x_39 y_71 x_41 x_42 r_68 _ _ _ hP hD hS (lv_sub hl [3, 4, 5, 6, 7, 0, 8, 9, 1] rfl) h
                  · have h := h.2 hc
                    refine lv_aload_n hx hb dX2_runLine_156 rfl (lv_at hl 3 rfl) ?_
                    refine va_get (D := (dC, dI)) (ci := 2) (v := .ref (a 32)) (C := RX2) (T := TX2) (N := 16) hx hb hts nX2_runLine_1_X2 hown hK hP 25 (wL_at25 _ _ _ _ _ _ _ _) rfl 6 (by decide) (hts (.fieldLink RX2 31 "SongOffice$Ledger" "bags" "[J") kX2_runLine_1_7) (fun _ h9 => h9) rfl dX2_runLine_157 ?_
                    refine lv_iload hx hb dX2_runLine_160 (lv_at hl 8 rfl) ?_
                    refine lv_bipush (v := 40) hx hb dX2_runLine_162 (by decide) ?_
                    refine lv_imul hx hb dX2_runLine_164 ?_
                    refine lv_aload_n hx hb dX2_runLine_165 rfl (lv_at hl 3 rfl) ?_
                    refine va_get (D := (dC, dI)) (ci := 2) (v := .int (S_66 3)) (C := RX2) (T := TX2) (N := 16) hx hb hts nX2_runLine_1_X2 hown hK hP 25 (wL_at25 _ _ _ _ _ _ _ _) rfl 10 (by decide) (hts (.fieldLink RX2 78 "SongOffice$Ledger" "closed" "I") kX2_runLine_1_8) (fun _ h9 => h9) rfl dX2_runLine_166 ?_
                    refine lv_iadd hx hb dX2_runLine_169 ?_
                    refine lv_dup2_11 hx hb dX2_runLine_170 rfl rfl ?_
                    obtain ⟨hi, h⟩ := h
                    refine va_lald hx hb hK hP 32 27 (wL_at32 _ _ _ _ _ _ _ _) rfl hi dX2_runLine_171 ?_
                    refine lv_lload hx hb dX2_runLine_172 (lv_at hl 1 rfl) ?_
                    refine lv_ladd hx hb dX2_runLine_174 ?_
                    obtain ⟨hi, h⟩ := h
                    obtain ⟨J_86, eJ_86⟩ : ∃ z : TJ, z = va_up J_70 32 (vp_updL (J_70 32) (((x_41 * (40 : Int32)) + (S_66 3))).toNatClampNeg ((J_70 32 (((x_41 * (40 : Int32)) + (S_66 3))).toNatClampNeg) + r_68)) := ⟨_, rfl⟩
                    have h := h J_86 eJ_86
                    refine va_last hx hb hK hP hD hS 32 27 (wL_at32 _ _ _ _ _ _ _ _) rfl hi dX2_runLine_175 (fun H locs hP hD hS => ?_)
                    have hP : va_P (dC, dI) vwCl (wL a cy n0 n1 I_64 J_86 S_66 L_67) H := by rw [eJ_86]; exact setP hP (wL_set32 _ _ _ _ _ _ _ _ _)
                    have hD : va_D A (wL a cy n0 n1 I_64 J_86 S_66 L_67) := by rw [eJ_86]; exact setD hD (wL_set32 _ _ _ _ _ _ _ _ _)
                    exact jB_72 I_64 J_86 S_66 L_67 x_39 y_71 x_41 x_42 r_68 _ _ _ hP hD hS (lv_sub hl [3, 4, 5, 6, 7, 0, 8, 9, 1] rfl) h
                · have h := h.2 hc
                  refine lv_goto (tgt := 211) hx hb dX2_runLine_98 (by decide) ?_
                  exact jB_44 I_59 J_60 S_61 L_62 x_39 y_40 x_41 _ _ _ hP hD hS (lv_sub hl [1, 2, 3, 4, 5, 6, 7] rfl) h
            obtain ⟨B_87, hB_87, h⟩ := h
            have jB_87 : ∀ (I_88 : TI) (J_89 : TJ) (S_90 : TS) (L_91 : TL) (x_92 : Int32) (y_93 : Int64) (x_94 : Int32) (x_95 : Int32) (H : Heap) (locs : List Loc) (ls : Array Slot), va_P (dC, dI) vwCl (wL a cy n0 n1 I_88 J_89 S_90 L_91) H → va_D A (wL a cy n0 n1 I_88 J_89 S_90 L_91) → va_S A s.heap H locs → lv_has ls 15 [(0, .ref (a 25)), (1, .int p0), (2, .int p1), (4, .int p3), (7, .int x_92), (8, .long y_93), (10, .int x_94), (11, .int x_95)] → B_87 I_88 J_89 S_90 L_91 x_92 y_93 x_94 x_95 → W p l e (headSpec wsX2_runLine rmX2_runLine_1).room s m args below meth c H locs 0 0 (MQ below (gQv dC dI (wL a cy n0 n1) (tyL cy) A Φ) args s 0 0 A) (F0 m 72 ls []) := by
              intro I_88 J_89 S_90 L_91 x_92 y_93 x_94 x_95 H locs ls hP hD hS hl h
              have h := hB_87 I_88 J_89 S_90 L_91 x_92 y_93 x_94 x_95 h
              refine lv_iconst (v := 0) hx hb dX2_runLine_72 (by decide) ?_
              exact jB_34 I_88 J_89 S_90 L_91 x_92 y_93 x_94 x_95 (0 : Int32) _ _ _ hP hD hS (lv_sub hl [0, 1, 2, 3, 4, 5, 6, 7] rfl) h
            refine lv_if_eq (tgt := 72) hx hb dX2_runLine_59 (by decide) (fun hc => ?_) (fun hc => ?_)
            · have h := h.1 hc
              exact jB_87 I_29 J_30 S_31 L_32 x_14 y_15 x_16 r_33 _ _ _ hP hD hS (lv_sub hl [1, 2, 3, 4, 5, 6, 7, 0] rfl) h
            · have h := h.2 hc
              refine lv_iload hx hb dX2_runLine_62 (lv_at hl 4 rfl) ?_
              refine lv_iconst (v := 2) hx hb dX2_runLine_64 (by decide) ?_
              refine lv_icmp_lt (tgt := 72) hx hb dX2_runLine_65 (by decide) (fun hc => ?_) (fun hc => ?_)
              · have h := h.1 hc
                exact jB_87 I_29 J_30 S_31 L_32 x_14 y_15 x_16 r_33 _ _ _ hP hD hS (lv_sub hl [1, 2, 3, 4, 5, 6, 7, 0] rfl) h
              · have h := h.2 hc
                refine lv_iconst (v := 1) hx hb dX2_runLine_68 (by decide) ?_
                refine lv_goto (tgt := 73) hx hb dX2_runLine_69 (by decide) ?_
                exact jB_34 I_29 J_30 S_31 L_32 x_14 y_15 x_16 r_33 (1 : Int32) _ _ _ hP hD hS (lv_sub hl [1, 2, 3, 4, 5, 6, 7, 0] rfl) h
  exact lV_7 n_9 I_1 J_2 S_3 L_4 r_5 p4 x_6 _ _ _ hP hD hS (lv_sub hl [3, 4, 5, 7, 2, 1, 0] rfl) h0V_7
def wp_X2_runLine_0 (n0 n1 : Nat) (I : TI) (J : TJ) (S : TS) (L : TL) (p0 : Int32) (p1 : Int32) (p2 : Int32) (p3 : Int32) (p4 : Int64) (Φ : TI → TJ → TS → TL → Prop) : Prop := wp_X3_begin n0 n1 I J S L p0 p1 p2 p4 (fun (r_5 : Int32) (I_1 : TI) (J_2 : TJ) (S_3 : TS) (L_4 : TL) => (∀ x_6 : Int32, x_6 = (p2 + (1 : Int32)) → (∃ V_7 : Nat → TI → TJ → TS → TL → Int32 → Int64 → Int32 → Prop, (∃ n_9, V_7 n_9 I_1 J_2 S_3 L_4 r_5 p4 x_6) ∧ ∀ (n_8 : Nat) (I_10 : TI) (J_11 : TJ) (S_12 : TS) (L_13 : TL) (x_14 : Int32) (y_15 : Int64) (x_16 : Int32), V_7 n_8 I_10 J_11 S_12 L_13 x_14 y_15 x_16 → (∃ B_17 : TI → TJ → TS → TL → Int32 → Int64 → Prop, (∀ (I_18 : TI) (J_19 : TJ) (S_20 : TS) (L_21 : TL) (x_22 : Int32) (y_23 : Int64), B_17 I_18 J_19 S_20 L_21 x_22 y_23 → ((vp_in p1 12) ∧ ((vp_in p1 12) ∧ ∀ J_24 : TJ, J_24 = va_up J_19 26 (vp_updL (J_19 26) (p1).toNatClampNeg ((J_19 26 (p1).toNatClampNeg) + y_23)) → (wp_X3_end n0 n1 I_18 J_24 S_20 L_21 x_22 y_23 (fun (I_25 : TI) (J_26 : TJ) (S_27 : TS) (L_28 : TL) => (Φ I_25 J_26 S_27 L_28)))))) ∧ ((((S_12 1) ≤ x_16) → (B_17 I_10 J_11 S_12 L_13 x_14 y_15)) ∧ ((¬ (S_12 1) ≤ x_16) → ((((lg_cmp y_15 (0 : Int64)) ≤ 0) → (B_17 I_10 J_11 S_12 L_13 x_14 y_15)) ∧ ((¬ (lg_cmp y_15 (0 : Int64)) ≤ 0) → ((vp_in x_16 24) ∧ (wp_X7_passesOn I_10 J_11 S_12 L_13 (I_10 6 (x_16).toNatClampNeg) (fun (r_33 : Int32) (I_29 : TI) (J_30 : TJ) (S_31 : TS) (L_32 : TL) => (∃ B_34 : TI → TJ → TS → TL → Int32 → Int64 → Int32 → Int32 → Int32 → Prop, (∀ (I_35 : TI) (J_36 : TJ) (S_37 : TS) (L_38 : TL) (x_39 : Int32) (y_40 : Int64) (x_41 : Int32) (x_42 : Int32) (s_43 : Int32), B_34 I_35 J_36 S_37 L_38 x_39 y_40 x_41 x_42 s_43 → (∃ B_44 : TI → TJ → TS → TL → Int32 → Int64 → Int32 → Prop, (∀ (I_45 : TI) (J_46 : TJ) (S_47 : TS) (L_48 : TL) (x_49 : Int32) (y_50 : Int64) (x_51 : Int32), B_44 I_45 J_46 S_47 L_48 x_49 y_50 x_51 → (∀ x_52 : Int32, x_52 = x_51 + 1 → (∃ n_53, n_53 < n_8 ∧ V_7 n_53 I_45 J_46 S_47 L_48 x_49 y_50 x_52))) ∧ (((¬ s_43 = 0) → (B_44 I_35 J_36 S_37 L_38 x_39 y_40 x_41)) ∧ ((s_43 = 0) → (wp_X2_lastDay n0 n1 I_35 J_36 S_37 L_38 (fun (r_58 : Int32) (I_54 : TI) (J_55 : TJ) (S_56 : TS) (L_57 : TL) => (wp_X0_holdsFor n0 n1 I_54 J_55 S_56 L_57 x_41 p1 p0 r_58 (fun (r_63 : Int32) (I_59 : TI) (J_60 : TJ) (S_61 : TS) (L_62 : TL) => (((¬ r_63 = 0) → (wp_X2_takenBy n0 n1 I_59 J_60 S_61 L_62 x_41 y_40 (fun (r_68 : Int64) (I_64 : TI) (J_65 : TJ) (S_66 : TS) (L_67 : TL) => ((vp_in x_41 24) ∧ ((vp_in x_41 24) ∧ ∀ J_69 : TJ, J_69 = va_up J_65 31 (vp_updL (J_65 31) (x_41).toNatClampNeg ((J_65 31 (x_41).toNatClampNeg) + y_40)) → ((vp_in x_41 24) ∧ ((vp_in x_41 24) ∧ ∀ J_70 : TJ, J_70 = va_up J_69 30 (vp_updL (J_69 30) (x_41).toNatClampNeg ((J_69 30 (x_41).toNatClampNeg) + r_68)) → (∀ y_71 : Int64, y_71 = (y_40 - r_68) → ((vp_in x_41 24) ∧ (∃ B_72 : TI → TJ → TS → TL → Int32 → Int64 → Int32 → Int32 → Int64 → Prop, (∀ (I_73 : TI) (J_74 : TJ) (S_75 : TS) (L_76 : TL) (x_77 : Int32) (y_78 : Int64) (x_79 : Int32) (x_80 : Int32) (y_81 : Int64), B_72 I_73 J_74 S_75 L_76 x_77 y_78 x_79 x_80 y_81 → (((x_80 = 0) → (B_44 I_73 J_74 S_75 L_76 x_77 y_78 x_79)) ∧ ((¬ x_80 = 0) → ((((lg_cmp y_81 (0 : Int64)) ≤ 0) → (B_44 I_73 J_74 S_75 L_76 x_77 y_78 x_79)) ∧ ((¬ (lg_cmp y_81 (0 : Int64)) ≤ 0) → ((vp_in x_79 24) ∧ (wp_X2_runLine_1 n0 n1 I_73 J_74 S_75 L_76 p0 (I_73 13 (x_79).toNatClampNeg) x_79 (p3 + (1 : Int32)) y_81 (fun (I_82 : TI) (J_83 : TJ) (S_84 : TS) (L_85 : TL) => (B_44 I_82 J_83 S_84 L_85 x_77 y_78 x_79))))))))) ∧ (((¬ (I_64 6 (x_41).toNatClampNeg) = (4 : Int32)) → (B_72 I_64 J_70 S_66 L_67 x_39 y_71 x_41 x_42 r_68)) ∧ (((I_64 6 (x_41).toNatClampNeg) = (4 : Int32)) → ((vp_in ((x_41 * (40 : Int32)) + (S_66 3)) 960) ∧ ((vp_in ((x_41 * (40 : Int32)) + (S_66 3)) 960) ∧ ∀ J_86 : TJ, J_86 = va_up J_70 32 (vp_updL (J_70 32) (((x_41 * (40 : Int32)) + (S_66 3))).toNatClampNeg ((J_70 32 (((x_41 * (40 : Int32)) + (S_66 3))).toNatClampNeg) + r_68)) → (B_72 I_64 J_86 S_66 L_67 x_39 y_71 x_41 x_42 r_68))))))))))))))) ∧ ((r_63 = 0) → (B_44 I_59 J_60 S_61 L_62 x_39 y_40 x_41))))))))))) ∧ (∃ B_87 : TI → TJ → TS → TL → Int32 → Int64 → Int32 → Int32 → Prop, (∀ (I_88 : TI) (J_89 : TJ) (S_90 : TS) (L_91 : TL) (x_92 : Int32) (y_93 : Int64) (x_94 : Int32) (x_95 : Int32), B_87 I_88 J_89 S_90 L_91 x_92 y_93 x_94 x_95 → (B_34 I_88 J_89 S_90 L_91 x_92 y_93 x_94 x_95 (0 : Int32))) ∧ (((r_33 = 0) → (B_87 I_29 J_30 S_31 L_32 x_14 y_15 x_16 r_33)) ∧ ((¬ r_33 = 0) → (((p3 < (2 : Int32)) → (B_87 I_29 J_30 S_31 L_32 x_14 y_15 x_16 r_33)) ∧ ((¬ p3 < (2 : Int32)) → (B_34 I_29 J_30 S_31 L_32 x_14 y_15 x_16 r_33 (1 : Int32)))))))))))))))))))
theorem nX2_runLine_0_X2 : ∀ w ∈ wsX20, w ∈ wsX2_runLine := fun _ h => List.mem_cons_of_mem _ (List.mem_append_left _ (List.mem_append_left _ (List.mem_append_right _ h)))
theorem kX2_runLine_0_1 : Cond.fieldLink RX2 61 "SongOffice$Ledger" "lines" "LSongOffice$LineBook;" ∈ wsX2_runLine := List.mem_of_getElem? (i := 1) rfl
theorem kX2_runLine_0_10 : Cond.fieldLink RX2 9 "SongOffice$Ledger" "purse" "[J" ∈ wsX2_runLine := List.mem_of_getElem? (i := 10) rfl
theorem nX2_runLine_0_X0 : ∀ w ∈ wsX00, w ∈ wsX2_runLine := fun _ h => List.mem_cons_of_mem _ (List.mem_append_left _ (List.mem_append_right _ h))
theorem kX2_runLine_0_9 : Cond.fieldLink RX2 220 "SongOffice$BargainBook" "takers" "[I" ∈ wsX2_runLine := List.mem_of_getElem? (i := 9) rfl
theorem kX2_runLine_0_2 : Cond.fieldLink RX2 45 "SongOffice$Ledger" "bargains" "LSongOffice$BargainBook;" ∈ wsX2_runLine := List.mem_of_getElem? (i := 2) rfl
theorem kX2_runLine_0_8 : Cond.fieldLink RX2 78 "SongOffice$Ledger" "closed" "I" ∈ wsX2_runLine := List.mem_of_getElem? (i := 8) rfl
theorem kX2_runLine_0_7 : Cond.fieldLink RX2 31 "SongOffice$Ledger" "bags" "[J" ∈ wsX2_runLine := List.mem_of_getElem? (i := 7) rfl
theorem kX2_runLine_0_4 : Cond.fieldLink RX2 116 "SongOffice$BargainBook" "kinds" "[I" ∈ wsX2_runLine := List.mem_of_getElem? (i := 4) rfl
theorem kX2_runLine_0_6 : Cond.fieldLink RX2 25 "SongOffice$Ledger" "kept" "[J" ∈ wsX2_runLine := List.mem_of_getElem? (i := 6) rfl
theorem kX2_runLine_0_5 : Cond.fieldLink RX2 28 "SongOffice$Ledger" "came" "[J" ∈ wsX2_runLine := List.mem_of_getElem? (i := 5) rfl
theorem kX2_runLine_0_23 : Cond.initialized RX7 ∈ wsX2_runLine := List.mem_of_getElem? (i := 23) rfl
theorem kX2_runLine_0_22 : Cond.static yX7_passesOn ∈ wsX2_runLine := List.mem_of_getElem? (i := 22) rfl
theorem kX2_runLine_0_3 : Cond.fieldLink RX2 142 "SongOffice$BargainBook" "size" "I" ∈ wsX2_runLine := List.mem_of_getElem? (i := 3) rfl
abbrev rmX2_runLine_0 : Room := { frames := 4, cells := 0, slots := 0, locals := 135 }
set_option maxHeartbeats 4000000 in
set_option maxRecDepth 100000 in
theorem c_X2_runLine_0 (l : Launch) (dC : Nat → ClassId) (dI : Nat → Nat → Nat) (a : Nat → Nat) (cy : Nat → ClassId) (n0 n1 : Nat) (sz : Nat) (I : TI) (J : TJ) (S : TS) (L : TL) (p0 : Int32) (p1 : Int32) (p2 : Int32) (p3 : Int32) (p4 : Int64) (Φ : TI → TJ → TS → TL → Prop) (h : wp_X2_runLine_0 n0 n1 I J S L p0 p1 p2 p3 p4 Φ) : Met l yX2_runLine wsX2_runLine rmX2_runLine_0 (va_Pc [.ref (a 25), .int p0, .int p1, .int p2, .int p3, .long p4] (gpre dC dI (wL a cy n0 n1 I J S L) (tyL cy) sz)) (gQv dC dI (wL a cy n0 n1) (tyL cy) (va_A (wL a cy n0 n1 I J S L) sz) Φ) 0 0 (va_A (wL a cy n0 n1 I J S L) sz) := by
  refine Met.ofW (cc := cX2_runLine) (maxL := 15) (ret := none) (by decide) rfl ?_
  intro p e s m args below meth c s₁ B hml hv
  obtain ⟨hargs, hsz, hP, hK, hD0, hN⟩ := hv
  have hx := B.exec
  have hb := B.bytes
  have hr := B.returns
  have hts := atoms_spec (ws := wsX2_runLine) B.pre
  have hown : s.vm.findClass RX2 = some m.cls := findClass_of_methodNamed B.named
  have hlocks := B.notSynchronized
  subst hsz
  have hD := hD0.self (sz := s.heap.size)
  generalize hAe : va_A (wL a cy n0 n1 I J S L) s.heap.size = A at hD ⊢
  have hA : ∀ q : Nat, s.heap.size ≤ q → A q := fun q h => by rw [← hAe]; exact Or.inr h
  obtain ⟨H, hH⟩ : ∃ z : Heap, z = s.heap := ⟨_, rfl⟩
  rw [← hH] at hP
  have hS : va_S A s.heap H [] := by rw [hH]; exact va_S.rf
  have hl := lv_entry ([.ref (a 25), .int p0, .int p1, .int p2, .int p3, .long p4]) (n := 15) (Nat.le_of_ble_eq_true rfl)
  have hE : entryFrame m args 15 = F0 m 0 ((lg_sl ([.ref (a 25), .int p0, .int p1, .int p2, .int p3, .long p4]) ++ List.replicate (15 - (lg_sl ([.ref (a 25), .int p0, .int p1, .int p2, .int p3, .long p4])).length) Slot.unset).toArray) [] := by rw [hargs]; exact lg_entry_eq m _ _
  rw [hE, ← hH]
  clear hE
  generalize (lg_sl ([.ref (a 25), .int p0, .int p1, .int p2, .int p3, .long p4]) ++ List.replicate (15 - (lg_sl ([.ref (a 25), .int p0, .int p1, .int p2, .int p3, .long p4])).length) Slot.unset).toArray = ls at hl ⊢
  have hl : lv_has ls 15 [(0, .ref (a 25)), (1, .int p0), (2, .int p1), (3, .int p2), (4, .int p3), (5, .long p4)] := hl
  unfold wp_X2_runLine_0 at h
  refine lv_aload_n hx hb dX2_runLine_0 rfl (lv_at hl 0 rfl) ?_
  refine va_get (D := (dC, dI)) (ci := 2) (v := .ref (a 33)) (C := RX2) (T := TX2) (N := 16) hx hb hts nX2_runLine_0_X2 hown hK hP 25 (wL_at25 _ _ _ _ _ _ _ _) rfl 7 (by decide) (hts (.fieldLink RX2 61 "SongOffice$Ledger" "lines" "LSongOffice$LineBook;") kX2_runLine_0_1) (fun _ h9 => h9) rfl dX2_runLine_1 ?_
  refine lv_iload_n hx hb dX2_runLine_4 rfl (lv_at hl 1 rfl) ?_
  refine lv_iload_n hx hb dX2_runLine_5 rfl (lv_at hl 2 rfl) ?_
  refine lv_iload_n hx hb dX2_runLine_6 rfl (lv_at hl 3 rfl) ?_
  refine lv_lload hx hb dX2_runLine_7 (lv_at hl 5 rfl) ?_
  refine gcalli (va_runV (As := [.int p0, .int p1, .int p2, .long p4]) (rest := []) ⟨hx, hb, hml, hown, hts⟩ (c_X3_begin l dC dI a cy n0 n1 H.size I J S L p0 p1 p2 p4 _ h) (cwV 4 hts gX2_runLine_X3_begin rfl rfl rfl (by decide +kernel) ⟨(Nat.le_of_ble_eq_true rfl), (Nat.le_of_ble_eq_true rfl)⟩) (g_pV hP hK hD hN (va_recv hK hP (ci := 3) (q0 := 33) rfl (wL_at33 _ _ _ _ _ _ _ _)) [.int p0, .int p1, .int p2, .long p4]) rfl rfl hl.1 rfl (lv_room (Nat.le_of_ble_eq_true rfl)) dX2_runLine_9 ⟨(Nat.le_of_ble_eq_true rfl), (Nat.le_of_ble_eq_true rfl)⟩) hS hA hD (fun r_5 I_1 J_2 S_3 L_4 H locs hP hD hS h => ?_)
  refine lv_istore (lv' := [(7, .int r_5), (0, .ref (a 25)), (1, .int p0), (2, .int p1), (3, .int p2), (4, .int p3), (5, .long p4)]) hx hb dX2_runLine_12 hl (by decide) rfl (fun ls hl => ?_)
  refine lv_lload hx hb dX2_runLine_14 (lv_at hl 6 rfl) ?_
  refine lv_lstore (lv' := [(8, .long p4), (7, .int r_5), (0, .ref (a 25)), (1, .int p0), (2, .int p1), (3, .int p2), (4, .int p3), (5, .long p4)]) hx hb dX2_runLine_16 hl (by decide) rfl (fun ls hl => ?_)
  refine lv_iload_n hx hb dX2_runLine_18 rfl (lv_at hl 5 rfl) ?_
  refine lv_iconst (v := 1) hx hb dX2_runLine_19 (by decide) ?_
  refine lv_iadd hx hb dX2_runLine_20 ?_
  refine lv_topi (fun x_6 ex_6 => ?_)
  have h := h x_6 ex_6
  refine lv_istore (lv' := [(10, .int x_6), (8, .long p4), (7, .int r_5), (0, .ref (a 25)), (1, .int p0), (2, .int p1), (3, .int p2), (4, .int p3), (5, .long p4)]) hx hb dX2_runLine_21 hl (by decide) rfl (fun ls hl => ?_)
  obtain ⟨V_7, ⟨n_9, h0V_7⟩, hV_7⟩ := h
  have lV_7 : ∀ (n_8 : Nat) (I_10 : TI) (J_11 : TJ) (S_12 : TS) (L_13 : TL) (x_14 : Int32) (y_15 : Int64) (x_16 : Int32) (H : Heap) (locs : List Loc) (ls : Array Slot), va_P (dC, dI) vwCl (wL a cy n0 n1 I_10 J_11 S_12 L_13) H → va_D A (wL a cy n0 n1 I_10 J_11 S_12 L_13) → va_S A s.heap H locs → lv_has ls 15 [(0, .ref (a 25)), (1, .int p0), (2, .int p1), (4, .int p3), (7, .int x_14), (8, .long y_15), (10, .int x_16)] → V_7 n_8 I_10 J_11 S_12 L_13 x_14 y_15 x_16 → W p l e (headSpec wsX2_runLine rmX2_runLine_0).room s m args below meth c H locs 0 0 (MQ below (gQv dC dI (wL a cy n0 n1) (tyL cy) A Φ) args s 0 0 A) (F0 m 23 ls []) := by
    intro n_8
    induction n_8 using Nat.strongRecOn with
    | ind n_8 ihV_7 =>
        intro I_10 J_11 S_12 L_13 x_14 y_15 x_16 H locs ls hP hD hS hl h
        have h := hV_7 n_8 I_10 J_11 S_12 L_13 x_14 y_15 x_16 h
        refine lv_iload hx hb dX2_runLine_23 (lv_at hl 6 rfl) ?_
        refine lv_aload_n hx hb dX2_runLine_25 rfl (lv_at hl 0 rfl) ?_
        refine va_get (D := (dC, dI)) (ci := 2) (v := .ref (a 5)) (C := RX2) (T := TX2) (N := 16) hx hb hts nX2_runLine_0_X2 hown hK hP 25 (wL_at25 _ _ _ _ _ _ _ _) rfl 13 (by decide) (hts (.fieldLink RX2 45 "SongOffice$Ledger" "bargains" "LSongOffice$BargainBook;") kX2_runLine_0_2) (fun _ h9 => h9) rfl dX2_runLine_26 ?_
        refine va_get (D := (dC, dI)) (ci := 0) (v := .int (S_12 1)) (C := RX0) (T := TX0) (N := 9) hx hb hts nX2_runLine_0_X0 hown hK hP 5 (wL_at5 _ _ _ _ _ _ _ _) rfl 8 (by decide) (hts (.fieldLink RX2 142 "SongOffice$BargainBook" "size" "I") kX2_runLine_0_3) (fun _ h9 => h9) rfl dX2_runLine_29 ?_
        obtain ⟨B_17, hB_17, h⟩ := h
        have jB_17 : ∀ (I_18 : TI) (J_19 : TJ) (S_20 : TS) (L_21 : TL) (x_22 : Int32) (y_23 : Int64) (H : Heap) (locs : List Loc) (ls : Array Slot), va_P (dC, dI) vwCl (wL a cy n0 n1 I_18 J_19 S_20 L_21) H → va_D A (wL a cy n0 n1 I_18 J_19 S_20 L_21) → va_S A s.heap H locs → lv_has ls 15 [(0, .ref (a 25)), (2, .int p1), (7, .int x_22), (8, .long y_23)] → B_17 I_18 J_19 S_20 L_21 x_22 y_23 → W p l e (headSpec wsX2_runLine rmX2_runLine_0).room s m args below meth c H locs 0 0 (MQ below (gQv dC dI (wL a cy n0 n1) (tyL cy) A Φ) args s 0 0 A) (F0 m 217 ls []) := by
          intro I_18 J_19 S_20 L_21 x_22 y_23 H locs ls hP hD hS hl h
          have h := hB_17 I_18 J_19 S_20 L_21 x_22 y_23 h
          refine lv_aload_n hx hb dX2_runLine_217 rfl (lv_at hl 0 rfl) ?_
          refine va_get (D := (dC, dI)) (ci := 2) (v := .ref (a 26)) (C := RX2) (T := TX2) (N := 16) hx hb hts nX2_runLine_0_X2 hown hK hP 25 (wL_at25 _ _ _ _ _ _ _ _) rfl 0 (by decide) (hts (.fieldLink RX2 9 "SongOffice$Ledger" "purse" "[J") kX2_runLine_0_10) (fun _ h9 => h9) rfl dX2_runLine_218 ?_
          refine lv_iload_n hx hb dX2_runLine_221 rfl (lv_at hl 1 rfl) ?_
          refine lv_dup2_11 hx hb dX2_runLine_222 rfl rfl ?_
          obtain ⟨hi, h⟩ := h
          refine va_lald hx hb hK hP 26 21 (wL_at26 _ _ _ _ _ _ _ _) rfl hi dX2_runLine_223 ?_
          refine lv_lload hx hb dX2_runLine_224 (lv_at hl 3 rfl) ?_
          refine lv_ladd hx hb dX2_runLine_226 ?_
          obtain ⟨hi, h⟩ := h
          obtain ⟨J_24, eJ_24⟩ : ∃ z : TJ, z = va_up J_19 26 (vp_updL (J_19 26) (p1).toNatClampNeg ((J_19 26 (p1).toNatClampNeg) + y_23)) := ⟨_, rfl⟩
          have h := h J_24 eJ_24
          refine va_last hx hb hK hP hD hS 26 21 (wL_at26 _ _ _ _ _ _ _ _) rfl hi dX2_runLine_227 (fun H locs hP hD hS => ?_)
          have hP : va_P (dC, dI) vwCl (wL a cy n0 n1 I_18 J_24 S_20 L_21) H := by rw [eJ_24]; exact setP hP (wL_set26 _ _ _ _ _ _ _ _ _)
          have hD : va_D A (wL a cy n0 n1 I_18 J_24 S_20 L_21) := by rw [eJ_24]; exact setD hD (wL_set26 _ _ _ _ _ _ _ _ _)
          refine lv_aload_n hx hb dX2_runLine_228 rfl (lv_at hl 0 rfl) ?_
          refine va_get (D := (dC, dI)) (ci := 2) (v := .ref (a 33)) (C := RX2) (T := TX2) (N := 16) hx hb hts nX2_runLine_0_X2 hown hK hP 25 (wL_at25 _ _ _ _ _ _ _ _) rfl 7 (by decide) (hts (.fieldLink RX2 61 "SongOffice$Ledger" "lines" "LSongOffice$LineBook;") kX2_runLine_0_1) (fun _ h9 => h9) rfl dX2_runLine_229 ?_
          refine lv_iload hx hb dX2_runLine_232 (lv_at hl 2 rfl) ?_
          refine lv_lload hx hb dX2_runLine_234 (lv_at hl 3 rfl) ?_
          refine gcallv (va_runV (As := [.int x_22, .long y_23]) (rest := []) ⟨hx, hb, hml, hown, hts⟩ (c_X3_end l dC dI a cy n0 n1 H.size I_18 J_24 S_20 L_21 x_22 y_23 _ h) (cwV 2 hts gX2_runLine_X3_end rfl rfl rfl (by decide +kernel) ⟨(Nat.le_of_ble_eq_true rfl), (Nat.le_of_ble_eq_true rfl)⟩) (g_pV hP hK hD hN (va_recv hK hP (ci := 3) (q0 := 33) rfl (wL_at33 _ _ _ _ _ _ _ _)) [.int x_22, .long y_23]) rfl rfl hl.1 rfl (lv_room (Nat.le_of_ble_eq_true rfl)) dX2_runLine_236 ⟨(Nat.le_of_ble_eq_true rfl), (Nat.le_of_ble_eq_true rfl)⟩) hS hA hD (fun I_25 J_26 S_27 L_28 H locs hP hD hS h => ?_)
          exact grv hx hb hr hlocks hP hK hD hS h dX2_runLine_239
        refine lv_icmp_ge (tgt := 217) hx hb dX2_runLine_32 (by decide) (fun hc => ?_) (fun hc => ?_)
        · have h := h.1 hc
          exact jB_17 I_10 J_11 S_12 L_13 x_14 y_15 _ _ _ hP hD hS (lv_sub hl [0, 2, 4, 5] rfl) h
        · have h := h.2 hc
          refine lv_lload hx hb dX2_runLine_35 (lv_at hl 5 rfl) ?_
          refine lv_lconst (v := 0) hx hb dX2_runLine_37 (by decide) ?_
          refine W.lcmp hx hb dX2_runLine_38 ?_
          refine lv_if_le (tgt := 217) hx hb dX2_runLine_39 (by decide) (fun hc => ?_) (fun hc => ?_)
          · have h := h.1 hc
            exact jB_17 I_10 J_11 S_12 L_13 x_14 y_15 _ _ _ hP hD hS (lv_sub hl [0, 2, 4, 5] rfl) h
          · have h := h.2 hc
            refine lv_aload_n hx hb dX2_runLine_42 rfl (lv_at hl 0 rfl) ?_
            refine va_get (D := (dC, dI)) (ci := 2) (v := .ref (a 5)) (C := RX2) (T := TX2) (N := 16) hx hb hts nX2_runLine_0_X2 hown hK hP 25 (wL_at25 _ _ _ _ _ _ _ _) rfl 13 (by decide) (hts (.fieldLink RX2 45 "SongOffice$Ledger" "bargains" "LSongOffice$BargainBook;") kX2_runLine_0_2) (fun _ h9 => h9) rfl dX2_runLine_43 ?_
            refine va_get (D := (dC, dI)) (ci := 0) (v := .ref (a 6)) (C := RX0) (T := TX0) (N := 9) hx hb hts nX2_runLine_0_X0 hown hK hP 5 (wL_at5 _ _ _ _ _ _ _ _) rfl 0 (by decide) (hts (.fieldLink RX2 116 "SongOffice$BargainBook" "kinds" "[I") kX2_runLine_0_4) (fun _ h9 => h9) rfl dX2_runLine_46 ?_
            refine lv_iload hx hb dX2_runLine_49 (lv_at hl 6 rfl) ?_
            obtain ⟨hi, h⟩ := h
            refine va_iald hx hb hK hP 6 4 (wL_at6 _ _ _ _ _ _ _ _) rfl hi dX2_runLine_51 ?_
            refine gcalli (va_runSN (As := [.int (I_10 6 (x_16).toNatClampNeg)]) (rest := []) ⟨hx, hb, hml, hown, hts⟩ (c_X7_passesOn l dC dI (wL a cy n0 n1) (tyL cy) H.size I_10 J_11 S_12 L_13 (I_10 6 (x_16).toNatClampNeg) _ h) ⟨va_cnB 1 hts gX2_runLine_X7_passesOn_n208 rfl rfl rfl hN (hts (.initialized RX7) kX2_runLine_0_23) (by decide +kernel) ⟨(Nat.le_of_ble_eq_true rfl), (Nat.le_of_ble_eq_true rfl)⟩, (hts (.static yX7_passesOn) kX2_runLine_0_22), trivial⟩ (g_pS hP hK hD hN [.int (I_10 6 (x_16).toNatClampNeg)]) rfl rfl hl.1 rfl (lv_room (Nat.le_of_ble_eq_true rfl)) dX2_runLine_52 ⟨(Nat.le_of_ble_eq_true rfl), (Nat.le_of_ble_eq_true rfl)⟩) hS hA hD (fun r_33 I_29 J_30 S_31 L_32 H locs hP hD hS h => ?_)
            refine lv_istore (lv' := [(11, .int r_33), (0, .ref (a 25)), (1, .int p0), (2, .int p1), (4, .int p3), (7, .int x_14), (8, .long y_15), (10, .int x_16)]) hx hb dX2_runLine_55 hl (by decide) rfl (fun ls hl => ?_)
            refine lv_iload hx hb dX2_runLine_57 (lv_at hl 0 rfl) ?_
            obtain ⟨B_34, hB_34, h⟩ := h
            have jB_34 : ∀ (I_35 : TI) (J_36 : TJ) (S_37 : TS) (L_38 : TL) (x_39 : Int32) (y_40 : Int64) (x_41 : Int32) (x_42 : Int32) (s_43 : Int32) (H : Heap) (locs : List Loc) (ls : Array Slot), va_P (dC, dI) vwCl (wL a cy n0 n1 I_35 J_36 S_37 L_38) H → va_D A (wL a cy n0 n1 I_35 J_36 S_37 L_38) → va_S A s.heap H locs → lv_has ls 15 [(0, .ref (a 25)), (1, .int p0), (2, .int p1), (4, .int p3), (7, .int x_39), (8, .long y_40), (10, .int x_41), (11, .int x_42)] → B_34 I_35 J_36 S_37 L_38 x_39 y_40 x_41 x_42 s_43 → W p l e (headSpec wsX2_runLine rmX2_runLine_0).room s m args below meth c H locs 0 0 (MQ below (gQv dC dI (wL a cy n0 n1) (tyL cy) A Φ) args s 0 0 A) (F0 m 73 ls [.int s_43]) := by
              intro I_35 J_36 S_37 L_38 x_39 y_40 x_41 x_42 s_43 H locs ls hP hD hS hl h
              have h := hB_34 I_35 J_36 S_37 L_38 x_39 y_40 x_41 x_42 s_43 h
              refine lv_istore (lv' := [(12, .int s_43), (0, .ref (a 25)), (1, .int p0), (2, .int p1), (4, .int p3), (7, .int x_39), (8, .long y_40), (10, .int x_41), (11, .int x_42)]) hx hb dX2_runLine_73 hl (by decide) rfl (fun ls hl => ?_)
              refine lv_iload hx hb dX2_runLine_75 (lv_at hl 0 rfl) ?_
              obtain ⟨B_44, hB_44, h⟩ := h
              have jB_44 : ∀ (I_45 : TI) (J_46 : TJ) (S_47 : TS) (L_48 : TL) (x_49 : Int32) (y_50 : Int64) (x_51 : Int32) (H : Heap) (locs : List Loc) (ls : Array Slot), va_P (dC, dI) vwCl (wL a cy n0 n1 I_45 J_46 S_47 L_48) H → va_D A (wL a cy n0 n1 I_45 J_46 S_47 L_48) → va_S A s.heap H locs → lv_has ls 15 [(0, .ref (a 25)), (1, .int p0), (2, .int p1), (4, .int p3), (7, .int x_49), (8, .long y_50), (10, .int x_51)] → B_44 I_45 J_46 S_47 L_48 x_49 y_50 x_51 → W p l e (headSpec wsX2_runLine rmX2_runLine_0).room s m args below meth c H locs 0 0 (MQ below (gQv dC dI (wL a cy n0 n1) (tyL cy) A Φ) args s 0 0 A) (F0 m 211 ls []) := by
                intro I_45 J_46 S_47 L_48 x_49 y_50 x_51 H locs ls hP hD hS hl h
                have h := hB_44 I_45 J_46 S_47 L_48 x_49 y_50 x_51 h
                obtain ⟨x_52, ex_52⟩ : ∃ z : Int32, z = x_51 + 1 := ⟨_, rfl⟩
                have h := h x_52 ex_52
                refine lv_iinc (v := x_52) (lv' := [(10, .int x_52), (0, .ref (a 25)), (1, .int p0), (2, .int p1), (4, .int p3), (7, .int x_49), (8, .long y_50)]) hx hb dX2_runLine_211 hl (k := 6) rfl (by rw [ex_52]; rfl) (by decide) rfl (fun ls hl => ?_)
                refine lv_goto (tgt := 23) hx hb dX2_runLine_214 (by decide) ?_
                obtain ⟨n_53, hn2, h⟩ := h
                exact ihV_7 n_53 hn2 I_45 J_46 S_47 L_48 x_49 y_50 x_52 _ _ _ hP hD hS (lv_sub hl [1, 2, 3, 4, 5, 6, 0] rfl) h
              refine lv_if_ne (tgt := 211) hx hb dX2_runLine_77 (by decide) (fun hc => ?_) (fun hc => ?_)
              · have h := h.1 hc
                exact jB_44 I_35 J_36 S_37 L_38 x_39 y_40 x_41 _ _ _ hP hD hS (lv_sub hl [1, 2, 3, 4, 5, 6, 7] rfl) h
              · have h := h.2 hc
                refine lv_aload_n hx hb dX2_runLine_80 rfl (lv_at hl 1 rfl) ?_
                refine va_get (D := (dC, dI)) (ci := 2) (v := .ref (a 5)) (C := RX2) (T := TX2) (N := 16) hx hb hts nX2_runLine_0_X2 hown hK hP 25 (wL_at25 _ _ _ _ _ _ _ _) rfl 13 (by decide) (hts (.fieldLink RX2 45 "SongOffice$Ledger" "bargains" "LSongOffice$BargainBook;") kX2_runLine_0_2) (fun _ h9 => h9) rfl dX2_runLine_81 ?_
                refine lv_iload hx hb dX2_runLine_84 (lv_at hl 7 rfl) ?_
                refine lv_iload_n hx hb dX2_runLine_86 rfl (lv_at hl 3 rfl) ?_
                refine lv_iload_n hx hb dX2_runLine_87 rfl (lv_at hl 2 rfl) ?_
                refine lv_aload_n hx hb dX2_runLine_88 rfl (lv_at hl 1 rfl) ?_
                refine gcalli (va_runV (As := []) (rest := [.int p0, .int p1, .int x_41, .ref (a 5)]) ⟨hx, hb, hml, hown, hts⟩ (c_X2_lastDay l dC dI a cy n0 n1 H.size I_35 J_36 S_37 L_38 _ h) (cwV 0 hts gX2_runLine_X2_lastDay rfl rfl rfl (by decide +kernel) ⟨(Nat.le_of_ble_eq_true rfl), (Nat.le_of_ble_eq_true rfl)⟩) (g_pV hP hK hD hN (va_recv hK hP (ci := 2) (q0 := 25) rfl (wL_at25 _ _ _ _ _ _ _ _)) []) rfl rfl hl.1 rfl (lv_room (Nat.le_of_ble_eq_true rfl)) dX2_runLine_89 ⟨(Nat.le_of_ble_eq_true rfl), (Nat.le_of_ble_eq_true rfl)⟩) hS hA hD (fun r_58 I_54 J_55 S_56 L_57 H locs hP hD hS h => ?_)
                refine gcalli (va_runV (As := [.int x_41, .int p1, .int p0, .int r_58]) (rest := []) ⟨hx, hb, hml, hown, hts⟩ (c_X0_holdsFor l dC dI a cy n0 n1 H.size I_54 J_55 S_56 L_57 x_41 p1 p0 r_58 _ h) (cwV 4 hts gX2_runLine_X0_holdsFor rfl rfl rfl (by decide +kernel) ⟨(Nat.le_of_ble_eq_true rfl), (Nat.le_of_ble_eq_true rfl)⟩) (g_pV hP hK hD hN (va_recv hK hP (ci := 0) (q0 := 5) rfl (wL_at5 _ _ _ _ _ _ _ _)) [.int x_41, .int p1, .int p0, .int r_58]) rfl rfl hl.1 rfl (lv_room (Nat.le_of_ble_eq_true rfl)) dX2_runLine_92 ⟨(Nat.le_of_ble_eq_true rfl), (Nat.le_of_ble_eq_true rfl)⟩) hS hA hD (fun r_63 I_59 J_60 S_61 L_62 H locs hP hD hS h => ?_)
                refine lv_if_ne (tgt := 101) hx hb dX2_runLine_95 (by decide) (fun hc => ?_) (fun hc => ?_)
                · have h := h.1 hc
                  refine lv_aload_n hx hb dX2_runLine_101 rfl (lv_at hl 1 rfl) ?_
                  refine lv_iload hx hb dX2_runLine_102 (lv_at hl 7 rfl) ?_
                  refine lv_lload hx hb dX2_runLine_104 (lv_at hl 6 rfl) ?_
                  refine gcalll (va_runV (As := [.int x_41, .long y_40]) (rest := []) ⟨hx, hb, hml, hown, hts⟩ (c_X2_takenBy l dC dI a cy n0 n1 H.size I_59 J_60 S_61 L_62 x_41 y_40 _ h) (cwV 2 hts gX2_runLine_X2_takenBy rfl rfl rfl (by decide +kernel) ⟨(Nat.le_of_ble_eq_true rfl), (Nat.le_of_ble_eq_true rfl)⟩) (g_pV hP hK hD hN (va_recv hK hP (ci := 2) (q0 := 25) rfl (wL_at25 _ _ _ _ _ _ _ _)) [.int x_41, .long y_40]) rfl rfl hl.1 rfl (lv_room (Nat.le_of_ble_eq_true rfl)) dX2_runLine_106 ⟨(Nat.le_of_ble_eq_true rfl), (Nat.le_of_ble_eq_true rfl)⟩) hS hA hD (fun r_68 I_64 J_65 S_66 L_67 H locs hP hD hS h => ?_)
                  refine lv_lstore (lv' := [(13, .long r_68), (12, .int s_43), (0, .ref (a 25)), (1, .int p0), (2, .int p1), (4, .int p3), (7, .int x_39), (8, .long y_40), (10, .int x_41), (11, .int x_42)]) hx hb dX2_runLine_109 hl (by decide) rfl (fun ls hl => ?_)
                  refine lv_aload_n hx hb dX2_runLine_111 rfl (lv_at hl 2 rfl) ?_
                  refine va_get (D := (dC, dI)) (ci := 2) (v := .ref (a 31)) (C := RX2) (T := TX2) (N := 16) hx hb hts nX2_runLine_0_X2 hown hK hP 25 (wL_at25 _ _ _ _ _ _ _ _) rfl 5 (by decide) (hts (.fieldLink RX2 28 "SongOffice$Ledger" "came" "[J") kX2_runLine_0_5) (fun _ h9 => h9) rfl dX2_runLine_112 ?_
                  refine lv_iload hx hb dX2_runLine_115 (lv_at hl 8 rfl) ?_
                  refine lv_dup2_11 hx hb dX2_runLine_117 rfl rfl ?_
                  obtain ⟨hi, h⟩ := h
                  refine va_lald hx hb hK hP 31 26 (wL_at31 _ _ _ _ _ _ _ _) rfl hi dX2_runLine_118 ?_
                  refine lv_lload hx hb dX2_runLine_119 (lv_at hl 7 rfl) ?_
                  refine lv_ladd hx hb dX2_runLine_121 ?_
                  obtain ⟨hi, h⟩ := h
                  obtain ⟨J_69, eJ_69⟩ : ∃ z : TJ, z = va_up J_65 31 (vp_updL (J_65 31) (x_41).toNatClampNeg ((J_65 31 (x_41).toNatClampNeg) + y_40)) := ⟨_, rfl⟩
                  have h := h J_69 eJ_69
                  refine va_last hx hb hK hP hD hS 31 26 (wL_at31 _ _ _ _ _ _ _ _) rfl hi dX2_runLine_122 (fun H locs hP hD hS => ?_)
                  have hP : va_P (dC, dI) vwCl (wL a cy n0 n1 I_64 J_69 S_66 L_67) H := by rw [eJ_69]; exact setP hP (wL_set31 _ _ _ _ _ _ _ _ _)
                  have hD : va_D A (wL a cy n0 n1 I_64 J_69 S_66 L_67) := by rw [eJ_69]; exact setD hD (wL_set31 _ _ _ _ _ _ _ _ _)
                  refine lv_aload_n hx hb dX2_runLine_123 rfl (lv_at hl 2 rfl) ?_
                  refine va_get (D := (dC, dI)) (ci := 2) (v := .ref (a 30)) (C := RX2) (T := TX2) (N := 16) hx hb hts nX2_runLine_0_X2 hown hK hP 25 (wL_at25 _ _ _ _ _ _ _ _) rfl 4 (by decide) (hts (.fieldLink RX2 25 "SongOffice$Ledger" "kept" "[J") kX2_runLine_0_6) (fun _ h9 => h9) rfl dX2_runLine_124 ?_
                  refine lv_iload hx hb dX2_runLine_127 (lv_at hl 8 rfl) ?_
                  refine lv_dup2_11 hx hb dX2_runLine_129 rfl rfl ?_
                  obtain ⟨hi, h⟩ := h
                  refine va_lald hx hb hK hP 30 25 (wL_at30 _ _ _ _ _ _ _ _) rfl hi dX2_runLine_130 ?_
                  refine lv_lload hx hb dX2_runLine_131 (lv_at hl 0 rfl) ?_
                  refine lv_ladd hx hb dX2_runLine_133 ?_
                  obtain ⟨hi, h⟩ := h
                  obtain ⟨J_70, eJ_70⟩ : ∃ z : TJ, z = va_up J_69 30 (vp_updL (J_69 30) (x_41).toNatClampNeg ((J_69 30 (x_41).toNatClampNeg) + r_68)) := ⟨_, rfl⟩
                  have h := h J_70 eJ_70
                  refine va_last hx hb hK hP hD hS 30 25 (wL_at30 _ _ _ _ _ _ _ _) rfl hi dX2_runLine_134 (fun H locs hP hD hS => ?_)
                  have hP : va_P (dC, dI) vwCl (wL a cy n0 n1 I_64 J_70 S_66 L_67) H := by rw [eJ_70]; exact setP hP (wL_set30 _ _ _ _ _ _ _ _ _)
                  have hD : va_D A (wL a cy n0 n1 I_64 J_70 S_66 L_67) := by rw [eJ_70]; exact setD hD (wL_set30 _ _ _ _ _ _ _ _ _)
                  refine lv_lload hx hb dX2_runLine_135 (lv_at hl 7 rfl) ?_
                  refine lv_lload hx hb dX2_runLine_137 (lv_at hl 0 rfl) ?_
                  refine lv_lsub hx hb dX2_runLine_139 ?_
                  refine lv_topl (fun y_71 ey_71 => ?_)
                  have h := h y_71 ey_71
                  refine lv_lstore (lv' := [(8, .long y_71), (13, .long r_68), (12, .int s_43), (0, .ref (a 25)), (1, .int p0), (2, .int p1), (4, .int p3), (7, .int x_39), (10, .int x_41), (11, .int x_42)]) hx hb dX2_runLine_140 hl (by decide) rfl (fun ls hl => ?_)
                  refine lv_aload_n hx hb dX2_runLine_142 rfl (lv_at hl 3 rfl) ?_
                  refine va_get (D := (dC, dI)) (ci := 2) (v := .ref (a 5)) (C := RX2) (T := TX2) (N := 16) hx hb hts nX2_runLine_0_X2 hown hK hP 25 (wL_at25 _ _ _ _ _ _ _ _) rfl 13 (by decide) (hts (.fieldLink RX2 45 "SongOffice$Ledger" "bargains" "LSongOffice$BargainBook;") kX2_runLine_0_2) (fun _ h9 => h9) rfl dX2_runLine_143 ?_
                  refine va_get (D := (dC, dI)) (ci := 0) (v := .ref (a 6)) (C := RX0) (T := TX0) (N := 9) hx hb hts nX2_runLine_0_X0 hown hK hP 5 (wL_at5 _ _ _ _ _ _ _ _) rfl 0 (by decide) (hts (.fieldLink RX2 116 "SongOffice$BargainBook" "kinds" "[I") kX2_runLine_0_4) (fun _ h9 => h9) rfl dX2_runLine_146 ?_
                  refine lv_iload hx hb dX2_runLine_149 (lv_at hl 8 rfl) ?_
                  obtain ⟨hi, h⟩ := h
                  refine va_iald hx hb hK hP 6 4 (wL_at6 _ _ _ _ _ _ _ _) rfl hi dX2_runLine_151 ?_
                  refine lv_iconst (v := 4) hx hb dX2_runLine_152 (by decide) ?_
                  obtain ⟨B_72, hB_72, h⟩ := h
                  have jB_72 : ∀ (I_73 : TI) (J_74 : TJ) (S_75 : TS) (L_76 : TL) (x_77 : Int32) (y_78 : Int64) (x_79 : Int32) (x_80 : Int32) (y_81 : Int64) (H : Heap) (locs : List Loc) (ls : Array Slot), va_P (dC, dI) vwCl (wL a cy n0 n1 I_73 J_74 S_75 L_76) H → va_D A (wL a cy n0 n1 I_73 J_74 S_75 L_76) → va_S A s.heap H locs → lv_has ls 15 [(0, .ref (a 25)), (1, .int p0), (2, .int p1), (4, .int p3), (7, .int x_77), (8, .long y_78), (10, .int x_79), (11, .int x_80), (13, .long y_81)] → B_72 I_73 J_74 S_75 L_76 x_77 y_78 x_79 x_80 y_81 → W p l e (headSpec wsX2_runLine rmX2_runLine_0).room s m args below meth c H locs 0 0 (MQ below (gQv dC dI (wL a cy n0 n1) (tyL cy) A Φ) args s 0 0 A) (F0 m 176 ls []) := by
                    intro I_73 J_74 S_75 L_76 x_77 y_78 x_79 x_80 y_81 H locs ls hP hD hS hl h
                    have h := hB_72 I_73 J_74 S_75 L_76 x_77 y_78 x_79 x_80 y_81 h
                    refine lv_iload hx hb dX2_runLine_176 (lv_at hl 7 rfl) ?_
                    refine lv_if_eq (tgt := 211) hx hb dX2_runLine_178 (by decide) (fun hc => ?_) (fun hc => ?_)
                    · have h := h.1 hc
                      exact jB_44 I_73 J_74 S_75 L_76 x_77 y_78 x_79 _ _ _ hP hD hS (lv_sub hl [0, 1, 2, 3, 4, 5, 6] rfl) h
                    · have h := h.2 hc
                      refine lv_lload hx hb dX2_runLine_181 (lv_at hl 8 rfl) ?_
                      refine lv_lconst (v := 0) hx hb dX2_runLine_183 (by decide) ?_
                      refine W.lcmp hx hb dX2_runLine_184 ?_
                      refine lv_if_le (tgt := 211) hx hb dX2_runLine_185 (by decide) (fun hc => ?_) (fun hc => ?_)
                      · have h := h.1 hc
                        exact jB_44 I_73 J_74 S_75 L_76 x_77 y_78 x_79 _ _ _ hP hD hS (lv_sub hl [0, 1, 2, 3, 4, 5, 6] rfl) h
                      · have h := h.2 hc
                        refine lv_aload_n hx hb dX2_runLine_188 rfl (lv_at hl 0 rfl) ?_
                        refine lv_iload_n hx hb dX2_runLine_189 rfl (lv_at hl 1 rfl) ?_
                        refine lv_aload_n hx hb dX2_runLine_190 rfl (lv_at hl 0 rfl) ?_
                        refine va_get (D := (dC, dI)) (ci := 2) (v := .ref (a 5)) (C := RX2) (T := TX2) (N := 16) hx hb hts nX2_runLine_0_X2 hown hK hP 25 (wL_at25 _ _ _ _ _ _ _ _) rfl 13 (by decide) (hts (.fieldLink RX2 45 "SongOffice$Ledger" "bargains" "LSongOffice$BargainBook;") kX2_runLine_0_2) (fun _ h9 => h9) rfl dX2_runLine_191 ?_
                        refine va_get (D := (dC, dI)) (ci := 0) (v := .ref (a 13)) (C := RX0) (T := TX0) (N := 9) hx hb hts nX2_runLine_0_X0 hown hK hP 5 (wL_at5 _ _ _ _ _ _ _ _) rfl 7 (by decide) (hts (.fieldLink RX2 220 "SongOffice$BargainBook" "takers" "[I") kX2_runLine_0_9) (fun _ h9 => h9) rfl dX2_runLine_194 ?_
                        refine lv_iload hx hb dX2_runLine_197 (lv_at hl 6 rfl) ?_
                        obtain ⟨hi, h⟩ := h
                        refine va_iald hx hb hK hP 13 11 (wL_at13 _ _ _ _ _ _ _ _) rfl hi dX2_runLine_199 ?_
                        refine lv_iload hx hb dX2_runLine_200 (lv_at hl 6 rfl) ?_
                        refine lv_iload hx hb dX2_runLine_202 (lv_at hl 3 rfl) ?_
                        refine lv_iconst (v := 1) hx hb dX2_runLine_204 (by decide) ?_
                        refine lv_iadd hx hb dX2_runLine_205 ?_
                        refine lv_lload hx hb dX2_runLine_206 (lv_at hl 8 rfl) ?_
                        refine gcallv (va_runV (As := [.int p0, .int (I_73 13 (x_79).toNatClampNeg), .int x_79, .int (p3 + (1 : Int32)), .long y_81]) (rest := []) ⟨hx, hb, hml, hown, hts⟩ (c_X2_runLine_1 l dC dI a cy n0 n1 H.size I_73 J_74 S_75 L_76 p0 (I_73 13 (x_79).toNatClampNeg) x_79 (p3 + (1 : Int32)) y_81 _ h) (cwV 5 hts gX2_runLine_X2_runLine rfl rfl rfl (by decide +kernel) ⟨(Nat.le_of_ble_eq_true rfl), (Nat.le_of_ble_eq_true rfl)⟩) (g_pV hP hK hD hN (va_recv hK hP (ci := 2) (q0 := 25) rfl (wL_at25 _ _ _ _ _ _ _ _)) [.int p0, .int (I_73 13 (x_79).toNatClampNeg), .int x_79, .int (p3 + (1 : Int32)), .long y_81]) rfl rfl hl.1 rfl (lv_room (Nat.le_of_ble_eq_true rfl)) dX2_runLine_208 ⟨(Nat.le_of_ble_eq_true rfl), (Nat.le_of_ble_eq_true rfl)⟩) hS hA hD (fun I_82 J_83 S_84 L_85 H locs hP hD hS h => ?_)
                        exact jB_44 I_82 J_83 S_84 L_85 x_77 y_78 x_79 _ _ _ hP hD hS (lv_sub hl [0, 1, 2, 3, 4, 5, 6] rfl) h
                  refine lv_icmp_ne (tgt := 176) hx hb dX2_runLine_153 (by decide) (fun hc => ?_) (fun hc => ?_)
                  · have h := h.1 hc
                    exact jB_72 I_64 J_70 S_66 L_67 x_39 y_71 x_41 x_42 r_68 _ _ _ hP hD hS (lv_sub hl [3, 4, 5, 6, 7, 0, 8, 9, 1] rfl) h
                  · have h := h.2 hc
                    refine lv_aload_n hx hb dX2_runLine_156 rfl (lv_at hl 3 rfl) ?_
                    refine va_get (D := (dC, dI)) (ci := 2) (v := .ref (a 32)) (C := RX2) (T := TX2) (N := 16) hx hb hts nX2_runLine_0_X2 hown hK hP 25 (wL_at25 _ _ _ _ _ _ _ _) rfl 6 (by decide) (hts (.fieldLink RX2 31 "SongOffice$Ledger" "bags" "[J") kX2_runLine_0_7) (fun _ h9 => h9) rfl dX2_runLine_157 ?_
                    refine lv_iload hx hb dX2_runLine_160 (lv_at hl 8 rfl) ?_
                    refine lv_bipush (v := 40) hx hb dX2_runLine_162 (by decide) ?_
                    refine lv_imul hx hb dX2_runLine_164 ?_
                    refine lv_aload_n hx hb dX2_runLine_165 rfl (lv_at hl 3 rfl) ?_
                    refine va_get (D := (dC, dI)) (ci := 2) (v := .int (S_66 3)) (C := RX2) (T := TX2) (N := 16) hx hb hts nX2_runLine_0_X2 hown hK hP 25 (wL_at25 _ _ _ _ _ _ _ _) rfl 10 (by decide) (hts (.fieldLink RX2 78 "SongOffice$Ledger" "closed" "I") kX2_runLine_0_8) (fun _ h9 => h9) rfl dX2_runLine_166 ?_
                    refine lv_iadd hx hb dX2_runLine_169 ?_
                    refine lv_dup2_11 hx hb dX2_runLine_170 rfl rfl ?_
                    obtain ⟨hi, h⟩ := h
                    refine va_lald hx hb hK hP 32 27 (wL_at32 _ _ _ _ _ _ _ _) rfl hi dX2_runLine_171 ?_
                    refine lv_lload hx hb dX2_runLine_172 (lv_at hl 1 rfl) ?_
                    refine lv_ladd hx hb dX2_runLine_174 ?_
                    obtain ⟨hi, h⟩ := h
                    obtain ⟨J_86, eJ_86⟩ : ∃ z : TJ, z = va_up J_70 32 (vp_updL (J_70 32) (((x_41 * (40 : Int32)) + (S_66 3))).toNatClampNeg ((J_70 32 (((x_41 * (40 : Int32)) + (S_66 3))).toNatClampNeg) + r_68)) := ⟨_, rfl⟩
                    have h := h J_86 eJ_86
                    refine va_last hx hb hK hP hD hS 32 27 (wL_at32 _ _ _ _ _ _ _ _) rfl hi dX2_runLine_175 (fun H locs hP hD hS => ?_)
                    have hP : va_P (dC, dI) vwCl (wL a cy n0 n1 I_64 J_86 S_66 L_67) H := by rw [eJ_86]; exact setP hP (wL_set32 _ _ _ _ _ _ _ _ _)
                    have hD : va_D A (wL a cy n0 n1 I_64 J_86 S_66 L_67) := by rw [eJ_86]; exact setD hD (wL_set32 _ _ _ _ _ _ _ _ _)
                    exact jB_72 I_64 J_86 S_66 L_67 x_39 y_71 x_41 x_42 r_68 _ _ _ hP hD hS (lv_sub hl [3, 4, 5, 6, 7, 0, 8, 9, 1] rfl) h
                · have h := h.2 hc
                  refine lv_goto (tgt := 211) hx hb dX2_runLine_98 (by decide) ?_
                  exact jB_44 I_59 J_60 S_61 L_62 x_39 y_40 x_41 _ _ _ hP hD hS (lv_sub hl [1, 2, 3, 4, 5, 6, 7] rfl) h
            obtain ⟨B_87, hB_87, h⟩ := h
            have jB_87 : ∀ (I_88 : TI) (J_89 : TJ) (S_90 : TS) (L_91 : TL) (x_92 : Int32) (y_93 : Int64) (x_94 : Int32) (x_95 : Int32) (H : Heap) (locs : List Loc) (ls : Array Slot), va_P (dC, dI) vwCl (wL a cy n0 n1 I_88 J_89 S_90 L_91) H → va_D A (wL a cy n0 n1 I_88 J_89 S_90 L_91) → va_S A s.heap H locs → lv_has ls 15 [(0, .ref (a 25)), (1, .int p0), (2, .int p1), (4, .int p3), (7, .int x_92), (8, .long y_93), (10, .int x_94), (11, .int x_95)] → B_87 I_88 J_89 S_90 L_91 x_92 y_93 x_94 x_95 → W p l e (headSpec wsX2_runLine rmX2_runLine_0).room s m args below meth c H locs 0 0 (MQ below (gQv dC dI (wL a cy n0 n1) (tyL cy) A Φ) args s 0 0 A) (F0 m 72 ls []) := by
              intro I_88 J_89 S_90 L_91 x_92 y_93 x_94 x_95 H locs ls hP hD hS hl h
              have h := hB_87 I_88 J_89 S_90 L_91 x_92 y_93 x_94 x_95 h
              refine lv_iconst (v := 0) hx hb dX2_runLine_72 (by decide) ?_
              exact jB_34 I_88 J_89 S_90 L_91 x_92 y_93 x_94 x_95 (0 : Int32) _ _ _ hP hD hS (lv_sub hl [0, 1, 2, 3, 4, 5, 6, 7] rfl) h
            refine lv_if_eq (tgt := 72) hx hb dX2_runLine_59 (by decide) (fun hc => ?_) (fun hc => ?_)
            · have h := h.1 hc
              exact jB_87 I_29 J_30 S_31 L_32 x_14 y_15 x_16 r_33 _ _ _ hP hD hS (lv_sub hl [1, 2, 3, 4, 5, 6, 7, 0] rfl) h
            · have h := h.2 hc
              refine lv_iload hx hb dX2_runLine_62 (lv_at hl 4 rfl) ?_
              refine lv_iconst (v := 2) hx hb dX2_runLine_64 (by decide) ?_
              refine lv_icmp_lt (tgt := 72) hx hb dX2_runLine_65 (by decide) (fun hc => ?_) (fun hc => ?_)
              · have h := h.1 hc
                exact jB_87 I_29 J_30 S_31 L_32 x_14 y_15 x_16 r_33 _ _ _ hP hD hS (lv_sub hl [1, 2, 3, 4, 5, 6, 7, 0] rfl) h
              · have h := h.2 hc
                refine lv_iconst (v := 1) hx hb dX2_runLine_68 (by decide) ?_
                refine lv_goto (tgt := 73) hx hb dX2_runLine_69 (by decide) ?_
                exact jB_34 I_29 J_30 S_31 L_32 x_14 y_15 x_16 r_33 (1 : Int32) _ _ _ hP hD hS (lv_sub hl [1, 2, 3, 4, 5, 6, 7, 0] rfl) h
  exact lV_7 n_9 I_1 J_2 S_3 L_4 r_5 p4 x_6 _ _ _ hP hD hS (lv_sub hl [3, 4, 5, 7, 2, 1, 0] rfl) h0V_7
def wp_X2_bringIn (n0 n1 : Nat) (I : TI) (J : TJ) (S : TS) (L : TL) (p0 : Int32) (Φ : TI → TJ → TS → TL → Prop) : Prop := wp_X4_wayOf n0 n1 I J S L (S 3) p0 (fun (r_5 : Int32) (I_1 : TI) (J_2 : TJ) (S_3 : TS) (L_4 : TL) => (∃ B_6 : TI → TJ → TS → TL → Int32 → Prop, (∀ (I_7 : TI) (J_8 : TJ) (S_9 : TS) (L_10 : TL) (s_11 : Int32), B_6 I_7 J_8 S_9 L_10 s_11 → (∃ V_12 : Nat → TI → TJ → TS → TL → Int32 → Int32 → Prop, (∃ n_14, V_12 n_14 I_7 J_8 S_9 L_10 s_11 (0 : Int32)) ∧ ∀ (n_13 : Nat) (I_15 : TI) (J_16 : TJ) (S_17 : TS) (L_18 : TL) (x_19 : Int32) (x_20 : Int32), V_12 n_13 I_15 J_16 S_17 L_18 x_19 x_20 → (((x_19 ≤ x_20) → (Φ I_15 J_16 S_17 L_18)) ∧ ((¬ x_19 ≤ x_20) → (wp_X4_coinsOf n0 n1 I_15 J_16 S_17 L_18 (S_17 3) p0 x_20 (fun (r_25 : Int32) (I_21 : TI) (J_22 : TJ) (S_23 : TS) (L_24 : TL) => (∀ y_26 : Int64, y_26 = ((r_25).toInt64) → (wp_X2_lastDay n0 n1 I_21 J_22 S_23 L_24 (fun (r_31 : Int32) (I_27 : TI) (J_28 : TJ) (S_29 : TS) (L_30 : TL) => (wp_X6_setAt n0 n1 I_27 J_28 S_29 L_30 p0 (r_31 - (((x_19 - (1 : Int32)) - x_20) * (30 : Int32))) (fun (r_36 : Int32) (I_32 : TI) (J_33 : TJ) (S_34 : TS) (L_35 : TL) => (∀ L_37 : TL, L_37 = va_up L_35 1 ((L_35 1) + (y_26 * (1000000 : Int64))) → (∀ x_38 : Int32, x_38 = (r_36 * (3 : Int32)) → (∃ V_39 : Nat → TI → TJ → TS → TL → Int32 → Int32 → Int64 → Int32 → Int32 → Prop, (∃ n_41, V_39 n_41 I_32 J_33 S_34 L_37 x_19 x_20 y_26 r_36 x_38) ∧ ∀ (n_40 : Nat) (I_42 : TI) (J_43 : TJ) (S_44 : TS) (L_45 : TL) (x_46 : Int32) (x_47 : Int32) (y_48 : Int64) (x_49 : Int32) (x_50 : Int32), V_39 n_40 I_42 J_43 S_44 L_45 x_46 x_47 y_48 x_49 x_50 → (((((x_49 + (1 : Int32)) * (3 : Int32)) ≤ x_50) → (∀ x_51 : Int32, x_51 = x_47 + 1 → (∃ n_52, n_52 < n_13 ∧ V_12 n_52 I_42 J_43 S_44 L_45 x_46 x_51))) ∧ ((¬ ((x_49 + (1 : Int32)) * (3 : Int32)) ≤ x_50) → ((vp_in x_50 216) ∧ (∀ y_53 : Int64, y_53 = ((y_48 * (((I_42 4 (x_50).toNatClampNeg)).toInt64)) * (1000 : Int64)) → (∃ B_54 : TI → TJ → TS → TL → Int32 → Int32 → Int64 → Int32 → Int32 → Prop, (∀ (I_55 : TI) (J_56 : TJ) (S_57 : TS) (L_58 : TL) (x_59 : Int32) (x_60 : Int32) (y_61 : Int64) (x_62 : Int32) (x_63 : Int32), B_54 I_55 J_56 S_57 L_58 x_59 x_60 y_61 x_62 x_63 → (∀ x_64 : Int32, x_64 = x_63 + 1 → (∃ n_65, n_65 < n_40 ∧ V_39 n_65 I_55 J_56 S_57 L_58 x_59 x_60 y_61 x_62 x_64))) ∧ ((((lg_cmp y_53 (0 : Int64)) ≤ 0) → (B_54 I_42 J_43 S_44 L_45 x_46 x_47 y_48 x_49 x_50)) ∧ ((¬ (lg_cmp y_53 (0 : Int64)) ≤ 0) → ((vp_in x_50 216) ∧ (wp_X2_runLine_0 n0 n1 I_42 J_43 S_44 L_45 p0 (I_42 3 (x_50).toNatClampNeg) (-1 : Int32) (0 : Int32) y_53 (fun (I_66 : TI) (J_67 : TJ) (S_68 : TS) (L_69 : TL) => (B_54 I_66 J_67 S_68 L_69 x_46 x_47 y_48 x_49 x_50))))))))))))))))))))))))) ∧ (((¬ r_5 = (2 : Int32)) → (B_6 I_1 J_2 S_3 L_4 (1 : Int32))) ∧ ((r_5 = (2 : Int32)) → (B_6 I_1 J_2 S_3 L_4 (3 : Int32))))))
theorem nX2_bringIn_X6 : ∀ w ∈ wsX60, w ∈ wsX2_bringIn := fun _ h => List.mem_cons_of_mem _ (List.mem_append_left _ (List.mem_append_left _ (List.mem_append_left _ (List.mem_append_right _ h))))
theorem kX2_bringIn_8 : Cond.fieldLink RX2 199 "SongOffice$ShareBook" "hands" "[I" ∈ wsX2_bringIn := List.mem_of_getElem? (i := 8) rfl
theorem nX2_bringIn_X2 : ∀ w ∈ wsX20, w ∈ wsX2_bringIn := fun _ h => List.mem_cons_of_mem _ (List.mem_append_left _ (List.mem_append_left _ (List.mem_append_left _ (List.mem_append_left _ (List.mem_append_right _ h)))))
theorem kX2_bringIn_3 : Cond.fieldLink RX2 40 "SongOffice$Ledger" "shares" "LSongOffice$ShareBook;" ∈ wsX2_bringIn := List.mem_of_getElem? (i := 3) rfl
theorem kX2_bringIn_7 : Cond.constantLong RX2 197 (1000) ∈ wsX2_bringIn := List.mem_of_getElem? (i := 7) rfl
theorem kX2_bringIn_6 : Cond.fieldLink RX2 194 "SongOffice$ShareBook" "parts" "[I" ∈ wsX2_bringIn := List.mem_of_getElem? (i := 6) rfl
theorem kX2_bringIn_4 : Cond.fieldLink RX2 74 "SongOffice$Ledger" "cameIn" "J" ∈ wsX2_bringIn := List.mem_of_getElem? (i := 4) rfl
theorem kX2_bringIn_5 : Cond.constantLong RX2 110 (1000000) ∈ wsX2_bringIn := List.mem_of_getElem? (i := 5) rfl
theorem kX2_bringIn_2 : Cond.fieldLink RX2 78 "SongOffice$Ledger" "closed" "I" ∈ wsX2_bringIn := List.mem_of_getElem? (i := 2) rfl
theorem kX2_bringIn_1 : Cond.fieldLink RX2 50 "SongOffice$Ledger" "reports" "LSongOffice$ReportBook;" ∈ wsX2_bringIn := List.mem_of_getElem? (i := 1) rfl
abbrev rmX2_bringIn : Room := { frames := 5, cells := 0, slots := 0, locals := 169 }
set_option maxHeartbeats 4000000 in
set_option maxRecDepth 100000 in
theorem c_X2_bringIn (l : Launch) (dC : Nat → ClassId) (dI : Nat → Nat → Nat) (a : Nat → Nat) (cy : Nat → ClassId) (n0 n1 : Nat) (sz : Nat) (I : TI) (J : TJ) (S : TS) (L : TL) (p0 : Int32) (Φ : TI → TJ → TS → TL → Prop) (h : wp_X2_bringIn n0 n1 I J S L p0 Φ) : Met l yX2_bringIn wsX2_bringIn rmX2_bringIn (va_Pc [.ref (a 25), .int p0] (gpre dC dI (wL a cy n0 n1 I J S L) (tyL cy) sz)) (gQv dC dI (wL a cy n0 n1) (tyL cy) (va_A (wL a cy n0 n1 I J S L) sz) Φ) 0 0 (va_A (wL a cy n0 n1 I J S L) sz) := by
  refine Met.ofW (cc := cX2_bringIn) (maxL := 10) (ret := none) (by decide) rfl ?_
  intro p e s m args below meth c s₁ B hml hv
  obtain ⟨hargs, hsz, hP, hK, hD0, hN⟩ := hv
  have hx := B.exec
  have hb := B.bytes
  have hr := B.returns
  have hts := atoms_spec (ws := wsX2_bringIn) B.pre
  have hown : s.vm.findClass RX2 = some m.cls := findClass_of_methodNamed B.named
  have hlocks := B.notSynchronized
  subst hsz
  have hD := hD0.self (sz := s.heap.size)
  generalize hAe : va_A (wL a cy n0 n1 I J S L) s.heap.size = A at hD ⊢
  have hA : ∀ q : Nat, s.heap.size ≤ q → A q := fun q h => by rw [← hAe]; exact Or.inr h
  obtain ⟨H, hH⟩ : ∃ z : Heap, z = s.heap := ⟨_, rfl⟩
  rw [← hH] at hP
  have hS : va_S A s.heap H [] := by rw [hH]; exact va_S.rf
  have hl := lv_entry ([.ref (a 25), .int p0]) (n := 10) (Nat.le_of_ble_eq_true rfl)
  have hE : entryFrame m args 10 = F0 m 0 ((lg_sl ([.ref (a 25), .int p0]) ++ List.replicate (10 - (lg_sl ([.ref (a 25), .int p0])).length) Slot.unset).toArray) [] := by rw [hargs]; exact lg_entry_eq m _ _
  rw [hE, ← hH]
  clear hE
  generalize (lg_sl ([.ref (a 25), .int p0]) ++ List.replicate (10 - (lg_sl ([.ref (a 25), .int p0])).length) Slot.unset).toArray = ls at hl ⊢
  have hl : lv_has ls 10 [(0, .ref (a 25)), (1, .int p0)] := hl
  unfold wp_X2_bringIn at h
  refine lv_aload_n hx hb dX2_bringIn_0 rfl (lv_at hl 0 rfl) ?_
  refine va_get (D := (dC, dI)) (ci := 2) (v := .ref (a 14)) (C := RX2) (T := TX2) (N := 16) hx hb hts nX2_bringIn_X2 hown hK hP 25 (wL_at25 _ _ _ _ _ _ _ _) rfl 14 (by decide) (hts (.fieldLink RX2 50 "SongOffice$Ledger" "reports" "LSongOffice$ReportBook;") kX2_bringIn_1) (fun _ h9 => h9) rfl dX2_bringIn_1 ?_
  refine lv_aload_n hx hb dX2_bringIn_4 rfl (lv_at hl 0 rfl) ?_
  refine va_get (D := (dC, dI)) (ci := 2) (v := .int (S 3)) (C := RX2) (T := TX2) (N := 16) hx hb hts nX2_bringIn_X2 hown hK hP 25 (wL_at25 _ _ _ _ _ _ _ _) rfl 10 (by decide) (hts (.fieldLink RX2 78 "SongOffice$Ledger" "closed" "I") kX2_bringIn_2) (fun _ h9 => h9) rfl dX2_bringIn_5 ?_
  refine lv_iload_n hx hb dX2_bringIn_8 rfl (lv_at hl 1 rfl) ?_
  refine gcalli (va_runV (As := [.int (S 3), .int p0]) (rest := []) ⟨hx, hb, hml, hown, hts⟩ (c_X4_wayOf l dC dI a cy n0 n1 H.size I J S L (S 3) p0 _ h) (cwV 2 hts gX2_bringIn_X4_wayOf rfl rfl rfl (by decide +kernel) ⟨(Nat.le_of_ble_eq_true rfl), (Nat.le_of_ble_eq_true rfl)⟩) (g_pV hP hK hD hN (va_recv hK hP (ci := 4) (q0 := 14) rfl (wL_at14 _ _ _ _ _ _ _ _)) [.int (S 3), .int p0]) rfl rfl hl.1 rfl (lv_room (Nat.le_of_ble_eq_true rfl)) dX2_bringIn_9 ⟨(Nat.le_of_ble_eq_true rfl), (Nat.le_of_ble_eq_true rfl)⟩) hS hA hD (fun r_5 I_1 J_2 S_3 L_4 H locs hP hD hS h => ?_)
  refine lv_iconst (v := 2) hx hb dX2_bringIn_12 (by decide) ?_
  obtain ⟨B_6, hB_6, h⟩ := h
  have jB_6 : ∀ (I_7 : TI) (J_8 : TJ) (S_9 : TS) (L_10 : TL) (s_11 : Int32) (H : Heap) (locs : List Loc) (ls : Array Slot), va_P (dC, dI) vwCl (wL a cy n0 n1 I_7 J_8 S_9 L_10) H → va_D A (wL a cy n0 n1 I_7 J_8 S_9 L_10) → va_S A s.heap H locs → lv_has ls 10 [(0, .ref (a 25)), (1, .int p0)] → B_6 I_7 J_8 S_9 L_10 s_11 → W p l e (headSpec wsX2_bringIn rmX2_bringIn).room s m args below meth c H locs 0 0 (MQ below (gQv dC dI (wL a cy n0 n1) (tyL cy) A Φ) args s 0 0 A) (F0 m 21 ls [.int s_11]) := by
    intro I_7 J_8 S_9 L_10 s_11 H locs ls hP hD hS hl h
    have h := hB_6 I_7 J_8 S_9 L_10 s_11 h
    refine lv_istore_n (lv' := [(2, .int s_11), (0, .ref (a 25)), (1, .int p0)]) hx hb dX2_bringIn_21 rfl hl (by decide) rfl (fun ls hl => ?_)
    refine lv_iconst (v := 0) hx hb dX2_bringIn_22 (by decide) ?_
    refine lv_istore_n (lv' := [(3, .int (0 : Int32)), (2, .int s_11), (0, .ref (a 25)), (1, .int p0)]) hx hb dX2_bringIn_23 rfl hl (by decide) rfl (fun ls hl => ?_)
    obtain ⟨V_12, ⟨n_14, h0V_12⟩, hV_12⟩ := h
    have lV_12 : ∀ (n_13 : Nat) (I_15 : TI) (J_16 : TJ) (S_17 : TS) (L_18 : TL) (x_19 : Int32) (x_20 : Int32) (H : Heap) (locs : List Loc) (ls : Array Slot), va_P (dC, dI) vwCl (wL a cy n0 n1 I_15 J_16 S_17 L_18) H → va_D A (wL a cy n0 n1 I_15 J_16 S_17 L_18) → va_S A s.heap H locs → lv_has ls 10 [(0, .ref (a 25)), (1, .int p0), (2, .int x_19), (3, .int x_20)] → V_12 n_13 I_15 J_16 S_17 L_18 x_19 x_20 → W p l e (headSpec wsX2_bringIn rmX2_bringIn).room s m args below meth c H locs 0 0 (MQ below (gQv dC dI (wL a cy n0 n1) (tyL cy) A Φ) args s 0 0 A) (F0 m 24 ls []) := by
      intro n_13
      induction n_13 using Nat.strongRecOn with
      | ind n_13 ihV_12 =>
          intro I_15 J_16 S_17 L_18 x_19 x_20 H locs ls hP hD hS hl h
          have h := hV_12 n_13 I_15 J_16 S_17 L_18 x_19 x_20 h
          refine lv_iload_n hx hb dX2_bringIn_24 rfl (lv_at hl 3 rfl) ?_
          refine lv_iload_n hx hb dX2_bringIn_25 rfl (lv_at hl 2 rfl) ?_
          refine lv_icmp_ge (tgt := 158) hx hb dX2_bringIn_26 (by decide) (fun hc => ?_) (fun hc => ?_)
          · have h := h.1 hc
            exact grv hx hb hr hlocks hP hK hD hS h dX2_bringIn_158
          · have h := h.2 hc
            refine lv_aload_n hx hb dX2_bringIn_29 rfl (lv_at hl 0 rfl) ?_
            refine va_get (D := (dC, dI)) (ci := 2) (v := .ref (a 14)) (C := RX2) (T := TX2) (N := 16) hx hb hts nX2_bringIn_X2 hown hK hP 25 (wL_at25 _ _ _ _ _ _ _ _) rfl 14 (by decide) (hts (.fieldLink RX2 50 "SongOffice$Ledger" "reports" "LSongOffice$ReportBook;") kX2_bringIn_1) (fun _ h9 => h9) rfl dX2_bringIn_30 ?_
            refine lv_aload_n hx hb dX2_bringIn_33 rfl (lv_at hl 0 rfl) ?_
            refine va_get (D := (dC, dI)) (ci := 2) (v := .int (S_17 3)) (C := RX2) (T := TX2) (N := 16) hx hb hts nX2_bringIn_X2 hown hK hP 25 (wL_at25 _ _ _ _ _ _ _ _) rfl 10 (by decide) (hts (.fieldLink RX2 78 "SongOffice$Ledger" "closed" "I") kX2_bringIn_2) (fun _ h9 => h9) rfl dX2_bringIn_34 ?_
            refine lv_iload_n hx hb dX2_bringIn_37 rfl (lv_at hl 1 rfl) ?_
            refine lv_iload_n hx hb dX2_bringIn_38 rfl (lv_at hl 3 rfl) ?_
            refine gcalli (va_runV (As := [.int (S_17 3), .int p0, .int x_20]) (rest := []) ⟨hx, hb, hml, hown, hts⟩ (c_X4_coinsOf l dC dI a cy n0 n1 H.size I_15 J_16 S_17 L_18 (S_17 3) p0 x_20 _ h) (cwV 3 hts gX2_bringIn_X4_coinsOf rfl rfl rfl (by decide +kernel) ⟨(Nat.le_of_ble_eq_true rfl), (Nat.le_of_ble_eq_true rfl)⟩) (g_pV hP hK hD hN (va_recv hK hP (ci := 4) (q0 := 14) rfl (wL_at14 _ _ _ _ _ _ _ _)) [.int (S_17 3), .int p0, .int x_20]) rfl rfl hl.1 rfl (lv_room (Nat.le_of_ble_eq_true rfl)) dX2_bringIn_39 ⟨(Nat.le_of_ble_eq_true rfl), (Nat.le_of_ble_eq_true rfl)⟩) hS hA hD (fun r_25 I_21 J_22 S_23 L_24 H locs hP hD hS h => ?_)
            refine lv_i2l (v := ((r_25).toInt64)) hx hb dX2_bringIn_42 rfl ?_
            refine lv_topl (fun y_26 ey_26 => ?_)
            have h := h y_26 ey_26
            refine lv_lstore (lv' := [(4, .long y_26), (0, .ref (a 25)), (1, .int p0), (2, .int x_19), (3, .int x_20)]) hx hb dX2_bringIn_43 hl (by decide) rfl (fun ls hl => ?_)
            refine lv_aload_n hx hb dX2_bringIn_45 rfl (lv_at hl 1 rfl) ?_
            refine va_get (D := (dC, dI)) (ci := 2) (v := .ref (a 0)) (C := RX2) (T := TX2) (N := 16) hx hb hts nX2_bringIn_X2 hown hK hP 25 (wL_at25 _ _ _ _ _ _ _ _) rfl 12 (by decide) (hts (.fieldLink RX2 40 "SongOffice$Ledger" "shares" "LSongOffice$ShareBook;") kX2_bringIn_3) (fun _ h9 => h9) rfl dX2_bringIn_46 ?_
            refine lv_iload_n hx hb dX2_bringIn_49 rfl (lv_at hl 2 rfl) ?_
            refine lv_aload_n hx hb dX2_bringIn_50 rfl (lv_at hl 1 rfl) ?_
            refine gcalli (va_runV (As := []) (rest := [.int p0, .ref (a 0)]) ⟨hx, hb, hml, hown, hts⟩ (c_X2_lastDay l dC dI a cy n0 n1 H.size I_21 J_22 S_23 L_24 _ h) (cwV 0 hts gX2_bringIn_X2_lastDay rfl rfl rfl (by decide +kernel) ⟨(Nat.le_of_ble_eq_true rfl), (Nat.le_of_ble_eq_true rfl)⟩) (g_pV hP hK hD hN (va_recv hK hP (ci := 2) (q0 := 25) rfl (wL_at25 _ _ _ _ _ _ _ _)) []) rfl rfl hl.1 rfl (lv_room (Nat.le_of_ble_eq_true rfl)) dX2_bringIn_51 ⟨(Nat.le_of_ble_eq_true rfl), (Nat.le_of_ble_eq_true rfl)⟩) hS hA hD (fun r_31 I_27 J_28 S_29 L_30 H locs hP hD hS h => ?_)
            refine lv_iload_n hx hb dX2_bringIn_54 rfl (lv_at hl 3 rfl) ?_
            refine lv_iconst (v := 1) hx hb dX2_bringIn_55 (by decide) ?_
            refine lv_isub hx hb dX2_bringIn_56 ?_
            refine lv_iload_n hx hb dX2_bringIn_57 rfl (lv_at hl 4 rfl) ?_
            refine lv_isub hx hb dX2_bringIn_58 ?_
            refine lv_bipush (v := 30) hx hb dX2_bringIn_59 (by decide) ?_
            refine lv_imul hx hb dX2_bringIn_61 ?_
            refine lv_isub hx hb dX2_bringIn_62 ?_
            refine gcalli (va_runV (As := [.int p0, .int (r_31 - (((x_19 - (1 : Int32)) - x_20) * (30 : Int32)))]) (rest := []) ⟨hx, hb, hml, hown, hts⟩ (c_X6_setAt l dC dI a cy n0 n1 H.size I_27 J_28 S_29 L_30 p0 (r_31 - (((x_19 - (1 : Int32)) - x_20) * (30 : Int32))) _ h) (cwV 2 hts gX2_bringIn_X6_setAt rfl rfl rfl (by decide +kernel) ⟨(Nat.le_of_ble_eq_true rfl), (Nat.le_of_ble_eq_true rfl)⟩) (g_pV hP hK hD hN (va_recv hK hP (ci := 6) (q0 := 0) rfl (wL_at0 _ _ _ _ _ _ _ _)) [.int p0, .int (r_31 - (((x_19 - (1 : Int32)) - x_20) * (30 : Int32)))]) rfl rfl hl.1 rfl (lv_room (Nat.le_of_ble_eq_true rfl)) dX2_bringIn_63 ⟨(Nat.le_of_ble_eq_true rfl), (Nat.le_of_ble_eq_true rfl)⟩) hS hA hD (fun r_36 I_32 J_33 S_34 L_35 H locs hP hD hS h => ?_)
            refine lv_istore (lv' := [(6, .int r_36), (4, .long y_26), (0, .ref (a 25)), (1, .int p0), (2, .int x_19), (3, .int x_20)]) hx hb dX2_bringIn_66 hl (by decide) rfl (fun ls hl => ?_)
            refine lv_aload_n hx hb dX2_bringIn_68 rfl (lv_at hl 2 rfl) ?_
            refine lv_dup hx hb dX2_bringIn_69 rfl ?_
            refine va_get (D := (dC, dI)) (ci := 2) (v := .long (L_35 1)) (C := RX2) (T := TX2) (N := 16) hx hb hts nX2_bringIn_X2 hown hK hP 25 (wL_at25 _ _ _ _ _ _ _ _) rfl 8 (by decide) (hts (.fieldLink RX2 74 "SongOffice$Ledger" "cameIn" "J") kX2_bringIn_4) (fun _ h9 => h9) rfl dX2_bringIn_70 ?_
            refine lv_lload hx hb dX2_bringIn_73 (lv_at hl 1 rfl) ?_
            refine lv_ldc2 (v := 1000000) hx hb hown (hts (.constantLong RX2 110 (1000000)) kX2_bringIn_5) dX2_bringIn_75 ?_
            refine lv_lmul hx hb dX2_bringIn_78 ?_
            refine lv_ladd hx hb dX2_bringIn_79 ?_
            obtain ⟨L_37, eL_37⟩ : ∃ z : TL, z = va_up L_35 1 ((L_35 1) + (y_26 * (1000000 : Int64))) := ⟨_, rfl⟩
            have h := h L_37 eL_37
            refine va_put (D := (dC, dI)) (ci := 2) (v := .long ((L_35 1) + (y_26 * (1000000 : Int64)))) (ty := .long) (C := RX2) (T := TX2) (N := 16) hx hb hts nX2_bringIn_X2 tyX2 tyX2_ok nmX2 hown hK hP hD hS 25 (wL_at25 _ _ _ _ _ _ _ _) rfl 8 (by decide) (hts (.fieldLink RX2 74 "SongOffice$Ledger" "cameIn" "J") kX2_bringIn_4) (fun _ h9 => h9) rfl (by decide +kernel) rfl rfl (Nat.le_of_ble_eq_true rfl) dX2_bringIn_80 (fun H locs hP hD hS => ?_)
            have hP : va_P (dC, dI) vwCl (wL a cy n0 n1 I_32 J_33 S_34 L_37) H := by rw [eL_37]; exact setP hP (wL_setL1 _ _ _ _ _ _ _ _ _)
            have hD : va_D A (wL a cy n0 n1 I_32 J_33 S_34 L_37) := by rw [eL_37]; exact setD hD (wL_setL1 _ _ _ _ _ _ _ _ _)
            refine lv_iload hx hb dX2_bringIn_83 (lv_at hl 0 rfl) ?_
            refine lv_iconst (v := 3) hx hb dX2_bringIn_85 (by decide) ?_
            refine lv_imul hx hb dX2_bringIn_86 ?_
            refine lv_topi (fun x_38 ex_38 => ?_)
            have h := h x_38 ex_38
            refine lv_istore (lv' := [(7, .int x_38), (6, .int r_36), (4, .long y_26), (0, .ref (a 25)), (1, .int p0), (2, .int x_19), (3, .int x_20)]) hx hb dX2_bringIn_87 hl (by decide) rfl (fun ls hl => ?_)
            obtain ⟨V_39, ⟨n_41, h0V_39⟩, hV_39⟩ := h
            have lV_39 : ∀ (n_40 : Nat) (I_42 : TI) (J_43 : TJ) (S_44 : TS) (L_45 : TL) (x_46 : Int32) (x_47 : Int32) (y_48 : Int64) (x_49 : Int32) (x_50 : Int32) (H : Heap) (locs : List Loc) (ls : Array Slot), va_P (dC, dI) vwCl (wL a cy n0 n1 I_42 J_43 S_44 L_45) H → va_D A (wL a cy n0 n1 I_42 J_43 S_44 L_45) → va_S A s.heap H locs → lv_has ls 10 [(0, .ref (a 25)), (1, .int p0), (2, .int x_46), (3, .int x_47), (4, .long y_48), (6, .int x_49), (7, .int x_50)] → V_39 n_40 I_42 J_43 S_44 L_45 x_46 x_47 y_48 x_49 x_50 → W p l e (headSpec wsX2_bringIn rmX2_bringIn).room s m args below meth c H locs 0 0 (MQ below (gQv dC dI (wL a cy n0 n1) (tyL cy) A Φ) args s 0 0 A) (F0 m 89 ls []) := by
              intro n_40
              induction n_40 using Nat.strongRecOn with
              | ind n_40 ihV_39 =>
                  intro I_42 J_43 S_44 L_45 x_46 x_47 y_48 x_49 x_50 H locs ls hP hD hS hl h
                  have h := hV_39 n_40 I_42 J_43 S_44 L_45 x_46 x_47 y_48 x_49 x_50 h
                  refine lv_iload hx hb dX2_bringIn_89 (lv_at hl 6 rfl) ?_
                  refine lv_iload hx hb dX2_bringIn_91 (lv_at hl 5 rfl) ?_
                  refine lv_iconst (v := 1) hx hb dX2_bringIn_93 (by decide) ?_
                  refine lv_iadd hx hb dX2_bringIn_94 ?_
                  refine lv_iconst (v := 3) hx hb dX2_bringIn_95 (by decide) ?_
                  refine lv_imul hx hb dX2_bringIn_96 ?_
                  refine lv_icmp_ge (tgt := 152) hx hb dX2_bringIn_97 (by decide) (fun hc => ?_) (fun hc => ?_)
                  · have h := h.1 hc
                    obtain ⟨x_51, ex_51⟩ : ∃ z : Int32, z = x_47 + 1 := ⟨_, rfl⟩
                    have h := h x_51 ex_51
                    refine lv_iinc (v := x_51) (lv' := [(3, .int x_51), (0, .ref (a 25)), (1, .int p0), (2, .int x_46), (4, .long y_48), (6, .int x_49), (7, .int x_50)]) hx hb dX2_bringIn_152 hl (k := 3) rfl (by rw [ex_51]; rfl) (by decide) rfl (fun ls hl => ?_)
                    refine lv_goto (tgt := 24) hx hb dX2_bringIn_155 (by decide) ?_
                    obtain ⟨n_52, hn2, h⟩ := h
                    exact ihV_12 n_52 hn2 I_42 J_43 S_44 L_45 x_46 x_51 _ _ _ hP hD hS (lv_sub hl [1, 2, 3, 0] rfl) h
                  · have h := h.2 hc
                    refine lv_lload hx hb dX2_bringIn_100 (lv_at hl 4 rfl) ?_
                    refine lv_aload_n hx hb dX2_bringIn_102 rfl (lv_at hl 0 rfl) ?_
                    refine va_get (D := (dC, dI)) (ci := 2) (v := .ref (a 0)) (C := RX2) (T := TX2) (N := 16) hx hb hts nX2_bringIn_X2 hown hK hP 25 (wL_at25 _ _ _ _ _ _ _ _) rfl 12 (by decide) (hts (.fieldLink RX2 40 "SongOffice$Ledger" "shares" "LSongOffice$ShareBook;") kX2_bringIn_3) (fun _ h9 => h9) rfl dX2_bringIn_103 ?_
                    refine va_get (D := (dC, dI)) (ci := 6) (v := .ref (a 4)) (C := RX6) (T := TX6) (N := 4) hx hb hts nX2_bringIn_X6 hown hK hP 0 (wL_at0 _ _ _ _ _ _ _ _) rfl 3 (by decide) (hts (.fieldLink RX2 194 "SongOffice$ShareBook" "parts" "[I") kX2_bringIn_6) (fun _ h9 => h9) rfl dX2_bringIn_106 ?_
                    refine lv_iload hx hb dX2_bringIn_109 (lv_at hl 6 rfl) ?_
                    obtain ⟨hi, h⟩ := h
                    refine va_iald hx hb hK hP 4 3 (wL_at4 _ _ _ _ _ _ _ _) rfl hi dX2_bringIn_111 ?_
                    refine lv_i2l (v := (((I_42 4 (x_50).toNatClampNeg)).toInt64)) hx hb dX2_bringIn_112 rfl ?_
                    refine lv_lmul hx hb dX2_bringIn_113 ?_
                    refine lv_ldc2 (v := 1000) hx hb hown (hts (.constantLong RX2 197 (1000)) kX2_bringIn_7) dX2_bringIn_114 ?_
                    refine lv_lmul hx hb dX2_bringIn_117 ?_
                    refine lv_topl (fun y_53 ey_53 => ?_)
                    have h := h y_53 ey_53
                    refine lv_lstore (lv' := [(8, .long y_53), (0, .ref (a 25)), (1, .int p0), (2, .int x_46), (3, .int x_47), (4, .long y_48), (6, .int x_49), (7, .int x_50)]) hx hb dX2_bringIn_118 hl (by decide) rfl (fun ls hl => ?_)
                    refine lv_lload hx hb dX2_bringIn_120 (lv_at hl 0 rfl) ?_
                    refine lv_lconst (v := 0) hx hb dX2_bringIn_122 (by decide) ?_
                    refine W.lcmp hx hb dX2_bringIn_123 ?_
                    obtain ⟨B_54, hB_54, h⟩ := h
                    have jB_54 : ∀ (I_55 : TI) (J_56 : TJ) (S_57 : TS) (L_58 : TL) (x_59 : Int32) (x_60 : Int32) (y_61 : Int64) (x_62 : Int32) (x_63 : Int32) (H : Heap) (locs : List Loc) (ls : Array Slot), va_P (dC, dI) vwCl (wL a cy n0 n1 I_55 J_56 S_57 L_58) H → va_D A (wL a cy n0 n1 I_55 J_56 S_57 L_58) → va_S A s.heap H locs → lv_has ls 10 [(0, .ref (a 25)), (1, .int p0), (2, .int x_59), (3, .int x_60), (4, .long y_61), (6, .int x_62), (7, .int x_63)] → B_54 I_55 J_56 S_57 L_58 x_59 x_60 y_61 x_62 x_63 → W p l e (headSpec wsX2_bringIn rmX2_bringIn).room s m args below meth c H locs 0 0 (MQ below (gQv dC dI (wL a cy n0 n1) (tyL cy) A Φ) args s 0 0 A) (F0 m 146 ls []) := by
                      intro I_55 J_56 S_57 L_58 x_59 x_60 y_61 x_62 x_63 H locs ls hP hD hS hl h
                      have h := hB_54 I_55 J_56 S_57 L_58 x_59 x_60 y_61 x_62 x_63 h
                      obtain ⟨x_64, ex_64⟩ : ∃ z : Int32, z = x_63 + 1 := ⟨_, rfl⟩
                      have h := h x_64 ex_64
                      refine lv_iinc (v := x_64) (lv' := [(7, .int x_64), (0, .ref (a 25)), (1, .int p0), (2, .int x_59), (3, .int x_60), (4, .long y_61), (6, .int x_62)]) hx hb dX2_bringIn_146 hl (k := 6) rfl (by rw [ex_64]; rfl) (by decide) rfl (fun ls hl => ?_)
                      refine lv_goto (tgt := 89) hx hb dX2_bringIn_149 (by decide) ?_
                      obtain ⟨n_65, hn2, h⟩ := h
                      exact ihV_39 n_65 hn2 I_55 J_56 S_57 L_58 x_59 x_60 y_61 x_62 x_64 _ _ _ hP hD hS (lv_sub hl [1, 2, 3, 4, 5, 6, 0] rfl) h
                    refine lv_if_le (tgt := 146) hx hb dX2_bringIn_124 (by decide) (fun hc => ?_) (fun hc => ?_)
                    · have h := h.1 hc
                      exact jB_54 I_42 J_43 S_44 L_45 x_46 x_47 y_48 x_49 x_50 _ _ _ hP hD hS (lv_sub hl [1, 2, 3, 4, 5, 6, 7] rfl) h
                    · have h := h.2 hc
                      refine lv_aload_n hx hb dX2_bringIn_127 rfl (lv_at hl 1 rfl) ?_
                      refine lv_iload_n hx hb dX2_bringIn_128 rfl (lv_at hl 2 rfl) ?_
                      refine lv_aload_n hx hb dX2_bringIn_129 rfl (lv_at hl 1 rfl) ?_
                      refine va_get (D := (dC, dI)) (ci := 2) (v := .ref (a 0)) (C := RX2) (T := TX2) (N := 16) hx hb hts nX2_bringIn_X2 hown hK hP 25 (wL_at25 _ _ _ _ _ _ _ _) rfl 12 (by decide) (hts (.fieldLink RX2 40 "SongOffice$Ledger" "shares" "LSongOffice$ShareBook;") kX2_bringIn_3) (fun _ h9 => h9) rfl dX2_bringIn_130 ?_
                      refine va_get (D := (dC, dI)) (ci := 6) (v := .ref (a 3)) (C := RX6) (T := TX6) (N := 4) hx hb hts nX2_bringIn_X6 hown hK hP 0 (wL_at0 _ _ _ _ _ _ _ _) rfl 2 (by decide) (hts (.fieldLink RX2 199 "SongOffice$ShareBook" "hands" "[I") kX2_bringIn_8) (fun _ h9 => h9) rfl dX2_bringIn_133 ?_
                      refine lv_iload hx hb dX2_bringIn_136 (lv_at hl 7 rfl) ?_
                      obtain ⟨hi, h⟩ := h
                      refine va_iald hx hb hK hP 3 2 (wL_at3 _ _ _ _ _ _ _ _) rfl hi dX2_bringIn_138 ?_
                      refine lv_iconst (v := -1) hx hb dX2_bringIn_139 (by decide) ?_
                      refine lv_iconst (v := 0) hx hb dX2_bringIn_140 (by decide) ?_
                      refine lv_lload hx hb dX2_bringIn_141 (lv_at hl 0 rfl) ?_
                      refine gcallv (va_runV (As := [.int p0, .int (I_42 3 (x_50).toNatClampNeg), .int (-1 : Int32), .int (0 : Int32), .long y_53]) (rest := []) ⟨hx, hb, hml, hown, hts⟩ (c_X2_runLine_0 l dC dI a cy n0 n1 H.size I_42 J_43 S_44 L_45 p0 (I_42 3 (x_50).toNatClampNeg) (-1 : Int32) (0 : Int32) y_53 _ h) (cwV 5 hts gX2_bringIn_X2_runLine rfl rfl rfl (by decide +kernel) ⟨(Nat.le_of_ble_eq_true rfl), (Nat.le_of_ble_eq_true rfl)⟩) (g_pV hP hK hD hN (va_recv hK hP (ci := 2) (q0 := 25) rfl (wL_at25 _ _ _ _ _ _ _ _)) [.int p0, .int (I_42 3 (x_50).toNatClampNeg), .int (-1 : Int32), .int (0 : Int32), .long y_53]) rfl rfl hl.1 rfl (lv_room (Nat.le_of_ble_eq_true rfl)) dX2_bringIn_143 ⟨(Nat.le_of_ble_eq_true rfl), (Nat.le_of_ble_eq_true rfl)⟩) hS hA hD (fun I_66 J_67 S_68 L_69 H locs hP hD hS h => ?_)
                      exact jB_54 I_66 J_67 S_68 L_69 x_46 x_47 y_48 x_49 x_50 _ _ _ hP hD hS (lv_sub hl [1, 2, 3, 4, 5, 6, 7] rfl) h
            exact lV_39 n_41 I_32 J_33 S_34 L_37 x_19 x_20 y_26 r_36 x_38 _ _ _ hP hD hS (lv_sub hl [3, 4, 5, 6, 2, 1, 0] rfl) h0V_39
    exact lV_12 n_14 I_7 J_8 S_9 L_10 s_11 (0 : Int32) _ _ _ hP hD hS (lv_sub hl [2, 3, 1, 0] rfl) h0V_12
  refine lv_icmp_ne (tgt := 20) hx hb dX2_bringIn_13 (by decide) (fun hc => ?_) (fun hc => ?_)
  · have h := h.1 hc
    refine lv_iconst (v := 1) hx hb dX2_bringIn_20 (by decide) ?_
    exact jB_6 I_1 J_2 S_3 L_4 (1 : Int32) _ _ _ hP hD hS (lv_sub hl [0, 1] rfl) h
  · have h := h.2 hc
    refine lv_iconst (v := 3) hx hb dX2_bringIn_16 (by decide) ?_
    refine lv_goto (tgt := 21) hx hb dX2_bringIn_17 (by decide) ?_
    exact jB_6 I_1 J_2 S_3 L_4 (3 : Int32) _ _ _ hP hD hS (lv_sub hl [0, 1] rfl) h
