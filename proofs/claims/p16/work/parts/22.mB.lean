def wp_X8_empties (I : TI) (J : TJ) (S : TS) (L : TL) (Φ : TI → TJ → TS → TL → Prop) : Prop := ∃ V_1 : Nat → TI → TJ → TS → TL → Int32 → Prop, (∃ n_3, V_1 n_3 I J S L (12 : Int32)) ∧ ∀ (n_2 : Nat) (I_4 : TI) (J_5 : TJ) (S_6 : TS) (L_7 : TL) (x_8 : Int32), V_1 n_2 I_4 J_5 S_6 L_7 x_8 → ((((24 : Int32) ≤ x_8) → (∃ V_9 : Nat → TI → TJ → TS → TL → Int32 → Prop, (∃ n_11, V_9 n_11 I_4 J_5 S_6 L_7 (24 : Int32)) ∧ ∀ (n_10 : Nat) (I_12 : TI) (J_13 : TJ) (S_14 : TS) (L_15 : TL) (x_16 : Int32), V_9 n_10 I_12 J_13 S_14 L_15 x_16 → ((((48 : Int32) ≤ x_16) → (∃ V_17 : Nat → TI → TJ → TS → TL → Int32 → Prop, (∃ n_19, V_17 n_19 I_12 J_13 S_14 L_15 (960 : Int32)) ∧ ∀ (n_18 : Nat) (I_20 : TI) (J_21 : TJ) (S_22 : TS) (L_23 : TL) (x_24 : Int32), V_17 n_18 I_20 J_21 S_22 L_23 x_24 → ((((1920 : Int32) ≤ x_24) → (∃ V_25 : Nat → TI → TJ → TS → TL → Int32 → Prop, (∃ n_27, V_25 n_27 I_20 J_21 S_22 L_23 (480 : Int32)) ∧ ∀ (n_26 : Nat) (I_28 : TI) (J_29 : TJ) (S_30 : TS) (L_31 : TL) (x_32 : Int32), V_25 n_26 I_28 J_29 S_30 L_31 x_32 → ((((960 : Int32) ≤ x_32) → ((vp_in (1 : Int32) 2) ∧ ∀ J_33 : TJ, J_33 = va_up J_29 28 (vp_updL (J_29 28) ((1 : Int32)).toNatClampNeg (0 : Int64)) → (Φ I_28 J_33 S_30 L_31))) ∧ ((¬ (960 : Int32) ≤ x_32) → ((vp_in x_32 960) ∧ ∀ I_34 : TI, I_34 = va_up I_28 26 (upd (I_28 26) (x_32).toNatClampNeg (0 : Int32)) → (∀ x_35 : Int32, x_35 = x_32 + 1 → (∃ n_36, n_36 < n_26 ∧ V_25 n_36 I_34 J_29 S_30 L_31 x_35))))))) ∧ ((¬ (1920 : Int32) ≤ x_24) → ((vp_in x_24 1920) ∧ ∀ J_37 : TJ, J_37 = va_up J_21 25 (vp_updL (J_21 25) (x_24).toNatClampNeg (0 : Int64)) → (∀ x_38 : Int32, x_38 = x_24 + 1 → (∃ n_39, n_39 < n_18 ∧ V_17 n_39 I_20 J_37 S_22 L_23 x_38))))))) ∧ ((¬ (48 : Int32) ≤ x_16) → ((vp_in x_16 48) ∧ ∀ J_40 : TJ, J_40 = va_up J_13 23 (vp_updL (J_13 23) (x_16).toNatClampNeg (0 : Int64)) → ((vp_in x_16 48) ∧ ∀ J_41 : TJ, J_41 = va_up J_40 24 (vp_updL (J_40 24) (x_16).toNatClampNeg (0 : Int64)) → (∀ x_42 : Int32, x_42 = x_16 + 1 → (∃ n_43, n_43 < n_10 ∧ V_9 n_43 I_12 J_41 S_14 L_15 x_42)))))))) ∧ ((¬ (24 : Int32) ≤ x_8) → ((vp_in x_8 24) ∧ ∀ J_44 : TJ, J_44 = va_up J_5 21 (vp_updL (J_5 21) (x_8).toNatClampNeg (0 : Int64)) → ((vp_in x_8 24) ∧ ∀ J_45 : TJ, J_45 = va_up J_44 22 (vp_updL (J_44 22) (x_8).toNatClampNeg (0 : Int64)) → ((vp_in x_8 24) ∧ ∀ I_46 : TI, I_46 = va_up I_4 27 (upd (I_4 27) (x_8).toNatClampNeg (0 : Int32)) → (∀ x_47 : Int32, x_47 = x_8 + 1 → (∃ n_48, n_48 < n_2 ∧ V_1 n_48 I_46 J_45 S_6 L_7 x_47)))))))
theorem nX8_empties_X8 : ∀ w ∈ wsX80, w ∈ wsX8_empties := fun _ h => List.mem_cons_of_mem _ (List.mem_append_right _ h)
theorem kX8_empties_8 : Cond.fieldLink RX8 93 "SongOfficeModel" "cameIn" "[J" ∈ wsX8_empties := List.mem_of_getElem? (i := 8) rfl
theorem kX8_empties_7 : Cond.fieldLink RX8 87 "SongOfficeModel" "dues" "[I" ∈ wsX8_empties := List.mem_of_getElem? (i := 7) rfl
theorem kX8_empties_6 : Cond.fieldLink RX8 84 "SongOfficeModel" "bags" "[J" ∈ wsX8_empties := List.mem_of_getElem? (i := 6) rfl
theorem kX8_empties_5 : Cond.fieldLink RX8 81 "SongOfficeModel" "came" "[J" ∈ wsX8_empties := List.mem_of_getElem? (i := 5) rfl
theorem kX8_empties_4 : Cond.fieldLink RX8 78 "SongOfficeModel" "kept" "[J" ∈ wsX8_empties := List.mem_of_getElem? (i := 4) rfl
theorem kX8_empties_3 : Cond.fieldLink RX8 90 "SongOfficeModel" "filled" "[I" ∈ wsX8_empties := List.mem_of_getElem? (i := 3) rfl
theorem kX8_empties_2 : Cond.fieldLink RX8 75 "SongOfficeModel" "debt" "[J" ∈ wsX8_empties := List.mem_of_getElem? (i := 2) rfl
theorem kX8_empties_1 : Cond.fieldLink RX8 71 "SongOfficeModel" "purse" "[J" ∈ wsX8_empties := List.mem_of_getElem? (i := 1) rfl
abbrev rmX8_empties : Room := { frames := 0, cells := 0, slots := 0, locals := 0 }
set_option maxHeartbeats 4000000 in
set_option maxRecDepth 100000 in
theorem c_X8_empties (l : Launch) (dC : Nat → ClassId) (dI : Nat → Nat → Nat) (a : Nat → Nat) (cy : Nat → ClassId) (sz : Nat) (I : TI) (J : TJ) (S : TS) (L : TL) (Φ : TI → TJ → TS → TL → Prop) (h : wp_X8_empties I J S L Φ) : Met l yX8_empties wsX8_empties rmX8_empties (va_Pc [.ref (a 0)] (gpre dC dI (wM a cy I J S L) (tyM cy) sz)) (gQv dC dI (wM a cy) (tyM cy) (va_A (wM a cy I J S L) sz) Φ) 0 0 (va_A (wM a cy I J S L) sz) := by
  refine Met.ofW (cc := cX8_empties) (maxL := 2) (ret := none) (by decide) rfl ?_
  intro p e s m args below meth c s₁ B hml hv
  obtain ⟨hargs, hsz, hP, hK, hD0, hN⟩ := hv
  have hx := B.exec
  have hb := B.bytes
  have hr := B.returns
  have hts := atoms_spec (ws := wsX8_empties) B.pre
  have hown : s.vm.findClass RX8 = some m.cls := findClass_of_methodNamed B.named
  have hlocks := B.notSynchronized
  subst hsz
  have hD := hD0.self (sz := s.heap.size)
  generalize hAe : va_A (wM a cy I J S L) s.heap.size = A at hD ⊢
  have hA : ∀ q : Nat, s.heap.size ≤ q → A q := fun q h => by rw [← hAe]; exact Or.inr h
  obtain ⟨H, hH⟩ : ∃ z : Heap, z = s.heap := ⟨_, rfl⟩
  rw [← hH] at hP
  have hS : va_S A s.heap H [] := by rw [hH]; exact va_S.rf
  have hl := lv_entry ([.ref (a 0)]) (n := 2) (Nat.le_of_ble_eq_true rfl)
  have hE : entryFrame m args 2 = F0 m 0 ((lg_sl ([.ref (a 0)]) ++ List.replicate (2 - (lg_sl ([.ref (a 0)])).length) Slot.unset).toArray) [] := by rw [hargs]; exact lg_entry_eq m _ _
  rw [hE, ← hH]
  clear hE
  generalize (lg_sl ([.ref (a 0)]) ++ List.replicate (2 - (lg_sl ([.ref (a 0)])).length) Slot.unset).toArray = ls at hl ⊢
  have hl : lv_has ls 2 [(0, .ref (a 0))] := hl
  unfold wp_X8_empties at h
  refine lv_bipush (v := 12) hx hb dX8_empties_0 (by decide) ?_
  refine lv_istore_n (lv' := [(1, .int (12 : Int32)), (0, .ref (a 0))]) hx hb dX8_empties_2 rfl hl (by decide) rfl (fun ls hl => ?_)
  obtain ⟨V_1, ⟨n_3, h0V_1⟩, hV_1⟩ := h
  have lV_1 : ∀ (n_2 : Nat) (I_4 : TI) (J_5 : TJ) (S_6 : TS) (L_7 : TL) (x_8 : Int32) (H : Heap) (locs : List Loc) (ls : Array Slot), va_P (dC, dI) vwCl (wM a cy I_4 J_5 S_6 L_7) H → va_D A (wM a cy I_4 J_5 S_6 L_7) → va_S A s.heap H locs → lv_has ls 2 [(0, .ref (a 0)), (1, .int x_8)] → V_1 n_2 I_4 J_5 S_6 L_7 x_8 → W p l e (headSpec wsX8_empties rmX8_empties).room s m args below meth c H locs 0 0 (MQ below (gQv dC dI (wM a cy) (tyM cy) A Φ) args s 0 0 A) (F0 m 3 ls []) := by
    intro n_2
    induction n_2 using Nat.strongRecOn with
    | ind n_2 ihV_1 =>
        intro I_4 J_5 S_6 L_7 x_8 H locs ls hP hD hS hl h
        have h := hV_1 n_2 I_4 J_5 S_6 L_7 x_8 h
        refine lv_iload_n hx hb dX8_empties_3 rfl (lv_at hl 1 rfl) ?_
        refine lv_bipush (v := 24) hx hb dX8_empties_4 (by decide) ?_
        refine lv_icmp_ge (tgt := 36) hx hb dX8_empties_6 (by decide) (fun hc => ?_) (fun hc => ?_)
        · have h := h.1 hc
          refine lv_bipush (v := 24) hx hb dX8_empties_36 (by decide) ?_
          refine lv_istore_n (lv' := [(1, .int (24 : Int32)), (0, .ref (a 0))]) hx hb dX8_empties_38 rfl hl (by decide) rfl (fun ls hl => ?_)
          obtain ⟨V_9, ⟨n_11, h0V_9⟩, hV_9⟩ := h
          have lV_9 : ∀ (n_10 : Nat) (I_12 : TI) (J_13 : TJ) (S_14 : TS) (L_15 : TL) (x_16 : Int32) (H : Heap) (locs : List Loc) (ls : Array Slot), va_P (dC, dI) vwCl (wM a cy I_12 J_13 S_14 L_15) H → va_D A (wM a cy I_12 J_13 S_14 L_15) → va_S A s.heap H locs → lv_has ls 2 [(0, .ref (a 0)), (1, .int x_16)] → V_9 n_10 I_12 J_13 S_14 L_15 x_16 → W p l e (headSpec wsX8_empties rmX8_empties).room s m args below meth c H locs 0 0 (MQ below (gQv dC dI (wM a cy) (tyM cy) A Φ) args s 0 0 A) (F0 m 39 ls []) := by
            intro n_10
            induction n_10 using Nat.strongRecOn with
            | ind n_10 ihV_9 =>
                intro I_12 J_13 S_14 L_15 x_16 H locs ls hP hD hS hl h
                have h := hV_9 n_10 I_12 J_13 S_14 L_15 x_16 h
                refine lv_iload_n hx hb dX8_empties_39 rfl (lv_at hl 1 rfl) ?_
                refine lv_bipush (v := 48) hx hb dX8_empties_40 (by decide) ?_
                refine lv_icmp_ge (tgt := 65) hx hb dX8_empties_42 (by decide) (fun hc => ?_) (fun hc => ?_)
                · have h := h.1 hc
                  refine lv_sipush (v := 960) hx hb dX8_empties_65 (by decide) ?_
                  refine lv_istore_n (lv' := [(1, .int (960 : Int32)), (0, .ref (a 0))]) hx hb dX8_empties_68 rfl hl (by decide) rfl (fun ls hl => ?_)
                  obtain ⟨V_17, ⟨n_19, h0V_17⟩, hV_17⟩ := h
                  have lV_17 : ∀ (n_18 : Nat) (I_20 : TI) (J_21 : TJ) (S_22 : TS) (L_23 : TL) (x_24 : Int32) (H : Heap) (locs : List Loc) (ls : Array Slot), va_P (dC, dI) vwCl (wM a cy I_20 J_21 S_22 L_23) H → va_D A (wM a cy I_20 J_21 S_22 L_23) → va_S A s.heap H locs → lv_has ls 2 [(0, .ref (a 0)), (1, .int x_24)] → V_17 n_18 I_20 J_21 S_22 L_23 x_24 → W p l e (headSpec wsX8_empties rmX8_empties).room s m args below meth c H locs 0 0 (MQ below (gQv dC dI (wM a cy) (tyM cy) A Φ) args s 0 0 A) (F0 m 69 ls []) := by
                    intro n_18
                    induction n_18 using Nat.strongRecOn with
                    | ind n_18 ihV_17 =>
                        intro I_20 J_21 S_22 L_23 x_24 H locs ls hP hD hS hl h
                        have h := hV_17 n_18 I_20 J_21 S_22 L_23 x_24 h
                        refine lv_iload_n hx hb dX8_empties_69 rfl (lv_at hl 1 rfl) ?_
                        refine lv_sipush (v := 1920) hx hb dX8_empties_70 (by decide) ?_
                        refine lv_icmp_ge (tgt := 89) hx hb dX8_empties_73 (by decide) (fun hc => ?_) (fun hc => ?_)
                        · have h := h.1 hc
                          refine lv_sipush (v := 480) hx hb dX8_empties_89 (by decide) ?_
                          refine lv_istore_n (lv' := [(1, .int (480 : Int32)), (0, .ref (a 0))]) hx hb dX8_empties_92 rfl hl (by decide) rfl (fun ls hl => ?_)
                          obtain ⟨V_25, ⟨n_27, h0V_25⟩, hV_25⟩ := h
                          have lV_25 : ∀ (n_26 : Nat) (I_28 : TI) (J_29 : TJ) (S_30 : TS) (L_31 : TL) (x_32 : Int32) (H : Heap) (locs : List Loc) (ls : Array Slot), va_P (dC, dI) vwCl (wM a cy I_28 J_29 S_30 L_31) H → va_D A (wM a cy I_28 J_29 S_30 L_31) → va_S A s.heap H locs → lv_has ls 2 [(0, .ref (a 0)), (1, .int x_32)] → V_25 n_26 I_28 J_29 S_30 L_31 x_32 → W p l e (headSpec wsX8_empties rmX8_empties).room s m args below meth c H locs 0 0 (MQ below (gQv dC dI (wM a cy) (tyM cy) A Φ) args s 0 0 A) (F0 m 93 ls []) := by
                            intro n_26
                            induction n_26 using Nat.strongRecOn with
                            | ind n_26 ihV_25 =>
                                intro I_28 J_29 S_30 L_31 x_32 H locs ls hP hD hS hl h
                                have h := hV_25 n_26 I_28 J_29 S_30 L_31 x_32 h
                                refine lv_iload_n hx hb dX8_empties_93 rfl (lv_at hl 1 rfl) ?_
                                refine lv_sipush (v := 960) hx hb dX8_empties_94 (by decide) ?_
                                refine lv_icmp_ge (tgt := 113) hx hb dX8_empties_97 (by decide) (fun hc => ?_) (fun hc => ?_)
                                · have h := h.1 hc
                                  refine lv_aload_n hx hb dX8_empties_113 rfl (lv_at hl 0 rfl) ?_
                                  refine va_get (D := (dC, dI)) (ci := 8) (v := .ref (a 28)) (C := RX8) (T := TX8) (N := 47) hx hb hts nX8_empties_X8 hown hK hP 0 (wM_at0 _ _ _ _ _ _) rfl 29 (by decide) (hts (.fieldLink RX8 93 "SongOfficeModel" "cameIn" "[J") kX8_empties_8) (fun _ h9 => h9) rfl dX8_empties_114 ?_
                                  refine lv_iconst (v := 1) hx hb dX8_empties_117 (by decide) ?_
                                  refine lv_lconst (v := 0) hx hb dX8_empties_118 (by decide) ?_
                                  obtain ⟨hi, h⟩ := h
                                  obtain ⟨J_33, eJ_33⟩ : ∃ z : TJ, z = va_up J_29 28 (vp_updL (J_29 28) ((1 : Int32)).toNatClampNeg (0 : Int64)) := ⟨_, rfl⟩
                                  have h := h J_33 eJ_33
                                  refine va_last hx hb hK hP hD hS 28 27 (wM_at28 _ _ _ _ _ _) rfl hi dX8_empties_119 (fun H locs hP hD hS => ?_)
                                  have hP : va_P (dC, dI) vwCl (wM a cy I_28 J_33 S_30 L_31) H := by rw [eJ_33]; exact setP hP (wM_set28 _ _ _ _ _ _ _)
                                  have hD : va_D A (wM a cy I_28 J_33 S_30 L_31) := by rw [eJ_33]; exact setD hD (wM_set28 _ _ _ _ _ _ _)
                                  exact grv hx hb hr hlocks hP hK hD hS h dX8_empties_120
                                · have h := h.2 hc
                                  refine lv_aload_n hx hb dX8_empties_100 rfl (lv_at hl 0 rfl) ?_
                                  refine va_get (D := (dC, dI)) (ci := 8) (v := .ref (a 26)) (C := RX8) (T := TX8) (N := 47) hx hb hts nX8_empties_X8 hown hK hP 0 (wM_at0 _ _ _ _ _ _) rfl 27 (by decide) (hts (.fieldLink RX8 87 "SongOfficeModel" "dues" "[I") kX8_empties_7) (fun _ h9 => h9) rfl dX8_empties_101 ?_
                                  refine lv_iload_n hx hb dX8_empties_104 rfl (lv_at hl 1 rfl) ?_
                                  refine lv_iconst (v := 0) hx hb dX8_empties_105 (by decide) ?_
                                  obtain ⟨hi, h⟩ := h
                                  obtain ⟨I_34, eI_34⟩ : ∃ z : TI, z = va_up I_28 26 (upd (I_28 26) (x_32).toNatClampNeg (0 : Int32)) := ⟨_, rfl⟩
                                  have h := h I_34 eI_34
                                  refine va_iast hx hb hK hP hD hS 26 25 (wM_at26 _ _ _ _ _ _) rfl hi dX8_empties_106 (fun H locs hP hD hS => ?_)
                                  have hP : va_P (dC, dI) vwCl (wM a cy I_34 J_29 S_30 L_31) H := by rw [eI_34]; exact setP hP (wM_set26 _ _ _ _ _ _ _)
                                  have hD : va_D A (wM a cy I_34 J_29 S_30 L_31) := by rw [eI_34]; exact setD hD (wM_set26 _ _ _ _ _ _ _)
                                  obtain ⟨x_35, ex_35⟩ : ∃ z : Int32, z = x_32 + 1 := ⟨_, rfl⟩
                                  have h := h x_35 ex_35
                                  refine lv_iinc (v := x_35) (lv' := [(1, .int x_35), (0, .ref (a 0))]) hx hb dX8_empties_107 hl (k := 1) rfl (by rw [ex_35]; rfl) (by decide) rfl (fun ls hl => ?_)
                                  refine lv_goto (tgt := 93) hx hb dX8_empties_110 (by decide) ?_
                                  obtain ⟨n_36, hn2, h⟩ := h
                                  exact ihV_25 n_36 hn2 I_34 J_29 S_30 L_31 x_35 _ _ _ hP hD hS (lv_sub hl [1, 0] rfl) h
                          exact lV_25 n_27 I_20 J_21 S_22 L_23 (480 : Int32) _ _ _ hP hD hS (lv_sub hl [1, 0] rfl) h0V_25
                        · have h := h.2 hc
                          refine lv_aload_n hx hb dX8_empties_76 rfl (lv_at hl 0 rfl) ?_
                          refine va_get (D := (dC, dI)) (ci := 8) (v := .ref (a 25)) (C := RX8) (T := TX8) (N := 47) hx hb hts nX8_empties_X8 hown hK hP 0 (wM_at0 _ _ _ _ _ _) rfl 26 (by decide) (hts (.fieldLink RX8 84 "SongOfficeModel" "bags" "[J") kX8_empties_6) (fun _ h9 => h9) rfl dX8_empties_77 ?_
                          refine lv_iload_n hx hb dX8_empties_80 rfl (lv_at hl 1 rfl) ?_
                          refine lv_lconst (v := 0) hx hb dX8_empties_81 (by decide) ?_
                          obtain ⟨hi, h⟩ := h
                          obtain ⟨J_37, eJ_37⟩ : ∃ z : TJ, z = va_up J_21 25 (vp_updL (J_21 25) (x_24).toNatClampNeg (0 : Int64)) := ⟨_, rfl⟩
                          have h := h J_37 eJ_37
                          refine va_last hx hb hK hP hD hS 25 24 (wM_at25 _ _ _ _ _ _) rfl hi dX8_empties_82 (fun H locs hP hD hS => ?_)
                          have hP : va_P (dC, dI) vwCl (wM a cy I_20 J_37 S_22 L_23) H := by rw [eJ_37]; exact setP hP (wM_set25 _ _ _ _ _ _ _)
                          have hD : va_D A (wM a cy I_20 J_37 S_22 L_23) := by rw [eJ_37]; exact setD hD (wM_set25 _ _ _ _ _ _ _)
                          obtain ⟨x_38, ex_38⟩ : ∃ z : Int32, z = x_24 + 1 := ⟨_, rfl⟩
                          have h := h x_38 ex_38
                          refine lv_iinc (v := x_38) (lv' := [(1, .int x_38), (0, .ref (a 0))]) hx hb dX8_empties_83 hl (k := 1) rfl (by rw [ex_38]; rfl) (by decide) rfl (fun ls hl => ?_)
                          refine lv_goto (tgt := 69) hx hb dX8_empties_86 (by decide) ?_
                          obtain ⟨n_39, hn2, h⟩ := h
                          exact ihV_17 n_39 hn2 I_20 J_37 S_22 L_23 x_38 _ _ _ hP hD hS (lv_sub hl [1, 0] rfl) h
                  exact lV_17 n_19 I_12 J_13 S_14 L_15 (960 : Int32) _ _ _ hP hD hS (lv_sub hl [1, 0] rfl) h0V_17
                · have h := h.2 hc
                  refine lv_aload_n hx hb dX8_empties_45 rfl (lv_at hl 0 rfl) ?_
                  refine va_get (D := (dC, dI)) (ci := 8) (v := .ref (a 23)) (C := RX8) (T := TX8) (N := 47) hx hb hts nX8_empties_X8 hown hK hP 0 (wM_at0 _ _ _ _ _ _) rfl 24 (by decide) (hts (.fieldLink RX8 78 "SongOfficeModel" "kept" "[J") kX8_empties_4) (fun _ h9 => h9) rfl dX8_empties_46 ?_
                  refine lv_iload_n hx hb dX8_empties_49 rfl (lv_at hl 1 rfl) ?_
                  refine lv_lconst (v := 0) hx hb dX8_empties_50 (by decide) ?_
                  obtain ⟨hi, h⟩ := h
                  obtain ⟨J_40, eJ_40⟩ : ∃ z : TJ, z = va_up J_13 23 (vp_updL (J_13 23) (x_16).toNatClampNeg (0 : Int64)) := ⟨_, rfl⟩
                  have h := h J_40 eJ_40
                  refine va_last hx hb hK hP hD hS 23 22 (wM_at23 _ _ _ _ _ _) rfl hi dX8_empties_51 (fun H locs hP hD hS => ?_)
                  have hP : va_P (dC, dI) vwCl (wM a cy I_12 J_40 S_14 L_15) H := by rw [eJ_40]; exact setP hP (wM_set23 _ _ _ _ _ _ _)
                  have hD : va_D A (wM a cy I_12 J_40 S_14 L_15) := by rw [eJ_40]; exact setD hD (wM_set23 _ _ _ _ _ _ _)
                  refine lv_aload_n hx hb dX8_empties_52 rfl (lv_at hl 0 rfl) ?_
                  refine va_get (D := (dC, dI)) (ci := 8) (v := .ref (a 24)) (C := RX8) (T := TX8) (N := 47) hx hb hts nX8_empties_X8 hown hK hP 0 (wM_at0 _ _ _ _ _ _) rfl 25 (by decide) (hts (.fieldLink RX8 81 "SongOfficeModel" "came" "[J") kX8_empties_5) (fun _ h9 => h9) rfl dX8_empties_53 ?_
                  refine lv_iload_n hx hb dX8_empties_56 rfl (lv_at hl 1 rfl) ?_
                  refine lv_lconst (v := 0) hx hb dX8_empties_57 (by decide) ?_
                  obtain ⟨hi, h⟩ := h
                  obtain ⟨J_41, eJ_41⟩ : ∃ z : TJ, z = va_up J_40 24 (vp_updL (J_40 24) (x_16).toNatClampNeg (0 : Int64)) := ⟨_, rfl⟩
                  have h := h J_41 eJ_41
                  refine va_last hx hb hK hP hD hS 24 23 (wM_at24 _ _ _ _ _ _) rfl hi dX8_empties_58 (fun H locs hP hD hS => ?_)
                  have hP : va_P (dC, dI) vwCl (wM a cy I_12 J_41 S_14 L_15) H := by rw [eJ_41]; exact setP hP (wM_set24 _ _ _ _ _ _ _)
                  have hD : va_D A (wM a cy I_12 J_41 S_14 L_15) := by rw [eJ_41]; exact setD hD (wM_set24 _ _ _ _ _ _ _)
                  obtain ⟨x_42, ex_42⟩ : ∃ z : Int32, z = x_16 + 1 := ⟨_, rfl⟩
                  have h := h x_42 ex_42
                  refine lv_iinc (v := x_42) (lv' := [(1, .int x_42), (0, .ref (a 0))]) hx hb dX8_empties_59 hl (k := 1) rfl (by rw [ex_42]; rfl) (by decide) rfl (fun ls hl => ?_)
                  refine lv_goto (tgt := 39) hx hb dX8_empties_62 (by decide) ?_
                  obtain ⟨n_43, hn2, h⟩ := h
                  exact ihV_9 n_43 hn2 I_12 J_41 S_14 L_15 x_42 _ _ _ hP hD hS (lv_sub hl [1, 0] rfl) h
          exact lV_9 n_11 I_4 J_5 S_6 L_7 (24 : Int32) _ _ _ hP hD hS (lv_sub hl [1, 0] rfl) h0V_9
        · have h := h.2 hc
          refine lv_aload_n hx hb dX8_empties_9 rfl (lv_at hl 0 rfl) ?_
          refine va_get (D := (dC, dI)) (ci := 8) (v := .ref (a 21)) (C := RX8) (T := TX8) (N := 47) hx hb hts nX8_empties_X8 hown hK hP 0 (wM_at0 _ _ _ _ _ _) rfl 22 (by decide) (hts (.fieldLink RX8 71 "SongOfficeModel" "purse" "[J") kX8_empties_1) (fun _ h9 => h9) rfl dX8_empties_10 ?_
          refine lv_iload_n hx hb dX8_empties_13 rfl (lv_at hl 1 rfl) ?_
          refine lv_lconst (v := 0) hx hb dX8_empties_14 (by decide) ?_
          obtain ⟨hi, h⟩ := h
          obtain ⟨J_44, eJ_44⟩ : ∃ z : TJ, z = va_up J_5 21 (vp_updL (J_5 21) (x_8).toNatClampNeg (0 : Int64)) := ⟨_, rfl⟩
          have h := h J_44 eJ_44
          refine va_last hx hb hK hP hD hS 21 20 (wM_at21 _ _ _ _ _ _) rfl hi dX8_empties_15 (fun H locs hP hD hS => ?_)
          have hP : va_P (dC, dI) vwCl (wM a cy I_4 J_44 S_6 L_7) H := by rw [eJ_44]; exact setP hP (wM_set21 _ _ _ _ _ _ _)
          have hD : va_D A (wM a cy I_4 J_44 S_6 L_7) := by rw [eJ_44]; exact setD hD (wM_set21 _ _ _ _ _ _ _)
          refine lv_aload_n hx hb dX8_empties_16 rfl (lv_at hl 0 rfl) ?_
          refine va_get (D := (dC, dI)) (ci := 8) (v := .ref (a 22)) (C := RX8) (T := TX8) (N := 47) hx hb hts nX8_empties_X8 hown hK hP 0 (wM_at0 _ _ _ _ _ _) rfl 23 (by decide) (hts (.fieldLink RX8 75 "SongOfficeModel" "debt" "[J") kX8_empties_2) (fun _ h9 => h9) rfl dX8_empties_17 ?_
          refine lv_iload_n hx hb dX8_empties_20 rfl (lv_at hl 1 rfl) ?_
          refine lv_lconst (v := 0) hx hb dX8_empties_21 (by decide) ?_
          obtain ⟨hi, h⟩ := h
          obtain ⟨J_45, eJ_45⟩ : ∃ z : TJ, z = va_up J_44 22 (vp_updL (J_44 22) (x_8).toNatClampNeg (0 : Int64)) := ⟨_, rfl⟩
          have h := h J_45 eJ_45
          refine va_last hx hb hK hP hD hS 22 21 (wM_at22 _ _ _ _ _ _) rfl hi dX8_empties_22 (fun H locs hP hD hS => ?_)
          have hP : va_P (dC, dI) vwCl (wM a cy I_4 J_45 S_6 L_7) H := by rw [eJ_45]; exact setP hP (wM_set22 _ _ _ _ _ _ _)
          have hD : va_D A (wM a cy I_4 J_45 S_6 L_7) := by rw [eJ_45]; exact setD hD (wM_set22 _ _ _ _ _ _ _)
          refine lv_aload_n hx hb dX8_empties_23 rfl (lv_at hl 0 rfl) ?_
          refine va_get (D := (dC, dI)) (ci := 8) (v := .ref (a 27)) (C := RX8) (T := TX8) (N := 47) hx hb hts nX8_empties_X8 hown hK hP 0 (wM_at0 _ _ _ _ _ _) rfl 28 (by decide) (hts (.fieldLink RX8 90 "SongOfficeModel" "filled" "[I") kX8_empties_3) (fun _ h9 => h9) rfl dX8_empties_24 ?_
          refine lv_iload_n hx hb dX8_empties_27 rfl (lv_at hl 1 rfl) ?_
          refine lv_iconst (v := 0) hx hb dX8_empties_28 (by decide) ?_
          obtain ⟨hi, h⟩ := h
          obtain ⟨I_46, eI_46⟩ : ∃ z : TI, z = va_up I_4 27 (upd (I_4 27) (x_8).toNatClampNeg (0 : Int32)) := ⟨_, rfl⟩
          have h := h I_46 eI_46
          refine va_iast hx hb hK hP hD hS 27 26 (wM_at27 _ _ _ _ _ _) rfl hi dX8_empties_29 (fun H locs hP hD hS => ?_)
          have hP : va_P (dC, dI) vwCl (wM a cy I_46 J_45 S_6 L_7) H := by rw [eI_46]; exact setP hP (wM_set27 _ _ _ _ _ _ _)
          have hD : va_D A (wM a cy I_46 J_45 S_6 L_7) := by rw [eI_46]; exact setD hD (wM_set27 _ _ _ _ _ _ _)
          obtain ⟨x_47, ex_47⟩ : ∃ z : Int32, z = x_8 + 1 := ⟨_, rfl⟩
          have h := h x_47 ex_47
          refine lv_iinc (v := x_47) (lv' := [(1, .int x_47), (0, .ref (a 0))]) hx hb dX8_empties_30 hl (k := 1) rfl (by rw [ex_47]; rfl) (by decide) rfl (fun ls hl => ?_)
          refine lv_goto (tgt := 3) hx hb dX8_empties_33 (by decide) ?_
          obtain ⟨n_48, hn2, h⟩ := h
          exact ihV_1 n_48 hn2 I_46 J_45 S_6 L_7 x_47 _ _ _ hP hD hS (lv_sub hl [1, 0] rfl) h
  exact lV_1 n_3 I J S L (12 : Int32) _ _ _ hP hD hS (lv_sub hl [1, 0] rfl) h0V_1
def wp_X8_begins (I : TI) (J : TJ) (S : TS) (L : TL) (p0 : Int32) (p1 : Int32) (p2 : Int32) (p3 : Int32) (p4 : Int64) (Φ : TI → TJ → TS → TL → Prop) : Prop := ∃ B_1 : TI → TJ → TS → TL → Int32 → Prop, (∀ (I_2 : TI) (J_3 : TJ) (S_4 : TS) (L_5 : TL) (x_6 : Int32), B_1 I_2 J_3 S_4 L_5 x_6 → ((vp_in (S_4 2) 3) ∧ ∀ I_7 : TI, I_7 = va_up I_2 29 (upd (I_2 29) ((S_4 2)).toNatClampNeg p2) → ((vp_in (S_4 2) 3) ∧ ∀ I_8 : TI, I_8 = va_up I_7 30 (upd (I_7 30) ((S_4 2)).toNatClampNeg (p3 + (1 : Int32))) → ((vp_in (S_4 2) 3) ∧ ∀ J_9 : TJ, J_9 = va_up J_3 32 (vp_updL (J_3 32) ((S_4 2)).toNatClampNeg p4) → ((vp_in (S_4 2) 3) ∧ ∀ I_10 : TI, I_10 = va_up I_8 31 (upd (I_8 31) ((S_4 2)).toNatClampNeg x_6) → (∀ S_11 : TS, S_11 = va_up S_4 2 ((S_4 2) + (1 : Int32)) → (Φ I_10 J_9 S_11 L_5))))))) ∧ (((¬ p0 = 0) → (B_1 I J S L (-1 : Int32))) ∧ ((p0 = 0) → (∃ B_12 : TI → TJ → TS → TL → Int32 → Prop, (∀ (I_13 : TI) (J_14 : TJ) (S_15 : TS) (L_16 : TL) (x_17 : Int32), B_12 I_13 J_14 S_15 L_16 x_17 → (∀ S_18 : TS, S_18 = va_up S_15 3 ((S_15 3) + (1 : Int32)) → (B_1 I_13 J_14 S_18 L_16 x_17))) ∧ ((((600 : Int32) ≤ (S 3)) → (B_12 I J S L (-1 : Int32))) ∧ ((¬ (600 : Int32) ≤ (S 3)) → (∀ x_19 : Int32, x_19 = (S 3) → ((vp_in x_19 600) ∧ ∀ I_20 : TI, I_20 = va_up I 33 (upd (I 33) (x_19).toNatClampNeg p1) → ((vp_in x_19 600) ∧ ∀ I_21 : TI, I_21 = va_up I_20 34 (upd (I_20 34) (x_19).toNatClampNeg p2) → ((vp_in x_19 600) ∧ ∀ I_22 : TI, I_22 = va_up I_21 35 (upd (I_21 35) (x_19).toNatClampNeg p3) → ((vp_in x_19 600) ∧ ∀ J_23 : TJ, J_23 = va_up J 36 (vp_updL (J 36) (x_19).toNatClampNeg p4) → ((vp_in x_19 600) ∧ ∀ J_24 : TJ, J_24 = va_up J_23 37 (vp_updL (J_23 37) (x_19).toNatClampNeg (0 : Int64)) → (B_12 I_22 J_24 S L x_19))))))))))))
theorem nX8_begins_X8 : ∀ w ∈ wsX80, w ∈ wsX8_begins := fun _ h => List.mem_cons_of_mem _ (List.mem_append_right _ h)
theorem kX8_begins_8 : Cond.fieldLink RX8 181 "SongOfficeModel" "deep" "I" ∈ wsX8_begins := List.mem_of_getElem? (i := 8) rfl
theorem kX8_begins_11 : Cond.fieldLink RX8 102 "SongOfficeModel" "lineTold" "[I" ∈ wsX8_begins := List.mem_of_getElem? (i := 11) rfl
theorem kX8_begins_10 : Cond.fieldLink RX8 105 "SongOfficeModel" "lineLeft" "[J" ∈ wsX8_begins := List.mem_of_getElem? (i := 10) rfl
theorem kX8_begins_9 : Cond.fieldLink RX8 99 "SongOfficeModel" "lineNext" "[I" ∈ wsX8_begins := List.mem_of_getElem? (i := 9) rfl
theorem kX8_begins_7 : Cond.fieldLink RX8 96 "SongOfficeModel" "lineHand" "[I" ∈ wsX8_begins := List.mem_of_getElem? (i := 7) rfl
theorem kX8_begins_1 : Cond.fieldLink RX8 178 "SongOfficeModel" "lines" "I" ∈ wsX8_begins := List.mem_of_getElem? (i := 1) rfl
theorem kX8_begins_6 : Cond.fieldLink RX8 120 "SongOfficeModel" "toldPurse" "[J" ∈ wsX8_begins := List.mem_of_getElem? (i := 6) rfl
theorem kX8_begins_5 : Cond.fieldLink RX8 117 "SongOfficeModel" "toldMites" "[J" ∈ wsX8_begins := List.mem_of_getElem? (i := 5) rfl
theorem kX8_begins_4 : Cond.fieldLink RX8 114 "SongOfficeModel" "toldFrom" "[I" ∈ wsX8_begins := List.mem_of_getElem? (i := 4) rfl
theorem kX8_begins_3 : Cond.fieldLink RX8 111 "SongOfficeModel" "toldHand" "[I" ∈ wsX8_begins := List.mem_of_getElem? (i := 3) rfl
theorem kX8_begins_2 : Cond.fieldLink RX8 108 "SongOfficeModel" "toldWork" "[I" ∈ wsX8_begins := List.mem_of_getElem? (i := 2) rfl
abbrev rmX8_begins : Room := { frames := 0, cells := 0, slots := 0, locals := 0 }
set_option maxHeartbeats 4000000 in
set_option maxRecDepth 100000 in
theorem c_X8_begins (l : Launch) (dC : Nat → ClassId) (dI : Nat → Nat → Nat) (a : Nat → Nat) (cy : Nat → ClassId) (sz : Nat) (I : TI) (J : TJ) (S : TS) (L : TL) (p0 : Int32) (p1 : Int32) (p2 : Int32) (p3 : Int32) (p4 : Int64) (Φ : TI → TJ → TS → TL → Prop) (h : wp_X8_begins I J S L p0 p1 p2 p3 p4 Φ) : Met l yX8_begins wsX8_begins rmX8_begins (va_Pc [.ref (a 0), .int p0, .int p1, .int p2, .int p3, .long p4] (gpre dC dI (wM a cy I J S L) (tyM cy) sz)) (gQv dC dI (wM a cy) (tyM cy) (va_A (wM a cy I J S L) sz) Φ) 0 0 (va_A (wM a cy I J S L) sz) := by
  refine Met.ofW (cc := cX8_begins) (maxL := 8) (ret := none) (by decide) rfl ?_
  intro p e s m args below meth c s₁ B hml hv
  obtain ⟨hargs, hsz, hP, hK, hD0, hN⟩ := hv
  have hx := B.exec
  have hb := B.bytes
  have hr := B.returns
  have hts := atoms_spec (ws := wsX8_begins) B.pre
  have hown : s.vm.findClass RX8 = some m.cls := findClass_of_methodNamed B.named
  have hlocks := B.notSynchronized
  subst hsz
  have hD := hD0.self (sz := s.heap.size)
  generalize hAe : va_A (wM a cy I J S L) s.heap.size = A at hD ⊢
  have hA : ∀ q : Nat, s.heap.size ≤ q → A q := fun q h => by rw [← hAe]; exact Or.inr h
  obtain ⟨H, hH⟩ : ∃ z : Heap, z = s.heap := ⟨_, rfl⟩
  rw [← hH] at hP
  have hS : va_S A s.heap H [] := by rw [hH]; exact va_S.rf
  have hl := lv_entry ([.ref (a 0), .int p0, .int p1, .int p2, .int p3, .long p4]) (n := 8) (Nat.le_of_ble_eq_true rfl)
  have hE : entryFrame m args 8 = F0 m 0 ((lg_sl ([.ref (a 0), .int p0, .int p1, .int p2, .int p3, .long p4]) ++ List.replicate (8 - (lg_sl ([.ref (a 0), .int p0, .int p1, .int p2, .int p3, .long p4])).length) Slot.unset).toArray) [] := by rw [hargs]; exact lg_entry_eq m _ _
  rw [hE, ← hH]
  clear hE
  generalize (lg_sl ([.ref (a 0), .int p0, .int p1, .int p2, .int p3, .long p4]) ++ List.replicate (8 - (lg_sl ([.ref (a 0), .int p0, .int p1, .int p2, .int p3, .long p4])).length) Slot.unset).toArray = ls at hl ⊢
  have hl : lv_has ls 8 [(0, .ref (a 0)), (1, .int p0), (2, .int p1), (3, .int p2), (4, .int p3), (5, .long p4)] := hl
  unfold wp_X8_begins at h
  refine lv_iconst (v := -1) hx hb dX8_begins_0 (by decide) ?_
  refine lv_istore (lv' := [(7, .int (-1 : Int32)), (0, .ref (a 0)), (1, .int p0), (2, .int p1), (3, .int p2), (4, .int p3), (5, .long p4)]) hx hb dX8_begins_1 hl (by decide) rfl (fun ls hl => ?_)
  refine lv_iload_n hx hb dX8_begins_3 rfl (lv_at hl 2 rfl) ?_
  obtain ⟨B_1, hB_1, h⟩ := h
  have jB_1 : ∀ (I_2 : TI) (J_3 : TJ) (S_4 : TS) (L_5 : TL) (x_6 : Int32) (H : Heap) (locs : List Loc) (ls : Array Slot), va_P (dC, dI) vwCl (wM a cy I_2 J_3 S_4 L_5) H → va_D A (wM a cy I_2 J_3 S_4 L_5) → va_S A s.heap H locs → lv_has ls 8 [(0, .ref (a 0)), (3, .int p2), (4, .int p3), (5, .long p4), (7, .int x_6)] → B_1 I_2 J_3 S_4 L_5 x_6 → W p l e (headSpec wsX8_begins rmX8_begins).room s m args below meth c H locs 0 0 (MQ below (gQv dC dI (wM a cy) (tyM cy) A Φ) args s 0 0 A) (F0 m 75 ls []) := by
    intro I_2 J_3 S_4 L_5 x_6 H locs ls hP hD hS hl h
    have h := hB_1 I_2 J_3 S_4 L_5 x_6 h
    refine lv_aload_n hx hb dX8_begins_75 rfl (lv_at hl 0 rfl) ?_
    refine va_get (D := (dC, dI)) (ci := 8) (v := .ref (a 29)) (C := RX8) (T := TX8) (N := 47) hx hb hts nX8_begins_X8 hown hK hP 0 (wM_at0 _ _ _ _ _ _) rfl 30 (by decide) (hts (.fieldLink RX8 96 "SongOfficeModel" "lineHand" "[I") kX8_begins_7) (fun _ h9 => h9) rfl dX8_begins_76 ?_
    refine lv_aload_n hx hb dX8_begins_79 rfl (lv_at hl 0 rfl) ?_
    refine va_get (D := (dC, dI)) (ci := 8) (v := .int (S_4 2)) (C := RX8) (T := TX8) (N := 47) hx hb hts nX8_begins_X8 hown hK hP 0 (wM_at0 _ _ _ _ _ _) rfl 34 (by decide) (hts (.fieldLink RX8 181 "SongOfficeModel" "deep" "I") kX8_begins_8) (fun _ h9 => h9) rfl dX8_begins_80 ?_
    refine lv_iload_n hx hb dX8_begins_83 rfl (lv_at hl 1 rfl) ?_
    obtain ⟨hi, h⟩ := h
    obtain ⟨I_7, eI_7⟩ : ∃ z : TI, z = va_up I_2 29 (upd (I_2 29) ((S_4 2)).toNatClampNeg p2) := ⟨_, rfl⟩
    have h := h I_7 eI_7
    refine va_iast hx hb hK hP hD hS 29 28 (wM_at29 _ _ _ _ _ _) rfl hi dX8_begins_84 (fun H locs hP hD hS => ?_)
    have hP : va_P (dC, dI) vwCl (wM a cy I_7 J_3 S_4 L_5) H := by rw [eI_7]; exact setP hP (wM_set29 _ _ _ _ _ _ _)
    have hD : va_D A (wM a cy I_7 J_3 S_4 L_5) := by rw [eI_7]; exact setD hD (wM_set29 _ _ _ _ _ _ _)
    refine lv_aload_n hx hb dX8_begins_85 rfl (lv_at hl 0 rfl) ?_
    refine va_get (D := (dC, dI)) (ci := 8) (v := .ref (a 30)) (C := RX8) (T := TX8) (N := 47) hx hb hts nX8_begins_X8 hown hK hP 0 (wM_at0 _ _ _ _ _ _) rfl 31 (by decide) (hts (.fieldLink RX8 99 "SongOfficeModel" "lineNext" "[I") kX8_begins_9) (fun _ h9 => h9) rfl dX8_begins_86 ?_
    refine lv_aload_n hx hb dX8_begins_89 rfl (lv_at hl 0 rfl) ?_
    refine va_get (D := (dC, dI)) (ci := 8) (v := .int (S_4 2)) (C := RX8) (T := TX8) (N := 47) hx hb hts nX8_begins_X8 hown hK hP 0 (wM_at0 _ _ _ _ _ _) rfl 34 (by decide) (hts (.fieldLink RX8 181 "SongOfficeModel" "deep" "I") kX8_begins_8) (fun _ h9 => h9) rfl dX8_begins_90 ?_
    refine lv_iload hx hb dX8_begins_93 (lv_at hl 2 rfl) ?_
    refine lv_iconst (v := 1) hx hb dX8_begins_95 (by decide) ?_
    refine lv_iadd hx hb dX8_begins_96 ?_
    obtain ⟨hi, h⟩ := h
    obtain ⟨I_8, eI_8⟩ : ∃ z : TI, z = va_up I_7 30 (upd (I_7 30) ((S_4 2)).toNatClampNeg (p3 + (1 : Int32))) := ⟨_, rfl⟩
    have h := h I_8 eI_8
    refine va_iast hx hb hK hP hD hS 30 29 (wM_at30 _ _ _ _ _ _) rfl hi dX8_begins_97 (fun H locs hP hD hS => ?_)
    have hP : va_P (dC, dI) vwCl (wM a cy I_8 J_3 S_4 L_5) H := by rw [eI_8]; exact setP hP (wM_set30 _ _ _ _ _ _ _)
    have hD : va_D A (wM a cy I_8 J_3 S_4 L_5) := by rw [eI_8]; exact setD hD (wM_set30 _ _ _ _ _ _ _)
    refine lv_aload_n hx hb dX8_begins_98 rfl (lv_at hl 0 rfl) ?_
    refine va_get (D := (dC, dI)) (ci := 8) (v := .ref (a 32)) (C := RX8) (T := TX8) (N := 47) hx hb hts nX8_begins_X8 hown hK hP 0 (wM_at0 _ _ _ _ _ _) rfl 33 (by decide) (hts (.fieldLink RX8 105 "SongOfficeModel" "lineLeft" "[J") kX8_begins_10) (fun _ h9 => h9) rfl dX8_begins_99 ?_
    refine lv_aload_n hx hb dX8_begins_102 rfl (lv_at hl 0 rfl) ?_
    refine va_get (D := (dC, dI)) (ci := 8) (v := .int (S_4 2)) (C := RX8) (T := TX8) (N := 47) hx hb hts nX8_begins_X8 hown hK hP 0 (wM_at0 _ _ _ _ _ _) rfl 34 (by decide) (hts (.fieldLink RX8 181 "SongOfficeModel" "deep" "I") kX8_begins_8) (fun _ h9 => h9) rfl dX8_begins_103 ?_
    refine lv_lload hx hb dX8_begins_106 (lv_at hl 3 rfl) ?_
    obtain ⟨hi, h⟩ := h
    obtain ⟨J_9, eJ_9⟩ : ∃ z : TJ, z = va_up J_3 32 (vp_updL (J_3 32) ((S_4 2)).toNatClampNeg p4) := ⟨_, rfl⟩
    have h := h J_9 eJ_9
    refine va_last hx hb hK hP hD hS 32 31 (wM_at32 _ _ _ _ _ _) rfl hi dX8_begins_108 (fun H locs hP hD hS => ?_)
    have hP : va_P (dC, dI) vwCl (wM a cy I_8 J_9 S_4 L_5) H := by rw [eJ_9]; exact setP hP (wM_set32 _ _ _ _ _ _ _)
    have hD : va_D A (wM a cy I_8 J_9 S_4 L_5) := by rw [eJ_9]; exact setD hD (wM_set32 _ _ _ _ _ _ _)
    refine lv_aload_n hx hb dX8_begins_109 rfl (lv_at hl 0 rfl) ?_
    refine va_get (D := (dC, dI)) (ci := 8) (v := .ref (a 31)) (C := RX8) (T := TX8) (N := 47) hx hb hts nX8_begins_X8 hown hK hP 0 (wM_at0 _ _ _ _ _ _) rfl 32 (by decide) (hts (.fieldLink RX8 102 "SongOfficeModel" "lineTold" "[I") kX8_begins_11) (fun _ h9 => h9) rfl dX8_begins_110 ?_
    refine lv_aload_n hx hb dX8_begins_113 rfl (lv_at hl 0 rfl) ?_
    refine va_get (D := (dC, dI)) (ci := 8) (v := .int (S_4 2)) (C := RX8) (T := TX8) (N := 47) hx hb hts nX8_begins_X8 hown hK hP 0 (wM_at0 _ _ _ _ _ _) rfl 34 (by decide) (hts (.fieldLink RX8 181 "SongOfficeModel" "deep" "I") kX8_begins_8) (fun _ h9 => h9) rfl dX8_begins_114 ?_
    refine lv_iload hx hb dX8_begins_117 (lv_at hl 4 rfl) ?_
    obtain ⟨hi, h⟩ := h
    obtain ⟨I_10, eI_10⟩ : ∃ z : TI, z = va_up I_8 31 (upd (I_8 31) ((S_4 2)).toNatClampNeg x_6) := ⟨_, rfl⟩
    have h := h I_10 eI_10
    refine va_iast hx hb hK hP hD hS 31 30 (wM_at31 _ _ _ _ _ _) rfl hi dX8_begins_119 (fun H locs hP hD hS => ?_)
    have hP : va_P (dC, dI) vwCl (wM a cy I_10 J_9 S_4 L_5) H := by rw [eI_10]; exact setP hP (wM_set31 _ _ _ _ _ _ _)
    have hD : va_D A (wM a cy I_10 J_9 S_4 L_5) := by rw [eI_10]; exact setD hD (wM_set31 _ _ _ _ _ _ _)
    refine lv_aload_n hx hb dX8_begins_120 rfl (lv_at hl 0 rfl) ?_
    refine lv_aload_n hx hb dX8_begins_121 rfl (lv_at hl 0 rfl) ?_
    refine va_get (D := (dC, dI)) (ci := 8) (v := .int (S_4 2)) (C := RX8) (T := TX8) (N := 47) hx hb hts nX8_begins_X8 hown hK hP 0 (wM_at0 _ _ _ _ _ _) rfl 34 (by decide) (hts (.fieldLink RX8 181 "SongOfficeModel" "deep" "I") kX8_begins_8) (fun _ h9 => h9) rfl dX8_begins_122 ?_
    refine lv_iconst (v := 1) hx hb dX8_begins_125 (by decide) ?_
    refine lv_iadd hx hb dX8_begins_126 ?_
    obtain ⟨S_11, eS_11⟩ : ∃ z : TS, z = va_up S_4 2 ((S_4 2) + (1 : Int32)) := ⟨_, rfl⟩
    have h := h S_11 eS_11
    refine va_put (D := (dC, dI)) (ci := 8) (v := .int ((S_4 2) + (1 : Int32))) (ty := .int) (C := RX8) (T := TX8) (N := 47) hx hb hts nX8_begins_X8 tyX8 tyX8_ok nmX8 hown hK hP hD hS 0 (wM_at0 _ _ _ _ _ _) rfl 34 (by decide) (hts (.fieldLink RX8 181 "SongOfficeModel" "deep" "I") kX8_begins_8) (fun _ h9 => h9) rfl (by decide +kernel) rfl rfl (Nat.le_of_ble_eq_true rfl) dX8_begins_127 (fun H locs hP hD hS => ?_)
    have hP : va_P (dC, dI) vwCl (wM a cy I_10 J_9 S_11 L_5) H := by rw [eS_11]; exact setP hP (wM_setS2 _ _ _ _ _ _ _)
    have hD : va_D A (wM a cy I_10 J_9 S_11 L_5) := by rw [eS_11]; exact setD hD (wM_setS2 _ _ _ _ _ _ _)
    exact grv hx hb hr hlocks hP hK hD hS h dX8_begins_130
  refine lv_if_ne (tgt := 75) hx hb dX8_begins_4 (by decide) (fun hc => ?_) (fun hc => ?_)
  · have h := h.1 hc
    exact jB_1 I J S L (-1 : Int32) _ _ _ hP hD hS (lv_sub hl [1, 4, 5, 6, 0] rfl) h
  · have h := h.2 hc
    refine lv_aload_n hx hb dX8_begins_7 rfl (lv_at hl 1 rfl) ?_
    refine va_get (D := (dC, dI)) (ci := 8) (v := .int (S 3)) (C := RX8) (T := TX8) (N := 47) hx hb hts nX8_begins_X8 hown hK hP 0 (wM_at0 _ _ _ _ _ _) rfl 35 (by decide) (hts (.fieldLink RX8 178 "SongOfficeModel" "lines" "I") kX8_begins_1) (fun _ h9 => h9) rfl dX8_begins_8 ?_
    refine lv_sipush (v := 600) hx hb dX8_begins_11 (by decide) ?_
    obtain ⟨B_12, hB_12, h⟩ := h
    have jB_12 : ∀ (I_13 : TI) (J_14 : TJ) (S_15 : TS) (L_16 : TL) (x_17 : Int32) (H : Heap) (locs : List Loc) (ls : Array Slot), va_P (dC, dI) vwCl (wM a cy I_13 J_14 S_15 L_16) H → va_D A (wM a cy I_13 J_14 S_15 L_16) → va_S A s.heap H locs → lv_has ls 8 [(0, .ref (a 0)), (3, .int p2), (4, .int p3), (5, .long p4), (7, .int x_17)] → B_12 I_13 J_14 S_15 L_16 x_17 → W p l e (headSpec wsX8_begins rmX8_begins).room s m args below meth c H locs 0 0 (MQ below (gQv dC dI (wM a cy) (tyM cy) A Φ) args s 0 0 A) (F0 m 65 ls []) := by
      intro I_13 J_14 S_15 L_16 x_17 H locs ls hP hD hS hl h
      have h := hB_12 I_13 J_14 S_15 L_16 x_17 h
      refine lv_aload_n hx hb dX8_begins_65 rfl (lv_at hl 0 rfl) ?_
      refine lv_aload_n hx hb dX8_begins_66 rfl (lv_at hl 0 rfl) ?_
      refine va_get (D := (dC, dI)) (ci := 8) (v := .int (S_15 3)) (C := RX8) (T := TX8) (N := 47) hx hb hts nX8_begins_X8 hown hK hP 0 (wM_at0 _ _ _ _ _ _) rfl 35 (by decide) (hts (.fieldLink RX8 178 "SongOfficeModel" "lines" "I") kX8_begins_1) (fun _ h9 => h9) rfl dX8_begins_67 ?_
      refine lv_iconst (v := 1) hx hb dX8_begins_70 (by decide) ?_
      refine lv_iadd hx hb dX8_begins_71 ?_
      obtain ⟨S_18, eS_18⟩ : ∃ z : TS, z = va_up S_15 3 ((S_15 3) + (1 : Int32)) := ⟨_, rfl⟩
      have h := h S_18 eS_18
      refine va_put (D := (dC, dI)) (ci := 8) (v := .int ((S_15 3) + (1 : Int32))) (ty := .int) (C := RX8) (T := TX8) (N := 47) hx hb hts nX8_begins_X8 tyX8 tyX8_ok nmX8 hown hK hP hD hS 0 (wM_at0 _ _ _ _ _ _) rfl 35 (by decide) (hts (.fieldLink RX8 178 "SongOfficeModel" "lines" "I") kX8_begins_1) (fun _ h9 => h9) rfl (by decide +kernel) rfl rfl (Nat.le_of_ble_eq_true rfl) dX8_begins_72 (fun H locs hP hD hS => ?_)
      have hP : va_P (dC, dI) vwCl (wM a cy I_13 J_14 S_18 L_16) H := by rw [eS_18]; exact setP hP (wM_setS3 _ _ _ _ _ _ _)
      have hD : va_D A (wM a cy I_13 J_14 S_18 L_16) := by rw [eS_18]; exact setD hD (wM_setS3 _ _ _ _ _ _ _)
      exact jB_1 I_13 J_14 S_18 L_16 x_17 _ _ _ hP hD hS (lv_sub hl [0, 1, 2, 3, 4] rfl) h
    refine lv_icmp_ge (tgt := 65) hx hb dX8_begins_14 (by decide) (fun hc => ?_) (fun hc => ?_)
    · have h := h.1 hc
      exact jB_12 I J S L (-1 : Int32) _ _ _ hP hD hS (lv_sub hl [1, 4, 5, 6, 0] rfl) h
    · have h := h.2 hc
      refine lv_aload_n hx hb dX8_begins_17 rfl (lv_at hl 1 rfl) ?_
      refine va_get (D := (dC, dI)) (ci := 8) (v := .int (S 3)) (C := RX8) (T := TX8) (N := 47) hx hb hts nX8_begins_X8 hown hK hP 0 (wM_at0 _ _ _ _ _ _) rfl 35 (by decide) (hts (.fieldLink RX8 178 "SongOfficeModel" "lines" "I") kX8_begins_1) (fun _ h9 => h9) rfl dX8_begins_18 ?_
      refine lv_topi (fun x_19 ex_19 => ?_)
      have h := h x_19 ex_19
      refine lv_istore (lv' := [(7, .int x_19), (0, .ref (a 0)), (1, .int p0), (2, .int p1), (3, .int p2), (4, .int p3), (5, .long p4)]) hx hb dX8_begins_21 hl (by decide) rfl (fun ls hl => ?_)
      refine lv_aload_n hx hb dX8_begins_23 rfl (lv_at hl 1 rfl) ?_
      refine va_get (D := (dC, dI)) (ci := 8) (v := .ref (a 33)) (C := RX8) (T := TX8) (N := 47) hx hb hts nX8_begins_X8 hown hK hP 0 (wM_at0 _ _ _ _ _ _) rfl 36 (by decide) (hts (.fieldLink RX8 108 "SongOfficeModel" "toldWork" "[I") kX8_begins_2) (fun _ h9 => h9) rfl dX8_begins_24 ?_
      refine lv_iload hx hb dX8_begins_27 (lv_at hl 0 rfl) ?_
      refine lv_iload_n hx hb dX8_begins_29 rfl (lv_at hl 3 rfl) ?_
      obtain ⟨hi, h⟩ := h
      obtain ⟨I_20, eI_20⟩ : ∃ z : TI, z = va_up I 33 (upd (I 33) (x_19).toNatClampNeg p1) := ⟨_, rfl⟩
      have h := h I_20 eI_20
      refine va_iast hx hb hK hP hD hS 33 32 (wM_at33 _ _ _ _ _ _) rfl hi dX8_begins_30 (fun H locs hP hD hS => ?_)
      have hP : va_P (dC, dI) vwCl (wM a cy I_20 J S L) H := by rw [eI_20]; exact setP hP (wM_set33 _ _ _ _ _ _ _)
      have hD : va_D A (wM a cy I_20 J S L) := by rw [eI_20]; exact setD hD (wM_set33 _ _ _ _ _ _ _)
      refine lv_aload_n hx hb dX8_begins_31 rfl (lv_at hl 1 rfl) ?_
      refine va_get (D := (dC, dI)) (ci := 8) (v := .ref (a 34)) (C := RX8) (T := TX8) (N := 47) hx hb hts nX8_begins_X8 hown hK hP 0 (wM_at0 _ _ _ _ _ _) rfl 37 (by decide) (hts (.fieldLink RX8 111 "SongOfficeModel" "toldHand" "[I") kX8_begins_3) (fun _ h9 => h9) rfl dX8_begins_32 ?_
      refine lv_iload hx hb dX8_begins_35 (lv_at hl 0 rfl) ?_
      refine lv_iload_n hx hb dX8_begins_37 rfl (lv_at hl 4 rfl) ?_
      obtain ⟨hi, h⟩ := h
      obtain ⟨I_21, eI_21⟩ : ∃ z : TI, z = va_up I_20 34 (upd (I_20 34) (x_19).toNatClampNeg p2) := ⟨_, rfl⟩
      have h := h I_21 eI_21
      refine va_iast hx hb hK hP hD hS 34 33 (wM_at34 _ _ _ _ _ _) rfl hi dX8_begins_38 (fun H locs hP hD hS => ?_)
      have hP : va_P (dC, dI) vwCl (wM a cy I_21 J S L) H := by rw [eI_21]; exact setP hP (wM_set34 _ _ _ _ _ _ _)
      have hD : va_D A (wM a cy I_21 J S L) := by rw [eI_21]; exact setD hD (wM_set34 _ _ _ _ _ _ _)
      refine lv_aload_n hx hb dX8_begins_39 rfl (lv_at hl 1 rfl) ?_
      refine va_get (D := (dC, dI)) (ci := 8) (v := .ref (a 35)) (C := RX8) (T := TX8) (N := 47) hx hb hts nX8_begins_X8 hown hK hP 0 (wM_at0 _ _ _ _ _ _) rfl 38 (by decide) (hts (.fieldLink RX8 114 "SongOfficeModel" "toldFrom" "[I") kX8_begins_4) (fun _ h9 => h9) rfl dX8_begins_40 ?_
      refine lv_iload hx hb dX8_begins_43 (lv_at hl 0 rfl) ?_
      refine lv_iload hx hb dX8_begins_45 (lv_at hl 5 rfl) ?_
      obtain ⟨hi, h⟩ := h
      obtain ⟨I_22, eI_22⟩ : ∃ z : TI, z = va_up I_21 35 (upd (I_21 35) (x_19).toNatClampNeg p3) := ⟨_, rfl⟩
      have h := h I_22 eI_22
      refine va_iast hx hb hK hP hD hS 35 34 (wM_at35 _ _ _ _ _ _) rfl hi dX8_begins_47 (fun H locs hP hD hS => ?_)
      have hP : va_P (dC, dI) vwCl (wM a cy I_22 J S L) H := by rw [eI_22]; exact setP hP (wM_set35 _ _ _ _ _ _ _)
      have hD : va_D A (wM a cy I_22 J S L) := by rw [eI_22]; exact setD hD (wM_set35 _ _ _ _ _ _ _)
      refine lv_aload_n hx hb dX8_begins_48 rfl (lv_at hl 1 rfl) ?_
      refine va_get (D := (dC, dI)) (ci := 8) (v := .ref (a 36)) (C := RX8) (T := TX8) (N := 47) hx hb hts nX8_begins_X8 hown hK hP 0 (wM_at0 _ _ _ _ _ _) rfl 39 (by decide) (hts (.fieldLink RX8 117 "SongOfficeModel" "toldMites" "[J") kX8_begins_5) (fun _ h9 => h9) rfl dX8_begins_49 ?_
      refine lv_iload hx hb dX8_begins_52 (lv_at hl 0 rfl) ?_
      refine lv_lload hx hb dX8_begins_54 (lv_at hl 6 rfl) ?_
      obtain ⟨hi, h⟩ := h
      obtain ⟨J_23, eJ_23⟩ : ∃ z : TJ, z = va_up J 36 (vp_updL (J 36) (x_19).toNatClampNeg p4) := ⟨_, rfl⟩
      have h := h J_23 eJ_23
      refine va_last hx hb hK hP hD hS 36 35 (wM_at36 _ _ _ _ _ _) rfl hi dX8_begins_56 (fun H locs hP hD hS => ?_)
      have hP : va_P (dC, dI) vwCl (wM a cy I_22 J_23 S L) H := by rw [eJ_23]; exact setP hP (wM_set36 _ _ _ _ _ _ _)
      have hD : va_D A (wM a cy I_22 J_23 S L) := by rw [eJ_23]; exact setD hD (wM_set36 _ _ _ _ _ _ _)
      refine lv_aload_n hx hb dX8_begins_57 rfl (lv_at hl 1 rfl) ?_
      refine va_get (D := (dC, dI)) (ci := 8) (v := .ref (a 37)) (C := RX8) (T := TX8) (N := 47) hx hb hts nX8_begins_X8 hown hK hP 0 (wM_at0 _ _ _ _ _ _) rfl 40 (by decide) (hts (.fieldLink RX8 120 "SongOfficeModel" "toldPurse" "[J") kX8_begins_6) (fun _ h9 => h9) rfl dX8_begins_58 ?_
      refine lv_iload hx hb dX8_begins_61 (lv_at hl 0 rfl) ?_
      refine lv_lconst (v := 0) hx hb dX8_begins_63 (by decide) ?_
      obtain ⟨hi, h⟩ := h
      obtain ⟨J_24, eJ_24⟩ : ∃ z : TJ, z = va_up J_23 37 (vp_updL (J_23 37) (x_19).toNatClampNeg (0 : Int64)) := ⟨_, rfl⟩
      have h := h J_24 eJ_24
      refine va_last hx hb hK hP hD hS 37 36 (wM_at37 _ _ _ _ _ _) rfl hi dX8_begins_64 (fun H locs hP hD hS => ?_)
      have hP : va_P (dC, dI) vwCl (wM a cy I_22 J_24 S L) H := by rw [eJ_24]; exact setP hP (wM_set37 _ _ _ _ _ _ _)
      have hD : va_D A (wM a cy I_22 J_24 S L) := by rw [eJ_24]; exact setD hD (wM_set37 _ _ _ _ _ _ _)
      exact jB_12 I_22 J_24 S L x_19 _ _ _ hP hD hS (lv_sub hl [1, 4, 5, 6, 0] rfl) h
def wp_X8_meets (I : TI) (J : TJ) (S : TS) (L : TL) (p0 : Int32) (p1 : Int32) (p2 : Int32) (p3 : Int32) (p4 : Int32) (Φ : TI → TJ → TS → TL → Prop) : Prop := ∀ x_1 : Int32, x_1 = (((24 : Int32) * p0) + p3) → ((vp_in p4 3) ∧ (∀ y_2 : Int64, y_2 = (J 32 (p4).toNatClampNeg) → ((vp_in p3 24) ∧ (∃ B_3 : TI → TJ → TS → TL → Int32 → Int64 → Int64 → Prop, (∀ (I_4 : TI) (J_5 : TJ) (S_6 : TS) (L_7 : TL) (x_8 : Int32) (y_9 : Int64) (y_10 : Int64), B_3 I_4 J_5 S_6 L_7 x_8 y_9 y_10 → ((vp_in x_8 48) ∧ ((vp_in x_8 48) ∧ ∀ J_11 : TJ, J_11 = va_up J_5 24 (vp_updL (J_5 24) (x_8).toNatClampNeg ((J_5 24 (x_8).toNatClampNeg) + y_9)) → ((vp_in x_8 48) ∧ ((vp_in x_8 48) ∧ ∀ J_12 : TJ, J_12 = va_up J_11 23 (vp_updL (J_11 23) (x_8).toNatClampNeg ((J_11 23 (x_8).toNatClampNeg) + y_10)) → ((vp_in p4 3) ∧ ∀ J_13 : TJ, J_13 = va_up J_12 32 (vp_updL (J_12 32) (p4).toNatClampNeg (y_9 - y_10)) → ((vp_in p3 24) ∧ (∃ B_14 : TI → TJ → TS → TL → Prop, (∀ (I_15 : TI) (J_16 : TJ) (S_17 : TS) (L_18 : TL), B_14 I_15 J_16 S_17 L_18 → (Φ I_15 J_16 S_17 L_18)) ∧ (∃ B_19 : TI → TJ → TS → TL → Int64 → Prop, (∀ (I_20 : TI) (J_21 : TJ) (S_22 : TS) (L_23 : TL) (y_24 : Int64), B_19 I_20 J_21 S_22 L_23 y_24 → ((((lg_cmp y_24 (0 : Int64)) ≤ 0) → (B_14 I_20 J_21 S_22 L_23)) ∧ ((¬ (lg_cmp y_24 (0 : Int64)) ≤ 0) → ((vp_in p3 24) ∧ (wp_X8_begins I_20 J_21 S_22 L_23 p0 p2 (I_20 12 (p3).toNatClampNeg) p3 y_24 (fun (I_25 : TI) (J_26 : TJ) (S_27 : TS) (L_28 : TL) => (B_14 I_25 J_26 S_27 L_28))))))) ∧ ((((I_4 5 (p3).toNatClampNeg) = 0) → (B_19 I_4 J_13 S_6 L_7 y_10)) ∧ ((¬ (I_4 5 (p3).toNatClampNeg) = 0) → ((vp_in p3 24) ∧ (((¬ (I_4 5 (p3).toNatClampNeg) = (3 : Int32)) → (B_14 I_4 J_13 S_6 L_7)) ∧ (((I_4 5 (p3).toNatClampNeg) = (3 : Int32)) → (B_19 I_4 J_13 S_6 L_7 y_10))))))))))))))) ∧ ((((I 5 (p3).toNatClampNeg) = nI 0) → (((¬ p4 = (2 : Int32)) → ((vp_in p3 24) ∧ (∀ y_29 : Int64, y_29 = ((y_2 * (((I 9 (p3).toNatClampNeg)).toInt64)) / (1000 : Int64)) → (B_3 I J S L x_1 y_2 y_29)))) ∧ ((p4 = (2 : Int32)) → (Φ I J S L)))) ∧ (((I 5 (p3).toNatClampNeg) = nI 1) → ((vp_in p3 24) ∧ ((vp_in x_1 48) ∧ (∀ y_30 : Int64, y_30 = (((((I 9 (p3).toNatClampNeg)).toInt64) * (1000000 : Int64)) - (J 23 (x_1).toNatClampNeg)) → (∃ B_31 : TI → TJ → TS → TL → Int32 → Int64 → Int64 → Prop, (∀ (I_32 : TI) (J_33 : TJ) (S_34 : TS) (L_35 : TL) (x_36 : Int32) (y_37 : Int64) (s_38 : Int64), B_31 I_32 J_33 S_34 L_35 x_36 y_37 s_38 → (B_3 I_32 J_33 S_34 L_35 x_36 y_37 s_38)) ∧ (((0 ≤ (lg_cmp y_2 y_30)) → (B_31 I J S L x_1 y_2 y_30)) ∧ ((¬ 0 ≤ (lg_cmp y_2 y_30)) → (B_31 I J S L x_1 y_2 y_2)))))))) ∧ (((I 5 (p3).toNatClampNeg) = nI 2) → (Φ I J S L)) ∧ (((I 5 (p3).toNatClampNeg) = nI 3) → (((¬ p4 = (2 : Int32)) → ((vp_in p3 24) ∧ ((vp_in x_1 48) ∧ (∀ y_39 : Int64, y_39 = (((((I 10 (p3).toNatClampNeg)).toInt64) * (1000000 : Int64)) - (J 24 (x_1).toNatClampNeg)) → (∃ B_40 : TI → TJ → TS → TL → Int32 → Int64 → Int64 → Prop, (∀ (I_41 : TI) (J_42 : TJ) (S_43 : TS) (L_44 : TL) (x_45 : Int32) (y_46 : Int64) (y_47 : Int64), B_40 I_41 J_42 S_43 L_44 x_45 y_46 y_47 → (∃ B_48 : TI → TJ → TS → TL → Int32 → Int64 → Int64 → Prop, (∀ (I_49 : TI) (J_50 : TJ) (S_51 : TS) (L_52 : TL) (x_53 : Int32) (y_54 : Int64) (y_55 : Int64), B_48 I_49 J_50 S_51 L_52 x_53 y_54 y_55 → ((vp_in p3 24) ∧ ((vp_in p3 24) ∧ (∀ y_56 : Int64, y_56 = (((y_55 * (((I_49 9 (p3).toNatClampNeg)).toInt64)) / (1000 : Int64)) + (((y_54 - y_55) * (((I_49 11 (p3).toNatClampNeg)).toInt64)) / (1000 : Int64))) → (B_3 I_49 J_50 S_51 L_52 x_53 y_54 y_56))))) ∧ ((((lg_cmp y_47 y_46) ≤ 0) → (B_48 I_41 J_42 S_43 L_44 x_45 y_46 y_47)) ∧ ((¬ (lg_cmp y_47 y_46) ≤ 0) → (B_48 I_41 J_42 S_43 L_44 x_45 y_46 y_46))))) ∧ (((0 ≤ (lg_cmp y_39 (0 : Int64))) → (B_40 I J S L x_1 y_2 y_39)) ∧ ((¬ 0 ≤ (lg_cmp y_39 (0 : Int64))) → (B_40 I J S L x_1 y_2 (0 : Int64))))))))) ∧ ((p4 = (2 : Int32)) → (Φ I J S L)))) ∧ (((I 5 (p3).toNatClampNeg) = nI 4) → ((vp_in p3 24) ∧ (∀ y_57 : Int64, y_57 = ((y_2 * (((I 9 (p3).toNatClampNeg)).toInt64)) / (1000 : Int64)) → (wp_X8_bag I J S L p0 p3 p1 (fun (r_62 : Int32) (I_58 : TI) (J_59 : TJ) (S_60 : TS) (L_61 : TL) => (wp_X8_bag I_58 J_59 S_60 L_61 p0 p3 p1 (fun (r_67 : Int32) (I_63 : TI) (J_64 : TJ) (S_65 : TS) (L_66 : TL) => ((vp_in r_67 1920) ∧ ((vp_in r_62 1920) ∧ ∀ J_68 : TJ, J_68 = va_up J_64 25 (vp_updL (J_64 25) (r_62).toNatClampNeg ((J_64 25 (r_67).toNatClampNeg) + y_57)) → (B_3 I_63 J_68 S_65 L_66 x_1 y_2 y_57)))))))))) ∧ ((∀ k, k < 5 → ¬ (I 5 (p3).toNatClampNeg) = nI k) → (Φ I J S L)))))))
theorem nX8_meets_X8 : ∀ w ∈ wsX80, w ∈ wsX8_meets := fun _ h => List.mem_cons_of_mem _ (List.mem_append_right _ h)
theorem kX8_meets_11 : Cond.fieldLink RX8 43 "SongOfficeModel" "taker" "[I" ∈ wsX8_meets := List.mem_of_getElem? (i := 11) rfl
theorem kX8_meets_2 : Cond.fieldLink RX8 22 "SongOfficeModel" "kind" "[I" ∈ wsX8_meets := List.mem_of_getElem? (i := 2) rfl
theorem kX8_meets_1 : Cond.fieldLink RX8 105 "SongOfficeModel" "lineLeft" "[J" ∈ wsX8_meets := List.mem_of_getElem? (i := 1) rfl
theorem kX8_meets_9 : Cond.fieldLink RX8 78 "SongOfficeModel" "kept" "[J" ∈ wsX8_meets := List.mem_of_getElem? (i := 9) rfl
theorem kX8_meets_7 : Cond.fieldLink RX8 81 "SongOfficeModel" "came" "[J" ∈ wsX8_meets := List.mem_of_getElem? (i := 7) rfl
theorem kX8_meets_4 : Cond.constantLong RX8 192 (1000) ∈ wsX8_meets := List.mem_of_getElem? (i := 4) rfl
theorem kX8_meets_3 : Cond.fieldLink RX8 34 "SongOfficeModel" "bx" "[I" ∈ wsX8_meets := List.mem_of_getElem? (i := 3) rfl
theorem kX8_meets_6 : Cond.constantLong RX8 194 (1000000) ∈ wsX8_meets := List.mem_of_getElem? (i := 6) rfl
theorem kX8_meets_8 : Cond.fieldLink RX8 40 "SongOfficeModel" "bz" "[I" ∈ wsX8_meets := List.mem_of_getElem? (i := 8) rfl
theorem kX8_meets_5 : Cond.fieldLink RX8 37 "SongOfficeModel" "by" "[I" ∈ wsX8_meets := List.mem_of_getElem? (i := 5) rfl
theorem kX8_meets_10 : Cond.fieldLink RX8 84 "SongOfficeModel" "bags" "[J" ∈ wsX8_meets := List.mem_of_getElem? (i := 10) rfl
abbrev rmX8_meets : Room := { frames := 1, cells := 0, slots := 0, locals := 27 }
set_option maxHeartbeats 4000000 in
set_option maxRecDepth 100000 in
theorem c_X8_meets (l : Launch) (dC : Nat → ClassId) (dI : Nat → Nat → Nat) (a : Nat → Nat) (cy : Nat → ClassId) (sz : Nat) (I : TI) (J : TJ) (S : TS) (L : TL) (p0 : Int32) (p1 : Int32) (p2 : Int32) (p3 : Int32) (p4 : Int32) (Φ : TI → TJ → TS → TL → Prop) (h : wp_X8_meets I J S L p0 p1 p2 p3 p4 Φ) : Met l yX8_meets wsX8_meets rmX8_meets (va_Pc [.ref (a 0), .int p0, .int p1, .int p2, .int p3, .int p4] (gpre dC dI (wM a cy I J S L) (tyM cy) sz)) (gQv dC dI (wM a cy) (tyM cy) (va_A (wM a cy I J S L) sz) Φ) 0 0 (va_A (wM a cy I J S L) sz) := by
  refine Met.ofW (cc := cX8_meets) (maxL := 13) (ret := none) (by decide) rfl ?_
  intro p e s m args below meth c s₁ B hml hv
  obtain ⟨hargs, hsz, hP, hK, hD0, hN⟩ := hv
  have hx := B.exec
  have hb := B.bytes
  have hr := B.returns
  have hts := atoms_spec (ws := wsX8_meets) B.pre
  have hown : s.vm.findClass RX8 = some m.cls := findClass_of_methodNamed B.named
  have hlocks := B.notSynchronized
  subst hsz
  have hD := hD0.self (sz := s.heap.size)
  generalize hAe : va_A (wM a cy I J S L) s.heap.size = A at hD ⊢
  have hA : ∀ q : Nat, s.heap.size ≤ q → A q := fun q h => by rw [← hAe]; exact Or.inr h
  obtain ⟨H, hH⟩ : ∃ z : Heap, z = s.heap := ⟨_, rfl⟩
  rw [← hH] at hP
  have hS : va_S A s.heap H [] := by rw [hH]; exact va_S.rf
  have hl := lv_entry ([.ref (a 0), .int p0, .int p1, .int p2, .int p3, .int p4]) (n := 13) (Nat.le_of_ble_eq_true rfl)
  have hE : entryFrame m args 13 = F0 m 0 ((lg_sl ([.ref (a 0), .int p0, .int p1, .int p2, .int p3, .int p4]) ++ List.replicate (13 - (lg_sl ([.ref (a 0), .int p0, .int p1, .int p2, .int p3, .int p4])).length) Slot.unset).toArray) [] := by rw [hargs]; exact lg_entry_eq m _ _
  rw [hE, ← hH]
  clear hE
  generalize (lg_sl ([.ref (a 0), .int p0, .int p1, .int p2, .int p3, .int p4]) ++ List.replicate (13 - (lg_sl ([.ref (a 0), .int p0, .int p1, .int p2, .int p3, .int p4])).length) Slot.unset).toArray = ls at hl ⊢
  have hl : lv_has ls 13 [(0, .ref (a 0)), (1, .int p0), (2, .int p1), (3, .int p2), (4, .int p3), (5, .int p4)] := hl
  unfold wp_X8_meets at h
  refine lv_bipush (v := 24) hx hb dX8_meets_0 (by decide) ?_
  refine lv_iload_n hx hb dX8_meets_2 rfl (lv_at hl 1 rfl) ?_
  refine lv_imul hx hb dX8_meets_3 ?_
  refine lv_iload hx hb dX8_meets_4 (lv_at hl 4 rfl) ?_
  refine lv_iadd hx hb dX8_meets_6 ?_
  refine lv_topi (fun x_1 ex_1 => ?_)
  have h := h x_1 ex_1
  refine lv_istore (lv' := [(6, .int x_1), (0, .ref (a 0)), (1, .int p0), (2, .int p1), (3, .int p2), (4, .int p3), (5, .int p4)]) hx hb dX8_meets_7 hl (by decide) rfl (fun ls hl => ?_)
  refine lv_aload_n hx hb dX8_meets_9 rfl (lv_at hl 1 rfl) ?_
  refine va_get (D := (dC, dI)) (ci := 8) (v := .ref (a 32)) (C := RX8) (T := TX8) (N := 47) hx hb hts nX8_meets_X8 hown hK hP 0 (wM_at0 _ _ _ _ _ _) rfl 33 (by decide) (hts (.fieldLink RX8 105 "SongOfficeModel" "lineLeft" "[J") kX8_meets_1) (fun _ h9 => h9) rfl dX8_meets_10 ?_
  refine lv_iload hx hb dX8_meets_13 (lv_at hl 6 rfl) ?_
  obtain ⟨hi, h⟩ := h
  refine va_lald hx hb hK hP 32 31 (wM_at32 _ _ _ _ _ _) rfl hi dX8_meets_15 ?_
  refine lv_topl (fun y_2 ey_2 => ?_)
  have h := h y_2 ey_2
  refine lv_lstore (lv' := [(7, .long y_2), (6, .int x_1), (0, .ref (a 0)), (1, .int p0), (2, .int p1), (3, .int p2), (4, .int p3), (5, .int p4)]) hx hb dX8_meets_16 hl (by decide) rfl (fun ls hl => ?_)
  refine lv_lconst (v := 0) hx hb dX8_meets_18 (by decide) ?_
  refine lv_lstore (lv' := [(9, .long (0 : Int64)), (7, .long y_2), (6, .int x_1), (0, .ref (a 0)), (1, .int p0), (2, .int p1), (3, .int p2), (4, .int p3), (5, .int p4)]) hx hb dX8_meets_19 hl (by decide) rfl (fun ls hl => ?_)
  refine lv_aload_n hx hb dX8_meets_21 rfl (lv_at hl 3 rfl) ?_
  refine va_get (D := (dC, dI)) (ci := 8) (v := .ref (a 5)) (C := RX8) (T := TX8) (N := 47) hx hb hts nX8_meets_X8 hown hK hP 0 (wM_at0 _ _ _ _ _ _) rfl 6 (by decide) (hts (.fieldLink RX8 22 "SongOfficeModel" "kind" "[I") kX8_meets_2) (fun _ h9 => h9) rfl dX8_meets_22 ?_
  refine lv_iload hx hb dX8_meets_25 (lv_at hl 7 rfl) ?_
  obtain ⟨hi, h⟩ := h
  refine va_iald hx hb hK hP 5 4 (wM_at5 _ _ _ _ _ _) rfl hi dX8_meets_27 ?_
  obtain ⟨B_3, hB_3, h⟩ := h
  have jB_3 : ∀ (I_4 : TI) (J_5 : TJ) (S_6 : TS) (L_7 : TL) (x_8 : Int32) (y_9 : Int64) (y_10 : Int64) (H : Heap) (locs : List Loc) (ls : Array Slot), va_P (dC, dI) vwCl (wM a cy I_4 J_5 S_6 L_7) H → va_D A (wM a cy I_4 J_5 S_6 L_7) → va_S A s.heap H locs → lv_has ls 13 [(0, .ref (a 0)), (1, .int p0), (3, .int p2), (4, .int p3), (5, .int p4), (6, .int x_8), (7, .long y_9), (9, .long y_10)] → B_3 I_4 J_5 S_6 L_7 x_8 y_9 y_10 → W p l e (headSpec wsX8_meets rmX8_meets).room s m args below meth c H locs 0 0 (MQ below (gQv dC dI (wM a cy) (tyM cy) A Φ) args s 0 0 A) (F0 m 271 ls []) := by
    intro I_4 J_5 S_6 L_7 x_8 y_9 y_10 H locs ls hP hD hS hl h
    have h := hB_3 I_4 J_5 S_6 L_7 x_8 y_9 y_10 h
    refine lv_aload_n hx hb dX8_meets_271 rfl (lv_at hl 0 rfl) ?_
    refine va_get (D := (dC, dI)) (ci := 8) (v := .ref (a 24)) (C := RX8) (T := TX8) (N := 47) hx hb hts nX8_meets_X8 hown hK hP 0 (wM_at0 _ _ _ _ _ _) rfl 25 (by decide) (hts (.fieldLink RX8 81 "SongOfficeModel" "came" "[J") kX8_meets_7) (fun _ h9 => h9) rfl dX8_meets_272 ?_
    refine lv_iload hx hb dX8_meets_275 (lv_at hl 5 rfl) ?_
    refine lv_aload_n hx hb dX8_meets_277 rfl (lv_at hl 0 rfl) ?_
    refine va_get (D := (dC, dI)) (ci := 8) (v := .ref (a 24)) (C := RX8) (T := TX8) (N := 47) hx hb hts nX8_meets_X8 hown hK hP 0 (wM_at0 _ _ _ _ _ _) rfl 25 (by decide) (hts (.fieldLink RX8 81 "SongOfficeModel" "came" "[J") kX8_meets_7) (fun _ h9 => h9) rfl dX8_meets_278 ?_
    refine lv_iload hx hb dX8_meets_281 (lv_at hl 5 rfl) ?_
    obtain ⟨hi, h⟩ := h
    refine va_lald hx hb hK hP 24 23 (wM_at24 _ _ _ _ _ _) rfl hi dX8_meets_283 ?_
    refine lv_lload hx hb dX8_meets_284 (lv_at hl 6 rfl) ?_
    refine lv_ladd hx hb dX8_meets_286 ?_
    obtain ⟨hi, h⟩ := h
    obtain ⟨J_11, eJ_11⟩ : ∃ z : TJ, z = va_up J_5 24 (vp_updL (J_5 24) (x_8).toNatClampNeg ((J_5 24 (x_8).toNatClampNeg) + y_9)) := ⟨_, rfl⟩
    have h := h J_11 eJ_11
    refine va_last hx hb hK hP hD hS 24 23 (wM_at24 _ _ _ _ _ _) rfl hi dX8_meets_287 (fun H locs hP hD hS => ?_)
    have hP : va_P (dC, dI) vwCl (wM a cy I_4 J_11 S_6 L_7) H := by rw [eJ_11]; exact setP hP (wM_set24 _ _ _ _ _ _ _)
    have hD : va_D A (wM a cy I_4 J_11 S_6 L_7) := by rw [eJ_11]; exact setD hD (wM_set24 _ _ _ _ _ _ _)
    refine lv_aload_n hx hb dX8_meets_288 rfl (lv_at hl 0 rfl) ?_
    refine va_get (D := (dC, dI)) (ci := 8) (v := .ref (a 23)) (C := RX8) (T := TX8) (N := 47) hx hb hts nX8_meets_X8 hown hK hP 0 (wM_at0 _ _ _ _ _ _) rfl 24 (by decide) (hts (.fieldLink RX8 78 "SongOfficeModel" "kept" "[J") kX8_meets_9) (fun _ h9 => h9) rfl dX8_meets_289 ?_
    refine lv_iload hx hb dX8_meets_292 (lv_at hl 5 rfl) ?_
    refine lv_aload_n hx hb dX8_meets_294 rfl (lv_at hl 0 rfl) ?_
    refine va_get (D := (dC, dI)) (ci := 8) (v := .ref (a 23)) (C := RX8) (T := TX8) (N := 47) hx hb hts nX8_meets_X8 hown hK hP 0 (wM_at0 _ _ _ _ _ _) rfl 24 (by decide) (hts (.fieldLink RX8 78 "SongOfficeModel" "kept" "[J") kX8_meets_9) (fun _ h9 => h9) rfl dX8_meets_295 ?_
    refine lv_iload hx hb dX8_meets_298 (lv_at hl 5 rfl) ?_
    obtain ⟨hi, h⟩ := h
    refine va_lald hx hb hK hP 23 22 (wM_at23 _ _ _ _ _ _) rfl hi dX8_meets_300 ?_
    refine lv_lload hx hb dX8_meets_301 (lv_at hl 7 rfl) ?_
    refine lv_ladd hx hb dX8_meets_303 ?_
    obtain ⟨hi, h⟩ := h
    obtain ⟨J_12, eJ_12⟩ : ∃ z : TJ, z = va_up J_11 23 (vp_updL (J_11 23) (x_8).toNatClampNeg ((J_11 23 (x_8).toNatClampNeg) + y_10)) := ⟨_, rfl⟩
    have h := h J_12 eJ_12
    refine va_last hx hb hK hP hD hS 23 22 (wM_at23 _ _ _ _ _ _) rfl hi dX8_meets_304 (fun H locs hP hD hS => ?_)
    have hP : va_P (dC, dI) vwCl (wM a cy I_4 J_12 S_6 L_7) H := by rw [eJ_12]; exact setP hP (wM_set23 _ _ _ _ _ _ _)
    have hD : va_D A (wM a cy I_4 J_12 S_6 L_7) := by rw [eJ_12]; exact setD hD (wM_set23 _ _ _ _ _ _ _)
    refine lv_aload_n hx hb dX8_meets_305 rfl (lv_at hl 0 rfl) ?_
    refine va_get (D := (dC, dI)) (ci := 8) (v := .ref (a 32)) (C := RX8) (T := TX8) (N := 47) hx hb hts nX8_meets_X8 hown hK hP 0 (wM_at0 _ _ _ _ _ _) rfl 33 (by decide) (hts (.fieldLink RX8 105 "SongOfficeModel" "lineLeft" "[J") kX8_meets_1) (fun _ h9 => h9) rfl dX8_meets_306 ?_
    refine lv_iload hx hb dX8_meets_309 (lv_at hl 4 rfl) ?_
    refine lv_lload hx hb dX8_meets_311 (lv_at hl 6 rfl) ?_
    refine lv_lload hx hb dX8_meets_313 (lv_at hl 7 rfl) ?_
    refine lv_lsub hx hb dX8_meets_315 ?_
    obtain ⟨hi, h⟩ := h
    obtain ⟨J_13, eJ_13⟩ : ∃ z : TJ, z = va_up J_12 32 (vp_updL (J_12 32) (p4).toNatClampNeg (y_9 - y_10)) := ⟨_, rfl⟩
    have h := h J_13 eJ_13
    refine va_last hx hb hK hP hD hS 32 31 (wM_at32 _ _ _ _ _ _) rfl hi dX8_meets_316 (fun H locs hP hD hS => ?_)
    have hP : va_P (dC, dI) vwCl (wM a cy I_4 J_13 S_6 L_7) H := by rw [eJ_13]; exact setP hP (wM_set32 _ _ _ _ _ _ _)
    have hD : va_D A (wM a cy I_4 J_13 S_6 L_7) := by rw [eJ_13]; exact setD hD (wM_set32 _ _ _ _ _ _ _)
    refine lv_aload_n hx hb dX8_meets_317 rfl (lv_at hl 0 rfl) ?_
    refine va_get (D := (dC, dI)) (ci := 8) (v := .ref (a 5)) (C := RX8) (T := TX8) (N := 47) hx hb hts nX8_meets_X8 hown hK hP 0 (wM_at0 _ _ _ _ _ _) rfl 6 (by decide) (hts (.fieldLink RX8 22 "SongOfficeModel" "kind" "[I") kX8_meets_2) (fun _ h9 => h9) rfl dX8_meets_318 ?_
    refine lv_iload hx hb dX8_meets_321 (lv_at hl 3 rfl) ?_
    obtain ⟨hi, h⟩ := h
    refine va_iald hx hb hK hP 5 4 (wM_at5 _ _ _ _ _ _) rfl hi dX8_meets_323 ?_
    obtain ⟨B_14, hB_14, h⟩ := h
    have jB_14 : ∀ (I_15 : TI) (J_16 : TJ) (S_17 : TS) (L_18 : TL) (H : Heap) (locs : List Loc) (ls : Array Slot), va_P (dC, dI) vwCl (wM a cy I_15 J_16 S_17 L_18) H → va_D A (wM a cy I_15 J_16 S_17 L_18) → va_S A s.heap H locs → lv_has ls 13 [] → B_14 I_15 J_16 S_17 L_18 → W p l e (headSpec wsX8_meets rmX8_meets).room s m args below meth c H locs 0 0 (MQ below (gQv dC dI (wM a cy) (tyM cy) A Φ) args s 0 0 A) (F0 m 362 ls []) := by
      intro I_15 J_16 S_17 L_18 H locs ls hP hD hS hl h
      have h := hB_14 I_15 J_16 S_17 L_18 h
      exact grv hx hb hr hlocks hP hK hD hS h dX8_meets_362
    obtain ⟨B_19, hB_19, h⟩ := h
    have jB_19 : ∀ (I_20 : TI) (J_21 : TJ) (S_22 : TS) (L_23 : TL) (y_24 : Int64) (H : Heap) (locs : List Loc) (ls : Array Slot), va_P (dC, dI) vwCl (wM a cy I_20 J_21 S_22 L_23) H → va_D A (wM a cy I_20 J_21 S_22 L_23) → va_S A s.heap H locs → lv_has ls 13 [(0, .ref (a 0)), (1, .int p0), (3, .int p2), (4, .int p3), (9, .long y_24)] → B_19 I_20 J_21 S_22 L_23 y_24 → W p l e (headSpec wsX8_meets rmX8_meets).room s m args below meth c H locs 0 0 (MQ below (gQv dC dI (wM a cy) (tyM cy) A Φ) args s 0 0 A) (F0 m 338 ls []) := by
      intro I_20 J_21 S_22 L_23 y_24 H locs ls hP hD hS hl h
      have h := hB_19 I_20 J_21 S_22 L_23 y_24 h
      refine lv_lload hx hb dX8_meets_338 (lv_at hl 4 rfl) ?_
      refine lv_lconst (v := 0) hx hb dX8_meets_340 (by decide) ?_
      refine W.lcmp hx hb dX8_meets_341 ?_
      refine lv_if_le (tgt := 362) hx hb dX8_meets_342 (by decide) (fun hc => ?_) (fun hc => ?_)
      · have h := h.1 hc
        exact jB_14 I_20 J_21 S_22 L_23 _ _ _ hP hD hS (lv_sub hl [] rfl) h
      · have h := h.2 hc
        refine lv_aload_n hx hb dX8_meets_345 rfl (lv_at hl 0 rfl) ?_
        refine lv_iload_n hx hb dX8_meets_346 rfl (lv_at hl 1 rfl) ?_
        refine lv_iload_n hx hb dX8_meets_347 rfl (lv_at hl 2 rfl) ?_
        refine lv_aload_n hx hb dX8_meets_348 rfl (lv_at hl 0 rfl) ?_
        refine va_get (D := (dC, dI)) (ci := 8) (v := .ref (a 12)) (C := RX8) (T := TX8) (N := 47) hx hb hts nX8_meets_X8 hown hK hP 0 (wM_at0 _ _ _ _ _ _) rfl 13 (by decide) (hts (.fieldLink RX8 43 "SongOfficeModel" "taker" "[I") kX8_meets_11) (fun _ h9 => h9) rfl dX8_meets_349 ?_
        refine lv_iload hx hb dX8_meets_352 (lv_at hl 3 rfl) ?_
        obtain ⟨hi, h⟩ := h
        refine va_iald hx hb hK hP 12 11 (wM_at12 _ _ _ _ _ _) rfl hi dX8_meets_354 ?_
        refine lv_iload hx hb dX8_meets_355 (lv_at hl 3 rfl) ?_
        refine lv_lload hx hb dX8_meets_357 (lv_at hl 4 rfl) ?_
        refine gcallv (va_runV (As := [.int p0, .int p2, .int (I_20 12 (p3).toNatClampNeg), .int p3, .long y_24]) (rest := []) ⟨hx, hb, hml, hown, hts⟩ (c_X8_begins l dC dI a cy H.size I_20 J_21 S_22 L_23 p0 p2 (I_20 12 (p3).toNatClampNeg) p3 y_24 _ h) (cwV 5 hts gX8_meets_X8_begins rfl rfl rfl (by decide +kernel) ⟨(Nat.le_of_ble_eq_true rfl), (Nat.le_of_ble_eq_true rfl)⟩) (g_pV hP hK hD hN (va_recv hK hP (ci := 8) (q0 := 0) rfl (wM_at0 _ _ _ _ _ _)) [.int p0, .int p2, .int (I_20 12 (p3).toNatClampNeg), .int p3, .long y_24]) rfl rfl hl.1 rfl (lv_room (Nat.le_of_ble_eq_true rfl)) dX8_meets_359 ⟨(Nat.le_of_ble_eq_true rfl), (Nat.le_of_ble_eq_true rfl)⟩) hS hA hD (fun I_25 J_26 S_27 L_28 H locs hP hD hS h => ?_)
        exact jB_14 I_25 J_26 S_27 L_28 _ _ _ hP hD hS (lv_sub hl [] rfl) h
    refine lv_if_eq (tgt := 338) hx hb dX8_meets_324 (by decide) (fun hc => ?_) (fun hc => ?_)
    · have h := h.1 hc
      exact jB_19 I_4 J_13 S_6 L_7 y_10 _ _ _ hP hD hS (lv_sub hl [0, 1, 2, 3, 7] rfl) h
    · have h := h.2 hc
      refine lv_aload_n hx hb dX8_meets_327 rfl (lv_at hl 0 rfl) ?_
      refine va_get (D := (dC, dI)) (ci := 8) (v := .ref (a 5)) (C := RX8) (T := TX8) (N := 47) hx hb hts nX8_meets_X8 hown hK hP 0 (wM_at0 _ _ _ _ _ _) rfl 6 (by decide) (hts (.fieldLink RX8 22 "SongOfficeModel" "kind" "[I") kX8_meets_2) (fun _ h9 => h9) rfl dX8_meets_328 ?_
      refine lv_iload hx hb dX8_meets_331 (lv_at hl 3 rfl) ?_
      obtain ⟨hi, h⟩ := h
      refine va_iald hx hb hK hP 5 4 (wM_at5 _ _ _ _ _ _) rfl hi dX8_meets_333 ?_
      refine lv_iconst (v := 3) hx hb dX8_meets_334 (by decide) ?_
      refine lv_icmp_ne (tgt := 362) hx hb dX8_meets_335 (by decide) (fun hc => ?_) (fun hc => ?_)
      · have h := h.1 hc
        exact jB_14 I_4 J_13 S_6 L_7 _ _ _ hP hD hS (lv_sub hl [] rfl) h
      · have h := h.2 hc
        exact jB_19 I_4 J_13 S_6 L_7 y_10 _ _ _ hP hD hS (lv_sub hl [0, 1, 2, 3, 7] rfl) h
  by_cases hc0 : (I 5 (p3).toNatClampNeg) = nI 0
  · have h := h.1 hc0
    refine lv_tableIn (off := 36) (tgt := 64) hx hb dX8_meets_28 (by rw [hc0]; decide) (by rw [hc0]; decide) (by rw [hc0]; decide) (by decide) ?_
    refine lv_iload hx hb dX8_meets_64 (lv_at hl 8 rfl) ?_
    refine lv_iconst (v := 2) hx hb dX8_meets_66 (by decide) ?_
    refine lv_icmp_ne (tgt := 71) hx hb dX8_meets_67 (by decide) (fun hc => ?_) (fun hc => ?_)
    · have h := h.1 hc
      refine lv_lload hx hb dX8_meets_71 (lv_at hl 1 rfl) ?_
      refine lv_aload_n hx hb dX8_meets_73 rfl (lv_at hl 3 rfl) ?_
      refine va_get (D := (dC, dI)) (ci := 8) (v := .ref (a 9)) (C := RX8) (T := TX8) (N := 47) hx hb hts nX8_meets_X8 hown hK hP 0 (wM_at0 _ _ _ _ _ _) rfl 10 (by decide) (hts (.fieldLink RX8 34 "SongOfficeModel" "bx" "[I") kX8_meets_3) (fun _ h9 => h9) rfl dX8_meets_74 ?_
      refine lv_iload hx hb dX8_meets_77 (lv_at hl 7 rfl) ?_
      obtain ⟨hi, h⟩ := h
      refine va_iald hx hb hK hP 9 8 (wM_at9 _ _ _ _ _ _) rfl hi dX8_meets_79 ?_
      refine lv_i2l (v := (((I 9 (p3).toNatClampNeg)).toInt64)) hx hb dX8_meets_80 rfl ?_
      refine lv_lmul hx hb dX8_meets_81 ?_
      refine lv_ldc2 (v := 1000) hx hb hown (hts (.constantLong RX8 192 (1000)) kX8_meets_4) dX8_meets_82 ?_
      refine lv_ldiv hx hb dX8_meets_85 (by decide) ?_
      refine lv_topl (fun y_29 ey_29 => ?_)
      have h := h y_29 ey_29
      refine lv_lstore (lv' := [(9, .long y_29), (7, .long y_2), (6, .int x_1), (0, .ref (a 0)), (1, .int p0), (2, .int p1), (3, .int p2), (4, .int p3), (5, .int p4)]) hx hb dX8_meets_86 hl (by decide) rfl (fun ls hl => ?_)
      refine lv_goto (tgt := 271) hx hb dX8_meets_88 (by decide) ?_
      exact jB_3 I J S L x_1 y_2 y_29 _ _ _ hP hD hS (lv_sub hl [3, 4, 6, 7, 8, 2, 1, 0] rfl) h
    · have h := h.2 hc
      exact grv hx hb hr hlocks hP hK hD hS h dX8_meets_70
  by_cases hc1 : (I 5 (p3).toNatClampNeg) = nI 1
  · have h := h.2.1 hc1
    refine lv_tableIn (off := 153) (tgt := 181) hx hb dX8_meets_28 (by rw [hc1]; decide) (by rw [hc1]; decide) (by rw [hc1]; decide) (by decide) ?_
    refine lv_aload_n hx hb dX8_meets_181 rfl (lv_at hl 3 rfl) ?_
    refine va_get (D := (dC, dI)) (ci := 8) (v := .ref (a 9)) (C := RX8) (T := TX8) (N := 47) hx hb hts nX8_meets_X8 hown hK hP 0 (wM_at0 _ _ _ _ _ _) rfl 10 (by decide) (hts (.fieldLink RX8 34 "SongOfficeModel" "bx" "[I") kX8_meets_3) (fun _ h9 => h9) rfl dX8_meets_182 ?_
    refine lv_iload hx hb dX8_meets_185 (lv_at hl 7 rfl) ?_
    obtain ⟨hi, h⟩ := h
    refine va_iald hx hb hK hP 9 8 (wM_at9 _ _ _ _ _ _) rfl hi dX8_meets_187 ?_
    refine lv_i2l (v := (((I 9 (p3).toNatClampNeg)).toInt64)) hx hb dX8_meets_188 rfl ?_
    refine lv_ldc2 (v := 1000000) hx hb hown (hts (.constantLong RX8 194 (1000000)) kX8_meets_6) dX8_meets_189 ?_
    refine lv_lmul hx hb dX8_meets_192 ?_
    refine lv_aload_n hx hb dX8_meets_193 rfl (lv_at hl 3 rfl) ?_
    refine va_get (D := (dC, dI)) (ci := 8) (v := .ref (a 23)) (C := RX8) (T := TX8) (N := 47) hx hb hts nX8_meets_X8 hown hK hP 0 (wM_at0 _ _ _ _ _ _) rfl 24 (by decide) (hts (.fieldLink RX8 78 "SongOfficeModel" "kept" "[J") kX8_meets_9) (fun _ h9 => h9) rfl dX8_meets_194 ?_
    refine lv_iload hx hb dX8_meets_197 (lv_at hl 2 rfl) ?_
    obtain ⟨hi, h⟩ := h
    refine va_lald hx hb hK hP 23 22 (wM_at23 _ _ _ _ _ _) rfl hi dX8_meets_199 ?_
    refine lv_lsub hx hb dX8_meets_200 ?_
    refine lv_topl (fun y_30 ey_30 => ?_)
    have h := h y_30 ey_30
    refine lv_lstore (lv' := [(11, .long y_30), (9, .long (0 : Int64)), (7, .long y_2), (6, .int x_1), (0, .ref (a 0)), (1, .int p0), (2, .int p1), (3, .int p2), (4, .int p3), (5, .int p4)]) hx hb dX8_meets_201 hl (by decide) rfl (fun ls hl => ?_)
    refine lv_lload hx hb dX8_meets_203 (lv_at hl 2 rfl) ?_
    refine lv_lload hx hb dX8_meets_205 (lv_at hl 0 rfl) ?_
    refine W.lcmp hx hb dX8_meets_207 ?_
    obtain ⟨B_31, hB_31, h⟩ := h
    have jB_31 : ∀ (I_32 : TI) (J_33 : TJ) (S_34 : TS) (L_35 : TL) (x_36 : Int32) (y_37 : Int64) (s_38 : Int64) (H : Heap) (locs : List Loc) (ls : Array Slot), va_P (dC, dI) vwCl (wM a cy I_32 J_33 S_34 L_35) H → va_D A (wM a cy I_32 J_33 S_34 L_35) → va_S A s.heap H locs → lv_has ls 13 [(0, .ref (a 0)), (1, .int p0), (3, .int p2), (4, .int p3), (5, .int p4), (6, .int x_36), (7, .long y_37)] → B_31 I_32 J_33 S_34 L_35 x_36 y_37 s_38 → W p l e (headSpec wsX8_meets rmX8_meets).room s m args below meth c H locs 0 0 (MQ below (gQv dC dI (wM a cy) (tyM cy) A Φ) args s 0 0 A) (F0 m 218 ls [.long s_38]) := by
      intro I_32 J_33 S_34 L_35 x_36 y_37 s_38 H locs ls hP hD hS hl h
      have h := hB_31 I_32 J_33 S_34 L_35 x_36 y_37 s_38 h
      refine lv_lstore (lv' := [(9, .long s_38), (0, .ref (a 0)), (1, .int p0), (3, .int p2), (4, .int p3), (5, .int p4), (6, .int x_36), (7, .long y_37)]) hx hb dX8_meets_218 hl (by decide) rfl (fun ls hl => ?_)
      refine lv_goto (tgt := 271) hx hb dX8_meets_220 (by decide) ?_
      exact jB_3 I_32 J_33 S_34 L_35 x_36 y_37 s_38 _ _ _ hP hD hS (lv_sub hl [1, 2, 3, 4, 5, 6, 7, 0] rfl) h
    refine lv_if_ge (tgt := 216) hx hb dX8_meets_208 (by decide) (fun hc => ?_) (fun hc => ?_)
    · have h := h.1 hc
      refine lv_lload hx hb dX8_meets_216 (lv_at hl 0 rfl) ?_
      exact jB_31 I J S L x_1 y_2 y_30 _ _ _ hP hD hS (lv_sub hl [4, 5, 7, 8, 9, 3, 2] rfl) h
    · have h := h.2 hc
      refine lv_lload hx hb dX8_meets_211 (lv_at hl 2 rfl) ?_
      refine lv_goto (tgt := 218) hx hb dX8_meets_213 (by decide) ?_
      exact jB_31 I J S L x_1 y_2 y_2 _ _ _ hP hD hS (lv_sub hl [4, 5, 7, 8, 9, 3, 2] rfl) h
  by_cases hc2 : (I 5 (p3).toNatClampNeg) = nI 2
  · have h := h.2.2.1 hc2
    refine lv_tableIn (off := 242) (tgt := 270) hx hb dX8_meets_28 (by rw [hc2]; decide) (by rw [hc2]; decide) (by rw [hc2]; decide) (by decide) ?_
    exact grv hx hb hr hlocks hP hK hD hS h dX8_meets_270
  by_cases hc3 : (I 5 (p3).toNatClampNeg) = nI 3
  · have h := h.2.2.2.1 hc3
    refine lv_tableIn (off := 63) (tgt := 91) hx hb dX8_meets_28 (by rw [hc3]; decide) (by rw [hc3]; decide) (by rw [hc3]; decide) (by decide) ?_
    refine lv_iload hx hb dX8_meets_91 (lv_at hl 8 rfl) ?_
    refine lv_iconst (v := 2) hx hb dX8_meets_93 (by decide) ?_
    refine lv_icmp_ne (tgt := 98) hx hb dX8_meets_94 (by decide) (fun hc => ?_) (fun hc => ?_)
    · have h := h.1 hc
      refine lv_aload_n hx hb dX8_meets_98 rfl (lv_at hl 3 rfl) ?_
      refine va_get (D := (dC, dI)) (ci := 8) (v := .ref (a 10)) (C := RX8) (T := TX8) (N := 47) hx hb hts nX8_meets_X8 hown hK hP 0 (wM_at0 _ _ _ _ _ _) rfl 11 (by decide) (hts (.fieldLink RX8 37 "SongOfficeModel" "by" "[I") kX8_meets_5) (fun _ h9 => h9) rfl dX8_meets_99 ?_
      refine lv_iload hx hb dX8_meets_102 (lv_at hl 7 rfl) ?_
      obtain ⟨hi, h⟩ := h
      refine va_iald hx hb hK hP 10 9 (wM_at10 _ _ _ _ _ _) rfl hi dX8_meets_104 ?_
      refine lv_i2l (v := (((I 10 (p3).toNatClampNeg)).toInt64)) hx hb dX8_meets_105 rfl ?_
      refine lv_ldc2 (v := 1000000) hx hb hown (hts (.constantLong RX8 194 (1000000)) kX8_meets_6) dX8_meets_106 ?_
      refine lv_lmul hx hb dX8_meets_109 ?_
      refine lv_aload_n hx hb dX8_meets_110 rfl (lv_at hl 3 rfl) ?_
      refine va_get (D := (dC, dI)) (ci := 8) (v := .ref (a 24)) (C := RX8) (T := TX8) (N := 47) hx hb hts nX8_meets_X8 hown hK hP 0 (wM_at0 _ _ _ _ _ _) rfl 25 (by decide) (hts (.fieldLink RX8 81 "SongOfficeModel" "came" "[J") kX8_meets_7) (fun _ h9 => h9) rfl dX8_meets_111 ?_
      refine lv_iload hx hb dX8_meets_114 (lv_at hl 2 rfl) ?_
      obtain ⟨hi, h⟩ := h
      refine va_lald hx hb hK hP 24 23 (wM_at24 _ _ _ _ _ _) rfl hi dX8_meets_116 ?_
      refine lv_lsub hx hb dX8_meets_117 ?_
      refine lv_topl (fun y_39 ey_39 => ?_)
      have h := h y_39 ey_39
      refine lv_lstore (lv' := [(11, .long y_39), (9, .long (0 : Int64)), (7, .long y_2), (6, .int x_1), (0, .ref (a 0)), (1, .int p0), (2, .int p1), (3, .int p2), (4, .int p3), (5, .int p4)]) hx hb dX8_meets_118 hl (by decide) rfl (fun ls hl => ?_)
      refine lv_lload hx hb dX8_meets_120 (lv_at hl 0 rfl) ?_
      refine lv_lconst (v := 0) hx hb dX8_meets_122 (by decide) ?_
      refine W.lcmp hx hb dX8_meets_123 ?_
      obtain ⟨B_40, hB_40, h⟩ := h
      have jB_40 : ∀ (I_41 : TI) (J_42 : TJ) (S_43 : TS) (L_44 : TL) (x_45 : Int32) (y_46 : Int64) (y_47 : Int64) (H : Heap) (locs : List Loc) (ls : Array Slot), va_P (dC, dI) vwCl (wM a cy I_41 J_42 S_43 L_44) H → va_D A (wM a cy I_41 J_42 S_43 L_44) → va_S A s.heap H locs → lv_has ls 13 [(0, .ref (a 0)), (1, .int p0), (3, .int p2), (4, .int p3), (5, .int p4), (6, .int x_45), (7, .long y_46), (11, .long y_47)] → B_40 I_41 J_42 S_43 L_44 x_45 y_46 y_47 → W p l e (headSpec wsX8_meets rmX8_meets).room s m args below meth c H locs 0 0 (MQ below (gQv dC dI (wM a cy) (tyM cy) A Φ) args s 0 0 A) (F0 m 130 ls []) := by
        intro I_41 J_42 S_43 L_44 x_45 y_46 y_47 H locs ls hP hD hS hl h
        have h := hB_40 I_41 J_42 S_43 L_44 x_45 y_46 y_47 h
        refine lv_lload hx hb dX8_meets_130 (lv_at hl 7 rfl) ?_
        refine lv_lload hx hb dX8_meets_132 (lv_at hl 6 rfl) ?_
        refine W.lcmp hx hb dX8_meets_134 ?_
        obtain ⟨B_48, hB_48, h⟩ := h
        have jB_48 : ∀ (I_49 : TI) (J_50 : TJ) (S_51 : TS) (L_52 : TL) (x_53 : Int32) (y_54 : Int64) (y_55 : Int64) (H : Heap) (locs : List Loc) (ls : Array Slot), va_P (dC, dI) vwCl (wM a cy I_49 J_50 S_51 L_52) H → va_D A (wM a cy I_49 J_50 S_51 L_52) → va_S A s.heap H locs → lv_has ls 13 [(0, .ref (a 0)), (1, .int p0), (3, .int p2), (4, .int p3), (5, .int p4), (6, .int x_53), (7, .long y_54), (11, .long y_55)] → B_48 I_49 J_50 S_51 L_52 x_53 y_54 y_55 → W p l e (headSpec wsX8_meets rmX8_meets).room s m args below meth c H locs 0 0 (MQ below (gQv dC dI (wM a cy) (tyM cy) A Φ) args s 0 0 A) (F0 m 142 ls []) := by
          intro I_49 J_50 S_51 L_52 x_53 y_54 y_55 H locs ls hP hD hS hl h
          have h := hB_48 I_49 J_50 S_51 L_52 x_53 y_54 y_55 h
          refine lv_lload hx hb dX8_meets_142 (lv_at hl 7 rfl) ?_
          refine lv_aload_n hx hb dX8_meets_144 rfl (lv_at hl 0 rfl) ?_
          refine va_get (D := (dC, dI)) (ci := 8) (v := .ref (a 9)) (C := RX8) (T := TX8) (N := 47) hx hb hts nX8_meets_X8 hown hK hP 0 (wM_at0 _ _ _ _ _ _) rfl 10 (by decide) (hts (.fieldLink RX8 34 "SongOfficeModel" "bx" "[I") kX8_meets_3) (fun _ h9 => h9) rfl dX8_meets_145 ?_
          refine lv_iload hx hb dX8_meets_148 (lv_at hl 3 rfl) ?_
          obtain ⟨hi, h⟩ := h
          refine va_iald hx hb hK hP 9 8 (wM_at9 _ _ _ _ _ _) rfl hi dX8_meets_150 ?_
          refine lv_i2l (v := (((I_49 9 (p3).toNatClampNeg)).toInt64)) hx hb dX8_meets_151 rfl ?_
          refine lv_lmul hx hb dX8_meets_152 ?_
          refine lv_ldc2 (v := 1000) hx hb hown (hts (.constantLong RX8 192 (1000)) kX8_meets_4) dX8_meets_153 ?_
          refine lv_ldiv hx hb dX8_meets_156 (by decide) ?_
          refine lv_lload hx hb dX8_meets_157 (lv_at hl 6 rfl) ?_
          refine lv_lload hx hb dX8_meets_159 (lv_at hl 7 rfl) ?_
          refine lv_lsub hx hb dX8_meets_161 ?_
          refine lv_aload_n hx hb dX8_meets_162 rfl (lv_at hl 0 rfl) ?_
          refine va_get (D := (dC, dI)) (ci := 8) (v := .ref (a 11)) (C := RX8) (T := TX8) (N := 47) hx hb hts nX8_meets_X8 hown hK hP 0 (wM_at0 _ _ _ _ _ _) rfl 12 (by decide) (hts (.fieldLink RX8 40 "SongOfficeModel" "bz" "[I") kX8_meets_8) (fun _ h9 => h9) rfl dX8_meets_163 ?_
          refine lv_iload hx hb dX8_meets_166 (lv_at hl 3 rfl) ?_
          obtain ⟨hi, h⟩ := h
          refine va_iald hx hb hK hP 11 10 (wM_at11 _ _ _ _ _ _) rfl hi dX8_meets_168 ?_
          refine lv_i2l (v := (((I_49 11 (p3).toNatClampNeg)).toInt64)) hx hb dX8_meets_169 rfl ?_
          refine lv_lmul hx hb dX8_meets_170 ?_
          refine lv_ldc2 (v := 1000) hx hb hown (hts (.constantLong RX8 192 (1000)) kX8_meets_4) dX8_meets_171 ?_
          refine lv_ldiv hx hb dX8_meets_174 (by decide) ?_
          refine lv_ladd hx hb dX8_meets_175 ?_
          refine lv_topl (fun y_56 ey_56 => ?_)
          have h := h y_56 ey_56
          refine lv_lstore (lv' := [(9, .long y_56), (0, .ref (a 0)), (1, .int p0), (3, .int p2), (4, .int p3), (5, .int p4), (6, .int x_53), (7, .long y_54), (11, .long y_55)]) hx hb dX8_meets_176 hl (by decide) rfl (fun ls hl => ?_)
          refine lv_goto (tgt := 271) hx hb dX8_meets_178 (by decide) ?_
          exact jB_3 I_49 J_50 S_51 L_52 x_53 y_54 y_56 _ _ _ hP hD hS (lv_sub hl [1, 2, 3, 4, 5, 6, 7, 0] rfl) h
        refine lv_if_le (tgt := 142) hx hb dX8_meets_135 (by decide) (fun hc => ?_) (fun hc => ?_)
        · have h := h.1 hc
          exact jB_48 I_41 J_42 S_43 L_44 x_45 y_46 y_47 _ _ _ hP hD hS (lv_sub hl [0, 1, 2, 3, 4, 5, 6, 7] rfl) h
        · have h := h.2 hc
          refine lv_lload hx hb dX8_meets_138 (lv_at hl 6 rfl) ?_
          refine lv_lstore (lv' := [(11, .long y_46), (0, .ref (a 0)), (1, .int p0), (3, .int p2), (4, .int p3), (5, .int p4), (6, .int x_45), (7, .long y_46)]) hx hb dX8_meets_140 hl (by decide) rfl (fun ls hl => ?_)
          exact jB_48 I_41 J_42 S_43 L_44 x_45 y_46 y_46 _ _ _ hP hD hS (lv_sub hl [1, 2, 3, 4, 5, 6, 7, 0] rfl) h
      refine lv_if_ge (tgt := 130) hx hb dX8_meets_124 (by decide) (fun hc => ?_) (fun hc => ?_)
      · have h := h.1 hc
        exact jB_40 I J S L x_1 y_2 y_39 _ _ _ hP hD hS (lv_sub hl [4, 5, 7, 8, 9, 3, 2, 0] rfl) h
      · have h := h.2 hc
        refine lv_lconst (v := 0) hx hb dX8_meets_127 (by decide) ?_
        refine lv_lstore (lv' := [(11, .long (0 : Int64)), (9, .long (0 : Int64)), (7, .long y_2), (6, .int x_1), (0, .ref (a 0)), (1, .int p0), (2, .int p1), (3, .int p2), (4, .int p3), (5, .int p4)]) hx hb dX8_meets_128 hl (by decide) rfl (fun ls hl => ?_)
        exact jB_40 I J S L x_1 y_2 (0 : Int64) _ _ _ hP hD hS (lv_sub hl [4, 5, 7, 8, 9, 3, 2, 0] rfl) h
    · have h := h.2 hc
      exact grv hx hb hr hlocks hP hK hD hS h dX8_meets_97
  by_cases hc4 : (I 5 (p3).toNatClampNeg) = nI 4
  · have h := h.2.2.2.2.1 hc4
    refine lv_tableIn (off := 195) (tgt := 223) hx hb dX8_meets_28 (by rw [hc4]; decide) (by rw [hc4]; decide) (by rw [hc4]; decide) (by decide) ?_
    refine lv_lload hx hb dX8_meets_223 (lv_at hl 1 rfl) ?_
    refine lv_aload_n hx hb dX8_meets_225 rfl (lv_at hl 3 rfl) ?_
    refine va_get (D := (dC, dI)) (ci := 8) (v := .ref (a 9)) (C := RX8) (T := TX8) (N := 47) hx hb hts nX8_meets_X8 hown hK hP 0 (wM_at0 _ _ _ _ _ _) rfl 10 (by decide) (hts (.fieldLink RX8 34 "SongOfficeModel" "bx" "[I") kX8_meets_3) (fun _ h9 => h9) rfl dX8_meets_226 ?_
    refine lv_iload hx hb dX8_meets_229 (lv_at hl 7 rfl) ?_
    obtain ⟨hi, h⟩ := h
    refine va_iald hx hb hK hP 9 8 (wM_at9 _ _ _ _ _ _) rfl hi dX8_meets_231 ?_
    refine lv_i2l (v := (((I 9 (p3).toNatClampNeg)).toInt64)) hx hb dX8_meets_232 rfl ?_
    refine lv_lmul hx hb dX8_meets_233 ?_
    refine lv_ldc2 (v := 1000) hx hb hown (hts (.constantLong RX8 192 (1000)) kX8_meets_4) dX8_meets_234 ?_
    refine lv_ldiv hx hb dX8_meets_237 (by decide) ?_
    refine lv_topl (fun y_57 ey_57 => ?_)
    have h := h y_57 ey_57
    refine lv_lstore (lv' := [(9, .long y_57), (7, .long y_2), (6, .int x_1), (0, .ref (a 0)), (1, .int p0), (2, .int p1), (3, .int p2), (4, .int p3), (5, .int p4)]) hx hb dX8_meets_238 hl (by decide) rfl (fun ls hl => ?_)
    refine lv_aload_n hx hb dX8_meets_240 rfl (lv_at hl 3 rfl) ?_
    refine va_get (D := (dC, dI)) (ci := 8) (v := .ref (a 25)) (C := RX8) (T := TX8) (N := 47) hx hb hts nX8_meets_X8 hown hK hP 0 (wM_at0 _ _ _ _ _ _) rfl 26 (by decide) (hts (.fieldLink RX8 84 "SongOfficeModel" "bags" "[J") kX8_meets_10) (fun _ h9 => h9) rfl dX8_meets_241 ?_
    refine lv_iload_n hx hb dX8_meets_244 rfl (lv_at hl 4 rfl) ?_
    refine lv_iload hx hb dX8_meets_245 (lv_at hl 7 rfl) ?_
    refine lv_iload_n hx hb dX8_meets_247 rfl (lv_at hl 5 rfl) ?_
    refine gcalli (va_runS (As := [.int p0, .int p3, .int p1]) (rest := [.ref (a 25)]) ⟨hx, hb, hml, hown, hts⟩ (c_X8_bag l dC dI (wM a cy) (tyM cy) H.size I J S L p0 p3 p1 _ h) (va_cwS 3 hts gX8_meets_X8_bag rfl rfl rfl (by decide +kernel) ⟨(Nat.le_of_ble_eq_true rfl), (Nat.le_of_ble_eq_true rfl)⟩) (g_pS hP hK hD hN [.int p0, .int p3, .int p1]) rfl rfl hl.1 rfl (lv_room (Nat.le_of_ble_eq_true rfl)) dX8_meets_248 ⟨(Nat.le_of_ble_eq_true rfl), (Nat.le_of_ble_eq_true rfl)⟩) hS hA hD (fun r_62 I_58 J_59 S_60 L_61 H locs hP hD hS h => ?_)
    refine lv_aload_n hx hb dX8_meets_251 rfl (lv_at hl 3 rfl) ?_
    refine va_get (D := (dC, dI)) (ci := 8) (v := .ref (a 25)) (C := RX8) (T := TX8) (N := 47) hx hb hts nX8_meets_X8 hown hK hP 0 (wM_at0 _ _ _ _ _ _) rfl 26 (by decide) (hts (.fieldLink RX8 84 "SongOfficeModel" "bags" "[J") kX8_meets_10) (fun _ h9 => h9) rfl dX8_meets_252 ?_
    refine lv_iload_n hx hb dX8_meets_255 rfl (lv_at hl 4 rfl) ?_
    refine lv_iload hx hb dX8_meets_256 (lv_at hl 7 rfl) ?_
    refine lv_iload_n hx hb dX8_meets_258 rfl (lv_at hl 5 rfl) ?_
    refine gcalli (va_runS (As := [.int p0, .int p3, .int p1]) (rest := [.ref (a 25), .int r_62, .ref (a 25)]) ⟨hx, hb, hml, hown, hts⟩ (c_X8_bag l dC dI (wM a cy) (tyM cy) H.size I_58 J_59 S_60 L_61 p0 p3 p1 _ h) (va_cwS 3 hts gX8_meets_X8_bag rfl rfl rfl (by decide +kernel) ⟨(Nat.le_of_ble_eq_true rfl), (Nat.le_of_ble_eq_true rfl)⟩) (g_pS hP hK hD hN [.int p0, .int p3, .int p1]) rfl rfl hl.1 rfl (lv_room (Nat.le_of_ble_eq_true rfl)) dX8_meets_259 ⟨(Nat.le_of_ble_eq_true rfl), (Nat.le_of_ble_eq_true rfl)⟩) hS hA hD (fun r_67 I_63 J_64 S_65 L_66 H locs hP hD hS h => ?_)
    obtain ⟨hi, h⟩ := h
    refine va_lald hx hb hK hP 25 24 (wM_at25 _ _ _ _ _ _) rfl hi dX8_meets_262 ?_
    refine lv_lload hx hb dX8_meets_263 (lv_at hl 0 rfl) ?_
    refine lv_ladd hx hb dX8_meets_265 ?_
    obtain ⟨hi, h⟩ := h
    obtain ⟨J_68, eJ_68⟩ : ∃ z : TJ, z = va_up J_64 25 (vp_updL (J_64 25) (r_62).toNatClampNeg ((J_64 25 (r_67).toNatClampNeg) + y_57)) := ⟨_, rfl⟩
    have h := h J_68 eJ_68
    refine va_last hx hb hK hP hD hS 25 24 (wM_at25 _ _ _ _ _ _) rfl hi dX8_meets_266 (fun H locs hP hD hS => ?_)
    have hP : va_P (dC, dI) vwCl (wM a cy I_63 J_68 S_65 L_66) H := by rw [eJ_68]; exact setP hP (wM_set25 _ _ _ _ _ _ _)
    have hD : va_D A (wM a cy I_63 J_68 S_65 L_66) := by rw [eJ_68]; exact setD hD (wM_set25 _ _ _ _ _ _ _)
    refine lv_goto (tgt := 271) hx hb dX8_meets_267 (by decide) ?_
    exact jB_3 I_63 J_68 S_65 L_66 x_1 y_2 y_57 _ _ _ hP hD hS (lv_sub hl [3, 4, 6, 7, 8, 2, 1, 0] rfl) h
  have hno : ∀ k, k < 5 → ¬ (I 5 (p3).toNatClampNeg) = nI k := fun k hk => by rcases (show k = 0 ∨ k = 1 ∨ k = 2 ∨ k = 3 ∨ k = 4 by omega) with rfl | rfl | rfl | rfl | rfl <;> assumption
  have h := h.2.2.2.2.2 hno
  refine lv_tableOut (tgt := 270) hx hb dX8_meets_28 (sw_out 5 (by decide) hno) (by decide) ?_
  exact grv hx hb hr hlocks hP hK hD hS h dX8_meets_270
def wp_X8_goes (I : TI) (J : TJ) (S : TS) (L : TL) (p0 : Int32) (p1 : Int32) (p2 : Int32) (p3 : Int32) (p4 : Int64) (Φ : TI → TJ → TS → TL → Prop) : Prop := ∀ S_1 : TS, S_1 = va_up S 2 (0 : Int32) → (((¬ (lg_cmp p4 (0 : Int64)) = 0) → ((vp_in p0 2) ∧ ((vp_in p0 2) ∧ ∀ J_2 : TJ, J_2 = va_up J 28 (vp_updL (J 28) (p0).toNatClampNeg ((J 28 (p0).toNatClampNeg) + p4)) → (wp_X8_begins I J_2 S_1 L p0 p2 p3 (-1 : Int32) p4 (fun (I_3 : TI) (J_4 : TJ) (S_5 : TS) (L_6 : TL) => (∃ V_7 : Nat → TI → TJ → TS → TL → Prop, (∃ n_9, V_7 n_9 I_3 J_4 S_5 L_6) ∧ ∀ (n_8 : Nat) (I_10 : TI) (J_11 : TJ) (S_12 : TS) (L_13 : TL), V_7 n_8 I_10 J_11 S_12 L_13 → ((((S_12 2) ≤ 0) → (Φ I_10 J_11 S_12 L_13)) ∧ ((¬ (S_12 2) ≤ 0) → (∀ x_14 : Int32, x_14 = ((S_12 2) - (1 : Int32)) → ((vp_in x_14 3) ∧ (∀ x_15 : Int32, x_15 = (I_10 30 (x_14).toNatClampNeg) → (∃ B_16 : TI → TJ → TS → TL → Prop, (∀ (I_17 : TI) (J_18 : TJ) (S_19 : TS) (L_20 : TL), B_16 I_17 J_18 S_19 L_20 → (∃ n_21, n_21 < n_8 ∧ V_7 n_21 I_17 J_18 S_19 L_20)) ∧ (∃ B_22 : TI → TJ → TS → TL → Int32 → Prop, (∀ (I_23 : TI) (J_24 : TJ) (S_25 : TS) (L_26 : TL) (x_27 : Int32), B_22 I_23 J_24 S_25 L_26 x_27 → ((vp_in x_27 3) ∧ (∀ x_28 : Int32, x_28 = (((12 : Int32) * p0) + (I_23 29 (x_27).toNatClampNeg)) → ((vp_in x_28 24) ∧ ((vp_in x_27 3) ∧ ((vp_in x_28 24) ∧ ∀ J_29 : TJ, J_29 = va_up J_24 21 (vp_updL (J_24 21) (x_28).toNatClampNeg ((J_24 21 (x_28).toNatClampNeg) + (J_24 32 (x_27).toNatClampNeg))) → ((vp_in x_27 3) ∧ (∃ B_30 : TI → TJ → TS → TL → Int32 → Prop, (∀ (I_31 : TI) (J_32 : TJ) (S_33 : TS) (L_34 : TL) (x_35 : Int32), B_30 I_31 J_32 S_33 L_34 x_35 → (∀ S_36 : TS, S_36 = va_up S_33 2 x_35 → (B_16 I_31 J_32 S_36 L_34))) ∧ ((((I_23 31 (x_27).toNatClampNeg) = (-1 : Int32)) → (B_30 I_23 J_29 S_25 L_26 x_27)) ∧ ((¬ (I_23 31 (x_27).toNatClampNeg) = (-1 : Int32)) → ((vp_in x_27 3) ∧ ((vp_in x_27 3) ∧ ((vp_in (I_23 31 (x_27).toNatClampNeg) 600) ∧ ∀ J_37 : TJ, J_37 = va_up J_29 37 (vp_updL (J_29 37) ((I_23 31 (x_27).toNatClampNeg)).toNatClampNeg (J_29 32 (x_27).toNatClampNeg)) → (B_30 I_23 J_37 S_25 L_26 x_27)))))))))))))) ∧ (((x_15 = (S_12 1)) → (B_22 I_10 J_11 S_12 L_13 x_14)) ∧ ((¬ x_15 = (S_12 1)) → ((vp_in x_14 3) ∧ (((¬ (lg_cmp (J_11 32 (x_14).toNatClampNeg) (0 : Int64)) = 0) → ((vp_in x_14 3) ∧ ∀ I_38 : TI, I_38 = va_up I_10 30 (upd (I_10 30) (x_14).toNatClampNeg (x_15 + (1 : Int32))) → ((vp_in x_15 24) ∧ ((vp_in x_14 3) ∧ (((¬ (I_38 6 (x_15).toNatClampNeg) = (I_38 29 (x_14).toNatClampNeg)) → (B_16 I_38 J_11 S_12 L_13)) ∧ (((I_38 6 (x_15).toNatClampNeg) = (I_38 29 (x_14).toNatClampNeg)) → ((vp_in x_15 24) ∧ (((¬ (((I_38 7 (x_15).toNatClampNeg) >>> (p2 &&& 31)) &&& (1 : Int32)) = (1 : Int32)) → (B_16 I_38 J_11 S_12 L_13)) ∧ (((((I_38 7 (x_15).toNatClampNeg) >>> (p2 &&& 31)) &&& (1 : Int32)) = (1 : Int32)) → ((vp_in x_15 24) ∧ ((((((90 : Int32) * p1) + (89 : Int32)) < (I_38 8 (x_15).toNatClampNeg)) → (B_16 I_38 J_11 S_12 L_13)) ∧ ((¬ (((90 : Int32) * p1) + (89 : Int32)) < (I_38 8 (x_15).toNatClampNeg)) → (wp_X8_meets I_38 J_11 S_12 L_13 p0 p1 p2 x_15 x_14 (fun (I_39 : TI) (J_40 : TJ) (S_41 : TS) (L_42 : TL) => (B_16 I_39 J_40 S_41 L_42))))))))))))))) ∧ (((lg_cmp (J_11 32 (x_14).toNatClampNeg) (0 : Int64)) = 0) → (B_22 I_10 J_11 S_12 L_13 x_14))))))))))))))))))) ∧ (((lg_cmp p4 (0 : Int64)) = 0) → (Φ I J S_1 L)))
theorem nX8_goes_X8 : ∀ w ∈ wsX80, w ∈ wsX8_goes := fun _ h => List.mem_cons_of_mem _ (List.mem_append_right _ h)
theorem kX8_goes_1 : Cond.fieldLink RX8 181 "SongOfficeModel" "deep" "I" ∈ wsX8_goes := List.mem_of_getElem? (i := 1) rfl
theorem kX8_goes_5 : Cond.fieldLink RX8 105 "SongOfficeModel" "lineLeft" "[J" ∈ wsX8_goes := List.mem_of_getElem? (i := 5) rfl
theorem kX8_goes_8 : Cond.fieldLink RX8 102 "SongOfficeModel" "lineTold" "[I" ∈ wsX8_goes := List.mem_of_getElem? (i := 8) rfl
theorem kX8_goes_9 : Cond.fieldLink RX8 120 "SongOfficeModel" "toldPurse" "[J" ∈ wsX8_goes := List.mem_of_getElem? (i := 9) rfl
theorem kX8_goes_7 : Cond.fieldLink RX8 71 "SongOfficeModel" "purse" "[J" ∈ wsX8_goes := List.mem_of_getElem? (i := 7) rfl
theorem kX8_goes_6 : Cond.fieldLink RX8 96 "SongOfficeModel" "lineHand" "[I" ∈ wsX8_goes := List.mem_of_getElem? (i := 6) rfl
theorem kX8_goes_12 : Cond.fieldLink RX8 31 "SongOfficeModel" "since" "[I" ∈ wsX8_goes := List.mem_of_getElem? (i := 12) rfl
theorem kX8_goes_11 : Cond.fieldLink RX8 28 "SongOfficeModel" "works" "[I" ∈ wsX8_goes := List.mem_of_getElem? (i := 11) rfl
theorem kX8_goes_10 : Cond.fieldLink RX8 25 "SongOfficeModel" "hand" "[I" ∈ wsX8_goes := List.mem_of_getElem? (i := 10) rfl
theorem kX8_goes_3 : Cond.fieldLink RX8 99 "SongOfficeModel" "lineNext" "[I" ∈ wsX8_goes := List.mem_of_getElem? (i := 3) rfl
theorem kX8_goes_4 : Cond.fieldLink RX8 157 "SongOfficeModel" "bargains" "I" ∈ wsX8_goes := List.mem_of_getElem? (i := 4) rfl
theorem kX8_goes_2 : Cond.fieldLink RX8 93 "SongOfficeModel" "cameIn" "[J" ∈ wsX8_goes := List.mem_of_getElem? (i := 2) rfl
abbrev rmX8_goes : Room := { frames := 2, cells := 0, slots := 0, locals := 59 }
set_option maxHeartbeats 4000000 in
set_option maxRecDepth 100000 in
theorem c_X8_goes (l : Launch) (dC : Nat → ClassId) (dI : Nat → Nat → Nat) (a : Nat → Nat) (cy : Nat → ClassId) (sz : Nat) (I : TI) (J : TJ) (S : TS) (L : TL) (p0 : Int32) (p1 : Int32) (p2 : Int32) (p3 : Int32) (p4 : Int64) (Φ : TI → TJ → TS → TL → Prop) (h : wp_X8_goes I J S L p0 p1 p2 p3 p4 Φ) : Met l yX8_goes wsX8_goes rmX8_goes (va_Pc [.ref (a 0), .int p0, .int p1, .int p2, .int p3, .long p4] (gpre dC dI (wM a cy I J S L) (tyM cy) sz)) (gQv dC dI (wM a cy) (tyM cy) (va_A (wM a cy I J S L) sz) Φ) 0 0 (va_A (wM a cy I J S L) sz) := by
  refine Met.ofW (cc := cX8_goes) (maxL := 10) (ret := none) (by decide) rfl ?_
  intro p e s m args below meth c s₁ B hml hv
  obtain ⟨hargs, hsz, hP, hK, hD0, hN⟩ := hv
  have hx := B.exec
  have hb := B.bytes
  have hr := B.returns
  have hts := atoms_spec (ws := wsX8_goes) B.pre
  have hown : s.vm.findClass RX8 = some m.cls := findClass_of_methodNamed B.named
  have hlocks := B.notSynchronized
  subst hsz
  have hD := hD0.self (sz := s.heap.size)
  generalize hAe : va_A (wM a cy I J S L) s.heap.size = A at hD ⊢
  have hA : ∀ q : Nat, s.heap.size ≤ q → A q := fun q h => by rw [← hAe]; exact Or.inr h
  obtain ⟨H, hH⟩ : ∃ z : Heap, z = s.heap := ⟨_, rfl⟩
  rw [← hH] at hP
  have hS : va_S A s.heap H [] := by rw [hH]; exact va_S.rf
  have hl := lv_entry ([.ref (a 0), .int p0, .int p1, .int p2, .int p3, .long p4]) (n := 10) (Nat.le_of_ble_eq_true rfl)
  have hE : entryFrame m args 10 = F0 m 0 ((lg_sl ([.ref (a 0), .int p0, .int p1, .int p2, .int p3, .long p4]) ++ List.replicate (10 - (lg_sl ([.ref (a 0), .int p0, .int p1, .int p2, .int p3, .long p4])).length) Slot.unset).toArray) [] := by rw [hargs]; exact lg_entry_eq m _ _
  rw [hE, ← hH]
  clear hE
  generalize (lg_sl ([.ref (a 0), .int p0, .int p1, .int p2, .int p3, .long p4]) ++ List.replicate (10 - (lg_sl ([.ref (a 0), .int p0, .int p1, .int p2, .int p3, .long p4])).length) Slot.unset).toArray = ls at hl ⊢
  have hl : lv_has ls 10 [(0, .ref (a 0)), (1, .int p0), (2, .int p1), (3, .int p2), (4, .int p3), (5, .long p4)] := hl
  unfold wp_X8_goes at h
  refine lv_aload_n hx hb dX8_goes_0 rfl (lv_at hl 0 rfl) ?_
  refine lv_iconst (v := 0) hx hb dX8_goes_1 (by decide) ?_
  obtain ⟨S_1, eS_1⟩ : ∃ z : TS, z = va_up S 2 (0 : Int32) := ⟨_, rfl⟩
  have h := h S_1 eS_1
  refine va_put (D := (dC, dI)) (ci := 8) (v := .int (0 : Int32)) (ty := .int) (C := RX8) (T := TX8) (N := 47) hx hb hts nX8_goes_X8 tyX8 tyX8_ok nmX8 hown hK hP hD hS 0 (wM_at0 _ _ _ _ _ _) rfl 34 (by decide) (hts (.fieldLink RX8 181 "SongOfficeModel" "deep" "I") kX8_goes_1) (fun _ h9 => h9) rfl (by decide +kernel) rfl rfl (Nat.le_of_ble_eq_true rfl) dX8_goes_2 (fun H locs hP hD hS => ?_)
  have hP : va_P (dC, dI) vwCl (wM a cy I J S_1 L) H := by rw [eS_1]; exact setP hP (wM_setS2 _ _ _ _ _ _ _)
  have hD : va_D A (wM a cy I J S_1 L) := by rw [eS_1]; exact setD hD (wM_setS2 _ _ _ _ _ _ _)
  refine lv_lload hx hb dX8_goes_5 (lv_at hl 5 rfl) ?_
  refine lv_lconst (v := 0) hx hb dX8_goes_7 (by decide) ?_
  refine W.lcmp hx hb dX8_goes_8 ?_
  refine lv_if_ne (tgt := 13) hx hb dX8_goes_9 (by decide) (fun hc => ?_) (fun hc => ?_)
  · have h := h.1 hc
    refine lv_aload_n hx hb dX8_goes_13 rfl (lv_at hl 0 rfl) ?_
    refine va_get (D := (dC, dI)) (ci := 8) (v := .ref (a 28)) (C := RX8) (T := TX8) (N := 47) hx hb hts nX8_goes_X8 hown hK hP 0 (wM_at0 _ _ _ _ _ _) rfl 29 (by decide) (hts (.fieldLink RX8 93 "SongOfficeModel" "cameIn" "[J") kX8_goes_2) (fun _ h9 => h9) rfl dX8_goes_14 ?_
    refine lv_iload_n hx hb dX8_goes_17 rfl (lv_at hl 1 rfl) ?_
    refine lv_aload_n hx hb dX8_goes_18 rfl (lv_at hl 0 rfl) ?_
    refine va_get (D := (dC, dI)) (ci := 8) (v := .ref (a 28)) (C := RX8) (T := TX8) (N := 47) hx hb hts nX8_goes_X8 hown hK hP 0 (wM_at0 _ _ _ _ _ _) rfl 29 (by decide) (hts (.fieldLink RX8 93 "SongOfficeModel" "cameIn" "[J") kX8_goes_2) (fun _ h9 => h9) rfl dX8_goes_19 ?_
    refine lv_iload_n hx hb dX8_goes_22 rfl (lv_at hl 1 rfl) ?_
    obtain ⟨hi, h⟩ := h
    refine va_lald hx hb hK hP 28 27 (wM_at28 _ _ _ _ _ _) rfl hi dX8_goes_23 ?_
    refine lv_lload hx hb dX8_goes_24 (lv_at hl 5 rfl) ?_
    refine lv_ladd hx hb dX8_goes_26 ?_
    obtain ⟨hi, h⟩ := h
    obtain ⟨J_2, eJ_2⟩ : ∃ z : TJ, z = va_up J 28 (vp_updL (J 28) (p0).toNatClampNeg ((J 28 (p0).toNatClampNeg) + p4)) := ⟨_, rfl⟩
    have h := h J_2 eJ_2
    refine va_last hx hb hK hP hD hS 28 27 (wM_at28 _ _ _ _ _ _) rfl hi dX8_goes_27 (fun H locs hP hD hS => ?_)
    have hP : va_P (dC, dI) vwCl (wM a cy I J_2 S_1 L) H := by rw [eJ_2]; exact setP hP (wM_set28 _ _ _ _ _ _ _)
    have hD : va_D A (wM a cy I J_2 S_1 L) := by rw [eJ_2]; exact setD hD (wM_set28 _ _ _ _ _ _ _)
    refine lv_aload_n hx hb dX8_goes_28 rfl (lv_at hl 0 rfl) ?_
    refine lv_iload_n hx hb dX8_goes_29 rfl (lv_at hl 1 rfl) ?_
    refine lv_iload_n hx hb dX8_goes_30 rfl (lv_at hl 3 rfl) ?_
    refine lv_iload hx hb dX8_goes_31 (lv_at hl 4 rfl) ?_
    refine lv_iconst (v := -1) hx hb dX8_goes_33 (by decide) ?_
    refine lv_lload hx hb dX8_goes_34 (lv_at hl 5 rfl) ?_
    refine gcallv (va_runV (As := [.int p0, .int p2, .int p3, .int (-1 : Int32), .long p4]) (rest := []) ⟨hx, hb, hml, hown, hts⟩ (c_X8_begins l dC dI a cy H.size I J_2 S_1 L p0 p2 p3 (-1 : Int32) p4 _ h) (cwV 5 hts gX8_goes_X8_begins rfl rfl rfl (by decide +kernel) ⟨(Nat.le_of_ble_eq_true rfl), (Nat.le_of_ble_eq_true rfl)⟩) (g_pV hP hK hD hN (va_recv hK hP (ci := 8) (q0 := 0) rfl (wM_at0 _ _ _ _ _ _)) [.int p0, .int p2, .int p3, .int (-1 : Int32), .long p4]) rfl rfl hl.1 rfl (lv_room (Nat.le_of_ble_eq_true rfl)) dX8_goes_36 ⟨(Nat.le_of_ble_eq_true rfl), (Nat.le_of_ble_eq_true rfl)⟩) hS hA hD (fun I_3 J_4 S_5 L_6 H locs hP hD hS h => ?_)
    obtain ⟨V_7, ⟨n_9, h0V_7⟩, hV_7⟩ := h
    have lV_7 : ∀ (n_8 : Nat) (I_10 : TI) (J_11 : TJ) (S_12 : TS) (L_13 : TL) (H : Heap) (locs : List Loc) (ls : Array Slot), va_P (dC, dI) vwCl (wM a cy I_10 J_11 S_12 L_13) H → va_D A (wM a cy I_10 J_11 S_12 L_13) → va_S A s.heap H locs → lv_has ls 10 [(0, .ref (a 0)), (1, .int p0), (2, .int p1), (3, .int p2)] → V_7 n_8 I_10 J_11 S_12 L_13 → W p l e (headSpec wsX8_goes rmX8_goes).room s m args below meth c H locs 0 0 (MQ below (gQv dC dI (wM a cy) (tyM cy) A Φ) args s 0 0 A) (F0 m 39 ls []) := by
      intro n_8
      induction n_8 using Nat.strongRecOn with
      | ind n_8 ihV_7 =>
          intro I_10 J_11 S_12 L_13 H locs ls hP hD hS hl h
          have h := hV_7 n_8 I_10 J_11 S_12 L_13 h
          refine lv_aload_n hx hb dX8_goes_39 rfl (lv_at hl 0 rfl) ?_
          refine va_get (D := (dC, dI)) (ci := 8) (v := .int (S_12 2)) (C := RX8) (T := TX8) (N := 47) hx hb hts nX8_goes_X8 hown hK hP 0 (wM_at0 _ _ _ _ _ _) rfl 34 (by decide) (hts (.fieldLink RX8 181 "SongOfficeModel" "deep" "I") kX8_goes_1) (fun _ h9 => h9) rfl dX8_goes_40 ?_
          refine lv_if_le (tgt := 233) hx hb dX8_goes_43 (by decide) (fun hc => ?_) (fun hc => ?_)
          · have h := h.1 hc
            exact grv hx hb hr hlocks hP hK hD hS h dX8_goes_233
          · have h := h.2 hc
            refine lv_aload_n hx hb dX8_goes_46 rfl (lv_at hl 0 rfl) ?_
            refine va_get (D := (dC, dI)) (ci := 8) (v := .int (S_12 2)) (C := RX8) (T := TX8) (N := 47) hx hb hts nX8_goes_X8 hown hK hP 0 (wM_at0 _ _ _ _ _ _) rfl 34 (by decide) (hts (.fieldLink RX8 181 "SongOfficeModel" "deep" "I") kX8_goes_1) (fun _ h9 => h9) rfl dX8_goes_47 ?_
            refine lv_iconst (v := 1) hx hb dX8_goes_50 (by decide) ?_
            refine lv_isub hx hb dX8_goes_51 ?_
            refine lv_topi (fun x_14 ex_14 => ?_)
            have h := h x_14 ex_14
            refine lv_istore (lv' := [(7, .int x_14), (0, .ref (a 0)), (1, .int p0), (2, .int p1), (3, .int p2)]) hx hb dX8_goes_52 hl (by decide) rfl (fun ls hl => ?_)
            refine lv_aload_n hx hb dX8_goes_54 rfl (lv_at hl 1 rfl) ?_
            refine va_get (D := (dC, dI)) (ci := 8) (v := .ref (a 30)) (C := RX8) (T := TX8) (N := 47) hx hb hts nX8_goes_X8 hown hK hP 0 (wM_at0 _ _ _ _ _ _) rfl 31 (by decide) (hts (.fieldLink RX8 99 "SongOfficeModel" "lineNext" "[I") kX8_goes_3) (fun _ h9 => h9) rfl dX8_goes_55 ?_
            refine lv_iload hx hb dX8_goes_58 (lv_at hl 0 rfl) ?_
            obtain ⟨hi, h⟩ := h
            refine va_iald hx hb hK hP 30 29 (wM_at30 _ _ _ _ _ _) rfl hi dX8_goes_60 ?_
            refine lv_topi (fun x_15 ex_15 => ?_)
            have h := h x_15 ex_15
            refine lv_istore (lv' := [(8, .int x_15), (7, .int x_14), (0, .ref (a 0)), (1, .int p0), (2, .int p1), (3, .int p2)]) hx hb dX8_goes_61 hl (by decide) rfl (fun ls hl => ?_)
            refine lv_iload hx hb dX8_goes_63 (lv_at hl 0 rfl) ?_
            refine lv_aload_n hx hb dX8_goes_65 rfl (lv_at hl 2 rfl) ?_
            refine va_get (D := (dC, dI)) (ci := 8) (v := .int (S_12 1)) (C := RX8) (T := TX8) (N := 47) hx hb hts nX8_goes_X8 hown hK hP 0 (wM_at0 _ _ _ _ _ _) rfl 5 (by decide) (hts (.fieldLink RX8 157 "SongOfficeModel" "bargains" "I") kX8_goes_4) (fun _ h9 => h9) rfl dX8_goes_66 ?_
            obtain ⟨B_16, hB_16, h⟩ := h
            have jB_16 : ∀ (I_17 : TI) (J_18 : TJ) (S_19 : TS) (L_20 : TL) (H : Heap) (locs : List Loc) (ls : Array Slot), va_P (dC, dI) vwCl (wM a cy I_17 J_18 S_19 L_20) H → va_D A (wM a cy I_17 J_18 S_19 L_20) → va_S A s.heap H locs → lv_has ls 10 [(0, .ref (a 0)), (1, .int p0), (2, .int p1), (3, .int p2)] → B_16 I_17 J_18 S_19 L_20 → W p l e (headSpec wsX8_goes rmX8_goes).room s m args below meth c H locs 0 0 (MQ below (gQv dC dI (wM a cy) (tyM cy) A Φ) args s 0 0 A) (F0 m 230 ls []) := by
              intro I_17 J_18 S_19 L_20 H locs ls hP hD hS hl h
              have h := hB_16 I_17 J_18 S_19 L_20 h
              refine lv_goto (tgt := 39) hx hb dX8_goes_230 (by decide) ?_
              obtain ⟨n_21, hn2, h⟩ := h
              exact ihV_7 n_21 hn2 I_17 J_18 S_19 L_20 _ _ _ hP hD hS (lv_sub hl [0, 1, 2, 3] rfl) h
            obtain ⟨B_22, hB_22, h⟩ := h
            have jB_22 : ∀ (I_23 : TI) (J_24 : TJ) (S_25 : TS) (L_26 : TL) (x_27 : Int32) (H : Heap) (locs : List Loc) (ls : Array Slot), va_P (dC, dI) vwCl (wM a cy I_23 J_24 S_25 L_26) H → va_D A (wM a cy I_23 J_24 S_25 L_26) → va_S A s.heap H locs → lv_has ls 10 [(0, .ref (a 0)), (1, .int p0), (2, .int p1), (3, .int p2), (7, .int x_27)] → B_22 I_23 J_24 S_25 L_26 x_27 → W p l e (headSpec wsX8_goes rmX8_goes).room s m args below meth c H locs 0 0 (MQ below (gQv dC dI (wM a cy) (tyM cy) A Φ) args s 0 0 A) (F0 m 84 ls []) := by
              intro I_23 J_24 S_25 L_26 x_27 H locs ls hP hD hS hl h
              have h := hB_22 I_23 J_24 S_25 L_26 x_27 h
              refine lv_bipush (v := 12) hx hb dX8_goes_84 (by decide) ?_
              refine lv_iload_n hx hb dX8_goes_86 rfl (lv_at hl 1 rfl) ?_
              refine lv_imul hx hb dX8_goes_87 ?_
              refine lv_aload_n hx hb dX8_goes_88 rfl (lv_at hl 0 rfl) ?_
              refine va_get (D := (dC, dI)) (ci := 8) (v := .ref (a 29)) (C := RX8) (T := TX8) (N := 47) hx hb hts nX8_goes_X8 hown hK hP 0 (wM_at0 _ _ _ _ _ _) rfl 30 (by decide) (hts (.fieldLink RX8 96 "SongOfficeModel" "lineHand" "[I") kX8_goes_6) (fun _ h9 => h9) rfl dX8_goes_89 ?_
              refine lv_iload hx hb dX8_goes_92 (lv_at hl 4 rfl) ?_
              obtain ⟨hi, h⟩ := h
              refine va_iald hx hb hK hP 29 28 (wM_at29 _ _ _ _ _ _) rfl hi dX8_goes_94 ?_
              refine lv_iadd hx hb dX8_goes_95 ?_
              refine lv_topi (fun x_28 ex_28 => ?_)
              have h := h x_28 ex_28
              refine lv_istore (lv' := [(9, .int x_28), (0, .ref (a 0)), (1, .int p0), (2, .int p1), (3, .int p2), (7, .int x_27)]) hx hb dX8_goes_96 hl (by decide) rfl (fun ls hl => ?_)
              refine lv_aload_n hx hb dX8_goes_98 rfl (lv_at hl 1 rfl) ?_
              refine va_get (D := (dC, dI)) (ci := 8) (v := .ref (a 21)) (C := RX8) (T := TX8) (N := 47) hx hb hts nX8_goes_X8 hown hK hP 0 (wM_at0 _ _ _ _ _ _) rfl 22 (by decide) (hts (.fieldLink RX8 71 "SongOfficeModel" "purse" "[J") kX8_goes_7) (fun _ h9 => h9) rfl dX8_goes_99 ?_
              refine lv_iload hx hb dX8_goes_102 (lv_at hl 0 rfl) ?_
              refine lv_aload_n hx hb dX8_goes_104 rfl (lv_at hl 1 rfl) ?_
              refine va_get (D := (dC, dI)) (ci := 8) (v := .ref (a 21)) (C := RX8) (T := TX8) (N := 47) hx hb hts nX8_goes_X8 hown hK hP 0 (wM_at0 _ _ _ _ _ _) rfl 22 (by decide) (hts (.fieldLink RX8 71 "SongOfficeModel" "purse" "[J") kX8_goes_7) (fun _ h9 => h9) rfl dX8_goes_105 ?_
              refine lv_iload hx hb dX8_goes_108 (lv_at hl 0 rfl) ?_
              obtain ⟨hi, h⟩ := h
              refine va_lald hx hb hK hP 21 20 (wM_at21 _ _ _ _ _ _) rfl hi dX8_goes_110 ?_
              refine lv_aload_n hx hb dX8_goes_111 rfl (lv_at hl 1 rfl) ?_
              refine va_get (D := (dC, dI)) (ci := 8) (v := .ref (a 32)) (C := RX8) (T := TX8) (N := 47) hx hb hts nX8_goes_X8 hown hK hP 0 (wM_at0 _ _ _ _ _ _) rfl 33 (by decide) (hts (.fieldLink RX8 105 "SongOfficeModel" "lineLeft" "[J") kX8_goes_5) (fun _ h9 => h9) rfl dX8_goes_112 ?_
              refine lv_iload hx hb dX8_goes_115 (lv_at hl 5 rfl) ?_
              obtain ⟨hi, h⟩ := h
              refine va_lald hx hb hK hP 32 31 (wM_at32 _ _ _ _ _ _) rfl hi dX8_goes_117 ?_
              refine lv_ladd hx hb dX8_goes_118 ?_
              obtain ⟨hi, h⟩ := h
              obtain ⟨J_29, eJ_29⟩ : ∃ z : TJ, z = va_up J_24 21 (vp_updL (J_24 21) (x_28).toNatClampNeg ((J_24 21 (x_28).toNatClampNeg) + (J_24 32 (x_27).toNatClampNeg))) := ⟨_, rfl⟩
              have h := h J_29 eJ_29
              refine va_last hx hb hK hP hD hS 21 20 (wM_at21 _ _ _ _ _ _) rfl hi dX8_goes_119 (fun H locs hP hD hS => ?_)
              have hP : va_P (dC, dI) vwCl (wM a cy I_23 J_29 S_25 L_26) H := by rw [eJ_29]; exact setP hP (wM_set21 _ _ _ _ _ _ _)
              have hD : va_D A (wM a cy I_23 J_29 S_25 L_26) := by rw [eJ_29]; exact setD hD (wM_set21 _ _ _ _ _ _ _)
              refine lv_aload_n hx hb dX8_goes_120 rfl (lv_at hl 1 rfl) ?_
              refine va_get (D := (dC, dI)) (ci := 8) (v := .ref (a 31)) (C := RX8) (T := TX8) (N := 47) hx hb hts nX8_goes_X8 hown hK hP 0 (wM_at0 _ _ _ _ _ _) rfl 32 (by decide) (hts (.fieldLink RX8 102 "SongOfficeModel" "lineTold" "[I") kX8_goes_8) (fun _ h9 => h9) rfl dX8_goes_121 ?_
              refine lv_iload hx hb dX8_goes_124 (lv_at hl 5 rfl) ?_
              obtain ⟨hi, h⟩ := h
              refine va_iald hx hb hK hP 31 30 (wM_at31 _ _ _ _ _ _) rfl hi dX8_goes_126 ?_
              refine lv_iconst (v := -1) hx hb dX8_goes_127 (by decide) ?_
              obtain ⟨B_30, hB_30, h⟩ := h
              have jB_30 : ∀ (I_31 : TI) (J_32 : TJ) (S_33 : TS) (L_34 : TL) (x_35 : Int32) (H : Heap) (locs : List Loc) (ls : Array Slot), va_P (dC, dI) vwCl (wM a cy I_31 J_32 S_33 L_34) H → va_D A (wM a cy I_31 J_32 S_33 L_34) → va_S A s.heap H locs → lv_has ls 10 [(0, .ref (a 0)), (1, .int p0), (2, .int p1), (3, .int p2), (7, .int x_35)] → B_30 I_31 J_32 S_33 L_34 x_35 → W p l e (headSpec wsX8_goes rmX8_goes).room s m args below meth c H locs 0 0 (MQ below (gQv dC dI (wM a cy) (tyM cy) A Φ) args s 0 0 A) (F0 m 150 ls []) := by
                intro I_31 J_32 S_33 L_34 x_35 H locs ls hP hD hS hl h
                have h := hB_30 I_31 J_32 S_33 L_34 x_35 h
                refine lv_aload_n hx hb dX8_goes_150 rfl (lv_at hl 0 rfl) ?_
                refine lv_iload hx hb dX8_goes_151 (lv_at hl 4 rfl) ?_
                obtain ⟨S_36, eS_36⟩ : ∃ z : TS, z = va_up S_33 2 x_35 := ⟨_, rfl⟩
                have h := h S_36 eS_36
                refine va_put (D := (dC, dI)) (ci := 8) (v := .int x_35) (ty := .int) (C := RX8) (T := TX8) (N := 47) hx hb hts nX8_goes_X8 tyX8 tyX8_ok nmX8 hown hK hP hD hS 0 (wM_at0 _ _ _ _ _ _) rfl 34 (by decide) (hts (.fieldLink RX8 181 "SongOfficeModel" "deep" "I") kX8_goes_1) (fun _ h9 => h9) rfl (by decide +kernel) rfl rfl (Nat.le_of_ble_eq_true rfl) dX8_goes_153 (fun H locs hP hD hS => ?_)
                have hP : va_P (dC, dI) vwCl (wM a cy I_31 J_32 S_36 L_34) H := by rw [eS_36]; exact setP hP (wM_setS2 _ _ _ _ _ _ _)
                have hD : va_D A (wM a cy I_31 J_32 S_36 L_34) := by rw [eS_36]; exact setD hD (wM_setS2 _ _ _ _ _ _ _)
                refine lv_goto (tgt := 230) hx hb dX8_goes_156 (by decide) ?_
                exact jB_16 I_31 J_32 S_36 L_34 _ _ _ hP hD hS (lv_sub hl [0, 1, 2, 3] rfl) h
              refine lv_icmp_eq (tgt := 150) hx hb dX8_goes_128 (by decide) (fun hc => ?_) (fun hc => ?_)
              · have h := h.1 hc
                exact jB_30 I_23 J_29 S_25 L_26 x_27 _ _ _ hP hD hS (lv_sub hl [1, 2, 3, 4, 5] rfl) h
              · have h := h.2 hc
                refine lv_aload_n hx hb dX8_goes_131 rfl (lv_at hl 1 rfl) ?_
                refine va_get (D := (dC, dI)) (ci := 8) (v := .ref (a 37)) (C := RX8) (T := TX8) (N := 47) hx hb hts nX8_goes_X8 hown hK hP 0 (wM_at0 _ _ _ _ _ _) rfl 40 (by decide) (hts (.fieldLink RX8 120 "SongOfficeModel" "toldPurse" "[J") kX8_goes_9) (fun _ h9 => h9) rfl dX8_goes_132 ?_
                refine lv_aload_n hx hb dX8_goes_135 rfl (lv_at hl 1 rfl) ?_
                refine va_get (D := (dC, dI)) (ci := 8) (v := .ref (a 31)) (C := RX8) (T := TX8) (N := 47) hx hb hts nX8_goes_X8 hown hK hP 0 (wM_at0 _ _ _ _ _ _) rfl 32 (by decide) (hts (.fieldLink RX8 102 "SongOfficeModel" "lineTold" "[I") kX8_goes_8) (fun _ h9 => h9) rfl dX8_goes_136 ?_
                refine lv_iload hx hb dX8_goes_139 (lv_at hl 5 rfl) ?_
                obtain ⟨hi, h⟩ := h
                refine va_iald hx hb hK hP 31 30 (wM_at31 _ _ _ _ _ _) rfl hi dX8_goes_141 ?_
                refine lv_aload_n hx hb dX8_goes_142 rfl (lv_at hl 1 rfl) ?_
                refine va_get (D := (dC, dI)) (ci := 8) (v := .ref (a 32)) (C := RX8) (T := TX8) (N := 47) hx hb hts nX8_goes_X8 hown hK hP 0 (wM_at0 _ _ _ _ _ _) rfl 33 (by decide) (hts (.fieldLink RX8 105 "SongOfficeModel" "lineLeft" "[J") kX8_goes_5) (fun _ h9 => h9) rfl dX8_goes_143 ?_
                refine lv_iload hx hb dX8_goes_146 (lv_at hl 5 rfl) ?_
                obtain ⟨hi, h⟩ := h
                refine va_lald hx hb hK hP 32 31 (wM_at32 _ _ _ _ _ _) rfl hi dX8_goes_148 ?_
                obtain ⟨hi, h⟩ := h
                obtain ⟨J_37, eJ_37⟩ : ∃ z : TJ, z = va_up J_29 37 (vp_updL (J_29 37) ((I_23 31 (x_27).toNatClampNeg)).toNatClampNeg (J_29 32 (x_27).toNatClampNeg)) := ⟨_, rfl⟩
                have h := h J_37 eJ_37
                refine va_last hx hb hK hP hD hS 37 36 (wM_at37 _ _ _ _ _ _) rfl hi dX8_goes_149 (fun H locs hP hD hS => ?_)
                have hP : va_P (dC, dI) vwCl (wM a cy I_23 J_37 S_25 L_26) H := by rw [eJ_37]; exact setP hP (wM_set37 _ _ _ _ _ _ _)
                have hD : va_D A (wM a cy I_23 J_37 S_25 L_26) := by rw [eJ_37]; exact setD hD (wM_set37 _ _ _ _ _ _ _)
                exact jB_30 I_23 J_37 S_25 L_26 x_27 _ _ _ hP hD hS (lv_sub hl [1, 2, 3, 4, 5] rfl) h
            refine lv_icmp_eq (tgt := 84) hx hb dX8_goes_69 (by decide) (fun hc => ?_) (fun hc => ?_)
            · have h := h.1 hc
              exact jB_22 I_10 J_11 S_12 L_13 x_14 _ _ _ hP hD hS (lv_sub hl [2, 3, 4, 5, 1] rfl) h
            · have h := h.2 hc
              refine lv_aload_n hx hb dX8_goes_72 rfl (lv_at hl 2 rfl) ?_
              refine va_get (D := (dC, dI)) (ci := 8) (v := .ref (a 32)) (C := RX8) (T := TX8) (N := 47) hx hb hts nX8_goes_X8 hown hK hP 0 (wM_at0 _ _ _ _ _ _) rfl 33 (by decide) (hts (.fieldLink RX8 105 "SongOfficeModel" "lineLeft" "[J") kX8_goes_5) (fun _ h9 => h9) rfl dX8_goes_73 ?_
              refine lv_iload hx hb dX8_goes_76 (lv_at hl 1 rfl) ?_
              obtain ⟨hi, h⟩ := h
              refine va_lald hx hb hK hP 32 31 (wM_at32 _ _ _ _ _ _) rfl hi dX8_goes_78 ?_
              refine lv_lconst (v := 0) hx hb dX8_goes_79 (by decide) ?_
              refine W.lcmp hx hb dX8_goes_80 ?_
              refine lv_if_ne (tgt := 159) hx hb dX8_goes_81 (by decide) (fun hc => ?_) (fun hc => ?_)
              · have h := h.1 hc
                refine lv_aload_n hx hb dX8_goes_159 rfl (lv_at hl 2 rfl) ?_
                refine va_get (D := (dC, dI)) (ci := 8) (v := .ref (a 30)) (C := RX8) (T := TX8) (N := 47) hx hb hts nX8_goes_X8 hown hK hP 0 (wM_at0 _ _ _ _ _ _) rfl 31 (by decide) (hts (.fieldLink RX8 99 "SongOfficeModel" "lineNext" "[I") kX8_goes_3) (fun _ h9 => h9) rfl dX8_goes_160 ?_
                refine lv_iload hx hb dX8_goes_163 (lv_at hl 1 rfl) ?_
                refine lv_iload hx hb dX8_goes_165 (lv_at hl 0 rfl) ?_
                refine lv_iconst (v := 1) hx hb dX8_goes_167 (by decide) ?_
                refine lv_iadd hx hb dX8_goes_168 ?_
                obtain ⟨hi, h⟩ := h
                obtain ⟨I_38, eI_38⟩ : ∃ z : TI, z = va_up I_10 30 (upd (I_10 30) (x_14).toNatClampNeg (x_15 + (1 : Int32))) := ⟨_, rfl⟩
                have h := h I_38 eI_38
                refine va_iast hx hb hK hP hD hS 30 29 (wM_at30 _ _ _ _ _ _) rfl hi dX8_goes_169 (fun H locs hP hD hS => ?_)
                have hP : va_P (dC, dI) vwCl (wM a cy I_38 J_11 S_12 L_13) H := by rw [eI_38]; exact setP hP (wM_set30 _ _ _ _ _ _ _)
                have hD : va_D A (wM a cy I_38 J_11 S_12 L_13) := by rw [eI_38]; exact setD hD (wM_set30 _ _ _ _ _ _ _)
                refine lv_aload_n hx hb dX8_goes_170 rfl (lv_at hl 2 rfl) ?_
                refine va_get (D := (dC, dI)) (ci := 8) (v := .ref (a 6)) (C := RX8) (T := TX8) (N := 47) hx hb hts nX8_goes_X8 hown hK hP 0 (wM_at0 _ _ _ _ _ _) rfl 7 (by decide) (hts (.fieldLink RX8 25 "SongOfficeModel" "hand" "[I") kX8_goes_10) (fun _ h9 => h9) rfl dX8_goes_171 ?_
                refine lv_iload hx hb dX8_goes_174 (lv_at hl 0 rfl) ?_
                obtain ⟨hi, h⟩ := h
                refine va_iald hx hb hK hP 6 5 (wM_at6 _ _ _ _ _ _) rfl hi dX8_goes_176 ?_
                refine lv_aload_n hx hb dX8_goes_177 rfl (lv_at hl 2 rfl) ?_
                refine va_get (D := (dC, dI)) (ci := 8) (v := .ref (a 29)) (C := RX8) (T := TX8) (N := 47) hx hb hts nX8_goes_X8 hown hK hP 0 (wM_at0 _ _ _ _ _ _) rfl 30 (by decide) (hts (.fieldLink RX8 96 "SongOfficeModel" "lineHand" "[I") kX8_goes_6) (fun _ h9 => h9) rfl dX8_goes_178 ?_
                refine lv_iload hx hb dX8_goes_181 (lv_at hl 1 rfl) ?_
                obtain ⟨hi, h⟩ := h
                refine va_iald hx hb hK hP 29 28 (wM_at29 _ _ _ _ _ _) rfl hi dX8_goes_183 ?_
                refine lv_icmp_ne (tgt := 230) hx hb dX8_goes_184 (by decide) (fun hc => ?_) (fun hc => ?_)
                · have h := h.1 hc
                  exact jB_16 I_38 J_11 S_12 L_13 _ _ _ hP hD hS (lv_sub hl [2, 3, 4, 5] rfl) h
                · have h := h.2 hc
                  refine lv_aload_n hx hb dX8_goes_187 rfl (lv_at hl 2 rfl) ?_
                  refine va_get (D := (dC, dI)) (ci := 8) (v := .ref (a 7)) (C := RX8) (T := TX8) (N := 47) hx hb hts nX8_goes_X8 hown hK hP 0 (wM_at0 _ _ _ _ _ _) rfl 8 (by decide) (hts (.fieldLink RX8 28 "SongOfficeModel" "works" "[I") kX8_goes_11) (fun _ h9 => h9) rfl dX8_goes_188 ?_
                  refine lv_iload hx hb dX8_goes_191 (lv_at hl 0 rfl) ?_
                  obtain ⟨hi, h⟩ := h
                  refine va_iald hx hb hK hP 7 6 (wM_at7 _ _ _ _ _ _) rfl hi dX8_goes_193 ?_
                  refine lv_iload_n hx hb dX8_goes_194 rfl (lv_at hl 5 rfl) ?_
                  refine lv_ishr hx hb dX8_goes_195 ?_
                  refine lv_iconst (v := 1) hx hb dX8_goes_196 (by decide) ?_
                  refine lv_iand hx hb dX8_goes_197 ?_
                  refine lv_iconst (v := 1) hx hb dX8_goes_198 (by decide) ?_
                  refine lv_icmp_ne (tgt := 230) hx hb dX8_goes_199 (by decide) (fun hc => ?_) (fun hc => ?_)
                  · have h := h.1 hc
                    exact jB_16 I_38 J_11 S_12 L_13 _ _ _ hP hD hS (lv_sub hl [2, 3, 4, 5] rfl) h
                  · have h := h.2 hc
                    refine lv_aload_n hx hb dX8_goes_202 rfl (lv_at hl 2 rfl) ?_
                    refine va_get (D := (dC, dI)) (ci := 8) (v := .ref (a 8)) (C := RX8) (T := TX8) (N := 47) hx hb hts nX8_goes_X8 hown hK hP 0 (wM_at0 _ _ _ _ _ _) rfl 9 (by decide) (hts (.fieldLink RX8 31 "SongOfficeModel" "since" "[I") kX8_goes_12) (fun _ h9 => h9) rfl dX8_goes_203 ?_
                    refine lv_iload hx hb dX8_goes_206 (lv_at hl 0 rfl) ?_
                    obtain ⟨hi, h⟩ := h
                    refine va_iald hx hb hK hP 8 7 (wM_at8 _ _ _ _ _ _) rfl hi dX8_goes_208 ?_
                    refine lv_bipush (v := 90) hx hb dX8_goes_209 (by decide) ?_
                    refine lv_iload_n hx hb dX8_goes_211 rfl (lv_at hl 4 rfl) ?_
                    refine lv_imul hx hb dX8_goes_212 ?_
                    refine lv_bipush (v := 89) hx hb dX8_goes_213 (by decide) ?_
                    refine lv_iadd hx hb dX8_goes_215 ?_
                    refine lv_icmp_gt (tgt := 230) hx hb dX8_goes_216 (by decide) (fun hc => ?_) (fun hc => ?_)
                    · have h := h.1 hc
                      exact jB_16 I_38 J_11 S_12 L_13 _ _ _ hP hD hS (lv_sub hl [2, 3, 4, 5] rfl) h
                    · have h := h.2 hc
                      refine lv_aload_n hx hb dX8_goes_219 rfl (lv_at hl 2 rfl) ?_
                      refine lv_iload_n hx hb dX8_goes_220 rfl (lv_at hl 3 rfl) ?_
                      refine lv_iload_n hx hb dX8_goes_221 rfl (lv_at hl 4 rfl) ?_
                      refine lv_iload_n hx hb dX8_goes_222 rfl (lv_at hl 5 rfl) ?_
                      refine lv_iload hx hb dX8_goes_223 (lv_at hl 0 rfl) ?_
                      refine lv_iload hx hb dX8_goes_225 (lv_at hl 1 rfl) ?_
                      refine gcallv (va_runV (As := [.int p0, .int p1, .int p2, .int x_15, .int x_14]) (rest := []) ⟨hx, hb, hml, hown, hts⟩ (c_X8_meets l dC dI a cy H.size I_38 J_11 S_12 L_13 p0 p1 p2 x_15 x_14 _ h) (cwV 5 hts gX8_goes_X8_meets rfl rfl rfl (by decide +kernel) ⟨(Nat.le_of_ble_eq_true rfl), (Nat.le_of_ble_eq_true rfl)⟩) (g_pV hP hK hD hN (va_recv hK hP (ci := 8) (q0 := 0) rfl (wM_at0 _ _ _ _ _ _)) [.int p0, .int p1, .int p2, .int x_15, .int x_14]) rfl rfl hl.1 rfl (lv_room (Nat.le_of_ble_eq_true rfl)) dX8_goes_227 ⟨(Nat.le_of_ble_eq_true rfl), (Nat.le_of_ble_eq_true rfl)⟩) hS hA hD (fun I_39 J_40 S_41 L_42 H locs hP hD hS h => ?_)
                      exact jB_16 I_39 J_40 S_41 L_42 _ _ _ hP hD hS (lv_sub hl [2, 3, 4, 5] rfl) h
              · have h := h.2 hc
                exact jB_22 I_10 J_11 S_12 L_13 x_14 _ _ _ hP hD hS (lv_sub hl [2, 3, 4, 5, 1] rfl) h
    exact lV_7 n_9 I_3 J_4 S_5 L_6 _ _ _ hP hD hS (lv_sub hl [0, 1, 2, 3] rfl) h0V_7
  · have h := h.2 hc
    exact grv hx hb hr hlocks hP hK hD hS h dX8_goes_12
def wp_X8_comes (I : TI) (J : TJ) (S : TS) (L : TL) (p0 : Int32) (p1 : Int32) (p2 : Int32) (p3 : Int32) (p4 : Int32) (Φ : TI → TJ → TS → TL → Prop) : Prop := wp_X8_setOn I J S L p2 p4 (fun (r_5 : Int32) (I_1 : TI) (J_2 : TJ) (S_3 : TS) (L_4 : TL) => (∃ V_6 : Nat → TI → TJ → TS → TL → Int32 → Int32 → Prop, (∃ n_8, V_6 n_8 I_1 J_2 S_3 L_4 r_5 (0 : Int32)) ∧ ∀ (n_7 : Nat) (I_9 : TI) (J_10 : TJ) (S_11 : TS) (L_12 : TL) (x_13 : Int32) (x_14 : Int32), V_6 n_7 I_9 J_10 S_11 L_12 x_13 x_14 → ((((3 : Int32) ≤ x_14) → (Φ I_9 J_10 S_11 L_12)) ∧ ((¬ (3 : Int32) ≤ x_14) → ((vp_in (((3 : Int32) * x_13) + x_14) 216) ∧ (∀ x_15 : Int32, x_15 = (I_9 3 ((((3 : Int32) * x_13) + x_14)).toNatClampNeg) → (∃ B_16 : TI → TJ → TS → TL → Int32 → Int32 → Prop, (∀ (I_17 : TI) (J_18 : TJ) (S_19 : TS) (L_20 : TL) (x_21 : Int32) (x_22 : Int32), B_16 I_17 J_18 S_19 L_20 x_21 x_22 → (∀ x_23 : Int32, x_23 = x_22 + 1 → (∃ n_24, n_24 < n_7 ∧ V_6 n_24 I_17 J_18 S_19 L_20 x_21 x_23))) ∧ (((x_15 = (-1 : Int32)) → (B_16 I_9 J_10 S_11 L_12 x_13 x_14)) ∧ ((¬ x_15 = (-1 : Int32)) → ((vp_in (((3 : Int32) * x_13) + x_14) 216) ∧ (wp_X8_goes I_9 J_10 S_11 L_12 p0 p1 p2 x_15 ((((p3).toInt64) * (((I_9 4 ((((3 : Int32) * x_13) + x_14)).toNatClampNeg)).toInt64)) * (1000 : Int64)) (fun (I_25 : TI) (J_26 : TJ) (S_27 : TS) (L_28 : TL) => (B_16 I_25 J_26 S_27 L_28 x_13 x_14)))))))))))))
theorem kX8_comes_3 : Cond.constantLong RX8 192 (1000) ∈ wsX8_comes := List.mem_of_getElem? (i := 3) rfl
theorem nX8_comes_X8 : ∀ w ∈ wsX80, w ∈ wsX8_comes := fun _ h => List.mem_cons_of_mem _ (List.mem_append_right _ h)
theorem kX8_comes_2 : Cond.fieldLink RX8 19 "SongOfficeModel" "setPart" "[I" ∈ wsX8_comes := List.mem_of_getElem? (i := 2) rfl
theorem kX8_comes_1 : Cond.fieldLink RX8 16 "SongOfficeModel" "setHand" "[I" ∈ wsX8_comes := List.mem_of_getElem? (i := 1) rfl
abbrev rmX8_comes : Room := { frames := 3, cells := 0, slots := 0, locals := 88 }
set_option maxHeartbeats 4000000 in
set_option maxRecDepth 100000 in
theorem c_X8_comes (l : Launch) (dC : Nat → ClassId) (dI : Nat → Nat → Nat) (a : Nat → Nat) (cy : Nat → ClassId) (sz : Nat) (I : TI) (J : TJ) (S : TS) (L : TL) (p0 : Int32) (p1 : Int32) (p2 : Int32) (p3 : Int32) (p4 : Int32) (Φ : TI → TJ → TS → TL → Prop) (h : wp_X8_comes I J S L p0 p1 p2 p3 p4 Φ) : Met l yX8_comes wsX8_comes rmX8_comes (va_Pc [.ref (a 0), .int p0, .int p1, .int p2, .int p3, .int p4] (gpre dC dI (wM a cy I J S L) (tyM cy) sz)) (gQv dC dI (wM a cy) (tyM cy) (va_A (wM a cy I J S L) sz) Φ) 0 0 (va_A (wM a cy I J S L) sz) := by
  refine Met.ofW (cc := cX8_comes) (maxL := 9) (ret := none) (by decide) rfl ?_
  intro p e s m args below meth c s₁ B hml hv
  obtain ⟨hargs, hsz, hP, hK, hD0, hN⟩ := hv
  have hx := B.exec
  have hb := B.bytes
  have hr := B.returns
  have hts := atoms_spec (ws := wsX8_comes) B.pre
  have hown : s.vm.findClass RX8 = some m.cls := findClass_of_methodNamed B.named
  have hlocks := B.notSynchronized
  subst hsz
  have hD := hD0.self (sz := s.heap.size)
  generalize hAe : va_A (wM a cy I J S L) s.heap.size = A at hD ⊢
  have hA : ∀ q : Nat, s.heap.size ≤ q → A q := fun q h => by rw [← hAe]; exact Or.inr h
  obtain ⟨H, hH⟩ : ∃ z : Heap, z = s.heap := ⟨_, rfl⟩
  rw [← hH] at hP
  have hS : va_S A s.heap H [] := by rw [hH]; exact va_S.rf
  have hl := lv_entry ([.ref (a 0), .int p0, .int p1, .int p2, .int p3, .int p4]) (n := 9) (Nat.le_of_ble_eq_true rfl)
  have hE : entryFrame m args 9 = F0 m 0 ((lg_sl ([.ref (a 0), .int p0, .int p1, .int p2, .int p3, .int p4]) ++ List.replicate (9 - (lg_sl ([.ref (a 0), .int p0, .int p1, .int p2, .int p3, .int p4])).length) Slot.unset).toArray) [] := by rw [hargs]; exact lg_entry_eq m _ _
  rw [hE, ← hH]
  clear hE
  generalize (lg_sl ([.ref (a 0), .int p0, .int p1, .int p2, .int p3, .int p4]) ++ List.replicate (9 - (lg_sl ([.ref (a 0), .int p0, .int p1, .int p2, .int p3, .int p4])).length) Slot.unset).toArray = ls at hl ⊢
  have hl : lv_has ls 9 [(0, .ref (a 0)), (1, .int p0), (2, .int p1), (3, .int p2), (4, .int p3), (5, .int p4)] := hl
  unfold wp_X8_comes at h
  refine lv_aload_n hx hb dX8_comes_0 rfl (lv_at hl 0 rfl) ?_
  refine lv_iload_n hx hb dX8_comes_1 rfl (lv_at hl 3 rfl) ?_
  refine lv_iload hx hb dX8_comes_2 (lv_at hl 5 rfl) ?_
  refine gcalli (va_runV (As := [.int p2, .int p4]) (rest := []) ⟨hx, hb, hml, hown, hts⟩ (c_X8_setOn l dC dI a cy H.size I J S L p2 p4 _ h) (cwV 2 hts gX8_comes_X8_setOn rfl rfl rfl (by decide +kernel) ⟨(Nat.le_of_ble_eq_true rfl), (Nat.le_of_ble_eq_true rfl)⟩) (g_pV hP hK hD hN (va_recv hK hP (ci := 8) (q0 := 0) rfl (wM_at0 _ _ _ _ _ _)) [.int p2, .int p4]) rfl rfl hl.1 rfl (lv_room (Nat.le_of_ble_eq_true rfl)) dX8_comes_4 ⟨(Nat.le_of_ble_eq_true rfl), (Nat.le_of_ble_eq_true rfl)⟩) hS hA hD (fun r_5 I_1 J_2 S_3 L_4 H locs hP hD hS h => ?_)
  refine lv_istore (lv' := [(6, .int r_5), (0, .ref (a 0)), (1, .int p0), (2, .int p1), (3, .int p2), (4, .int p3), (5, .int p4)]) hx hb dX8_comes_7 hl (by decide) rfl (fun ls hl => ?_)
  refine lv_iconst (v := 0) hx hb dX8_comes_9 (by decide) ?_
  refine lv_istore (lv' := [(7, .int (0 : Int32)), (6, .int r_5), (0, .ref (a 0)), (1, .int p0), (2, .int p1), (3, .int p2), (4, .int p3), (5, .int p4)]) hx hb dX8_comes_10 hl (by decide) rfl (fun ls hl => ?_)
  obtain ⟨V_6, ⟨n_8, h0V_6⟩, hV_6⟩ := h
  have lV_6 : ∀ (n_7 : Nat) (I_9 : TI) (J_10 : TJ) (S_11 : TS) (L_12 : TL) (x_13 : Int32) (x_14 : Int32) (H : Heap) (locs : List Loc) (ls : Array Slot), va_P (dC, dI) vwCl (wM a cy I_9 J_10 S_11 L_12) H → va_D A (wM a cy I_9 J_10 S_11 L_12) → va_S A s.heap H locs → lv_has ls 9 [(0, .ref (a 0)), (1, .int p0), (2, .int p1), (3, .int p2), (4, .int p3), (6, .int x_13), (7, .int x_14)] → V_6 n_7 I_9 J_10 S_11 L_12 x_13 x_14 → W p l e (headSpec wsX8_comes rmX8_comes).room s m args below meth c H locs 0 0 (MQ below (gQv dC dI (wM a cy) (tyM cy) A Φ) args s 0 0 A) (F0 m 12 ls []) := by
    intro n_7
    induction n_7 using Nat.strongRecOn with
    | ind n_7 ihV_6 =>
        intro I_9 J_10 S_11 L_12 x_13 x_14 H locs ls hP hD hS hl h
        have h := hV_6 n_7 I_9 J_10 S_11 L_12 x_13 x_14 h
        refine lv_iload hx hb dX8_comes_12 (lv_at hl 6 rfl) ?_
        refine lv_iconst (v := 3) hx hb dX8_comes_14 (by decide) ?_
        refine lv_icmp_ge (tgt := 74) hx hb dX8_comes_15 (by decide) (fun hc => ?_) (fun hc => ?_)
        · have h := h.1 hc
          exact grv hx hb hr hlocks hP hK hD hS h dX8_comes_74
        · have h := h.2 hc
          refine lv_aload_n hx hb dX8_comes_18 rfl (lv_at hl 0 rfl) ?_
          refine va_get (D := (dC, dI)) (ci := 8) (v := .ref (a 3)) (C := RX8) (T := TX8) (N := 47) hx hb hts nX8_comes_X8 hown hK hP 0 (wM_at0 _ _ _ _ _ _) rfl 3 (by decide) (hts (.fieldLink RX8 16 "SongOfficeModel" "setHand" "[I") kX8_comes_1) (fun _ h9 => h9) rfl dX8_comes_19 ?_
          refine lv_iconst (v := 3) hx hb dX8_comes_22 (by decide) ?_
          refine lv_iload hx hb dX8_comes_23 (lv_at hl 5 rfl) ?_
          refine lv_imul hx hb dX8_comes_25 ?_
          refine lv_iload hx hb dX8_comes_26 (lv_at hl 6 rfl) ?_
          refine lv_iadd hx hb dX8_comes_28 ?_
          obtain ⟨hi, h⟩ := h
          refine va_iald hx hb hK hP 3 2 (wM_at3 _ _ _ _ _ _) rfl hi dX8_comes_29 ?_
          refine lv_topi (fun x_15 ex_15 => ?_)
          have h := h x_15 ex_15
          refine lv_istore (lv' := [(8, .int x_15), (0, .ref (a 0)), (1, .int p0), (2, .int p1), (3, .int p2), (4, .int p3), (6, .int x_13), (7, .int x_14)]) hx hb dX8_comes_30 hl (by decide) rfl (fun ls hl => ?_)
          refine lv_iload hx hb dX8_comes_32 (lv_at hl 0 rfl) ?_
          refine lv_iconst (v := -1) hx hb dX8_comes_34 (by decide) ?_
          obtain ⟨B_16, hB_16, h⟩ := h
          have jB_16 : ∀ (I_17 : TI) (J_18 : TJ) (S_19 : TS) (L_20 : TL) (x_21 : Int32) (x_22 : Int32) (H : Heap) (locs : List Loc) (ls : Array Slot), va_P (dC, dI) vwCl (wM a cy I_17 J_18 S_19 L_20) H → va_D A (wM a cy I_17 J_18 S_19 L_20) → va_S A s.heap H locs → lv_has ls 9 [(0, .ref (a 0)), (1, .int p0), (2, .int p1), (3, .int p2), (4, .int p3), (6, .int x_21), (7, .int x_22)] → B_16 I_17 J_18 S_19 L_20 x_21 x_22 → W p l e (headSpec wsX8_comes rmX8_comes).room s m args below meth c H locs 0 0 (MQ below (gQv dC dI (wM a cy) (tyM cy) A Φ) args s 0 0 A) (F0 m 68 ls []) := by
            intro I_17 J_18 S_19 L_20 x_21 x_22 H locs ls hP hD hS hl h
            have h := hB_16 I_17 J_18 S_19 L_20 x_21 x_22 h
            obtain ⟨x_23, ex_23⟩ : ∃ z : Int32, z = x_22 + 1 := ⟨_, rfl⟩
            have h := h x_23 ex_23
            refine lv_iinc (v := x_23) (lv' := [(7, .int x_23), (0, .ref (a 0)), (1, .int p0), (2, .int p1), (3, .int p2), (4, .int p3), (6, .int x_21)]) hx hb dX8_comes_68 hl (k := 6) rfl (by rw [ex_23]; rfl) (by decide) rfl (fun ls hl => ?_)
            refine lv_goto (tgt := 12) hx hb dX8_comes_71 (by decide) ?_
            obtain ⟨n_24, hn2, h⟩ := h
            exact ihV_6 n_24 hn2 I_17 J_18 S_19 L_20 x_21 x_23 _ _ _ hP hD hS (lv_sub hl [1, 2, 3, 4, 5, 6, 0] rfl) h
          refine lv_icmp_eq (tgt := 68) hx hb dX8_comes_35 (by decide) (fun hc => ?_) (fun hc => ?_)
          · have h := h.1 hc
            exact jB_16 I_9 J_10 S_11 L_12 x_13 x_14 _ _ _ hP hD hS (lv_sub hl [1, 2, 3, 4, 5, 6, 7] rfl) h
          · have h := h.2 hc
            refine lv_aload_n hx hb dX8_comes_38 rfl (lv_at hl 1 rfl) ?_
            refine lv_iload_n hx hb dX8_comes_39 rfl (lv_at hl 2 rfl) ?_
            refine lv_iload_n hx hb dX8_comes_40 rfl (lv_at hl 3 rfl) ?_
            refine lv_iload_n hx hb dX8_comes_41 rfl (lv_at hl 4 rfl) ?_
            refine lv_iload hx hb dX8_comes_42 (lv_at hl 0 rfl) ?_
            refine lv_iload hx hb dX8_comes_44 (lv_at hl 5 rfl) ?_
            refine lv_i2l (v := ((p3).toInt64)) hx hb dX8_comes_46 rfl ?_
            refine lv_aload_n hx hb dX8_comes_47 rfl (lv_at hl 1 rfl) ?_
            refine va_get (D := (dC, dI)) (ci := 8) (v := .ref (a 4)) (C := RX8) (T := TX8) (N := 47) hx hb hts nX8_comes_X8 hown hK hP 0 (wM_at0 _ _ _ _ _ _) rfl 4 (by decide) (hts (.fieldLink RX8 19 "SongOfficeModel" "setPart" "[I") kX8_comes_2) (fun _ h9 => h9) rfl dX8_comes_48 ?_
            refine lv_iconst (v := 3) hx hb dX8_comes_51 (by decide) ?_
            refine lv_iload hx hb dX8_comes_52 (lv_at hl 6 rfl) ?_
            refine lv_imul hx hb dX8_comes_54 ?_
            refine lv_iload hx hb dX8_comes_55 (lv_at hl 7 rfl) ?_
            refine lv_iadd hx hb dX8_comes_57 ?_
            obtain ⟨hi, h⟩ := h
            refine va_iald hx hb hK hP 4 3 (wM_at4 _ _ _ _ _ _) rfl hi dX8_comes_58 ?_
            refine lv_i2l (v := (((I_9 4 ((((3 : Int32) * x_13) + x_14)).toNatClampNeg)).toInt64)) hx hb dX8_comes_59 rfl ?_
            refine lv_lmul hx hb dX8_comes_60 ?_
            refine lv_ldc2 (v := 1000) hx hb hown (hts (.constantLong RX8 192 (1000)) kX8_comes_3) dX8_comes_61 ?_
            refine lv_lmul hx hb dX8_comes_64 ?_
            refine gcallv (va_runV (As := [.int p0, .int p1, .int p2, .int x_15, .long ((((p3).toInt64) * (((I_9 4 ((((3 : Int32) * x_13) + x_14)).toNatClampNeg)).toInt64)) * (1000 : Int64))]) (rest := []) ⟨hx, hb, hml, hown, hts⟩ (c_X8_goes l dC dI a cy H.size I_9 J_10 S_11 L_12 p0 p1 p2 x_15 ((((p3).toInt64) * (((I_9 4 ((((3 : Int32) * x_13) + x_14)).toNatClampNeg)).toInt64)) * (1000 : Int64)) _ h) (cwV 5 hts gX8_comes_X8_goes rfl rfl rfl (by decide +kernel) ⟨(Nat.le_of_ble_eq_true rfl), (Nat.le_of_ble_eq_true rfl)⟩) (g_pV hP hK hD hN (va_recv hK hP (ci := 8) (q0 := 0) rfl (wM_at0 _ _ _ _ _ _)) [.int p0, .int p1, .int p2, .int x_15, .long ((((p3).toInt64) * (((I_9 4 ((((3 : Int32) * x_13) + x_14)).toNatClampNeg)).toInt64)) * (1000 : Int64))]) rfl rfl hl.1 rfl (lv_room (Nat.le_of_ble_eq_true rfl)) dX8_comes_65 ⟨(Nat.le_of_ble_eq_true rfl), (Nat.le_of_ble_eq_true rfl)⟩) hS hA hD (fun I_25 J_26 S_27 L_28 H locs hP hD hS h => ?_)
            exact jB_16 I_25 J_26 S_27 L_28 x_13 x_14 _ _ _ hP hD hS (lv_sub hl [1, 2, 3, 4, 5, 6, 7] rfl) h
  exact lV_6 n_8 I_1 J_2 S_3 L_4 r_5 (0 : Int32) _ _ _ hP hD hS (lv_sub hl [2, 3, 4, 5, 6, 1, 0] rfl) h0V_6
