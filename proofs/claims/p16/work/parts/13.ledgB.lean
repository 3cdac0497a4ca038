def wp_X2_takeSent (n0 n1 : Nat) (I : TI) (J : TJ) (S : TS) (L : TL) (p0 : Int32) (p1 : Int64) (Φ : TI → TJ → TS → TL → Prop) : Prop := ∃ V_1 : Nat → TI → TJ → TS → TL → Int64 → Int32 → Prop, (∃ n_3, V_1 n_3 I J S L p1 (0 : Int32)) ∧ ∀ (n_2 : Nat) (I_4 : TI) (J_5 : TJ) (S_6 : TS) (L_7 : TL) (y_8 : Int64) (x_9 : Int32), V_1 n_2 I_4 J_5 S_6 L_7 y_8 x_9 → (∃ B_10 : TI → TJ → TS → TL → Int64 → Prop, (∀ (I_11 : TI) (J_12 : TJ) (S_13 : TS) (L_14 : TL) (y_15 : Int64), B_10 I_11 J_12 S_13 L_14 y_15 → ((vp_in p0 12) ∧ ((vp_in p0 12) ∧ ∀ J_16 : TJ, J_16 = va_up J_12 27 (vp_updL (J_12 27) (p0).toNatClampNeg ((J_12 27 (p0).toNatClampNeg) + y_15)) → (∀ L_17 : TL, L_17 = va_up L_14 2 y_15 → (Φ I_11 J_16 S_13 L_17))))) ∧ ((((S_6 3) ≤ x_9) → (B_10 I_4 J_5 S_6 L_7 y_8)) ∧ ((¬ (S_6 3) ≤ x_9) → ((((lg_cmp y_8 (0 : Int64)) ≤ 0) → (B_10 I_4 J_5 S_6 L_7 y_8)) ∧ ((¬ (lg_cmp y_8 (0 : Int64)) ≤ 0) → (∃ V_18 : Nat → TI → TJ → TS → TL → Int64 → Int32 → Int32 → Prop, (∃ n_20, V_18 n_20 I_4 J_5 S_6 L_7 y_8 x_9 (0 : Int32)) ∧ ∀ (n_19 : Nat) (I_21 : TI) (J_22 : TJ) (S_23 : TS) (L_24 : TL) (y_25 : Int64) (x_26 : Int32) (x_27 : Int32), V_18 n_19 I_21 J_22 S_23 L_24 y_25 x_26 x_27 → ((((S_23 1) ≤ x_27) → (∀ x_28 : Int32, x_28 = x_26 + 1 → (∃ n_29, n_29 < n_2 ∧ V_1 n_29 I_21 J_22 S_23 L_24 y_25 x_28))) ∧ ((¬ (S_23 1) ≤ x_27) → (wp_X0_isReserveOf n0 n1 I_21 J_22 S_23 L_24 x_27 p0 (fun (r_34 : Int32) (I_30 : TI) (J_31 : TJ) (S_32 : TS) (L_33 : TL) => (∃ B_35 : TI → TJ → TS → TL → Int64 → Int32 → Int32 → Prop, (∀ (I_36 : TI) (J_37 : TJ) (S_38 : TS) (L_39 : TL) (y_40 : Int64) (x_41 : Int32) (x_42 : Int32), B_35 I_36 J_37 S_38 L_39 y_40 x_41 x_42 → (∀ x_43 : Int32, x_43 = x_42 + 1 → (∃ n_44, n_44 < n_19 ∧ V_18 n_44 I_36 J_37 S_38 L_39 y_40 x_41 x_43))) ∧ (((r_34 = 0) → (B_35 I_30 J_31 S_32 L_33 y_25 x_26 x_27)) ∧ ((¬ r_34 = 0) → ((vp_in ((x_27 * (40 : Int32)) + x_26) 960) ∧ (∀ y_45 : Int64, y_45 = (if (J_31 32 (((x_27 * (40 : Int32)) + x_26)).toNatClampNeg) < y_25 then (J_31 32 (((x_27 * (40 : Int32)) + x_26)).toNatClampNeg) else y_25) → ((vp_in ((x_27 * (40 : Int32)) + x_26) 960) ∧ ((vp_in ((x_27 * (40 : Int32)) + x_26) 960) ∧ ∀ J_46 : TJ, J_46 = va_up J_31 32 (vp_updL (J_31 32) (((x_27 * (40 : Int32)) + x_26)).toNatClampNeg ((J_31 32 (((x_27 * (40 : Int32)) + x_26)).toNatClampNeg) - y_45)) → (∀ y_47 : Int64, y_47 = (y_25 - y_45) → (B_35 I_30 J_46 S_32 L_33 y_47 x_26 x_27)))))))))))))))))))
theorem nX2_takeSent_X2 : ∀ w ∈ wsX20, w ∈ wsX2_takeSent := fun _ h => List.mem_cons_of_mem _ (List.mem_append_left _ (List.mem_append_right _ h))
theorem kX2_takeSent_10 : Cond.fieldLink RX2 150 "SongOffice$Ledger" "lacked" "J" ∈ wsX2_takeSent := List.mem_of_getElem? (i := 10) rfl
theorem kX2_takeSent_9 : Cond.fieldLink RX2 15 "SongOffice$Ledger" "debt" "[J" ∈ wsX2_takeSent := List.mem_of_getElem? (i := 9) rfl
theorem kX2_takeSent_4 : Cond.fieldLink RX2 31 "SongOffice$Ledger" "bags" "[J" ∈ wsX2_takeSent := List.mem_of_getElem? (i := 4) rfl
theorem kX2_takeSent_5 : Cond.methodLink RX2 147 Lib.MathLoose.min_long.x ∈ wsX2_takeSent := List.mem_of_getElem? (i := 5) rfl
theorem kX2_takeSent_6 : Cond.static Lib.MathLoose.min_long.x ∈ wsX2_takeSent := List.mem_of_getElem? (i := 6) rfl
theorem kX2_takeSent_7 : Cond.initialized "java/lang/Math" ∈ wsX2_takeSent := List.mem_of_getElem? (i := 7) rfl
theorem kX2_takeSent_8 : Cond.code Lib.MathLoose.min_long.x Lib.MathLoose.min_long.code 4 (some .long) ∈ wsX2_takeSent := List.mem_of_getElem? (i := 8) rfl
theorem kX2_takeSent_2 : Cond.fieldLink RX2 45 "SongOffice$Ledger" "bargains" "LSongOffice$BargainBook;" ∈ wsX2_takeSent := List.mem_of_getElem? (i := 2) rfl
theorem nX2_takeSent_X0 : ∀ w ∈ wsX00, w ∈ wsX2_takeSent := fun _ h => List.mem_cons_of_mem _ (List.mem_append_right _ h)
theorem kX2_takeSent_3 : Cond.fieldLink RX2 142 "SongOffice$BargainBook" "size" "I" ∈ wsX2_takeSent := List.mem_of_getElem? (i := 3) rfl
theorem kX2_takeSent_1 : Cond.fieldLink RX2 78 "SongOffice$Ledger" "closed" "I" ∈ wsX2_takeSent := List.mem_of_getElem? (i := 1) rfl
abbrev rmX2_takeSent : Room := { frames := 1, cells := 0, slots := 0, locals := 40 }
set_option maxHeartbeats 4000000 in
set_option maxRecDepth 100000 in
theorem c_X2_takeSent (l : Launch) (dC : Nat → ClassId) (dI : Nat → Nat → Nat) (a : Nat → Nat) (cy : Nat → ClassId) (n0 n1 : Nat) (sz : Nat) (I : TI) (J : TJ) (S : TS) (L : TL) (p0 : Int32) (p1 : Int64) (Φ : TI → TJ → TS → TL → Prop) (h : wp_X2_takeSent n0 n1 I J S L p0 p1 Φ) : Met l yX2_takeSent wsX2_takeSent rmX2_takeSent (va_Pc [.ref (a 25), .int p0, .long p1] (gpre dC dI (wL a cy n0 n1 I J S L) (tyL cy) sz)) (gQv dC dI (wL a cy n0 n1) (tyL cy) (va_A (wL a cy n0 n1 I J S L) sz) Φ) 0 0 (va_A (wL a cy n0 n1 I J S L) sz) := by
  refine Met.ofW (cc := cX2_takeSent) (maxL := 10) (ret := none) (by decide) rfl ?_
  intro p e s m args below meth c s₁ B hml hv
  obtain ⟨hargs, hsz, hP, hK, hD0, hN⟩ := hv
  have hx := B.exec
  have hb := B.bytes
  have hr := B.returns
  have hts := atoms_spec (ws := wsX2_takeSent) B.pre
  have hown : s.vm.findClass RX2 = some m.cls := findClass_of_methodNamed B.named
  have hlocks := B.notSynchronized
  subst hsz
  have hD := hD0.self (sz := s.heap.size)
  generalize hAe : va_A (wL a cy n0 n1 I J S L) s.heap.size = A at hD ⊢
  have hA : ∀ q : Nat, s.heap.size ≤ q → A q := fun q h => by rw [← hAe]; exact Or.inr h
  obtain ⟨H, hH⟩ : ∃ z : Heap, z = s.heap := ⟨_, rfl⟩
  rw [← hH] at hP
  have hS : va_S A s.heap H [] := by rw [hH]; exact va_S.rf
  have hl := lv_entry ([.ref (a 25), .int p0, .long p1]) (n := 10) (Nat.le_of_ble_eq_true rfl)
  have hE : entryFrame m args 10 = F0 m 0 ((lg_sl ([.ref (a 25), .int p0, .long p1]) ++ List.replicate (10 - (lg_sl ([.ref (a 25), .int p0, .long p1])).length) Slot.unset).toArray) [] := by rw [hargs]; exact lg_entry_eq m _ _
  rw [hE, ← hH]
  clear hE
  generalize (lg_sl ([.ref (a 25), .int p0, .long p1]) ++ List.replicate (10 - (lg_sl ([.ref (a 25), .int p0, .long p1])).length) Slot.unset).toArray = ls at hl ⊢
  have hl : lv_has ls 10 [(0, .ref (a 25)), (1, .int p0), (2, .long p1)] := hl
  unfold wp_X2_takeSent at h
  refine lv_lload_n hx hb dX2_takeSent_0 rfl (lv_at hl 2 rfl) ?_
  refine lv_lstore (lv' := [(4, .long p1), (0, .ref (a 25)), (1, .int p0), (2, .long p1)]) hx hb dX2_takeSent_1 hl (by decide) rfl (fun ls hl => ?_)
  refine lv_iconst (v := 0) hx hb dX2_takeSent_3 (by decide) ?_
  refine lv_istore (lv' := [(6, .int (0 : Int32)), (4, .long p1), (0, .ref (a 25)), (1, .int p0), (2, .long p1)]) hx hb dX2_takeSent_4 hl (by decide) rfl (fun ls hl => ?_)
  obtain ⟨V_1, ⟨n_3, h0V_1⟩, hV_1⟩ := h
  have lV_1 : ∀ (n_2 : Nat) (I_4 : TI) (J_5 : TJ) (S_6 : TS) (L_7 : TL) (y_8 : Int64) (x_9 : Int32) (H : Heap) (locs : List Loc) (ls : Array Slot), va_P (dC, dI) vwCl (wL a cy n0 n1 I_4 J_5 S_6 L_7) H → va_D A (wL a cy n0 n1 I_4 J_5 S_6 L_7) → va_S A s.heap H locs → lv_has ls 10 [(0, .ref (a 25)), (1, .int p0), (4, .long y_8), (6, .int x_9)] → V_1 n_2 I_4 J_5 S_6 L_7 y_8 x_9 → W p l e (headSpec wsX2_takeSent rmX2_takeSent).room s m args below meth c H locs 0 0 (MQ below (gQv dC dI (wL a cy n0 n1) (tyL cy) A Φ) args s 0 0 A) (F0 m 6 ls []) := by
    intro n_2
    induction n_2 using Nat.strongRecOn with
    | ind n_2 ihV_1 =>
        intro I_4 J_5 S_6 L_7 y_8 x_9 H locs ls hP hD hS hl h
        have h := hV_1 n_2 I_4 J_5 S_6 L_7 y_8 x_9 h
        refine lv_iload hx hb dX2_takeSent_6 (lv_at hl 3 rfl) ?_
        refine lv_aload_n hx hb dX2_takeSent_8 rfl (lv_at hl 0 rfl) ?_
        refine va_get (D := (dC, dI)) (ci := 2) (v := .int (S_6 3)) (C := RX2) (T := TX2) (N := 16) hx hb hts nX2_takeSent_X2 hown hK hP 25 (wL_at25 _ _ _ _ _ _ _ _) rfl 10 (by decide) (hts (.fieldLink RX2 78 "SongOffice$Ledger" "closed" "I") kX2_takeSent_1) (fun _ h9 => h9) rfl dX2_takeSent_9 ?_
        obtain ⟨B_10, hB_10, h⟩ := h
        have jB_10 : ∀ (I_11 : TI) (J_12 : TJ) (S_13 : TS) (L_14 : TL) (y_15 : Int64) (H : Heap) (locs : List Loc) (ls : Array Slot), va_P (dC, dI) vwCl (wL a cy n0 n1 I_11 J_12 S_13 L_14) H → va_D A (wL a cy n0 n1 I_11 J_12 S_13 L_14) → va_S A s.heap H locs → lv_has ls 10 [(0, .ref (a 25)), (1, .int p0), (4, .long y_15)] → B_10 I_11 J_12 S_13 L_14 y_15 → W p l e (headSpec wsX2_takeSent rmX2_takeSent).room s m args below meth c H locs 0 0 (MQ below (gQv dC dI (wL a cy n0 n1) (tyL cy) A Φ) args s 0 0 A) (F0 m 107 ls []) := by
          intro I_11 J_12 S_13 L_14 y_15 H locs ls hP hD hS hl h
          have h := hB_10 I_11 J_12 S_13 L_14 y_15 h
          refine lv_aload_n hx hb dX2_takeSent_107 rfl (lv_at hl 0 rfl) ?_
          refine va_get (D := (dC, dI)) (ci := 2) (v := .ref (a 27)) (C := RX2) (T := TX2) (N := 16) hx hb hts nX2_takeSent_X2 hown hK hP 25 (wL_at25 _ _ _ _ _ _ _ _) rfl 1 (by decide) (hts (.fieldLink RX2 15 "SongOffice$Ledger" "debt" "[J") kX2_takeSent_9) (fun _ h9 => h9) rfl dX2_takeSent_108 ?_
          refine lv_iload_n hx hb dX2_takeSent_111 rfl (lv_at hl 1 rfl) ?_
          refine lv_dup2_11 hx hb dX2_takeSent_112 rfl rfl ?_
          obtain ⟨hi, h⟩ := h
          refine va_lald hx hb hK hP 27 22 (wL_at27 _ _ _ _ _ _ _ _) rfl hi dX2_takeSent_113 ?_
          refine lv_lload hx hb dX2_takeSent_114 (lv_at hl 2 rfl) ?_
          refine lv_ladd hx hb dX2_takeSent_116 ?_
          obtain ⟨hi, h⟩ := h
          obtain ⟨J_16, eJ_16⟩ : ∃ z : TJ, z = va_up J_12 27 (vp_updL (J_12 27) (p0).toNatClampNeg ((J_12 27 (p0).toNatClampNeg) + y_15)) := ⟨_, rfl⟩
          have h := h J_16 eJ_16
          refine va_last hx hb hK hP hD hS 27 22 (wL_at27 _ _ _ _ _ _ _ _) rfl hi dX2_takeSent_117 (fun H locs hP hD hS => ?_)
          have hP : va_P (dC, dI) vwCl (wL a cy n0 n1 I_11 J_16 S_13 L_14) H := by rw [eJ_16]; exact setP hP (wL_set27 _ _ _ _ _ _ _ _ _)
          have hD : va_D A (wL a cy n0 n1 I_11 J_16 S_13 L_14) := by rw [eJ_16]; exact setD hD (wL_set27 _ _ _ _ _ _ _ _ _)
          refine lv_aload_n hx hb dX2_takeSent_118 rfl (lv_at hl 0 rfl) ?_
          refine lv_lload hx hb dX2_takeSent_119 (lv_at hl 2 rfl) ?_
          obtain ⟨L_17, eL_17⟩ : ∃ z : TL, z = va_up L_14 2 y_15 := ⟨_, rfl⟩
          have h := h L_17 eL_17
          refine va_put (D := (dC, dI)) (ci := 2) (v := .long y_15) (ty := .long) (C := RX2) (T := TX2) (N := 16) hx hb hts nX2_takeSent_X2 tyX2 tyX2_ok nmX2 hown hK hP hD hS 25 (wL_at25 _ _ _ _ _ _ _ _) rfl 9 (by decide) (hts (.fieldLink RX2 150 "SongOffice$Ledger" "lacked" "J") kX2_takeSent_10) (fun _ h9 => h9) rfl (by decide +kernel) rfl rfl (Nat.le_of_ble_eq_true rfl) dX2_takeSent_121 (fun H locs hP hD hS => ?_)
          have hP : va_P (dC, dI) vwCl (wL a cy n0 n1 I_11 J_16 S_13 L_17) H := by rw [eL_17]; exact setP hP (wL_setL2 _ _ _ _ _ _ _ _ _)
          have hD : va_D A (wL a cy n0 n1 I_11 J_16 S_13 L_17) := by rw [eL_17]; exact setD hD (wL_setL2 _ _ _ _ _ _ _ _ _)
          exact grv hx hb hr hlocks hP hK hD hS h dX2_takeSent_124
        refine lv_icmp_ge (tgt := 107) hx hb dX2_takeSent_12 (by decide) (fun hc => ?_) (fun hc => ?_)
        · have h := h.1 hc
          exact jB_10 I_4 J_5 S_6 L_7 y_8 _ _ _ hP hD hS (lv_sub hl [0, 1, 2] rfl) h
        · have h := h.2 hc
          refine lv_lload hx hb dX2_takeSent_15 (lv_at hl 2 rfl) ?_
          refine lv_lconst (v := 0) hx hb dX2_takeSent_17 (by decide) ?_
          refine W.lcmp hx hb dX2_takeSent_18 ?_
          refine lv_if_le (tgt := 107) hx hb dX2_takeSent_19 (by decide) (fun hc => ?_) (fun hc => ?_)
          · have h := h.1 hc
            exact jB_10 I_4 J_5 S_6 L_7 y_8 _ _ _ hP hD hS (lv_sub hl [0, 1, 2] rfl) h
          · have h := h.2 hc
            refine lv_iconst (v := 0) hx hb dX2_takeSent_22 (by decide) ?_
            refine lv_istore (lv' := [(7, .int (0 : Int32)), (0, .ref (a 25)), (1, .int p0), (4, .long y_8), (6, .int x_9)]) hx hb dX2_takeSent_23 hl (by decide) rfl (fun ls hl => ?_)
            obtain ⟨V_18, ⟨n_20, h0V_18⟩, hV_18⟩ := h
            have lV_18 : ∀ (n_19 : Nat) (I_21 : TI) (J_22 : TJ) (S_23 : TS) (L_24 : TL) (y_25 : Int64) (x_26 : Int32) (x_27 : Int32) (H : Heap) (locs : List Loc) (ls : Array Slot), va_P (dC, dI) vwCl (wL a cy n0 n1 I_21 J_22 S_23 L_24) H → va_D A (wL a cy n0 n1 I_21 J_22 S_23 L_24) → va_S A s.heap H locs → lv_has ls 10 [(0, .ref (a 25)), (1, .int p0), (4, .long y_25), (6, .int x_26), (7, .int x_27)] → V_18 n_19 I_21 J_22 S_23 L_24 y_25 x_26 x_27 → W p l e (headSpec wsX2_takeSent rmX2_takeSent).room s m args below meth c H locs 0 0 (MQ below (gQv dC dI (wL a cy n0 n1) (tyL cy) A Φ) args s 0 0 A) (F0 m 25 ls []) := by
              intro n_19
              induction n_19 using Nat.strongRecOn with
              | ind n_19 ihV_18 =>
                  intro I_21 J_22 S_23 L_24 y_25 x_26 x_27 H locs ls hP hD hS hl h
                  have h := hV_18 n_19 I_21 J_22 S_23 L_24 y_25 x_26 x_27 h
                  refine lv_iload hx hb dX2_takeSent_25 (lv_at hl 4 rfl) ?_
                  refine lv_aload_n hx hb dX2_takeSent_27 rfl (lv_at hl 0 rfl) ?_
                  refine va_get (D := (dC, dI)) (ci := 2) (v := .ref (a 5)) (C := RX2) (T := TX2) (N := 16) hx hb hts nX2_takeSent_X2 hown hK hP 25 (wL_at25 _ _ _ _ _ _ _ _) rfl 13 (by decide) (hts (.fieldLink RX2 45 "SongOffice$Ledger" "bargains" "LSongOffice$BargainBook;") kX2_takeSent_2) (fun _ h9 => h9) rfl dX2_takeSent_28 ?_
                  refine va_get (D := (dC, dI)) (ci := 0) (v := .int (S_23 1)) (C := RX0) (T := TX0) (N := 9) hx hb hts nX2_takeSent_X0 hown hK hP 5 (wL_at5 _ _ _ _ _ _ _ _) rfl 8 (by decide) (hts (.fieldLink RX2 142 "SongOffice$BargainBook" "size" "I") kX2_takeSent_3) (fun _ h9 => h9) rfl dX2_takeSent_31 ?_
                  refine lv_icmp_ge (tgt := 101) hx hb dX2_takeSent_34 (by decide) (fun hc => ?_) (fun hc => ?_)
                  · have h := h.1 hc
                    obtain ⟨x_28, ex_28⟩ : ∃ z : Int32, z = x_26 + 1 := ⟨_, rfl⟩
                    have h := h x_28 ex_28
                    refine lv_iinc (v := x_28) (lv' := [(6, .int x_28), (0, .ref (a 25)), (1, .int p0), (4, .long y_25), (7, .int x_27)]) hx hb dX2_takeSent_101 hl (k := 3) rfl (by rw [ex_28]; rfl) (by decide) rfl (fun ls hl => ?_)
                    refine lv_goto (tgt := 6) hx hb dX2_takeSent_104 (by decide) ?_
                    obtain ⟨n_29, hn2, h⟩ := h
                    exact ihV_1 n_29 hn2 I_21 J_22 S_23 L_24 y_25 x_28 _ _ _ hP hD hS (lv_sub hl [1, 2, 3, 0] rfl) h
                  · have h := h.2 hc
                    refine lv_aload_n hx hb dX2_takeSent_37 rfl (lv_at hl 0 rfl) ?_
                    refine va_get (D := (dC, dI)) (ci := 2) (v := .ref (a 5)) (C := RX2) (T := TX2) (N := 16) hx hb hts nX2_takeSent_X2 hown hK hP 25 (wL_at25 _ _ _ _ _ _ _ _) rfl 13 (by decide) (hts (.fieldLink RX2 45 "SongOffice$Ledger" "bargains" "LSongOffice$BargainBook;") kX2_takeSent_2) (fun _ h9 => h9) rfl dX2_takeSent_38 ?_
                    refine lv_iload hx hb dX2_takeSent_41 (lv_at hl 4 rfl) ?_
                    refine lv_iload_n hx hb dX2_takeSent_43 rfl (lv_at hl 1 rfl) ?_
                    refine gcalli (va_runV (As := [.int x_27, .int p0]) (rest := []) ⟨hx, hb, hml, hown, hts⟩ (c_X0_isReserveOf l dC dI a cy n0 n1 H.size I_21 J_22 S_23 L_24 x_27 p0 _ h) (cwV 2 hts gX2_takeSent_X0_isReserveOf rfl rfl rfl (by decide +kernel) ⟨(Nat.le_of_ble_eq_true rfl), (Nat.le_of_ble_eq_true rfl)⟩) (g_pV hP hK hD hN (va_recv hK hP (ci := 0) (q0 := 5) rfl (wL_at5 _ _ _ _ _ _ _ _)) [.int x_27, .int p0]) rfl rfl hl.1 rfl (lv_room (Nat.le_of_ble_eq_true rfl)) dX2_takeSent_44 ⟨(Nat.le_of_ble_eq_true rfl), (Nat.le_of_ble_eq_true rfl)⟩) hS hA hD (fun r_34 I_30 J_31 S_32 L_33 H locs hP hD hS h => ?_)
                    obtain ⟨B_35, hB_35, h⟩ := h
                    have jB_35 : ∀ (I_36 : TI) (J_37 : TJ) (S_38 : TS) (L_39 : TL) (y_40 : Int64) (x_41 : Int32) (x_42 : Int32) (H : Heap) (locs : List Loc) (ls : Array Slot), va_P (dC, dI) vwCl (wL a cy n0 n1 I_36 J_37 S_38 L_39) H → va_D A (wL a cy n0 n1 I_36 J_37 S_38 L_39) → va_S A s.heap H locs → lv_has ls 10 [(0, .ref (a 25)), (1, .int p0), (4, .long y_40), (6, .int x_41), (7, .int x_42)] → B_35 I_36 J_37 S_38 L_39 y_40 x_41 x_42 → W p l e (headSpec wsX2_takeSent rmX2_takeSent).room s m args below meth c H locs 0 0 (MQ below (gQv dC dI (wL a cy n0 n1) (tyL cy) A Φ) args s 0 0 A) (F0 m 95 ls []) := by
                      intro I_36 J_37 S_38 L_39 y_40 x_41 x_42 H locs ls hP hD hS hl h
                      have h := hB_35 I_36 J_37 S_38 L_39 y_40 x_41 x_42 h
                      obtain ⟨x_43, ex_43⟩ : ∃ z : Int32, z = x_42 + 1 := ⟨_, rfl⟩
                      have h := h x_43 ex_43
                      refine lv_iinc (v := x_43) (lv' := [(7, .int x_43), (0, .ref (a 25)), (1, .int p0), (4, .long y_40), (6, .int x_41)]) hx hb dX2_takeSent_95 hl (k := 4) rfl (by rw [ex_43]; rfl) (by decide) rfl (fun ls hl => ?_)
                      refine lv_goto (tgt := 25) hx hb dX2_takeSent_98 (by decide) ?_
                      obtain ⟨n_44, hn2, h⟩ := h
                      exact ihV_18 n_44 hn2 I_36 J_37 S_38 L_39 y_40 x_41 x_43 _ _ _ hP hD hS (lv_sub hl [1, 2, 3, 4, 0] rfl) h
                    refine lv_if_eq (tgt := 95) hx hb dX2_takeSent_47 (by decide) (fun hc => ?_) (fun hc => ?_)
                    · have h := h.1 hc
                      exact jB_35 I_30 J_31 S_32 L_33 y_25 x_26 x_27 _ _ _ hP hD hS (lv_sub hl [0, 1, 2, 3, 4] rfl) h
                    · have h := h.2 hc
                      refine lv_lload hx hb dX2_takeSent_50 (lv_at hl 2 rfl) ?_
                      refine lv_aload_n hx hb dX2_takeSent_52 rfl (lv_at hl 0 rfl) ?_
                      refine va_get (D := (dC, dI)) (ci := 2) (v := .ref (a 32)) (C := RX2) (T := TX2) (N := 16) hx hb hts nX2_takeSent_X2 hown hK hP 25 (wL_at25 _ _ _ _ _ _ _ _) rfl 6 (by decide) (hts (.fieldLink RX2 31 "SongOffice$Ledger" "bags" "[J") kX2_takeSent_4) (fun _ h9 => h9) rfl dX2_takeSent_53 ?_
                      refine lv_iload hx hb dX2_takeSent_56 (lv_at hl 4 rfl) ?_
                      refine lv_bipush (v := 40) hx hb dX2_takeSent_58 (by decide) ?_
                      refine lv_imul hx hb dX2_takeSent_60 ?_
                      refine lv_iload hx hb dX2_takeSent_61 (lv_at hl 3 rfl) ?_
                      refine lv_iadd hx hb dX2_takeSent_63 ?_
                      obtain ⟨hi, h⟩ := h
                      refine va_lald hx hb hK hP 32 27 (wL_at32 _ _ _ _ _ _ _ _) rfl hi dX2_takeSent_64 ?_
                      refine va_mmin_long hx hb (hml.trans hl.1.symm) hown (hts (.methodLink RX2 147 Lib.MathLoose.min_long.x) kX2_takeSent_5) (hts (.static Lib.MathLoose.min_long.x) kX2_takeSent_6) (hts (.initialized "java/lang/Math") kX2_takeSent_7) (hts (.code Lib.MathLoose.min_long.x Lib.MathLoose.min_long.code 4 (some .long)) kX2_takeSent_8) (Nat.le_of_ble_eq_true rfl) (Nat.le_of_ble_eq_true rfl) (Nat.le_of_ble_eq_true rfl) (Nat.le_of_ble_eq_true rfl) dX2_takeSent_65 ?_
                      refine lv_topl (fun y_45 ey_45 => ?_)
                      have h := h y_45 ey_45
                      refine lv_lstore (lv' := [(8, .long y_45), (0, .ref (a 25)), (1, .int p0), (4, .long y_25), (6, .int x_26), (7, .int x_27)]) hx hb dX2_takeSent_68 hl (by decide) rfl (fun ls hl => ?_)
                      refine lv_aload_n hx hb dX2_takeSent_70 rfl (lv_at hl 1 rfl) ?_
                      refine va_get (D := (dC, dI)) (ci := 2) (v := .ref (a 32)) (C := RX2) (T := TX2) (N := 16) hx hb hts nX2_takeSent_X2 hown hK hP 25 (wL_at25 _ _ _ _ _ _ _ _) rfl 6 (by decide) (hts (.fieldLink RX2 31 "SongOffice$Ledger" "bags" "[J") kX2_takeSent_4) (fun _ h9 => h9) rfl dX2_takeSent_71 ?_
                      refine lv_iload hx hb dX2_takeSent_74 (lv_at hl 5 rfl) ?_
                      refine lv_bipush (v := 40) hx hb dX2_takeSent_76 (by decide) ?_
                      refine lv_imul hx hb dX2_takeSent_78 ?_
                      refine lv_iload hx hb dX2_takeSent_79 (lv_at hl 4 rfl) ?_
                      refine lv_iadd hx hb dX2_takeSent_81 ?_
                      refine lv_dup2_11 hx hb dX2_takeSent_82 rfl rfl ?_
                      obtain ⟨hi, h⟩ := h
                      refine va_lald hx hb hK hP 32 27 (wL_at32 _ _ _ _ _ _ _ _) rfl hi dX2_takeSent_83 ?_
                      refine lv_lload hx hb dX2_takeSent_84 (lv_at hl 0 rfl) ?_
                      refine lv_lsub hx hb dX2_takeSent_86 ?_
                      obtain ⟨hi, h⟩ := h
                      obtain ⟨J_46, eJ_46⟩ : ∃ z : TJ, z = va_up J_31 32 (vp_updL (J_31 32) (((x_27 * (40 : Int32)) + x_26)).toNatClampNeg ((J_31 32 (((x_27 * (40 : Int32)) + x_26)).toNatClampNeg) - y_45)) := ⟨_, rfl⟩
                      have h := h J_46 eJ_46
                      refine va_last hx hb hK hP hD hS 32 27 (wL_at32 _ _ _ _ _ _ _ _) rfl hi dX2_takeSent_87 (fun H locs hP hD hS => ?_)
                      have hP : va_P (dC, dI) vwCl (wL a cy n0 n1 I_30 J_46 S_32 L_33) H := by rw [eJ_46]; exact setP hP (wL_set32 _ _ _ _ _ _ _ _ _)
                      have hD : va_D A (wL a cy n0 n1 I_30 J_46 S_32 L_33) := by rw [eJ_46]; exact setD hD (wL_set32 _ _ _ _ _ _ _ _ _)
                      refine lv_lload hx hb dX2_takeSent_88 (lv_at hl 3 rfl) ?_
                      refine lv_lload hx hb dX2_takeSent_90 (lv_at hl 0 rfl) ?_
                      refine lv_lsub hx hb dX2_takeSent_92 ?_
                      refine lv_topl (fun y_47 ey_47 => ?_)
                      have h := h y_47 ey_47
                      refine lv_lstore (lv' := [(4, .long y_47), (8, .long y_45), (0, .ref (a 25)), (1, .int p0), (6, .int x_26), (7, .int x_27)]) hx hb dX2_takeSent_93 hl (by decide) rfl (fun ls hl => ?_)
                      exact jB_35 I_30 J_46 S_32 L_33 y_47 x_26 x_27 _ _ _ hP hD hS (lv_sub hl [2, 3, 0, 4, 5] rfl) h
            exact lV_18 n_20 I_4 J_5 S_6 L_7 y_8 x_9 (0 : Int32) _ _ _ hP hD hS (lv_sub hl [1, 2, 3, 4, 0] rfl) h0V_18
  exact lV_1 n_3 I J S L p1 (0 : Int32) _ _ _ hP hD hS (lv_sub hl [2, 3, 1, 0] rfl) h0V_1
def wp_X2_takeSentOf (n0 n1 : Nat) (I : TI) (J : TJ) (S : TS) (L : TL) (p0 : Int32) (Φ : TI → TJ → TS → TL → Prop) : Prop := ∃ V_1 : Nat → TI → TJ → TS → TL → Prop, (∃ n_3, V_1 n_3 I J S L) ∧ ∀ (n_2 : Nat) (I_4 : TI) (J_5 : TJ) (S_6 : TS) (L_7 : TL), V_1 n_2 I_4 J_5 S_6 L_7 → (∃ B_8 : TI → TJ → TS → TL → Prop, (∀ (I_9 : TI) (J_10 : TJ) (S_11 : TS) (L_12 : TL), B_8 I_9 J_10 S_11 L_12 → (Φ I_9 J_10 S_11 L_12)) ∧ ((((S_6 2) ≤ (S_6 4)) → (B_8 I_4 J_5 S_6 L_7)) ∧ ((¬ (S_6 2) ≤ (S_6 4)) → ((vp_in (S_6 4) 60) ∧ (((¬ (I_4 24 ((S_6 4)).toNatClampNeg) = p0) → (B_8 I_4 J_5 S_6 L_7)) ∧ (((I_4 24 ((S_6 4)).toNatClampNeg) = p0) → ((vp_in (S_6 4) 60) ∧ ((vp_in (S_6 4) 60) ∧ (wp_X2_takeSent n0 n1 I_4 J_5 S_6 L_7 (I_4 22 ((S_6 4)).toNatClampNeg) ((((I_4 23 ((S_6 4)).toNatClampNeg)).toInt64) * (1000000 : Int64)) (fun (I_13 : TI) (J_14 : TJ) (S_15 : TS) (L_16 : TL) => (∀ S_17 : TS, S_17 = va_up S_15 4 ((S_15 4) + (1 : Int32)) → (∃ n_18, n_18 < n_2 ∧ V_1 n_18 I_13 J_14 S_17 L_16))))))))))))
theorem nX2_takeSentOf_X2 : ∀ w ∈ wsX20, w ∈ wsX2_takeSentOf := fun _ h => List.mem_cons_of_mem _ (List.mem_append_left _ (List.mem_append_left _ (List.mem_append_right _ h)))
theorem kX2_takeSentOf_1 : Cond.fieldLink RX2 82 "SongOffice$Ledger" "sentTaken" "I" ∈ wsX2_takeSentOf := List.mem_of_getElem? (i := 1) rfl
theorem kX2_takeSentOf_7 : Cond.constantLong RX2 110 (1000000) ∈ wsX2_takeSentOf := List.mem_of_getElem? (i := 7) rfl
theorem nX2_takeSentOf_X5 : ∀ w ∈ wsX50, w ∈ wsX2_takeSentOf := fun _ h => List.mem_cons_of_mem _ (List.mem_append_left _ (List.mem_append_right _ h))
theorem kX2_takeSentOf_6 : Cond.fieldLink RX2 135 "SongOffice$SentBook" "coins" "[I" ∈ wsX2_takeSentOf := List.mem_of_getElem? (i := 6) rfl
theorem kX2_takeSentOf_2 : Cond.fieldLink RX2 55 "SongOffice$Ledger" "sentBack" "LSongOffice$SentBook;" ∈ wsX2_takeSentOf := List.mem_of_getElem? (i := 2) rfl
theorem kX2_takeSentOf_5 : Cond.fieldLink RX2 132 "SongOffice$SentBook" "hands" "[I" ∈ wsX2_takeSentOf := List.mem_of_getElem? (i := 5) rfl
theorem kX2_takeSentOf_4 : Cond.fieldLink RX2 129 "SongOffice$SentBook" "terms" "[I" ∈ wsX2_takeSentOf := List.mem_of_getElem? (i := 4) rfl
theorem kX2_takeSentOf_3 : Cond.fieldLink RX2 124 "SongOffice$SentBook" "size" "I" ∈ wsX2_takeSentOf := List.mem_of_getElem? (i := 3) rfl
abbrev rmX2_takeSentOf : Room := { frames := 2, cells := 0, slots := 0, locals := 69 }
set_option maxHeartbeats 4000000 in
set_option maxRecDepth 100000 in
theorem c_X2_takeSentOf (l : Launch) (dC : Nat → ClassId) (dI : Nat → Nat → Nat) (a : Nat → Nat) (cy : Nat → ClassId) (n0 n1 : Nat) (sz : Nat) (I : TI) (J : TJ) (S : TS) (L : TL) (p0 : Int32) (Φ : TI → TJ → TS → TL → Prop) (h : wp_X2_takeSentOf n0 n1 I J S L p0 Φ) : Met l yX2_takeSentOf wsX2_takeSentOf rmX2_takeSentOf (va_Pc [.ref (a 25), .int p0] (gpre dC dI (wL a cy n0 n1 I J S L) (tyL cy) sz)) (gQv dC dI (wL a cy n0 n1) (tyL cy) (va_A (wL a cy n0 n1 I J S L) sz) Φ) 0 0 (va_A (wL a cy n0 n1 I J S L) sz) := by
  refine Met.ofW (cc := cX2_takeSentOf) (maxL := 2) (ret := none) (by decide) rfl ?_
  intro p e s m args below meth c s₁ B hml hv
  obtain ⟨hargs, hsz, hP, hK, hD0, hN⟩ := hv
  have hx := B.exec
  have hb := B.bytes
  have hr := B.returns
  have hts := atoms_spec (ws := wsX2_takeSentOf) B.pre
  have hown : s.vm.findClass RX2 = some m.cls := findClass_of_methodNamed B.named
  have hlocks := B.notSynchronized
  subst hsz
  have hD := hD0.self (sz := s.heap.size)
  generalize hAe : va_A (wL a cy n0 n1 I J S L) s.heap.size = A at hD ⊢
  have hA : ∀ q : Nat, s.heap.size ≤ q → A q := fun q h => by rw [← hAe]; exact Or.inr h
  obtain ⟨H, hH⟩ : ∃ z : Heap, z = s.heap := ⟨_, rfl⟩
  rw [← hH] at hP
  have hS : va_S A s.heap H [] := by rw [hH]; exact va_S.rf
  have hl := lv_entry ([.ref (a 25), .int p0]) (n := 2) (Nat.le_of_ble_eq_true rfl)
  have hE : entryFrame m args 2 = F0 m 0 ((lg_sl ([.ref (a 25), .int p0]) ++ List.replicate (2 - (lg_sl ([.ref (a 25), .int p0])).length) Slot.unset).toArray) [] := by rw [hargs]; exact lg_entry_eq m _ _
  rw [hE, ← hH]
  clear hE
  generalize (lg_sl ([.ref (a 25), .int p0]) ++ List.replicate (2 - (lg_sl ([.ref (a 25), .int p0])).length) Slot.unset).toArray = ls at hl ⊢
  have hl : lv_has ls 2 [(0, .ref (a 25)), (1, .int p0)] := hl
  unfold wp_X2_takeSentOf at h
  obtain ⟨V_1, ⟨n_3, h0V_1⟩, hV_1⟩ := h
  have lV_1 : ∀ (n_2 : Nat) (I_4 : TI) (J_5 : TJ) (S_6 : TS) (L_7 : TL) (H : Heap) (locs : List Loc) (ls : Array Slot), va_P (dC, dI) vwCl (wL a cy n0 n1 I_4 J_5 S_6 L_7) H → va_D A (wL a cy n0 n1 I_4 J_5 S_6 L_7) → va_S A s.heap H locs → lv_has ls 2 [(0, .ref (a 25)), (1, .int p0)] → V_1 n_2 I_4 J_5 S_6 L_7 → W p l e (headSpec wsX2_takeSentOf rmX2_takeSentOf).room s m args below meth c H locs 0 0 (MQ below (gQv dC dI (wL a cy n0 n1) (tyL cy) A Φ) args s 0 0 A) (F0 m 0 ls []) := by
    intro n_2
    induction n_2 using Nat.strongRecOn with
    | ind n_2 ihV_1 =>
        intro I_4 J_5 S_6 L_7 H locs ls hP hD hS hl h
        have h := hV_1 n_2 I_4 J_5 S_6 L_7 h
        refine lv_aload_n hx hb dX2_takeSentOf_0 rfl (lv_at hl 0 rfl) ?_
        refine va_get (D := (dC, dI)) (ci := 2) (v := .int (S_6 4)) (C := RX2) (T := TX2) (N := 16) hx hb hts nX2_takeSentOf_X2 hown hK hP 25 (wL_at25 _ _ _ _ _ _ _ _) rfl 11 (by decide) (hts (.fieldLink RX2 82 "SongOffice$Ledger" "sentTaken" "I") kX2_takeSentOf_1) (fun _ h9 => h9) rfl dX2_takeSentOf_1 ?_
        refine lv_aload_n hx hb dX2_takeSentOf_4 rfl (lv_at hl 0 rfl) ?_
        refine va_get (D := (dC, dI)) (ci := 2) (v := .ref (a 21)) (C := RX2) (T := TX2) (N := 16) hx hb hts nX2_takeSentOf_X2 hown hK hP 25 (wL_at25 _ _ _ _ _ _ _ _) rfl 15 (by decide) (hts (.fieldLink RX2 55 "SongOffice$Ledger" "sentBack" "LSongOffice$SentBook;") kX2_takeSentOf_2) (fun _ h9 => h9) rfl dX2_takeSentOf_5 ?_
        refine va_get (D := (dC, dI)) (ci := 5) (v := .int (S_6 2)) (C := RX5) (T := TX5) (N := 5) hx hb hts nX2_takeSentOf_X5 hown hK hP 21 (wL_at21 _ _ _ _ _ _ _ _) rfl 3 (by decide) (hts (.fieldLink RX2 124 "SongOffice$SentBook" "size" "I") kX2_takeSentOf_3) (fun _ h9 => h9) rfl dX2_takeSentOf_8 ?_
        obtain ⟨B_8, hB_8, h⟩ := h
        have jB_8 : ∀ (I_9 : TI) (J_10 : TJ) (S_11 : TS) (L_12 : TL) (H : Heap) (locs : List Loc) (ls : Array Slot), va_P (dC, dI) vwCl (wL a cy n0 n1 I_9 J_10 S_11 L_12) H → va_D A (wL a cy n0 n1 I_9 J_10 S_11 L_12) → va_S A s.heap H locs → lv_has ls 2 [] → B_8 I_9 J_10 S_11 L_12 → W p l e (headSpec wsX2_takeSentOf rmX2_takeSentOf).room s m args below meth c H locs 0 0 (MQ below (gQv dC dI (wL a cy n0 n1) (tyL cy) A Φ) args s 0 0 A) (F0 m 76 ls []) := by
          intro I_9 J_10 S_11 L_12 H locs ls hP hD hS hl h
          have h := hB_8 I_9 J_10 S_11 L_12 h
          exact grv hx hb hr hlocks hP hK hD hS h dX2_takeSentOf_76
        refine lv_icmp_ge (tgt := 76) hx hb dX2_takeSentOf_11 (by decide) (fun hc => ?_) (fun hc => ?_)
        · have h := h.1 hc
          exact jB_8 I_4 J_5 S_6 L_7 _ _ _ hP hD hS (lv_sub hl [] rfl) h
        · have h := h.2 hc
          refine lv_aload_n hx hb dX2_takeSentOf_14 rfl (lv_at hl 0 rfl) ?_
          refine va_get (D := (dC, dI)) (ci := 2) (v := .ref (a 21)) (C := RX2) (T := TX2) (N := 16) hx hb hts nX2_takeSentOf_X2 hown hK hP 25 (wL_at25 _ _ _ _ _ _ _ _) rfl 15 (by decide) (hts (.fieldLink RX2 55 "SongOffice$Ledger" "sentBack" "LSongOffice$SentBook;") kX2_takeSentOf_2) (fun _ h9 => h9) rfl dX2_takeSentOf_15 ?_
          refine va_get (D := (dC, dI)) (ci := 5) (v := .ref (a 24)) (C := RX5) (T := TX5) (N := 5) hx hb hts nX2_takeSentOf_X5 hown hK hP 21 (wL_at21 _ _ _ _ _ _ _ _) rfl 2 (by decide) (hts (.fieldLink RX2 129 "SongOffice$SentBook" "terms" "[I") kX2_takeSentOf_4) (fun _ h9 => h9) rfl dX2_takeSentOf_18 ?_
          refine lv_aload_n hx hb dX2_takeSentOf_21 rfl (lv_at hl 0 rfl) ?_
          refine va_get (D := (dC, dI)) (ci := 2) (v := .int (S_6 4)) (C := RX2) (T := TX2) (N := 16) hx hb hts nX2_takeSentOf_X2 hown hK hP 25 (wL_at25 _ _ _ _ _ _ _ _) rfl 11 (by decide) (hts (.fieldLink RX2 82 "SongOffice$Ledger" "sentTaken" "I") kX2_takeSentOf_1) (fun _ h9 => h9) rfl dX2_takeSentOf_22 ?_
          obtain ⟨hi, h⟩ := h
          refine va_iald hx hb hK hP 24 20 (wL_at24 _ _ _ _ _ _ _ _) rfl hi dX2_takeSentOf_25 ?_
          refine lv_iload_n hx hb dX2_takeSentOf_26 rfl (lv_at hl 1 rfl) ?_
          refine lv_icmp_ne (tgt := 76) hx hb dX2_takeSentOf_27 (by decide) (fun hc => ?_) (fun hc => ?_)
          · have h := h.1 hc
            exact jB_8 I_4 J_5 S_6 L_7 _ _ _ hP hD hS (lv_sub hl [] rfl) h
          · have h := h.2 hc
            refine lv_aload_n hx hb dX2_takeSentOf_30 rfl (lv_at hl 0 rfl) ?_
            refine lv_aload_n hx hb dX2_takeSentOf_31 rfl (lv_at hl 0 rfl) ?_
            refine va_get (D := (dC, dI)) (ci := 2) (v := .ref (a 21)) (C := RX2) (T := TX2) (N := 16) hx hb hts nX2_takeSentOf_X2 hown hK hP 25 (wL_at25 _ _ _ _ _ _ _ _) rfl 15 (by decide) (hts (.fieldLink RX2 55 "SongOffice$Ledger" "sentBack" "LSongOffice$SentBook;") kX2_takeSentOf_2) (fun _ h9 => h9) rfl dX2_takeSentOf_32 ?_
            refine va_get (D := (dC, dI)) (ci := 5) (v := .ref (a 22)) (C := RX5) (T := TX5) (N := 5) hx hb hts nX2_takeSentOf_X5 hown hK hP 21 (wL_at21 _ _ _ _ _ _ _ _) rfl 0 (by decide) (hts (.fieldLink RX2 132 "SongOffice$SentBook" "hands" "[I") kX2_takeSentOf_5) (fun _ h9 => h9) rfl dX2_takeSentOf_35 ?_
            refine lv_aload_n hx hb dX2_takeSentOf_38 rfl (lv_at hl 0 rfl) ?_
            refine va_get (D := (dC, dI)) (ci := 2) (v := .int (S_6 4)) (C := RX2) (T := TX2) (N := 16) hx hb hts nX2_takeSentOf_X2 hown hK hP 25 (wL_at25 _ _ _ _ _ _ _ _) rfl 11 (by decide) (hts (.fieldLink RX2 82 "SongOffice$Ledger" "sentTaken" "I") kX2_takeSentOf_1) (fun _ h9 => h9) rfl dX2_takeSentOf_39 ?_
            obtain ⟨hi, h⟩ := h
            refine va_iald hx hb hK hP 22 18 (wL_at22 _ _ _ _ _ _ _ _) rfl hi dX2_takeSentOf_42 ?_
            refine lv_aload_n hx hb dX2_takeSentOf_43 rfl (lv_at hl 0 rfl) ?_
            refine va_get (D := (dC, dI)) (ci := 2) (v := .ref (a 21)) (C := RX2) (T := TX2) (N := 16) hx hb hts nX2_takeSentOf_X2 hown hK hP 25 (wL_at25 _ _ _ _ _ _ _ _) rfl 15 (by decide) (hts (.fieldLink RX2 55 "SongOffice$Ledger" "sentBack" "LSongOffice$SentBook;") kX2_takeSentOf_2) (fun _ h9 => h9) rfl dX2_takeSentOf_44 ?_
            refine va_get (D := (dC, dI)) (ci := 5) (v := .ref (a 23)) (C := RX5) (T := TX5) (N := 5) hx hb hts nX2_takeSentOf_X5 hown hK hP 21 (wL_at21 _ _ _ _ _ _ _ _) rfl 1 (by decide) (hts (.fieldLink RX2 135 "SongOffice$SentBook" "coins" "[I") kX2_takeSentOf_6) (fun _ h9 => h9) rfl dX2_takeSentOf_47 ?_
            refine lv_aload_n hx hb dX2_takeSentOf_50 rfl (lv_at hl 0 rfl) ?_
            refine va_get (D := (dC, dI)) (ci := 2) (v := .int (S_6 4)) (C := RX2) (T := TX2) (N := 16) hx hb hts nX2_takeSentOf_X2 hown hK hP 25 (wL_at25 _ _ _ _ _ _ _ _) rfl 11 (by decide) (hts (.fieldLink RX2 82 "SongOffice$Ledger" "sentTaken" "I") kX2_takeSentOf_1) (fun _ h9 => h9) rfl dX2_takeSentOf_51 ?_
            obtain ⟨hi, h⟩ := h
            refine va_iald hx hb hK hP 23 19 (wL_at23 _ _ _ _ _ _ _ _) rfl hi dX2_takeSentOf_54 ?_
            refine lv_i2l (v := (((I_4 23 ((S_6 4)).toNatClampNeg)).toInt64)) hx hb dX2_takeSentOf_55 rfl ?_
            refine lv_ldc2 (v := 1000000) hx hb hown (hts (.constantLong RX2 110 (1000000)) kX2_takeSentOf_7) dX2_takeSentOf_56 ?_
            refine lv_lmul hx hb dX2_takeSentOf_59 ?_
            refine gcallv (va_runV (As := [.int (I_4 22 ((S_6 4)).toNatClampNeg), .long ((((I_4 23 ((S_6 4)).toNatClampNeg)).toInt64) * (1000000 : Int64))]) (rest := []) ⟨hx, hb, hml, hown, hts⟩ (c_X2_takeSent l dC dI a cy n0 n1 H.size I_4 J_5 S_6 L_7 (I_4 22 ((S_6 4)).toNatClampNeg) ((((I_4 23 ((S_6 4)).toNatClampNeg)).toInt64) * (1000000 : Int64)) _ h) (cwV 2 hts gX2_takeSentOf_X2_takeSent rfl rfl rfl (by decide +kernel) ⟨(Nat.le_of_ble_eq_true rfl), (Nat.le_of_ble_eq_true rfl)⟩) (g_pV hP hK hD hN (va_recv hK hP (ci := 2) (q0 := 25) rfl (wL_at25 _ _ _ _ _ _ _ _)) [.int (I_4 22 ((S_6 4)).toNatClampNeg), .long ((((I_4 23 ((S_6 4)).toNatClampNeg)).toInt64) * (1000000 : Int64))]) rfl rfl hl.1 rfl (lv_room (Nat.le_of_ble_eq_true rfl)) dX2_takeSentOf_60 ⟨(Nat.le_of_ble_eq_true rfl), (Nat.le_of_ble_eq_true rfl)⟩) hS hA hD (fun I_13 J_14 S_15 L_16 H locs hP hD hS h => ?_)
            refine lv_aload_n hx hb dX2_takeSentOf_63 rfl (lv_at hl 0 rfl) ?_
            refine lv_dup hx hb dX2_takeSentOf_64 rfl ?_
            refine va_get (D := (dC, dI)) (ci := 2) (v := .int (S_15 4)) (C := RX2) (T := TX2) (N := 16) hx hb hts nX2_takeSentOf_X2 hown hK hP 25 (wL_at25 _ _ _ _ _ _ _ _) rfl 11 (by decide) (hts (.fieldLink RX2 82 "SongOffice$Ledger" "sentTaken" "I") kX2_takeSentOf_1) (fun _ h9 => h9) rfl dX2_takeSentOf_65 ?_
            refine lv_iconst (v := 1) hx hb dX2_takeSentOf_68 (by decide) ?_
            refine lv_iadd hx hb dX2_takeSentOf_69 ?_
            obtain ⟨S_17, eS_17⟩ : ∃ z : TS, z = va_up S_15 4 ((S_15 4) + (1 : Int32)) := ⟨_, rfl⟩
            have h := h S_17 eS_17
            refine va_put (D := (dC, dI)) (ci := 2) (v := .int ((S_15 4) + (1 : Int32))) (ty := .int) (C := RX2) (T := TX2) (N := 16) hx hb hts nX2_takeSentOf_X2 tyX2 tyX2_ok nmX2 hown hK hP hD hS 25 (wL_at25 _ _ _ _ _ _ _ _) rfl 11 (by decide) (hts (.fieldLink RX2 82 "SongOffice$Ledger" "sentTaken" "I") kX2_takeSentOf_1) (fun _ h9 => h9) rfl (by decide +kernel) rfl rfl (Nat.le_of_ble_eq_true rfl) dX2_takeSentOf_70 (fun H locs hP hD hS => ?_)
            have hP : va_P (dC, dI) vwCl (wL a cy n0 n1 I_13 J_14 S_17 L_16) H := by rw [eS_17]; exact setP hP (wL_setS4 _ _ _ _ _ _ _ _ _)
            have hD : va_D A (wL a cy n0 n1 I_13 J_14 S_17 L_16) := by rw [eS_17]; exact setD hD (wL_setS4 _ _ _ _ _ _ _ _ _)
            refine lv_goto (tgt := 0) hx hb dX2_takeSentOf_73 (by decide) ?_
            obtain ⟨n_18, hn2, h⟩ := h
            exact ihV_1 n_18 hn2 I_13 J_14 S_17 L_16 _ _ _ hP hD hS (lv_sub hl [0, 1] rfl) h
  exact lV_1 n_3 I J S L _ _ _ hP hD hS (lv_sub hl [0, 1] rfl) h0V_1
def wp_X2_emptyOldBags (n0 n1 : Nat) (I : TI) (J : TJ) (S : TS) (L : TL) (Φ : TI → TJ → TS → TL → Prop) : Prop := ∃ V_1 : Nat → TI → TJ → TS → TL → Int32 → Prop, (∃ n_3, V_1 n_3 I J S L (0 : Int32)) ∧ ∀ (n_2 : Nat) (I_4 : TI) (J_5 : TJ) (S_6 : TS) (L_7 : TL) (x_8 : Int32), V_1 n_2 I_4 J_5 S_6 L_7 x_8 → ((((S_6 1) ≤ x_8) → (Φ I_4 J_5 S_6 L_7)) ∧ ((¬ (S_6 1) ≤ x_8) → ((vp_in x_8 24) ∧ (∃ B_9 : TI → TJ → TS → TL → Int32 → Prop, (∀ (I_10 : TI) (J_11 : TJ) (S_12 : TS) (L_13 : TL) (x_14 : Int32), B_9 I_10 J_11 S_12 L_13 x_14 → (∀ x_15 : Int32, x_15 = x_14 + 1 → (∃ n_16, n_16 < n_2 ∧ V_1 n_16 I_10 J_11 S_12 L_13 x_15))) ∧ (((¬ (I_4 6 (x_8).toNatClampNeg) = (4 : Int32)) → (B_9 I_4 J_5 S_6 L_7 x_8)) ∧ (((I_4 6 (x_8).toNatClampNeg) = (4 : Int32)) → ((vp_in x_8 24) ∧ ((((S_6 3) < (I_4 11 (x_8).toNatClampNeg)) → (B_9 I_4 J_5 S_6 L_7 x_8)) ∧ ((¬ (S_6 3) < (I_4 11 (x_8).toNatClampNeg)) → ((vp_in x_8 24) ∧ (∀ x_17 : Int32, x_17 = (((x_8 * (40 : Int32)) + (S_6 3)) - (I_4 11 (x_8).toNatClampNeg)) → ((vp_in x_8 24) ∧ ((vp_in (I_4 7 (x_8).toNatClampNeg) 12) ∧ ((vp_in x_17 960) ∧ ((vp_in (I_4 7 (x_8).toNatClampNeg) 12) ∧ ∀ J_18 : TJ, J_18 = va_up J_5 26 (vp_updL (J_5 26) ((I_4 7 (x_8).toNatClampNeg)).toNatClampNeg ((J_5 26 ((I_4 7 (x_8).toNatClampNeg)).toNatClampNeg) + (J_5 32 (x_17).toNatClampNeg))) → ((vp_in x_17 960) ∧ ∀ J_19 : TJ, J_19 = va_up J_18 32 (vp_updL (J_18 32) (x_17).toNatClampNeg (0 : Int64)) → (B_9 I_4 J_19 S_6 L_7 x_8)))))))))))))))))
theorem nX2_emptyOldBags_X2 : ∀ w ∈ wsX20, w ∈ wsX2_emptyOldBags := fun _ h => List.mem_cons_of_mem _ (List.mem_append_left _ (List.mem_append_right _ h))
theorem kX2_emptyOldBags_8 : Cond.fieldLink RX2 31 "SongOffice$Ledger" "bags" "[J" ∈ wsX2_emptyOldBags := List.mem_of_getElem? (i := 8) rfl
theorem nX2_emptyOldBags_X0 : ∀ w ∈ wsX00, w ∈ wsX2_emptyOldBags := fun _ h => List.mem_cons_of_mem _ (List.mem_append_right _ h)
theorem kX2_emptyOldBags_7 : Cond.fieldLink RX2 235 "SongOffice$BargainBook" "hands" "[I" ∈ wsX2_emptyOldBags := List.mem_of_getElem? (i := 7) rfl
theorem kX2_emptyOldBags_1 : Cond.fieldLink RX2 45 "SongOffice$Ledger" "bargains" "LSongOffice$BargainBook;" ∈ wsX2_emptyOldBags := List.mem_of_getElem? (i := 1) rfl
theorem kX2_emptyOldBags_6 : Cond.fieldLink RX2 9 "SongOffice$Ledger" "purse" "[J" ∈ wsX2_emptyOldBags := List.mem_of_getElem? (i := 6) rfl
theorem kX2_emptyOldBags_5 : Cond.fieldLink RX2 226 "SongOffice$BargainBook" "y" "[I" ∈ wsX2_emptyOldBags := List.mem_of_getElem? (i := 5) rfl
theorem kX2_emptyOldBags_4 : Cond.fieldLink RX2 78 "SongOffice$Ledger" "closed" "I" ∈ wsX2_emptyOldBags := List.mem_of_getElem? (i := 4) rfl
theorem kX2_emptyOldBags_3 : Cond.fieldLink RX2 116 "SongOffice$BargainBook" "kinds" "[I" ∈ wsX2_emptyOldBags := List.mem_of_getElem? (i := 3) rfl
theorem kX2_emptyOldBags_2 : Cond.fieldLink RX2 142 "SongOffice$BargainBook" "size" "I" ∈ wsX2_emptyOldBags := List.mem_of_getElem? (i := 2) rfl
abbrev rmX2_emptyOldBags : Room := { frames := 0, cells := 0, slots := 0, locals := 0 }
set_option maxHeartbeats 4000000 in
set_option maxRecDepth 100000 in
theorem c_X2_emptyOldBags (l : Launch) (dC : Nat → ClassId) (dI : Nat → Nat → Nat) (a : Nat → Nat) (cy : Nat → ClassId) (n0 n1 : Nat) (sz : Nat) (I : TI) (J : TJ) (S : TS) (L : TL) (Φ : TI → TJ → TS → TL → Prop) (h : wp_X2_emptyOldBags n0 n1 I J S L Φ) : Met l yX2_emptyOldBags wsX2_emptyOldBags rmX2_emptyOldBags (va_Pc [.ref (a 25)] (gpre dC dI (wL a cy n0 n1 I J S L) (tyL cy) sz)) (gQv dC dI (wL a cy n0 n1) (tyL cy) (va_A (wL a cy n0 n1 I J S L) sz) Φ) 0 0 (va_A (wL a cy n0 n1 I J S L) sz) := by
  refine Met.ofW (cc := cX2_emptyOldBags) (maxL := 3) (ret := none) (by decide) rfl ?_
  intro p e s m args below meth c s₁ B hml hv
  obtain ⟨hargs, hsz, hP, hK, hD0, hN⟩ := hv
  have hx := B.exec
  have hb := B.bytes
  have hr := B.returns
  have hts := atoms_spec (ws := wsX2_emptyOldBags) B.pre
  have hown : s.vm.findClass RX2 = some m.cls := findClass_of_methodNamed B.named
  have hlocks := B.notSynchronized
  subst hsz
  have hD := hD0.self (sz := s.heap.size)
  generalize hAe : va_A (wL a cy n0 n1 I J S L) s.heap.size = A at hD ⊢
  have hA : ∀ q : Nat, s.heap.size ≤ q → A q := fun q h => by rw [← hAe]; exact Or.inr h
  obtain ⟨H, hH⟩ : ∃ z : Heap, z = s.heap := ⟨_, rfl⟩
  rw [← hH] at hP
  have hS : va_S A s.heap H [] := by rw [hH]; exact va_S.rf
  have hl := lv_entry ([.ref (a 25)]) (n := 3) (Nat.le_of_ble_eq_true rfl)
  have hE : entryFrame m args 3 = F0 m 0 ((lg_sl ([.ref (a 25)]) ++ List.replicate (3 - (lg_sl ([.ref (a 25)])).length) Slot.unset).toArray) [] := by rw [hargs]; exact lg_entry_eq m _ _
  rw [hE, ← hH]
  clear hE
  generalize (lg_sl ([.ref (a 25)]) ++ List.replicate (3 - (lg_sl ([.ref (a 25)])).length) Slot.unset).toArray = ls at hl ⊢
  have hl : lv_has ls 3 [(0, .ref (a 25))] := hl
  unfold wp_X2_emptyOldBags at h
  refine lv_iconst (v := 0) hx hb dX2_emptyOldBags_0 (by decide) ?_
  refine lv_istore_n (lv' := [(1, .int (0 : Int32)), (0, .ref (a 25))]) hx hb dX2_emptyOldBags_1 rfl hl (by decide) rfl (fun ls hl => ?_)
  obtain ⟨V_1, ⟨n_3, h0V_1⟩, hV_1⟩ := h
  have lV_1 : ∀ (n_2 : Nat) (I_4 : TI) (J_5 : TJ) (S_6 : TS) (L_7 : TL) (x_8 : Int32) (H : Heap) (locs : List Loc) (ls : Array Slot), va_P (dC, dI) vwCl (wL a cy n0 n1 I_4 J_5 S_6 L_7) H → va_D A (wL a cy n0 n1 I_4 J_5 S_6 L_7) → va_S A s.heap H locs → lv_has ls 3 [(0, .ref (a 25)), (1, .int x_8)] → V_1 n_2 I_4 J_5 S_6 L_7 x_8 → W p l e (headSpec wsX2_emptyOldBags rmX2_emptyOldBags).room s m args below meth c H locs 0 0 (MQ below (gQv dC dI (wL a cy n0 n1) (tyL cy) A Φ) args s 0 0 A) (F0 m 2 ls []) := by
    intro n_2
    induction n_2 using Nat.strongRecOn with
    | ind n_2 ihV_1 =>
        intro I_4 J_5 S_6 L_7 x_8 H locs ls hP hD hS hl h
        have h := hV_1 n_2 I_4 J_5 S_6 L_7 x_8 h
        refine lv_iload_n hx hb dX2_emptyOldBags_2 rfl (lv_at hl 1 rfl) ?_
        refine lv_aload_n hx hb dX2_emptyOldBags_3 rfl (lv_at hl 0 rfl) ?_
        refine va_get (D := (dC, dI)) (ci := 2) (v := .ref (a 5)) (C := RX2) (T := TX2) (N := 16) hx hb hts nX2_emptyOldBags_X2 hown hK hP 25 (wL_at25 _ _ _ _ _ _ _ _) rfl 13 (by decide) (hts (.fieldLink RX2 45 "SongOffice$Ledger" "bargains" "LSongOffice$BargainBook;") kX2_emptyOldBags_1) (fun _ h9 => h9) rfl dX2_emptyOldBags_4 ?_
        refine va_get (D := (dC, dI)) (ci := 0) (v := .int (S_6 1)) (C := RX0) (T := TX0) (N := 9) hx hb hts nX2_emptyOldBags_X0 hown hK hP 5 (wL_at5 _ _ _ _ _ _ _ _) rfl 8 (by decide) (hts (.fieldLink RX2 142 "SongOffice$BargainBook" "size" "I") kX2_emptyOldBags_2) (fun _ h9 => h9) rfl dX2_emptyOldBags_7 ?_
        refine lv_icmp_ge (tgt := 98) hx hb dX2_emptyOldBags_10 (by decide) (fun hc => ?_) (fun hc => ?_)
        · have h := h.1 hc
          exact grv hx hb hr hlocks hP hK hD hS h dX2_emptyOldBags_98
        · have h := h.2 hc
          refine lv_aload_n hx hb dX2_emptyOldBags_13 rfl (lv_at hl 0 rfl) ?_
          refine va_get (D := (dC, dI)) (ci := 2) (v := .ref (a 5)) (C := RX2) (T := TX2) (N := 16) hx hb hts nX2_emptyOldBags_X2 hown hK hP 25 (wL_at25 _ _ _ _ _ _ _ _) rfl 13 (by decide) (hts (.fieldLink RX2 45 "SongOffice$Ledger" "bargains" "LSongOffice$BargainBook;") kX2_emptyOldBags_1) (fun _ h9 => h9) rfl dX2_emptyOldBags_14 ?_
          refine va_get (D := (dC, dI)) (ci := 0) (v := .ref (a 6)) (C := RX0) (T := TX0) (N := 9) hx hb hts nX2_emptyOldBags_X0 hown hK hP 5 (wL_at5 _ _ _ _ _ _ _ _) rfl 0 (by decide) (hts (.fieldLink RX2 116 "SongOffice$BargainBook" "kinds" "[I") kX2_emptyOldBags_3) (fun _ h9 => h9) rfl dX2_emptyOldBags_17 ?_
          refine lv_iload_n hx hb dX2_emptyOldBags_20 rfl (lv_at hl 1 rfl) ?_
          obtain ⟨hi, h⟩ := h
          refine va_iald hx hb hK hP 6 4 (wL_at6 _ _ _ _ _ _ _ _) rfl hi dX2_emptyOldBags_21 ?_
          refine lv_iconst (v := 4) hx hb dX2_emptyOldBags_22 (by decide) ?_
          obtain ⟨B_9, hB_9, h⟩ := h
          have jB_9 : ∀ (I_10 : TI) (J_11 : TJ) (S_12 : TS) (L_13 : TL) (x_14 : Int32) (H : Heap) (locs : List Loc) (ls : Array Slot), va_P (dC, dI) vwCl (wL a cy n0 n1 I_10 J_11 S_12 L_13) H → va_D A (wL a cy n0 n1 I_10 J_11 S_12 L_13) → va_S A s.heap H locs → lv_has ls 3 [(0, .ref (a 25)), (1, .int x_14)] → B_9 I_10 J_11 S_12 L_13 x_14 → W p l e (headSpec wsX2_emptyOldBags rmX2_emptyOldBags).room s m args below meth c H locs 0 0 (MQ below (gQv dC dI (wL a cy n0 n1) (tyL cy) A Φ) args s 0 0 A) (F0 m 92 ls []) := by
            intro I_10 J_11 S_12 L_13 x_14 H locs ls hP hD hS hl h
            have h := hB_9 I_10 J_11 S_12 L_13 x_14 h
            obtain ⟨x_15, ex_15⟩ : ∃ z : Int32, z = x_14 + 1 := ⟨_, rfl⟩
            have h := h x_15 ex_15
            refine lv_iinc (v := x_15) (lv' := [(1, .int x_15), (0, .ref (a 25))]) hx hb dX2_emptyOldBags_92 hl (k := 1) rfl (by rw [ex_15]; rfl) (by decide) rfl (fun ls hl => ?_)
            refine lv_goto (tgt := 2) hx hb dX2_emptyOldBags_95 (by decide) ?_
            obtain ⟨n_16, hn2, h⟩ := h
            exact ihV_1 n_16 hn2 I_10 J_11 S_12 L_13 x_15 _ _ _ hP hD hS (lv_sub hl [1, 0] rfl) h
          refine lv_icmp_ne (tgt := 92) hx hb dX2_emptyOldBags_23 (by decide) (fun hc => ?_) (fun hc => ?_)
          · have h := h.1 hc
            exact jB_9 I_4 J_5 S_6 L_7 x_8 _ _ _ hP hD hS (lv_sub hl [0, 1] rfl) h
          · have h := h.2 hc
            refine lv_aload_n hx hb dX2_emptyOldBags_26 rfl (lv_at hl 0 rfl) ?_
            refine va_get (D := (dC, dI)) (ci := 2) (v := .int (S_6 3)) (C := RX2) (T := TX2) (N := 16) hx hb hts nX2_emptyOldBags_X2 hown hK hP 25 (wL_at25 _ _ _ _ _ _ _ _) rfl 10 (by decide) (hts (.fieldLink RX2 78 "SongOffice$Ledger" "closed" "I") kX2_emptyOldBags_4) (fun _ h9 => h9) rfl dX2_emptyOldBags_27 ?_
            refine lv_aload_n hx hb dX2_emptyOldBags_30 rfl (lv_at hl 0 rfl) ?_
            refine va_get (D := (dC, dI)) (ci := 2) (v := .ref (a 5)) (C := RX2) (T := TX2) (N := 16) hx hb hts nX2_emptyOldBags_X2 hown hK hP 25 (wL_at25 _ _ _ _ _ _ _ _) rfl 13 (by decide) (hts (.fieldLink RX2 45 "SongOffice$Ledger" "bargains" "LSongOffice$BargainBook;") kX2_emptyOldBags_1) (fun _ h9 => h9) rfl dX2_emptyOldBags_31 ?_
            refine va_get (D := (dC, dI)) (ci := 0) (v := .ref (a 11)) (C := RX0) (T := TX0) (N := 9) hx hb hts nX2_emptyOldBags_X0 hown hK hP 5 (wL_at5 _ _ _ _ _ _ _ _) rfl 5 (by decide) (hts (.fieldLink RX2 226 "SongOffice$BargainBook" "y" "[I") kX2_emptyOldBags_5) (fun _ h9 => h9) rfl dX2_emptyOldBags_34 ?_
            refine lv_iload_n hx hb dX2_emptyOldBags_37 rfl (lv_at hl 1 rfl) ?_
            obtain ⟨hi, h⟩ := h
            refine va_iald hx hb hK hP 11 9 (wL_at11 _ _ _ _ _ _ _ _) rfl hi dX2_emptyOldBags_38 ?_
            refine lv_icmp_lt (tgt := 92) hx hb dX2_emptyOldBags_39 (by decide) (fun hc => ?_) (fun hc => ?_)
            · have h := h.1 hc
              exact jB_9 I_4 J_5 S_6 L_7 x_8 _ _ _ hP hD hS (lv_sub hl [0, 1] rfl) h
            · have h := h.2 hc
              refine lv_iload_n hx hb dX2_emptyOldBags_42 rfl (lv_at hl 1 rfl) ?_
              refine lv_bipush (v := 40) hx hb dX2_emptyOldBags_43 (by decide) ?_
              refine lv_imul hx hb dX2_emptyOldBags_45 ?_
              refine lv_aload_n hx hb dX2_emptyOldBags_46 rfl (lv_at hl 0 rfl) ?_
              refine va_get (D := (dC, dI)) (ci := 2) (v := .int (S_6 3)) (C := RX2) (T := TX2) (N := 16) hx hb hts nX2_emptyOldBags_X2 hown hK hP 25 (wL_at25 _ _ _ _ _ _ _ _) rfl 10 (by decide) (hts (.fieldLink RX2 78 "SongOffice$Ledger" "closed" "I") kX2_emptyOldBags_4) (fun _ h9 => h9) rfl dX2_emptyOldBags_47 ?_
              refine lv_iadd hx hb dX2_emptyOldBags_50 ?_
              refine lv_aload_n hx hb dX2_emptyOldBags_51 rfl (lv_at hl 0 rfl) ?_
              refine va_get (D := (dC, dI)) (ci := 2) (v := .ref (a 5)) (C := RX2) (T := TX2) (N := 16) hx hb hts nX2_emptyOldBags_X2 hown hK hP 25 (wL_at25 _ _ _ _ _ _ _ _) rfl 13 (by decide) (hts (.fieldLink RX2 45 "SongOffice$Ledger" "bargains" "LSongOffice$BargainBook;") kX2_emptyOldBags_1) (fun _ h9 => h9) rfl dX2_emptyOldBags_52 ?_
              refine va_get (D := (dC, dI)) (ci := 0) (v := .ref (a 11)) (C := RX0) (T := TX0) (N := 9) hx hb hts nX2_emptyOldBags_X0 hown hK hP 5 (wL_at5 _ _ _ _ _ _ _ _) rfl 5 (by decide) (hts (.fieldLink RX2 226 "SongOffice$BargainBook" "y" "[I") kX2_emptyOldBags_5) (fun _ h9 => h9) rfl dX2_emptyOldBags_55 ?_
              refine lv_iload_n hx hb dX2_emptyOldBags_58 rfl (lv_at hl 1 rfl) ?_
              obtain ⟨hi, h⟩ := h
              refine va_iald hx hb hK hP 11 9 (wL_at11 _ _ _ _ _ _ _ _) rfl hi dX2_emptyOldBags_59 ?_
              refine lv_isub hx hb dX2_emptyOldBags_60 ?_
              refine lv_topi (fun x_17 ex_17 => ?_)
              have h := h x_17 ex_17
              refine lv_istore_n (lv' := [(2, .int x_17), (0, .ref (a 25)), (1, .int x_8)]) hx hb dX2_emptyOldBags_61 rfl hl (by decide) rfl (fun ls hl => ?_)
              refine lv_aload_n hx hb dX2_emptyOldBags_62 rfl (lv_at hl 1 rfl) ?_
              refine va_get (D := (dC, dI)) (ci := 2) (v := .ref (a 26)) (C := RX2) (T := TX2) (N := 16) hx hb hts nX2_emptyOldBags_X2 hown hK hP 25 (wL_at25 _ _ _ _ _ _ _ _) rfl 0 (by decide) (hts (.fieldLink RX2 9 "SongOffice$Ledger" "purse" "[J") kX2_emptyOldBags_6) (fun _ h9 => h9) rfl dX2_emptyOldBags_63 ?_
              refine lv_aload_n hx hb dX2_emptyOldBags_66 rfl (lv_at hl 1 rfl) ?_
              refine va_get (D := (dC, dI)) (ci := 2) (v := .ref (a 5)) (C := RX2) (T := TX2) (N := 16) hx hb hts nX2_emptyOldBags_X2 hown hK hP 25 (wL_at25 _ _ _ _ _ _ _ _) rfl 13 (by decide) (hts (.fieldLink RX2 45 "SongOffice$Ledger" "bargains" "LSongOffice$BargainBook;") kX2_emptyOldBags_1) (fun _ h9 => h9) rfl dX2_emptyOldBags_67 ?_
              refine va_get (D := (dC, dI)) (ci := 0) (v := .ref (a 7)) (C := RX0) (T := TX0) (N := 9) hx hb hts nX2_emptyOldBags_X0 hown hK hP 5 (wL_at5 _ _ _ _ _ _ _ _) rfl 1 (by decide) (hts (.fieldLink RX2 235 "SongOffice$BargainBook" "hands" "[I") kX2_emptyOldBags_7) (fun _ h9 => h9) rfl dX2_emptyOldBags_70 ?_
              refine lv_iload_n hx hb dX2_emptyOldBags_73 rfl (lv_at hl 2 rfl) ?_
              obtain ⟨hi, h⟩ := h
              refine va_iald hx hb hK hP 7 5 (wL_at7 _ _ _ _ _ _ _ _) rfl hi dX2_emptyOldBags_74 ?_
              refine lv_dup2_11 hx hb dX2_emptyOldBags_75 rfl rfl ?_
              obtain ⟨hi, h⟩ := h
              refine va_lald hx hb hK hP 26 21 (wL_at26 _ _ _ _ _ _ _ _) rfl hi dX2_emptyOldBags_76 ?_
              refine lv_aload_n hx hb dX2_emptyOldBags_77 rfl (lv_at hl 1 rfl) ?_
              refine va_get (D := (dC, dI)) (ci := 2) (v := .ref (a 32)) (C := RX2) (T := TX2) (N := 16) hx hb hts nX2_emptyOldBags_X2 hown hK hP 25 (wL_at25 _ _ _ _ _ _ _ _) rfl 6 (by decide) (hts (.fieldLink RX2 31 "SongOffice$Ledger" "bags" "[J") kX2_emptyOldBags_8) (fun _ h9 => h9) rfl dX2_emptyOldBags_78 ?_
              refine lv_iload_n hx hb dX2_emptyOldBags_81 rfl (lv_at hl 0 rfl) ?_
              obtain ⟨hi, h⟩ := h
              refine va_lald hx hb hK hP 32 27 (wL_at32 _ _ _ _ _ _ _ _) rfl hi dX2_emptyOldBags_82 ?_
              refine lv_ladd hx hb dX2_emptyOldBags_83 ?_
              obtain ⟨hi, h⟩ := h
              obtain ⟨J_18, eJ_18⟩ : ∃ z : TJ, z = va_up J_5 26 (vp_updL (J_5 26) ((I_4 7 (x_8).toNatClampNeg)).toNatClampNeg ((J_5 26 ((I_4 7 (x_8).toNatClampNeg)).toNatClampNeg) + (J_5 32 (x_17).toNatClampNeg))) := ⟨_, rfl⟩
              have h := h J_18 eJ_18
              refine va_last hx hb hK hP hD hS 26 21 (wL_at26 _ _ _ _ _ _ _ _) rfl hi dX2_emptyOldBags_84 (fun H locs hP hD hS => ?_)
              have hP : va_P (dC, dI) vwCl (wL a cy n0 n1 I_4 J_18 S_6 L_7) H := by rw [eJ_18]; exact setP hP (wL_set26 _ _ _ _ _ _ _ _ _)
              have hD : va_D A (wL a cy n0 n1 I_4 J_18 S_6 L_7) := by rw [eJ_18]; exact setD hD (wL_set26 _ _ _ _ _ _ _ _ _)
              refine lv_aload_n hx hb dX2_emptyOldBags_85 rfl (lv_at hl 1 rfl) ?_
              refine va_get (D := (dC, dI)) (ci := 2) (v := .ref (a 32)) (C := RX2) (T := TX2) (N := 16) hx hb hts nX2_emptyOldBags_X2 hown hK hP 25 (wL_at25 _ _ _ _ _ _ _ _) rfl 6 (by decide) (hts (.fieldLink RX2 31 "SongOffice$Ledger" "bags" "[J") kX2_emptyOldBags_8) (fun _ h9 => h9) rfl dX2_emptyOldBags_86 ?_
              refine lv_iload_n hx hb dX2_emptyOldBags_89 rfl (lv_at hl 0 rfl) ?_
              refine lv_lconst (v := 0) hx hb dX2_emptyOldBags_90 (by decide) ?_
              obtain ⟨hi, h⟩ := h
              obtain ⟨J_19, eJ_19⟩ : ∃ z : TJ, z = va_up J_18 32 (vp_updL (J_18 32) (x_17).toNatClampNeg (0 : Int64)) := ⟨_, rfl⟩
              have h := h J_19 eJ_19
              refine va_last hx hb hK hP hD hS 32 27 (wL_at32 _ _ _ _ _ _ _ _) rfl hi dX2_emptyOldBags_91 (fun H locs hP hD hS => ?_)
              have hP : va_P (dC, dI) vwCl (wL a cy n0 n1 I_4 J_19 S_6 L_7) H := by rw [eJ_19]; exact setP hP (wL_set32 _ _ _ _ _ _ _ _ _)
              have hD : va_D A (wL a cy n0 n1 I_4 J_19 S_6 L_7) := by rw [eJ_19]; exact setD hD (wL_set32 _ _ _ _ _ _ _ _ _)
              exact jB_9 I_4 J_19 S_6 L_7 x_8 _ _ _ hP hD hS (lv_sub hl [1, 2] rfl) h
  exact lV_1 n_3 I J S L (0 : Int32) _ _ _ hP hD hS (lv_sub hl [1, 0] rfl) h0V_1
def wp_X2_payHands (n0 n1 : Nat) (I : TI) (J : TJ) (S : TS) (L : TL) (Φ : TI → TJ → TS → TL → Prop) : Prop := ∃ V_1 : Nat → TI → TJ → TS → TL → Int32 → Prop, (∃ n_3, V_1 n_3 I J S L (0 : Int32)) ∧ ∀ (n_2 : Nat) (I_4 : TI) (J_5 : TJ) (S_6 : TS) (L_7 : TL) (x_8 : Int32), V_1 n_2 I_4 J_5 S_6 L_7 x_8 → ((((12 : Int32) ≤ x_8) → (Φ I_4 J_5 S_6 L_7)) ∧ ((¬ (12 : Int32) ≤ x_8) → ((vp_in x_8 12) ∧ (∃ B_9 : TI → TJ → TS → TL → Int32 → Prop, (∀ (I_10 : TI) (J_11 : TJ) (S_12 : TS) (L_13 : TL) (x_14 : Int32), B_9 I_10 J_11 S_12 L_13 x_14 → ((vp_in x_14 12) ∧ (∀ y_15 : Int64, y_15 = (if ((J_11 26 (x_14).toNatClampNeg) / (1000000 : Int64)) < (0 : Int64) then (0 : Int64) else ((J_11 26 (x_14).toNatClampNeg) / (1000000 : Int64))) → ((vp_in x_14 12) ∧ ((vp_in x_14 12) ∧ ∀ J_16 : TJ, J_16 = va_up J_11 26 (vp_updL (J_11 26) (x_14).toNatClampNeg ((J_11 26 (x_14).toNatClampNeg) - (y_15 * (1000000 : Int64)))) → ((vp_in ((x_14 * (40 : Int32)) + (S_12 3)) 480) ∧ ∀ I_17 : TI, I_17 = va_up I_10 29 (upd (I_10 29) (((x_14 * (40 : Int32)) + (S_12 3))).toNatClampNeg ((y_15).toInt32)) → (∀ x_18 : Int32, x_18 = x_14 + 1 → (∃ n_19, n_19 < n_2 ∧ V_1 n_19 I_17 J_16 S_12 L_13 x_18)))))))) ∧ ((((lg_cmp (J_5 27 (x_8).toNatClampNeg) (0 : Int64)) ≤ 0) → (B_9 I_4 J_5 S_6 L_7 x_8)) ∧ ((¬ (lg_cmp (J_5 27 (x_8).toNatClampNeg) (0 : Int64)) ≤ 0) → ((vp_in x_8 12) ∧ ((((lg_cmp (J_5 26 (x_8).toNatClampNeg) (0 : Int64)) ≤ 0) → (B_9 I_4 J_5 S_6 L_7 x_8)) ∧ ((¬ (lg_cmp (J_5 26 (x_8).toNatClampNeg) (0 : Int64)) ≤ 0) → ((vp_in x_8 12) ∧ ((vp_in x_8 12) ∧ (∀ y_20 : Int64, y_20 = (if (J_5 26 (x_8).toNatClampNeg) < (J_5 27 (x_8).toNatClampNeg) then (J_5 26 (x_8).toNatClampNeg) else (J_5 27 (x_8).toNatClampNeg)) → ((vp_in x_8 12) ∧ ((vp_in x_8 12) ∧ ∀ J_21 : TJ, J_21 = va_up J_5 26 (vp_updL (J_5 26) (x_8).toNatClampNeg ((J_5 26 (x_8).toNatClampNeg) - y_20)) → ((vp_in x_8 12) ∧ ((vp_in x_8 12) ∧ ∀ J_22 : TJ, J_22 = va_up J_21 27 (vp_updL (J_21 27) (x_8).toNatClampNeg ((J_21 27 (x_8).toNatClampNeg) - y_20)) → (B_9 I_4 J_22 S_6 L_7 x_8)))))))))))))))))
theorem nX2_payHands_X2 : ∀ w ∈ wsX20, w ∈ wsX2_payHands := fun _ h => List.mem_cons_of_mem _ (List.mem_append_right _ h)
theorem kX2_payHands_12 : Cond.fieldLink RX2 78 "SongOffice$Ledger" "closed" "I" ∈ wsX2_payHands := List.mem_of_getElem? (i := 12) rfl
theorem kX2_payHands_11 : Cond.fieldLink RX2 21 "SongOffice$Ledger" "dues" "[I" ∈ wsX2_payHands := List.mem_of_getElem? (i := 11) rfl
theorem kX2_payHands_7 : Cond.constantLong RX2 110 (1000000) ∈ wsX2_payHands := List.mem_of_getElem? (i := 7) rfl
theorem kX2_payHands_2 : Cond.fieldLink RX2 9 "SongOffice$Ledger" "purse" "[J" ∈ wsX2_payHands := List.mem_of_getElem? (i := 2) rfl
theorem kX2_payHands_8 : Cond.methodLink RX2 229 Lib.MathLoose.max_long.x ∈ wsX2_payHands := List.mem_of_getElem? (i := 8) rfl
theorem kX2_payHands_9 : Cond.static Lib.MathLoose.max_long.x ∈ wsX2_payHands := List.mem_of_getElem? (i := 9) rfl
theorem kX2_payHands_5 : Cond.initialized "java/lang/Math" ∈ wsX2_payHands := List.mem_of_getElem? (i := 5) rfl
theorem kX2_payHands_10 : Cond.code Lib.MathLoose.max_long.x Lib.MathLoose.max_long.code 4 (some .long) ∈ wsX2_payHands := List.mem_of_getElem? (i := 10) rfl
theorem kX2_payHands_1 : Cond.fieldLink RX2 15 "SongOffice$Ledger" "debt" "[J" ∈ wsX2_payHands := List.mem_of_getElem? (i := 1) rfl
theorem kX2_payHands_3 : Cond.methodLink RX2 147 Lib.MathLoose.min_long.x ∈ wsX2_payHands := List.mem_of_getElem? (i := 3) rfl
theorem kX2_payHands_4 : Cond.static Lib.MathLoose.min_long.x ∈ wsX2_payHands := List.mem_of_getElem? (i := 4) rfl
theorem kX2_payHands_6 : Cond.code Lib.MathLoose.min_long.x Lib.MathLoose.min_long.code 4 (some .long) ∈ wsX2_payHands := List.mem_of_getElem? (i := 6) rfl
abbrev rmX2_payHands : Room := { frames := 1, cells := 0, slots := 0, locals := 40 }
set_option maxHeartbeats 4000000 in
set_option maxRecDepth 100000 in
theorem c_X2_payHands (l : Launch) (dC : Nat → ClassId) (dI : Nat → Nat → Nat) (a : Nat → Nat) (cy : Nat → ClassId) (n0 n1 : Nat) (sz : Nat) (I : TI) (J : TJ) (S : TS) (L : TL) (Φ : TI → TJ → TS → TL → Prop) (h : wp_X2_payHands n0 n1 I J S L Φ) : Met l yX2_payHands wsX2_payHands rmX2_payHands (va_Pc [.ref (a 25)] (gpre dC dI (wL a cy n0 n1 I J S L) (tyL cy) sz)) (gQv dC dI (wL a cy n0 n1) (tyL cy) (va_A (wL a cy n0 n1 I J S L) sz) Φ) 0 0 (va_A (wL a cy n0 n1 I J S L) sz) := by
  refine Met.ofW (cc := cX2_payHands) (maxL := 4) (ret := none) (by decide) rfl ?_
  intro p e s m args below meth c s₁ B hml hv
  obtain ⟨hargs, hsz, hP, hK, hD0, hN⟩ := hv
  have hx := B.exec
  have hb := B.bytes
  have hr := B.returns
  have hts := atoms_spec (ws := wsX2_payHands) B.pre
  have hown : s.vm.findClass RX2 = some m.cls := findClass_of_methodNamed B.named
  have hlocks := B.notSynchronized
  subst hsz
  have hD := hD0.self (sz := s.heap.size)
  generalize hAe : va_A (wL a cy n0 n1 I J S L) s.heap.size = A at hD ⊢
  have hA : ∀ q : Nat, s.heap.size ≤ q → A q := fun q h => by rw [← hAe]; exact Or.inr h
  obtain ⟨H, hH⟩ : ∃ z : Heap, z = s.heap := ⟨_, rfl⟩
  rw [← hH] at hP
  have hS : va_S A s.heap H [] := by rw [hH]; exact va_S.rf
  have hl := lv_entry ([.ref (a 25)]) (n := 4) (Nat.le_of_ble_eq_true rfl)
  have hE : entryFrame m args 4 = F0 m 0 ((lg_sl ([.ref (a 25)]) ++ List.replicate (4 - (lg_sl ([.ref (a 25)])).length) Slot.unset).toArray) [] := by rw [hargs]; exact lg_entry_eq m _ _
  rw [hE, ← hH]
  clear hE
  generalize (lg_sl ([.ref (a 25)]) ++ List.replicate (4 - (lg_sl ([.ref (a 25)])).length) Slot.unset).toArray = ls at hl ⊢
  have hl : lv_has ls 4 [(0, .ref (a 25))] := hl
  unfold wp_X2_payHands at h
  refine lv_iconst (v := 0) hx hb dX2_payHands_0 (by decide) ?_
  refine lv_istore_n (lv' := [(1, .int (0 : Int32)), (0, .ref (a 25))]) hx hb dX2_payHands_1 rfl hl (by decide) rfl (fun ls hl => ?_)
  obtain ⟨V_1, ⟨n_3, h0V_1⟩, hV_1⟩ := h
  have lV_1 : ∀ (n_2 : Nat) (I_4 : TI) (J_5 : TJ) (S_6 : TS) (L_7 : TL) (x_8 : Int32) (H : Heap) (locs : List Loc) (ls : Array Slot), va_P (dC, dI) vwCl (wL a cy n0 n1 I_4 J_5 S_6 L_7) H → va_D A (wL a cy n0 n1 I_4 J_5 S_6 L_7) → va_S A s.heap H locs → lv_has ls 4 [(0, .ref (a 25)), (1, .int x_8)] → V_1 n_2 I_4 J_5 S_6 L_7 x_8 → W p l e (headSpec wsX2_payHands rmX2_payHands).room s m args below meth c H locs 0 0 (MQ below (gQv dC dI (wL a cy n0 n1) (tyL cy) A Φ) args s 0 0 A) (F0 m 2 ls []) := by
    intro n_2
    induction n_2 using Nat.strongRecOn with
    | ind n_2 ihV_1 =>
        intro I_4 J_5 S_6 L_7 x_8 H locs ls hP hD hS hl h
        have h := hV_1 n_2 I_4 J_5 S_6 L_7 x_8 h
        refine lv_iload_n hx hb dX2_payHands_2 rfl (lv_at hl 1 rfl) ?_
        refine lv_bipush (v := 12) hx hb dX2_payHands_3 (by decide) ?_
        refine lv_icmp_ge (tgt := 117) hx hb dX2_payHands_5 (by decide) (fun hc => ?_) (fun hc => ?_)
        · have h := h.1 hc
          exact grv hx hb hr hlocks hP hK hD hS h dX2_payHands_117
        · have h := h.2 hc
          refine lv_aload_n hx hb dX2_payHands_8 rfl (lv_at hl 0 rfl) ?_
          refine va_get (D := (dC, dI)) (ci := 2) (v := .ref (a 27)) (C := RX2) (T := TX2) (N := 16) hx hb hts nX2_payHands_X2 hown hK hP 25 (wL_at25 _ _ _ _ _ _ _ _) rfl 1 (by decide) (hts (.fieldLink RX2 15 "SongOffice$Ledger" "debt" "[J") kX2_payHands_1) (fun _ h9 => h9) rfl dX2_payHands_9 ?_
          refine lv_iload_n hx hb dX2_payHands_12 rfl (lv_at hl 1 rfl) ?_
          obtain ⟨hi, h⟩ := h
          refine va_lald hx hb hK hP 27 22 (wL_at27 _ _ _ _ _ _ _ _) rfl hi dX2_payHands_13 ?_
          refine lv_lconst (v := 0) hx hb dX2_payHands_14 (by decide) ?_
          refine W.lcmp hx hb dX2_payHands_15 ?_
          obtain ⟨B_9, hB_9, h⟩ := h
          have jB_9 : ∀ (I_10 : TI) (J_11 : TJ) (S_12 : TS) (L_13 : TL) (x_14 : Int32) (H : Heap) (locs : List Loc) (ls : Array Slot), va_P (dC, dI) vwCl (wL a cy n0 n1 I_10 J_11 S_12 L_13) H → va_D A (wL a cy n0 n1 I_10 J_11 S_12 L_13) → va_S A s.heap H locs → lv_has ls 4 [(0, .ref (a 25)), (1, .int x_14)] → B_9 I_10 J_11 S_12 L_13 x_14 → W p l e (headSpec wsX2_payHands rmX2_payHands).room s m args below meth c H locs 0 0 (MQ below (gQv dC dI (wL a cy n0 n1) (tyL cy) A Φ) args s 0 0 A) (F0 m 66 ls []) := by
            intro I_10 J_11 S_12 L_13 x_14 H locs ls hP hD hS hl h
            have h := hB_9 I_10 J_11 S_12 L_13 x_14 h
            refine lv_lconst (v := 0) hx hb dX2_payHands_66 (by decide) ?_
            refine lv_aload_n hx hb dX2_payHands_67 rfl (lv_at hl 0 rfl) ?_
            refine va_get (D := (dC, dI)) (ci := 2) (v := .ref (a 26)) (C := RX2) (T := TX2) (N := 16) hx hb hts nX2_payHands_X2 hown hK hP 25 (wL_at25 _ _ _ _ _ _ _ _) rfl 0 (by decide) (hts (.fieldLink RX2 9 "SongOffice$Ledger" "purse" "[J") kX2_payHands_2) (fun _ h9 => h9) rfl dX2_payHands_68 ?_
            refine lv_iload_n hx hb dX2_payHands_71 rfl (lv_at hl 1 rfl) ?_
            obtain ⟨hi, h⟩ := h
            refine va_lald hx hb hK hP 26 21 (wL_at26 _ _ _ _ _ _ _ _) rfl hi dX2_payHands_72 ?_
            refine lv_ldc2 (v := 1000000) hx hb hown (hts (.constantLong RX2 110 (1000000)) kX2_payHands_7) dX2_payHands_73 ?_
            refine lv_ldiv hx hb dX2_payHands_76 (by decide) ?_
            refine va_mmax_long hx hb (hml.trans hl.1.symm) hown (hts (.methodLink RX2 229 Lib.MathLoose.max_long.x) kX2_payHands_8) (hts (.static Lib.MathLoose.max_long.x) kX2_payHands_9) (hts (.initialized "java/lang/Math") kX2_payHands_5) (hts (.code Lib.MathLoose.max_long.x Lib.MathLoose.max_long.code 4 (some .long)) kX2_payHands_10) (Nat.le_of_ble_eq_true rfl) (Nat.le_of_ble_eq_true rfl) (Nat.le_of_ble_eq_true rfl) (Nat.le_of_ble_eq_true rfl) dX2_payHands_77 ?_
            refine lv_topl (fun y_15 ey_15 => ?_)
            have h := h y_15 ey_15
            refine lv_lstore_n (lv' := [(2, .long y_15), (0, .ref (a 25)), (1, .int x_14)]) hx hb dX2_payHands_80 rfl hl (by decide) rfl (fun ls hl => ?_)
            refine lv_aload_n hx hb dX2_payHands_81 rfl (lv_at hl 1 rfl) ?_
            refine va_get (D := (dC, dI)) (ci := 2) (v := .ref (a 26)) (C := RX2) (T := TX2) (N := 16) hx hb hts nX2_payHands_X2 hown hK hP 25 (wL_at25 _ _ _ _ _ _ _ _) rfl 0 (by decide) (hts (.fieldLink RX2 9 "SongOffice$Ledger" "purse" "[J") kX2_payHands_2) (fun _ h9 => h9) rfl dX2_payHands_82 ?_
            refine lv_iload_n hx hb dX2_payHands_85 rfl (lv_at hl 2 rfl) ?_
            refine lv_dup2_11 hx hb dX2_payHands_86 rfl rfl ?_
            obtain ⟨hi, h⟩ := h
            refine va_lald hx hb hK hP 26 21 (wL_at26 _ _ _ _ _ _ _ _) rfl hi dX2_payHands_87 ?_
            refine lv_lload_n hx hb dX2_payHands_88 rfl (lv_at hl 0 rfl) ?_
            refine lv_ldc2 (v := 1000000) hx hb hown (hts (.constantLong RX2 110 (1000000)) kX2_payHands_7) dX2_payHands_89 ?_
            refine lv_lmul hx hb dX2_payHands_92 ?_
            refine lv_lsub hx hb dX2_payHands_93 ?_
            obtain ⟨hi, h⟩ := h
            obtain ⟨J_16, eJ_16⟩ : ∃ z : TJ, z = va_up J_11 26 (vp_updL (J_11 26) (x_14).toNatClampNeg ((J_11 26 (x_14).toNatClampNeg) - (y_15 * (1000000 : Int64)))) := ⟨_, rfl⟩
            have h := h J_16 eJ_16
            refine va_last hx hb hK hP hD hS 26 21 (wL_at26 _ _ _ _ _ _ _ _) rfl hi dX2_payHands_94 (fun H locs hP hD hS => ?_)
            have hP : va_P (dC, dI) vwCl (wL a cy n0 n1 I_10 J_16 S_12 L_13) H := by rw [eJ_16]; exact setP hP (wL_set26 _ _ _ _ _ _ _ _ _)
            have hD : va_D A (wL a cy n0 n1 I_10 J_16 S_12 L_13) := by rw [eJ_16]; exact setD hD (wL_set26 _ _ _ _ _ _ _ _ _)
            refine lv_aload_n hx hb dX2_payHands_95 rfl (lv_at hl 1 rfl) ?_
            refine va_get (D := (dC, dI)) (ci := 2) (v := .ref (a 29)) (C := RX2) (T := TX2) (N := 16) hx hb hts nX2_payHands_X2 hown hK hP 25 (wL_at25 _ _ _ _ _ _ _ _) rfl 3 (by decide) (hts (.fieldLink RX2 21 "SongOffice$Ledger" "dues" "[I") kX2_payHands_11) (fun _ h9 => h9) rfl dX2_payHands_96 ?_
            refine lv_iload_n hx hb dX2_payHands_99 rfl (lv_at hl 2 rfl) ?_
            refine lv_bipush (v := 40) hx hb dX2_payHands_100 (by decide) ?_
            refine lv_imul hx hb dX2_payHands_102 ?_
            refine lv_aload_n hx hb dX2_payHands_103 rfl (lv_at hl 1 rfl) ?_
            refine va_get (D := (dC, dI)) (ci := 2) (v := .int (S_12 3)) (C := RX2) (T := TX2) (N := 16) hx hb hts nX2_payHands_X2 hown hK hP 25 (wL_at25 _ _ _ _ _ _ _ _) rfl 10 (by decide) (hts (.fieldLink RX2 78 "SongOffice$Ledger" "closed" "I") kX2_payHands_12) (fun _ h9 => h9) rfl dX2_payHands_104 ?_
            refine lv_iadd hx hb dX2_payHands_107 ?_
            refine lv_lload_n hx hb dX2_payHands_108 rfl (lv_at hl 0 rfl) ?_
            refine lv_l2i (v := ((y_15).toInt32)) hx hb dX2_payHands_109 rfl ?_
            obtain ⟨hi, h⟩ := h
            obtain ⟨I_17, eI_17⟩ : ∃ z : TI, z = va_up I_10 29 (upd (I_10 29) (((x_14 * (40 : Int32)) + (S_12 3))).toNatClampNeg ((y_15).toInt32)) := ⟨_, rfl⟩
            have h := h I_17 eI_17
            refine va_iast hx hb hK hP hD hS 29 24 (wL_at29 _ _ _ _ _ _ _ _) rfl hi dX2_payHands_110 (fun H locs hP hD hS => ?_)
            have hP : va_P (dC, dI) vwCl (wL a cy n0 n1 I_17 J_16 S_12 L_13) H := by rw [eI_17]; exact setP hP (wL_set29 _ _ _ _ _ _ _ _ _)
            have hD : va_D A (wL a cy n0 n1 I_17 J_16 S_12 L_13) := by rw [eI_17]; exact setD hD (wL_set29 _ _ _ _ _ _ _ _ _)
            obtain ⟨x_18, ex_18⟩ : ∃ z : Int32, z = x_14 + 1 := ⟨_, rfl⟩
            have h := h x_18 ex_18
            refine lv_iinc (v := x_18) (lv' := [(1, .int x_18), (2, .long y_15), (0, .ref (a 25))]) hx hb dX2_payHands_111 hl (k := 2) rfl (by rw [ex_18]; rfl) (by decide) rfl (fun ls hl => ?_)
            refine lv_goto (tgt := 2) hx hb dX2_payHands_114 (by decide) ?_
            obtain ⟨n_19, hn2, h⟩ := h
            exact ihV_1 n_19 hn2 I_17 J_16 S_12 L_13 x_18 _ _ _ hP hD hS (lv_sub hl [2, 0] rfl) h
          refine lv_if_le (tgt := 66) hx hb dX2_payHands_16 (by decide) (fun hc => ?_) (fun hc => ?_)
          · have h := h.1 hc
            exact jB_9 I_4 J_5 S_6 L_7 x_8 _ _ _ hP hD hS (lv_sub hl [0, 1] rfl) h
          · have h := h.2 hc
            refine lv_aload_n hx hb dX2_payHands_19 rfl (lv_at hl 0 rfl) ?_
            refine va_get (D := (dC, dI)) (ci := 2) (v := .ref (a 26)) (C := RX2) (T := TX2) (N := 16) hx hb hts nX2_payHands_X2 hown hK hP 25 (wL_at25 _ _ _ _ _ _ _ _) rfl 0 (by decide) (hts (.fieldLink RX2 9 "SongOffice$Ledger" "purse" "[J") kX2_payHands_2) (fun _ h9 => h9) rfl dX2_payHands_20 ?_
            refine lv_iload_n hx hb dX2_payHands_23 rfl (lv_at hl 1 rfl) ?_
            obtain ⟨hi, h⟩ := h
            refine va_lald hx hb hK hP 26 21 (wL_at26 _ _ _ _ _ _ _ _) rfl hi dX2_payHands_24 ?_
            refine lv_lconst (v := 0) hx hb dX2_payHands_25 (by decide) ?_
            refine W.lcmp hx hb dX2_payHands_26 ?_
            refine lv_if_le (tgt := 66) hx hb dX2_payHands_27 (by decide) (fun hc => ?_) (fun hc => ?_)
            · have h := h.1 hc
              exact jB_9 I_4 J_5 S_6 L_7 x_8 _ _ _ hP hD hS (lv_sub hl [0, 1] rfl) h
            · have h := h.2 hc
              refine lv_aload_n hx hb dX2_payHands_30 rfl (lv_at hl 0 rfl) ?_
              refine va_get (D := (dC, dI)) (ci := 2) (v := .ref (a 27)) (C := RX2) (T := TX2) (N := 16) hx hb hts nX2_payHands_X2 hown hK hP 25 (wL_at25 _ _ _ _ _ _ _ _) rfl 1 (by decide) (hts (.fieldLink RX2 15 "SongOffice$Ledger" "debt" "[J") kX2_payHands_1) (fun _ h9 => h9) rfl dX2_payHands_31 ?_
              refine lv_iload_n hx hb dX2_payHands_34 rfl (lv_at hl 1 rfl) ?_
              obtain ⟨hi, h⟩ := h
              refine va_lald hx hb hK hP 27 22 (wL_at27 _ _ _ _ _ _ _ _) rfl hi dX2_payHands_35 ?_
              refine lv_aload_n hx hb dX2_payHands_36 rfl (lv_at hl 0 rfl) ?_
              refine va_get (D := (dC, dI)) (ci := 2) (v := .ref (a 26)) (C := RX2) (T := TX2) (N := 16) hx hb hts nX2_payHands_X2 hown hK hP 25 (wL_at25 _ _ _ _ _ _ _ _) rfl 0 (by decide) (hts (.fieldLink RX2 9 "SongOffice$Ledger" "purse" "[J") kX2_payHands_2) (fun _ h9 => h9) rfl dX2_payHands_37 ?_
              refine lv_iload_n hx hb dX2_payHands_40 rfl (lv_at hl 1 rfl) ?_
              obtain ⟨hi, h⟩ := h
              refine va_lald hx hb hK hP 26 21 (wL_at26 _ _ _ _ _ _ _ _) rfl hi dX2_payHands_41 ?_
              refine va_mmin_long hx hb (hml.trans hl.1.symm) hown (hts (.methodLink RX2 147 Lib.MathLoose.min_long.x) kX2_payHands_3) (hts (.static Lib.MathLoose.min_long.x) kX2_payHands_4) (hts (.initialized "java/lang/Math") kX2_payHands_5) (hts (.code Lib.MathLoose.min_long.x Lib.MathLoose.min_long.code 4 (some .long)) kX2_payHands_6) (Nat.le_of_ble_eq_true rfl) (Nat.le_of_ble_eq_true rfl) (Nat.le_of_ble_eq_true rfl) (Nat.le_of_ble_eq_true rfl) dX2_payHands_42 ?_
              refine lv_topl (fun y_20 ey_20 => ?_)
              have h := h y_20 ey_20
              refine lv_lstore_n (lv' := [(2, .long y_20), (0, .ref (a 25)), (1, .int x_8)]) hx hb dX2_payHands_45 rfl hl (by decide) rfl (fun ls hl => ?_)
              refine lv_aload_n hx hb dX2_payHands_46 rfl (lv_at hl 1 rfl) ?_
              refine va_get (D := (dC, dI)) (ci := 2) (v := .ref (a 26)) (C := RX2) (T := TX2) (N := 16) hx hb hts nX2_payHands_X2 hown hK hP 25 (wL_at25 _ _ _ _ _ _ _ _) rfl 0 (by decide) (hts (.fieldLink RX2 9 "SongOffice$Ledger" "purse" "[J") kX2_payHands_2) (fun _ h9 => h9) rfl dX2_payHands_47 ?_
              refine lv_iload_n hx hb dX2_payHands_50 rfl (lv_at hl 2 rfl) ?_
              refine lv_dup2_11 hx hb dX2_payHands_51 rfl rfl ?_
              obtain ⟨hi, h⟩ := h
              refine va_lald hx hb hK hP 26 21 (wL_at26 _ _ _ _ _ _ _ _) rfl hi dX2_payHands_52 ?_
              refine lv_lload_n hx hb dX2_payHands_53 rfl (lv_at hl 0 rfl) ?_
              refine lv_lsub hx hb dX2_payHands_54 ?_
              obtain ⟨hi, h⟩ := h
              obtain ⟨J_21, eJ_21⟩ : ∃ z : TJ, z = va_up J_5 26 (vp_updL (J_5 26) (x_8).toNatClampNeg ((J_5 26 (x_8).toNatClampNeg) - y_20)) := ⟨_, rfl⟩
              have h := h J_21 eJ_21
              refine va_last hx hb hK hP hD hS 26 21 (wL_at26 _ _ _ _ _ _ _ _) rfl hi dX2_payHands_55 (fun H locs hP hD hS => ?_)
              have hP : va_P (dC, dI) vwCl (wL a cy n0 n1 I_4 J_21 S_6 L_7) H := by rw [eJ_21]; exact setP hP (wL_set26 _ _ _ _ _ _ _ _ _)
              have hD : va_D A (wL a cy n0 n1 I_4 J_21 S_6 L_7) := by rw [eJ_21]; exact setD hD (wL_set26 _ _ _ _ _ _ _ _ _)
              refine lv_aload_n hx hb dX2_payHands_56 rfl (lv_at hl 1 rfl) ?_
              refine va_get (D := (dC, dI)) (ci := 2) (v := .ref (a 27)) (C := RX2) (T := TX2) (N := 16) hx hb hts nX2_payHands_X2 hown hK hP 25 (wL_at25 _ _ _ _ _ _ _ _) rfl 1 (by decide) (hts (.fieldLink RX2 15 "SongOffice$Ledger" "debt" "[J") kX2_payHands_1) (fun _ h9 => h9) rfl dX2_payHands_57 ?_
              refine lv_iload_n hx hb dX2_payHands_60 rfl (lv_at hl 2 rfl) ?_
              refine lv_dup2_11 hx hb dX2_payHands_61 rfl rfl ?_
              obtain ⟨hi, h⟩ := h
              refine va_lald hx hb hK hP 27 22 (wL_at27 _ _ _ _ _ _ _ _) rfl hi dX2_payHands_62 ?_
              refine lv_lload_n hx hb dX2_payHands_63 rfl (lv_at hl 0 rfl) ?_
              refine lv_lsub hx hb dX2_payHands_64 ?_
              obtain ⟨hi, h⟩ := h
              obtain ⟨J_22, eJ_22⟩ : ∃ z : TJ, z = va_up J_21 27 (vp_updL (J_21 27) (x_8).toNatClampNeg ((J_21 27 (x_8).toNatClampNeg) - y_20)) := ⟨_, rfl⟩
              have h := h J_22 eJ_22
              refine va_last hx hb hK hP hD hS 27 22 (wL_at27 _ _ _ _ _ _ _ _) rfl hi dX2_payHands_65 (fun H locs hP hD hS => ?_)
              have hP : va_P (dC, dI) vwCl (wL a cy n0 n1 I_4 J_22 S_6 L_7) H := by rw [eJ_22]; exact setP hP (wL_set27 _ _ _ _ _ _ _ _ _)
              have hD : va_D A (wL a cy n0 n1 I_4 J_22 S_6 L_7) := by rw [eJ_22]; exact setD hD (wL_set27 _ _ _ _ _ _ _ _ _)
              exact jB_9 I_4 J_22 S_6 L_7 x_8 _ _ _ hP hD hS (lv_sub hl [1, 2] rfl) h
  exact lV_1 n_3 I J S L (0 : Int32) _ _ _ hP hD hS (lv_sub hl [1, 0] rfl) h0V_1
def wp_X2_fillFloors (n0 n1 : Nat) (I : TI) (J : TJ) (S : TS) (L : TL) (Φ : TI → TJ → TS → TL → Prop) : Prop := ∃ V_1 : Nat → TI → TJ → TS → TL → Int32 → Prop, (∃ n_3, V_1 n_3 I J S L (0 : Int32)) ∧ ∀ (n_2 : Nat) (I_4 : TI) (J_5 : TJ) (S_6 : TS) (L_7 : TL) (x_8 : Int32), V_1 n_2 I_4 J_5 S_6 L_7 x_8 → ((((S_6 1) ≤ x_8) → (Φ I_4 J_5 S_6 L_7)) ∧ ((¬ (S_6 1) ≤ x_8) → ((vp_in x_8 24) ∧ (∃ B_9 : TI → TJ → TS → TL → Int32 → Prop, (∀ (I_10 : TI) (J_11 : TJ) (S_12 : TS) (L_13 : TL) (x_14 : Int32), B_9 I_10 J_11 S_12 L_13 x_14 → (∀ x_15 : Int32, x_15 = x_14 + 1 → (∃ n_16, n_16 < n_2 ∧ V_1 n_16 I_10 J_11 S_12 L_13 x_15))) ∧ (((¬ (I_4 6 (x_8).toNatClampNeg) = (2 : Int32)) → (B_9 I_4 J_5 S_6 L_7 x_8)) ∧ (((I_4 6 (x_8).toNatClampNeg) = (2 : Int32)) → ((vp_in x_8 24) ∧ (wp_X2_lastDay n0 n1 I_4 J_5 S_6 L_7 (fun (r_21 : Int32) (I_17 : TI) (J_18 : TJ) (S_19 : TS) (L_20 : TL) => (((r_21 < (I_4 9 (x_8).toNatClampNeg)) → (B_9 I_17 J_18 S_19 L_20 x_8)) ∧ ((¬ r_21 < (I_4 9 (x_8).toNatClampNeg)) → ((vp_in x_8 24) ∧ (∀ x_22 : Int32, x_22 = (I_17 7 (x_8).toNatClampNeg) → (wp_X2_duesOf n0 n1 I_17 J_18 S_19 L_20 x_22 (((S_19 3) - (4 : Int32)) + (1 : Int32)) ((S_19 3) + (1 : Int32)) (fun (r_27 : Int64) (I_23 : TI) (J_24 : TJ) (S_25 : TS) (L_26 : TL) => ((vp_in x_8 24) ∧ (∀ y_28 : Int64, y_28 = (if ((((I_23 10 (x_8).toNatClampNeg)).toInt64) - r_27) < (0 : Int64) then (0 : Int64) else ((((I_23 10 (x_8).toNatClampNeg)).toInt64) - r_27)) → ((vp_in ((x_22 * (40 : Int32)) + (S_25 3)) 480) ∧ ((vp_in ((x_22 * (40 : Int32)) + (S_25 3)) 480) ∧ ∀ I_29 : TI, I_29 = va_up I_23 29 (upd (I_23 29) (((x_22 * (40 : Int32)) + (S_25 3))).toNatClampNeg ((I_23 29 (((x_22 * (40 : Int32)) + (S_25 3))).toNatClampNeg) + ((y_28).toInt32))) → ((vp_in x_22 12) ∧ ((vp_in x_22 12) ∧ ∀ J_30 : TJ, J_30 = va_up J_24 28 (vp_updL (J_24 28) (x_22).toNatClampNeg ((J_24 28 (x_22).toNatClampNeg) + y_28)) → (B_9 I_29 J_30 S_25 L_26 x_8))))))))))))))))))))))
theorem nX2_fillFloors_X2 : ∀ w ∈ wsX20, w ∈ wsX2_fillFloors := fun _ h => List.mem_cons_of_mem _ (List.mem_append_left _ (List.mem_append_right _ h))
theorem kX2_fillFloors_13 : Cond.fieldLink RX2 18 "SongOffice$Ledger" "filled" "[J" ∈ wsX2_fillFloors := List.mem_of_getElem? (i := 13) rfl
theorem kX2_fillFloors_6 : Cond.fieldLink RX2 78 "SongOffice$Ledger" "closed" "I" ∈ wsX2_fillFloors := List.mem_of_getElem? (i := 6) rfl
theorem kX2_fillFloors_12 : Cond.fieldLink RX2 21 "SongOffice$Ledger" "dues" "[I" ∈ wsX2_fillFloors := List.mem_of_getElem? (i := 12) rfl
theorem kX2_fillFloors_8 : Cond.methodLink RX2 229 Lib.MathLoose.max_long.x ∈ wsX2_fillFloors := List.mem_of_getElem? (i := 8) rfl
theorem kX2_fillFloors_9 : Cond.static Lib.MathLoose.max_long.x ∈ wsX2_fillFloors := List.mem_of_getElem? (i := 9) rfl
theorem kX2_fillFloors_10 : Cond.initialized "java/lang/Math" ∈ wsX2_fillFloors := List.mem_of_getElem? (i := 10) rfl
theorem kX2_fillFloors_11 : Cond.code Lib.MathLoose.max_long.x Lib.MathLoose.max_long.code 4 (some .long) ∈ wsX2_fillFloors := List.mem_of_getElem? (i := 11) rfl
theorem nX2_fillFloors_X0 : ∀ w ∈ wsX00, w ∈ wsX2_fillFloors := fun _ h => List.mem_cons_of_mem _ (List.mem_append_right _ h)
theorem kX2_fillFloors_7 : Cond.fieldLink RX2 121 "SongOffice$BargainBook" "x" "[I" ∈ wsX2_fillFloors := List.mem_of_getElem? (i := 7) rfl
theorem kX2_fillFloors_1 : Cond.fieldLink RX2 45 "SongOffice$Ledger" "bargains" "LSongOffice$BargainBook;" ∈ wsX2_fillFloors := List.mem_of_getElem? (i := 1) rfl
theorem kX2_fillFloors_5 : Cond.fieldLink RX2 235 "SongOffice$BargainBook" "hands" "[I" ∈ wsX2_fillFloors := List.mem_of_getElem? (i := 5) rfl
theorem kX2_fillFloors_4 : Cond.fieldLink RX2 236 "SongOffice$BargainBook" "days" "[I" ∈ wsX2_fillFloors := List.mem_of_getElem? (i := 4) rfl
theorem kX2_fillFloors_3 : Cond.fieldLink RX2 116 "SongOffice$BargainBook" "kinds" "[I" ∈ wsX2_fillFloors := List.mem_of_getElem? (i := 3) rfl
theorem kX2_fillFloors_2 : Cond.fieldLink RX2 142 "SongOffice$BargainBook" "size" "I" ∈ wsX2_fillFloors := List.mem_of_getElem? (i := 2) rfl
abbrev rmX2_fillFloors : Room := { frames := 1, cells := 0, slots := 0, locals := 40 }
set_option maxHeartbeats 4000000 in
set_option maxRecDepth 100000 in
theorem c_X2_fillFloors (l : Launch) (dC : Nat → ClassId) (dI : Nat → Nat → Nat) (a : Nat → Nat) (cy : Nat → ClassId) (n0 n1 : Nat) (sz : Nat) (I : TI) (J : TJ) (S : TS) (L : TL) (Φ : TI → TJ → TS → TL → Prop) (h : wp_X2_fillFloors n0 n1 I J S L Φ) : Met l yX2_fillFloors wsX2_fillFloors rmX2_fillFloors (va_Pc [.ref (a 25)] (gpre dC dI (wL a cy n0 n1 I J S L) (tyL cy) sz)) (gQv dC dI (wL a cy n0 n1) (tyL cy) (va_A (wL a cy n0 n1 I J S L) sz) Φ) 0 0 (va_A (wL a cy n0 n1 I J S L) sz) := by
  refine Met.ofW (cc := cX2_fillFloors) (maxL := 7) (ret := none) (by decide) rfl ?_
  intro p e s m args below meth c s₁ B hml hv
  obtain ⟨hargs, hsz, hP, hK, hD0, hN⟩ := hv
  have hx := B.exec
  have hb := B.bytes
  have hr := B.returns
  have hts := atoms_spec (ws := wsX2_fillFloors) B.pre
  have hown : s.vm.findClass RX2 = some m.cls := findClass_of_methodNamed B.named
  have hlocks := B.notSynchronized
  subst hsz
  have hD := hD0.self (sz := s.heap.size)
  generalize hAe : va_A (wL a cy n0 n1 I J S L) s.heap.size = A at hD ⊢
  have hA : ∀ q : Nat, s.heap.size ≤ q → A q := fun q h => by rw [← hAe]; exact Or.inr h
  obtain ⟨H, hH⟩ : ∃ z : Heap, z = s.heap := ⟨_, rfl⟩
  rw [← hH] at hP
  have hS : va_S A s.heap H [] := by rw [hH]; exact va_S.rf
  have hl := lv_entry ([.ref (a 25)]) (n := 7) (Nat.le_of_ble_eq_true rfl)
  have hE : entryFrame m args 7 = F0 m 0 ((lg_sl ([.ref (a 25)]) ++ List.replicate (7 - (lg_sl ([.ref (a 25)])).length) Slot.unset).toArray) [] := by rw [hargs]; exact lg_entry_eq m _ _
  rw [hE, ← hH]
  clear hE
  generalize (lg_sl ([.ref (a 25)]) ++ List.replicate (7 - (lg_sl ([.ref (a 25)])).length) Slot.unset).toArray = ls at hl ⊢
  have hl : lv_has ls 7 [(0, .ref (a 25))] := hl
  unfold wp_X2_fillFloors at h
  refine lv_iconst (v := 0) hx hb dX2_fillFloors_0 (by decide) ?_
  refine lv_istore_n (lv' := [(1, .int (0 : Int32)), (0, .ref (a 25))]) hx hb dX2_fillFloors_1 rfl hl (by decide) rfl (fun ls hl => ?_)
  obtain ⟨V_1, ⟨n_3, h0V_1⟩, hV_1⟩ := h
  have lV_1 : ∀ (n_2 : Nat) (I_4 : TI) (J_5 : TJ) (S_6 : TS) (L_7 : TL) (x_8 : Int32) (H : Heap) (locs : List Loc) (ls : Array Slot), va_P (dC, dI) vwCl (wL a cy n0 n1 I_4 J_5 S_6 L_7) H → va_D A (wL a cy n0 n1 I_4 J_5 S_6 L_7) → va_S A s.heap H locs → lv_has ls 7 [(0, .ref (a 25)), (1, .int x_8)] → V_1 n_2 I_4 J_5 S_6 L_7 x_8 → W p l e (headSpec wsX2_fillFloors rmX2_fillFloors).room s m args below meth c H locs 0 0 (MQ below (gQv dC dI (wL a cy n0 n1) (tyL cy) A Φ) args s 0 0 A) (F0 m 2 ls []) := by
    intro n_2
    induction n_2 using Nat.strongRecOn with
    | ind n_2 ihV_1 =>
        intro I_4 J_5 S_6 L_7 x_8 H locs ls hP hD hS hl h
        have h := hV_1 n_2 I_4 J_5 S_6 L_7 x_8 h
        refine lv_iload_n hx hb dX2_fillFloors_2 rfl (lv_at hl 1 rfl) ?_
        refine lv_aload_n hx hb dX2_fillFloors_3 rfl (lv_at hl 0 rfl) ?_
        refine va_get (D := (dC, dI)) (ci := 2) (v := .ref (a 5)) (C := RX2) (T := TX2) (N := 16) hx hb hts nX2_fillFloors_X2 hown hK hP 25 (wL_at25 _ _ _ _ _ _ _ _) rfl 13 (by decide) (hts (.fieldLink RX2 45 "SongOffice$Ledger" "bargains" "LSongOffice$BargainBook;") kX2_fillFloors_1) (fun _ h9 => h9) rfl dX2_fillFloors_4 ?_
        refine va_get (D := (dC, dI)) (ci := 0) (v := .int (S_6 1)) (C := RX0) (T := TX0) (N := 9) hx hb hts nX2_fillFloors_X0 hown hK hP 5 (wL_at5 _ _ _ _ _ _ _ _) rfl 8 (by decide) (hts (.fieldLink RX2 142 "SongOffice$BargainBook" "size" "I") kX2_fillFloors_2) (fun _ h9 => h9) rfl dX2_fillFloors_7 ?_
        refine lv_icmp_ge (tgt := 127) hx hb dX2_fillFloors_10 (by decide) (fun hc => ?_) (fun hc => ?_)
        · have h := h.1 hc
          exact grv hx hb hr hlocks hP hK hD hS h dX2_fillFloors_127
        · have h := h.2 hc
          refine lv_aload_n hx hb dX2_fillFloors_13 rfl (lv_at hl 0 rfl) ?_
          refine va_get (D := (dC, dI)) (ci := 2) (v := .ref (a 5)) (C := RX2) (T := TX2) (N := 16) hx hb hts nX2_fillFloors_X2 hown hK hP 25 (wL_at25 _ _ _ _ _ _ _ _) rfl 13 (by decide) (hts (.fieldLink RX2 45 "SongOffice$Ledger" "bargains" "LSongOffice$BargainBook;") kX2_fillFloors_1) (fun _ h9 => h9) rfl dX2_fillFloors_14 ?_
          refine va_get (D := (dC, dI)) (ci := 0) (v := .ref (a 6)) (C := RX0) (T := TX0) (N := 9) hx hb hts nX2_fillFloors_X0 hown hK hP 5 (wL_at5 _ _ _ _ _ _ _ _) rfl 0 (by decide) (hts (.fieldLink RX2 116 "SongOffice$BargainBook" "kinds" "[I") kX2_fillFloors_3) (fun _ h9 => h9) rfl dX2_fillFloors_17 ?_
          refine lv_iload_n hx hb dX2_fillFloors_20 rfl (lv_at hl 1 rfl) ?_
          obtain ⟨hi, h⟩ := h
          refine va_iald hx hb hK hP 6 4 (wL_at6 _ _ _ _ _ _ _ _) rfl hi dX2_fillFloors_21 ?_
          refine lv_iconst (v := 2) hx hb dX2_fillFloors_22 (by decide) ?_
          obtain ⟨B_9, hB_9, h⟩ := h
          have jB_9 : ∀ (I_10 : TI) (J_11 : TJ) (S_12 : TS) (L_13 : TL) (x_14 : Int32) (H : Heap) (locs : List Loc) (ls : Array Slot), va_P (dC, dI) vwCl (wL a cy n0 n1 I_10 J_11 S_12 L_13) H → va_D A (wL a cy n0 n1 I_10 J_11 S_12 L_13) → va_S A s.heap H locs → lv_has ls 7 [(0, .ref (a 25)), (1, .int x_14)] → B_9 I_10 J_11 S_12 L_13 x_14 → W p l e (headSpec wsX2_fillFloors rmX2_fillFloors).room s m args below meth c H locs 0 0 (MQ below (gQv dC dI (wL a cy n0 n1) (tyL cy) A Φ) args s 0 0 A) (F0 m 121 ls []) := by
            intro I_10 J_11 S_12 L_13 x_14 H locs ls hP hD hS hl h
            have h := hB_9 I_10 J_11 S_12 L_13 x_14 h
            obtain ⟨x_15, ex_15⟩ : ∃ z : Int32, z = x_14 + 1 := ⟨_, rfl⟩
            have h := h x_15 ex_15
            refine lv_iinc (v := x_15) (lv' := [(1, .int x_15), (0, .ref (a 25))]) hx hb dX2_fillFloors_121 hl (k := 1) rfl (by rw [ex_15]; rfl) (by decide) rfl (fun ls hl => ?_)
            refine lv_goto (tgt := 2) hx hb dX2_fillFloors_124 (by decide) ?_
            obtain ⟨n_16, hn2, h⟩ := h
            exact ihV_1 n_16 hn2 I_10 J_11 S_12 L_13 x_15 _ _ _ hP hD hS (lv_sub hl [1, 0] rfl) h
          refine lv_icmp_ne (tgt := 121) hx hb dX2_fillFloors_23 (by decide) (fun hc => ?_) (fun hc => ?_)
          · have h := h.1 hc
            exact jB_9 I_4 J_5 S_6 L_7 x_8 _ _ _ hP hD hS (lv_sub hl [0, 1] rfl) h
          · have h := h.2 hc
            refine lv_aload_n hx hb dX2_fillFloors_26 rfl (lv_at hl 0 rfl) ?_
            refine va_get (D := (dC, dI)) (ci := 2) (v := .ref (a 5)) (C := RX2) (T := TX2) (N := 16) hx hb hts nX2_fillFloors_X2 hown hK hP 25 (wL_at25 _ _ _ _ _ _ _ _) rfl 13 (by decide) (hts (.fieldLink RX2 45 "SongOffice$Ledger" "bargains" "LSongOffice$BargainBook;") kX2_fillFloors_1) (fun _ h9 => h9) rfl dX2_fillFloors_27 ?_
            refine va_get (D := (dC, dI)) (ci := 0) (v := .ref (a 9)) (C := RX0) (T := TX0) (N := 9) hx hb hts nX2_fillFloors_X0 hown hK hP 5 (wL_at5 _ _ _ _ _ _ _ _) rfl 3 (by decide) (hts (.fieldLink RX2 236 "SongOffice$BargainBook" "days" "[I") kX2_fillFloors_4) (fun _ h9 => h9) rfl dX2_fillFloors_30 ?_
            refine lv_iload_n hx hb dX2_fillFloors_33 rfl (lv_at hl 1 rfl) ?_
            obtain ⟨hi, h⟩ := h
            refine va_iald hx hb hK hP 9 7 (wL_at9 _ _ _ _ _ _ _ _) rfl hi dX2_fillFloors_34 ?_
            refine lv_aload_n hx hb dX2_fillFloors_35 rfl (lv_at hl 0 rfl) ?_
            refine gcalli (va_runV (As := []) (rest := [.int (I_4 9 (x_8).toNatClampNeg)]) ⟨hx, hb, hml, hown, hts⟩ (c_X2_lastDay l dC dI a cy n0 n1 H.size I_4 J_5 S_6 L_7 _ h) (cwV 0 hts gX2_fillFloors_X2_lastDay rfl rfl rfl (by decide +kernel) ⟨(Nat.le_of_ble_eq_true rfl), (Nat.le_of_ble_eq_true rfl)⟩) (g_pV hP hK hD hN (va_recv hK hP (ci := 2) (q0 := 25) rfl (wL_at25 _ _ _ _ _ _ _ _)) []) rfl rfl hl.1 rfl (lv_room (Nat.le_of_ble_eq_true rfl)) dX2_fillFloors_36 ⟨(Nat.le_of_ble_eq_true rfl), (Nat.le_of_ble_eq_true rfl)⟩) hS hA hD (fun r_21 I_17 J_18 S_19 L_20 H locs hP hD hS h => ?_)
            refine lv_icmp_gt (tgt := 121) hx hb dX2_fillFloors_39 (by decide) (fun hc => ?_) (fun hc => ?_)
            · have h := h.1 hc
              exact jB_9 I_17 J_18 S_19 L_20 x_8 _ _ _ hP hD hS (lv_sub hl [0, 1] rfl) h
            · have h := h.2 hc
              refine lv_aload_n hx hb dX2_fillFloors_42 rfl (lv_at hl 0 rfl) ?_
              refine va_get (D := (dC, dI)) (ci := 2) (v := .ref (a 5)) (C := RX2) (T := TX2) (N := 16) hx hb hts nX2_fillFloors_X2 hown hK hP 25 (wL_at25 _ _ _ _ _ _ _ _) rfl 13 (by decide) (hts (.fieldLink RX2 45 "SongOffice$Ledger" "bargains" "LSongOffice$BargainBook;") kX2_fillFloors_1) (fun _ h9 => h9) rfl dX2_fillFloors_43 ?_
              refine va_get (D := (dC, dI)) (ci := 0) (v := .ref (a 7)) (C := RX0) (T := TX0) (N := 9) hx hb hts nX2_fillFloors_X0 hown hK hP 5 (wL_at5 _ _ _ _ _ _ _ _) rfl 1 (by decide) (hts (.fieldLink RX2 235 "SongOffice$BargainBook" "hands" "[I") kX2_fillFloors_5) (fun _ h9 => h9) rfl dX2_fillFloors_46 ?_
              refine lv_iload_n hx hb dX2_fillFloors_49 rfl (lv_at hl 1 rfl) ?_
              obtain ⟨hi, h⟩ := h
              refine va_iald hx hb hK hP 7 5 (wL_at7 _ _ _ _ _ _ _ _) rfl hi dX2_fillFloors_50 ?_
              refine lv_topi (fun x_22 ex_22 => ?_)
              have h := h x_22 ex_22
              refine lv_istore_n (lv' := [(2, .int x_22), (0, .ref (a 25)), (1, .int x_8)]) hx hb dX2_fillFloors_51 rfl hl (by decide) rfl (fun ls hl => ?_)
              refine lv_aload_n hx hb dX2_fillFloors_52 rfl (lv_at hl 1 rfl) ?_
              refine lv_iload_n hx hb dX2_fillFloors_53 rfl (lv_at hl 0 rfl) ?_
              refine lv_aload_n hx hb dX2_fillFloors_54 rfl (lv_at hl 1 rfl) ?_
              refine va_get (D := (dC, dI)) (ci := 2) (v := .int (S_19 3)) (C := RX2) (T := TX2) (N := 16) hx hb hts nX2_fillFloors_X2 hown hK hP 25 (wL_at25 _ _ _ _ _ _ _ _) rfl 10 (by decide) (hts (.fieldLink RX2 78 "SongOffice$Ledger" "closed" "I") kX2_fillFloors_6) (fun _ h9 => h9) rfl dX2_fillFloors_55 ?_
              refine lv_iconst (v := 4) hx hb dX2_fillFloors_58 (by decide) ?_
              refine lv_isub hx hb dX2_fillFloors_59 ?_
              refine lv_iconst (v := 1) hx hb dX2_fillFloors_60 (by decide) ?_
              refine lv_iadd hx hb dX2_fillFloors_61 ?_
              refine lv_aload_n hx hb dX2_fillFloors_62 rfl (lv_at hl 1 rfl) ?_
              refine va_get (D := (dC, dI)) (ci := 2) (v := .int (S_19 3)) (C := RX2) (T := TX2) (N := 16) hx hb hts nX2_fillFloors_X2 hown hK hP 25 (wL_at25 _ _ _ _ _ _ _ _) rfl 10 (by decide) (hts (.fieldLink RX2 78 "SongOffice$Ledger" "closed" "I") kX2_fillFloors_6) (fun _ h9 => h9) rfl dX2_fillFloors_63 ?_
              refine lv_iconst (v := 1) hx hb dX2_fillFloors_66 (by decide) ?_
              refine lv_iadd hx hb dX2_fillFloors_67 ?_
              refine gcalll (va_runV (As := [.int x_22, .int (((S_19 3) - (4 : Int32)) + (1 : Int32)), .int ((S_19 3) + (1 : Int32))]) (rest := []) ⟨hx, hb, hml, hown, hts⟩ (c_X2_duesOf l dC dI a cy n0 n1 H.size I_17 J_18 S_19 L_20 x_22 (((S_19 3) - (4 : Int32)) + (1 : Int32)) ((S_19 3) + (1 : Int32)) _ h) (cwV 3 hts gX2_fillFloors_X2_duesOf rfl rfl rfl (by decide +kernel) ⟨(Nat.le_of_ble_eq_true rfl), (Nat.le_of_ble_eq_true rfl)⟩) (g_pV hP hK hD hN (va_recv hK hP (ci := 2) (q0 := 25) rfl (wL_at25 _ _ _ _ _ _ _ _)) [.int x_22, .int (((S_19 3) - (4 : Int32)) + (1 : Int32)), .int ((S_19 3) + (1 : Int32))]) rfl rfl hl.1 rfl (lv_room (Nat.le_of_ble_eq_true rfl)) dX2_fillFloors_68 ⟨(Nat.le_of_ble_eq_true rfl), (Nat.le_of_ble_eq_true rfl)⟩) hS hA hD (fun r_27 I_23 J_24 S_25 L_26 H locs hP hD hS h => ?_)
              refine lv_lstore_n (lv' := [(3, .long r_27), (2, .int x_22), (0, .ref (a 25)), (1, .int x_8)]) hx hb dX2_fillFloors_71 rfl hl (by decide) rfl (fun ls hl => ?_)
              refine lv_lconst (v := 0) hx hb dX2_fillFloors_72 (by decide) ?_
              refine lv_aload_n hx hb dX2_fillFloors_73 rfl (lv_at hl 2 rfl) ?_
              refine va_get (D := (dC, dI)) (ci := 2) (v := .ref (a 5)) (C := RX2) (T := TX2) (N := 16) hx hb hts nX2_fillFloors_X2 hown hK hP 25 (wL_at25 _ _ _ _ _ _ _ _) rfl 13 (by decide) (hts (.fieldLink RX2 45 "SongOffice$Ledger" "bargains" "LSongOffice$BargainBook;") kX2_fillFloors_1) (fun _ h9 => h9) rfl dX2_fillFloors_74 ?_
              refine va_get (D := (dC, dI)) (ci := 0) (v := .ref (a 10)) (C := RX0) (T := TX0) (N := 9) hx hb hts nX2_fillFloors_X0 hown hK hP 5 (wL_at5 _ _ _ _ _ _ _ _) rfl 4 (by decide) (hts (.fieldLink RX2 121 "SongOffice$BargainBook" "x" "[I") kX2_fillFloors_7) (fun _ h9 => h9) rfl dX2_fillFloors_77 ?_
              refine lv_iload_n hx hb dX2_fillFloors_80 rfl (lv_at hl 3 rfl) ?_
              obtain ⟨hi, h⟩ := h
              refine va_iald hx hb hK hP 10 8 (wL_at10 _ _ _ _ _ _ _ _) rfl hi dX2_fillFloors_81 ?_
              refine lv_i2l (v := (((I_23 10 (x_8).toNatClampNeg)).toInt64)) hx hb dX2_fillFloors_82 rfl ?_
              refine lv_lload_n hx hb dX2_fillFloors_83 rfl (lv_at hl 0 rfl) ?_
              refine lv_lsub hx hb dX2_fillFloors_84 ?_
              refine va_mmax_long hx hb (hml.trans hl.1.symm) hown (hts (.methodLink RX2 229 Lib.MathLoose.max_long.x) kX2_fillFloors_8) (hts (.static Lib.MathLoose.max_long.x) kX2_fillFloors_9) (hts (.initialized "java/lang/Math") kX2_fillFloors_10) (hts (.code Lib.MathLoose.max_long.x Lib.MathLoose.max_long.code 4 (some .long)) kX2_fillFloors_11) (Nat.le_of_ble_eq_true rfl) (Nat.le_of_ble_eq_true rfl) (Nat.le_of_ble_eq_true rfl) (Nat.le_of_ble_eq_true rfl) dX2_fillFloors_85 ?_
              refine lv_topl (fun y_28 ey_28 => ?_)
              have h := h y_28 ey_28
              refine lv_lstore (lv' := [(5, .long y_28), (3, .long r_27), (2, .int x_22), (0, .ref (a 25)), (1, .int x_8)]) hx hb dX2_fillFloors_88 hl (by decide) rfl (fun ls hl => ?_)
              refine lv_aload_n hx hb dX2_fillFloors_90 rfl (lv_at hl 3 rfl) ?_
              refine va_get (D := (dC, dI)) (ci := 2) (v := .ref (a 29)) (C := RX2) (T := TX2) (N := 16) hx hb hts nX2_fillFloors_X2 hown hK hP 25 (wL_at25 _ _ _ _ _ _ _ _) rfl 3 (by decide) (hts (.fieldLink RX2 21 "SongOffice$Ledger" "dues" "[I") kX2_fillFloors_12) (fun _ h9 => h9) rfl dX2_fillFloors_91 ?_
              refine lv_iload_n hx hb dX2_fillFloors_94 rfl (lv_at hl 2 rfl) ?_
              refine lv_bipush (v := 40) hx hb dX2_fillFloors_95 (by decide) ?_
              refine lv_imul hx hb dX2_fillFloors_97 ?_
              refine lv_aload_n hx hb dX2_fillFloors_98 rfl (lv_at hl 3 rfl) ?_
              refine va_get (D := (dC, dI)) (ci := 2) (v := .int (S_25 3)) (C := RX2) (T := TX2) (N := 16) hx hb hts nX2_fillFloors_X2 hown hK hP 25 (wL_at25 _ _ _ _ _ _ _ _) rfl 10 (by decide) (hts (.fieldLink RX2 78 "SongOffice$Ledger" "closed" "I") kX2_fillFloors_6) (fun _ h9 => h9) rfl dX2_fillFloors_99 ?_
              refine lv_iadd hx hb dX2_fillFloors_102 ?_
              refine lv_dup2_11 hx hb dX2_fillFloors_103 rfl rfl ?_
              obtain ⟨hi, h⟩ := h
              refine va_iald hx hb hK hP 29 24 (wL_at29 _ _ _ _ _ _ _ _) rfl hi dX2_fillFloors_104 ?_
              refine lv_lload hx hb dX2_fillFloors_105 (lv_at hl 0 rfl) ?_
              refine lv_l2i (v := ((y_28).toInt32)) hx hb dX2_fillFloors_107 rfl ?_
              refine lv_iadd hx hb dX2_fillFloors_108 ?_
              obtain ⟨hi, h⟩ := h
              obtain ⟨I_29, eI_29⟩ : ∃ z : TI, z = va_up I_23 29 (upd (I_23 29) (((x_22 * (40 : Int32)) + (S_25 3))).toNatClampNeg ((I_23 29 (((x_22 * (40 : Int32)) + (S_25 3))).toNatClampNeg) + ((y_28).toInt32))) := ⟨_, rfl⟩
              have h := h I_29 eI_29
              refine va_iast hx hb hK hP hD hS 29 24 (wL_at29 _ _ _ _ _ _ _ _) rfl hi dX2_fillFloors_109 (fun H locs hP hD hS => ?_)
              have hP : va_P (dC, dI) vwCl (wL a cy n0 n1 I_29 J_24 S_25 L_26) H := by rw [eI_29]; exact setP hP (wL_set29 _ _ _ _ _ _ _ _ _)
              have hD : va_D A (wL a cy n0 n1 I_29 J_24 S_25 L_26) := by rw [eI_29]; exact setD hD (wL_set29 _ _ _ _ _ _ _ _ _)
              refine lv_aload_n hx hb dX2_fillFloors_110 rfl (lv_at hl 3 rfl) ?_
              refine va_get (D := (dC, dI)) (ci := 2) (v := .ref (a 28)) (C := RX2) (T := TX2) (N := 16) hx hb hts nX2_fillFloors_X2 hown hK hP 25 (wL_at25 _ _ _ _ _ _ _ _) rfl 2 (by decide) (hts (.fieldLink RX2 18 "SongOffice$Ledger" "filled" "[J") kX2_fillFloors_13) (fun _ h9 => h9) rfl dX2_fillFloors_111 ?_
              refine lv_iload_n hx hb dX2_fillFloors_114 rfl (lv_at hl 2 rfl) ?_
              refine lv_dup2_11 hx hb dX2_fillFloors_115 rfl rfl ?_
              obtain ⟨hi, h⟩ := h
              refine va_lald hx hb hK hP 28 23 (wL_at28 _ _ _ _ _ _ _ _) rfl hi dX2_fillFloors_116 ?_
              refine lv_lload hx hb dX2_fillFloors_117 (lv_at hl 0 rfl) ?_
              refine lv_ladd hx hb dX2_fillFloors_119 ?_
              obtain ⟨hi, h⟩ := h
              obtain ⟨J_30, eJ_30⟩ : ∃ z : TJ, z = va_up J_24 28 (vp_updL (J_24 28) (x_22).toNatClampNeg ((J_24 28 (x_22).toNatClampNeg) + y_28)) := ⟨_, rfl⟩
              have h := h J_30 eJ_30
              refine va_last hx hb hK hP hD hS 28 23 (wL_at28 _ _ _ _ _ _ _ _) rfl hi dX2_fillFloors_120 (fun H locs hP hD hS => ?_)
              have hP : va_P (dC, dI) vwCl (wL a cy n0 n1 I_29 J_30 S_25 L_26) H := by rw [eJ_30]; exact setP hP (wL_set28 _ _ _ _ _ _ _ _ _)
              have hD : va_D A (wL a cy n0 n1 I_29 J_30 S_25 L_26) := by rw [eJ_30]; exact setD hD (wL_set28 _ _ _ _ _ _ _ _ _)
              exact jB_9 I_29 J_30 S_25 L_26 x_8 _ _ _ hP hD hS (lv_sub hl [3, 4] rfl) h
  exact lV_1 n_3 I J S L (0 : Int32) _ _ _ hP hD hS (lv_sub hl [1, 0] rfl) h0V_1
def wp_X2_closeTerm (n0 n1 : Nat) (I : TI) (J : TJ) (S : TS) (L : TL) (Φ : TI → TJ → TS → TL → Prop) : Prop := ∀ S_1 : TS, S_1 = va_up S 5 (0 : Int32) → (∃ V_2 : Nat → TI → TJ → TS → TL → Int32 → Prop, (∃ n_4, V_2 n_4 I J S_1 L (0 : Int32)) ∧ ∀ (n_3 : Nat) (I_5 : TI) (J_6 : TJ) (S_7 : TS) (L_8 : TL) (x_9 : Int32), V_2 n_3 I_5 J_6 S_7 L_8 x_9 → (wp_X4_sizeOf n0 n1 I_5 J_6 S_7 L_8 (S_7 3) (fun (r_14 : Int32) (I_10 : TI) (J_11 : TJ) (S_12 : TS) (L_13 : TL) => (((r_14 ≤ x_9) → (wp_X2_emptyOldBags n0 n1 I_10 J_11 S_12 L_13 (fun (I_15 : TI) (J_16 : TJ) (S_17 : TS) (L_18 : TL) => (wp_X2_payHands n0 n1 I_15 J_16 S_17 L_18 (fun (I_19 : TI) (J_20 : TJ) (S_21 : TS) (L_22 : TL) => (∃ B_23 : TI → TJ → TS → TL → Prop, (∀ (I_24 : TI) (J_25 : TJ) (S_26 : TS) (L_27 : TL), B_23 I_24 J_25 S_26 L_27 → (∀ S_28 : TS, S_28 = va_up S_26 3 ((S_26 3) + (1 : Int32)) → (Φ I_24 J_25 S_28 L_27))) ∧ (((¬ ((S_21 3) - (S_21 3) / (4 : Int32) * (4 : Int32)) = (3 : Int32)) → (B_23 I_19 J_20 S_21 L_22)) ∧ ((((S_21 3) - (S_21 3) / (4 : Int32) * (4 : Int32)) = (3 : Int32)) → (wp_X2_fillFloors n0 n1 I_19 J_20 S_21 L_22 (fun (I_29 : TI) (J_30 : TJ) (S_31 : TS) (L_32 : TL) => (B_23 I_29 J_30 S_31 L_32))))))))))) ∧ ((¬ r_14 ≤ x_9) → (wp_X4_workAt n0 n1 I_10 J_11 S_12 L_13 (S_12 3) x_9 (fun (r_37 : Int32) (I_33 : TI) (J_34 : TJ) (S_35 : TS) (L_36 : TL) => (wp_X4_isOpen n0 n1 I_33 J_34 S_35 L_36 (S_35 3) r_37 (fun (r_42 : Int32) (I_38 : TI) (J_39 : TJ) (S_40 : TS) (L_41 : TL) => (∃ B_43 : TI → TJ → TS → TL → Int32 → Prop, (∀ (I_44 : TI) (J_45 : TJ) (S_46 : TS) (L_47 : TL) (x_48 : Int32), B_43 I_44 J_45 S_46 L_47 x_48 → (∀ x_49 : Int32, x_49 = x_48 + 1 → (∃ n_50, n_50 < n_3 ∧ V_2 n_50 I_44 J_45 S_46 L_47 x_49))) ∧ (((¬ r_42 = 0) → (B_43 I_38 J_39 S_40 L_41 x_9)) ∧ ((r_42 = 0) → (wp_X2_bringIn n0 n1 I_38 J_39 S_40 L_41 r_37 (fun (I_51 : TI) (J_52 : TJ) (S_53 : TS) (L_54 : TL) => (B_43 I_51 J_52 S_53 L_54 x_9)))))))))))))))
theorem nX2_closeTerm_X2 : ∀ w ∈ wsX20, w ∈ wsX2_closeTerm := fun _ h => List.mem_cons_of_mem _ (List.mem_append_left _ (List.mem_append_left _ (List.mem_append_left _ (List.mem_append_left _ (List.mem_append_right _ h)))))
theorem kX2_closeTerm_4 : Cond.fieldLink RX2 78 "SongOffice$Ledger" "closed" "I" ∈ wsX2_closeTerm := List.mem_of_getElem? (i := 4) rfl
theorem kX2_closeTerm_3 : Cond.fieldLink RX2 50 "SongOffice$Ledger" "reports" "LSongOffice$ReportBook;" ∈ wsX2_closeTerm := List.mem_of_getElem? (i := 3) rfl
theorem nX2_closeTerm_X3 : ∀ w ∈ wsX30, w ∈ wsX2_closeTerm := fun _ h => List.mem_cons_of_mem _ (List.mem_append_left _ (List.mem_append_left _ (List.mem_append_left _ (List.mem_append_right _ h))))
theorem kX2_closeTerm_2 : Cond.fieldLink RX2 153 "SongOffice$LineBook" "size" "I" ∈ wsX2_closeTerm := List.mem_of_getElem? (i := 2) rfl
theorem kX2_closeTerm_1 : Cond.fieldLink RX2 61 "SongOffice$Ledger" "lines" "LSongOffice$LineBook;" ∈ wsX2_closeTerm := List.mem_of_getElem? (i := 1) rfl
abbrev rmX2_closeTerm : Room := { frames := 6, cells := 0, slots := 0, locals := 198 }
set_option maxHeartbeats 4000000 in
set_option maxRecDepth 100000 in
theorem c_X2_closeTerm (l : Launch) (dC : Nat → ClassId) (dI : Nat → Nat → Nat) (a : Nat → Nat) (cy : Nat → ClassId) (n0 n1 : Nat) (sz : Nat) (I : TI) (J : TJ) (S : TS) (L : TL) (Φ : TI → TJ → TS → TL → Prop) (h : wp_X2_closeTerm n0 n1 I J S L Φ) : Met l yX2_closeTerm wsX2_closeTerm rmX2_closeTerm (va_Pc [.ref (a 25)] (gpre dC dI (wL a cy n0 n1 I J S L) (tyL cy) sz)) (gQv dC dI (wL a cy n0 n1) (tyL cy) (va_A (wL a cy n0 n1 I J S L) sz) Φ) 0 0 (va_A (wL a cy n0 n1 I J S L) sz) := by
  refine Met.ofW (cc := cX2_closeTerm) (maxL := 3) (ret := none) (by decide) rfl ?_
  intro p e s m args below meth c s₁ B hml hv
  obtain ⟨hargs, hsz, hP, hK, hD0, hN⟩ := hv
  have hx := B.exec
  have hb := B.bytes
  have hr := B.returns
  have hts := atoms_spec (ws := wsX2_closeTerm) B.pre
  have hown : s.vm.findClass RX2 = some m.cls := findClass_of_methodNamed B.named
  have hlocks := B.notSynchronized
  subst hsz
  have hD := hD0.self (sz := s.heap.size)
  generalize hAe : va_A (wL a cy n0 n1 I J S L) s.heap.size = A at hD ⊢
  have hA : ∀ q : Nat, s.heap.size ≤ q → A q := fun q h => by rw [← hAe]; exact Or.inr h
  obtain ⟨H, hH⟩ : ∃ z : Heap, z = s.heap := ⟨_, rfl⟩
  rw [← hH] at hP
  have hS : va_S A s.heap H [] := by rw [hH]; exact va_S.rf
  have hl := lv_entry ([.ref (a 25)]) (n := 3) (Nat.le_of_ble_eq_true rfl)
  have hE : entryFrame m args 3 = F0 m 0 ((lg_sl ([.ref (a 25)]) ++ List.replicate (3 - (lg_sl ([.ref (a 25)])).length) Slot.unset).toArray) [] := by rw [hargs]; exact lg_entry_eq m _ _
  rw [hE, ← hH]
  clear hE
  generalize (lg_sl ([.ref (a 25)]) ++ List.replicate (3 - (lg_sl ([.ref (a 25)])).length) Slot.unset).toArray = ls at hl ⊢
  have hl : lv_has ls 3 [(0, .ref (a 25))] := hl
  unfold wp_X2_closeTerm at h
  refine lv_aload_n hx hb dX2_closeTerm_0 rfl (lv_at hl 0 rfl) ?_
  refine va_get (D := (dC, dI)) (ci := 2) (v := .ref (a 33)) (C := RX2) (T := TX2) (N := 16) hx hb hts nX2_closeTerm_X2 hown hK hP 25 (wL_at25 _ _ _ _ _ _ _ _) rfl 7 (by decide) (hts (.fieldLink RX2 61 "SongOffice$Ledger" "lines" "LSongOffice$LineBook;") kX2_closeTerm_1) (fun _ h9 => h9) rfl dX2_closeTerm_1 ?_
  refine lv_iconst (v := 0) hx hb dX2_closeTerm_4 (by decide) ?_
  obtain ⟨S_1, eS_1⟩ : ∃ z : TS, z = va_up S 5 (0 : Int32) := ⟨_, rfl⟩
  have h := h S_1 eS_1
  refine va_put (D := (dC, dI)) (ci := 3) (v := .int (0 : Int32)) (ty := .int) (C := RX3) (T := TX3) (N := 7) hx hb hts nX2_closeTerm_X3 tyX3 tyX3_ok nmX3 hown hK hP hD hS 33 (wL_at33 _ _ _ _ _ _ _ _) rfl 6 (by decide) (hts (.fieldLink RX2 153 "SongOffice$LineBook" "size" "I") kX2_closeTerm_2) (fun _ h9 => h9) rfl (by decide +kernel) rfl rfl (Nat.le_of_ble_eq_true rfl) dX2_closeTerm_5 (fun H locs hP hD hS => ?_)
  have hP : va_P (dC, dI) vwCl (wL a cy n0 n1 I J S_1 L) H := by rw [eS_1]; exact setP hP (wL_setS5 _ _ _ _ _ _ _ _ _)
  have hD : va_D A (wL a cy n0 n1 I J S_1 L) := by rw [eS_1]; exact setD hD (wL_setS5 _ _ _ _ _ _ _ _ _)
  refine lv_iconst (v := 0) hx hb dX2_closeTerm_8 (by decide) ?_
  refine lv_istore_n (lv' := [(1, .int (0 : Int32)), (0, .ref (a 25))]) hx hb dX2_closeTerm_9 rfl hl (by decide) rfl (fun ls hl => ?_)
  obtain ⟨V_2, ⟨n_4, h0V_2⟩, hV_2⟩ := h
  have lV_2 : ∀ (n_3 : Nat) (I_5 : TI) (J_6 : TJ) (S_7 : TS) (L_8 : TL) (x_9 : Int32) (H : Heap) (locs : List Loc) (ls : Array Slot), va_P (dC, dI) vwCl (wL a cy n0 n1 I_5 J_6 S_7 L_8) H → va_D A (wL a cy n0 n1 I_5 J_6 S_7 L_8) → va_S A s.heap H locs → lv_has ls 3 [(0, .ref (a 25)), (1, .int x_9)] → V_2 n_3 I_5 J_6 S_7 L_8 x_9 → W p l e (headSpec wsX2_closeTerm rmX2_closeTerm).room s m args below meth c H locs 0 0 (MQ below (gQv dC dI (wL a cy n0 n1) (tyL cy) A Φ) args s 0 0 A) (F0 m 10 ls []) := by
    intro n_3
    induction n_3 using Nat.strongRecOn with
    | ind n_3 ihV_2 =>
        intro I_5 J_6 S_7 L_8 x_9 H locs ls hP hD hS hl h
        have h := hV_2 n_3 I_5 J_6 S_7 L_8 x_9 h
        refine lv_iload_n hx hb dX2_closeTerm_10 rfl (lv_at hl 1 rfl) ?_
        refine lv_aload_n hx hb dX2_closeTerm_11 rfl (lv_at hl 0 rfl) ?_
        refine va_get (D := (dC, dI)) (ci := 2) (v := .ref (a 14)) (C := RX2) (T := TX2) (N := 16) hx hb hts nX2_closeTerm_X2 hown hK hP 25 (wL_at25 _ _ _ _ _ _ _ _) rfl 14 (by decide) (hts (.fieldLink RX2 50 "SongOffice$Ledger" "reports" "LSongOffice$ReportBook;") kX2_closeTerm_3) (fun _ h9 => h9) rfl dX2_closeTerm_12 ?_
        refine lv_aload_n hx hb dX2_closeTerm_15 rfl (lv_at hl 0 rfl) ?_
        refine va_get (D := (dC, dI)) (ci := 2) (v := .int (S_7 3)) (C := RX2) (T := TX2) (N := 16) hx hb hts nX2_closeTerm_X2 hown hK hP 25 (wL_at25 _ _ _ _ _ _ _ _) rfl 10 (by decide) (hts (.fieldLink RX2 78 "SongOffice$Ledger" "closed" "I") kX2_closeTerm_4) (fun _ h9 => h9) rfl dX2_closeTerm_16 ?_
        refine gcalli (va_runV (As := [.int (S_7 3)]) (rest := [.int x_9]) ⟨hx, hb, hml, hown, hts⟩ (c_X4_sizeOf l dC dI a cy n0 n1 H.size I_5 J_6 S_7 L_8 (S_7 3) _ h) (cwV 1 hts gX2_closeTerm_X4_sizeOf rfl rfl rfl (by decide +kernel) ⟨(Nat.le_of_ble_eq_true rfl), (Nat.le_of_ble_eq_true rfl)⟩) (g_pV hP hK hD hN (va_recv hK hP (ci := 4) (q0 := 14) rfl (wL_at14 _ _ _ _ _ _ _ _)) [.int (S_7 3)]) rfl rfl hl.1 rfl (lv_room (Nat.le_of_ble_eq_true rfl)) dX2_closeTerm_19 ⟨(Nat.le_of_ble_eq_true rfl), (Nat.le_of_ble_eq_true rfl)⟩) hS hA hD (fun r_14 I_10 J_11 S_12 L_13 H locs hP hD hS h => ?_)
        refine lv_icmp_ge (tgt := 64) hx hb dX2_closeTerm_22 (by decide) (fun hc => ?_) (fun hc => ?_)
        · have h := h.1 hc
          refine lv_aload_n hx hb dX2_closeTerm_64 rfl (lv_at hl 0 rfl) ?_
          refine gcallv (va_runV (As := []) (rest := []) ⟨hx, hb, hml, hown, hts⟩ (c_X2_emptyOldBags l dC dI a cy n0 n1 H.size I_10 J_11 S_12 L_13 _ h) (cwV 0 hts gX2_closeTerm_X2_emptyOldBags rfl rfl rfl (by decide +kernel) ⟨(Nat.le_of_ble_eq_true rfl), (Nat.le_of_ble_eq_true rfl)⟩) (g_pV hP hK hD hN (va_recv hK hP (ci := 2) (q0 := 25) rfl (wL_at25 _ _ _ _ _ _ _ _)) []) rfl rfl hl.1 rfl (lv_room (Nat.le_of_ble_eq_true rfl)) dX2_closeTerm_65 ⟨(Nat.le_of_ble_eq_true rfl), (Nat.le_of_ble_eq_true rfl)⟩) hS hA hD (fun I_15 J_16 S_17 L_18 H locs hP hD hS h => ?_)
          refine lv_aload_n hx hb dX2_closeTerm_68 rfl (lv_at hl 0 rfl) ?_
          refine gcallv (va_runV (As := []) (rest := []) ⟨hx, hb, hml, hown, hts⟩ (c_X2_payHands l dC dI a cy n0 n1 H.size I_15 J_16 S_17 L_18 _ h) (cwV 0 hts gX2_closeTerm_X2_payHands rfl rfl rfl (by decide +kernel) ⟨(Nat.le_of_ble_eq_true rfl), (Nat.le_of_ble_eq_true rfl)⟩) (g_pV hP hK hD hN (va_recv hK hP (ci := 2) (q0 := 25) rfl (wL_at25 _ _ _ _ _ _ _ _)) []) rfl rfl hl.1 rfl (lv_room (Nat.le_of_ble_eq_true rfl)) dX2_closeTerm_69 ⟨(Nat.le_of_ble_eq_true rfl), (Nat.le_of_ble_eq_true rfl)⟩) hS hA hD (fun I_19 J_20 S_21 L_22 H locs hP hD hS h => ?_)
          refine lv_aload_n hx hb dX2_closeTerm_72 rfl (lv_at hl 0 rfl) ?_
          refine va_get (D := (dC, dI)) (ci := 2) (v := .int (S_21 3)) (C := RX2) (T := TX2) (N := 16) hx hb hts nX2_closeTerm_X2 hown hK hP 25 (wL_at25 _ _ _ _ _ _ _ _) rfl 10 (by decide) (hts (.fieldLink RX2 78 "SongOffice$Ledger" "closed" "I") kX2_closeTerm_4) (fun _ h9 => h9) rfl dX2_closeTerm_73 ?_
          refine lv_iconst (v := 4) hx hb dX2_closeTerm_76 (by decide) ?_
          refine lv_irem hx hb dX2_closeTerm_77 (by decide) ?_
          refine lv_iconst (v := 3) hx hb dX2_closeTerm_78 (by decide) ?_
          obtain ⟨B_23, hB_23, h⟩ := h
          have jB_23 : ∀ (I_24 : TI) (J_25 : TJ) (S_26 : TS) (L_27 : TL) (H : Heap) (locs : List Loc) (ls : Array Slot), va_P (dC, dI) vwCl (wL a cy n0 n1 I_24 J_25 S_26 L_27) H → va_D A (wL a cy n0 n1 I_24 J_25 S_26 L_27) → va_S A s.heap H locs → lv_has ls 3 [(0, .ref (a 25))] → B_23 I_24 J_25 S_26 L_27 → W p l e (headSpec wsX2_closeTerm rmX2_closeTerm).room s m args below meth c H locs 0 0 (MQ below (gQv dC dI (wL a cy n0 n1) (tyL cy) A Φ) args s 0 0 A) (F0 m 86 ls []) := by
            intro I_24 J_25 S_26 L_27 H locs ls hP hD hS hl h
            have h := hB_23 I_24 J_25 S_26 L_27 h
            refine lv_aload_n hx hb dX2_closeTerm_86 rfl (lv_at hl 0 rfl) ?_
            refine lv_dup hx hb dX2_closeTerm_87 rfl ?_
            refine va_get (D := (dC, dI)) (ci := 2) (v := .int (S_26 3)) (C := RX2) (T := TX2) (N := 16) hx hb hts nX2_closeTerm_X2 hown hK hP 25 (wL_at25 _ _ _ _ _ _ _ _) rfl 10 (by decide) (hts (.fieldLink RX2 78 "SongOffice$Ledger" "closed" "I") kX2_closeTerm_4) (fun _ h9 => h9) rfl dX2_closeTerm_88 ?_
            refine lv_iconst (v := 1) hx hb dX2_closeTerm_91 (by decide) ?_
            refine lv_iadd hx hb dX2_closeTerm_92 ?_
            obtain ⟨S_28, eS_28⟩ : ∃ z : TS, z = va_up S_26 3 ((S_26 3) + (1 : Int32)) := ⟨_, rfl⟩
            have h := h S_28 eS_28
            refine va_put (D := (dC, dI)) (ci := 2) (v := .int ((S_26 3) + (1 : Int32))) (ty := .int) (C := RX2) (T := TX2) (N := 16) hx hb hts nX2_closeTerm_X2 tyX2 tyX2_ok nmX2 hown hK hP hD hS 25 (wL_at25 _ _ _ _ _ _ _ _) rfl 10 (by decide) (hts (.fieldLink RX2 78 "SongOffice$Ledger" "closed" "I") kX2_closeTerm_4) (fun _ h9 => h9) rfl (by decide +kernel) rfl rfl (Nat.le_of_ble_eq_true rfl) dX2_closeTerm_93 (fun H locs hP hD hS => ?_)
            have hP : va_P (dC, dI) vwCl (wL a cy n0 n1 I_24 J_25 S_28 L_27) H := by rw [eS_28]; exact setP hP (wL_setS3 _ _ _ _ _ _ _ _ _)
            have hD : va_D A (wL a cy n0 n1 I_24 J_25 S_28 L_27) := by rw [eS_28]; exact setD hD (wL_setS3 _ _ _ _ _ _ _ _ _)
            exact grv hx hb hr hlocks hP hK hD hS h dX2_closeTerm_96
          refine lv_icmp_ne (tgt := 86) hx hb dX2_closeTerm_79 (by decide) (fun hc => ?_) (fun hc => ?_)
          · have h := h.1 hc
            exact jB_23 I_19 J_20 S_21 L_22 _ _ _ hP hD hS (lv_sub hl [0] rfl) h
          · have h := h.2 hc
            refine lv_aload_n hx hb dX2_closeTerm_82 rfl (lv_at hl 0 rfl) ?_
            refine gcallv (va_runV (As := []) (rest := []) ⟨hx, hb, hml, hown, hts⟩ (c_X2_fillFloors l dC dI a cy n0 n1 H.size I_19 J_20 S_21 L_22 _ h) (cwV 0 hts gX2_closeTerm_X2_fillFloors rfl rfl rfl (by decide +kernel) ⟨(Nat.le_of_ble_eq_true rfl), (Nat.le_of_ble_eq_true rfl)⟩) (g_pV hP hK hD hN (va_recv hK hP (ci := 2) (q0 := 25) rfl (wL_at25 _ _ _ _ _ _ _ _)) []) rfl rfl hl.1 rfl (lv_room (Nat.le_of_ble_eq_true rfl)) dX2_closeTerm_83 ⟨(Nat.le_of_ble_eq_true rfl), (Nat.le_of_ble_eq_true rfl)⟩) hS hA hD (fun I_29 J_30 S_31 L_32 H locs hP hD hS h => ?_)
            exact jB_23 I_29 J_30 S_31 L_32 _ _ _ hP hD hS (lv_sub hl [0] rfl) h
        · have h := h.2 hc
          refine lv_aload_n hx hb dX2_closeTerm_25 rfl (lv_at hl 0 rfl) ?_
          refine va_get (D := (dC, dI)) (ci := 2) (v := .ref (a 14)) (C := RX2) (T := TX2) (N := 16) hx hb hts nX2_closeTerm_X2 hown hK hP 25 (wL_at25 _ _ _ _ _ _ _ _) rfl 14 (by decide) (hts (.fieldLink RX2 50 "SongOffice$Ledger" "reports" "LSongOffice$ReportBook;") kX2_closeTerm_3) (fun _ h9 => h9) rfl dX2_closeTerm_26 ?_
          refine lv_aload_n hx hb dX2_closeTerm_29 rfl (lv_at hl 0 rfl) ?_
          refine va_get (D := (dC, dI)) (ci := 2) (v := .int (S_12 3)) (C := RX2) (T := TX2) (N := 16) hx hb hts nX2_closeTerm_X2 hown hK hP 25 (wL_at25 _ _ _ _ _ _ _ _) rfl 10 (by decide) (hts (.fieldLink RX2 78 "SongOffice$Ledger" "closed" "I") kX2_closeTerm_4) (fun _ h9 => h9) rfl dX2_closeTerm_30 ?_
          refine lv_iload_n hx hb dX2_closeTerm_33 rfl (lv_at hl 1 rfl) ?_
          refine gcalli (va_runV (As := [.int (S_12 3), .int x_9]) (rest := []) ⟨hx, hb, hml, hown, hts⟩ (c_X4_workAt l dC dI a cy n0 n1 H.size I_10 J_11 S_12 L_13 (S_12 3) x_9 _ h) (cwV 2 hts gX2_closeTerm_X4_workAt rfl rfl rfl (by decide +kernel) ⟨(Nat.le_of_ble_eq_true rfl), (Nat.le_of_ble_eq_true rfl)⟩) (g_pV hP hK hD hN (va_recv hK hP (ci := 4) (q0 := 14) rfl (wL_at14 _ _ _ _ _ _ _ _)) [.int (S_12 3), .int x_9]) rfl rfl hl.1 rfl (lv_room (Nat.le_of_ble_eq_true rfl)) dX2_closeTerm_34 ⟨(Nat.le_of_ble_eq_true rfl), (Nat.le_of_ble_eq_true rfl)⟩) hS hA hD (fun r_37 I_33 J_34 S_35 L_36 H locs hP hD hS h => ?_)
          refine lv_istore_n (lv' := [(2, .int r_37), (0, .ref (a 25)), (1, .int x_9)]) hx hb dX2_closeTerm_37 rfl hl (by decide) rfl (fun ls hl => ?_)
          refine lv_aload_n hx hb dX2_closeTerm_38 rfl (lv_at hl 1 rfl) ?_
          refine va_get (D := (dC, dI)) (ci := 2) (v := .ref (a 14)) (C := RX2) (T := TX2) (N := 16) hx hb hts nX2_closeTerm_X2 hown hK hP 25 (wL_at25 _ _ _ _ _ _ _ _) rfl 14 (by decide) (hts (.fieldLink RX2 50 "SongOffice$Ledger" "reports" "LSongOffice$ReportBook;") kX2_closeTerm_3) (fun _ h9 => h9) rfl dX2_closeTerm_39 ?_
          refine lv_aload_n hx hb dX2_closeTerm_42 rfl (lv_at hl 1 rfl) ?_
          refine va_get (D := (dC, dI)) (ci := 2) (v := .int (S_35 3)) (C := RX2) (T := TX2) (N := 16) hx hb hts nX2_closeTerm_X2 hown hK hP 25 (wL_at25 _ _ _ _ _ _ _ _) rfl 10 (by decide) (hts (.fieldLink RX2 78 "SongOffice$Ledger" "closed" "I") kX2_closeTerm_4) (fun _ h9 => h9) rfl dX2_closeTerm_43 ?_
          refine lv_iload_n hx hb dX2_closeTerm_46 rfl (lv_at hl 0 rfl) ?_
          refine gcalli (va_runV (As := [.int (S_35 3), .int r_37]) (rest := []) ⟨hx, hb, hml, hown, hts⟩ (c_X4_isOpen l dC dI a cy n0 n1 H.size I_33 J_34 S_35 L_36 (S_35 3) r_37 _ h) (cwV 2 hts gX2_closeTerm_X4_isOpen rfl rfl rfl (by decide +kernel) ⟨(Nat.le_of_ble_eq_true rfl), (Nat.le_of_ble_eq_true rfl)⟩) (g_pV hP hK hD hN (va_recv hK hP (ci := 4) (q0 := 14) rfl (wL_at14 _ _ _ _ _ _ _ _)) [.int (S_35 3), .int r_37]) rfl rfl hl.1 rfl (lv_room (Nat.le_of_ble_eq_true rfl)) dX2_closeTerm_47 ⟨(Nat.le_of_ble_eq_true rfl), (Nat.le_of_ble_eq_true rfl)⟩) hS hA hD (fun r_42 I_38 J_39 S_40 L_41 H locs hP hD hS h => ?_)
          obtain ⟨B_43, hB_43, h⟩ := h
          have jB_43 : ∀ (I_44 : TI) (J_45 : TJ) (S_46 : TS) (L_47 : TL) (x_48 : Int32) (H : Heap) (locs : List Loc) (ls : Array Slot), va_P (dC, dI) vwCl (wL a cy n0 n1 I_44 J_45 S_46 L_47) H → va_D A (wL a cy n0 n1 I_44 J_45 S_46 L_47) → va_S A s.heap H locs → lv_has ls 3 [(0, .ref (a 25)), (1, .int x_48)] → B_43 I_44 J_45 S_46 L_47 x_48 → W p l e (headSpec wsX2_closeTerm rmX2_closeTerm).room s m args below meth c H locs 0 0 (MQ below (gQv dC dI (wL a cy n0 n1) (tyL cy) A Φ) args s 0 0 A) (F0 m 58 ls []) := by
            intro I_44 J_45 S_46 L_47 x_48 H locs ls hP hD hS hl h
            have h := hB_43 I_44 J_45 S_46 L_47 x_48 h
            obtain ⟨x_49, ex_49⟩ : ∃ z : Int32, z = x_48 + 1 := ⟨_, rfl⟩
            have h := h x_49 ex_49
            refine lv_iinc (v := x_49) (lv' := [(1, .int x_49), (0, .ref (a 25))]) hx hb dX2_closeTerm_58 hl (k := 1) rfl (by rw [ex_49]; rfl) (by decide) rfl (fun ls hl => ?_)
            refine lv_goto (tgt := 10) hx hb dX2_closeTerm_61 (by decide) ?_
            obtain ⟨n_50, hn2, h⟩ := h
            exact ihV_2 n_50 hn2 I_44 J_45 S_46 L_47 x_49 _ _ _ hP hD hS (lv_sub hl [1, 0] rfl) h
          refine lv_if_ne (tgt := 58) hx hb dX2_closeTerm_50 (by decide) (fun hc => ?_) (fun hc => ?_)
          · have h := h.1 hc
            exact jB_43 I_38 J_39 S_40 L_41 x_9 _ _ _ hP hD hS (lv_sub hl [1, 2] rfl) h
          · have h := h.2 hc
            refine lv_aload_n hx hb dX2_closeTerm_53 rfl (lv_at hl 1 rfl) ?_
            refine lv_iload_n hx hb dX2_closeTerm_54 rfl (lv_at hl 0 rfl) ?_
            refine gcallv (va_runV (As := [.int r_37]) (rest := []) ⟨hx, hb, hml, hown, hts⟩ (c_X2_bringIn l dC dI a cy n0 n1 H.size I_38 J_39 S_40 L_41 r_37 _ h) (cwV 1 hts gX2_closeTerm_X2_bringIn rfl rfl rfl (by decide +kernel) ⟨(Nat.le_of_ble_eq_true rfl), (Nat.le_of_ble_eq_true rfl)⟩) (g_pV hP hK hD hN (va_recv hK hP (ci := 2) (q0 := 25) rfl (wL_at25 _ _ _ _ _ _ _ _)) [.int r_37]) rfl rfl hl.1 rfl (lv_room (Nat.le_of_ble_eq_true rfl)) dX2_closeTerm_55 ⟨(Nat.le_of_ble_eq_true rfl), (Nat.le_of_ble_eq_true rfl)⟩) hS hA hD (fun I_51 J_52 S_53 L_54 H locs hP hD hS h => ?_)
            exact jB_43 I_51 J_52 S_53 L_54 x_9 _ _ _ hP hD hS (lv_sub hl [1, 2] rfl) h
  exact lV_2 n_4 I J S_1 L (0 : Int32) _ _ _ hP hD hS (lv_sub hl [1, 0] rfl) h0V_2
def wp_X2_reckonTo (n0 n1 : Nat) (I : TI) (J : TJ) (S : TS) (L : TL) (p0 : Int32) (Φ : TI → TJ → TS → TL → Prop) : Prop := ∀ x_1 : Int32, x_1 = (if (40 : Int32) < p0 then (40 : Int32) else p0) → (∀ x_2 : Int32, x_2 = (S 3) → (∃ V_3 : Nat → TI → TJ → TS → TL → Int32 → Int32 → Prop, (∃ n_5, V_3 n_5 I J S L x_1 x_2) ∧ ∀ (n_4 : Nat) (I_6 : TI) (J_7 : TJ) (S_8 : TS) (L_9 : TL) (x_10 : Int32) (x_11 : Int32), V_3 n_4 I_6 J_7 S_8 L_9 x_10 x_11 → (((x_10 ≤ x_11) → (wp_X2_takeSentOf n0 n1 I_6 J_7 S_8 L_9 p0 (fun (I_12 : TI) (J_13 : TJ) (S_14 : TS) (L_15 : TL) => (Φ I_12 J_13 S_14 L_15)))) ∧ ((¬ x_10 ≤ x_11) → (wp_X2_takeSentOf n0 n1 I_6 J_7 S_8 L_9 x_11 (fun (I_16 : TI) (J_17 : TJ) (S_18 : TS) (L_19 : TL) => (wp_X2_closeTerm n0 n1 I_16 J_17 S_18 L_19 (fun (I_20 : TI) (J_21 : TJ) (S_22 : TS) (L_23 : TL) => (∀ x_24 : Int32, x_24 = x_11 + 1 → (∃ n_25, n_25 < n_4 ∧ V_3 n_25 I_20 J_21 S_22 L_23 x_10 x_24))))))))))
theorem nX2_reckonTo_X2 : ∀ w ∈ wsX20, w ∈ wsX2_reckonTo := fun _ h => List.mem_cons_of_mem _ (List.mem_append_left _ (List.mem_append_left _ (List.mem_append_left _ (List.mem_append_left _ (List.mem_append_left _ (List.mem_append_right _ h))))))
theorem kX2_reckonTo_5 : Cond.fieldLink RX2 78 "SongOffice$Ledger" "closed" "I" ∈ wsX2_reckonTo := List.mem_of_getElem? (i := 5) rfl
theorem kX2_reckonTo_1 : Cond.methodLink RX2 85 Lib.Math.min.name ∈ wsX2_reckonTo := List.mem_of_getElem? (i := 1) rfl
theorem kX2_reckonTo_2 : Cond.static Lib.Math.min.name ∈ wsX2_reckonTo := List.mem_of_getElem? (i := 2) rfl
theorem kX2_reckonTo_3 : Cond.initialized "java/lang/Math" ∈ wsX2_reckonTo := List.mem_of_getElem? (i := 3) rfl
theorem kX2_reckonTo_4 : Cond.code Lib.Math.min.name Lib.Math.min.code 2 (some .int) ∈ wsX2_reckonTo := List.mem_of_getElem? (i := 4) rfl
abbrev rmX2_reckonTo : Room := { frames := 7, cells := 0, slots := 0, locals := 220 }
set_option maxHeartbeats 4000000 in
set_option maxRecDepth 100000 in
theorem c_X2_reckonTo (l : Launch) (dC : Nat → ClassId) (dI : Nat → Nat → Nat) (a : Nat → Nat) (cy : Nat → ClassId) (n0 n1 : Nat) (sz : Nat) (I : TI) (J : TJ) (S : TS) (L : TL) (p0 : Int32) (Φ : TI → TJ → TS → TL → Prop) (h : wp_X2_reckonTo n0 n1 I J S L p0 Φ) : Met l yX2_reckonTo wsX2_reckonTo rmX2_reckonTo (va_Pc [.ref (a 25), .int p0] (gpre dC dI (wL a cy n0 n1 I J S L) (tyL cy) sz)) (gQv dC dI (wL a cy n0 n1) (tyL cy) (va_A (wL a cy n0 n1 I J S L) sz) Φ) 0 0 (va_A (wL a cy n0 n1 I J S L) sz) := by
  refine Met.ofW (cc := cX2_reckonTo) (maxL := 4) (ret := none) (by decide) rfl ?_
  intro p e s m args below meth c s₁ B hml hv
  obtain ⟨hargs, hsz, hP, hK, hD0, hN⟩ := hv
  have hx := B.exec
  have hb := B.bytes
  have hr := B.returns
  have hts := atoms_spec (ws := wsX2_reckonTo) B.pre
  have hown : s.vm.findClass RX2 = some m.cls := findClass_of_methodNamed B.named
  have hlocks := B.notSynchronized
  subst hsz
  have hD := hD0.self (sz := s.heap.size)
  generalize hAe : va_A (wL a cy n0 n1 I J S L) s.heap.size = A at hD ⊢
  have hA : ∀ q : Nat, s.heap.size ≤ q → A q := fun q h => by rw [← hAe]; exact Or.inr h
  obtain ⟨H, hH⟩ : ∃ z : Heap, z = s.heap := ⟨_, rfl⟩
  rw [← hH] at hP
  have hS : va_S A s.heap H [] := by rw [hH]; exact va_S.rf
  have hl := lv_entry ([.ref (a 25), .int p0]) (n := 4) (Nat.le_of_ble_eq_true rfl)
  have hE : entryFrame m args 4 = F0 m 0 ((lg_sl ([.ref (a 25), .int p0]) ++ List.replicate (4 - (lg_sl ([.ref (a 25), .int p0])).length) Slot.unset).toArray) [] := by rw [hargs]; exact lg_entry_eq m _ _
  rw [hE, ← hH]
  clear hE
  generalize (lg_sl ([.ref (a 25), .int p0]) ++ List.replicate (4 - (lg_sl ([.ref (a 25), .int p0])).length) Slot.unset).toArray = ls at hl ⊢
  have hl : lv_has ls 4 [(0, .ref (a 25)), (1, .int p0)] := hl
  unfold wp_X2_reckonTo at h
  refine lv_iload_n hx hb dX2_reckonTo_0 rfl (lv_at hl 1 rfl) ?_
  refine lv_bipush (v := 40) hx hb dX2_reckonTo_1 (by decide) ?_
  refine va_mmin hx hb (hml.trans hl.1.symm) hown (hts (.methodLink RX2 85 Lib.Math.min.name) kX2_reckonTo_1) (hts (.static Lib.Math.min.name) kX2_reckonTo_2) (hts (.initialized "java/lang/Math") kX2_reckonTo_3) (hts (.code Lib.Math.min.name Lib.Math.min.code 2 (some .int)) kX2_reckonTo_4) (Nat.le_of_ble_eq_true rfl) (Nat.le_of_ble_eq_true rfl) (Nat.le_of_ble_eq_true rfl) (Nat.le_of_ble_eq_true rfl) dX2_reckonTo_3 ?_
  refine lv_topi (fun x_1 ex_1 => ?_)
  have h := h x_1 ex_1
  refine lv_istore_n (lv' := [(2, .int x_1), (0, .ref (a 25)), (1, .int p0)]) hx hb dX2_reckonTo_6 rfl hl (by decide) rfl (fun ls hl => ?_)
  refine lv_aload_n hx hb dX2_reckonTo_7 rfl (lv_at hl 1 rfl) ?_
  refine va_get (D := (dC, dI)) (ci := 2) (v := .int (S 3)) (C := RX2) (T := TX2) (N := 16) hx hb hts nX2_reckonTo_X2 hown hK hP 25 (wL_at25 _ _ _ _ _ _ _ _) rfl 10 (by decide) (hts (.fieldLink RX2 78 "SongOffice$Ledger" "closed" "I") kX2_reckonTo_5) (fun _ h9 => h9) rfl dX2_reckonTo_8 ?_
  refine lv_topi (fun x_2 ex_2 => ?_)
  have h := h x_2 ex_2
  refine lv_istore_n (lv' := [(3, .int x_2), (2, .int x_1), (0, .ref (a 25)), (1, .int p0)]) hx hb dX2_reckonTo_11 rfl hl (by decide) rfl (fun ls hl => ?_)
  obtain ⟨V_3, ⟨n_5, h0V_3⟩, hV_3⟩ := h
  have lV_3 : ∀ (n_4 : Nat) (I_6 : TI) (J_7 : TJ) (S_8 : TS) (L_9 : TL) (x_10 : Int32) (x_11 : Int32) (H : Heap) (locs : List Loc) (ls : Array Slot), va_P (dC, dI) vwCl (wL a cy n0 n1 I_6 J_7 S_8 L_9) H → va_D A (wL a cy n0 n1 I_6 J_7 S_8 L_9) → va_S A s.heap H locs → lv_has ls 4 [(0, .ref (a 25)), (1, .int p0), (2, .int x_10), (3, .int x_11)] → V_3 n_4 I_6 J_7 S_8 L_9 x_10 x_11 → W p l e (headSpec wsX2_reckonTo rmX2_reckonTo).room s m args below meth c H locs 0 0 (MQ below (gQv dC dI (wL a cy n0 n1) (tyL cy) A Φ) args s 0 0 A) (F0 m 12 ls []) := by
    intro n_4
    induction n_4 using Nat.strongRecOn with
    | ind n_4 ihV_3 =>
        intro I_6 J_7 S_8 L_9 x_10 x_11 H locs ls hP hD hS hl h
        have h := hV_3 n_4 I_6 J_7 S_8 L_9 x_10 x_11 h
        refine lv_iload_n hx hb dX2_reckonTo_12 rfl (lv_at hl 3 rfl) ?_
        refine lv_iload_n hx hb dX2_reckonTo_13 rfl (lv_at hl 2 rfl) ?_
        refine lv_icmp_ge (tgt := 32) hx hb dX2_reckonTo_14 (by decide) (fun hc => ?_) (fun hc => ?_)
        · have h := h.1 hc
          refine lv_aload_n hx hb dX2_reckonTo_32 rfl (lv_at hl 0 rfl) ?_
          refine lv_iload_n hx hb dX2_reckonTo_33 rfl (lv_at hl 1 rfl) ?_
          refine gcallv (va_runV (As := [.int p0]) (rest := []) ⟨hx, hb, hml, hown, hts⟩ (c_X2_takeSentOf l dC dI a cy n0 n1 H.size I_6 J_7 S_8 L_9 p0 _ h) (cwV 1 hts gX2_reckonTo_X2_takeSentOf rfl rfl rfl (by decide +kernel) ⟨(Nat.le_of_ble_eq_true rfl), (Nat.le_of_ble_eq_true rfl)⟩) (g_pV hP hK hD hN (va_recv hK hP (ci := 2) (q0 := 25) rfl (wL_at25 _ _ _ _ _ _ _ _)) [.int p0]) rfl rfl hl.1 rfl (lv_room (Nat.le_of_ble_eq_true rfl)) dX2_reckonTo_34 ⟨(Nat.le_of_ble_eq_true rfl), (Nat.le_of_ble_eq_true rfl)⟩) hS hA hD (fun I_12 J_13 S_14 L_15 H locs hP hD hS h => ?_)
          exact grv hx hb hr hlocks hP hK hD hS h dX2_reckonTo_37
        · have h := h.2 hc
          refine lv_aload_n hx hb dX2_reckonTo_17 rfl (lv_at hl 0 rfl) ?_
          refine lv_iload_n hx hb dX2_reckonTo_18 rfl (lv_at hl 3 rfl) ?_
          refine gcallv (va_runV (As := [.int x_11]) (rest := []) ⟨hx, hb, hml, hown, hts⟩ (c_X2_takeSentOf l dC dI a cy n0 n1 H.size I_6 J_7 S_8 L_9 x_11 _ h) (cwV 1 hts gX2_reckonTo_X2_takeSentOf rfl rfl rfl (by decide +kernel) ⟨(Nat.le_of_ble_eq_true rfl), (Nat.le_of_ble_eq_true rfl)⟩) (g_pV hP hK hD hN (va_recv hK hP (ci := 2) (q0 := 25) rfl (wL_at25 _ _ _ _ _ _ _ _)) [.int x_11]) rfl rfl hl.1 rfl (lv_room (Nat.le_of_ble_eq_true rfl)) dX2_reckonTo_19 ⟨(Nat.le_of_ble_eq_true rfl), (Nat.le_of_ble_eq_true rfl)⟩) hS hA hD (fun I_16 J_17 S_18 L_19 H locs hP hD hS h => ?_)
          refine lv_aload_n hx hb dX2_reckonTo_22 rfl (lv_at hl 0 rfl) ?_
          refine gcallv (va_runV (As := []) (rest := []) ⟨hx, hb, hml, hown, hts⟩ (c_X2_closeTerm l dC dI a cy n0 n1 H.size I_16 J_17 S_18 L_19 _ h) (cwV 0 hts gX2_reckonTo_X2_closeTerm rfl rfl rfl (by decide +kernel) ⟨(Nat.le_of_ble_eq_true rfl), (Nat.le_of_ble_eq_true rfl)⟩) (g_pV hP hK hD hN (va_recv hK hP (ci := 2) (q0 := 25) rfl (wL_at25 _ _ _ _ _ _ _ _)) []) rfl rfl hl.1 rfl (lv_room (Nat.le_of_ble_eq_true rfl)) dX2_reckonTo_23 ⟨(Nat.le_of_ble_eq_true rfl), (Nat.le_of_ble_eq_true rfl)⟩) hS hA hD (fun I_20 J_21 S_22 L_23 H locs hP hD hS h => ?_)
          obtain ⟨x_24, ex_24⟩ : ∃ z : Int32, z = x_11 + 1 := ⟨_, rfl⟩
          have h := h x_24 ex_24
          refine lv_iinc (v := x_24) (lv' := [(3, .int x_24), (0, .ref (a 25)), (1, .int p0), (2, .int x_10)]) hx hb dX2_reckonTo_26 hl (k := 3) rfl (by rw [ex_24]; rfl) (by decide) rfl (fun ls hl => ?_)
          refine lv_goto (tgt := 12) hx hb dX2_reckonTo_29 (by decide) ?_
          obtain ⟨n_25, hn2, h⟩ := h
          exact ihV_3 n_25 hn2 I_20 J_21 S_22 L_23 x_10 x_24 _ _ _ hP hD hS (lv_sub hl [1, 2, 3, 0] rfl) h
  exact lV_3 n_5 I J S L x_1 x_2 _ _ _ hP hD hS (lv_sub hl [2, 3, 1, 0] rfl) h0V_3
def wp_X2_reckonTo_p (n0 n1 : Nat) (I : TI) (J : TJ) (S : TS) (L : TL) (p0 : Int32) (Φ : TI → TJ → TS → TL → Prop) : Prop := wp_X2_reckonTo n1 n0 (fun k => I (pO k)) (fun k => J (pO k)) (fun k => S (pS k)) (fun k => L (pL k)) p0 (fun I J S L => Φ (fun k => I (pO k)) (fun k => J (pO k)) (fun k => S (pS k)) (fun k => L (pL k)))
set_option maxHeartbeats 1000000 in
theorem c_X2_reckonTo_p (l : Launch) (dC : Nat → ClassId) (dI : Nat → Nat → Nat) (a : Nat → Nat) (cy : Nat → ClassId) (n0 n1 : Nat) (sz : Nat) (I : TI) (J : TJ) (S : TS) (L : TL) (p0 : Int32) (Φ : TI → TJ → TS → TL → Prop) (h : wp_X2_reckonTo_p n0 n1 I J S L p0 Φ) : Met l yX2_reckonTo wsX2_reckonTo rmX2_reckonTo (va_Pc [.ref (a 39), .int p0] (gpre dC dI (wL a cy n0 n1 I J S L) (tyL cy) sz)) (gQv dC dI (wL a cy n0 n1) (tyL cy) (va_A (wL a cy n0 n1 I J S L) sz) Φ) 0 0 (va_A (wL a cy n0 n1 I J S L) sz) :=
  met_perm_v prL prT (by decide) (c_X2_reckonTo l dC dI (fun k => a (pO k)) (fun k => cy (pO k)) n1 n0 sz (fun k => I (pO k)) (fun k => J (pO k)) (fun k => S (pS k)) (fun k => L (pL k)) p0 _ h) (wL_perm a cy n0 n1 I J S L) (tyL_perm cy) (wL_permB a cy n0 n1) (tyL_permB cy)
def wp_X2_reckonTo_O (n0 n1 : Nat) (I : TI) (J : TJ) (S : TS) (L : TL) (p0 : Int32) (Φ : TI → TJ → TS → TL → Prop) : Prop := wp_X2_reckonTo n0 n1 I J S L p0 (fun I1 J1 S1 L1 => Φ I1 J1 (va_up S1 0 (S 0)) L1)
set_option maxHeartbeats 1000000 in
theorem c_X2_reckonTo_O (l : Launch) (dC : Nat → ClassId) (dI : Nat → Nat → Nat) (a : Nat → Nat) (cy : Nat → ClassId) (n0 n1 : Nat) (sz : Nat) (I : TI) (J : TJ) (S : TS) (L : TL) (p0 : Int32) (Φ : TI → TJ → TS → TL → Prop) (h : wp_X2_reckonTo_O n0 n1 I J S L p0 Φ) : Met l yX2_reckonTo wsX2_reckonTo rmX2_reckonTo (va_Pc [.ref (a 25), .int p0] (gpre dC dI (wO a cy n0 n1 I J S L) (tyL cy) sz)) (gQv dC dI (wO a cy n0 n1) (tyL cy) (va_A (wO a cy n0 n1 I J S L) sz) Φ) 0 0 (va_A (wO a cy n0 n1 I J S L) sz) :=
  met_cons_v (Wd := wL a cy n0 n1) (c_X2_reckonTo l dC dI a cy n0 n1 sz I J S L p0 _ h) (wO_cons a cy n0 n1 (S 0))
def wp_X2_reckonTo_Op (n0 n1 : Nat) (I : TI) (J : TJ) (S : TS) (L : TL) (p0 : Int32) (Φ : TI → TJ → TS → TL → Prop) : Prop := wp_X2_reckonTo_p n0 n1 I J S L p0 (fun I1 J1 S1 L1 => Φ I1 J1 (va_up S1 0 (S 0)) L1)
set_option maxHeartbeats 1000000 in
theorem c_X2_reckonTo_Op (l : Launch) (dC : Nat → ClassId) (dI : Nat → Nat → Nat) (a : Nat → Nat) (cy : Nat → ClassId) (n0 n1 : Nat) (sz : Nat) (I : TI) (J : TJ) (S : TS) (L : TL) (p0 : Int32) (Φ : TI → TJ → TS → TL → Prop) (h : wp_X2_reckonTo_Op n0 n1 I J S L p0 Φ) : Met l yX2_reckonTo wsX2_reckonTo rmX2_reckonTo (va_Pc [.ref (a 39), .int p0] (gpre dC dI (wO a cy n0 n1 I J S L) (tyL cy) sz)) (gQv dC dI (wO a cy n0 n1) (tyL cy) (va_A (wO a cy n0 n1 I J S L) sz) Φ) 0 0 (va_A (wO a cy n0 n1 I J S L) sz) :=
  met_cons_v (Wd := wL a cy n0 n1) (c_X2_reckonTo_p l dC dI a cy n0 n1 sz I J S L p0 _ h) (wO_cons a cy n0 n1 (S 0))
def wp_X2_becomeLike (n0 n1 : Nat) (I : TI) (J : TJ) (S : TS) (L : TL) (Φ : TI → TJ → TS → TL → Prop) : Prop := ∃ V_1 : Nat → TI → TJ → TS → TL → Int32 → Prop, (∃ n_3, V_1 n_3 I J S L (0 : Int32)) ∧ ∀ (n_2 : Nat) (I_4 : TI) (J_5 : TJ) (S_6 : TS) (L_7 : TL) (x_8 : Int32), V_1 n_2 I_4 J_5 S_6 L_7 x_8 → ((((12 : Int32) ≤ x_8) → (∀ J_9 : TJ, J_9 = va_up J_5 30 (va_cpy (J_5 44) (J_5 30) ((0 : Int32)).toNatClampNeg ((0 : Int32)).toNatClampNeg ((24 : Int32)).toNatClampNeg) → (∀ J_10 : TJ, J_10 = va_up J_9 31 (va_cpy (J_9 45) (J_9 31) ((0 : Int32)).toNatClampNeg ((0 : Int32)).toNatClampNeg ((24 : Int32)).toNatClampNeg) → (∀ J_11 : TJ, J_11 = va_up J_10 32 (va_cpy (J_10 46) (J_10 32) ((0 : Int32)).toNatClampNeg ((0 : Int32)).toNatClampNeg ((960 : Int32)).toNatClampNeg) → (∀ L_12 : TL, L_12 = va_up L_7 1 (L_7 3) → (Φ I_4 J_11 S_6 L_12)))))) ∧ ((¬ (12 : Int32) ≤ x_8) → (wp_X2_worth_p n0 n1 I_4 J_5 S_6 L_7 x_8 (fun (r_17 : Int64) (I_13 : TI) (J_14 : TJ) (S_15 : TS) (L_16 : TL) => (wp_X2_worth n0 n1 I_13 J_14 S_15 L_16 x_8 (fun (r_22 : Int64) (I_18 : TI) (J_19 : TJ) (S_20 : TS) (L_21 : TL) => (∀ y_23 : Int64, y_23 = (r_17 - r_22) → ((vp_in x_8 12) ∧ ((vp_in x_8 12) ∧ ((vp_in x_8 12) ∧ ((vp_in x_8 12) ∧ ∀ J_24 : TJ, J_24 = va_up J_19 26 (vp_updL (J_19 26) (x_8).toNatClampNeg ((J_19 26 (x_8).toNatClampNeg) + ((y_23 + (J_19 41 (x_8).toNatClampNeg)) - (J_19 27 (x_8).toNatClampNeg)))) → ((vp_in x_8 12) ∧ ((vp_in x_8 12) ∧ ∀ J_25 : TJ, J_25 = va_up J_24 27 (vp_updL (J_24 27) (x_8).toNatClampNeg (J_24 41 (x_8).toNatClampNeg)) → ((vp_in x_8 12) ∧ ((vp_in x_8 12) ∧ ∀ J_26 : TJ, J_26 = va_up J_25 28 (vp_updL (J_25 28) (x_8).toNatClampNeg (J_25 42 (x_8).toNatClampNeg)) → (∀ x_27 : Int32, x_27 = x_8 + 1 → (∃ n_28, n_28 < n_2 ∧ V_1 n_28 I_18 J_26 S_20 L_21 x_27)))))))))))))))))
theorem nX2_becomeLike_X2 : ∀ w ∈ wsX20, w ∈ wsX2_becomeLike := fun _ h => List.mem_cons_of_mem _ (List.mem_append_right _ h)
theorem kX2_becomeLike_11 : Cond.fieldLink RX2 74 "SongOffice$Ledger" "cameIn" "J" ∈ wsX2_becomeLike := List.mem_of_getElem? (i := 11) rfl
theorem kX2_becomeLike_5 : Cond.methodLink RX2 101 arraycopyName ∈ wsX2_becomeLike := List.mem_of_getElem? (i := 5) rfl
theorem kX2_becomeLike_6 : Cond.native arraycopyName ∈ wsX2_becomeLike := List.mem_of_getElem? (i := 6) rfl
theorem kX2_becomeLike_7 : Cond.static arraycopyName ∈ wsX2_becomeLike := List.mem_of_getElem? (i := 7) rfl
theorem kX2_becomeLike_8 : Cond.initialized "java/lang/System" ∈ wsX2_becomeLike := List.mem_of_getElem? (i := 8) rfl
theorem kX2_becomeLike_10 : Cond.fieldLink RX2 31 "SongOffice$Ledger" "bags" "[J" ∈ wsX2_becomeLike := List.mem_of_getElem? (i := 10) rfl
theorem kX2_becomeLike_9 : Cond.fieldLink RX2 28 "SongOffice$Ledger" "came" "[J" ∈ wsX2_becomeLike := List.mem_of_getElem? (i := 9) rfl
theorem kX2_becomeLike_4 : Cond.fieldLink RX2 25 "SongOffice$Ledger" "kept" "[J" ∈ wsX2_becomeLike := List.mem_of_getElem? (i := 4) rfl
theorem kX2_becomeLike_3 : Cond.fieldLink RX2 18 "SongOffice$Ledger" "filled" "[J" ∈ wsX2_becomeLike := List.mem_of_getElem? (i := 3) rfl
theorem kX2_becomeLike_2 : Cond.fieldLink RX2 15 "SongOffice$Ledger" "debt" "[J" ∈ wsX2_becomeLike := List.mem_of_getElem? (i := 2) rfl
theorem kX2_becomeLike_1 : Cond.fieldLink RX2 9 "SongOffice$Ledger" "purse" "[J" ∈ wsX2_becomeLike := List.mem_of_getElem? (i := 1) rfl
abbrev rmX2_becomeLike : Room := { frames := 3, cells := 0, slots := 0, locals := 68 }
set_option maxHeartbeats 4000000 in
set_option maxRecDepth 100000 in
theorem c_X2_becomeLike (l : Launch) (dC : Nat → ClassId) (dI : Nat → Nat → Nat) (a : Nat → Nat) (cy : Nat → ClassId) (n0 n1 : Nat) (sz : Nat) (I : TI) (J : TJ) (S : TS) (L : TL) (Φ : TI → TJ → TS → TL → Prop) (h : wp_X2_becomeLike n0 n1 I J S L Φ) : Met l yX2_becomeLike wsX2_becomeLike rmX2_becomeLike (va_Pc [.ref (a 25), .ref (a 39)] (gpre dC dI (wL a cy n0 n1 I J S L) (tyL cy) sz)) (gQv dC dI (wL a cy n0 n1) (tyL cy) (va_A (wL a cy n0 n1 I J S L) sz) Φ) 0 0 (va_A (wL a cy n0 n1 I J S L) sz) := by
  refine Met.ofW (cc := cX2_becomeLike) (maxL := 5) (ret := none) (by decide) rfl ?_
  intro p e s m args below meth c s₁ B hml hv
  obtain ⟨hargs, hsz, hP, hK, hD0, hN⟩ := hv
  have hx := B.exec
  have hb := B.bytes
  have hr := B.returns
  have hts := atoms_spec (ws := wsX2_becomeLike) B.pre
  have hown : s.vm.findClass RX2 = some m.cls := findClass_of_methodNamed B.named
  have hlocks := B.notSynchronized
  subst hsz
  have hD := hD0.self (sz := s.heap.size)
  generalize hAe : va_A (wL a cy n0 n1 I J S L) s.heap.size = A at hD ⊢
  have hA : ∀ q : Nat, s.heap.size ≤ q → A q := fun q h => by rw [← hAe]; exact Or.inr h
  obtain ⟨H, hH⟩ : ∃ z : Heap, z = s.heap := ⟨_, rfl⟩
  rw [← hH] at hP
  have hS : va_S A s.heap H [] := by rw [hH]; exact va_S.rf
  have hl := lv_entry ([.ref (a 25), .ref (a 39)]) (n := 5) (Nat.le_of_ble_eq_true rfl)
  have hE : entryFrame m args 5 = F0 m 0 ((lg_sl ([.ref (a 25), .ref (a 39)]) ++ List.replicate (5 - (lg_sl ([.ref (a 25), .ref (a 39)])).length) Slot.unset).toArray) [] := by rw [hargs]; exact lg_entry_eq m _ _
  rw [hE, ← hH]
  clear hE
  generalize (lg_sl ([.ref (a 25), .ref (a 39)]) ++ List.replicate (5 - (lg_sl ([.ref (a 25), .ref (a 39)])).length) Slot.unset).toArray = ls at hl ⊢
  have hl : lv_has ls 5 [(0, .ref (a 25)), (1, .ref (a 39))] := hl
  unfold wp_X2_becomeLike at h
  refine lv_iconst (v := 0) hx hb dX2_becomeLike_0 (by decide) ?_
  refine lv_istore_n (lv' := [(2, .int (0 : Int32)), (0, .ref (a 25)), (1, .ref (a 39))]) hx hb dX2_becomeLike_1 rfl hl (by decide) rfl (fun ls hl => ?_)
  obtain ⟨V_1, ⟨n_3, h0V_1⟩, hV_1⟩ := h
  have lV_1 : ∀ (n_2 : Nat) (I_4 : TI) (J_5 : TJ) (S_6 : TS) (L_7 : TL) (x_8 : Int32) (H : Heap) (locs : List Loc) (ls : Array Slot), va_P (dC, dI) vwCl (wL a cy n0 n1 I_4 J_5 S_6 L_7) H → va_D A (wL a cy n0 n1 I_4 J_5 S_6 L_7) → va_S A s.heap H locs → lv_has ls 5 [(0, .ref (a 25)), (1, .ref (a 39)), (2, .int x_8)] → V_1 n_2 I_4 J_5 S_6 L_7 x_8 → W p l e (headSpec wsX2_becomeLike rmX2_becomeLike).room s m args below meth c H locs 0 0 (MQ below (gQv dC dI (wL a cy n0 n1) (tyL cy) A Φ) args s 0 0 A) (F0 m 2 ls []) := by
    intro n_2
    induction n_2 using Nat.strongRecOn with
    | ind n_2 ihV_1 =>
        intro I_4 J_5 S_6 L_7 x_8 H locs ls hP hD hS hl h
        have h := hV_1 n_2 I_4 J_5 S_6 L_7 x_8 h
        refine lv_iload_n hx hb dX2_becomeLike_2 rfl (lv_at hl 2 rfl) ?_
        refine lv_bipush (v := 12) hx hb dX2_becomeLike_3 (by decide) ?_
        refine lv_icmp_ge (tgt := 74) hx hb dX2_becomeLike_5 (by decide) (fun hc => ?_) (fun hc => ?_)
        · have h := h.1 hc
          refine lv_aload_n hx hb dX2_becomeLike_74 rfl (lv_at hl 1 rfl) ?_
          refine va_get (D := (dC, dI)) (ci := 2) (v := .ref (a 44)) (C := RX2) (T := TX2) (N := 16) hx hb hts nX2_becomeLike_X2 hown hK hP 39 (wL_at39 _ _ _ _ _ _ _ _) rfl 4 (by decide) (hts (.fieldLink RX2 25 "SongOffice$Ledger" "kept" "[J") kX2_becomeLike_4) (fun _ h9 => h9) rfl dX2_becomeLike_75 ?_
          refine lv_iconst (v := 0) hx hb dX2_becomeLike_78 (by decide) ?_
          refine lv_aload_n hx hb dX2_becomeLike_79 rfl (lv_at hl 0 rfl) ?_
          refine va_get (D := (dC, dI)) (ci := 2) (v := .ref (a 30)) (C := RX2) (T := TX2) (N := 16) hx hb hts nX2_becomeLike_X2 hown hK hP 25 (wL_at25 _ _ _ _ _ _ _ _) rfl 4 (by decide) (hts (.fieldLink RX2 25 "SongOffice$Ledger" "kept" "[J") kX2_becomeLike_4) (fun _ h9 => h9) rfl dX2_becomeLike_80 ?_
          refine lv_iconst (v := 0) hx hb dX2_becomeLike_83 (by decide) ?_
          refine lv_bipush (v := 24) hx hb dX2_becomeLike_84 (by decide) ?_
          obtain ⟨J_9, eJ_9⟩ : ∃ z : TJ, z = va_up J_5 30 (va_cpy (J_5 44) (J_5 30) ((0 : Int32)).toNatClampNeg ((0 : Int32)).toNatClampNeg ((24 : Int32)).toNatClampNeg) := ⟨_, rfl⟩
          have h := h J_9 eJ_9
          refine va_copyl hx hb (hml.trans hl.1.symm) hown (hts (.methodLink RX2 101 arraycopyName) kX2_becomeLike_5) (hts (.native arraycopyName) kX2_becomeLike_6) (hts (.static arraycopyName) kX2_becomeLike_7) (hts (.initialized "java/lang/System") kX2_becomeLike_8) hK hP hD hS 44 30 37 25 (wL_at44 _ _ _ _ _ _ _ _) (wL_at30 _ _ _ _ _ _ _ _) rfl rfl rfl (by decide) (by decide) (by decide) (by decide) (by decide) (fun _ _ => rfl) (Nat.le_of_ble_eq_true rfl) (Nat.le_of_ble_eq_true rfl) dX2_becomeLike_86 (fun H locs hP hD hS => ?_)
          have hP : va_P (dC, dI) vwCl (wL a cy n0 n1 I_4 J_9 S_6 L_7) H := by rw [eJ_9]; exact setP hP (wL_set30 _ _ _ _ _ _ _ _ _)
          have hD : va_D A (wL a cy n0 n1 I_4 J_9 S_6 L_7) := by rw [eJ_9]; exact setD hD (wL_set30 _ _ _ _ _ _ _ _ _)
          refine lv_aload_n hx hb dX2_becomeLike_89 rfl (lv_at hl 1 rfl) ?_
          refine va_get (D := (dC, dI)) (ci := 2) (v := .ref (a 45)) (C := RX2) (T := TX2) (N := 16) hx hb hts nX2_becomeLike_X2 hown hK hP 39 (wL_at39 _ _ _ _ _ _ _ _) rfl 5 (by decide) (hts (.fieldLink RX2 28 "SongOffice$Ledger" "came" "[J") kX2_becomeLike_9) (fun _ h9 => h9) rfl dX2_becomeLike_90 ?_
          refine lv_iconst (v := 0) hx hb dX2_becomeLike_93 (by decide) ?_
          refine lv_aload_n hx hb dX2_becomeLike_94 rfl (lv_at hl 0 rfl) ?_
          refine va_get (D := (dC, dI)) (ci := 2) (v := .ref (a 31)) (C := RX2) (T := TX2) (N := 16) hx hb hts nX2_becomeLike_X2 hown hK hP 25 (wL_at25 _ _ _ _ _ _ _ _) rfl 5 (by decide) (hts (.fieldLink RX2 28 "SongOffice$Ledger" "came" "[J") kX2_becomeLike_9) (fun _ h9 => h9) rfl dX2_becomeLike_95 ?_
          refine lv_iconst (v := 0) hx hb dX2_becomeLike_98 (by decide) ?_
          refine lv_bipush (v := 24) hx hb dX2_becomeLike_99 (by decide) ?_
          obtain ⟨J_10, eJ_10⟩ : ∃ z : TJ, z = va_up J_9 31 (va_cpy (J_9 45) (J_9 31) ((0 : Int32)).toNatClampNeg ((0 : Int32)).toNatClampNeg ((24 : Int32)).toNatClampNeg) := ⟨_, rfl⟩
          have h := h J_10 eJ_10
          refine va_copyl hx hb (hml.trans hl.1.symm) hown (hts (.methodLink RX2 101 arraycopyName) kX2_becomeLike_5) (hts (.native arraycopyName) kX2_becomeLike_6) (hts (.static arraycopyName) kX2_becomeLike_7) (hts (.initialized "java/lang/System") kX2_becomeLike_8) hK hP hD hS 45 31 38 26 (wL_at45 _ _ _ _ _ _ _ _) (wL_at31 _ _ _ _ _ _ _ _) rfl rfl rfl (by decide) (by decide) (by decide) (by decide) (by decide) (fun _ _ => rfl) (Nat.le_of_ble_eq_true rfl) (Nat.le_of_ble_eq_true rfl) dX2_becomeLike_101 (fun H locs hP hD hS => ?_)
          have hP : va_P (dC, dI) vwCl (wL a cy n0 n1 I_4 J_10 S_6 L_7) H := by rw [eJ_10]; exact setP hP (wL_set31 _ _ _ _ _ _ _ _ _)
          have hD : va_D A (wL a cy n0 n1 I_4 J_10 S_6 L_7) := by rw [eJ_10]; exact setD hD (wL_set31 _ _ _ _ _ _ _ _ _)
          refine lv_aload_n hx hb dX2_becomeLike_104 rfl (lv_at hl 1 rfl) ?_
          refine va_get (D := (dC, dI)) (ci := 2) (v := .ref (a 46)) (C := RX2) (T := TX2) (N := 16) hx hb hts nX2_becomeLike_X2 hown hK hP 39 (wL_at39 _ _ _ _ _ _ _ _) rfl 6 (by decide) (hts (.fieldLink RX2 31 "SongOffice$Ledger" "bags" "[J") kX2_becomeLike_10) (fun _ h9 => h9) rfl dX2_becomeLike_105 ?_
          refine lv_iconst (v := 0) hx hb dX2_becomeLike_108 (by decide) ?_
          refine lv_aload_n hx hb dX2_becomeLike_109 rfl (lv_at hl 0 rfl) ?_
          refine va_get (D := (dC, dI)) (ci := 2) (v := .ref (a 32)) (C := RX2) (T := TX2) (N := 16) hx hb hts nX2_becomeLike_X2 hown hK hP 25 (wL_at25 _ _ _ _ _ _ _ _) rfl 6 (by decide) (hts (.fieldLink RX2 31 "SongOffice$Ledger" "bags" "[J") kX2_becomeLike_10) (fun _ h9 => h9) rfl dX2_becomeLike_110 ?_
          refine lv_iconst (v := 0) hx hb dX2_becomeLike_113 (by decide) ?_
          refine lv_sipush (v := 960) hx hb dX2_becomeLike_114 (by decide) ?_
          obtain ⟨J_11, eJ_11⟩ : ∃ z : TJ, z = va_up J_10 32 (va_cpy (J_10 46) (J_10 32) ((0 : Int32)).toNatClampNeg ((0 : Int32)).toNatClampNeg ((960 : Int32)).toNatClampNeg) := ⟨_, rfl⟩
          have h := h J_11 eJ_11
          refine va_copyl hx hb (hml.trans hl.1.symm) hown (hts (.methodLink RX2 101 arraycopyName) kX2_becomeLike_5) (hts (.native arraycopyName) kX2_becomeLike_6) (hts (.static arraycopyName) kX2_becomeLike_7) (hts (.initialized "java/lang/System") kX2_becomeLike_8) hK hP hD hS 46 32 39 27 (wL_at46 _ _ _ _ _ _ _ _) (wL_at32 _ _ _ _ _ _ _ _) rfl rfl rfl (by decide) (by decide) (by decide) (by decide) (by decide) (fun _ _ => rfl) (Nat.le_of_ble_eq_true rfl) (Nat.le_of_ble_eq_true rfl) dX2_becomeLike_117 (fun H locs hP hD hS => ?_)
          have hP : va_P (dC, dI) vwCl (wL a cy n0 n1 I_4 J_11 S_6 L_7) H := by rw [eJ_11]; exact setP hP (wL_set32 _ _ _ _ _ _ _ _ _)
          have hD : va_D A (wL a cy n0 n1 I_4 J_11 S_6 L_7) := by rw [eJ_11]; exact setD hD (wL_set32 _ _ _ _ _ _ _ _ _)
          refine lv_aload_n hx hb dX2_becomeLike_120 rfl (lv_at hl 0 rfl) ?_
          refine lv_aload_n hx hb dX2_becomeLike_121 rfl (lv_at hl 1 rfl) ?_
          refine va_get (D := (dC, dI)) (ci := 2) (v := .long (L_7 3)) (C := RX2) (T := TX2) (N := 16) hx hb hts nX2_becomeLike_X2 hown hK hP 39 (wL_at39 _ _ _ _ _ _ _ _) rfl 8 (by decide) (hts (.fieldLink RX2 74 "SongOffice$Ledger" "cameIn" "J") kX2_becomeLike_11) (fun _ h9 => h9) rfl dX2_becomeLike_122 ?_
          obtain ⟨L_12, eL_12⟩ : ∃ z : TL, z = va_up L_7 1 (L_7 3) := ⟨_, rfl⟩
          have h := h L_12 eL_12
          refine va_put (D := (dC, dI)) (ci := 2) (v := .long (L_7 3)) (ty := .long) (C := RX2) (T := TX2) (N := 16) hx hb hts nX2_becomeLike_X2 tyX2 tyX2_ok nmX2 hown hK hP hD hS 25 (wL_at25 _ _ _ _ _ _ _ _) rfl 8 (by decide) (hts (.fieldLink RX2 74 "SongOffice$Ledger" "cameIn" "J") kX2_becomeLike_11) (fun _ h9 => h9) rfl (by decide +kernel) rfl rfl (Nat.le_of_ble_eq_true rfl) dX2_becomeLike_125 (fun H locs hP hD hS => ?_)
          have hP : va_P (dC, dI) vwCl (wL a cy n0 n1 I_4 J_11 S_6 L_12) H := by rw [eL_12]; exact setP hP (wL_setL1 _ _ _ _ _ _ _ _ _)
          have hD : va_D A (wL a cy n0 n1 I_4 J_11 S_6 L_12) := by rw [eL_12]; exact setD hD (wL_setL1 _ _ _ _ _ _ _ _ _)
          exact grv hx hb hr hlocks hP hK hD hS h dX2_becomeLike_128
        · have h := h.2 hc
          refine lv_aload_n hx hb dX2_becomeLike_8 rfl (lv_at hl 1 rfl) ?_
          refine lv_iload_n hx hb dX2_becomeLike_9 rfl (lv_at hl 2 rfl) ?_
          refine gcalll (va_runV (As := [.int x_8]) (rest := []) ⟨hx, hb, hml, hown, hts⟩ (c_X2_worth_p l dC dI a cy n0 n1 H.size I_4 J_5 S_6 L_7 x_8 _ h) (cwV 1 hts gX2_becomeLike_X2_worth rfl rfl rfl (by decide +kernel) ⟨(Nat.le_of_ble_eq_true rfl), (Nat.le_of_ble_eq_true rfl)⟩) (g_pV hP hK hD hN (va_recv hK hP (ci := 2) (q0 := 39) rfl (wL_at39 _ _ _ _ _ _ _ _)) [.int x_8]) rfl rfl hl.1 rfl (lv_room (Nat.le_of_ble_eq_true rfl)) dX2_becomeLike_10 ⟨(Nat.le_of_ble_eq_true rfl), (Nat.le_of_ble_eq_true rfl)⟩) hS hA hD (fun r_17 I_13 J_14 S_15 L_16 H locs hP hD hS h => ?_)
          refine lv_aload_n hx hb dX2_becomeLike_13 rfl (lv_at hl 0 rfl) ?_
          refine lv_iload_n hx hb dX2_becomeLike_14 rfl (lv_at hl 2 rfl) ?_
          refine gcalll (va_runV (As := [.int x_8]) (rest := [.long r_17]) ⟨hx, hb, hml, hown, hts⟩ (c_X2_worth l dC dI a cy n0 n1 H.size I_13 J_14 S_15 L_16 x_8 _ h) (cwV 1 hts gX2_becomeLike_X2_worth rfl rfl rfl (by decide +kernel) ⟨(Nat.le_of_ble_eq_true rfl), (Nat.le_of_ble_eq_true rfl)⟩) (g_pV hP hK hD hN (va_recv hK hP (ci := 2) (q0 := 25) rfl (wL_at25 _ _ _ _ _ _ _ _)) [.int x_8]) rfl rfl hl.1 rfl (lv_room (Nat.le_of_ble_eq_true rfl)) dX2_becomeLike_15 ⟨(Nat.le_of_ble_eq_true rfl), (Nat.le_of_ble_eq_true rfl)⟩) hS hA hD (fun r_22 I_18 J_19 S_20 L_21 H locs hP hD hS h => ?_)
          refine lv_lsub hx hb dX2_becomeLike_18 ?_
          refine lv_topl (fun y_23 ey_23 => ?_)
          have h := h y_23 ey_23
          refine lv_lstore_n (lv' := [(3, .long y_23), (0, .ref (a 25)), (1, .ref (a 39)), (2, .int x_8)]) hx hb dX2_becomeLike_19 rfl hl (by decide) rfl (fun ls hl => ?_)
          refine lv_aload_n hx hb dX2_becomeLike_20 rfl (lv_at hl 1 rfl) ?_
          refine va_get (D := (dC, dI)) (ci := 2) (v := .ref (a 26)) (C := RX2) (T := TX2) (N := 16) hx hb hts nX2_becomeLike_X2 hown hK hP 25 (wL_at25 _ _ _ _ _ _ _ _) rfl 0 (by decide) (hts (.fieldLink RX2 9 "SongOffice$Ledger" "purse" "[J") kX2_becomeLike_1) (fun _ h9 => h9) rfl dX2_becomeLike_21 ?_
          refine lv_iload_n hx hb dX2_becomeLike_24 rfl (lv_at hl 3 rfl) ?_
          refine lv_dup2_11 hx hb dX2_becomeLike_25 rfl rfl ?_
          obtain ⟨hi, h⟩ := h
          refine va_lald hx hb hK hP 26 21 (wL_at26 _ _ _ _ _ _ _ _) rfl hi dX2_becomeLike_26 ?_
          refine lv_lload_n hx hb dX2_becomeLike_27 rfl (lv_at hl 0 rfl) ?_
          refine lv_aload_n hx hb dX2_becomeLike_28 rfl (lv_at hl 2 rfl) ?_
          refine va_get (D := (dC, dI)) (ci := 2) (v := .ref (a 41)) (C := RX2) (T := TX2) (N := 16) hx hb hts nX2_becomeLike_X2 hown hK hP 39 (wL_at39 _ _ _ _ _ _ _ _) rfl 1 (by decide) (hts (.fieldLink RX2 15 "SongOffice$Ledger" "debt" "[J") kX2_becomeLike_2) (fun _ h9 => h9) rfl dX2_becomeLike_29 ?_
          refine lv_iload_n hx hb dX2_becomeLike_32 rfl (lv_at hl 3 rfl) ?_
          obtain ⟨hi, h⟩ := h
          refine va_lald hx hb hK hP 41 34 (wL_at41 _ _ _ _ _ _ _ _) rfl hi dX2_becomeLike_33 ?_
          refine lv_ladd hx hb dX2_becomeLike_34 ?_
          refine lv_aload_n hx hb dX2_becomeLike_35 rfl (lv_at hl 1 rfl) ?_
          refine va_get (D := (dC, dI)) (ci := 2) (v := .ref (a 27)) (C := RX2) (T := TX2) (N := 16) hx hb hts nX2_becomeLike_X2 hown hK hP 25 (wL_at25 _ _ _ _ _ _ _ _) rfl 1 (by decide) (hts (.fieldLink RX2 15 "SongOffice$Ledger" "debt" "[J") kX2_becomeLike_2) (fun _ h9 => h9) rfl dX2_becomeLike_36 ?_
          refine lv_iload_n hx hb dX2_becomeLike_39 rfl (lv_at hl 3 rfl) ?_
          obtain ⟨hi, h⟩ := h
          refine va_lald hx hb hK hP 27 22 (wL_at27 _ _ _ _ _ _ _ _) rfl hi dX2_becomeLike_40 ?_
          refine lv_lsub hx hb dX2_becomeLike_41 ?_
          refine lv_ladd hx hb dX2_becomeLike_42 ?_
          obtain ⟨hi, h⟩ := h
          obtain ⟨J_24, eJ_24⟩ : ∃ z : TJ, z = va_up J_19 26 (vp_updL (J_19 26) (x_8).toNatClampNeg ((J_19 26 (x_8).toNatClampNeg) + ((y_23 + (J_19 41 (x_8).toNatClampNeg)) - (J_19 27 (x_8).toNatClampNeg)))) := ⟨_, rfl⟩
          have h := h J_24 eJ_24
          refine va_last hx hb hK hP hD hS 26 21 (wL_at26 _ _ _ _ _ _ _ _) rfl hi dX2_becomeLike_43 (fun H locs hP hD hS => ?_)
          have hP : va_P (dC, dI) vwCl (wL a cy n0 n1 I_18 J_24 S_20 L_21) H := by rw [eJ_24]; exact setP hP (wL_set26 _ _ _ _ _ _ _ _ _)
          have hD : va_D A (wL a cy n0 n1 I_18 J_24 S_20 L_21) := by rw [eJ_24]; exact setD hD (wL_set26 _ _ _ _ _ _ _ _ _)
          refine lv_aload_n hx hb dX2_becomeLike_44 rfl (lv_at hl 1 rfl) ?_
          refine va_get (D := (dC, dI)) (ci := 2) (v := .ref (a 27)) (C := RX2) (T := TX2) (N := 16) hx hb hts nX2_becomeLike_X2 hown hK hP 25 (wL_at25 _ _ _ _ _ _ _ _) rfl 1 (by decide) (hts (.fieldLink RX2 15 "SongOffice$Ledger" "debt" "[J") kX2_becomeLike_2) (fun _ h9 => h9) rfl dX2_becomeLike_45 ?_
          refine lv_iload_n hx hb dX2_becomeLike_48 rfl (lv_at hl 3 rfl) ?_
          refine lv_aload_n hx hb dX2_becomeLike_49 rfl (lv_at hl 2 rfl) ?_
          refine va_get (D := (dC, dI)) (ci := 2) (v := .ref (a 41)) (C := RX2) (T := TX2) (N := 16) hx hb hts nX2_becomeLike_X2 hown hK hP 39 (wL_at39 _ _ _ _ _ _ _ _) rfl 1 (by decide) (hts (.fieldLink RX2 15 "SongOffice$Ledger" "debt" "[J") kX2_becomeLike_2) (fun _ h9 => h9) rfl dX2_becomeLike_50 ?_
          refine lv_iload_n hx hb dX2_becomeLike_53 rfl (lv_at hl 3 rfl) ?_
          obtain ⟨hi, h⟩ := h
          refine va_lald hx hb hK hP 41 34 (wL_at41 _ _ _ _ _ _ _ _) rfl hi dX2_becomeLike_54 ?_
          obtain ⟨hi, h⟩ := h
          obtain ⟨J_25, eJ_25⟩ : ∃ z : TJ, z = va_up J_24 27 (vp_updL (J_24 27) (x_8).toNatClampNeg (J_24 41 (x_8).toNatClampNeg)) := ⟨_, rfl⟩
          have h := h J_25 eJ_25
          refine va_last hx hb hK hP hD hS 27 22 (wL_at27 _ _ _ _ _ _ _ _) rfl hi dX2_becomeLike_55 (fun H locs hP hD hS => ?_)
          have hP : va_P (dC, dI) vwCl (wL a cy n0 n1 I_18 J_25 S_20 L_21) H := by rw [eJ_25]; exact setP hP (wL_set27 _ _ _ _ _ _ _ _ _)
          have hD : va_D A (wL a cy n0 n1 I_18 J_25 S_20 L_21) := by rw [eJ_25]; exact setD hD (wL_set27 _ _ _ _ _ _ _ _ _)
          refine lv_aload_n hx hb dX2_becomeLike_56 rfl (lv_at hl 1 rfl) ?_
          refine va_get (D := (dC, dI)) (ci := 2) (v := .ref (a 28)) (C := RX2) (T := TX2) (N := 16) hx hb hts nX2_becomeLike_X2 hown hK hP 25 (wL_at25 _ _ _ _ _ _ _ _) rfl 2 (by decide) (hts (.fieldLink RX2 18 "SongOffice$Ledger" "filled" "[J") kX2_becomeLike_3) (fun _ h9 => h9) rfl dX2_becomeLike_57 ?_
          refine lv_iload_n hx hb dX2_becomeLike_60 rfl (lv_at hl 3 rfl) ?_
          refine lv_aload_n hx hb dX2_becomeLike_61 rfl (lv_at hl 2 rfl) ?_
          refine va_get (D := (dC, dI)) (ci := 2) (v := .ref (a 42)) (C := RX2) (T := TX2) (N := 16) hx hb hts nX2_becomeLike_X2 hown hK hP 39 (wL_at39 _ _ _ _ _ _ _ _) rfl 2 (by decide) (hts (.fieldLink RX2 18 "SongOffice$Ledger" "filled" "[J") kX2_becomeLike_3) (fun _ h9 => h9) rfl dX2_becomeLike_62 ?_
          refine lv_iload_n hx hb dX2_becomeLike_65 rfl (lv_at hl 3 rfl) ?_
          obtain ⟨hi, h⟩ := h
          refine va_lald hx hb hK hP 42 35 (wL_at42 _ _ _ _ _ _ _ _) rfl hi dX2_becomeLike_66 ?_
          obtain ⟨hi, h⟩ := h
          obtain ⟨J_26, eJ_26⟩ : ∃ z : TJ, z = va_up J_25 28 (vp_updL (J_25 28) (x_8).toNatClampNeg (J_25 42 (x_8).toNatClampNeg)) := ⟨_, rfl⟩
          have h := h J_26 eJ_26
          refine va_last hx hb hK hP hD hS 28 23 (wL_at28 _ _ _ _ _ _ _ _) rfl hi dX2_becomeLike_67 (fun H locs hP hD hS => ?_)
          have hP : va_P (dC, dI) vwCl (wL a cy n0 n1 I_18 J_26 S_20 L_21) H := by rw [eJ_26]; exact setP hP (wL_set28 _ _ _ _ _ _ _ _ _)
          have hD : va_D A (wL a cy n0 n1 I_18 J_26 S_20 L_21) := by rw [eJ_26]; exact setD hD (wL_set28 _ _ _ _ _ _ _ _ _)
          obtain ⟨x_27, ex_27⟩ : ∃ z : Int32, z = x_8 + 1 := ⟨_, rfl⟩
          have h := h x_27 ex_27
          refine lv_iinc (v := x_27) (lv' := [(2, .int x_27), (3, .long y_23), (0, .ref (a 25)), (1, .ref (a 39))]) hx hb dX2_becomeLike_68 hl (k := 3) rfl (by rw [ex_27]; rfl) (by decide) rfl (fun ls hl => ?_)
          refine lv_goto (tgt := 2) hx hb dX2_becomeLike_71 (by decide) ?_
          obtain ⟨n_28, hn2, h⟩ := h
          exact ihV_1 n_28 hn2 I_18 J_26 S_20 L_21 x_27 _ _ _ hP hD hS (lv_sub hl [2, 3, 0] rfl) h
  exact lV_1 n_3 I J S L (0 : Int32) _ _ _ hP hD hS (lv_sub hl [1, 2, 0] rfl) h0V_1
def wp_X2_becomeLike_O (n0 n1 : Nat) (I : TI) (J : TJ) (S : TS) (L : TL) (Φ : TI → TJ → TS → TL → Prop) : Prop := wp_X2_becomeLike n0 n1 I J S L (fun I1 J1 S1 L1 => Φ I1 J1 (va_up S1 0 (S 0)) L1)
set_option maxHeartbeats 1000000 in
theorem c_X2_becomeLike_O (l : Launch) (dC : Nat → ClassId) (dI : Nat → Nat → Nat) (a : Nat → Nat) (cy : Nat → ClassId) (n0 n1 : Nat) (sz : Nat) (I : TI) (J : TJ) (S : TS) (L : TL) (Φ : TI → TJ → TS → TL → Prop) (h : wp_X2_becomeLike_O n0 n1 I J S L Φ) : Met l yX2_becomeLike wsX2_becomeLike rmX2_becomeLike (va_Pc [.ref (a 25), .ref (a 39)] (gpre dC dI (wO a cy n0 n1 I J S L) (tyL cy) sz)) (gQv dC dI (wO a cy n0 n1) (tyL cy) (va_A (wO a cy n0 n1 I J S L) sz) Φ) 0 0 (va_A (wO a cy n0 n1 I J S L) sz) :=
  met_cons_v (Wd := wL a cy n0 n1) (c_X2_becomeLike l dC dI a cy n0 n1 sz I J S L _ h) (wO_cons a cy n0 n1 (S 0))
