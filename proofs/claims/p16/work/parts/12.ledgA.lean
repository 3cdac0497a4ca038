def wp_J7_fill_d0a16_26 (n0 n1 : Nat) (I : TI) (J : TJ) (S : TS) (L : TL) (p0 : Int64) (Φ : TI → TJ → TS → TL → Prop) : Prop := ∃ V_1 : Nat → TI → TJ → TS → TL → Int32 → Int32 → Prop, (∃ n_3, V_1 n_3 I J S L (0 : Int32) (12 : Int32)) ∧ ∀ (n_2 : Nat) (I_4 : TI) (J_5 : TJ) (S_6 : TS) (L_7 : TL) (x_8 : Int32) (x_9 : Int32), V_1 n_2 I_4 J_5 S_6 L_7 x_8 x_9 → (((x_9 ≤ x_8) → (Φ I_4 J_5 S_6 L_7)) ∧ ((¬ x_9 ≤ x_8) → ((vp_in x_8 12) ∧ ∀ J_10 : TJ, J_10 = va_up J_5 26 (vp_updL (J_5 26) (x_8).toNatClampNeg p0) → (∀ x_11 : Int32, x_11 = x_8 + 1 → (∃ n_12, n_12 < n_2 ∧ V_1 n_12 I_4 J_10 S_6 L_7 x_11 x_9)))))
abbrev rmJ7_fill_d0a16_26 : Room := { frames := 0, cells := 0, slots := 0, locals := 0 }
set_option maxHeartbeats 4000000 in
set_option maxRecDepth 100000 in
theorem c_J7_fill_d0a16_26 (l : Launch) (dC : Nat → ClassId) (dI : Nat → Nat → Nat) (a : Nat → Nat) (cy : Nat → ClassId) (n0 n1 : Nat) (sz : Nat) (I : TI) (J : TJ) (S : TS) (L : TL) (p0 : Int64) (Φ : TI → TJ → TS → TL → Prop) (h : wp_J7_fill_d0a16_26 n0 n1 I J S L p0 Φ) : Met l yJ7_fill_d0a16 wsJ7_fill_d0a16 rmJ7_fill_d0a16_26 (va_Pc [.ref (a 26), .long p0] (gpre dC dI (wL a cy n0 n1 I J S L) (tyL cy) sz)) (gQv dC dI (wL a cy n0 n1) (tyL cy) (va_A (wL a cy n0 n1 I J S L) sz) Φ) 0 0 (va_A (wL a cy n0 n1 I J S L) sz) := by
  refine Met.ofW (cc := cJ7_fill_d0a16) (maxL := 5) (ret := none) (by decide) rfl ?_
  intro p e s m args below meth c s₁ B hml hv
  obtain ⟨hargs, hsz, hP, hK, hD0, hN⟩ := hv
  have hx := B.exec
  have hb := B.bytes
  have hr := B.returns
  have hts := atoms_spec (ws := wsJ7_fill_d0a16) B.pre
  have hown : s.vm.findClass RJ7 = some m.cls := findClass_of_methodNamed B.named
  have hlocks := B.notSynchronized
  subst hsz
  have hD := hD0.self (sz := s.heap.size)
  generalize hAe : va_A (wL a cy n0 n1 I J S L) s.heap.size = A at hD ⊢
  have hA : ∀ q : Nat, s.heap.size ≤ q → A q := fun q h => by rw [← hAe]; exact Or.inr h
  obtain ⟨H, hH⟩ : ∃ z : Heap, z = s.heap := ⟨_, rfl⟩
  rw [← hH] at hP
  have hS : va_S A s.heap H [] := by rw [hH]; exact va_S.rf
  have hl := lv_entry ([.ref (a 26), .long p0]) (n := 5) (Nat.le_of_ble_eq_true rfl)
  have hE : entryFrame m args 5 = F0 m 0 ((lg_sl ([.ref (a 26), .long p0]) ++ List.replicate (5 - (lg_sl ([.ref (a 26), .long p0])).length) Slot.unset).toArray) [] := by rw [hargs]; exact lg_entry_eq m _ _
  rw [hE, ← hH]
  clear hE
  generalize (lg_sl ([.ref (a 26), .long p0]) ++ List.replicate (5 - (lg_sl ([.ref (a 26), .long p0])).length) Slot.unset).toArray = ls at hl ⊢
  have hl : lv_has ls 5 [(0, .ref (a 26)), (1, .long p0)] := hl
  unfold wp_J7_fill_d0a16_26 at h
  refine lv_iconst (v := 0) hx hb dJ7_fill_d0a16_0 (by decide) ?_
  refine lv_istore_n (lv' := [(3, .int (0 : Int32)), (0, .ref (a 26)), (1, .long p0)]) hx hb dJ7_fill_d0a16_1 rfl hl (by decide) rfl (fun ls hl => ?_)
  refine lv_aload_n hx hb dJ7_fill_d0a16_2 rfl (lv_at hl 1 rfl) ?_
  refine va_alen hx hb hK hP 26 21 (wL_at26 _ _ _ _ _ _ _ _) rfl (v := 12) rfl dJ7_fill_d0a16_3 ?_
  refine lv_istore (lv' := [(4, .int (12 : Int32)), (3, .int (0 : Int32)), (0, .ref (a 26)), (1, .long p0)]) hx hb dJ7_fill_d0a16_4 hl (by decide) rfl (fun ls hl => ?_)
  obtain ⟨V_1, ⟨n_3, h0V_1⟩, hV_1⟩ := h
  have lV_1 : ∀ (n_2 : Nat) (I_4 : TI) (J_5 : TJ) (S_6 : TS) (L_7 : TL) (x_8 : Int32) (x_9 : Int32) (H : Heap) (locs : List Loc) (ls : Array Slot), va_P (dC, dI) vwCl (wL a cy n0 n1 I_4 J_5 S_6 L_7) H → va_D A (wL a cy n0 n1 I_4 J_5 S_6 L_7) → va_S A s.heap H locs → lv_has ls 5 [(0, .ref (a 26)), (1, .long p0), (3, .int x_8), (4, .int x_9)] → V_1 n_2 I_4 J_5 S_6 L_7 x_8 x_9 → W p l e (headSpec wsJ7_fill_d0a16 rmJ7_fill_d0a16_26).room s m args below meth c H locs 0 0 (MQ below (gQv dC dI (wL a cy n0 n1) (tyL cy) A Φ) args s 0 0 A) (F0 m 6 ls []) := by
    intro n_2
    induction n_2 using Nat.strongRecOn with
    | ind n_2 ihV_1 =>
        intro I_4 J_5 S_6 L_7 x_8 x_9 H locs ls hP hD hS hl h
        have h := hV_1 n_2 I_4 J_5 S_6 L_7 x_8 x_9 h
        refine lv_iload_n hx hb dJ7_fill_d0a16_6 rfl (lv_at hl 2 rfl) ?_
        refine lv_iload hx hb dJ7_fill_d0a16_7 (lv_at hl 3 rfl) ?_
        refine lv_icmp_ge (tgt := 22) hx hb dJ7_fill_d0a16_9 (by decide) (fun hc => ?_) (fun hc => ?_)
        · have h := h.1 hc
          exact grv hx hb hr hlocks hP hK hD hS h dJ7_fill_d0a16_22
        · have h := h.2 hc
          refine lv_aload_n hx hb dJ7_fill_d0a16_12 rfl (lv_at hl 0 rfl) ?_
          refine lv_iload_n hx hb dJ7_fill_d0a16_13 rfl (lv_at hl 2 rfl) ?_
          refine lv_lload_n hx hb dJ7_fill_d0a16_14 rfl (lv_at hl 1 rfl) ?_
          obtain ⟨hi, h⟩ := h
          obtain ⟨J_10, eJ_10⟩ : ∃ z : TJ, z = va_up J_5 26 (vp_updL (J_5 26) (x_8).toNatClampNeg p0) := ⟨_, rfl⟩
          have h := h J_10 eJ_10
          refine va_last hx hb hK hP hD hS 26 21 (wL_at26 _ _ _ _ _ _ _ _) rfl hi dJ7_fill_d0a16_15 (fun H locs hP hD hS => ?_)
          have hP : va_P (dC, dI) vwCl (wL a cy n0 n1 I_4 J_10 S_6 L_7) H := by rw [eJ_10]; exact setP hP (wL_set26 _ _ _ _ _ _ _ _ _)
          have hD : va_D A (wL a cy n0 n1 I_4 J_10 S_6 L_7) := by rw [eJ_10]; exact setD hD (wL_set26 _ _ _ _ _ _ _ _ _)
          obtain ⟨x_11, ex_11⟩ : ∃ z : Int32, z = x_8 + 1 := ⟨_, rfl⟩
          have h := h x_11 ex_11
          refine lv_iinc (v := x_11) (lv' := [(3, .int x_11), (0, .ref (a 26)), (1, .long p0), (4, .int x_9)]) hx hb dJ7_fill_d0a16_16 hl (k := 2) rfl (by rw [ex_11]; rfl) (by decide) rfl (fun ls hl => ?_)
          refine lv_goto (tgt := 6) hx hb dJ7_fill_d0a16_19 (by decide) ?_
          obtain ⟨n_12, hn2, h⟩ := h
          exact ihV_1 n_12 hn2 I_4 J_10 S_6 L_7 x_11 x_9 _ _ _ hP hD hS (lv_sub hl [1, 2, 0, 3] rfl) h
  exact lV_1 n_3 I J S L (0 : Int32) (12 : Int32) _ _ _ hP hD hS (lv_sub hl [2, 3, 1, 0] rfl) h0V_1
def wp_J7_fill_d0a16_27 (n0 n1 : Nat) (I : TI) (J : TJ) (S : TS) (L : TL) (p0 : Int64) (Φ : TI → TJ → TS → TL → Prop) : Prop := ∃ V_1 : Nat → TI → TJ → TS → TL → Int32 → Int32 → Prop, (∃ n_3, V_1 n_3 I J S L (0 : Int32) (12 : Int32)) ∧ ∀ (n_2 : Nat) (I_4 : TI) (J_5 : TJ) (S_6 : TS) (L_7 : TL) (x_8 : Int32) (x_9 : Int32), V_1 n_2 I_4 J_5 S_6 L_7 x_8 x_9 → (((x_9 ≤ x_8) → (Φ I_4 J_5 S_6 L_7)) ∧ ((¬ x_9 ≤ x_8) → ((vp_in x_8 12) ∧ ∀ J_10 : TJ, J_10 = va_up J_5 27 (vp_updL (J_5 27) (x_8).toNatClampNeg p0) → (∀ x_11 : Int32, x_11 = x_8 + 1 → (∃ n_12, n_12 < n_2 ∧ V_1 n_12 I_4 J_10 S_6 L_7 x_11 x_9)))))
abbrev rmJ7_fill_d0a16_27 : Room := { frames := 0, cells := 0, slots := 0, locals := 0 }
set_option maxHeartbeats 4000000 in
set_option maxRecDepth 100000 in
theorem c_J7_fill_d0a16_27 (l : Launch) (dC : Nat → ClassId) (dI : Nat → Nat → Nat) (a : Nat → Nat) (cy : Nat → ClassId) (n0 n1 : Nat) (sz : Nat) (I : TI) (J : TJ) (S : TS) (L : TL) (p0 : Int64) (Φ : TI → TJ → TS → TL → Prop) (h : wp_J7_fill_d0a16_27 n0 n1 I J S L p0 Φ) : Met l yJ7_fill_d0a16 wsJ7_fill_d0a16 rmJ7_fill_d0a16_27 (va_Pc [.ref (a 27), .long p0] (gpre dC dI (wL a cy n0 n1 I J S L) (tyL cy) sz)) (gQv dC dI (wL a cy n0 n1) (tyL cy) (va_A (wL a cy n0 n1 I J S L) sz) Φ) 0 0 (va_A (wL a cy n0 n1 I J S L) sz) := by
  refine Met.ofW (cc := cJ7_fill_d0a16) (maxL := 5) (ret := none) (by decide) rfl ?_
  intro p e s m args below meth c s₁ B hml hv
  obtain ⟨hargs, hsz, hP, hK, hD0, hN⟩ := hv
  have hx := B.exec
  have hb := B.bytes
  have hr := B.returns
  have hts := atoms_spec (ws := wsJ7_fill_d0a16) B.pre
  have hown : s.vm.findClass RJ7 = some m.cls := findClass_of_methodNamed B.named
  have hlocks := B.notSynchronized
  subst hsz
  have hD := hD0.self (sz := s.heap.size)
  generalize hAe : va_A (wL a cy n0 n1 I J S L) s.heap.size = A at hD ⊢
  have hA : ∀ q : Nat, s.heap.size ≤ q → A q := fun q h => by rw [← hAe]; exact Or.inr h
  obtain ⟨H, hH⟩ : ∃ z : Heap, z = s.heap := ⟨_, rfl⟩
  rw [← hH] at hP
  have hS : va_S A s.heap H [] := by rw [hH]; exact va_S.rf
  have hl := lv_entry ([.ref (a 27), .long p0]) (n := 5) (Nat.le_of_ble_eq_true rfl)
  have hE : entryFrame m args 5 = F0 m 0 ((lg_sl ([.ref (a 27), .long p0]) ++ List.replicate (5 - (lg_sl ([.ref (a 27), .long p0])).length) Slot.unset).toArray) [] := by rw [hargs]; exact lg_entry_eq m _ _
  rw [hE, ← hH]
  clear hE
  generalize (lg_sl ([.ref (a 27), .long p0]) ++ List.replicate (5 - (lg_sl ([.ref (a 27), .long p0])).length) Slot.unset).toArray = ls at hl ⊢
  have hl : lv_has ls 5 [(0, .ref (a 27)), (1, .long p0)] := hl
  unfold wp_J7_fill_d0a16_27 at h
  refine lv_iconst (v := 0) hx hb dJ7_fill_d0a16_0 (by decide) ?_
  refine lv_istore_n (lv' := [(3, .int (0 : Int32)), (0, .ref (a 27)), (1, .long p0)]) hx hb dJ7_fill_d0a16_1 rfl hl (by decide) rfl (fun ls hl => ?_)
  refine lv_aload_n hx hb dJ7_fill_d0a16_2 rfl (lv_at hl 1 rfl) ?_
  refine va_alen hx hb hK hP 27 22 (wL_at27 _ _ _ _ _ _ _ _) rfl (v := 12) rfl dJ7_fill_d0a16_3 ?_
  refine lv_istore (lv' := [(4, .int (12 : Int32)), (3, .int (0 : Int32)), (0, .ref (a 27)), (1, .long p0)]) hx hb dJ7_fill_d0a16_4 hl (by decide) rfl (fun ls hl => ?_)
  obtain ⟨V_1, ⟨n_3, h0V_1⟩, hV_1⟩ := h
  have lV_1 : ∀ (n_2 : Nat) (I_4 : TI) (J_5 : TJ) (S_6 : TS) (L_7 : TL) (x_8 : Int32) (x_9 : Int32) (H : Heap) (locs : List Loc) (ls : Array Slot), va_P (dC, dI) vwCl (wL a cy n0 n1 I_4 J_5 S_6 L_7) H → va_D A (wL a cy n0 n1 I_4 J_5 S_6 L_7) → va_S A s.heap H locs → lv_has ls 5 [(0, .ref (a 27)), (1, .long p0), (3, .int x_8), (4, .int x_9)] → V_1 n_2 I_4 J_5 S_6 L_7 x_8 x_9 → W p l e (headSpec wsJ7_fill_d0a16 rmJ7_fill_d0a16_27).room s m args below meth c H locs 0 0 (MQ below (gQv dC dI (wL a cy n0 n1) (tyL cy) A Φ) args s 0 0 A) (F0 m 6 ls []) := by
    intro n_2
    induction n_2 using Nat.strongRecOn with
    | ind n_2 ihV_1 =>
        intro I_4 J_5 S_6 L_7 x_8 x_9 H locs ls hP hD hS hl h
        have h := hV_1 n_2 I_4 J_5 S_6 L_7 x_8 x_9 h
        refine lv_iload_n hx hb dJ7_fill_d0a16_6 rfl (lv_at hl 2 rfl) ?_
        refine lv_iload hx hb dJ7_fill_d0a16_7 (lv_at hl 3 rfl) ?_
        refine lv_icmp_ge (tgt := 22) hx hb dJ7_fill_d0a16_9 (by decide) (fun hc => ?_) (fun hc => ?_)
        · have h := h.1 hc
          exact grv hx hb hr hlocks hP hK hD hS h dJ7_fill_d0a16_22
        · have h := h.2 hc
          refine lv_aload_n hx hb dJ7_fill_d0a16_12 rfl (lv_at hl 0 rfl) ?_
          refine lv_iload_n hx hb dJ7_fill_d0a16_13 rfl (lv_at hl 2 rfl) ?_
          refine lv_lload_n hx hb dJ7_fill_d0a16_14 rfl (lv_at hl 1 rfl) ?_
          obtain ⟨hi, h⟩ := h
          obtain ⟨J_10, eJ_10⟩ : ∃ z : TJ, z = va_up J_5 27 (vp_updL (J_5 27) (x_8).toNatClampNeg p0) := ⟨_, rfl⟩
          have h := h J_10 eJ_10
          refine va_last hx hb hK hP hD hS 27 22 (wL_at27 _ _ _ _ _ _ _ _) rfl hi dJ7_fill_d0a16_15 (fun H locs hP hD hS => ?_)
          have hP : va_P (dC, dI) vwCl (wL a cy n0 n1 I_4 J_10 S_6 L_7) H := by rw [eJ_10]; exact setP hP (wL_set27 _ _ _ _ _ _ _ _ _)
          have hD : va_D A (wL a cy n0 n1 I_4 J_10 S_6 L_7) := by rw [eJ_10]; exact setD hD (wL_set27 _ _ _ _ _ _ _ _ _)
          obtain ⟨x_11, ex_11⟩ : ∃ z : Int32, z = x_8 + 1 := ⟨_, rfl⟩
          have h := h x_11 ex_11
          refine lv_iinc (v := x_11) (lv' := [(3, .int x_11), (0, .ref (a 27)), (1, .long p0), (4, .int x_9)]) hx hb dJ7_fill_d0a16_16 hl (k := 2) rfl (by rw [ex_11]; rfl) (by decide) rfl (fun ls hl => ?_)
          refine lv_goto (tgt := 6) hx hb dJ7_fill_d0a16_19 (by decide) ?_
          obtain ⟨n_12, hn2, h⟩ := h
          exact ihV_1 n_12 hn2 I_4 J_10 S_6 L_7 x_11 x_9 _ _ _ hP hD hS (lv_sub hl [1, 2, 0, 3] rfl) h
  exact lV_1 n_3 I J S L (0 : Int32) (12 : Int32) _ _ _ hP hD hS (lv_sub hl [2, 3, 1, 0] rfl) h0V_1
def wp_J7_fill_d0a16_28 (n0 n1 : Nat) (I : TI) (J : TJ) (S : TS) (L : TL) (p0 : Int64) (Φ : TI → TJ → TS → TL → Prop) : Prop := ∃ V_1 : Nat → TI → TJ → TS → TL → Int32 → Int32 → Prop, (∃ n_3, V_1 n_3 I J S L (0 : Int32) (12 : Int32)) ∧ ∀ (n_2 : Nat) (I_4 : TI) (J_5 : TJ) (S_6 : TS) (L_7 : TL) (x_8 : Int32) (x_9 : Int32), V_1 n_2 I_4 J_5 S_6 L_7 x_8 x_9 → (((x_9 ≤ x_8) → (Φ I_4 J_5 S_6 L_7)) ∧ ((¬ x_9 ≤ x_8) → ((vp_in x_8 12) ∧ ∀ J_10 : TJ, J_10 = va_up J_5 28 (vp_updL (J_5 28) (x_8).toNatClampNeg p0) → (∀ x_11 : Int32, x_11 = x_8 + 1 → (∃ n_12, n_12 < n_2 ∧ V_1 n_12 I_4 J_10 S_6 L_7 x_11 x_9)))))
abbrev rmJ7_fill_d0a16_28 : Room := { frames := 0, cells := 0, slots := 0, locals := 0 }
set_option maxHeartbeats 4000000 in
set_option maxRecDepth 100000 in
theorem c_J7_fill_d0a16_28 (l : Launch) (dC : Nat → ClassId) (dI : Nat → Nat → Nat) (a : Nat → Nat) (cy : Nat → ClassId) (n0 n1 : Nat) (sz : Nat) (I : TI) (J : TJ) (S : TS) (L : TL) (p0 : Int64) (Φ : TI → TJ → TS → TL → Prop) (h : wp_J7_fill_d0a16_28 n0 n1 I J S L p0 Φ) : Met l yJ7_fill_d0a16 wsJ7_fill_d0a16 rmJ7_fill_d0a16_28 (va_Pc [.ref (a 28), .long p0] (gpre dC dI (wL a cy n0 n1 I J S L) (tyL cy) sz)) (gQv dC dI (wL a cy n0 n1) (tyL cy) (va_A (wL a cy n0 n1 I J S L) sz) Φ) 0 0 (va_A (wL a cy n0 n1 I J S L) sz) := by
  refine Met.ofW (cc := cJ7_fill_d0a16) (maxL := 5) (ret := none) (by decide) rfl ?_
  intro p e s m args below meth c s₁ B hml hv
  obtain ⟨hargs, hsz, hP, hK, hD0, hN⟩ := hv
  have hx := B.exec
  have hb := B.bytes
  have hr := B.returns
  have hts := atoms_spec (ws := wsJ7_fill_d0a16) B.pre
  have hown : s.vm.findClass RJ7 = some m.cls := findClass_of_methodNamed B.named
  have hlocks := B.notSynchronized
  subst hsz
  have hD := hD0.self (sz := s.heap.size)
  generalize hAe : va_A (wL a cy n0 n1 I J S L) s.heap.size = A at hD ⊢
  have hA : ∀ q : Nat, s.heap.size ≤ q → A q := fun q h => by rw [← hAe]; exact Or.inr h
  obtain ⟨H, hH⟩ : ∃ z : Heap, z = s.heap := ⟨_, rfl⟩
  rw [← hH] at hP
  have hS : va_S A s.heap H [] := by rw [hH]; exact va_S.rf
  have hl := lv_entry ([.ref (a 28), .long p0]) (n := 5) (Nat.le_of_ble_eq_true rfl)
  have hE : entryFrame m args 5 = F0 m 0 ((lg_sl ([.ref (a 28), .long p0]) ++ List.replicate (5 - (lg_sl ([.ref (a 28), .long p0])).length) Slot.unset).toArray) [] := by rw [hargs]; exact lg_entry_eq m _ _
  rw [hE, ← hH]
  clear hE
  generalize (lg_sl ([.ref (a 28), .long p0]) ++ List.replicate (5 - (lg_sl ([.ref (a 28), .long p0])).length) Slot.unset).toArray = ls at hl ⊢
  have hl : lv_has ls 5 [(0, .ref (a 28)), (1, .long p0)] := hl
  unfold wp_J7_fill_d0a16_28 at h
  refine lv_iconst (v := 0) hx hb dJ7_fill_d0a16_0 (by decide) ?_
  refine lv_istore_n (lv' := [(3, .int (0 : Int32)), (0, .ref (a 28)), (1, .long p0)]) hx hb dJ7_fill_d0a16_1 rfl hl (by decide) rfl (fun ls hl => ?_)
  refine lv_aload_n hx hb dJ7_fill_d0a16_2 rfl (lv_at hl 1 rfl) ?_
  refine va_alen hx hb hK hP 28 23 (wL_at28 _ _ _ _ _ _ _ _) rfl (v := 12) rfl dJ7_fill_d0a16_3 ?_
  refine lv_istore (lv' := [(4, .int (12 : Int32)), (3, .int (0 : Int32)), (0, .ref (a 28)), (1, .long p0)]) hx hb dJ7_fill_d0a16_4 hl (by decide) rfl (fun ls hl => ?_)
  obtain ⟨V_1, ⟨n_3, h0V_1⟩, hV_1⟩ := h
  have lV_1 : ∀ (n_2 : Nat) (I_4 : TI) (J_5 : TJ) (S_6 : TS) (L_7 : TL) (x_8 : Int32) (x_9 : Int32) (H : Heap) (locs : List Loc) (ls : Array Slot), va_P (dC, dI) vwCl (wL a cy n0 n1 I_4 J_5 S_6 L_7) H → va_D A (wL a cy n0 n1 I_4 J_5 S_6 L_7) → va_S A s.heap H locs → lv_has ls 5 [(0, .ref (a 28)), (1, .long p0), (3, .int x_8), (4, .int x_9)] → V_1 n_2 I_4 J_5 S_6 L_7 x_8 x_9 → W p l e (headSpec wsJ7_fill_d0a16 rmJ7_fill_d0a16_28).room s m args below meth c H locs 0 0 (MQ below (gQv dC dI (wL a cy n0 n1) (tyL cy) A Φ) args s 0 0 A) (F0 m 6 ls []) := by
    intro n_2
    induction n_2 using Nat.strongRecOn with
    | ind n_2 ihV_1 =>
        intro I_4 J_5 S_6 L_7 x_8 x_9 H locs ls hP hD hS hl h
        have h := hV_1 n_2 I_4 J_5 S_6 L_7 x_8 x_9 h
        refine lv_iload_n hx hb dJ7_fill_d0a16_6 rfl (lv_at hl 2 rfl) ?_
        refine lv_iload hx hb dJ7_fill_d0a16_7 (lv_at hl 3 rfl) ?_
        refine lv_icmp_ge (tgt := 22) hx hb dJ7_fill_d0a16_9 (by decide) (fun hc => ?_) (fun hc => ?_)
        · have h := h.1 hc
          exact grv hx hb hr hlocks hP hK hD hS h dJ7_fill_d0a16_22
        · have h := h.2 hc
          refine lv_aload_n hx hb dJ7_fill_d0a16_12 rfl (lv_at hl 0 rfl) ?_
          refine lv_iload_n hx hb dJ7_fill_d0a16_13 rfl (lv_at hl 2 rfl) ?_
          refine lv_lload_n hx hb dJ7_fill_d0a16_14 rfl (lv_at hl 1 rfl) ?_
          obtain ⟨hi, h⟩ := h
          obtain ⟨J_10, eJ_10⟩ : ∃ z : TJ, z = va_up J_5 28 (vp_updL (J_5 28) (x_8).toNatClampNeg p0) := ⟨_, rfl⟩
          have h := h J_10 eJ_10
          refine va_last hx hb hK hP hD hS 28 23 (wL_at28 _ _ _ _ _ _ _ _) rfl hi dJ7_fill_d0a16_15 (fun H locs hP hD hS => ?_)
          have hP : va_P (dC, dI) vwCl (wL a cy n0 n1 I_4 J_10 S_6 L_7) H := by rw [eJ_10]; exact setP hP (wL_set28 _ _ _ _ _ _ _ _ _)
          have hD : va_D A (wL a cy n0 n1 I_4 J_10 S_6 L_7) := by rw [eJ_10]; exact setD hD (wL_set28 _ _ _ _ _ _ _ _ _)
          obtain ⟨x_11, ex_11⟩ : ∃ z : Int32, z = x_8 + 1 := ⟨_, rfl⟩
          have h := h x_11 ex_11
          refine lv_iinc (v := x_11) (lv' := [(3, .int x_11), (0, .ref (a 28)), (1, .long p0), (4, .int x_9)]) hx hb dJ7_fill_d0a16_16 hl (k := 2) rfl (by rw [ex_11]; rfl) (by decide) rfl (fun ls hl => ?_)
          refine lv_goto (tgt := 6) hx hb dJ7_fill_d0a16_19 (by decide) ?_
          obtain ⟨n_12, hn2, h⟩ := h
          exact ihV_1 n_12 hn2 I_4 J_10 S_6 L_7 x_11 x_9 _ _ _ hP hD hS (lv_sub hl [1, 2, 0, 3] rfl) h
  exact lV_1 n_3 I J S L (0 : Int32) (12 : Int32) _ _ _ hP hD hS (lv_sub hl [2, 3, 1, 0] rfl) h0V_1
def wp_J7_fill_d0a16_30 (n0 n1 : Nat) (I : TI) (J : TJ) (S : TS) (L : TL) (p0 : Int64) (Φ : TI → TJ → TS → TL → Prop) : Prop := ∃ V_1 : Nat → TI → TJ → TS → TL → Int32 → Int32 → Prop, (∃ n_3, V_1 n_3 I J S L (0 : Int32) (24 : Int32)) ∧ ∀ (n_2 : Nat) (I_4 : TI) (J_5 : TJ) (S_6 : TS) (L_7 : TL) (x_8 : Int32) (x_9 : Int32), V_1 n_2 I_4 J_5 S_6 L_7 x_8 x_9 → (((x_9 ≤ x_8) → (Φ I_4 J_5 S_6 L_7)) ∧ ((¬ x_9 ≤ x_8) → ((vp_in x_8 24) ∧ ∀ J_10 : TJ, J_10 = va_up J_5 30 (vp_updL (J_5 30) (x_8).toNatClampNeg p0) → (∀ x_11 : Int32, x_11 = x_8 + 1 → (∃ n_12, n_12 < n_2 ∧ V_1 n_12 I_4 J_10 S_6 L_7 x_11 x_9)))))
abbrev rmJ7_fill_d0a16_30 : Room := { frames := 0, cells := 0, slots := 0, locals := 0 }
set_option maxHeartbeats 4000000 in
set_option maxRecDepth 100000 in
theorem c_J7_fill_d0a16_30 (l : Launch) (dC : Nat → ClassId) (dI : Nat → Nat → Nat) (a : Nat → Nat) (cy : Nat → ClassId) (n0 n1 : Nat) (sz : Nat) (I : TI) (J : TJ) (S : TS) (L : TL) (p0 : Int64) (Φ : TI → TJ → TS → TL → Prop) (h : wp_J7_fill_d0a16_30 n0 n1 I J S L p0 Φ) : Met l yJ7_fill_d0a16 wsJ7_fill_d0a16 rmJ7_fill_d0a16_30 (va_Pc [.ref (a 30), .long p0] (gpre dC dI (wL a cy n0 n1 I J S L) (tyL cy) sz)) (gQv dC dI (wL a cy n0 n1) (tyL cy) (va_A (wL a cy n0 n1 I J S L) sz) Φ) 0 0 (va_A (wL a cy n0 n1 I J S L) sz) := by
  refine Met.ofW (cc := cJ7_fill_d0a16) (maxL := 5) (ret := none) (by decide) rfl ?_
  intro p e s m args below meth c s₁ B hml hv
  obtain ⟨hargs, hsz, hP, hK, hD0, hN⟩ := hv
  have hx := B.exec
  have hb := B.bytes
  have hr := B.returns
  have hts := atoms_spec (ws := wsJ7_fill_d0a16) B.pre
  have hown : s.vm.findClass RJ7 = some m.cls := findClass_of_methodNamed B.named
  have hlocks := B.notSynchronized
  subst hsz
  have hD := hD0.self (sz := s.heap.size)
  generalize hAe : va_A (wL a cy n0 n1 I J S L) s.heap.size = A at hD ⊢
  have hA : ∀ q : Nat, s.heap.size ≤ q → A q := fun q h => by rw [← hAe]; exact Or.inr h
  obtain ⟨H, hH⟩ : ∃ z : Heap, z = s.heap := ⟨_, rfl⟩
  rw [← hH] at hP
  have hS : va_S A s.heap H [] := by rw [hH]; exact va_S.rf
  have hl := lv_entry ([.ref (a 30), .long p0]) (n := 5) (Nat.le_of_ble_eq_true rfl)
  have hE : entryFrame m args 5 = F0 m 0 ((lg_sl ([.ref (a 30), .long p0]) ++ List.replicate (5 - (lg_sl ([.ref (a 30), .long p0])).length) Slot.unset).toArray) [] := by rw [hargs]; exact lg_entry_eq m _ _
  rw [hE, ← hH]
  clear hE
  generalize (lg_sl ([.ref (a 30), .long p0]) ++ List.replicate (5 - (lg_sl ([.ref (a 30), .long p0])).length) Slot.unset).toArray = ls at hl ⊢
  have hl : lv_has ls 5 [(0, .ref (a 30)), (1, .long p0)] := hl
  unfold wp_J7_fill_d0a16_30 at h
  refine lv_iconst (v := 0) hx hb dJ7_fill_d0a16_0 (by decide) ?_
  refine lv_istore_n (lv' := [(3, .int (0 : Int32)), (0, .ref (a 30)), (1, .long p0)]) hx hb dJ7_fill_d0a16_1 rfl hl (by decide) rfl (fun ls hl => ?_)
  refine lv_aload_n hx hb dJ7_fill_d0a16_2 rfl (lv_at hl 1 rfl) ?_
  refine va_alen hx hb hK hP 30 25 (wL_at30 _ _ _ _ _ _ _ _) rfl (v := 24) rfl dJ7_fill_d0a16_3 ?_
  refine lv_istore (lv' := [(4, .int (24 : Int32)), (3, .int (0 : Int32)), (0, .ref (a 30)), (1, .long p0)]) hx hb dJ7_fill_d0a16_4 hl (by decide) rfl (fun ls hl => ?_)
  obtain ⟨V_1, ⟨n_3, h0V_1⟩, hV_1⟩ := h
  have lV_1 : ∀ (n_2 : Nat) (I_4 : TI) (J_5 : TJ) (S_6 : TS) (L_7 : TL) (x_8 : Int32) (x_9 : Int32) (H : Heap) (locs : List Loc) (ls : Array Slot), va_P (dC, dI) vwCl (wL a cy n0 n1 I_4 J_5 S_6 L_7) H → va_D A (wL a cy n0 n1 I_4 J_5 S_6 L_7) → va_S A s.heap H locs → lv_has ls 5 [(0, .ref (a 30)), (1, .long p0), (3, .int x_8), (4, .int x_9)] → V_1 n_2 I_4 J_5 S_6 L_7 x_8 x_9 → W p l e (headSpec wsJ7_fill_d0a16 rmJ7_fill_d0a16_30).room s m args below meth c H locs 0 0 (MQ below (gQv dC dI (wL a cy n0 n1) (tyL cy) A Φ) args s 0 0 A) (F0 m 6 ls []) := by
    intro n_2
    induction n_2 using Nat.strongRecOn with
    | ind n_2 ihV_1 =>
        intro I_4 J_5 S_6 L_7 x_8 x_9 H locs ls hP hD hS hl h
        have h := hV_1 n_2 I_4 J_5 S_6 L_7 x_8 x_9 h
        refine lv_iload_n hx hb dJ7_fill_d0a16_6 rfl (lv_at hl 2 rfl) ?_
        refine lv_iload hx hb dJ7_fill_d0a16_7 (lv_at hl 3 rfl) ?_
        refine lv_icmp_ge (tgt := 22) hx hb dJ7_fill_d0a16_9 (by decide) (fun hc => ?_) (fun hc => ?_)
        · have h := h.1 hc
          exact grv hx hb hr hlocks hP hK hD hS h dJ7_fill_d0a16_22
        · have h := h.2 hc
          refine lv_aload_n hx hb dJ7_fill_d0a16_12 rfl (lv_at hl 0 rfl) ?_
          refine lv_iload_n hx hb dJ7_fill_d0a16_13 rfl (lv_at hl 2 rfl) ?_
          refine lv_lload_n hx hb dJ7_fill_d0a16_14 rfl (lv_at hl 1 rfl) ?_
          obtain ⟨hi, h⟩ := h
          obtain ⟨J_10, eJ_10⟩ : ∃ z : TJ, z = va_up J_5 30 (vp_updL (J_5 30) (x_8).toNatClampNeg p0) := ⟨_, rfl⟩
          have h := h J_10 eJ_10
          refine va_last hx hb hK hP hD hS 30 25 (wL_at30 _ _ _ _ _ _ _ _) rfl hi dJ7_fill_d0a16_15 (fun H locs hP hD hS => ?_)
          have hP : va_P (dC, dI) vwCl (wL a cy n0 n1 I_4 J_10 S_6 L_7) H := by rw [eJ_10]; exact setP hP (wL_set30 _ _ _ _ _ _ _ _ _)
          have hD : va_D A (wL a cy n0 n1 I_4 J_10 S_6 L_7) := by rw [eJ_10]; exact setD hD (wL_set30 _ _ _ _ _ _ _ _ _)
          obtain ⟨x_11, ex_11⟩ : ∃ z : Int32, z = x_8 + 1 := ⟨_, rfl⟩
          have h := h x_11 ex_11
          refine lv_iinc (v := x_11) (lv' := [(3, .int x_11), (0, .ref (a 30)), (1, .long p0), (4, .int x_9)]) hx hb dJ7_fill_d0a16_16 hl (k := 2) rfl (by rw [ex_11]; rfl) (by decide) rfl (fun ls hl => ?_)
          refine lv_goto (tgt := 6) hx hb dJ7_fill_d0a16_19 (by decide) ?_
          obtain ⟨n_12, hn2, h⟩ := h
          exact ihV_1 n_12 hn2 I_4 J_10 S_6 L_7 x_11 x_9 _ _ _ hP hD hS (lv_sub hl [1, 2, 0, 3] rfl) h
  exact lV_1 n_3 I J S L (0 : Int32) (24 : Int32) _ _ _ hP hD hS (lv_sub hl [2, 3, 1, 0] rfl) h0V_1
def wp_J7_fill_d0a16_31 (n0 n1 : Nat) (I : TI) (J : TJ) (S : TS) (L : TL) (p0 : Int64) (Φ : TI → TJ → TS → TL → Prop) : Prop := ∃ V_1 : Nat → TI → TJ → TS → TL → Int32 → Int32 → Prop, (∃ n_3, V_1 n_3 I J S L (0 : Int32) (24 : Int32)) ∧ ∀ (n_2 : Nat) (I_4 : TI) (J_5 : TJ) (S_6 : TS) (L_7 : TL) (x_8 : Int32) (x_9 : Int32), V_1 n_2 I_4 J_5 S_6 L_7 x_8 x_9 → (((x_9 ≤ x_8) → (Φ I_4 J_5 S_6 L_7)) ∧ ((¬ x_9 ≤ x_8) → ((vp_in x_8 24) ∧ ∀ J_10 : TJ, J_10 = va_up J_5 31 (vp_updL (J_5 31) (x_8).toNatClampNeg p0) → (∀ x_11 : Int32, x_11 = x_8 + 1 → (∃ n_12, n_12 < n_2 ∧ V_1 n_12 I_4 J_10 S_6 L_7 x_11 x_9)))))
abbrev rmJ7_fill_d0a16_31 : Room := { frames := 0, cells := 0, slots := 0, locals := 0 }
set_option maxHeartbeats 4000000 in
set_option maxRecDepth 100000 in
theorem c_J7_fill_d0a16_31 (l : Launch) (dC : Nat → ClassId) (dI : Nat → Nat → Nat) (a : Nat → Nat) (cy : Nat → ClassId) (n0 n1 : Nat) (sz : Nat) (I : TI) (J : TJ) (S : TS) (L : TL) (p0 : Int64) (Φ : TI → TJ → TS → TL → Prop) (h : wp_J7_fill_d0a16_31 n0 n1 I J S L p0 Φ) : Met l yJ7_fill_d0a16 wsJ7_fill_d0a16 rmJ7_fill_d0a16_31 (va_Pc [.ref (a 31), .long p0] (gpre dC dI (wL a cy n0 n1 I J S L) (tyL cy) sz)) (gQv dC dI (wL a cy n0 n1) (tyL cy) (va_A (wL a cy n0 n1 I J S L) sz) Φ) 0 0 (va_A (wL a cy n0 n1 I J S L) sz) := by
  refine Met.ofW (cc := cJ7_fill_d0a16) (maxL := 5) (ret := none) (by decide) rfl ?_
  intro p e s m args below meth c s₁ B hml hv
  obtain ⟨hargs, hsz, hP, hK, hD0, hN⟩ := hv
  have hx := B.exec
  have hb := B.bytes
  have hr := B.returns
  have hts := atoms_spec (ws := wsJ7_fill_d0a16) B.pre
  have hown : s.vm.findClass RJ7 = some m.cls := findClass_of_methodNamed B.named
  have hlocks := B.notSynchronized
  subst hsz
  have hD := hD0.self (sz := s.heap.size)
  generalize hAe : va_A (wL a cy n0 n1 I J S L) s.heap.size = A at hD ⊢
  have hA : ∀ q : Nat, s.heap.size ≤ q → A q := fun q h => by rw [← hAe]; exact Or.inr h
  obtain ⟨H, hH⟩ : ∃ z : Heap, z = s.heap := ⟨_, rfl⟩
  rw [← hH] at hP
  have hS : va_S A s.heap H [] := by rw [hH]; exact va_S.rf
  have hl := lv_entry ([.ref (a 31), .long p0]) (n := 5) (Nat.le_of_ble_eq_true rfl)
  have hE : entryFrame m args 5 = F0 m 0 ((lg_sl ([.ref (a 31), .long p0]) ++ List.replicate (5 - (lg_sl ([.ref (a 31), .long p0])).length) Slot.unset).toArray) [] := by rw [hargs]; exact lg_entry_eq m _ _
  rw [hE, ← hH]
  clear hE
  generalize (lg_sl ([.ref (a 31), .long p0]) ++ List.replicate (5 - (lg_sl ([.ref (a 31), .long p0])).length) Slot.unset).toArray = ls at hl ⊢
  have hl : lv_has ls 5 [(0, .ref (a 31)), (1, .long p0)] := hl
  unfold wp_J7_fill_d0a16_31 at h
  refine lv_iconst (v := 0) hx hb dJ7_fill_d0a16_0 (by decide) ?_
  refine lv_istore_n (lv' := [(3, .int (0 : Int32)), (0, .ref (a 31)), (1, .long p0)]) hx hb dJ7_fill_d0a16_1 rfl hl (by decide) rfl (fun ls hl => ?_)
  refine lv_aload_n hx hb dJ7_fill_d0a16_2 rfl (lv_at hl 1 rfl) ?_
  refine va_alen hx hb hK hP 31 26 (wL_at31 _ _ _ _ _ _ _ _) rfl (v := 24) rfl dJ7_fill_d0a16_3 ?_
  refine lv_istore (lv' := [(4, .int (24 : Int32)), (3, .int (0 : Int32)), (0, .ref (a 31)), (1, .long p0)]) hx hb dJ7_fill_d0a16_4 hl (by decide) rfl (fun ls hl => ?_)
  obtain ⟨V_1, ⟨n_3, h0V_1⟩, hV_1⟩ := h
  have lV_1 : ∀ (n_2 : Nat) (I_4 : TI) (J_5 : TJ) (S_6 : TS) (L_7 : TL) (x_8 : Int32) (x_9 : Int32) (H : Heap) (locs : List Loc) (ls : Array Slot), va_P (dC, dI) vwCl (wL a cy n0 n1 I_4 J_5 S_6 L_7) H → va_D A (wL a cy n0 n1 I_4 J_5 S_6 L_7) → va_S A s.heap H locs → lv_has ls 5 [(0, .ref (a 31)), (1, .long p0), (3, .int x_8), (4, .int x_9)] → V_1 n_2 I_4 J_5 S_6 L_7 x_8 x_9 → W p l e (headSpec wsJ7_fill_d0a16 rmJ7_fill_d0a16_31).room s m args below meth c H locs 0 0 (MQ below (gQv dC dI (wL a cy n0 n1) (tyL cy) A Φ) args s 0 0 A) (F0 m 6 ls []) := by
    intro n_2
    induction n_2 using Nat.strongRecOn with
    | ind n_2 ihV_1 =>
        intro I_4 J_5 S_6 L_7 x_8 x_9 H locs ls hP hD hS hl h
        have h := hV_1 n_2 I_4 J_5 S_6 L_7 x_8 x_9 h
        refine lv_iload_n hx hb dJ7_fill_d0a16_6 rfl (lv_at hl 2 rfl) ?_
        refine lv_iload hx hb dJ7_fill_d0a16_7 (lv_at hl 3 rfl) ?_
        refine lv_icmp_ge (tgt := 22) hx hb dJ7_fill_d0a16_9 (by decide) (fun hc => ?_) (fun hc => ?_)
        · have h := h.1 hc
          exact grv hx hb hr hlocks hP hK hD hS h dJ7_fill_d0a16_22
        · have h := h.2 hc
          refine lv_aload_n hx hb dJ7_fill_d0a16_12 rfl (lv_at hl 0 rfl) ?_
          refine lv_iload_n hx hb dJ7_fill_d0a16_13 rfl (lv_at hl 2 rfl) ?_
          refine lv_lload_n hx hb dJ7_fill_d0a16_14 rfl (lv_at hl 1 rfl) ?_
          obtain ⟨hi, h⟩ := h
          obtain ⟨J_10, eJ_10⟩ : ∃ z : TJ, z = va_up J_5 31 (vp_updL (J_5 31) (x_8).toNatClampNeg p0) := ⟨_, rfl⟩
          have h := h J_10 eJ_10
          refine va_last hx hb hK hP hD hS 31 26 (wL_at31 _ _ _ _ _ _ _ _) rfl hi dJ7_fill_d0a16_15 (fun H locs hP hD hS => ?_)
          have hP : va_P (dC, dI) vwCl (wL a cy n0 n1 I_4 J_10 S_6 L_7) H := by rw [eJ_10]; exact setP hP (wL_set31 _ _ _ _ _ _ _ _ _)
          have hD : va_D A (wL a cy n0 n1 I_4 J_10 S_6 L_7) := by rw [eJ_10]; exact setD hD (wL_set31 _ _ _ _ _ _ _ _ _)
          obtain ⟨x_11, ex_11⟩ : ∃ z : Int32, z = x_8 + 1 := ⟨_, rfl⟩
          have h := h x_11 ex_11
          refine lv_iinc (v := x_11) (lv' := [(3, .int x_11), (0, .ref (a 31)), (1, .long p0), (4, .int x_9)]) hx hb dJ7_fill_d0a16_16 hl (k := 2) rfl (by rw [ex_11]; rfl) (by decide) rfl (fun ls hl => ?_)
          refine lv_goto (tgt := 6) hx hb dJ7_fill_d0a16_19 (by decide) ?_
          obtain ⟨n_12, hn2, h⟩ := h
          exact ihV_1 n_12 hn2 I_4 J_10 S_6 L_7 x_11 x_9 _ _ _ hP hD hS (lv_sub hl [1, 2, 0, 3] rfl) h
  exact lV_1 n_3 I J S L (0 : Int32) (24 : Int32) _ _ _ hP hD hS (lv_sub hl [2, 3, 1, 0] rfl) h0V_1
def wp_J7_fill_d0a16_32 (n0 n1 : Nat) (I : TI) (J : TJ) (S : TS) (L : TL) (p0 : Int64) (Φ : TI → TJ → TS → TL → Prop) : Prop := ∃ V_1 : Nat → TI → TJ → TS → TL → Int32 → Int32 → Prop, (∃ n_3, V_1 n_3 I J S L (0 : Int32) (960 : Int32)) ∧ ∀ (n_2 : Nat) (I_4 : TI) (J_5 : TJ) (S_6 : TS) (L_7 : TL) (x_8 : Int32) (x_9 : Int32), V_1 n_2 I_4 J_5 S_6 L_7 x_8 x_9 → (((x_9 ≤ x_8) → (Φ I_4 J_5 S_6 L_7)) ∧ ((¬ x_9 ≤ x_8) → ((vp_in x_8 960) ∧ ∀ J_10 : TJ, J_10 = va_up J_5 32 (vp_updL (J_5 32) (x_8).toNatClampNeg p0) → (∀ x_11 : Int32, x_11 = x_8 + 1 → (∃ n_12, n_12 < n_2 ∧ V_1 n_12 I_4 J_10 S_6 L_7 x_11 x_9)))))
abbrev rmJ7_fill_d0a16_32 : Room := { frames := 0, cells := 0, slots := 0, locals := 0 }
set_option maxHeartbeats 4000000 in
set_option maxRecDepth 100000 in
theorem c_J7_fill_d0a16_32 (l : Launch) (dC : Nat → ClassId) (dI : Nat → Nat → Nat) (a : Nat → Nat) (cy : Nat → ClassId) (n0 n1 : Nat) (sz : Nat) (I : TI) (J : TJ) (S : TS) (L : TL) (p0 : Int64) (Φ : TI → TJ → TS → TL → Prop) (h : wp_J7_fill_d0a16_32 n0 n1 I J S L p0 Φ) : Met l yJ7_fill_d0a16 wsJ7_fill_d0a16 rmJ7_fill_d0a16_32 (va_Pc [.ref (a 32), .long p0] (gpre dC dI (wL a cy n0 n1 I J S L) (tyL cy) sz)) (gQv dC dI (wL a cy n0 n1) (tyL cy) (va_A (wL a cy n0 n1 I J S L) sz) Φ) 0 0 (va_A (wL a cy n0 n1 I J S L) sz) := by
  refine Met.ofW (cc := cJ7_fill_d0a16) (maxL := 5) (ret := none) (by decide) rfl ?_
  intro p e s m args below meth c s₁ B hml hv
  obtain ⟨hargs, hsz, hP, hK, hD0, hN⟩ := hv
  have hx := B.exec
  have hb := B.bytes
  have hr := B.returns
  have hts := atoms_spec (ws := wsJ7_fill_d0a16) B.pre
  have hown : s.vm.findClass RJ7 = some m.cls := findClass_of_methodNamed B.named
  have hlocks := B.notSynchronized
  subst hsz
  have hD := hD0.self (sz := s.heap.size)
  generalize hAe : va_A (wL a cy n0 n1 I J S L) s.heap.size = A at hD ⊢
  have hA : ∀ q : Nat, s.heap.size ≤ q → A q := fun q h => by rw [← hAe]; exact Or.inr h
  obtain ⟨H, hH⟩ : ∃ z : Heap, z = s.heap := ⟨_, rfl⟩
  rw [← hH] at hP
  have hS : va_S A s.heap H [] := by rw [hH]; exact va_S.rf
  have hl := lv_entry ([.ref (a 32), .long p0]) (n := 5) (Nat.le_of_ble_eq_true rfl)
  have hE : entryFrame m args 5 = F0 m 0 ((lg_sl ([.ref (a 32), .long p0]) ++ List.replicate (5 - (lg_sl ([.ref (a 32), .long p0])).length) Slot.unset).toArray) [] := by rw [hargs]; exact lg_entry_eq m _ _
  rw [hE, ← hH]
  clear hE
  generalize (lg_sl ([.ref (a 32), .long p0]) ++ List.replicate (5 - (lg_sl ([.ref (a 32), .long p0])).length) Slot.unset).toArray = ls at hl ⊢
  have hl : lv_has ls 5 [(0, .ref (a 32)), (1, .long p0)] := hl
  unfold wp_J7_fill_d0a16_32 at h
  refine lv_iconst (v := 0) hx hb dJ7_fill_d0a16_0 (by decide) ?_
  refine lv_istore_n (lv' := [(3, .int (0 : Int32)), (0, .ref (a 32)), (1, .long p0)]) hx hb dJ7_fill_d0a16_1 rfl hl (by decide) rfl (fun ls hl => ?_)
  refine lv_aload_n hx hb dJ7_fill_d0a16_2 rfl (lv_at hl 1 rfl) ?_
  refine va_alen hx hb hK hP 32 27 (wL_at32 _ _ _ _ _ _ _ _) rfl (v := 960) rfl dJ7_fill_d0a16_3 ?_
  refine lv_istore (lv' := [(4, .int (960 : Int32)), (3, .int (0 : Int32)), (0, .ref (a 32)), (1, .long p0)]) hx hb dJ7_fill_d0a16_4 hl (by decide) rfl (fun ls hl => ?_)
  obtain ⟨V_1, ⟨n_3, h0V_1⟩, hV_1⟩ := h
  have lV_1 : ∀ (n_2 : Nat) (I_4 : TI) (J_5 : TJ) (S_6 : TS) (L_7 : TL) (x_8 : Int32) (x_9 : Int32) (H : Heap) (locs : List Loc) (ls : Array Slot), va_P (dC, dI) vwCl (wL a cy n0 n1 I_4 J_5 S_6 L_7) H → va_D A (wL a cy n0 n1 I_4 J_5 S_6 L_7) → va_S A s.heap H locs → lv_has ls 5 [(0, .ref (a 32)), (1, .long p0), (3, .int x_8), (4, .int x_9)] → V_1 n_2 I_4 J_5 S_6 L_7 x_8 x_9 → W p l e (headSpec wsJ7_fill_d0a16 rmJ7_fill_d0a16_32).room s m args below meth c H locs 0 0 (MQ below (gQv dC dI (wL a cy n0 n1) (tyL cy) A Φ) args s 0 0 A) (F0 m 6 ls []) := by
    intro n_2
    induction n_2 using Nat.strongRecOn with
    | ind n_2 ihV_1 =>
        intro I_4 J_5 S_6 L_7 x_8 x_9 H locs ls hP hD hS hl h
        have h := hV_1 n_2 I_4 J_5 S_6 L_7 x_8 x_9 h
        refine lv_iload_n hx hb dJ7_fill_d0a16_6 rfl (lv_at hl 2 rfl) ?_
        refine lv_iload hx hb dJ7_fill_d0a16_7 (lv_at hl 3 rfl) ?_
        refine lv_icmp_ge (tgt := 22) hx hb dJ7_fill_d0a16_9 (by decide) (fun hc => ?_) (fun hc => ?_)
        · have h := h.1 hc
          exact grv hx hb hr hlocks hP hK hD hS h dJ7_fill_d0a16_22
        · have h := h.2 hc
          refine lv_aload_n hx hb dJ7_fill_d0a16_12 rfl (lv_at hl 0 rfl) ?_
          refine lv_iload_n hx hb dJ7_fill_d0a16_13 rfl (lv_at hl 2 rfl) ?_
          refine lv_lload_n hx hb dJ7_fill_d0a16_14 rfl (lv_at hl 1 rfl) ?_
          obtain ⟨hi, h⟩ := h
          obtain ⟨J_10, eJ_10⟩ : ∃ z : TJ, z = va_up J_5 32 (vp_updL (J_5 32) (x_8).toNatClampNeg p0) := ⟨_, rfl⟩
          have h := h J_10 eJ_10
          refine va_last hx hb hK hP hD hS 32 27 (wL_at32 _ _ _ _ _ _ _ _) rfl hi dJ7_fill_d0a16_15 (fun H locs hP hD hS => ?_)
          have hP : va_P (dC, dI) vwCl (wL a cy n0 n1 I_4 J_10 S_6 L_7) H := by rw [eJ_10]; exact setP hP (wL_set32 _ _ _ _ _ _ _ _ _)
          have hD : va_D A (wL a cy n0 n1 I_4 J_10 S_6 L_7) := by rw [eJ_10]; exact setD hD (wL_set32 _ _ _ _ _ _ _ _ _)
          obtain ⟨x_11, ex_11⟩ : ∃ z : Int32, z = x_8 + 1 := ⟨_, rfl⟩
          have h := h x_11 ex_11
          refine lv_iinc (v := x_11) (lv' := [(3, .int x_11), (0, .ref (a 32)), (1, .long p0), (4, .int x_9)]) hx hb dJ7_fill_d0a16_16 hl (k := 2) rfl (by rw [ex_11]; rfl) (by decide) rfl (fun ls hl => ?_)
          refine lv_goto (tgt := 6) hx hb dJ7_fill_d0a16_19 (by decide) ?_
          obtain ⟨n_12, hn2, h⟩ := h
          exact ihV_1 n_12 hn2 I_4 J_10 S_6 L_7 x_11 x_9 _ _ _ hP hD hS (lv_sub hl [1, 2, 0, 3] rfl) h
  exact lV_1 n_3 I J S L (0 : Int32) (960 : Int32) _ _ _ hP hD hS (lv_sub hl [2, 3, 1, 0] rfl) h0V_1
def wp_J7_fill_53178_29 (n0 n1 : Nat) (I : TI) (J : TJ) (S : TS) (L : TL) (p0 : Int32) (Φ : TI → TJ → TS → TL → Prop) : Prop := ∃ V_1 : Nat → TI → TJ → TS → TL → Int32 → Int32 → Prop, (∃ n_3, V_1 n_3 I J S L (0 : Int32) (480 : Int32)) ∧ ∀ (n_2 : Nat) (I_4 : TI) (J_5 : TJ) (S_6 : TS) (L_7 : TL) (x_8 : Int32) (x_9 : Int32), V_1 n_2 I_4 J_5 S_6 L_7 x_8 x_9 → (((x_9 ≤ x_8) → (Φ I_4 J_5 S_6 L_7)) ∧ ((¬ x_9 ≤ x_8) → ((vp_in x_8 480) ∧ ∀ I_10 : TI, I_10 = va_up I_4 29 (upd (I_4 29) (x_8).toNatClampNeg p0) → (∀ x_11 : Int32, x_11 = x_8 + 1 → (∃ n_12, n_12 < n_2 ∧ V_1 n_12 I_10 J_5 S_6 L_7 x_11 x_9)))))
abbrev rmJ7_fill_53178_29 : Room := { frames := 0, cells := 0, slots := 0, locals := 0 }
set_option maxHeartbeats 4000000 in
set_option maxRecDepth 100000 in
theorem c_J7_fill_53178_29 (l : Launch) (dC : Nat → ClassId) (dI : Nat → Nat → Nat) (a : Nat → Nat) (cy : Nat → ClassId) (n0 n1 : Nat) (sz : Nat) (I : TI) (J : TJ) (S : TS) (L : TL) (p0 : Int32) (Φ : TI → TJ → TS → TL → Prop) (h : wp_J7_fill_53178_29 n0 n1 I J S L p0 Φ) : Met l yJ7_fill_53178 wsJ7_fill_53178 rmJ7_fill_53178_29 (va_Pc [.ref (a 29), .int p0] (gpre dC dI (wL a cy n0 n1 I J S L) (tyL cy) sz)) (gQv dC dI (wL a cy n0 n1) (tyL cy) (va_A (wL a cy n0 n1 I J S L) sz) Φ) 0 0 (va_A (wL a cy n0 n1 I J S L) sz) := by
  refine Met.ofW (cc := cJ7_fill_53178) (maxL := 4) (ret := none) (by decide) rfl ?_
  intro p e s m args below meth c s₁ B hml hv
  obtain ⟨hargs, hsz, hP, hK, hD0, hN⟩ := hv
  have hx := B.exec
  have hb := B.bytes
  have hr := B.returns
  have hts := atoms_spec (ws := wsJ7_fill_53178) B.pre
  have hown : s.vm.findClass RJ7 = some m.cls := findClass_of_methodNamed B.named
  have hlocks := B.notSynchronized
  subst hsz
  have hD := hD0.self (sz := s.heap.size)
  generalize hAe : va_A (wL a cy n0 n1 I J S L) s.heap.size = A at hD ⊢
  have hA : ∀ q : Nat, s.heap.size ≤ q → A q := fun q h => by rw [← hAe]; exact Or.inr h
  obtain ⟨H, hH⟩ : ∃ z : Heap, z = s.heap := ⟨_, rfl⟩
  rw [← hH] at hP
  have hS : va_S A s.heap H [] := by rw [hH]; exact va_S.rf
  have hl := lv_entry ([.ref (a 29), .int p0]) (n := 4) (Nat.le_of_ble_eq_true rfl)
  have hE : entryFrame m args 4 = F0 m 0 ((lg_sl ([.ref (a 29), .int p0]) ++ List.replicate (4 - (lg_sl ([.ref (a 29), .int p0])).length) Slot.unset).toArray) [] := by rw [hargs]; exact lg_entry_eq m _ _
  rw [hE, ← hH]
  clear hE
  generalize (lg_sl ([.ref (a 29), .int p0]) ++ List.replicate (4 - (lg_sl ([.ref (a 29), .int p0])).length) Slot.unset).toArray = ls at hl ⊢
  have hl : lv_has ls 4 [(0, .ref (a 29)), (1, .int p0)] := hl
  unfold wp_J7_fill_53178_29 at h
  refine lv_iconst (v := 0) hx hb dJ7_fill_53178_0 (by decide) ?_
  refine lv_istore_n (lv' := [(2, .int (0 : Int32)), (0, .ref (a 29)), (1, .int p0)]) hx hb dJ7_fill_53178_1 rfl hl (by decide) rfl (fun ls hl => ?_)
  refine lv_aload_n hx hb dJ7_fill_53178_2 rfl (lv_at hl 1 rfl) ?_
  refine va_alen hx hb hK hP 29 24 (wL_at29 _ _ _ _ _ _ _ _) rfl (v := 480) rfl dJ7_fill_53178_3 ?_
  refine lv_istore_n (lv' := [(3, .int (480 : Int32)), (2, .int (0 : Int32)), (0, .ref (a 29)), (1, .int p0)]) hx hb dJ7_fill_53178_4 rfl hl (by decide) rfl (fun ls hl => ?_)
  obtain ⟨V_1, ⟨n_3, h0V_1⟩, hV_1⟩ := h
  have lV_1 : ∀ (n_2 : Nat) (I_4 : TI) (J_5 : TJ) (S_6 : TS) (L_7 : TL) (x_8 : Int32) (x_9 : Int32) (H : Heap) (locs : List Loc) (ls : Array Slot), va_P (dC, dI) vwCl (wL a cy n0 n1 I_4 J_5 S_6 L_7) H → va_D A (wL a cy n0 n1 I_4 J_5 S_6 L_7) → va_S A s.heap H locs → lv_has ls 4 [(0, .ref (a 29)), (1, .int p0), (2, .int x_8), (3, .int x_9)] → V_1 n_2 I_4 J_5 S_6 L_7 x_8 x_9 → W p l e (headSpec wsJ7_fill_53178 rmJ7_fill_53178_29).room s m args below meth c H locs 0 0 (MQ below (gQv dC dI (wL a cy n0 n1) (tyL cy) A Φ) args s 0 0 A) (F0 m 5 ls []) := by
    intro n_2
    induction n_2 using Nat.strongRecOn with
    | ind n_2 ihV_1 =>
        intro I_4 J_5 S_6 L_7 x_8 x_9 H locs ls hP hD hS hl h
        have h := hV_1 n_2 I_4 J_5 S_6 L_7 x_8 x_9 h
        refine lv_iload_n hx hb dJ7_fill_53178_5 rfl (lv_at hl 2 rfl) ?_
        refine lv_iload_n hx hb dJ7_fill_53178_6 rfl (lv_at hl 3 rfl) ?_
        refine lv_icmp_ge (tgt := 20) hx hb dJ7_fill_53178_7 (by decide) (fun hc => ?_) (fun hc => ?_)
        · have h := h.1 hc
          exact grv hx hb hr hlocks hP hK hD hS h dJ7_fill_53178_20
        · have h := h.2 hc
          refine lv_aload_n hx hb dJ7_fill_53178_10 rfl (lv_at hl 0 rfl) ?_
          refine lv_iload_n hx hb dJ7_fill_53178_11 rfl (lv_at hl 2 rfl) ?_
          refine lv_iload_n hx hb dJ7_fill_53178_12 rfl (lv_at hl 1 rfl) ?_
          obtain ⟨hi, h⟩ := h
          obtain ⟨I_10, eI_10⟩ : ∃ z : TI, z = va_up I_4 29 (upd (I_4 29) (x_8).toNatClampNeg p0) := ⟨_, rfl⟩
          have h := h I_10 eI_10
          refine va_iast hx hb hK hP hD hS 29 24 (wL_at29 _ _ _ _ _ _ _ _) rfl hi dJ7_fill_53178_13 (fun H locs hP hD hS => ?_)
          have hP : va_P (dC, dI) vwCl (wL a cy n0 n1 I_10 J_5 S_6 L_7) H := by rw [eI_10]; exact setP hP (wL_set29 _ _ _ _ _ _ _ _ _)
          have hD : va_D A (wL a cy n0 n1 I_10 J_5 S_6 L_7) := by rw [eI_10]; exact setD hD (wL_set29 _ _ _ _ _ _ _ _ _)
          obtain ⟨x_11, ex_11⟩ : ∃ z : Int32, z = x_8 + 1 := ⟨_, rfl⟩
          have h := h x_11 ex_11
          refine lv_iinc (v := x_11) (lv' := [(2, .int x_11), (0, .ref (a 29)), (1, .int p0), (3, .int x_9)]) hx hb dJ7_fill_53178_14 hl (k := 2) rfl (by rw [ex_11]; rfl) (by decide) rfl (fun ls hl => ?_)
          refine lv_goto (tgt := 5) hx hb dJ7_fill_53178_17 (by decide) ?_
          obtain ⟨n_12, hn2, h⟩ := h
          exact ihV_1 n_12 hn2 I_10 J_5 S_6 L_7 x_11 x_9 _ _ _ hP hD hS (lv_sub hl [1, 2, 0, 3] rfl) h
  exact lV_1 n_3 I J S L (0 : Int32) (480 : Int32) _ _ _ hP hD hS (lv_sub hl [2, 3, 1, 0] rfl) h0V_1
def wp_X2_clear (n0 n1 : Nat) (I : TI) (J : TJ) (S : TS) (L : TL) (Φ : TI → TJ → TS → TL → Prop) : Prop := wp_J7_fill_d0a16_26 n0 n1 I J S L (0 : Int64) (fun (I_1 : TI) (J_2 : TJ) (S_3 : TS) (L_4 : TL) => (wp_J7_fill_d0a16_27 n0 n1 I_1 J_2 S_3 L_4 (0 : Int64) (fun (I_5 : TI) (J_6 : TJ) (S_7 : TS) (L_8 : TL) => (wp_J7_fill_d0a16_28 n0 n1 I_5 J_6 S_7 L_8 (0 : Int64) (fun (I_9 : TI) (J_10 : TJ) (S_11 : TS) (L_12 : TL) => (wp_J7_fill_53178_29 n0 n1 I_9 J_10 S_11 L_12 (0 : Int32) (fun (I_13 : TI) (J_14 : TJ) (S_15 : TS) (L_16 : TL) => (wp_J7_fill_d0a16_30 n0 n1 I_13 J_14 S_15 L_16 (0 : Int64) (fun (I_17 : TI) (J_18 : TJ) (S_19 : TS) (L_20 : TL) => (wp_J7_fill_d0a16_31 n0 n1 I_17 J_18 S_19 L_20 (0 : Int64) (fun (I_21 : TI) (J_22 : TJ) (S_23 : TS) (L_24 : TL) => (wp_J7_fill_d0a16_32 n0 n1 I_21 J_22 S_23 L_24 (0 : Int64) (fun (I_25 : TI) (J_26 : TJ) (S_27 : TS) (L_28 : TL) => (∀ L_29 : TL, L_29 = va_up L_28 1 (0 : Int64) → (∀ S_30 : TS, S_30 = va_up S_27 3 (0 : Int32) → (∀ S_31 : TS, S_31 = va_up S_30 4 (0 : Int32) → (Φ I_25 J_26 S_31 L_29)))))))))))))))))
theorem nX2_clear_X2 : ∀ w ∈ wsX20, w ∈ wsX2_clear := fun _ h => List.mem_cons_of_mem _ (List.mem_append_right _ h)
theorem kX2_clear_10 : Cond.fieldLink RX2 82 "SongOffice$Ledger" "sentTaken" "I" ∈ wsX2_clear := List.mem_of_getElem? (i := 10) rfl
theorem kX2_clear_9 : Cond.fieldLink RX2 78 "SongOffice$Ledger" "closed" "I" ∈ wsX2_clear := List.mem_of_getElem? (i := 9) rfl
theorem kX2_clear_8 : Cond.fieldLink RX2 74 "SongOffice$Ledger" "cameIn" "J" ∈ wsX2_clear := List.mem_of_getElem? (i := 8) rfl
theorem kX2_clear_7 : Cond.fieldLink RX2 31 "SongOffice$Ledger" "bags" "[J" ∈ wsX2_clear := List.mem_of_getElem? (i := 7) rfl
theorem kX2_clear_6 : Cond.fieldLink RX2 28 "SongOffice$Ledger" "came" "[J" ∈ wsX2_clear := List.mem_of_getElem? (i := 6) rfl
theorem kX2_clear_5 : Cond.fieldLink RX2 25 "SongOffice$Ledger" "kept" "[J" ∈ wsX2_clear := List.mem_of_getElem? (i := 5) rfl
theorem kX2_clear_4 : Cond.fieldLink RX2 21 "SongOffice$Ledger" "dues" "[I" ∈ wsX2_clear := List.mem_of_getElem? (i := 4) rfl
theorem kX2_clear_3 : Cond.fieldLink RX2 18 "SongOffice$Ledger" "filled" "[J" ∈ wsX2_clear := List.mem_of_getElem? (i := 3) rfl
theorem kX2_clear_2 : Cond.fieldLink RX2 15 "SongOffice$Ledger" "debt" "[J" ∈ wsX2_clear := List.mem_of_getElem? (i := 2) rfl
theorem kX2_clear_1 : Cond.fieldLink RX2 9 "SongOffice$Ledger" "purse" "[J" ∈ wsX2_clear := List.mem_of_getElem? (i := 1) rfl
abbrev rmX2_clear : Room := { frames := 1, cells := 0, slots := 0, locals := 24 }
set_option maxHeartbeats 4000000 in
set_option maxRecDepth 100000 in
theorem c_X2_clear (l : Launch) (dC : Nat → ClassId) (dI : Nat → Nat → Nat) (a : Nat → Nat) (cy : Nat → ClassId) (n0 n1 : Nat) (sz : Nat) (I : TI) (J : TJ) (S : TS) (L : TL) (Φ : TI → TJ → TS → TL → Prop) (h : wp_X2_clear n0 n1 I J S L Φ) : Met l yX2_clear wsX2_clear rmX2_clear (va_Pc [.ref (a 25)] (gpre dC dI (wL a cy n0 n1 I J S L) (tyL cy) sz)) (gQv dC dI (wL a cy n0 n1) (tyL cy) (va_A (wL a cy n0 n1 I J S L) sz) Φ) 0 0 (va_A (wL a cy n0 n1 I J S L) sz) := by
  refine Met.ofW (cc := cX2_clear) (maxL := 1) (ret := none) (by decide) rfl ?_
  intro p e s m args below meth c s₁ B hml hv
  obtain ⟨hargs, hsz, hP, hK, hD0, hN⟩ := hv
  have hx := B.exec
  have hb := B.bytes
  have hr := B.returns
  have hts := atoms_spec (ws := wsX2_clear) B.pre
  have hown : s.vm.findClass RX2 = some m.cls := findClass_of_methodNamed B.named
  have hlocks := B.notSynchronized
  subst hsz
  have hD := hD0.self (sz := s.heap.size)
  generalize hAe : va_A (wL a cy n0 n1 I J S L) s.heap.size = A at hD ⊢
  have hA : ∀ q : Nat, s.heap.size ≤ q → A q := fun q h => by rw [← hAe]; exact Or.inr h
  obtain ⟨H, hH⟩ : ∃ z : Heap, z = s.heap := ⟨_, rfl⟩
  rw [← hH] at hP
  have hS : va_S A s.heap H [] := by rw [hH]; exact va_S.rf
  have hl := lv_entry ([.ref (a 25)]) (n := 1) (Nat.le_of_ble_eq_true rfl)
  have hE : entryFrame m args 1 = F0 m 0 ((lg_sl ([.ref (a 25)]) ++ List.replicate (1 - (lg_sl ([.ref (a 25)])).length) Slot.unset).toArray) [] := by rw [hargs]; exact lg_entry_eq m _ _
  rw [hE, ← hH]
  clear hE
  generalize (lg_sl ([.ref (a 25)]) ++ List.replicate (1 - (lg_sl ([.ref (a 25)])).length) Slot.unset).toArray = ls at hl ⊢
  have hl : lv_has ls 1 [(0, .ref (a 25))] := hl
  unfold wp_X2_clear at h
  refine lv_aload_n hx hb dX2_clear_0 rfl (lv_at hl 0 rfl) ?_
  refine va_get (D := (dC, dI)) (ci := 2) (v := .ref (a 26)) (C := RX2) (T := TX2) (N := 16) hx hb hts nX2_clear_X2 hown hK hP 25 (wL_at25 _ _ _ _ _ _ _ _) rfl 0 (by decide) (hts (.fieldLink RX2 9 "SongOffice$Ledger" "purse" "[J") kX2_clear_1) (fun _ h9 => h9) rfl dX2_clear_1 ?_
  refine lv_lconst (v := 0) hx hb dX2_clear_4 (by decide) ?_
  refine gcallv (va_runS (As := [.ref (a 26), .long (0 : Int64)]) (rest := []) ⟨hx, hb, hml, hown, hts⟩ (c_J7_fill_d0a16_26 l dC dI a cy n0 n1 H.size I J S L (0 : Int64) _ h) (va_cwS 2 hts gX2_clear_J7_fill_d0a16 rfl rfl rfl (by decide +kernel) ⟨(Nat.le_of_ble_eq_true rfl), (Nat.le_of_ble_eq_true rfl)⟩) (g_pS hP hK hD hN [.ref (a 26), .long (0 : Int64)]) rfl rfl hl.1 rfl (lv_room (Nat.le_of_ble_eq_true rfl)) dX2_clear_5 ⟨(Nat.le_of_ble_eq_true rfl), (Nat.le_of_ble_eq_true rfl)⟩) hS hA hD (fun I_1 J_2 S_3 L_4 H locs hP hD hS h => ?_)
  refine lv_aload_n hx hb dX2_clear_8 rfl (lv_at hl 0 rfl) ?_
  refine va_get (D := (dC, dI)) (ci := 2) (v := .ref (a 27)) (C := RX2) (T := TX2) (N := 16) hx hb hts nX2_clear_X2 hown hK hP 25 (wL_at25 _ _ _ _ _ _ _ _) rfl 1 (by decide) (hts (.fieldLink RX2 15 "SongOffice$Ledger" "debt" "[J") kX2_clear_2) (fun _ h9 => h9) rfl dX2_clear_9 ?_
  refine lv_lconst (v := 0) hx hb dX2_clear_12 (by decide) ?_
  refine gcallv (va_runS (As := [.ref (a 27), .long (0 : Int64)]) (rest := []) ⟨hx, hb, hml, hown, hts⟩ (c_J7_fill_d0a16_27 l dC dI a cy n0 n1 H.size I_1 J_2 S_3 L_4 (0 : Int64) _ h) (va_cwS 2 hts gX2_clear_J7_fill_d0a16 rfl rfl rfl (by decide +kernel) ⟨(Nat.le_of_ble_eq_true rfl), (Nat.le_of_ble_eq_true rfl)⟩) (g_pS hP hK hD hN [.ref (a 27), .long (0 : Int64)]) rfl rfl hl.1 rfl (lv_room (Nat.le_of_ble_eq_true rfl)) dX2_clear_13 ⟨(Nat.le_of_ble_eq_true rfl), (Nat.le_of_ble_eq_true rfl)⟩) hS hA hD (fun I_5 J_6 S_7 L_8 H locs hP hD hS h => ?_)
  refine lv_aload_n hx hb dX2_clear_16 rfl (lv_at hl 0 rfl) ?_
  refine va_get (D := (dC, dI)) (ci := 2) (v := .ref (a 28)) (C := RX2) (T := TX2) (N := 16) hx hb hts nX2_clear_X2 hown hK hP 25 (wL_at25 _ _ _ _ _ _ _ _) rfl 2 (by decide) (hts (.fieldLink RX2 18 "SongOffice$Ledger" "filled" "[J") kX2_clear_3) (fun _ h9 => h9) rfl dX2_clear_17 ?_
  refine lv_lconst (v := 0) hx hb dX2_clear_20 (by decide) ?_
  refine gcallv (va_runS (As := [.ref (a 28), .long (0 : Int64)]) (rest := []) ⟨hx, hb, hml, hown, hts⟩ (c_J7_fill_d0a16_28 l dC dI a cy n0 n1 H.size I_5 J_6 S_7 L_8 (0 : Int64) _ h) (va_cwS 2 hts gX2_clear_J7_fill_d0a16 rfl rfl rfl (by decide +kernel) ⟨(Nat.le_of_ble_eq_true rfl), (Nat.le_of_ble_eq_true rfl)⟩) (g_pS hP hK hD hN [.ref (a 28), .long (0 : Int64)]) rfl rfl hl.1 rfl (lv_room (Nat.le_of_ble_eq_true rfl)) dX2_clear_21 ⟨(Nat.le_of_ble_eq_true rfl), (Nat.le_of_ble_eq_true rfl)⟩) hS hA hD (fun I_9 J_10 S_11 L_12 H locs hP hD hS h => ?_)
  refine lv_aload_n hx hb dX2_clear_24 rfl (lv_at hl 0 rfl) ?_
  refine va_get (D := (dC, dI)) (ci := 2) (v := .ref (a 29)) (C := RX2) (T := TX2) (N := 16) hx hb hts nX2_clear_X2 hown hK hP 25 (wL_at25 _ _ _ _ _ _ _ _) rfl 3 (by decide) (hts (.fieldLink RX2 21 "SongOffice$Ledger" "dues" "[I") kX2_clear_4) (fun _ h9 => h9) rfl dX2_clear_25 ?_
  refine lv_iconst (v := 0) hx hb dX2_clear_28 (by decide) ?_
  refine gcallv (va_runS (As := [.ref (a 29), .int (0 : Int32)]) (rest := []) ⟨hx, hb, hml, hown, hts⟩ (c_J7_fill_53178_29 l dC dI a cy n0 n1 H.size I_9 J_10 S_11 L_12 (0 : Int32) _ h) (va_cwS 2 hts gX2_clear_J7_fill_53178 rfl rfl rfl (by decide +kernel) ⟨(Nat.le_of_ble_eq_true rfl), (Nat.le_of_ble_eq_true rfl)⟩) (g_pS hP hK hD hN [.ref (a 29), .int (0 : Int32)]) rfl rfl hl.1 rfl (lv_room (Nat.le_of_ble_eq_true rfl)) dX2_clear_29 ⟨(Nat.le_of_ble_eq_true rfl), (Nat.le_of_ble_eq_true rfl)⟩) hS hA hD (fun I_13 J_14 S_15 L_16 H locs hP hD hS h => ?_)
  refine lv_aload_n hx hb dX2_clear_32 rfl (lv_at hl 0 rfl) ?_
  refine va_get (D := (dC, dI)) (ci := 2) (v := .ref (a 30)) (C := RX2) (T := TX2) (N := 16) hx hb hts nX2_clear_X2 hown hK hP 25 (wL_at25 _ _ _ _ _ _ _ _) rfl 4 (by decide) (hts (.fieldLink RX2 25 "SongOffice$Ledger" "kept" "[J") kX2_clear_5) (fun _ h9 => h9) rfl dX2_clear_33 ?_
  refine lv_lconst (v := 0) hx hb dX2_clear_36 (by decide) ?_
  refine gcallv (va_runS (As := [.ref (a 30), .long (0 : Int64)]) (rest := []) ⟨hx, hb, hml, hown, hts⟩ (c_J7_fill_d0a16_30 l dC dI a cy n0 n1 H.size I_13 J_14 S_15 L_16 (0 : Int64) _ h) (va_cwS 2 hts gX2_clear_J7_fill_d0a16 rfl rfl rfl (by decide +kernel) ⟨(Nat.le_of_ble_eq_true rfl), (Nat.le_of_ble_eq_true rfl)⟩) (g_pS hP hK hD hN [.ref (a 30), .long (0 : Int64)]) rfl rfl hl.1 rfl (lv_room (Nat.le_of_ble_eq_true rfl)) dX2_clear_37 ⟨(Nat.le_of_ble_eq_true rfl), (Nat.le_of_ble_eq_true rfl)⟩) hS hA hD (fun I_17 J_18 S_19 L_20 H locs hP hD hS h => ?_)
  refine lv_aload_n hx hb dX2_clear_40 rfl (lv_at hl 0 rfl) ?_
  refine va_get (D := (dC, dI)) (ci := 2) (v := .ref (a 31)) (C := RX2) (T := TX2) (N := 16) hx hb hts nX2_clear_X2 hown hK hP 25 (wL_at25 _ _ _ _ _ _ _ _) rfl 5 (by decide) (hts (.fieldLink RX2 28 "SongOffice$Ledger" "came" "[J") kX2_clear_6) (fun _ h9 => h9) rfl dX2_clear_41 ?_
  refine lv_lconst (v := 0) hx hb dX2_clear_44 (by decide) ?_
  refine gcallv (va_runS (As := [.ref (a 31), .long (0 : Int64)]) (rest := []) ⟨hx, hb, hml, hown, hts⟩ (c_J7_fill_d0a16_31 l dC dI a cy n0 n1 H.size I_17 J_18 S_19 L_20 (0 : Int64) _ h) (va_cwS 2 hts gX2_clear_J7_fill_d0a16 rfl rfl rfl (by decide +kernel) ⟨(Nat.le_of_ble_eq_true rfl), (Nat.le_of_ble_eq_true rfl)⟩) (g_pS hP hK hD hN [.ref (a 31), .long (0 : Int64)]) rfl rfl hl.1 rfl (lv_room (Nat.le_of_ble_eq_true rfl)) dX2_clear_45 ⟨(Nat.le_of_ble_eq_true rfl), (Nat.le_of_ble_eq_true rfl)⟩) hS hA hD (fun I_21 J_22 S_23 L_24 H locs hP hD hS h => ?_)
  refine lv_aload_n hx hb dX2_clear_48 rfl (lv_at hl 0 rfl) ?_
  refine va_get (D := (dC, dI)) (ci := 2) (v := .ref (a 32)) (C := RX2) (T := TX2) (N := 16) hx hb hts nX2_clear_X2 hown hK hP 25 (wL_at25 _ _ _ _ _ _ _ _) rfl 6 (by decide) (hts (.fieldLink RX2 31 "SongOffice$Ledger" "bags" "[J") kX2_clear_7) (fun _ h9 => h9) rfl dX2_clear_49 ?_
  refine lv_lconst (v := 0) hx hb dX2_clear_52 (by decide) ?_
  refine gcallv (va_runS (As := [.ref (a 32), .long (0 : Int64)]) (rest := []) ⟨hx, hb, hml, hown, hts⟩ (c_J7_fill_d0a16_32 l dC dI a cy n0 n1 H.size I_21 J_22 S_23 L_24 (0 : Int64) _ h) (va_cwS 2 hts gX2_clear_J7_fill_d0a16 rfl rfl rfl (by decide +kernel) ⟨(Nat.le_of_ble_eq_true rfl), (Nat.le_of_ble_eq_true rfl)⟩) (g_pS hP hK hD hN [.ref (a 32), .long (0 : Int64)]) rfl rfl hl.1 rfl (lv_room (Nat.le_of_ble_eq_true rfl)) dX2_clear_53 ⟨(Nat.le_of_ble_eq_true rfl), (Nat.le_of_ble_eq_true rfl)⟩) hS hA hD (fun I_25 J_26 S_27 L_28 H locs hP hD hS h => ?_)
  refine lv_aload_n hx hb dX2_clear_56 rfl (lv_at hl 0 rfl) ?_
  refine lv_lconst (v := 0) hx hb dX2_clear_57 (by decide) ?_
  obtain ⟨L_29, eL_29⟩ : ∃ z : TL, z = va_up L_28 1 (0 : Int64) := ⟨_, rfl⟩
  have h := h L_29 eL_29
  refine va_put (D := (dC, dI)) (ci := 2) (v := .long (0 : Int64)) (ty := .long) (C := RX2) (T := TX2) (N := 16) hx hb hts nX2_clear_X2 tyX2 tyX2_ok nmX2 hown hK hP hD hS 25 (wL_at25 _ _ _ _ _ _ _ _) rfl 8 (by decide) (hts (.fieldLink RX2 74 "SongOffice$Ledger" "cameIn" "J") kX2_clear_8) (fun _ h9 => h9) rfl (by decide +kernel) rfl rfl (Nat.le_of_ble_eq_true rfl) dX2_clear_58 (fun H locs hP hD hS => ?_)
  have hP : va_P (dC, dI) vwCl (wL a cy n0 n1 I_25 J_26 S_27 L_29) H := by rw [eL_29]; exact setP hP (wL_setL1 _ _ _ _ _ _ _ _ _)
  have hD : va_D A (wL a cy n0 n1 I_25 J_26 S_27 L_29) := by rw [eL_29]; exact setD hD (wL_setL1 _ _ _ _ _ _ _ _ _)
  refine lv_aload_n hx hb dX2_clear_61 rfl (lv_at hl 0 rfl) ?_
  refine lv_iconst (v := 0) hx hb dX2_clear_62 (by decide) ?_
  obtain ⟨S_30, eS_30⟩ : ∃ z : TS, z = va_up S_27 3 (0 : Int32) := ⟨_, rfl⟩
  have h := h S_30 eS_30
  refine va_put (D := (dC, dI)) (ci := 2) (v := .int (0 : Int32)) (ty := .int) (C := RX2) (T := TX2) (N := 16) hx hb hts nX2_clear_X2 tyX2 tyX2_ok nmX2 hown hK hP hD hS 25 (wL_at25 _ _ _ _ _ _ _ _) rfl 10 (by decide) (hts (.fieldLink RX2 78 "SongOffice$Ledger" "closed" "I") kX2_clear_9) (fun _ h9 => h9) rfl (by decide +kernel) rfl rfl (Nat.le_of_ble_eq_true rfl) dX2_clear_63 (fun H locs hP hD hS => ?_)
  have hP : va_P (dC, dI) vwCl (wL a cy n0 n1 I_25 J_26 S_30 L_29) H := by rw [eS_30]; exact setP hP (wL_setS3 _ _ _ _ _ _ _ _ _)
  have hD : va_D A (wL a cy n0 n1 I_25 J_26 S_30 L_29) := by rw [eS_30]; exact setD hD (wL_setS3 _ _ _ _ _ _ _ _ _)
  refine lv_aload_n hx hb dX2_clear_66 rfl (lv_at hl 0 rfl) ?_
  refine lv_iconst (v := 0) hx hb dX2_clear_67 (by decide) ?_
  obtain ⟨S_31, eS_31⟩ : ∃ z : TS, z = va_up S_30 4 (0 : Int32) := ⟨_, rfl⟩
  have h := h S_31 eS_31
  refine va_put (D := (dC, dI)) (ci := 2) (v := .int (0 : Int32)) (ty := .int) (C := RX2) (T := TX2) (N := 16) hx hb hts nX2_clear_X2 tyX2 tyX2_ok nmX2 hown hK hP hD hS 25 (wL_at25 _ _ _ _ _ _ _ _) rfl 11 (by decide) (hts (.fieldLink RX2 82 "SongOffice$Ledger" "sentTaken" "I") kX2_clear_10) (fun _ h9 => h9) rfl (by decide +kernel) rfl rfl (Nat.le_of_ble_eq_true rfl) dX2_clear_68 (fun H locs hP hD hS => ?_)
  have hP : va_P (dC, dI) vwCl (wL a cy n0 n1 I_25 J_26 S_31 L_29) H := by rw [eS_31]; exact setP hP (wL_setS4 _ _ _ _ _ _ _ _ _)
  have hD : va_D A (wL a cy n0 n1 I_25 J_26 S_31 L_29) := by rw [eS_31]; exact setD hD (wL_setS4 _ _ _ _ _ _ _ _ _)
  exact grv hx hb hr hlocks hP hK hD hS h dX2_clear_71
def wp_X2_clear_p (n0 n1 : Nat) (I : TI) (J : TJ) (S : TS) (L : TL) (Φ : TI → TJ → TS → TL → Prop) : Prop := wp_X2_clear n1 n0 (fun k => I (pO k)) (fun k => J (pO k)) (fun k => S (pS k)) (fun k => L (pL k)) (fun I J S L => Φ (fun k => I (pO k)) (fun k => J (pO k)) (fun k => S (pS k)) (fun k => L (pL k)))
set_option maxHeartbeats 1000000 in
theorem c_X2_clear_p (l : Launch) (dC : Nat → ClassId) (dI : Nat → Nat → Nat) (a : Nat → Nat) (cy : Nat → ClassId) (n0 n1 : Nat) (sz : Nat) (I : TI) (J : TJ) (S : TS) (L : TL) (Φ : TI → TJ → TS → TL → Prop) (h : wp_X2_clear_p n0 n1 I J S L Φ) : Met l yX2_clear wsX2_clear rmX2_clear (va_Pc [.ref (a 39)] (gpre dC dI (wL a cy n0 n1 I J S L) (tyL cy) sz)) (gQv dC dI (wL a cy n0 n1) (tyL cy) (va_A (wL a cy n0 n1 I J S L) sz) Φ) 0 0 (va_A (wL a cy n0 n1 I J S L) sz) :=
  met_perm_v prL prT (by decide) (c_X2_clear l dC dI (fun k => a (pO k)) (fun k => cy (pO k)) n1 n0 sz (fun k => I (pO k)) (fun k => J (pO k)) (fun k => S (pS k)) (fun k => L (pL k)) _ h) (wL_perm a cy n0 n1 I J S L) (tyL_perm cy) (wL_permB a cy n0 n1) (tyL_permB cy)
def wp_X2_clear_Op (n0 n1 : Nat) (I : TI) (J : TJ) (S : TS) (L : TL) (Φ : TI → TJ → TS → TL → Prop) : Prop := wp_X2_clear_p n0 n1 I J S L (fun I1 J1 S1 L1 => Φ I1 J1 (va_up S1 0 (S 0)) L1)
set_option maxHeartbeats 1000000 in
theorem c_X2_clear_Op (l : Launch) (dC : Nat → ClassId) (dI : Nat → Nat → Nat) (a : Nat → Nat) (cy : Nat → ClassId) (n0 n1 : Nat) (sz : Nat) (I : TI) (J : TJ) (S : TS) (L : TL) (Φ : TI → TJ → TS → TL → Prop) (h : wp_X2_clear_Op n0 n1 I J S L Φ) : Met l yX2_clear wsX2_clear rmX2_clear (va_Pc [.ref (a 39)] (gpre dC dI (wO a cy n0 n1 I J S L) (tyL cy) sz)) (gQv dC dI (wO a cy n0 n1) (tyL cy) (va_A (wO a cy n0 n1 I J S L) sz) Φ) 0 0 (va_A (wO a cy n0 n1 I J S L) sz) :=
  met_cons_v (Wd := wL a cy n0 n1) (c_X2_clear_p l dC dI a cy n0 n1 sz I J S L _ h) (wO_cons a cy n0 n1 (S 0))
def wp_X2_lastDay (n0 n1 : Nat) (I : TI) (J : TJ) (S : TS) (L : TL) (Φ : Int32 → TI → TJ → TS → TL → Prop) : Prop := Φ ((((S 3) * (90 : Int32)) + (90 : Int32)) - (1 : Int32)) I J S L
theorem nX2_lastDay_X2 : ∀ w ∈ wsX20, w ∈ wsX2_lastDay := fun _ h => List.mem_cons_of_mem _ (List.mem_append_right _ h)
theorem kX2_lastDay_1 : Cond.fieldLink RX2 78 "SongOffice$Ledger" "closed" "I" ∈ wsX2_lastDay := List.mem_of_getElem? (i := 1) rfl
abbrev rmX2_lastDay : Room := { frames := 0, cells := 0, slots := 0, locals := 0 }
set_option maxHeartbeats 4000000 in
set_option maxRecDepth 100000 in
theorem c_X2_lastDay (l : Launch) (dC : Nat → ClassId) (dI : Nat → Nat → Nat) (a : Nat → Nat) (cy : Nat → ClassId) (n0 n1 : Nat) (sz : Nat) (I : TI) (J : TJ) (S : TS) (L : TL) (Φ : Int32 → TI → TJ → TS → TL → Prop) (h : wp_X2_lastDay n0 n1 I J S L Φ) : Met l yX2_lastDay wsX2_lastDay rmX2_lastDay (va_Pc [.ref (a 25)] (gpre dC dI (wL a cy n0 n1 I J S L) (tyL cy) sz)) (gQi dC dI (wL a cy n0 n1) (tyL cy) (va_A (wL a cy n0 n1 I J S L) sz) Φ) 0 0 (va_A (wL a cy n0 n1 I J S L) sz) := by
  refine Met.ofW (cc := cX2_lastDay) (maxL := 1) (ret := (some .int)) (by decide) rfl ?_
  intro p e s m args below meth c s₁ B hml hv
  obtain ⟨hargs, hsz, hP, hK, hD0, hN⟩ := hv
  have hx := B.exec
  have hb := B.bytes
  have hr := B.returns
  have hts := atoms_spec (ws := wsX2_lastDay) B.pre
  have hown : s.vm.findClass RX2 = some m.cls := findClass_of_methodNamed B.named
  have hlocks := B.notSynchronized
  subst hsz
  have hD := hD0.self (sz := s.heap.size)
  generalize hAe : va_A (wL a cy n0 n1 I J S L) s.heap.size = A at hD ⊢
  have hA : ∀ q : Nat, s.heap.size ≤ q → A q := fun q h => by rw [← hAe]; exact Or.inr h
  obtain ⟨H, hH⟩ : ∃ z : Heap, z = s.heap := ⟨_, rfl⟩
  rw [← hH] at hP
  have hS : va_S A s.heap H [] := by rw [hH]; exact va_S.rf
  have hl := lv_entry ([.ref (a 25)]) (n := 1) (Nat.le_of_ble_eq_true rfl)
  have hE : entryFrame m args 1 = F0 m 0 ((lg_sl ([.ref (a 25)]) ++ List.replicate (1 - (lg_sl ([.ref (a 25)])).length) Slot.unset).toArray) [] := by rw [hargs]; exact lg_entry_eq m _ _
  rw [hE, ← hH]
  clear hE
  generalize (lg_sl ([.ref (a 25)]) ++ List.replicate (1 - (lg_sl ([.ref (a 25)])).length) Slot.unset).toArray = ls at hl ⊢
  have hl : lv_has ls 1 [(0, .ref (a 25))] := hl
  unfold wp_X2_lastDay at h
  refine lv_aload_n hx hb dX2_lastDay_0 rfl (lv_at hl 0 rfl) ?_
  refine va_get (D := (dC, dI)) (ci := 2) (v := .int (S 3)) (C := RX2) (T := TX2) (N := 16) hx hb hts nX2_lastDay_X2 hown hK hP 25 (wL_at25 _ _ _ _ _ _ _ _) rfl 10 (by decide) (hts (.fieldLink RX2 78 "SongOffice$Ledger" "closed" "I") kX2_lastDay_1) (fun _ h9 => h9) rfl dX2_lastDay_1 ?_
  refine lv_bipush (v := 90) hx hb dX2_lastDay_4 (by decide) ?_
  refine lv_imul hx hb dX2_lastDay_6 ?_
  refine lv_bipush (v := 90) hx hb dX2_lastDay_7 (by decide) ?_
  refine lv_iadd hx hb dX2_lastDay_9 ?_
  refine lv_iconst (v := 1) hx hb dX2_lastDay_10 (by decide) ?_
  refine lv_isub hx hb dX2_lastDay_11 ?_
  exact gri hx hb hr hlocks hP hK hD hS h dX2_lastDay_12
def wp_X2_duesOf (n0 n1 : Nat) (I : TI) (J : TJ) (S : TS) (L : TL) (p0 : Int32) (p1 : Int32) (p2 : Int32) (Φ : Int64 → TI → TJ → TS → TL → Prop) : Prop := ∃ V_1 : Nat → TI → TJ → TS → TL → Int64 → Int32 → Prop, (∃ n_3, V_1 n_3 I J S L (0 : Int64) p1) ∧ ∀ (n_2 : Nat) (I_4 : TI) (J_5 : TJ) (S_6 : TS) (L_7 : TL) (y_8 : Int64) (x_9 : Int32), V_1 n_2 I_4 J_5 S_6 L_7 y_8 x_9 → (((p2 ≤ x_9) → (Φ y_8 I_4 J_5 S_6 L_7)) ∧ ((¬ p2 ≤ x_9) → ((vp_in ((p0 * (40 : Int32)) + x_9) 480) ∧ (∀ y_10 : Int64, y_10 = (y_8 + (((I_4 29 (((p0 * (40 : Int32)) + x_9)).toNatClampNeg)).toInt64)) → (∀ x_11 : Int32, x_11 = x_9 + 1 → (∃ n_12, n_12 < n_2 ∧ V_1 n_12 I_4 J_5 S_6 L_7 y_10 x_11))))))
theorem nX2_duesOf_X2 : ∀ w ∈ wsX20, w ∈ wsX2_duesOf := fun _ h => List.mem_cons_of_mem _ (List.mem_append_right _ h)
theorem kX2_duesOf_1 : Cond.fieldLink RX2 21 "SongOffice$Ledger" "dues" "[I" ∈ wsX2_duesOf := List.mem_of_getElem? (i := 1) rfl
abbrev rmX2_duesOf : Room := { frames := 0, cells := 0, slots := 0, locals := 0 }
set_option maxHeartbeats 4000000 in
set_option maxRecDepth 100000 in
theorem c_X2_duesOf (l : Launch) (dC : Nat → ClassId) (dI : Nat → Nat → Nat) (a : Nat → Nat) (cy : Nat → ClassId) (n0 n1 : Nat) (sz : Nat) (I : TI) (J : TJ) (S : TS) (L : TL) (p0 : Int32) (p1 : Int32) (p2 : Int32) (Φ : Int64 → TI → TJ → TS → TL → Prop) (h : wp_X2_duesOf n0 n1 I J S L p0 p1 p2 Φ) : Met l yX2_duesOf wsX2_duesOf rmX2_duesOf (va_Pc [.ref (a 25), .int p0, .int p1, .int p2] (gpre dC dI (wL a cy n0 n1 I J S L) (tyL cy) sz)) (gQl dC dI (wL a cy n0 n1) (tyL cy) (va_A (wL a cy n0 n1 I J S L) sz) Φ) 0 0 (va_A (wL a cy n0 n1 I J S L) sz) := by
  refine Met.ofW (cc := cX2_duesOf) (maxL := 7) (ret := (some .long)) (by decide) rfl ?_
  intro p e s m args below meth c s₁ B hml hv
  obtain ⟨hargs, hsz, hP, hK, hD0, hN⟩ := hv
  have hx := B.exec
  have hb := B.bytes
  have hr := B.returns
  have hts := atoms_spec (ws := wsX2_duesOf) B.pre
  have hown : s.vm.findClass RX2 = some m.cls := findClass_of_methodNamed B.named
  have hlocks := B.notSynchronized
  subst hsz
  have hD := hD0.self (sz := s.heap.size)
  generalize hAe : va_A (wL a cy n0 n1 I J S L) s.heap.size = A at hD ⊢
  have hA : ∀ q : Nat, s.heap.size ≤ q → A q := fun q h => by rw [← hAe]; exact Or.inr h
  obtain ⟨H, hH⟩ : ∃ z : Heap, z = s.heap := ⟨_, rfl⟩
  rw [← hH] at hP
  have hS : va_S A s.heap H [] := by rw [hH]; exact va_S.rf
  have hl := lv_entry ([.ref (a 25), .int p0, .int p1, .int p2]) (n := 7) (Nat.le_of_ble_eq_true rfl)
  have hE : entryFrame m args 7 = F0 m 0 ((lg_sl ([.ref (a 25), .int p0, .int p1, .int p2]) ++ List.replicate (7 - (lg_sl ([.ref (a 25), .int p0, .int p1, .int p2])).length) Slot.unset).toArray) [] := by rw [hargs]; exact lg_entry_eq m _ _
  rw [hE, ← hH]
  clear hE
  generalize (lg_sl ([.ref (a 25), .int p0, .int p1, .int p2]) ++ List.replicate (7 - (lg_sl ([.ref (a 25), .int p0, .int p1, .int p2])).length) Slot.unset).toArray = ls at hl ⊢
  have hl : lv_has ls 7 [(0, .ref (a 25)), (1, .int p0), (2, .int p1), (3, .int p2)] := hl
  unfold wp_X2_duesOf at h
  refine lv_lconst (v := 0) hx hb dX2_duesOf_0 (by decide) ?_
  refine lv_lstore (lv' := [(4, .long (0 : Int64)), (0, .ref (a 25)), (1, .int p0), (2, .int p1), (3, .int p2)]) hx hb dX2_duesOf_1 hl (by decide) rfl (fun ls hl => ?_)
  refine lv_iload_n hx hb dX2_duesOf_3 rfl (lv_at hl 3 rfl) ?_
  refine lv_istore (lv' := [(6, .int p1), (4, .long (0 : Int64)), (0, .ref (a 25)), (1, .int p0), (2, .int p1), (3, .int p2)]) hx hb dX2_duesOf_4 hl (by decide) rfl (fun ls hl => ?_)
  obtain ⟨V_1, ⟨n_3, h0V_1⟩, hV_1⟩ := h
  have lV_1 : ∀ (n_2 : Nat) (I_4 : TI) (J_5 : TJ) (S_6 : TS) (L_7 : TL) (y_8 : Int64) (x_9 : Int32) (H : Heap) (locs : List Loc) (ls : Array Slot), va_P (dC, dI) vwCl (wL a cy n0 n1 I_4 J_5 S_6 L_7) H → va_D A (wL a cy n0 n1 I_4 J_5 S_6 L_7) → va_S A s.heap H locs → lv_has ls 7 [(0, .ref (a 25)), (1, .int p0), (3, .int p2), (4, .long y_8), (6, .int x_9)] → V_1 n_2 I_4 J_5 S_6 L_7 y_8 x_9 → W p l e (headSpec wsX2_duesOf rmX2_duesOf).room s m args below meth c H locs 0 0 (MQ below (gQl dC dI (wL a cy n0 n1) (tyL cy) A Φ) args s 0 0 A) (F0 m 6 ls []) := by
    intro n_2
    induction n_2 using Nat.strongRecOn with
    | ind n_2 ihV_1 =>
        intro I_4 J_5 S_6 L_7 y_8 x_9 H locs ls hP hD hS hl h
        have h := hV_1 n_2 I_4 J_5 S_6 L_7 y_8 x_9 h
        refine lv_iload hx hb dX2_duesOf_6 (lv_at hl 4 rfl) ?_
        refine lv_iload_n hx hb dX2_duesOf_8 rfl (lv_at hl 2 rfl) ?_
        refine lv_icmp_ge (tgt := 36) hx hb dX2_duesOf_9 (by decide) (fun hc => ?_) (fun hc => ?_)
        · have h := h.1 hc
          refine lv_lload hx hb dX2_duesOf_36 (lv_at hl 3 rfl) ?_
          exact grl hx hb hr hlocks hP hK hD hS h dX2_duesOf_38
        · have h := h.2 hc
          refine lv_lload hx hb dX2_duesOf_12 (lv_at hl 3 rfl) ?_
          refine lv_aload_n hx hb dX2_duesOf_14 rfl (lv_at hl 0 rfl) ?_
          refine va_get (D := (dC, dI)) (ci := 2) (v := .ref (a 29)) (C := RX2) (T := TX2) (N := 16) hx hb hts nX2_duesOf_X2 hown hK hP 25 (wL_at25 _ _ _ _ _ _ _ _) rfl 3 (by decide) (hts (.fieldLink RX2 21 "SongOffice$Ledger" "dues" "[I") kX2_duesOf_1) (fun _ h9 => h9) rfl dX2_duesOf_15 ?_
          refine lv_iload_n hx hb dX2_duesOf_18 rfl (lv_at hl 1 rfl) ?_
          refine lv_bipush (v := 40) hx hb dX2_duesOf_19 (by decide) ?_
          refine lv_imul hx hb dX2_duesOf_21 ?_
          refine lv_iload hx hb dX2_duesOf_22 (lv_at hl 4 rfl) ?_
          refine lv_iadd hx hb dX2_duesOf_24 ?_
          obtain ⟨hi, h⟩ := h
          refine va_iald hx hb hK hP 29 24 (wL_at29 _ _ _ _ _ _ _ _) rfl hi dX2_duesOf_25 ?_
          refine lv_i2l (v := (((I_4 29 (((p0 * (40 : Int32)) + x_9)).toNatClampNeg)).toInt64)) hx hb dX2_duesOf_26 rfl ?_
          refine lv_ladd hx hb dX2_duesOf_27 ?_
          refine lv_topl (fun y_10 ey_10 => ?_)
          have h := h y_10 ey_10
          refine lv_lstore (lv' := [(4, .long y_10), (0, .ref (a 25)), (1, .int p0), (3, .int p2), (6, .int x_9)]) hx hb dX2_duesOf_28 hl (by decide) rfl (fun ls hl => ?_)
          obtain ⟨x_11, ex_11⟩ : ∃ z : Int32, z = x_9 + 1 := ⟨_, rfl⟩
          have h := h x_11 ex_11
          refine lv_iinc (v := x_11) (lv' := [(6, .int x_11), (4, .long y_10), (0, .ref (a 25)), (1, .int p0), (3, .int p2)]) hx hb dX2_duesOf_30 hl (k := 4) rfl (by rw [ex_11]; rfl) (by decide) rfl (fun ls hl => ?_)
          refine lv_goto (tgt := 6) hx hb dX2_duesOf_33 (by decide) ?_
          obtain ⟨n_12, hn2, h⟩ := h
          exact ihV_1 n_12 hn2 I_4 J_5 S_6 L_7 y_10 x_11 _ _ _ hP hD hS (lv_sub hl [2, 3, 4, 1, 0] rfl) h
  exact lV_1 n_3 I J S L (0 : Int64) p1 _ _ _ hP hD hS (lv_sub hl [2, 3, 5, 1, 0] rfl) h0V_1
def wp_X2_allDues (n0 n1 : Nat) (I : TI) (J : TJ) (S : TS) (L : TL) (p0 : Int32) (Φ : Int64 → TI → TJ → TS → TL → Prop) : Prop := wp_X2_duesOf n0 n1 I J S L p0 (0 : Int32) (S 3) (fun (r_5 : Int64) (I_1 : TI) (J_2 : TJ) (S_3 : TS) (L_4 : TL) => (Φ r_5 I_1 J_2 S_3 L_4))
theorem nX2_allDues_X2 : ∀ w ∈ wsX20, w ∈ wsX2_allDues := fun _ h => List.mem_cons_of_mem _ (List.mem_append_right _ h)
theorem kX2_allDues_1 : Cond.fieldLink RX2 78 "SongOffice$Ledger" "closed" "I" ∈ wsX2_allDues := List.mem_of_getElem? (i := 1) rfl
abbrev rmX2_allDues : Room := { frames := 1, cells := 0, slots := 0, locals := 26 }
set_option maxHeartbeats 4000000 in
set_option maxRecDepth 100000 in
theorem c_X2_allDues (l : Launch) (dC : Nat → ClassId) (dI : Nat → Nat → Nat) (a : Nat → Nat) (cy : Nat → ClassId) (n0 n1 : Nat) (sz : Nat) (I : TI) (J : TJ) (S : TS) (L : TL) (p0 : Int32) (Φ : Int64 → TI → TJ → TS → TL → Prop) (h : wp_X2_allDues n0 n1 I J S L p0 Φ) : Met l yX2_allDues wsX2_allDues rmX2_allDues (va_Pc [.ref (a 25), .int p0] (gpre dC dI (wL a cy n0 n1 I J S L) (tyL cy) sz)) (gQl dC dI (wL a cy n0 n1) (tyL cy) (va_A (wL a cy n0 n1 I J S L) sz) Φ) 0 0 (va_A (wL a cy n0 n1 I J S L) sz) := by
  refine Met.ofW (cc := cX2_allDues) (maxL := 2) (ret := (some .long)) (by decide) rfl ?_
  intro p e s m args below meth c s₁ B hml hv
  obtain ⟨hargs, hsz, hP, hK, hD0, hN⟩ := hv
  have hx := B.exec
  have hb := B.bytes
  have hr := B.returns
  have hts := atoms_spec (ws := wsX2_allDues) B.pre
  have hown : s.vm.findClass RX2 = some m.cls := findClass_of_methodNamed B.named
  have hlocks := B.notSynchronized
  subst hsz
  have hD := hD0.self (sz := s.heap.size)
  generalize hAe : va_A (wL a cy n0 n1 I J S L) s.heap.size = A at hD ⊢
  have hA : ∀ q : Nat, s.heap.size ≤ q → A q := fun q h => by rw [← hAe]; exact Or.inr h
  obtain ⟨H, hH⟩ : ∃ z : Heap, z = s.heap := ⟨_, rfl⟩
  rw [← hH] at hP
  have hS : va_S A s.heap H [] := by rw [hH]; exact va_S.rf
  have hl := lv_entry ([.ref (a 25), .int p0]) (n := 2) (Nat.le_of_ble_eq_true rfl)
  have hE : entryFrame m args 2 = F0 m 0 ((lg_sl ([.ref (a 25), .int p0]) ++ List.replicate (2 - (lg_sl ([.ref (a 25), .int p0])).length) Slot.unset).toArray) [] := by rw [hargs]; exact lg_entry_eq m _ _
  rw [hE, ← hH]
  clear hE
  generalize (lg_sl ([.ref (a 25), .int p0]) ++ List.replicate (2 - (lg_sl ([.ref (a 25), .int p0])).length) Slot.unset).toArray = ls at hl ⊢
  have hl : lv_has ls 2 [(0, .ref (a 25)), (1, .int p0)] := hl
  unfold wp_X2_allDues at h
  refine lv_aload_n hx hb dX2_allDues_0 rfl (lv_at hl 0 rfl) ?_
  refine lv_iload_n hx hb dX2_allDues_1 rfl (lv_at hl 1 rfl) ?_
  refine lv_iconst (v := 0) hx hb dX2_allDues_2 (by decide) ?_
  refine lv_aload_n hx hb dX2_allDues_3 rfl (lv_at hl 0 rfl) ?_
  refine va_get (D := (dC, dI)) (ci := 2) (v := .int (S 3)) (C := RX2) (T := TX2) (N := 16) hx hb hts nX2_allDues_X2 hown hK hP 25 (wL_at25 _ _ _ _ _ _ _ _) rfl 10 (by decide) (hts (.fieldLink RX2 78 "SongOffice$Ledger" "closed" "I") kX2_allDues_1) (fun _ h9 => h9) rfl dX2_allDues_4 ?_
  refine gcalll (va_runV (As := [.int p0, .int (0 : Int32), .int (S 3)]) (rest := []) ⟨hx, hb, hml, hown, hts⟩ (c_X2_duesOf l dC dI a cy n0 n1 H.size I J S L p0 (0 : Int32) (S 3) _ h) (cwV 3 hts gX2_allDues_X2_duesOf rfl rfl rfl (by decide +kernel) ⟨(Nat.le_of_ble_eq_true rfl), (Nat.le_of_ble_eq_true rfl)⟩) (g_pV hP hK hD hN (va_recv hK hP (ci := 2) (q0 := 25) rfl (wL_at25 _ _ _ _ _ _ _ _)) [.int p0, .int (0 : Int32), .int (S 3)]) rfl rfl hl.1 rfl (lv_room (Nat.le_of_ble_eq_true rfl)) dX2_allDues_7 ⟨(Nat.le_of_ble_eq_true rfl), (Nat.le_of_ble_eq_true rfl)⟩) hS hA hD (fun r_5 I_1 J_2 S_3 L_4 H locs hP hD hS h => ?_)
  exact grl hx hb hr hlocks hP hK hD hS h dX2_allDues_10
def wp_X2_allDues_O (n0 n1 : Nat) (I : TI) (J : TJ) (S : TS) (L : TL) (p0 : Int32) (Φ : Int64 → TI → TJ → TS → TL → Prop) : Prop := wp_X2_allDues n0 n1 I J S L p0 (fun r I1 J1 S1 L1 => Φ r I1 J1 (va_up S1 0 (S 0)) L1)
set_option maxHeartbeats 1000000 in
theorem c_X2_allDues_O (l : Launch) (dC : Nat → ClassId) (dI : Nat → Nat → Nat) (a : Nat → Nat) (cy : Nat → ClassId) (n0 n1 : Nat) (sz : Nat) (I : TI) (J : TJ) (S : TS) (L : TL) (p0 : Int32) (Φ : Int64 → TI → TJ → TS → TL → Prop) (h : wp_X2_allDues_O n0 n1 I J S L p0 Φ) : Met l yX2_allDues wsX2_allDues rmX2_allDues (va_Pc [.ref (a 25), .int p0] (gpre dC dI (wO a cy n0 n1 I J S L) (tyL cy) sz)) (gQl dC dI (wO a cy n0 n1) (tyL cy) (va_A (wO a cy n0 n1 I J S L) sz) Φ) 0 0 (va_A (wO a cy n0 n1 I J S L) sz) :=
  met_cons_l (Wd := wL a cy n0 n1) (c_X2_allDues l dC dI a cy n0 n1 sz I J S L p0 _ h) (wO_cons a cy n0 n1 (S 0))
def wp_X2_worth (n0 n1 : Nat) (I : TI) (J : TJ) (S : TS) (L : TL) (p0 : Int32) (Φ : Int64 → TI → TJ → TS → TL → Prop) : Prop := wp_X2_allDues n0 n1 I J S L p0 (fun (r_5 : Int64) (I_1 : TI) (J_2 : TJ) (S_3 : TS) (L_4 : TL) => ((vp_in p0 12) ∧ ((vp_in p0 12) ∧ (Φ (((r_5 * (1000000 : Int64)) + (J_2 26 (p0).toNatClampNeg)) - (J_2 27 (p0).toNatClampNeg)) I_1 J_2 S_3 L_4))))
theorem nX2_worth_X2 : ∀ w ∈ wsX20, w ∈ wsX2_worth := fun _ h => List.mem_cons_of_mem _ (List.mem_append_right _ h)
theorem kX2_worth_3 : Cond.fieldLink RX2 15 "SongOffice$Ledger" "debt" "[J" ∈ wsX2_worth := List.mem_of_getElem? (i := 3) rfl
theorem kX2_worth_2 : Cond.fieldLink RX2 9 "SongOffice$Ledger" "purse" "[J" ∈ wsX2_worth := List.mem_of_getElem? (i := 2) rfl
theorem kX2_worth_1 : Cond.constantLong RX2 110 (1000000) ∈ wsX2_worth := List.mem_of_getElem? (i := 1) rfl
abbrev rmX2_worth : Room := { frames := 2, cells := 0, slots := 0, locals := 47 }
set_option maxHeartbeats 4000000 in
set_option maxRecDepth 100000 in
theorem c_X2_worth (l : Launch) (dC : Nat → ClassId) (dI : Nat → Nat → Nat) (a : Nat → Nat) (cy : Nat → ClassId) (n0 n1 : Nat) (sz : Nat) (I : TI) (J : TJ) (S : TS) (L : TL) (p0 : Int32) (Φ : Int64 → TI → TJ → TS → TL → Prop) (h : wp_X2_worth n0 n1 I J S L p0 Φ) : Met l yX2_worth wsX2_worth rmX2_worth (va_Pc [.ref (a 25), .int p0] (gpre dC dI (wL a cy n0 n1 I J S L) (tyL cy) sz)) (gQl dC dI (wL a cy n0 n1) (tyL cy) (va_A (wL a cy n0 n1 I J S L) sz) Φ) 0 0 (va_A (wL a cy n0 n1 I J S L) sz) := by
  refine Met.ofW (cc := cX2_worth) (maxL := 2) (ret := (some .long)) (by decide) rfl ?_
  intro p e s m args below meth c s₁ B hml hv
  obtain ⟨hargs, hsz, hP, hK, hD0, hN⟩ := hv
  have hx := B.exec
  have hb := B.bytes
  have hr := B.returns
  have hts := atoms_spec (ws := wsX2_worth) B.pre
  have hown : s.vm.findClass RX2 = some m.cls := findClass_of_methodNamed B.named
  have hlocks := B.notSynchronized
  subst hsz
  have hD := hD0.self (sz := s.heap.size)
  generalize hAe : va_A (wL a cy n0 n1 I J S L) s.heap.size = A at hD ⊢
  have hA : ∀ q : Nat, s.heap.size ≤ q → A q := fun q h => by rw [← hAe]; exact Or.inr h
  obtain ⟨H, hH⟩ : ∃ z : Heap, z = s.heap := ⟨_, rfl⟩
  rw [← hH] at hP
  have hS : va_S A s.heap H [] := by rw [hH]; exact va_S.rf
  have hl := lv_entry ([.ref (a 25), .int p0]) (n := 2) (Nat.le_of_ble_eq_true rfl)
  have hE : entryFrame m args 2 = F0 m 0 ((lg_sl ([.ref (a 25), .int p0]) ++ List.replicate (2 - (lg_sl ([.ref (a 25), .int p0])).length) Slot.unset).toArray) [] := by rw [hargs]; exact lg_entry_eq m _ _
  rw [hE, ← hH]
  clear hE
  generalize (lg_sl ([.ref (a 25), .int p0]) ++ List.replicate (2 - (lg_sl ([.ref (a 25), .int p0])).length) Slot.unset).toArray = ls at hl ⊢
  have hl : lv_has ls 2 [(0, .ref (a 25)), (1, .int p0)] := hl
  unfold wp_X2_worth at h
  refine lv_aload_n hx hb dX2_worth_0 rfl (lv_at hl 0 rfl) ?_
  refine lv_iload_n hx hb dX2_worth_1 rfl (lv_at hl 1 rfl) ?_
  refine gcalll (va_runV (As := [.int p0]) (rest := []) ⟨hx, hb, hml, hown, hts⟩ (c_X2_allDues l dC dI a cy n0 n1 H.size I J S L p0 _ h) (cwV 1 hts gX2_worth_X2_allDues rfl rfl rfl (by decide +kernel) ⟨(Nat.le_of_ble_eq_true rfl), (Nat.le_of_ble_eq_true rfl)⟩) (g_pV hP hK hD hN (va_recv hK hP (ci := 2) (q0 := 25) rfl (wL_at25 _ _ _ _ _ _ _ _)) [.int p0]) rfl rfl hl.1 rfl (lv_room (Nat.le_of_ble_eq_true rfl)) dX2_worth_2 ⟨(Nat.le_of_ble_eq_true rfl), (Nat.le_of_ble_eq_true rfl)⟩) hS hA hD (fun r_5 I_1 J_2 S_3 L_4 H locs hP hD hS h => ?_)
  refine lv_ldc2 (v := 1000000) hx hb hown (hts (.constantLong RX2 110 (1000000)) kX2_worth_1) dX2_worth_5 ?_
  refine lv_lmul hx hb dX2_worth_8 ?_
  refine lv_aload_n hx hb dX2_worth_9 rfl (lv_at hl 0 rfl) ?_
  refine va_get (D := (dC, dI)) (ci := 2) (v := .ref (a 26)) (C := RX2) (T := TX2) (N := 16) hx hb hts nX2_worth_X2 hown hK hP 25 (wL_at25 _ _ _ _ _ _ _ _) rfl 0 (by decide) (hts (.fieldLink RX2 9 "SongOffice$Ledger" "purse" "[J") kX2_worth_2) (fun _ h9 => h9) rfl dX2_worth_10 ?_
  refine lv_iload_n hx hb dX2_worth_13 rfl (lv_at hl 1 rfl) ?_
  obtain ⟨hi, h⟩ := h
  refine va_lald hx hb hK hP 26 21 (wL_at26 _ _ _ _ _ _ _ _) rfl hi dX2_worth_14 ?_
  refine lv_ladd hx hb dX2_worth_15 ?_
  refine lv_aload_n hx hb dX2_worth_16 rfl (lv_at hl 0 rfl) ?_
  refine va_get (D := (dC, dI)) (ci := 2) (v := .ref (a 27)) (C := RX2) (T := TX2) (N := 16) hx hb hts nX2_worth_X2 hown hK hP 25 (wL_at25 _ _ _ _ _ _ _ _) rfl 1 (by decide) (hts (.fieldLink RX2 15 "SongOffice$Ledger" "debt" "[J") kX2_worth_3) (fun _ h9 => h9) rfl dX2_worth_17 ?_
  refine lv_iload_n hx hb dX2_worth_20 rfl (lv_at hl 1 rfl) ?_
  obtain ⟨hi, h⟩ := h
  refine va_lald hx hb hK hP 27 22 (wL_at27 _ _ _ _ _ _ _ _) rfl hi dX2_worth_21 ?_
  refine lv_lsub hx hb dX2_worth_22 ?_
  exact grl hx hb hr hlocks hP hK hD hS h dX2_worth_23
def wp_X2_worth_p (n0 n1 : Nat) (I : TI) (J : TJ) (S : TS) (L : TL) (p0 : Int32) (Φ : Int64 → TI → TJ → TS → TL → Prop) : Prop := wp_X2_worth n1 n0 (fun k => I (pO k)) (fun k => J (pO k)) (fun k => S (pS k)) (fun k => L (pL k)) p0 (fun r I J S L => Φ r (fun k => I (pO k)) (fun k => J (pO k)) (fun k => S (pS k)) (fun k => L (pL k)))
set_option maxHeartbeats 1000000 in
theorem c_X2_worth_p (l : Launch) (dC : Nat → ClassId) (dI : Nat → Nat → Nat) (a : Nat → Nat) (cy : Nat → ClassId) (n0 n1 : Nat) (sz : Nat) (I : TI) (J : TJ) (S : TS) (L : TL) (p0 : Int32) (Φ : Int64 → TI → TJ → TS → TL → Prop) (h : wp_X2_worth_p n0 n1 I J S L p0 Φ) : Met l yX2_worth wsX2_worth rmX2_worth (va_Pc [.ref (a 39), .int p0] (gpre dC dI (wL a cy n0 n1 I J S L) (tyL cy) sz)) (gQl dC dI (wL a cy n0 n1) (tyL cy) (va_A (wL a cy n0 n1 I J S L) sz) Φ) 0 0 (va_A (wL a cy n0 n1 I J S L) sz) :=
  met_perm_l prL prT (by decide) (c_X2_worth l dC dI (fun k => a (pO k)) (fun k => cy (pO k)) n1 n0 sz (fun k => I (pO k)) (fun k => J (pO k)) (fun k => S (pS k)) (fun k => L (pL k)) p0 _ h) (wL_perm a cy n0 n1 I J S L) (tyL_perm cy) (wL_permB a cy n0 n1) (tyL_permB cy)
def wp_X2_worth_O (n0 n1 : Nat) (I : TI) (J : TJ) (S : TS) (L : TL) (p0 : Int32) (Φ : Int64 → TI → TJ → TS → TL → Prop) : Prop := wp_X2_worth n0 n1 I J S L p0 (fun r I1 J1 S1 L1 => Φ r I1 J1 (va_up S1 0 (S 0)) L1)
set_option maxHeartbeats 1000000 in
theorem c_X2_worth_O (l : Launch) (dC : Nat → ClassId) (dI : Nat → Nat → Nat) (a : Nat → Nat) (cy : Nat → ClassId) (n0 n1 : Nat) (sz : Nat) (I : TI) (J : TJ) (S : TS) (L : TL) (p0 : Int32) (Φ : Int64 → TI → TJ → TS → TL → Prop) (h : wp_X2_worth_O n0 n1 I J S L p0 Φ) : Met l yX2_worth wsX2_worth rmX2_worth (va_Pc [.ref (a 25), .int p0] (gpre dC dI (wO a cy n0 n1 I J S L) (tyL cy) sz)) (gQl dC dI (wO a cy n0 n1) (tyL cy) (va_A (wO a cy n0 n1 I J S L) sz) Φ) 0 0 (va_A (wO a cy n0 n1 I J S L) sz) :=
  met_cons_l (Wd := wL a cy n0 n1) (c_X2_worth l dC dI a cy n0 n1 sz I J S L p0 _ h) (wO_cons a cy n0 n1 (S 0))
def wp_X2_worth_Op (n0 n1 : Nat) (I : TI) (J : TJ) (S : TS) (L : TL) (p0 : Int32) (Φ : Int64 → TI → TJ → TS → TL → Prop) : Prop := wp_X2_worth_p n0 n1 I J S L p0 (fun r I1 J1 S1 L1 => Φ r I1 J1 (va_up S1 0 (S 0)) L1)
set_option maxHeartbeats 1000000 in
theorem c_X2_worth_Op (l : Launch) (dC : Nat → ClassId) (dI : Nat → Nat → Nat) (a : Nat → Nat) (cy : Nat → ClassId) (n0 n1 : Nat) (sz : Nat) (I : TI) (J : TJ) (S : TS) (L : TL) (p0 : Int32) (Φ : Int64 → TI → TJ → TS → TL → Prop) (h : wp_X2_worth_Op n0 n1 I J S L p0 Φ) : Met l yX2_worth wsX2_worth rmX2_worth (va_Pc [.ref (a 39), .int p0] (gpre dC dI (wO a cy n0 n1 I J S L) (tyL cy) sz)) (gQl dC dI (wO a cy n0 n1) (tyL cy) (va_A (wO a cy n0 n1 I J S L) sz) Φ) 0 0 (va_A (wO a cy n0 n1 I J S L) sz) :=
  met_cons_l (Wd := wL a cy n0 n1) (c_X2_worth_p l dC dI a cy n0 n1 sz I J S L p0 _ h) (wO_cons a cy n0 n1 (S 0))
def wp_X2_allFilled (n0 n1 : Nat) (I : TI) (J : TJ) (S : TS) (L : TL) (Φ : Int64 → TI → TJ → TS → TL → Prop) : Prop := ∃ V_1 : Nat → TI → TJ → TS → TL → Int64 → Int32 → Prop, (∃ n_3, V_1 n_3 I J S L (0 : Int64) (0 : Int32)) ∧ ∀ (n_2 : Nat) (I_4 : TI) (J_5 : TJ) (S_6 : TS) (L_7 : TL) (y_8 : Int64) (x_9 : Int32), V_1 n_2 I_4 J_5 S_6 L_7 y_8 x_9 → ((((12 : Int32) ≤ x_9) → (Φ y_8 I_4 J_5 S_6 L_7)) ∧ ((¬ (12 : Int32) ≤ x_9) → ((vp_in x_9 12) ∧ (∀ y_10 : Int64, y_10 = (y_8 + (J_5 28 (x_9).toNatClampNeg)) → (∀ x_11 : Int32, x_11 = x_9 + 1 → (∃ n_12, n_12 < n_2 ∧ V_1 n_12 I_4 J_5 S_6 L_7 y_10 x_11))))))
theorem nX2_allFilled_X2 : ∀ w ∈ wsX20, w ∈ wsX2_allFilled := fun _ h => List.mem_cons_of_mem _ (List.mem_append_right _ h)
theorem kX2_allFilled_1 : Cond.fieldLink RX2 18 "SongOffice$Ledger" "filled" "[J" ∈ wsX2_allFilled := List.mem_of_getElem? (i := 1) rfl
abbrev rmX2_allFilled : Room := { frames := 0, cells := 0, slots := 0, locals := 0 }
set_option maxHeartbeats 4000000 in
set_option maxRecDepth 100000 in
theorem c_X2_allFilled (l : Launch) (dC : Nat → ClassId) (dI : Nat → Nat → Nat) (a : Nat → Nat) (cy : Nat → ClassId) (n0 n1 : Nat) (sz : Nat) (I : TI) (J : TJ) (S : TS) (L : TL) (Φ : Int64 → TI → TJ → TS → TL → Prop) (h : wp_X2_allFilled n0 n1 I J S L Φ) : Met l yX2_allFilled wsX2_allFilled rmX2_allFilled (va_Pc [.ref (a 25)] (gpre dC dI (wL a cy n0 n1 I J S L) (tyL cy) sz)) (gQl dC dI (wL a cy n0 n1) (tyL cy) (va_A (wL a cy n0 n1 I J S L) sz) Φ) 0 0 (va_A (wL a cy n0 n1 I J S L) sz) := by
  refine Met.ofW (cc := cX2_allFilled) (maxL := 4) (ret := (some .long)) (by decide) rfl ?_
  intro p e s m args below meth c s₁ B hml hv
  obtain ⟨hargs, hsz, hP, hK, hD0, hN⟩ := hv
  have hx := B.exec
  have hb := B.bytes
  have hr := B.returns
  have hts := atoms_spec (ws := wsX2_allFilled) B.pre
  have hown : s.vm.findClass RX2 = some m.cls := findClass_of_methodNamed B.named
  have hlocks := B.notSynchronized
  subst hsz
  have hD := hD0.self (sz := s.heap.size)
  generalize hAe : va_A (wL a cy n0 n1 I J S L) s.heap.size = A at hD ⊢
  have hA : ∀ q : Nat, s.heap.size ≤ q → A q := fun q h => by rw [← hAe]; exact Or.inr h
  obtain ⟨H, hH⟩ : ∃ z : Heap, z = s.heap := ⟨_, rfl⟩
  rw [← hH] at hP
  have hS : va_S A s.heap H [] := by rw [hH]; exact va_S.rf
  have hl := lv_entry ([.ref (a 25)]) (n := 4) (Nat.le_of_ble_eq_true rfl)
  have hE : entryFrame m args 4 = F0 m 0 ((lg_sl ([.ref (a 25)]) ++ List.replicate (4 - (lg_sl ([.ref (a 25)])).length) Slot.unset).toArray) [] := by rw [hargs]; exact lg_entry_eq m _ _
  rw [hE, ← hH]
  clear hE
  generalize (lg_sl ([.ref (a 25)]) ++ List.replicate (4 - (lg_sl ([.ref (a 25)])).length) Slot.unset).toArray = ls at hl ⊢
  have hl : lv_has ls 4 [(0, .ref (a 25))] := hl
  unfold wp_X2_allFilled at h
  refine lv_lconst (v := 0) hx hb dX2_allFilled_0 (by decide) ?_
  refine lv_lstore_n (lv' := [(1, .long (0 : Int64)), (0, .ref (a 25))]) hx hb dX2_allFilled_1 rfl hl (by decide) rfl (fun ls hl => ?_)
  refine lv_iconst (v := 0) hx hb dX2_allFilled_2 (by decide) ?_
  refine lv_istore_n (lv' := [(3, .int (0 : Int32)), (1, .long (0 : Int64)), (0, .ref (a 25))]) hx hb dX2_allFilled_3 rfl hl (by decide) rfl (fun ls hl => ?_)
  obtain ⟨V_1, ⟨n_3, h0V_1⟩, hV_1⟩ := h
  have lV_1 : ∀ (n_2 : Nat) (I_4 : TI) (J_5 : TJ) (S_6 : TS) (L_7 : TL) (y_8 : Int64) (x_9 : Int32) (H : Heap) (locs : List Loc) (ls : Array Slot), va_P (dC, dI) vwCl (wL a cy n0 n1 I_4 J_5 S_6 L_7) H → va_D A (wL a cy n0 n1 I_4 J_5 S_6 L_7) → va_S A s.heap H locs → lv_has ls 4 [(0, .ref (a 25)), (1, .long y_8), (3, .int x_9)] → V_1 n_2 I_4 J_5 S_6 L_7 y_8 x_9 → W p l e (headSpec wsX2_allFilled rmX2_allFilled).room s m args below meth c H locs 0 0 (MQ below (gQl dC dI (wL a cy n0 n1) (tyL cy) A Φ) args s 0 0 A) (F0 m 4 ls []) := by
    intro n_2
    induction n_2 using Nat.strongRecOn with
    | ind n_2 ihV_1 =>
        intro I_4 J_5 S_6 L_7 y_8 x_9 H locs ls hP hD hS hl h
        have h := hV_1 n_2 I_4 J_5 S_6 L_7 y_8 x_9 h
        refine lv_iload_n hx hb dX2_allFilled_4 rfl (lv_at hl 2 rfl) ?_
        refine lv_bipush (v := 12) hx hb dX2_allFilled_5 (by decide) ?_
        refine lv_icmp_ge (tgt := 25) hx hb dX2_allFilled_7 (by decide) (fun hc => ?_) (fun hc => ?_)
        · have h := h.1 hc
          refine lv_lload_n hx hb dX2_allFilled_25 rfl (lv_at hl 1 rfl) ?_
          exact grl hx hb hr hlocks hP hK hD hS h dX2_allFilled_26
        · have h := h.2 hc
          refine lv_lload_n hx hb dX2_allFilled_10 rfl (lv_at hl 1 rfl) ?_
          refine lv_aload_n hx hb dX2_allFilled_11 rfl (lv_at hl 0 rfl) ?_
          refine va_get (D := (dC, dI)) (ci := 2) (v := .ref (a 28)) (C := RX2) (T := TX2) (N := 16) hx hb hts nX2_allFilled_X2 hown hK hP 25 (wL_at25 _ _ _ _ _ _ _ _) rfl 2 (by decide) (hts (.fieldLink RX2 18 "SongOffice$Ledger" "filled" "[J") kX2_allFilled_1) (fun _ h9 => h9) rfl dX2_allFilled_12 ?_
          refine lv_iload_n hx hb dX2_allFilled_15 rfl (lv_at hl 2 rfl) ?_
          obtain ⟨hi, h⟩ := h
          refine va_lald hx hb hK hP 28 23 (wL_at28 _ _ _ _ _ _ _ _) rfl hi dX2_allFilled_16 ?_
          refine lv_ladd hx hb dX2_allFilled_17 ?_
          refine lv_topl (fun y_10 ey_10 => ?_)
          have h := h y_10 ey_10
          refine lv_lstore_n (lv' := [(1, .long y_10), (0, .ref (a 25)), (3, .int x_9)]) hx hb dX2_allFilled_18 rfl hl (by decide) rfl (fun ls hl => ?_)
          obtain ⟨x_11, ex_11⟩ : ∃ z : Int32, z = x_9 + 1 := ⟨_, rfl⟩
          have h := h x_11 ex_11
          refine lv_iinc (v := x_11) (lv' := [(3, .int x_11), (1, .long y_10), (0, .ref (a 25))]) hx hb dX2_allFilled_19 hl (k := 2) rfl (by rw [ex_11]; rfl) (by decide) rfl (fun ls hl => ?_)
          refine lv_goto (tgt := 4) hx hb dX2_allFilled_22 (by decide) ?_
          obtain ⟨n_12, hn2, h⟩ := h
          exact ihV_1 n_12 hn2 I_4 J_5 S_6 L_7 y_10 x_11 _ _ _ hP hD hS (lv_sub hl [2, 1, 0] rfl) h
  exact lV_1 n_3 I J S L (0 : Int64) (0 : Int32) _ _ _ hP hD hS (lv_sub hl [2, 1, 0] rfl) h0V_1
def wp_X2_allFilled_O (n0 n1 : Nat) (I : TI) (J : TJ) (S : TS) (L : TL) (Φ : Int64 → TI → TJ → TS → TL → Prop) : Prop := wp_X2_allFilled n0 n1 I J S L (fun r I1 J1 S1 L1 => Φ r I1 J1 (va_up S1 0 (S 0)) L1)
set_option maxHeartbeats 1000000 in
theorem c_X2_allFilled_O (l : Launch) (dC : Nat → ClassId) (dI : Nat → Nat → Nat) (a : Nat → Nat) (cy : Nat → ClassId) (n0 n1 : Nat) (sz : Nat) (I : TI) (J : TJ) (S : TS) (L : TL) (Φ : Int64 → TI → TJ → TS → TL → Prop) (h : wp_X2_allFilled_O n0 n1 I J S L Φ) : Met l yX2_allFilled wsX2_allFilled rmX2_allFilled (va_Pc [.ref (a 25)] (gpre dC dI (wO a cy n0 n1 I J S L) (tyL cy) sz)) (gQl dC dI (wO a cy n0 n1) (tyL cy) (va_A (wO a cy n0 n1 I J S L) sz) Φ) 0 0 (va_A (wO a cy n0 n1 I J S L) sz) :=
  met_cons_l (Wd := wL a cy n0 n1) (c_X2_allFilled l dC dI a cy n0 n1 sz I J S L _ h) (wO_cons a cy n0 n1 (S 0))
def wp_X2_stillIn (n0 n1 : Nat) (I : TI) (J : TJ) (S : TS) (L : TL) (p0 : Int32) (Φ : Int64 → TI → TJ → TS → TL → Prop) : Prop := (vp_in p0 24) ∧ (((¬ (I 6 (p0).toNatClampNeg) = (1 : Int32)) → (∃ V_1 : Nat → TI → TJ → TS → TL → Int64 → Int32 → Prop, (∃ n_3, V_1 n_3 I J S L (0 : Int64) (0 : Int32)) ∧ ∀ (n_2 : Nat) (I_4 : TI) (J_5 : TJ) (S_6 : TS) (L_7 : TL) (y_8 : Int64) (x_9 : Int32), V_1 n_2 I_4 J_5 S_6 L_7 y_8 x_9 → ((((40 : Int32) ≤ x_9) → (Φ y_8 I_4 J_5 S_6 L_7)) ∧ ((¬ (40 : Int32) ≤ x_9) → ((vp_in ((p0 * (40 : Int32)) + x_9) 960) ∧ (∀ y_10 : Int64, y_10 = (y_8 + (J_5 32 (((p0 * (40 : Int32)) + x_9)).toNatClampNeg)) → (∀ x_11 : Int32, x_11 = x_9 + 1 → (∃ n_12, n_12 < n_2 ∧ V_1 n_12 I_4 J_5 S_6 L_7 y_10 x_11)))))))) ∧ (((I 6 (p0).toNatClampNeg) = (1 : Int32)) → ((vp_in p0 24) ∧ ((vp_in p0 24) ∧ (Φ (((((I 10 (p0).toNatClampNeg)).toInt64) * (1000000 : Int64)) - (J 30 (p0).toNatClampNeg)) I J S L)))))
theorem nX2_stillIn_X2 : ∀ w ∈ wsX20, w ∈ wsX2_stillIn := fun _ h => List.mem_cons_of_mem _ (List.mem_append_left _ (List.mem_append_right _ h))
theorem kX2_stillIn_6 : Cond.fieldLink RX2 31 "SongOffice$Ledger" "bags" "[J" ∈ wsX2_stillIn := List.mem_of_getElem? (i := 6) rfl
theorem kX2_stillIn_5 : Cond.fieldLink RX2 25 "SongOffice$Ledger" "kept" "[J" ∈ wsX2_stillIn := List.mem_of_getElem? (i := 5) rfl
theorem kX2_stillIn_4 : Cond.constantLong RX2 110 (1000000) ∈ wsX2_stillIn := List.mem_of_getElem? (i := 4) rfl
theorem nX2_stillIn_X0 : ∀ w ∈ wsX00, w ∈ wsX2_stillIn := fun _ h => List.mem_cons_of_mem _ (List.mem_append_right _ h)
theorem kX2_stillIn_3 : Cond.fieldLink RX2 121 "SongOffice$BargainBook" "x" "[I" ∈ wsX2_stillIn := List.mem_of_getElem? (i := 3) rfl
theorem kX2_stillIn_1 : Cond.fieldLink RX2 45 "SongOffice$Ledger" "bargains" "LSongOffice$BargainBook;" ∈ wsX2_stillIn := List.mem_of_getElem? (i := 1) rfl
theorem kX2_stillIn_2 : Cond.fieldLink RX2 116 "SongOffice$BargainBook" "kinds" "[I" ∈ wsX2_stillIn := List.mem_of_getElem? (i := 2) rfl
abbrev rmX2_stillIn : Room := { frames := 0, cells := 0, slots := 0, locals := 0 }
set_option maxHeartbeats 4000000 in
set_option maxRecDepth 100000 in
theorem c_X2_stillIn (l : Launch) (dC : Nat → ClassId) (dI : Nat → Nat → Nat) (a : Nat → Nat) (cy : Nat → ClassId) (n0 n1 : Nat) (sz : Nat) (I : TI) (J : TJ) (S : TS) (L : TL) (p0 : Int32) (Φ : Int64 → TI → TJ → TS → TL → Prop) (h : wp_X2_stillIn n0 n1 I J S L p0 Φ) : Met l yX2_stillIn wsX2_stillIn rmX2_stillIn (va_Pc [.ref (a 25), .int p0] (gpre dC dI (wL a cy n0 n1 I J S L) (tyL cy) sz)) (gQl dC dI (wL a cy n0 n1) (tyL cy) (va_A (wL a cy n0 n1 I J S L) sz) Φ) 0 0 (va_A (wL a cy n0 n1 I J S L) sz) := by
  refine Met.ofW (cc := cX2_stillIn) (maxL := 5) (ret := (some .long)) (by decide) rfl ?_
  intro p e s m args below meth c s₁ B hml hv
  obtain ⟨hargs, hsz, hP, hK, hD0, hN⟩ := hv
  have hx := B.exec
  have hb := B.bytes
  have hr := B.returns
  have hts := atoms_spec (ws := wsX2_stillIn) B.pre
  have hown : s.vm.findClass RX2 = some m.cls := findClass_of_methodNamed B.named
  have hlocks := B.notSynchronized
  subst hsz
  have hD := hD0.self (sz := s.heap.size)
  generalize hAe : va_A (wL a cy n0 n1 I J S L) s.heap.size = A at hD ⊢
  have hA : ∀ q : Nat, s.heap.size ≤ q → A q := fun q h => by rw [← hAe]; exact Or.inr h
  obtain ⟨H, hH⟩ : ∃ z : Heap, z = s.heap := ⟨_, rfl⟩
  rw [← hH] at hP
  have hS : va_S A s.heap H [] := by rw [hH]; exact va_S.rf
  have hl := lv_entry ([.ref (a 25), .int p0]) (n := 5) (Nat.le_of_ble_eq_true rfl)
  have hE : entryFrame m args 5 = F0 m 0 ((lg_sl ([.ref (a 25), .int p0]) ++ List.replicate (5 - (lg_sl ([.ref (a 25), .int p0])).length) Slot.unset).toArray) [] := by rw [hargs]; exact lg_entry_eq m _ _
  rw [hE, ← hH]
  clear hE
  generalize (lg_sl ([.ref (a 25), .int p0]) ++ List.replicate (5 - (lg_sl ([.ref (a 25), .int p0])).length) Slot.unset).toArray = ls at hl ⊢
  have hl : lv_has ls 5 [(0, .ref (a 25)), (1, .int p0)] := hl
  unfold wp_X2_stillIn at h
  refine lv_aload_n hx hb dX2_stillIn_0 rfl (lv_at hl 0 rfl) ?_
  refine va_get (D := (dC, dI)) (ci := 2) (v := .ref (a 5)) (C := RX2) (T := TX2) (N := 16) hx hb hts nX2_stillIn_X2 hown hK hP 25 (wL_at25 _ _ _ _ _ _ _ _) rfl 13 (by decide) (hts (.fieldLink RX2 45 "SongOffice$Ledger" "bargains" "LSongOffice$BargainBook;") kX2_stillIn_1) (fun _ h9 => h9) rfl dX2_stillIn_1 ?_
  refine va_get (D := (dC, dI)) (ci := 0) (v := .ref (a 6)) (C := RX0) (T := TX0) (N := 9) hx hb hts nX2_stillIn_X0 hown hK hP 5 (wL_at5 _ _ _ _ _ _ _ _) rfl 0 (by decide) (hts (.fieldLink RX2 116 "SongOffice$BargainBook" "kinds" "[I") kX2_stillIn_2) (fun _ h9 => h9) rfl dX2_stillIn_4 ?_
  refine lv_iload_n hx hb dX2_stillIn_7 rfl (lv_at hl 1 rfl) ?_
  obtain ⟨hi, h⟩ := h
  refine va_iald hx hb hK hP 6 4 (wL_at6 _ _ _ _ _ _ _ _) rfl hi dX2_stillIn_8 ?_
  refine lv_iconst (v := 1) hx hb dX2_stillIn_9 (by decide) ?_
  refine lv_icmp_ne (tgt := 35) hx hb dX2_stillIn_10 (by decide) (fun hc => ?_) (fun hc => ?_)
  · have h := h.1 hc
    refine lv_lconst (v := 0) hx hb dX2_stillIn_35 (by decide) ?_
    refine lv_lstore_n (lv' := [(2, .long (0 : Int64)), (0, .ref (a 25)), (1, .int p0)]) hx hb dX2_stillIn_36 rfl hl (by decide) rfl (fun ls hl => ?_)
    refine lv_iconst (v := 0) hx hb dX2_stillIn_37 (by decide) ?_
    refine lv_istore (lv' := [(4, .int (0 : Int32)), (2, .long (0 : Int64)), (0, .ref (a 25)), (1, .int p0)]) hx hb dX2_stillIn_38 hl (by decide) rfl (fun ls hl => ?_)
    obtain ⟨V_1, ⟨n_3, h0V_1⟩, hV_1⟩ := h
    have lV_1 : ∀ (n_2 : Nat) (I_4 : TI) (J_5 : TJ) (S_6 : TS) (L_7 : TL) (y_8 : Int64) (x_9 : Int32) (H : Heap) (locs : List Loc) (ls : Array Slot), va_P (dC, dI) vwCl (wL a cy n0 n1 I_4 J_5 S_6 L_7) H → va_D A (wL a cy n0 n1 I_4 J_5 S_6 L_7) → va_S A s.heap H locs → lv_has ls 5 [(0, .ref (a 25)), (1, .int p0), (2, .long y_8), (4, .int x_9)] → V_1 n_2 I_4 J_5 S_6 L_7 y_8 x_9 → W p l e (headSpec wsX2_stillIn rmX2_stillIn).room s m args below meth c H locs 0 0 (MQ below (gQl dC dI (wL a cy n0 n1) (tyL cy) A Φ) args s 0 0 A) (F0 m 40 ls []) := by
      intro n_2
      induction n_2 using Nat.strongRecOn with
      | ind n_2 ihV_1 =>
          intro I_4 J_5 S_6 L_7 y_8 x_9 H locs ls hP hD hS hl h
          have h := hV_1 n_2 I_4 J_5 S_6 L_7 y_8 x_9 h
          refine lv_iload hx hb dX2_stillIn_40 (lv_at hl 3 rfl) ?_
          refine lv_bipush (v := 40) hx hb dX2_stillIn_42 (by decide) ?_
          refine lv_icmp_ge (tgt := 68) hx hb dX2_stillIn_44 (by decide) (fun hc => ?_) (fun hc => ?_)
          · have h := h.1 hc
            refine lv_lload_n hx hb dX2_stillIn_68 rfl (lv_at hl 2 rfl) ?_
            exact grl hx hb hr hlocks hP hK hD hS h dX2_stillIn_69
          · have h := h.2 hc
            refine lv_lload_n hx hb dX2_stillIn_47 rfl (lv_at hl 2 rfl) ?_
            refine lv_aload_n hx hb dX2_stillIn_48 rfl (lv_at hl 0 rfl) ?_
            refine va_get (D := (dC, dI)) (ci := 2) (v := .ref (a 32)) (C := RX2) (T := TX2) (N := 16) hx hb hts nX2_stillIn_X2 hown hK hP 25 (wL_at25 _ _ _ _ _ _ _ _) rfl 6 (by decide) (hts (.fieldLink RX2 31 "SongOffice$Ledger" "bags" "[J") kX2_stillIn_6) (fun _ h9 => h9) rfl dX2_stillIn_49 ?_
            refine lv_iload_n hx hb dX2_stillIn_52 rfl (lv_at hl 1 rfl) ?_
            refine lv_bipush (v := 40) hx hb dX2_stillIn_53 (by decide) ?_
            refine lv_imul hx hb dX2_stillIn_55 ?_
            refine lv_iload hx hb dX2_stillIn_56 (lv_at hl 3 rfl) ?_
            refine lv_iadd hx hb dX2_stillIn_58 ?_
            obtain ⟨hi, h⟩ := h
            refine va_lald hx hb hK hP 32 27 (wL_at32 _ _ _ _ _ _ _ _) rfl hi dX2_stillIn_59 ?_
            refine lv_ladd hx hb dX2_stillIn_60 ?_
            refine lv_topl (fun y_10 ey_10 => ?_)
            have h := h y_10 ey_10
            refine lv_lstore_n (lv' := [(2, .long y_10), (0, .ref (a 25)), (1, .int p0), (4, .int x_9)]) hx hb dX2_stillIn_61 rfl hl (by decide) rfl (fun ls hl => ?_)
            obtain ⟨x_11, ex_11⟩ : ∃ z : Int32, z = x_9 + 1 := ⟨_, rfl⟩
            have h := h x_11 ex_11
            refine lv_iinc (v := x_11) (lv' := [(4, .int x_11), (2, .long y_10), (0, .ref (a 25)), (1, .int p0)]) hx hb dX2_stillIn_62 hl (k := 3) rfl (by rw [ex_11]; rfl) (by decide) rfl (fun ls hl => ?_)
            refine lv_goto (tgt := 40) hx hb dX2_stillIn_65 (by decide) ?_
            obtain ⟨n_12, hn2, h⟩ := h
            exact ihV_1 n_12 hn2 I_4 J_5 S_6 L_7 y_10 x_11 _ _ _ hP hD hS (lv_sub hl [2, 3, 1, 0] rfl) h
    exact lV_1 n_3 I J S L (0 : Int64) (0 : Int32) _ _ _ hP hD hS (lv_sub hl [2, 3, 1, 0] rfl) h0V_1
  · have h := h.2 hc
    refine lv_aload_n hx hb dX2_stillIn_13 rfl (lv_at hl 0 rfl) ?_
    refine va_get (D := (dC, dI)) (ci := 2) (v := .ref (a 5)) (C := RX2) (T := TX2) (N := 16) hx hb hts nX2_stillIn_X2 hown hK hP 25 (wL_at25 _ _ _ _ _ _ _ _) rfl 13 (by decide) (hts (.fieldLink RX2 45 "SongOffice$Ledger" "bargains" "LSongOffice$BargainBook;") kX2_stillIn_1) (fun _ h9 => h9) rfl dX2_stillIn_14 ?_
    refine va_get (D := (dC, dI)) (ci := 0) (v := .ref (a 10)) (C := RX0) (T := TX0) (N := 9) hx hb hts nX2_stillIn_X0 hown hK hP 5 (wL_at5 _ _ _ _ _ _ _ _) rfl 4 (by decide) (hts (.fieldLink RX2 121 "SongOffice$BargainBook" "x" "[I") kX2_stillIn_3) (fun _ h9 => h9) rfl dX2_stillIn_17 ?_
    refine lv_iload_n hx hb dX2_stillIn_20 rfl (lv_at hl 1 rfl) ?_
    obtain ⟨hi, h⟩ := h
    refine va_iald hx hb hK hP 10 8 (wL_at10 _ _ _ _ _ _ _ _) rfl hi dX2_stillIn_21 ?_
    refine lv_i2l (v := (((I 10 (p0).toNatClampNeg)).toInt64)) hx hb dX2_stillIn_22 rfl ?_
    refine lv_ldc2 (v := 1000000) hx hb hown (hts (.constantLong RX2 110 (1000000)) kX2_stillIn_4) dX2_stillIn_23 ?_
    refine lv_lmul hx hb dX2_stillIn_26 ?_
    refine lv_aload_n hx hb dX2_stillIn_27 rfl (lv_at hl 0 rfl) ?_
    refine va_get (D := (dC, dI)) (ci := 2) (v := .ref (a 30)) (C := RX2) (T := TX2) (N := 16) hx hb hts nX2_stillIn_X2 hown hK hP 25 (wL_at25 _ _ _ _ _ _ _ _) rfl 4 (by decide) (hts (.fieldLink RX2 25 "SongOffice$Ledger" "kept" "[J") kX2_stillIn_5) (fun _ h9 => h9) rfl dX2_stillIn_28 ?_
    refine lv_iload_n hx hb dX2_stillIn_31 rfl (lv_at hl 1 rfl) ?_
    obtain ⟨hi, h⟩ := h
    refine va_lald hx hb hK hP 30 25 (wL_at30 _ _ _ _ _ _ _ _) rfl hi dX2_stillIn_32 ?_
    refine lv_lsub hx hb dX2_stillIn_33 ?_
    exact grl hx hb hr hlocks hP hK hD hS h dX2_stillIn_34
def wp_X2_stillIn_O (n0 n1 : Nat) (I : TI) (J : TJ) (S : TS) (L : TL) (p0 : Int32) (Φ : Int64 → TI → TJ → TS → TL → Prop) : Prop := wp_X2_stillIn n0 n1 I J S L p0 (fun r I1 J1 S1 L1 => Φ r I1 J1 (va_up S1 0 (S 0)) L1)
set_option maxHeartbeats 1000000 in
theorem c_X2_stillIn_O (l : Launch) (dC : Nat → ClassId) (dI : Nat → Nat → Nat) (a : Nat → Nat) (cy : Nat → ClassId) (n0 n1 : Nat) (sz : Nat) (I : TI) (J : TJ) (S : TS) (L : TL) (p0 : Int32) (Φ : Int64 → TI → TJ → TS → TL → Prop) (h : wp_X2_stillIn_O n0 n1 I J S L p0 Φ) : Met l yX2_stillIn wsX2_stillIn rmX2_stillIn (va_Pc [.ref (a 25), .int p0] (gpre dC dI (wO a cy n0 n1 I J S L) (tyL cy) sz)) (gQl dC dI (wO a cy n0 n1) (tyL cy) (va_A (wO a cy n0 n1 I J S L) sz) Φ) 0 0 (va_A (wO a cy n0 n1 I J S L) sz) :=
  met_cons_l (Wd := wL a cy n0 n1) (c_X2_stillIn l dC dI a cy n0 n1 sz I J S L p0 _ h) (wO_cons a cy n0 n1 (S 0))
def wp_X2_takenBy (n0 n1 : Nat) (I : TI) (J : TJ) (S : TS) (L : TL) (p0 : Int32) (p1 : Int64) (Φ : Int64 → TI → TJ → TS → TL → Prop) : Prop := (vp_in p0 24) ∧ (∀ y_1 : Int64, y_1 = (((I 10 (p0).toNatClampNeg)).toInt64) → ((vp_in p0 24) ∧ ((((I 6 (p0).toNatClampNeg) = nI 0) → (Φ ((p1 * y_1) / (1000 : Int64)) I J S L)) ∧ (((I 6 (p0).toNatClampNeg) = nI 1) → ((vp_in p0 24) ∧ (∀ y_2 : Int64, y_2 = (if ((y_1 * (1000000 : Int64)) - (J 30 (p0).toNatClampNeg)) < p1 then ((y_1 * (1000000 : Int64)) - (J 30 (p0).toNatClampNeg)) else p1) → (Φ y_2 I J S L)))) ∧ (((I 6 (p0).toNatClampNeg) = nI 2) → (Φ (0 : Int64) I J S L)) ∧ (((I 6 (p0).toNatClampNeg) = nI 3) → ((vp_in p0 24) ∧ ((vp_in p0 24) ∧ (∀ y_3 : Int64, y_3 = (if (((((I 11 (p0).toNatClampNeg)).toInt64) * (1000000 : Int64)) - (J 31 (p0).toNatClampNeg)) < (0 : Int64) then (0 : Int64) else (((((I 11 (p0).toNatClampNeg)).toInt64) * (1000000 : Int64)) - (J 31 (p0).toNatClampNeg))) → (∀ y_4 : Int64, y_4 = (if y_3 < p1 then y_3 else p1) → ((vp_in p0 24) ∧ (Φ (((y_4 * y_1) / (1000 : Int64)) + (((p1 - y_4) * (((I 12 (p0).toNatClampNeg)).toInt64)) / (1000 : Int64))) I J S L))))))) ∧ (((I 6 (p0).toNatClampNeg) = nI 4) → (Φ ((p1 * y_1) / (1000 : Int64)) I J S L)) ∧ ((∀ k, k < 5 → ¬ (I 6 (p0).toNatClampNeg) = nI k) → (Φ (0 : Int64) I J S L)))))
theorem kX2_takenBy_4 : Cond.constantLong RX2 197 (1000) ∈ wsX2_takenBy := List.mem_of_getElem? (i := 4) rfl
theorem kX2_takenBy_7 : Cond.methodLink RX2 147 Lib.MathLoose.min_long.x ∈ wsX2_takenBy := List.mem_of_getElem? (i := 7) rfl
theorem kX2_takenBy_8 : Cond.static Lib.MathLoose.min_long.x ∈ wsX2_takenBy := List.mem_of_getElem? (i := 8) rfl
theorem kX2_takenBy_9 : Cond.initialized "java/lang/Math" ∈ wsX2_takenBy := List.mem_of_getElem? (i := 9) rfl
theorem kX2_takenBy_10 : Cond.code Lib.MathLoose.min_long.x Lib.MathLoose.min_long.code 4 (some .long) ∈ wsX2_takenBy := List.mem_of_getElem? (i := 10) rfl
theorem nX2_takenBy_X2 : ∀ w ∈ wsX20, w ∈ wsX2_takenBy := fun _ h => List.mem_cons_of_mem _ (List.mem_append_left _ (List.mem_append_right _ h))
theorem kX2_takenBy_6 : Cond.fieldLink RX2 25 "SongOffice$Ledger" "kept" "[J" ∈ wsX2_takenBy := List.mem_of_getElem? (i := 6) rfl
theorem kX2_takenBy_5 : Cond.constantLong RX2 110 (1000000) ∈ wsX2_takenBy := List.mem_of_getElem? (i := 5) rfl
theorem nX2_takenBy_X0 : ∀ w ∈ wsX00, w ∈ wsX2_takenBy := fun _ h => List.mem_cons_of_mem _ (List.mem_append_right _ h)
theorem kX2_takenBy_16 : Cond.fieldLink RX2 232 "SongOffice$BargainBook" "z" "[I" ∈ wsX2_takenBy := List.mem_of_getElem? (i := 16) rfl
theorem kX2_takenBy_1 : Cond.fieldLink RX2 45 "SongOffice$Ledger" "bargains" "LSongOffice$BargainBook;" ∈ wsX2_takenBy := List.mem_of_getElem? (i := 1) rfl
theorem kX2_takenBy_13 : Cond.methodLink RX2 229 Lib.MathLoose.max_long.x ∈ wsX2_takenBy := List.mem_of_getElem? (i := 13) rfl
theorem kX2_takenBy_14 : Cond.static Lib.MathLoose.max_long.x ∈ wsX2_takenBy := List.mem_of_getElem? (i := 14) rfl
theorem kX2_takenBy_15 : Cond.code Lib.MathLoose.max_long.x Lib.MathLoose.max_long.code 4 (some .long) ∈ wsX2_takenBy := List.mem_of_getElem? (i := 15) rfl
theorem kX2_takenBy_12 : Cond.fieldLink RX2 28 "SongOffice$Ledger" "came" "[J" ∈ wsX2_takenBy := List.mem_of_getElem? (i := 12) rfl
theorem kX2_takenBy_11 : Cond.fieldLink RX2 226 "SongOffice$BargainBook" "y" "[I" ∈ wsX2_takenBy := List.mem_of_getElem? (i := 11) rfl
theorem kX2_takenBy_3 : Cond.fieldLink RX2 116 "SongOffice$BargainBook" "kinds" "[I" ∈ wsX2_takenBy := List.mem_of_getElem? (i := 3) rfl
theorem kX2_takenBy_2 : Cond.fieldLink RX2 121 "SongOffice$BargainBook" "x" "[I" ∈ wsX2_takenBy := List.mem_of_getElem? (i := 2) rfl
abbrev rmX2_takenBy : Room := { frames := 1, cells := 0, slots := 0, locals := 40 }
set_option maxHeartbeats 4000000 in
set_option maxRecDepth 100000 in
theorem c_X2_takenBy (l : Launch) (dC : Nat → ClassId) (dI : Nat → Nat → Nat) (a : Nat → Nat) (cy : Nat → ClassId) (n0 n1 : Nat) (sz : Nat) (I : TI) (J : TJ) (S : TS) (L : TL) (p0 : Int32) (p1 : Int64) (Φ : Int64 → TI → TJ → TS → TL → Prop) (h : wp_X2_takenBy n0 n1 I J S L p0 p1 Φ) : Met l yX2_takenBy wsX2_takenBy rmX2_takenBy (va_Pc [.ref (a 25), .int p0, .long p1] (gpre dC dI (wL a cy n0 n1 I J S L) (tyL cy) sz)) (gQl dC dI (wL a cy n0 n1) (tyL cy) (va_A (wL a cy n0 n1 I J S L) sz) Φ) 0 0 (va_A (wL a cy n0 n1 I J S L) sz) := by
  refine Met.ofW (cc := cX2_takenBy) (maxL := 8) (ret := (some .long)) (by decide) rfl ?_
  intro p e s m args below meth c s₁ B hml hv
  obtain ⟨hargs, hsz, hP, hK, hD0, hN⟩ := hv
  have hx := B.exec
  have hb := B.bytes
  have hr := B.returns
  have hts := atoms_spec (ws := wsX2_takenBy) B.pre
  have hown : s.vm.findClass RX2 = some m.cls := findClass_of_methodNamed B.named
  have hlocks := B.notSynchronized
  subst hsz
  have hD := hD0.self (sz := s.heap.size)
  generalize hAe : va_A (wL a cy n0 n1 I J S L) s.heap.size = A at hD ⊢
  have hA : ∀ q : Nat, s.heap.size ≤ q → A q := fun q h => by rw [← hAe]; exact Or.inr h
  obtain ⟨H, hH⟩ : ∃ z : Heap, z = s.heap := ⟨_, rfl⟩
  rw [← hH] at hP
  have hS : va_S A s.heap H [] := by rw [hH]; exact va_S.rf
  have hl := lv_entry ([.ref (a 25), .int p0, .long p1]) (n := 8) (Nat.le_of_ble_eq_true rfl)
  have hE : entryFrame m args 8 = F0 m 0 ((lg_sl ([.ref (a 25), .int p0, .long p1]) ++ List.replicate (8 - (lg_sl ([.ref (a 25), .int p0, .long p1])).length) Slot.unset).toArray) [] := by rw [hargs]; exact lg_entry_eq m _ _
  rw [hE, ← hH]
  clear hE
  generalize (lg_sl ([.ref (a 25), .int p0, .long p1]) ++ List.replicate (8 - (lg_sl ([.ref (a 25), .int p0, .long p1])).length) Slot.unset).toArray = ls at hl ⊢
  have hl : lv_has ls 8 [(0, .ref (a 25)), (1, .int p0), (2, .long p1)] := hl
  unfold wp_X2_takenBy at h
  refine lv_aload_n hx hb dX2_takenBy_0 rfl (lv_at hl 0 rfl) ?_
  refine va_get (D := (dC, dI)) (ci := 2) (v := .ref (a 5)) (C := RX2) (T := TX2) (N := 16) hx hb hts nX2_takenBy_X2 hown hK hP 25 (wL_at25 _ _ _ _ _ _ _ _) rfl 13 (by decide) (hts (.fieldLink RX2 45 "SongOffice$Ledger" "bargains" "LSongOffice$BargainBook;") kX2_takenBy_1) (fun _ h9 => h9) rfl dX2_takenBy_1 ?_
  refine va_get (D := (dC, dI)) (ci := 0) (v := .ref (a 10)) (C := RX0) (T := TX0) (N := 9) hx hb hts nX2_takenBy_X0 hown hK hP 5 (wL_at5 _ _ _ _ _ _ _ _) rfl 4 (by decide) (hts (.fieldLink RX2 121 "SongOffice$BargainBook" "x" "[I") kX2_takenBy_2) (fun _ h9 => h9) rfl dX2_takenBy_4 ?_
  refine lv_iload_n hx hb dX2_takenBy_7 rfl (lv_at hl 1 rfl) ?_
  obtain ⟨hi, h⟩ := h
  refine va_iald hx hb hK hP 10 8 (wL_at10 _ _ _ _ _ _ _ _) rfl hi dX2_takenBy_8 ?_
  refine lv_i2l (v := (((I 10 (p0).toNatClampNeg)).toInt64)) hx hb dX2_takenBy_9 rfl ?_
  refine lv_topl (fun y_1 ey_1 => ?_)
  have h := h y_1 ey_1
  refine lv_lstore (lv' := [(4, .long y_1), (0, .ref (a 25)), (1, .int p0), (2, .long p1)]) hx hb dX2_takenBy_10 hl (by decide) rfl (fun ls hl => ?_)
  refine lv_aload_n hx hb dX2_takenBy_12 rfl (lv_at hl 1 rfl) ?_
  refine va_get (D := (dC, dI)) (ci := 2) (v := .ref (a 5)) (C := RX2) (T := TX2) (N := 16) hx hb hts nX2_takenBy_X2 hown hK hP 25 (wL_at25 _ _ _ _ _ _ _ _) rfl 13 (by decide) (hts (.fieldLink RX2 45 "SongOffice$Ledger" "bargains" "LSongOffice$BargainBook;") kX2_takenBy_1) (fun _ h9 => h9) rfl dX2_takenBy_13 ?_
  refine va_get (D := (dC, dI)) (ci := 0) (v := .ref (a 6)) (C := RX0) (T := TX0) (N := 9) hx hb hts nX2_takenBy_X0 hown hK hP 5 (wL_at5 _ _ _ _ _ _ _ _) rfl 0 (by decide) (hts (.fieldLink RX2 116 "SongOffice$BargainBook" "kinds" "[I") kX2_takenBy_3) (fun _ h9 => h9) rfl dX2_takenBy_16 ?_
  refine lv_iload_n hx hb dX2_takenBy_19 rfl (lv_at hl 2 rfl) ?_
  obtain ⟨hi, h⟩ := h
  refine va_iald hx hb hK hP 6 4 (wL_at6 _ _ _ _ _ _ _ _) rfl hi dX2_takenBy_20 ?_
  by_cases hc0 : (I 6 (p0).toNatClampNeg) = nI 0
  · have h := h.1 hc0
    refine lv_tableIn (off := 35) (tgt := 56) hx hb dX2_takenBy_21 (by rw [hc0]; decide) (by rw [hc0]; decide) (by rw [hc0]; decide) (by decide) ?_
    refine lv_lload_n hx hb dX2_takenBy_56 rfl (lv_at hl 3 rfl) ?_
    refine lv_lload hx hb dX2_takenBy_57 (lv_at hl 0 rfl) ?_
    refine lv_lmul hx hb dX2_takenBy_59 ?_
    refine lv_ldc2 (v := 1000) hx hb hown (hts (.constantLong RX2 197 (1000)) kX2_takenBy_4) dX2_takenBy_60 ?_
    refine lv_ldiv hx hb dX2_takenBy_63 (by decide) ?_
    exact grl hx hb hr hlocks hP hK hD hS h dX2_takenBy_64
  by_cases hc1 : (I 6 (p0).toNatClampNeg) = nI 1
  · have h := h.2.1 hc1
    refine lv_tableIn (off := 44) (tgt := 65) hx hb dX2_takenBy_21 (by rw [hc1]; decide) (by rw [hc1]; decide) (by rw [hc1]; decide) (by decide) ?_
    refine lv_lload_n hx hb dX2_takenBy_65 rfl (lv_at hl 3 rfl) ?_
    refine lv_lload hx hb dX2_takenBy_66 (lv_at hl 0 rfl) ?_
    refine lv_ldc2 (v := 1000000) hx hb hown (hts (.constantLong RX2 110 (1000000)) kX2_takenBy_5) dX2_takenBy_68 ?_
    refine lv_lmul hx hb dX2_takenBy_71 ?_
    refine lv_aload_n hx hb dX2_takenBy_72 rfl (lv_at hl 1 rfl) ?_
    refine va_get (D := (dC, dI)) (ci := 2) (v := .ref (a 30)) (C := RX2) (T := TX2) (N := 16) hx hb hts nX2_takenBy_X2 hown hK hP 25 (wL_at25 _ _ _ _ _ _ _ _) rfl 4 (by decide) (hts (.fieldLink RX2 25 "SongOffice$Ledger" "kept" "[J") kX2_takenBy_6) (fun _ h9 => h9) rfl dX2_takenBy_73 ?_
    refine lv_iload_n hx hb dX2_takenBy_76 rfl (lv_at hl 2 rfl) ?_
    obtain ⟨hi, h⟩ := h
    refine va_lald hx hb hK hP 30 25 (wL_at30 _ _ _ _ _ _ _ _) rfl hi dX2_takenBy_77 ?_
    refine lv_lsub hx hb dX2_takenBy_78 ?_
    refine va_mmin_long hx hb (hml.trans hl.1.symm) hown (hts (.methodLink RX2 147 Lib.MathLoose.min_long.x) kX2_takenBy_7) (hts (.static Lib.MathLoose.min_long.x) kX2_takenBy_8) (hts (.initialized "java/lang/Math") kX2_takenBy_9) (hts (.code Lib.MathLoose.min_long.x Lib.MathLoose.min_long.code 4 (some .long)) kX2_takenBy_10) (Nat.le_of_ble_eq_true rfl) (Nat.le_of_ble_eq_true rfl) (Nat.le_of_ble_eq_true rfl) (Nat.le_of_ble_eq_true rfl) dX2_takenBy_79 ?_
    refine lv_topl (fun y_2 ey_2 => ?_)
    have h := h y_2 ey_2
    exact grl hx hb hr hlocks hP hK hD hS h dX2_takenBy_82
  by_cases hc2 : (I 6 (p0).toNatClampNeg) = nI 2
  · have h := h.2.2.1 hc2
    refine lv_tableIn (off := 123) (tgt := 144) hx hb dX2_takenBy_21 (by rw [hc2]; decide) (by rw [hc2]; decide) (by rw [hc2]; decide) (by decide) ?_
    refine lv_lconst (v := 0) hx hb dX2_takenBy_144 (by decide) ?_
    exact grl hx hb hr hlocks hP hK hD hS h dX2_takenBy_145
  by_cases hc3 : (I 6 (p0).toNatClampNeg) = nI 3
  · have h := h.2.2.2.1 hc3
    refine lv_tableIn (off := 62) (tgt := 83) hx hb dX2_takenBy_21 (by rw [hc3]; decide) (by rw [hc3]; decide) (by rw [hc3]; decide) (by decide) ?_
    refine lv_lload_n hx hb dX2_takenBy_83 rfl (lv_at hl 3 rfl) ?_
    refine lv_lconst (v := 0) hx hb dX2_takenBy_84 (by decide) ?_
    refine lv_aload_n hx hb dX2_takenBy_85 rfl (lv_at hl 1 rfl) ?_
    refine va_get (D := (dC, dI)) (ci := 2) (v := .ref (a 5)) (C := RX2) (T := TX2) (N := 16) hx hb hts nX2_takenBy_X2 hown hK hP 25 (wL_at25 _ _ _ _ _ _ _ _) rfl 13 (by decide) (hts (.fieldLink RX2 45 "SongOffice$Ledger" "bargains" "LSongOffice$BargainBook;") kX2_takenBy_1) (fun _ h9 => h9) rfl dX2_takenBy_86 ?_
    refine va_get (D := (dC, dI)) (ci := 0) (v := .ref (a 11)) (C := RX0) (T := TX0) (N := 9) hx hb hts nX2_takenBy_X0 hown hK hP 5 (wL_at5 _ _ _ _ _ _ _ _) rfl 5 (by decide) (hts (.fieldLink RX2 226 "SongOffice$BargainBook" "y" "[I") kX2_takenBy_11) (fun _ h9 => h9) rfl dX2_takenBy_89 ?_
    refine lv_iload_n hx hb dX2_takenBy_92 rfl (lv_at hl 2 rfl) ?_
    obtain ⟨hi, h⟩ := h
    refine va_iald hx hb hK hP 11 9 (wL_at11 _ _ _ _ _ _ _ _) rfl hi dX2_takenBy_93 ?_
    refine lv_i2l (v := (((I 11 (p0).toNatClampNeg)).toInt64)) hx hb dX2_takenBy_94 rfl ?_
    refine lv_ldc2 (v := 1000000) hx hb hown (hts (.constantLong RX2 110 (1000000)) kX2_takenBy_5) dX2_takenBy_95 ?_
    refine lv_lmul hx hb dX2_takenBy_98 ?_
    refine lv_aload_n hx hb dX2_takenBy_99 rfl (lv_at hl 1 rfl) ?_
    refine va_get (D := (dC, dI)) (ci := 2) (v := .ref (a 31)) (C := RX2) (T := TX2) (N := 16) hx hb hts nX2_takenBy_X2 hown hK hP 25 (wL_at25 _ _ _ _ _ _ _ _) rfl 5 (by decide) (hts (.fieldLink RX2 28 "SongOffice$Ledger" "came" "[J") kX2_takenBy_12) (fun _ h9 => h9) rfl dX2_takenBy_100 ?_
    refine lv_iload_n hx hb dX2_takenBy_103 rfl (lv_at hl 2 rfl) ?_
    obtain ⟨hi, h⟩ := h
    refine va_lald hx hb hK hP 31 26 (wL_at31 _ _ _ _ _ _ _ _) rfl hi dX2_takenBy_104 ?_
    refine lv_lsub hx hb dX2_takenBy_105 ?_
    refine va_mmax_long hx hb (hml.trans hl.1.symm) hown (hts (.methodLink RX2 229 Lib.MathLoose.max_long.x) kX2_takenBy_13) (hts (.static Lib.MathLoose.max_long.x) kX2_takenBy_14) (hts (.initialized "java/lang/Math") kX2_takenBy_9) (hts (.code Lib.MathLoose.max_long.x Lib.MathLoose.max_long.code 4 (some .long)) kX2_takenBy_15) (Nat.le_of_ble_eq_true rfl) (Nat.le_of_ble_eq_true rfl) (Nat.le_of_ble_eq_true rfl) (Nat.le_of_ble_eq_true rfl) dX2_takenBy_106 ?_
    refine lv_topl (fun y_3 ey_3 => ?_)
    have h := h y_3 ey_3
    refine va_mmin_long hx hb (hml.trans hl.1.symm) hown (hts (.methodLink RX2 147 Lib.MathLoose.min_long.x) kX2_takenBy_7) (hts (.static Lib.MathLoose.min_long.x) kX2_takenBy_8) (hts (.initialized "java/lang/Math") kX2_takenBy_9) (hts (.code Lib.MathLoose.min_long.x Lib.MathLoose.min_long.code 4 (some .long)) kX2_takenBy_10) (Nat.le_of_ble_eq_true rfl) (Nat.le_of_ble_eq_true rfl) (Nat.le_of_ble_eq_true rfl) (Nat.le_of_ble_eq_true rfl) dX2_takenBy_109 ?_
    refine lv_topl (fun y_4 ey_4 => ?_)
    have h := h y_4 ey_4
    refine lv_lstore (lv' := [(6, .long y_4), (4, .long y_1), (0, .ref (a 25)), (1, .int p0), (2, .long p1)]) hx hb dX2_takenBy_112 hl (by decide) rfl (fun ls hl => ?_)
    refine lv_lload hx hb dX2_takenBy_114 (lv_at hl 0 rfl) ?_
    refine lv_lload hx hb dX2_takenBy_116 (lv_at hl 1 rfl) ?_
    refine lv_lmul hx hb dX2_takenBy_118 ?_
    refine lv_ldc2 (v := 1000) hx hb hown (hts (.constantLong RX2 197 (1000)) kX2_takenBy_4) dX2_takenBy_119 ?_
    refine lv_ldiv hx hb dX2_takenBy_122 (by decide) ?_
    refine lv_lload_n hx hb dX2_takenBy_123 rfl (lv_at hl 4 rfl) ?_
    refine lv_lload hx hb dX2_takenBy_124 (lv_at hl 0 rfl) ?_
    refine lv_lsub hx hb dX2_takenBy_126 ?_
    refine lv_aload_n hx hb dX2_takenBy_127 rfl (lv_at hl 2 rfl) ?_
    refine va_get (D := (dC, dI)) (ci := 2) (v := .ref (a 5)) (C := RX2) (T := TX2) (N := 16) hx hb hts nX2_takenBy_X2 hown hK hP 25 (wL_at25 _ _ _ _ _ _ _ _) rfl 13 (by decide) (hts (.fieldLink RX2 45 "SongOffice$Ledger" "bargains" "LSongOffice$BargainBook;") kX2_takenBy_1) (fun _ h9 => h9) rfl dX2_takenBy_128 ?_
    refine va_get (D := (dC, dI)) (ci := 0) (v := .ref (a 12)) (C := RX0) (T := TX0) (N := 9) hx hb hts nX2_takenBy_X0 hown hK hP 5 (wL_at5 _ _ _ _ _ _ _ _) rfl 6 (by decide) (hts (.fieldLink RX2 232 "SongOffice$BargainBook" "z" "[I") kX2_takenBy_16) (fun _ h9 => h9) rfl dX2_takenBy_131 ?_
    refine lv_iload_n hx hb dX2_takenBy_134 rfl (lv_at hl 3 rfl) ?_
    obtain ⟨hi, h⟩ := h
    refine va_iald hx hb hK hP 12 10 (wL_at12 _ _ _ _ _ _ _ _) rfl hi dX2_takenBy_135 ?_
    refine lv_i2l (v := (((I 12 (p0).toNatClampNeg)).toInt64)) hx hb dX2_takenBy_136 rfl ?_
    refine lv_lmul hx hb dX2_takenBy_137 ?_
    refine lv_ldc2 (v := 1000) hx hb hown (hts (.constantLong RX2 197 (1000)) kX2_takenBy_4) dX2_takenBy_138 ?_
    refine lv_ldiv hx hb dX2_takenBy_141 (by decide) ?_
    refine lv_ladd hx hb dX2_takenBy_142 ?_
    exact grl hx hb hr hlocks hP hK hD hS h dX2_takenBy_143
  by_cases hc4 : (I 6 (p0).toNatClampNeg) = nI 4
  · have h := h.2.2.2.2.1 hc4
    refine lv_tableIn (off := 35) (tgt := 56) hx hb dX2_takenBy_21 (by rw [hc4]; decide) (by rw [hc4]; decide) (by rw [hc4]; decide) (by decide) ?_
    refine lv_lload_n hx hb dX2_takenBy_56 rfl (lv_at hl 3 rfl) ?_
    refine lv_lload hx hb dX2_takenBy_57 (lv_at hl 0 rfl) ?_
    refine lv_lmul hx hb dX2_takenBy_59 ?_
    refine lv_ldc2 (v := 1000) hx hb hown (hts (.constantLong RX2 197 (1000)) kX2_takenBy_4) dX2_takenBy_60 ?_
    refine lv_ldiv hx hb dX2_takenBy_63 (by decide) ?_
    exact grl hx hb hr hlocks hP hK hD hS h dX2_takenBy_64
  have hno : ∀ k, k < 5 → ¬ (I 6 (p0).toNatClampNeg) = nI k := fun k hk => by rcases (show k = 0 ∨ k = 1 ∨ k = 2 ∨ k = 3 ∨ k = 4 by omega) with rfl | rfl | rfl | rfl | rfl <;> assumption
  have h := h.2.2.2.2.2 hno
  refine lv_tableOut (tgt := 144) hx hb dX2_takenBy_21 (sw_out 5 (by decide) hno) (by decide) ?_
  refine lv_lconst (v := 0) hx hb dX2_takenBy_144 (by decide) ?_
  exact grl hx hb hr hlocks hP hK hD hS h dX2_takenBy_145
