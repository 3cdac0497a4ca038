theorem kX1_init_1 : Cond.methodLink RX1 1 objectInit ∈ wsX1_init := List.mem_of_getElem? (i := 1) rfl
theorem kX1_init_2 : Cond.instanceMethod objectInit ∈ wsX1_init := List.mem_of_getElem? (i := 2) rfl
theorem kX1_init_3 : Cond.code objectInit ⟨#[0xb1]⟩ 1 none ∈ wsX1_init := List.mem_of_getElem? (i := 3) rfl
theorem nX1_init_X1 : ∀ w ∈ wsX10, w ∈ wsX1_init := fun _ h => List.mem_cons_of_mem _ (List.mem_append_right _ h)
theorem kX1_init_4 : Cond.fieldLink RX1 7 "SongOffice$Books" "shares" "LSongOffice$ShareBook;" ∈ wsX1_init := List.mem_of_getElem? (i := 4) rfl
theorem kX1_init_5 : Cond.fieldLink RX1 13 "SongOffice$Books" "bargains" "LSongOffice$BargainBook;" ∈ wsX1_init := List.mem_of_getElem? (i := 5) rfl
theorem kX1_init_6 : Cond.fieldLink RX1 17 "SongOffice$Books" "reports" "LSongOffice$ReportBook;" ∈ wsX1_init := List.mem_of_getElem? (i := 6) rfl
theorem kX1_init_7 : Cond.fieldLink RX1 21 "SongOffice$Books" "sentBack" "LSongOffice$SentBook;" ∈ wsX1_init := List.mem_of_getElem? (i := 7) rfl
abbrev rmX1_init : Room := { frames := 1, cells := 0, slots := 0, locals := 40 }
set_option maxHeartbeats 4000000 in
set_option maxRecDepth 100000 in
theorem c_X1_init (l : Launch) (dC : Nat → ClassId) (dI : Nat → Nat → Nat) (h0 b1 b2 b3 b4 : Nat) (sz : Nat) : Met l yX1_init wsX1_init rmX1_init (va_Pc [.ref h0, .ref b1, .ref b2, .ref b3, .ref b4] (gpre dC dI [(h0, .inr (1, [.null, .null, .null, .null]))] [] sz)) (va_Qv (fun u : (Nat → Nat) × (Nat → ClassId) => True) (fun u t => gat dC dI [(h0, .inr (1, [.ref b1, .ref b2, .ref b3, .ref b4]))] [] (va_A [(h0, .inr (1, [.null, .null, .null, .null]))] sz) t) (va_A [(h0, .inr (1, [.null, .null, .null, .null]))] sz)) 0 0 (va_A [(h0, .inr (1, [.null, .null, .null, .null]))] sz) := by
  refine Met.ofW (cc := cX1_init) (maxL := 5) (ret := none) (by decide) rfl ?_
  intro p e s m args below meth c s₁ B hml hv
  obtain ⟨hargs, hv⟩ := hv
  obtain ⟨hsz, hP, hK, hD0, hN⟩ := hv
  have hx := B.exec
  have hb := B.bytes
  have hr := B.returns
  have hts := atoms_spec (ws := wsX1_init) B.pre
  have hown : s.vm.findClass RX1 = some m.cls := findClass_of_methodNamed B.named
  have hin : meth.name = "<init>" := (name_of_methodNamed B.named B.method).1
  have hlocks := B.notSynchronized
  subst hsz
  have hD := hD0.self (sz := s.heap.size)
  generalize hAe : va_A [(h0, .inr (1, [.null, .null, .null, .null]))] s.heap.size = A at hD ⊢
  have hA : ∀ q : Nat, s.heap.size ≤ q → A q := fun q h => by rw [← hAe]; exact Or.inr h
  have hS : va_S A s.heap s.heap [] := va_S.rf
  have hl := lv_entry ([.ref h0, .ref b1, .ref b2, .ref b3, .ref b4]) (n := 5) (Nat.le_of_ble_eq_true rfl)
  have hE : entryFrame m args 5 = F0 m 0 ((lg_sl ([.ref h0, .ref b1, .ref b2, .ref b3, .ref b4]) ++ List.replicate (5 - (lg_sl ([.ref h0, .ref b1, .ref b2, .ref b3, .ref b4])).length) Slot.unset).toArray) [] := by rw [hargs]; exact lg_entry_eq m _ _
  rw [hE]
  clear hE
  generalize (lg_sl ([.ref h0, .ref b1, .ref b2, .ref b3, .ref b4]) ++ List.replicate (5 - (lg_sl ([.ref h0, .ref b1, .ref b2, .ref b3, .ref b4])).length) Slot.unset).toArray = ls at hl ⊢
  have hl : lv_has ls 5 [(0, .ref h0), (1, .ref b1), (2, .ref b2), (3, .ref b3), (4, .ref b4)] := hl
  refine lv_aload_n hx hb dX1_init_0 rfl (lv_at hl 0 rfl) ?_
  refine W.objInit hx hb hown (hts (.methodLink RX1 1 objectInit) kX1_init_1) (hts (.instanceMethod objectInit) kX1_init_2) (hts (.code objectInit ⟨#[0xb1]⟩ 1 none) kX1_init_3) rfl (by rw [hml]; exact hl.1) rfl dX1_init_1 (Nat.le_of_ble_eq_true rfl) (Nat.le_of_ble_eq_true rfl) ?_
  refine W.eq (g2 := F0 m 4 ls []) rfl ?_
  refine lv_aload_n hx hb dX1_init_4 rfl (lv_at hl 0 rfl) ?_
  refine lv_aload_n hx hb dX1_init_5 rfl (lv_at hl 1 rfl) ?_
  refine va_putF (D := (dC, dI)) (ci := 1) (v := .ref b1) (ty := .object "SongOffice$ShareBook") (C := RX1) (T := TX1) (N := 4) hx hb hts nX1_init_X1 tyX1 tyX1_ok nmX1 hown hK hP hD hS 0 rfl rfl 0 (by decide) (hts (.fieldLink RX1 7 "SongOffice$Books" "shares" "LSongOffice$ShareBook;") kX1_init_4) (fun _ h9 => h9) rfl hin rfl (by decide +kernel) rfl rfl (Nat.le_of_ble_eq_true rfl) dX1_init_6 (fun H locs hP hD hS => ?_)
  have hP : va_P (dC, dI) vwCl [(h0, .inr (1, [.ref b1, .null, .null, .null]))] H := hP
  have hD : va_D A [(h0, .inr (1, [.ref b1, .null, .null, .null]))] := hD
  refine lv_aload_n hx hb dX1_init_9 rfl (lv_at hl 0 rfl) ?_
  refine lv_aload_n hx hb dX1_init_10 rfl (lv_at hl 2 rfl) ?_
  refine va_putF (D := (dC, dI)) (ci := 1) (v := .ref b2) (ty := .object "SongOffice$BargainBook") (C := RX1) (T := TX1) (N := 4) hx hb hts nX1_init_X1 tyX1 tyX1_ok nmX1 hown hK hP hD hS 0 rfl rfl 1 (by decide) (hts (.fieldLink RX1 13 "SongOffice$Books" "bargains" "LSongOffice$BargainBook;") kX1_init_5) (fun _ h9 => h9) rfl hin rfl (by decide +kernel) rfl rfl (Nat.le_of_ble_eq_true rfl) dX1_init_11 (fun H locs hP hD hS => ?_)
  have hP : va_P (dC, dI) vwCl [(h0, .inr (1, [.ref b1, .ref b2, .null, .null]))] H := hP
  have hD : va_D A [(h0, .inr (1, [.ref b1, .ref b2, .null, .null]))] := hD
  refine lv_aload_n hx hb dX1_init_14 rfl (lv_at hl 0 rfl) ?_
  refine lv_aload_n hx hb dX1_init_15 rfl (lv_at hl 3 rfl) ?_
  refine va_putF (D := (dC, dI)) (ci := 1) (v := .ref b3) (ty := .object "SongOffice$ReportBook") (C := RX1) (T := TX1) (N := 4) hx hb hts nX1_init_X1 tyX1 tyX1_ok nmX1 hown hK hP hD hS 0 rfl rfl 2 (by decide) (hts (.fieldLink RX1 17 "SongOffice$Books" "reports" "LSongOffice$ReportBook;") kX1_init_6) (fun _ h9 => h9) rfl hin rfl (by decide +kernel) rfl rfl (Nat.le_of_ble_eq_true rfl) dX1_init_16 (fun H locs hP hD hS => ?_)
  have hP : va_P (dC, dI) vwCl [(h0, .inr (1, [.ref b1, .ref b2, .ref b3, .null]))] H := hP
  have hD : va_D A [(h0, .inr (1, [.ref b1, .ref b2, .ref b3, .null]))] := hD
  refine lv_aload_n hx hb dX1_init_19 rfl (lv_at hl 0 rfl) ?_
  refine lv_aload hx hb dX1_init_20 (lv_at hl 4 rfl) ?_
  refine va_putF (D := (dC, dI)) (ci := 1) (v := .ref b4) (ty := .object "SongOffice$SentBook") (C := RX1) (T := TX1) (N := 4) hx hb hts nX1_init_X1 tyX1 tyX1_ok nmX1 hown hK hP hD hS 0 rfl rfl 3 (by decide) (hts (.fieldLink RX1 21 "SongOffice$Books" "sentBack" "LSongOffice$SentBook;") kX1_init_7) (fun _ h9 => h9) rfl hin rfl (by decide +kernel) rfl rfl (Nat.le_of_ble_eq_true rfl) dX1_init_22 (fun H locs hP hD hS => ?_)
  have hP : va_P (dC, dI) vwCl [(h0, .inr (1, [.ref b1, .ref b2, .ref b3, .ref b4]))] H := hP
  have hD : va_D A [(h0, .inr (1, [.ref b1, .ref b2, .ref b3, .ref b4]))] := hD
  have hP9 : va_P (dC, dI) vwCl [(h0, .inr (1, [.ref b1, .ref b2, .ref b3, .ref b4]))] H := hP.sub [0] rfl
  have hD9 : va_D A [(h0, .inr (1, [.ref b1, .ref b2, .ref b3, .ref b4]))] := hD.sub [0] (by decide) rfl
  have hK9 : va_K (dC, dI) vwCl [] s := hK.sub [] rfl
  refine W.widen (k := 0) (n := 0) (by first | exact Nat.le_refl _ | exact Nat.add_le_add_left hp3 _) (by first | exact Nat.le_refl _ | exact Nat.add_le_add_left hp3 _) ?_
  exact W.vret hx hb hr (fun t ht hW => ⟨⟨(fun _ => 0, dC), rfl, trivial, by rw [ht]; exact hP9, va_K.moved hW.alike hK9, hD9⟩, hS.F ht⟩) hS.2.2 dX1_init_25
