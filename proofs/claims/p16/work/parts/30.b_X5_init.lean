theorem kX5_init_1 : Cond.methodLink RX5 3 objectInit ∈ wsX5_init := List.mem_of_getElem? (i := 1) rfl
theorem kX5_init_2 : Cond.instanceMethod objectInit ∈ wsX5_init := List.mem_of_getElem? (i := 2) rfl
theorem kX5_init_3 : Cond.code objectInit ⟨#[0xb1]⟩ 1 none ∈ wsX5_init := List.mem_of_getElem? (i := 3) rfl
theorem kX5_init_4 : Cond.arrayClass .int ∈ wsX5_init := List.mem_of_getElem? (i := 4) rfl
theorem nX5_init_X5 : ∀ w ∈ wsX50, w ∈ wsX5_init := fun _ h => List.mem_cons_of_mem _ (List.mem_append_right _ h)
theorem kX5_init_5 : Cond.fieldLink RX5 9 "SongOffice$SentBook" "hands" "[I" ∈ wsX5_init := List.mem_of_getElem? (i := 5) rfl
theorem kX5_init_6 : Cond.fieldLink RX5 15 "SongOffice$SentBook" "coins" "[I" ∈ wsX5_init := List.mem_of_getElem? (i := 6) rfl
theorem kX5_init_7 : Cond.fieldLink RX5 18 "SongOffice$SentBook" "terms" "[I" ∈ wsX5_init := List.mem_of_getElem? (i := 7) rfl
abbrev rmX5_init : Room := { frames := 1, cells := 3, slots := 180, locals := 40 }
set_option maxHeartbeats 4000000 in
set_option maxRecDepth 100000 in
theorem c_X5_init (l : Launch) (dC : Nat → ClassId) (dI : Nat → Nat → Nat) (h0 : Nat) (sz : Nat) : Met l yX5_init wsX5_init rmX5_init (va_Pc [.ref h0] (gpre dC dI [(h0, .inr (5, [.null, .null, .null, .int 0, .long 0]))] [] sz)) (va_Qv (fun u : (Nat → Nat) × (Nat → ClassId) => True) (fun u t => gat dC dI [(h0, .inr (5, [.ref (u.1 0), .ref (u.1 1), .ref (u.1 2), .int 0, .long 0])), ((u.1 0), .inl ((u.2 0), 60, .inl (fun _ => 0))), ((u.1 1), .inl ((u.2 1), 60, .inl (fun _ => 0))), ((u.1 2), .inl ((u.2 2), 60, .inl (fun _ => 0)))] [((u.2 0), .int), ((u.2 1), .int), ((u.2 2), .int)] (va_A [(h0, .inr (5, [.null, .null, .null, .int 0, .long 0]))] sz) t) (va_A [(h0, .inr (5, [.null, .null, .null, .int 0, .long 0]))] sz)) 3 180 (va_A [(h0, .inr (5, [.null, .null, .null, .int 0, .long 0]))] sz) := by
  refine Met.ofW (cc := cX5_init) (maxL := 1) (ret := none) (by decide) rfl ?_
  intro p e s m args below meth c s₁ B hml hv
  obtain ⟨hargs, hv⟩ := hv
  obtain ⟨hsz, hP, hK, hD0, hN⟩ := hv
  have hx := B.exec
  have hb := B.bytes
  have hr := B.returns
  have hts := atoms_spec (ws := wsX5_init) B.pre
  have hown : s.vm.findClass RX5 = some m.cls := findClass_of_methodNamed B.named
  have hin : meth.name = "<init>" := (name_of_methodNamed B.named B.method).1
  have hlocks := B.notSynchronized
  subst hsz
  have hD := hD0.self (sz := s.heap.size)
  generalize hAe : va_A [(h0, .inr (5, [.null, .null, .null, .int 0, .long 0]))] s.heap.size = A at hD ⊢
  have hA : ∀ q : Nat, s.heap.size ≤ q → A q := fun q h => by rw [← hAe]; exact Or.inr h
  have hS : va_S A s.heap s.heap [] := va_S.rf
  have hl := lv_entry ([.ref h0]) (n := 1) (Nat.le_of_ble_eq_true rfl)
  have hE : entryFrame m args 1 = F0 m 0 ((lg_sl ([.ref h0]) ++ List.replicate (1 - (lg_sl ([.ref h0])).length) Slot.unset).toArray) [] := by rw [hargs]; exact lg_entry_eq m _ _
  rw [hE]
  clear hE
  generalize (lg_sl ([.ref h0]) ++ List.replicate (1 - (lg_sl ([.ref h0])).length) Slot.unset).toArray = ls at hl ⊢
  have hl : lv_has ls 1 [(0, .ref h0)] := hl
  refine lv_aload_n hx hb dX5_init_0 rfl (lv_at hl 0 rfl) ?_
  refine W.objInit hx hb hown (hts (.methodLink RX5 3 objectInit) kX5_init_1) (hts (.instanceMethod objectInit) kX5_init_2) (hts (.code objectInit ⟨#[0xb1]⟩ 1 none) kX5_init_3) rfl (by rw [hml]; exact hl.1) rfl dX5_init_1 (Nat.le_of_ble_eq_true rfl) (Nat.le_of_ble_eq_true rfl) ?_
  refine W.eq (g2 := F0 m 4 ls []) rfl ?_
  refine lv_aload_n hx hb dX5_init_4 rfl (lv_at hl 0 rfl) ?_
  refine lv_bipush (v := 60) hx hb dX5_init_5 (by decide) ?_
  refine va_newa (atype := .int) (n := 60) (N' := 60) (a0 := (60, .inl (fun _ => 0))) (ty := .int) hx hb (hts (.arrayClass .int) kX5_init_4) rfl hK hP hD hS hA (gA_int 60) (by decide) (by decide) (Nat.le_of_ble_eq_true rfl) (Nat.le_of_ble_eq_true rfl) (Nat.le_of_ble_eq_true rfl) dX5_init_7 (fun q1 t0 H hK hP hD hS => ?_)
  have hK : va_K (dC, dI) vwCl [(t0, .int)] s := hK
  have hP : va_P (dC, dI) vwCl [(h0, .inr (5, [.null, .null, .null, .int 0, .long 0])), (q1, .inl (t0, 60, .inl (fun _ => 0)))] H := hP
  have hD : va_D A [(h0, .inr (5, [.null, .null, .null, .int 0, .long 0])), (q1, .inl (t0, 60, .inl (fun _ => 0)))] := hD
  refine W.widen (k := 1) (n := 60) (by first | exact Nat.le_refl _ | exact Nat.add_le_add_left hp3 _) (by first | exact Nat.le_refl _ | exact Nat.add_le_add_left hp3 _) ?_
  refine va_putF (D := (dC, dI)) (ci := 5) (v := .ref q1) (ty := .array .int) (C := RX5) (T := TX5) (N := 5) hx hb hts nX5_init_X5 tyX5 tyX5_ok nmX5 hown hK hP hD hS 0 rfl rfl 0 (by decide) (hts (.fieldLink RX5 9 "SongOffice$SentBook" "hands" "[I") kX5_init_5) (fun _ h9 => h9) rfl hin rfl (by decide +kernel) rfl rfl (Nat.le_of_ble_eq_true rfl) dX5_init_9 (fun H locs hP hD hS => ?_)
  have hP : va_P (dC, dI) vwCl [(h0, .inr (5, [.ref q1, .null, .null, .int 0, .long 0])), (q1, .inl (t0, 60, .inl (fun _ => 0)))] H := hP
  have hD : va_D A [(h0, .inr (5, [.ref q1, .null, .null, .int 0, .long 0])), (q1, .inl (t0, 60, .inl (fun _ => 0)))] := hD
  refine lv_aload_n hx hb dX5_init_12 rfl (lv_at hl 0 rfl) ?_
  refine lv_bipush (v := 60) hx hb dX5_init_13 (by decide) ?_
  refine va_newa (atype := .int) (n := 60) (N' := 60) (a0 := (60, .inl (fun _ => 0))) (ty := .int) hx hb (hts (.arrayClass .int) kX5_init_4) rfl hK hP hD hS hA (gA_int 60) (by decide) (by decide) (Nat.le_of_ble_eq_true rfl) (Nat.le_of_ble_eq_true rfl) (Nat.le_of_ble_eq_true rfl) dX5_init_15 (fun q2 t1 H hK hP hD hS => ?_)
  have hK : va_K (dC, dI) vwCl [(t0, .int), (t1, .int)] s := hK
  have hP : va_P (dC, dI) vwCl [(h0, .inr (5, [.ref q1, .null, .null, .int 0, .long 0])), (q1, .inl (t0, 60, .inl (fun _ => 0))), (q2, .inl (t1, 60, .inl (fun _ => 0)))] H := hP
  have hD : va_D A [(h0, .inr (5, [.ref q1, .null, .null, .int 0, .long 0])), (q1, .inl (t0, 60, .inl (fun _ => 0))), (q2, .inl (t1, 60, .inl (fun _ => 0)))] := hD
  refine W.widen (k := 2) (n := 120) (by first | exact Nat.le_refl _ | exact Nat.add_le_add_left hp3 _) (by first | exact Nat.le_refl _ | exact Nat.add_le_add_left hp3 _) ?_
  refine va_putF (D := (dC, dI)) (ci := 5) (v := .ref q2) (ty := .array .int) (C := RX5) (T := TX5) (N := 5) hx hb hts nX5_init_X5 tyX5 tyX5_ok nmX5 hown hK hP hD hS 0 rfl rfl 1 (by decide) (hts (.fieldLink RX5 15 "SongOffice$SentBook" "coins" "[I") kX5_init_6) (fun _ h9 => h9) rfl hin rfl (by decide +kernel) rfl rfl (Nat.le_of_ble_eq_true rfl) dX5_init_17 (fun H locs hP hD hS => ?_)
  have hP : va_P (dC, dI) vwCl [(h0, .inr (5, [.ref q1, .ref q2, .null, .int 0, .long 0])), (q1, .inl (t0, 60, .inl (fun _ => 0))), (q2, .inl (t1, 60, .inl (fun _ => 0)))] H := hP
  have hD : va_D A [(h0, .inr (5, [.ref q1, .ref q2, .null, .int 0, .long 0])), (q1, .inl (t0, 60, .inl (fun _ => 0))), (q2, .inl (t1, 60, .inl (fun _ => 0)))] := hD
  refine lv_aload_n hx hb dX5_init_20 rfl (lv_at hl 0 rfl) ?_
  refine lv_bipush (v := 60) hx hb dX5_init_21 (by decide) ?_
  refine va_newa (atype := .int) (n := 60) (N' := 60) (a0 := (60, .inl (fun _ => 0))) (ty := .int) hx hb (hts (.arrayClass .int) kX5_init_4) rfl hK hP hD hS hA (gA_int 60) (by decide) (by decide) (Nat.le_of_ble_eq_true rfl) (Nat.le_of_ble_eq_true rfl) (Nat.le_of_ble_eq_true rfl) dX5_init_23 (fun q3 t2 H hK hP hD hS => ?_)
  have hK : va_K (dC, dI) vwCl [(t0, .int), (t1, .int), (t2, .int)] s := hK
  have hP : va_P (dC, dI) vwCl [(h0, .inr (5, [.ref q1, .ref q2, .null, .int 0, .long 0])), (q1, .inl (t0, 60, .inl (fun _ => 0))), (q2, .inl (t1, 60, .inl (fun _ => 0))), (q3, .inl (t2, 60, .inl (fun _ => 0)))] H := hP
  have hD : va_D A [(h0, .inr (5, [.ref q1, .ref q2, .null, .int 0, .long 0])), (q1, .inl (t0, 60, .inl (fun _ => 0))), (q2, .inl (t1, 60, .inl (fun _ => 0))), (q3, .inl (t2, 60, .inl (fun _ => 0)))] := hD
  refine W.widen (k := 3) (n := 180) (by first | exact Nat.le_refl _ | exact Nat.add_le_add_left hp3 _) (by first | exact Nat.le_refl _ | exact Nat.add_le_add_left hp3 _) ?_
  refine va_putF (D := (dC, dI)) (ci := 5) (v := .ref q3) (ty := .array .int) (C := RX5) (T := TX5) (N := 5) hx hb hts nX5_init_X5 tyX5 tyX5_ok nmX5 hown hK hP hD hS 0 rfl rfl 2 (by decide) (hts (.fieldLink RX5 18 "SongOffice$SentBook" "terms" "[I") kX5_init_7) (fun _ h9 => h9) rfl hin rfl (by decide +kernel) rfl rfl (Nat.le_of_ble_eq_true rfl) dX5_init_25 (fun H locs hP hD hS => ?_)
  have hP : va_P (dC, dI) vwCl [(h0, .inr (5, [.ref q1, .ref q2, .ref q3, .int 0, .long 0])), (q1, .inl (t0, 60, .inl (fun _ => 0))), (q2, .inl (t1, 60, .inl (fun _ => 0))), (q3, .inl (t2, 60, .inl (fun _ => 0)))] H := hP
  have hD : va_D A [(h0, .inr (5, [.ref q1, .ref q2, .ref q3, .int 0, .long 0])), (q1, .inl (t0, 60, .inl (fun _ => 0))), (q2, .inl (t1, 60, .inl (fun _ => 0))), (q3, .inl (t2, 60, .inl (fun _ => 0)))] := hD
  have hP9 : va_P (dC, dI) vwCl [(h0, .inr (5, [.ref ((fun k => if k = 0 then q1 else if k = 1 then q2 else q3) 0), .ref ((fun k => if k = 0 then q1 else if k = 1 then q2 else q3) 1), .ref ((fun k => if k = 0 then q1 else if k = 1 then q2 else q3) 2), .int 0, .long 0])), (((fun k => if k = 0 then q1 else if k = 1 then q2 else q3) 0), .inl (((fun k => if k = 0 then t0 else if k = 1 then t1 else t2) 0), 60, .inl (fun _ => 0))), (((fun k => if k = 0 then q1 else if k = 1 then q2 else q3) 1), .inl (((fun k => if k = 0 then t0 else if k = 1 then t1 else t2) 1), 60, .inl (fun _ => 0))), (((fun k => if k = 0 then q1 else if k = 1 then q2 else q3) 2), .inl (((fun k => if k = 0 then t0 else if k = 1 then t1 else t2) 2), 60, .inl (fun _ => 0)))] H := hP.sub [0, 1, 2, 3] rfl
  have hD9 : va_D A [(h0, .inr (5, [.ref ((fun k => if k = 0 then q1 else if k = 1 then q2 else q3) 0), .ref ((fun k => if k = 0 then q1 else if k = 1 then q2 else q3) 1), .ref ((fun k => if k = 0 then q1 else if k = 1 then q2 else q3) 2), .int 0, .long 0])), (((fun k => if k = 0 then q1 else if k = 1 then q2 else q3) 0), .inl (((fun k => if k = 0 then t0 else if k = 1 then t1 else t2) 0), 60, .inl (fun _ => 0))), (((fun k => if k = 0 then q1 else if k = 1 then q2 else q3) 1), .inl (((fun k => if k = 0 then t0 else if k = 1 then t1 else t2) 1), 60, .inl (fun _ => 0))), (((fun k => if k = 0 then q1 else if k = 1 then q2 else q3) 2), .inl (((fun k => if k = 0 then t0 else if k = 1 then t1 else t2) 2), 60, .inl (fun _ => 0)))] := hD.sub [0, 1, 2, 3] (by decide) rfl
  have hK9 : va_K (dC, dI) vwCl [(((fun k => if k = 0 then t0 else if k = 1 then t1 else t2) 0), .int), (((fun k => if k = 0 then t0 else if k = 1 then t1 else t2) 1), .int), (((fun k => if k = 0 then t0 else if k = 1 then t1 else t2) 2), .int)] s := hK.sub [0, 1, 2] rfl
  refine W.widen (k := 3) (n := 180) (by first | exact Nat.le_refl _ | exact Nat.add_le_add_left hp3 _) (by first | exact Nat.le_refl _ | exact Nat.add_le_add_left hp3 _) ?_
  exact W.vret hx hb hr (fun t ht hW => ⟨⟨((fun k => if k = 0 then q1 else if k = 1 then q2 else q3), (fun k => if k = 0 then t0 else if k = 1 then t1 else t2)), rfl, trivial, by rw [ht]; exact hP9, va_K.moved hW.alike hK9, hD9⟩, hS.F ht⟩) hS.2.2 dX5_init_28
