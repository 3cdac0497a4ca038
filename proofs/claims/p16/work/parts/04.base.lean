abbrev TI : Type := Nat → Nat → Int32
abbrev TJ : Type := Nat → Nat → Int64
abbrev TS : Type := Nat → Int32
abbrev TL : Type := Nat → Int64
abbrev TU : Type := TI × TJ × TS × TL
abbrev TW : Type := TI → TJ → TS → TL → va_W
abbrev TY : Type := List (ClassId × FieldType)
/-- the nest link of a ledger's call of passesOn: no word of a list can carry it -/
def gN (U : State) : Prop := va_Nw (.methodLinkNest RX2 208 yX7_passesOn RX7) U
def gpre (dC : Nat → ClassId) (dI : Nat → Nat → Nat) (w : va_W) (ty : TY) (sz : Nat) (U : State) : Prop := U.heap.size = sz ∧ va_P (dC, dI) vwCl w U.heap ∧ va_K (dC, dI) vwCl ty U ∧ va_D (fun _ => True) w ∧ gN U
def gat (dC : Nat → ClassId) (dI : Nat → Nat → Nat) (w : va_W) (ty : TY) (A : Nat → Prop) (t : State) : Prop := va_P (dC, dI) vwCl w t.heap ∧ va_K (dC, dI) vwCl ty t ∧ va_D A w
abbrev gQi (dC : Nat → ClassId) (dI : Nat → Nat → Nat) (Wd : TW) (ty : TY) (A : Nat → Prop) (Φ : Int32 → TI → TJ → TS → TL → Prop) : Array Value → State → Outcome → State → Prop := va_Qi (fun (r : Int32) (u : TU) => Φ r u.1 u.2.1 u.2.2.1 u.2.2.2) (fun (u : TU) t => gat dC dI (Wd u.1 u.2.1 u.2.2.1 u.2.2.2) ty A t) A
abbrev gQl (dC : Nat → ClassId) (dI : Nat → Nat → Nat) (Wd : TW) (ty : TY) (A : Nat → Prop) (Φ : Int64 → TI → TJ → TS → TL → Prop) : Array Value → State → Outcome → State → Prop := va_Ql (fun (r : Int64) (u : TU) => Φ r u.1 u.2.1 u.2.2.1 u.2.2.2) (fun (u : TU) t => gat dC dI (Wd u.1 u.2.1 u.2.2.1 u.2.2.2) ty A t) A
abbrev gQv (dC : Nat → ClassId) (dI : Nat → Nat → Nat) (Wd : TW) (ty : TY) (A : Nat → Prop) (Φ : TI → TJ → TS → TL → Prop) : Array Value → State → Outcome → State → Prop := va_Qv (fun (u : TU) => Φ u.1 u.2.1 u.2.2.1 u.2.2.2) (fun (u : TU) t => gat dC dI (Wd u.1 u.2.1 u.2.2.1 u.2.2.2) ty A t) A
theorem g_fb {dC : Nat → ClassId} {dI : Nat → Nat → Nat} {w : va_W} {ty : TY} {sz : Nat} (av : List Value) : FrameBlind (va_Pc av (gpre dC dI w ty sz)) := fun a U g mk q => by
  obtain ⟨q0, q1, qP, qK, qD, qN⟩ := q
  exact ⟨q0, q1, qP, va_K.moved (u := U) (U := U.calling g mk a) (Vm.Alike.refl U.vm) qK, qD, va_tabs (A := #[]) (u := U) rfl rfl qN⟩
theorem g_pS {s : State} {H : Heap} {A : Nat → Prop} {dC : Nat → ClassId} {dI : Nat → Nat → Nat} {w : va_W} {ty : TY} (hP : va_P (dC, dI) vwCl w H) (hK : va_K (dC, dI) vwCl ty s) (hD : va_D A w) (hN : gN s) (av : List Value) : PreS s H (va_Pc av (gpre dC dI w ty H.size)) av :=
  ⟨g_fb av, fun U hU hW => ⟨rfl, by rw [hU], by rw [hU]; exact hP, va_K.moved hW.alike hK, hD.weaken (fun _ _ _ _ => trivial), va_Nw.warmM hW hN⟩⟩
theorem g_pV {s : State} {H : Heap} {A : Nat → Prop} {dC : Nat → ClassId} {dI : Nat → Nat → Nat} {w : va_W} {ty : TY} {C : String} {b : Nat} (hP : va_P (dC, dI) vwCl w H) (hK : va_K (dC, dI) vwCl ty s) (hD : va_D A w) (hN : gN s) (hb : ∃ cell : Cell, H[b]? = some cell ∧ cell.vm.isStatics = false ∧ s.vm.findClass C = some cell.cls) (As : List Value) : PreV s H C b (va_Pc (.ref b :: As) (gpre dC dI w ty H.size)) As :=
  ⟨g_fb _, hb, fun U hU hW => ⟨rfl, by rw [hU], by rw [hU]; exact hP, va_K.moved hW.alike hK, hD.weaken (fun _ _ _ _ => trivial), va_Nw.warmM hW hN⟩⟩
theorem g_free {A0 : Nat → Prop} {w : va_W} {H0 H : Heap} {locs : List Loc} (hD : va_D A0 w) (hS : va_S A0 H0 H locs) (hA : ∀ q, H0.size ≤ q → A0 q) : ∀ q, va_A w H.size q → A0 q := by
  intro q hq
  rcases hq with ⟨k, e, hk⟩ | hq
  · exact hD.2 k _ hk
  · exact hA q (Nat.le_trans hS.1 hq)
section
variable {p : Program} {l : Launch} {e : Env} {R : Room} {s : State} {m : MethodId} {args : Array Value} {below : List Frame} {meth : Method} {c : Code} {H H0 : Heap} {locs : List Loc} {cells slots : Nat} {Q : State → Prop} {pc : Nat} {ls : Array Slot} {st0 rest : List Value} {a : Array Value} {A0 : Nat → Prop} {dC : Nat → ClassId} {dI : Nat → Nat → Nat} {Wd : TW} {ty : TY} {w : va_W}
theorem gcalli {Φ : Int32 → TI → TJ → TS → TL → Prop} (hr : va_Run p l e R s m args below meth c H locs cells slots 0 0 (F0 m pc ls st0) rest (gQi dC dI Wd ty (va_A w H.size) Φ a) (va_A w H.size)) (hS : va_S A0 H0 H locs) (hA : ∀ q, H0.size ≤ q → A0 q) (hD : va_D A0 w)
    (kk : ∀ (r : Int32) (I : TI) (J : TJ) (S : TS) (L : TL) (H1 : Heap) (locs1 : List Loc), va_P (dC, dI) vwCl (Wd I J S L) H1 → va_D A0 (Wd I J S L) → va_S A0 H0 H1 locs1 → Φ r I J S L → W p l e R s m args below meth c H1 locs1 cells slots Q (F0 m (pc + 3) ls (.int r :: rest))) : W p l e R s m args below meth c H locs cells slots Q (F0 m pc ls st0) := by
  have hF : ∀ q, va_A w H.size q → A0 q := g_free hD hS hA
  refine va_calli hr hS (fun q _ h => hF q h) hF (fun r u t H1 locs1 ht hvm hw hB hz hk hS1 => ?_)
  obtain ⟨I, J, S, L⟩ := u
  obtain ⟨hP1, hK1, hD1⟩ := hB
  rw [ht] at hP1
  exact kk r I J S L H1 locs1 hP1 (hD1.weaken (fun _ q _ hq => hF _ hq)) hS1 hw
theorem gcalll {Φ : Int64 → TI → TJ → TS → TL → Prop} (hr : va_Run p l e R s m args below meth c H locs cells slots 0 0 (F0 m pc ls st0) rest (gQl dC dI Wd ty (va_A w H.size) Φ a) (va_A w H.size)) (hS : va_S A0 H0 H locs) (hA : ∀ q, H0.size ≤ q → A0 q) (hD : va_D A0 w)
    (kk : ∀ (r : Int64) (I : TI) (J : TJ) (S : TS) (L : TL) (H1 : Heap) (locs1 : List Loc), va_P (dC, dI) vwCl (Wd I J S L) H1 → va_D A0 (Wd I J S L) → va_S A0 H0 H1 locs1 → Φ r I J S L → W p l e R s m args below meth c H1 locs1 cells slots Q (F0 m (pc + 3) ls (.long r :: rest))) : W p l e R s m args below meth c H locs cells slots Q (F0 m pc ls st0) := by
  have hF : ∀ q, va_A w H.size q → A0 q := g_free hD hS hA
  refine va_calll hr hS (fun q _ h => hF q h) hF (fun r u t H1 locs1 ht hvm hw hB hz hk hS1 => ?_)
  obtain ⟨I, J, S, L⟩ := u
  obtain ⟨hP1, hK1, hD1⟩ := hB
  rw [ht] at hP1
  exact kk r I J S L H1 locs1 hP1 (hD1.weaken (fun _ q _ hq => hF _ hq)) hS1 hw
theorem gcallv {Φ : TI → TJ → TS → TL → Prop} (hr : va_Run p l e R s m args below meth c H locs cells slots 0 0 (F0 m pc ls st0) rest (gQv dC dI Wd ty (va_A w H.size) Φ a) (va_A w H.size)) (hS : va_S A0 H0 H locs) (hA : ∀ q, H0.size ≤ q → A0 q) (hD : va_D A0 w)
    (kk : ∀ (I : TI) (J : TJ) (S : TS) (L : TL) (H1 : Heap) (locs1 : List Loc), va_P (dC, dI) vwCl (Wd I J S L) H1 → va_D A0 (Wd I J S L) → va_S A0 H0 H1 locs1 → Φ I J S L → W p l e R s m args below meth c H1 locs1 cells slots Q (F0 m (pc + 3) ls rest)) : W p l e R s m args below meth c H locs cells slots Q (F0 m pc ls st0) := by
  have hF : ∀ q, va_A w H.size q → A0 q := g_free hD hS hA
  refine va_callv hr hS (fun q _ h => hF q h) hF (fun u t H1 locs1 ht hvm hw hB hz hk hS1 => ?_)
  obtain ⟨I, J, S, L⟩ := u
  obtain ⟨hP1, hK1, hD1⟩ := hB
  rw [ht] at hP1
  exact kk I J S L H1 locs1 hP1 (hD1.weaken (fun _ q _ hq => hF _ hq)) hS1 hw
variable {cc : ByteArray} {A : Nat → Prop} {I : TI} {J : TJ} {S : TS} {L : TL}
theorem gri {Φ : Int32 → TI → TJ → TS → TL → Prop} {v : Int32} (hx : p.tables.exec = Jvm.exec) (hb : c.code = cc) (hr : meth.sig.returnType = some .int) (hlocks : meth.locks = false) (hP : va_P (dC, dI) vwCl (Wd I J S L) H) (hK : va_K (dC, dI) vwCl ty s) (hD : va_D A (Wd I J S L)) (hS : va_S A s.heap H locs) (h : Φ v I J S L) (hdg : decode cc pc = .ok (.ireturn, 1)) : W p l e R s m args below meth c H locs 0 0 (MQ below (gQi dC dI Wd ty A Φ) args s 0 0 A) (F0 m pc ls [.int v]) :=
  W.iret (v := v) hx hb hr (fun t ht hW => ⟨⟨v, (I, J, S, L), rfl, h, by rw [ht]; exact hP, va_K.moved hW.alike hK, hD⟩, hS.F ht⟩) hS.2.2 hdg (hlocks := hlocks)
theorem grz {Φ : Int32 → TI → TJ → TS → TL → Prop} {v : Int32} (hx : p.tables.exec = Jvm.exec) (hb : c.code = cc) (hr : meth.sig.returnType = some .boolean) (hlocks : meth.locks = false) (hP : va_P (dC, dI) vwCl (Wd I J S L) H) (hK : va_K (dC, dI) vwCl ty s) (hD : va_D A (Wd I J S L)) (hS : va_S A s.heap H locs) (h : (v = 0 ∨ v = 1) ∧ Φ v I J S L) (hdg : decode cc pc = .ok (.ireturn, 1)) : W p l e R s m args below meth c H locs 0 0 (MQ below (gQi dC dI Wd ty A Φ) args s 0 0 A) (F0 m pc ls [.int v]) :=
  W.zret (v := v) hx hb hr (by rcases h.1 with h | h <;> rw [h] <;> decide) (fun t ht hW => ⟨⟨v, (I, J, S, L), rfl, h.2, by rw [ht]; exact hP, va_K.moved hW.alike hK, hD⟩, hS.F ht⟩) hS.2.2 hdg (hlocks := hlocks)
theorem grl {Φ : Int64 → TI → TJ → TS → TL → Prop} {v : Int64} (hx : p.tables.exec = Jvm.exec) (hb : c.code = cc) (hr : meth.sig.returnType = some .long) (hlocks : meth.locks = false) (hP : va_P (dC, dI) vwCl (Wd I J S L) H) (hK : va_K (dC, dI) vwCl ty s) (hD : va_D A (Wd I J S L)) (hS : va_S A s.heap H locs) (h : Φ v I J S L) (hdg : decode cc pc = .ok (.lreturn, 1)) : W p l e R s m args below meth c H locs 0 0 (MQ below (gQl dC dI Wd ty A Φ) args s 0 0 A) (F0 m pc ls [.long v]) :=
  W.lret (v := v) hx hb hr (fun t ht hW => ⟨⟨v, (I, J, S, L), rfl, h, by rw [ht]; exact hP, va_K.moved hW.alike hK, hD⟩, hS.F ht⟩) hS.2.2 hdg (hlocks := hlocks)
theorem grv {Φ : TI → TJ → TS → TL → Prop} (hx : p.tables.exec = Jvm.exec) (hb : c.code = cc) (hr : meth.sig.returnType = none) (hlocks : meth.locks = false) (hP : va_P (dC, dI) vwCl (Wd I J S L) H) (hK : va_K (dC, dI) vwCl ty s) (hD : va_D A (Wd I J S L)) (hS : va_S A s.heap H locs) (h : Φ I J S L) (hdg : decode cc pc = .ok (.return_, 1)) : W p l e R s m args below meth c H locs 0 0 (MQ below (gQv dC dI Wd ty A Φ) args s 0 0 A) (F0 m pc ls []) :=
  W.vret hx hb hr (fun t ht hW => ⟨⟨(I, J, S, L), rfl, h, by rw [ht]; exact hP, va_K.moved hW.alike hK, hD⟩, hS.F ht⟩) hS.2.2 hdg (hlocks := hlocks)
end
theorem setP {D : va_G} {cl : List vw_C} {w w' : va_W} {H : Heap} (h : va_P D cl w H) (e : w = w') : va_P D cl w' H := e ▸ h
theorem setD {A : Nat → Prop} {w w' : va_W} (h : va_D A w) (e : w = w') : va_D A w' := e ▸ h
theorem sw_out {x : Int32} (n : Nat) (hn : n < 100) (h : ∀ k, k < n → ¬ x = nI k) : x.toInt < 0 ∨ (n : Int) - 1 < x.toInt := by
  rcases Int.lt_or_le x.toInt 0 with q | q
  · exact Or.inl q
  · right
    rcases Int.lt_or_le ((n : Int) - 1) x.toInt with r | r
    · exact r
    · exfalso
      have hk : x.toInt.toNat < n := by omega
      refine h x.toInt.toNat hk ?_
      apply Int32.toInt_inj.mp
      rw [nI_toInt (by omega)]
      omega
theorem met_mono {l : Launch} {y : MethodName} {ws : List Cond} {rm : Room} {Pc Pc' : Array Value → State → Prop} {Qc Qc' : Array Value → State → Outcome → State → Prop} {mc ms : Nat} {free free' : Addr → Prop} (hM : Met l y ws rm Pc Qc mc ms free) (hp : ∀ a s, Pc' a s → Pc a s) (hq : ∀ a s o t, Pc' a s → Qc a s o t → Qc' a s o t) (hf : ∀ q, free q → free' q) : Met l y ws rm Pc' Qc' mc ms free' := by
  intro p e h1 h2 h3 s m args below hfr happ hP hK
  obtain ⟨n, o, a1, a2, a3, hQ, L, hL, hLf⟩ := hM p e h1 h2 h3 s m args below hfr happ (hp _ _ hP) hK
  exact ⟨n, o, a1, a2, a3, hq _ _ _ _ hP hQ, L, hL, fun q hq' => hf _ (hLf q hq')⟩
theorem va_A_cons {o : Nat × va_E} {w : va_W} {sz q : Nat} (h : va_A w sz q) : va_A (o :: w) sz q := by
  rcases h with ⟨k, e, hk⟩ | h
  · exact Or.inl ⟨k + 1, e, by simpa using hk⟩
  · exact Or.inr h
theorem va_P_cons {D : va_G} {cl : List vw_C} {o : Nat × va_E} {w : va_W} {H : Heap} : va_P D cl (o :: w) H ↔ va_at D cl o H ∧ va_P D cl w H := by
  constructor
  · intro h
    exact ⟨h 0 o rfl, fun k q hk => h (k + 1) q (by simpa using hk)⟩
  · rintro ⟨h1, h2⟩ k q hk
    cases k with
    | zero => simp at hk; rw [← hk]; exact h1
    | succ k => exact h2 k q (by simpa using hk)
theorem va_D_tail {A : Nat → Prop} {o : Nat × va_E} {w : va_W} (h : va_D A (o :: w)) : va_D A w := by
  refine ⟨fun i j p q hi hj hpq => ?_, fun k q hk => h.2 (k + 1) q (by simpa using hk)⟩
  have := h.1 (i + 1) (j + 1) p q (by simpa using hi) (by simpa using hj) hpq
  omega
theorem va_D_cons {A : Nat → Prop} {o : Nat × va_E} {w : va_W} (h0 : A o.1) (h : va_D A w) (hne : ∀ (k : Nat) (q : Nat × va_E), w[k]? = some q → o.1 ≠ q.1) : va_D A (o :: w) := by
  refine ⟨fun i j p q hi hj hpq => ?_, fun k q hk => ?_⟩
  · cases i with
    | zero =>
      cases j with
      | zero => rfl
      | succ j =>
        simp at hi hj
        exact absurd (by rw [hi]; exact hpq) (hne j q hj)
    | succ i =>
      cases j with
      | zero =>
        simp at hi hj
        exact absurd (by rw [hj]; exact hpq.symm) (hne i p hi)
      | succ j =>
        simp at hi hj
        have := h.1 i j p q hi hj hpq
        omega
  · cases k with
    | zero => simp at hk; rw [← hk]; exact h0
    | succ k => exact h.2 k q (by simpa using hk)
/-- the frame rule for one cell more, ahead: what it needs of a callee's end -/
theorem gat_cons {dC : Nat → ClassId} {dI : Nat → Nat → Nat} {o : Nat × va_E} {w w1 : va_W} {ty : TY} {sz : Nat} {s t : State} (hP : gpre dC dI (o :: w) ty sz s) (hF : va_F (va_A w sz) s t) (hB : gat dC dI w1 ty (va_A w sz) t) : gat dC dI (o :: w1) ty (va_A (o :: w) sz) t ∧ va_F (va_A (o :: w) sz) s t := by
  obtain ⟨hsz, hP0, hK0, hD0, hN0⟩ := hP
  obtain ⟨hP1, hK1, hD1⟩ := hB
  have ho := (va_P_cons.mp hP0).1
  have hlt : o.1 < s.heap.size := ho.lt
  have hnot : ¬ va_A w sz o.1 := by
    rintro (⟨k, e, hk⟩ | h)
    · have := hD0.1 0 (k + 1) o (o.1, e) rfl (by simpa using hk) rfl
      omega
    · omega
  refine ⟨⟨va_P_cons.mpr ⟨ho.kept (hF.2 _ hlt hnot), hP1⟩, hK1, ?_⟩, hF.1, fun q h1 h2 => hF.2 q h1 (fun h => h2 (va_A_cons h))⟩
  refine va_D_cons (Or.inl ⟨0, o.2, rfl⟩) (hD1.weaken (fun _ q _ hq => va_A_cons hq)) ?_
  intro k q hk e
  exact hnot (by rw [e]; exact hD1.2 k q hk)
theorem gpre_tail {dC : Nat → ClassId} {dI : Nat → Nat → Nat} {o : Nat × va_E} {w : va_W} {ty : TY} {sz : Nat} {s : State} (h : gpre dC dI (o :: w) ty sz s) : gpre dC dI w ty sz s := ⟨h.1, (va_P_cons.mp h.2.1).2, h.2.2.1, va_D_tail h.2.2.2.1, h.2.2.2.2⟩
section
variable {l : Launch} {y : MethodName} {wsy : List Cond} {rm : Room} {dC : Nat → ClassId} {dI : Nat → Nat → Nat} {o : Nat × va_E} {w : va_W} {Wd Wd' : TW} {ty : TY} {sz : Nat} {av : List Value} {z : Int32}
theorem met_cons_i {Φ : Int32 → TI → TJ → TS → TL → Prop} (hM : Met l y wsy rm (va_Pc av (gpre dC dI w ty sz)) (gQi dC dI Wd ty (va_A w sz) (fun r I J S L => Φ r I J (va_up S 0 z) L)) 0 0 (va_A w sz)) (hW : ∀ (I : TI) (J : TJ) (S : TS) (L : TL), Wd' I J (va_up S 0 z) L = o :: Wd I J S L) : Met l y wsy rm (va_Pc av (gpre dC dI (o :: w) ty sz)) (gQi dC dI Wd' ty (va_A (o :: w) sz) Φ) 0 0 (va_A (o :: w) sz) := by
  refine met_mono hM (fun a s h => ⟨h.1, gpre_tail h.2⟩) ?_ (fun q h => va_A_cons h)
  rintro a s oc t ⟨ha, hp⟩ ⟨⟨r, u, e1, e2, e3⟩, hF⟩
  have h9 := gat_cons hp hF e3
  refine ⟨⟨r, (u.1, u.2.1, va_up u.2.2.1 0 z, u.2.2.2), e1, e2, ?_⟩, h9.2⟩
  show gat dC dI (Wd' u.1 u.2.1 (va_up u.2.2.1 0 z) u.2.2.2) ty (va_A (o :: w) sz) t
  rw [hW]
  exact h9.1
theorem met_cons_l {Φ : Int64 → TI → TJ → TS → TL → Prop} (hM : Met l y wsy rm (va_Pc av (gpre dC dI w ty sz)) (gQl dC dI Wd ty (va_A w sz) (fun r I J S L => Φ r I J (va_up S 0 z) L)) 0 0 (va_A w sz)) (hW : ∀ (I : TI) (J : TJ) (S : TS) (L : TL), Wd' I J (va_up S 0 z) L = o :: Wd I J S L) : Met l y wsy rm (va_Pc av (gpre dC dI (o :: w) ty sz)) (gQl dC dI Wd' ty (va_A (o :: w) sz) Φ) 0 0 (va_A (o :: w) sz) := by
  refine met_mono hM (fun a s h => ⟨h.1, gpre_tail h.2⟩) ?_ (fun q h => va_A_cons h)
  rintro a s oc t ⟨ha, hp⟩ ⟨⟨r, u, e1, e2, e3⟩, hF⟩
  have h9 := gat_cons hp hF e3
  refine ⟨⟨r, (u.1, u.2.1, va_up u.2.2.1 0 z, u.2.2.2), e1, e2, ?_⟩, h9.2⟩
  show gat dC dI (Wd' u.1 u.2.1 (va_up u.2.2.1 0 z) u.2.2.2) ty (va_A (o :: w) sz) t
  rw [hW]
  exact h9.1
theorem met_cons_v {Φ : TI → TJ → TS → TL → Prop} (hM : Met l y wsy rm (va_Pc av (gpre dC dI w ty sz)) (gQv dC dI Wd ty (va_A w sz) (fun I J S L => Φ I J (va_up S 0 z) L)) 0 0 (va_A w sz)) (hW : ∀ (I : TI) (J : TJ) (S : TS) (L : TL), Wd' I J (va_up S 0 z) L = o :: Wd I J S L) : Met l y wsy rm (va_Pc av (gpre dC dI (o :: w) ty sz)) (gQv dC dI Wd' ty (va_A (o :: w) sz) Φ) 0 0 (va_A (o :: w) sz) := by
  refine met_mono hM (fun a s h => ⟨h.1, gpre_tail h.2⟩) ?_ (fun q h => va_A_cons h)
  rintro a s oc t ⟨ha, hp⟩ ⟨⟨u, e1, e2, e3⟩, hF⟩
  have h9 := gat_cons hp hF e3
  refine ⟨⟨(u.1, u.2.1, va_up u.2.2.1 0 z, u.2.2.2), e1, e2, ?_⟩, h9.2⟩
  show gat dC dI (Wd' u.1 u.2.1 (va_up u.2.2.1 0 z) u.2.2.2) ty (va_A (o :: w) sz) t
  rw [hW]
  exact h9.1
end
def pO (k : Nat) : Nat := if k < 25 then k else if k < 39 then k + 14 else if k < 53 then k - 14 else k
def pS (k : Nat) : Nat := if k < 3 then k else if k < 7 then k + 4 else if k < 11 then k - 4 else k
def pL (k : Nat) : Nat := if k < 1 then k else if k < 3 then k + 2 else if k < 5 then k - 2 else k
theorem fm_of_map {α : Type} {is : List Nat} {w w' : List α} (h : is.map (fun i => w[i]?) = w'.map some) : is.filterMap (fun i => w[i]?) = w' := by
  have e : is.filterMap (fun i => w[i]?) = (is.map (fun i => w[i]?)).filterMap id := by rw [List.filterMap_map]; rfl
  rw [e, h, List.filterMap_map]
  simp
theorem va_A_of_map {is : List Nat} {w w' : va_W} {sz q : Nat} (h : is.map (fun i => w[i]?) = w'.map some) (hq : va_A w' sz q) : va_A w sz q := by
  rcases hq with ⟨k, e, hk⟩ | hq
  · have hm : (q, e) ∈ is.filterMap (fun i => w[i]?) := by rw [fm_of_map h]; exact List.mem_of_getElem? hk
    obtain ⟨i, -, hi⟩ := List.mem_filterMap.mp hm
    exact Or.inl ⟨i, e, hi⟩
  · exact Or.inr hq
theorem gpre_perm {dC : Nat → ClassId} {dI : Nat → Nat → Nat} {w w' : va_W} {ty ty' : TY} {sz : Nat} {s : State} (is it : List Nat) (hn : va_nd is = true) (h1 : is.map (fun i => w[i]?) = w'.map some) (h2 : it.filterMap (fun i => ty[i]?) = ty') (h : gpre dC dI w ty sz s) : gpre dC dI w' ty' sz s :=
  ⟨h.1, h.2.1.sub is (fm_of_map h1), h.2.2.1.sub it h2, h.2.2.2.1.sub is hn h1, h.2.2.2.2⟩
theorem gat_perm {dC : Nat → ClassId} {dI : Nat → Nat → Nat} {w w' w0 w0' : va_W} {ty ty' : TY} {sz : Nat} {t : State} (is it : List Nat) (hn : va_nd is = true) (h0 : is.map (fun i => w0[i]?) = w0'.map some) (h1 : is.map (fun i => w'[i]?) = w.map some) (h2 : it.filterMap (fun i => ty'[i]?) = ty) (h : gat dC dI w' ty' (va_A w0' sz) t) : gat dC dI w ty (va_A w0 sz) t :=
  ⟨h.1.sub is (fm_of_map h1), h.2.1.sub it h2, (h.2.2.sub is hn h1).weaken (fun _ q _ hq => va_A_of_map h0 hq)⟩
section
variable {l : Launch} {y : MethodName} {wsy : List Cond} {rm : Room} {dC : Nat → ClassId} {dI : Nat → Nat → Nat} {w w' : va_W} {Wd Wd' : TW} {ty ty' : TY} {sz : Nat} {av : List Value}
theorem met_perm_i (is it : List Nat) (hn : va_nd is = true) {Φ : Int32 → TI → TJ → TS → TL → Prop} (hM : Met l y wsy rm (va_Pc av (gpre dC dI w' ty' sz)) (gQi dC dI Wd' ty' (va_A w' sz) (fun r I J S L => Φ r (fun k => I (pO k)) (fun k => J (pO k)) (fun k => S (pS k)) (fun k => L (pL k)))) 0 0 (va_A w' sz)) (h1 : is.map (fun i => w[i]?) = w'.map some) (h2 : it.filterMap (fun i => ty[i]?) = ty') (h3 : ∀ (I : TI) (J : TJ) (S : TS) (L : TL), is.map (fun i => (Wd' I J S L)[i]?) = (Wd (fun k => I (pO k)) (fun k => J (pO k)) (fun k => S (pS k)) (fun k => L (pL k))).map some) (h4 : it.filterMap (fun i => ty'[i]?) = ty) : Met l y wsy rm (va_Pc av (gpre dC dI w ty sz)) (gQi dC dI Wd ty (va_A w sz) Φ) 0 0 (va_A w sz) := by
  refine met_mono hM (fun a s h => ⟨h.1, gpre_perm is it hn h1 h2 h.2⟩) ?_ (fun q h => va_A_of_map h1 h)
  rintro a s oc t ⟨ha, hp⟩ ⟨⟨r, u, e1, e2, e3⟩, hF⟩
  exact ⟨⟨r, ((fun k => u.1 (pO k)), (fun k => u.2.1 (pO k)), (fun k => u.2.2.1 (pS k)), (fun k => u.2.2.2 (pL k))), e1, e2, gat_perm is it hn h1 (h3 _ _ _ _) h4 e3⟩, hF.1, fun q g1 g2 => hF.2 q g1 (fun g => g2 (va_A_of_map h1 g))⟩
theorem met_perm_l (is it : List Nat) (hn : va_nd is = true) {Φ : Int64 → TI → TJ → TS → TL → Prop} (hM : Met l y wsy rm (va_Pc av (gpre dC dI w' ty' sz)) (gQl dC dI Wd' ty' (va_A w' sz) (fun r I J S L => Φ r (fun k => I (pO k)) (fun k => J (pO k)) (fun k => S (pS k)) (fun k => L (pL k)))) 0 0 (va_A w' sz)) (h1 : is.map (fun i => w[i]?) = w'.map some) (h2 : it.filterMap (fun i => ty[i]?) = ty') (h3 : ∀ (I : TI) (J : TJ) (S : TS) (L : TL), is.map (fun i => (Wd' I J S L)[i]?) = (Wd (fun k => I (pO k)) (fun k => J (pO k)) (fun k => S (pS k)) (fun k => L (pL k))).map some) (h4 : it.filterMap (fun i => ty'[i]?) = ty) : Met l y wsy rm (va_Pc av (gpre dC dI w ty sz)) (gQl dC dI Wd ty (va_A w sz) Φ) 0 0 (va_A w sz) := by
  refine met_mono hM (fun a s h => ⟨h.1, gpre_perm is it hn h1 h2 h.2⟩) ?_ (fun q h => va_A_of_map h1 h)
  rintro a s oc t ⟨ha, hp⟩ ⟨⟨r, u, e1, e2, e3⟩, hF⟩
  exact ⟨⟨r, ((fun k => u.1 (pO k)), (fun k => u.2.1 (pO k)), (fun k => u.2.2.1 (pS k)), (fun k => u.2.2.2 (pL k))), e1, e2, gat_perm is it hn h1 (h3 _ _ _ _) h4 e3⟩, hF.1, fun q g1 g2 => hF.2 q g1 (fun g => g2 (va_A_of_map h1 g))⟩
theorem met_perm_v (is it : List Nat) (hn : va_nd is = true) {Φ : TI → TJ → TS → TL → Prop} (hM : Met l y wsy rm (va_Pc av (gpre dC dI w' ty' sz)) (gQv dC dI Wd' ty' (va_A w' sz) (fun I J S L => Φ (fun k => I (pO k)) (fun k => J (pO k)) (fun k => S (pS k)) (fun k => L (pL k)))) 0 0 (va_A w' sz)) (h1 : is.map (fun i => w[i]?) = w'.map some) (h2 : it.filterMap (fun i => ty[i]?) = ty') (h3 : ∀ (I : TI) (J : TJ) (S : TS) (L : TL), is.map (fun i => (Wd' I J S L)[i]?) = (Wd (fun k => I (pO k)) (fun k => J (pO k)) (fun k => S (pS k)) (fun k => L (pL k))).map some) (h4 : it.filterMap (fun i => ty'[i]?) = ty) : Met l y wsy rm (va_Pc av (gpre dC dI w ty sz)) (gQv dC dI Wd ty (va_A w sz) Φ) 0 0 (va_A w sz) := by
  refine met_mono hM (fun a s h => ⟨h.1, gpre_perm is it hn h1 h2 h.2⟩) ?_ (fun q h => va_A_of_map h1 h)
  rintro a s oc t ⟨ha, hp⟩ ⟨⟨u, e1, e2, e3⟩, hF⟩
  exact ⟨⟨((fun k => u.1 (pO k)), (fun k => u.2.1 (pO k)), (fun k => u.2.2.1 (pS k)), (fun k => u.2.2.2 (pL k))), e1, e2, gat_perm is it hn h1 (h3 _ _ _ _) h4 e3⟩, hF.1, fun q g1 g2 => hF.2 q g1 (fun g => g2 (va_A_of_map h1 g))⟩
end
def wL (a : Nat → Nat) (cy : Nat → ClassId) (n0 n1 : Nat) (I : TI) (J : TJ) (S : TS) (L : TL) : va_W := [(a 0, .inr (6, [.ref (a 1), .ref (a 2), .ref (a 3), .ref (a 4)])), (a 1, .inl (cy 1, 12, .inl (I 1))), (a 2, .inl (cy 2, 72, .inl (I 2))), (a 3, .inl (cy 3, 216, .inl (I 3))), (a 4, .inl (cy 4, 216, .inl (I 4))), (a 5, .inr (0, [.ref (a 6), .ref (a 7), .ref (a 8), .ref (a 9), .ref (a 10), .ref (a 11), .ref (a 12), .ref (a 13), .int (S 1)])), (a 6, .inl (cy 6, 24, .inl (I 6))), (a 7, .inl (cy 7, 24, .inl (I 7))), (a 8, .inl (cy 8, 24, .inl (I 8))), (a 9, .inl (cy 9, 24, .inl (I 9))), (a 10, .inl (cy 10, 24, .inl (I 10))), (a 11, .inl (cy 11, 24, .inl (I 11))), (a 12, .inl (cy 12, 24, .inl (I 12))), (a 13, .inl (cy 13, 24, .inl (I 13))), (a 14, .inr (4, [.ref (a 15), .ref (a 16), .ref (a 17), .ref (a 18), .ref (a 19), .ref (a 20)])), (a 15, .inl (cy 15, 1440, .inl (I 15))), (a 16, .inl (cy 16, 480, .inl (I 16))), (a 17, .inl (cy 17, 480, .inl (I 17))), (a 18, .inl (cy 18, 480, .inl (I 18))), (a 19, .inl (cy 19, 40, .inl (I 19))), (a 20, .inl (cy 20, 40, .inl (I 20))), (a 21, .inr (5, [.ref (a 22), .ref (a 23), .ref (a 24), .int (S 2), .long (L 0)])), (a 22, .inl (cy 22, 60, .inl (I 22))), (a 23, .inl (cy 23, 60, .inl (I 23))), (a 24, .inl (cy 24, 60, .inl (I 24))), (a 25, .inr (2, [.ref (a 26), .ref (a 27), .ref (a 28), .ref (a 29), .ref (a 30), .ref (a 31), .ref (a 32), .ref (a 33), .long (L 1), .long (L 2), .int (S 3), .int (S 4), .ref (a 0), .ref (a 5), .ref (a 14), .ref (a 21)])), (a 26, .inl (cy 26, 12, .inr (.inl (J 26)))), (a 27, .inl (cy 27, 12, .inr (.inl (J 27)))), (a 28, .inl (cy 28, 12, .inr (.inl (J 28)))), (a 29, .inl (cy 29, 480, .inl (I 29))), (a 30, .inl (cy 30, 24, .inr (.inl (J 30)))), (a 31, .inl (cy 31, 24, .inr (.inl (J 31)))), (a 32, .inl (cy 32, 960, .inr (.inl (J 32)))), (a 33, .inr (3, [.int (S 6), .ref (a 34), .ref (a 35), .ref (a 36), .ref (a 37), .ref (a 38), .int (S 5)])), (a 34, .inl (cy 34, n0, .inl (I 34))), (a 35, .inl (cy 35, n0, .inl (I 35))), (a 36, .inl (cy 36, n0, .inl (I 36))), (a 37, .inl (cy 37, n0, .inr (.inl (J 37)))), (a 38, .inl (cy 38, n0, .inr (.inl (J 38)))), (a 39, .inr (2, [.ref (a 40), .ref (a 41), .ref (a 42), .ref (a 43), .ref (a 44), .ref (a 45), .ref (a 46), .ref (a 47), .long (L 3), .long (L 4), .int (S 7), .int (S 8), .ref (a 0), .ref (a 5), .ref (a 14), .ref (a 21)])), (a 40, .inl (cy 40, 12, .inr (.inl (J 40)))), (a 41, .inl (cy 41, 12, .inr (.inl (J 41)))), (a 42, .inl (cy 42, 12, .inr (.inl (J 42)))), (a 43, .inl (cy 43, 480, .inl (I 43))), (a 44, .inl (cy 44, 24, .inr (.inl (J 44)))), (a 45, .inl (cy 45, 24, .inr (.inl (J 45)))), (a 46, .inl (cy 46, 960, .inr (.inl (J 46)))), (a 47, .inr (3, [.int (S 10), .ref (a 48), .ref (a 49), .ref (a 50), .ref (a 51), .ref (a 52), .int (S 9)])), (a 48, .inl (cy 48, n1, .inl (I 48))), (a 49, .inl (cy 49, n1, .inl (I 49))), (a 50, .inl (cy 50, n1, .inl (I 50))), (a 51, .inl (cy 51, n1, .inr (.inl (J 51)))), (a 52, .inl (cy 52, n1, .inr (.inl (J 52))))]
def tyL (cy : Nat → ClassId) : TY := [(cy 1, .int), (cy 2, .int), (cy 3, .int), (cy 4, .int), (cy 6, .int), (cy 7, .int), (cy 8, .int), (cy 9, .int), (cy 10, .int), (cy 11, .int), (cy 12, .int), (cy 13, .int), (cy 15, .int), (cy 16, .int), (cy 17, .int), (cy 18, .int), (cy 19, .int), (cy 20, .int), (cy 22, .int), (cy 23, .int), (cy 24, .int), (cy 26, .long), (cy 27, .long), (cy 28, .long), (cy 29, .int), (cy 30, .long), (cy 31, .long), (cy 32, .long), (cy 34, .int), (cy 35, .int), (cy 36, .int), (cy 37, .long), (cy 38, .long), (cy 40, .long), (cy 41, .long), (cy 42, .long), (cy 43, .int), (cy 44, .long), (cy 45, .long), (cy 46, .long), (cy 48, .int), (cy 49, .int), (cy 50, .int), (cy 51, .long), (cy 52, .long)]
theorem tyL_1 (cy : Nat → ClassId) : (tyL cy)[0]? = some (cy 1, .int) := rfl
theorem tyL_2 (cy : Nat → ClassId) : (tyL cy)[1]? = some (cy 2, .int) := rfl
theorem tyL_3 (cy : Nat → ClassId) : (tyL cy)[2]? = some (cy 3, .int) := rfl
theorem tyL_4 (cy : Nat → ClassId) : (tyL cy)[3]? = some (cy 4, .int) := rfl
theorem tyL_6 (cy : Nat → ClassId) : (tyL cy)[4]? = some (cy 6, .int) := rfl
theorem tyL_7 (cy : Nat → ClassId) : (tyL cy)[5]? = some (cy 7, .int) := rfl
theorem tyL_8 (cy : Nat → ClassId) : (tyL cy)[6]? = some (cy 8, .int) := rfl
theorem tyL_9 (cy : Nat → ClassId) : (tyL cy)[7]? = some (cy 9, .int) := rfl
theorem tyL_10 (cy : Nat → ClassId) : (tyL cy)[8]? = some (cy 10, .int) := rfl
theorem tyL_11 (cy : Nat → ClassId) : (tyL cy)[9]? = some (cy 11, .int) := rfl
theorem tyL_12 (cy : Nat → ClassId) : (tyL cy)[10]? = some (cy 12, .int) := rfl
theorem tyL_13 (cy : Nat → ClassId) : (tyL cy)[11]? = some (cy 13, .int) := rfl
theorem tyL_15 (cy : Nat → ClassId) : (tyL cy)[12]? = some (cy 15, .int) := rfl
theorem tyL_16 (cy : Nat → ClassId) : (tyL cy)[13]? = some (cy 16, .int) := rfl
theorem tyL_17 (cy : Nat → ClassId) : (tyL cy)[14]? = some (cy 17, .int) := rfl
theorem tyL_18 (cy : Nat → ClassId) : (tyL cy)[15]? = some (cy 18, .int) := rfl
theorem tyL_19 (cy : Nat → ClassId) : (tyL cy)[16]? = some (cy 19, .int) := rfl
theorem tyL_20 (cy : Nat → ClassId) : (tyL cy)[17]? = some (cy 20, .int) := rfl
theorem tyL_22 (cy : Nat → ClassId) : (tyL cy)[18]? = some (cy 22, .int) := rfl
theorem tyL_23 (cy : Nat → ClassId) : (tyL cy)[19]? = some (cy 23, .int) := rfl
theorem tyL_24 (cy : Nat → ClassId) : (tyL cy)[20]? = some (cy 24, .int) := rfl
theorem tyL_26 (cy : Nat → ClassId) : (tyL cy)[21]? = some (cy 26, .long) := rfl
theorem tyL_27 (cy : Nat → ClassId) : (tyL cy)[22]? = some (cy 27, .long) := rfl
theorem tyL_28 (cy : Nat → ClassId) : (tyL cy)[23]? = some (cy 28, .long) := rfl
theorem tyL_29 (cy : Nat → ClassId) : (tyL cy)[24]? = some (cy 29, .int) := rfl
theorem tyL_30 (cy : Nat → ClassId) : (tyL cy)[25]? = some (cy 30, .long) := rfl
theorem tyL_31 (cy : Nat → ClassId) : (tyL cy)[26]? = some (cy 31, .long) := rfl
theorem tyL_32 (cy : Nat → ClassId) : (tyL cy)[27]? = some (cy 32, .long) := rfl
theorem tyL_34 (cy : Nat → ClassId) : (tyL cy)[28]? = some (cy 34, .int) := rfl
theorem tyL_35 (cy : Nat → ClassId) : (tyL cy)[29]? = some (cy 35, .int) := rfl
theorem tyL_36 (cy : Nat → ClassId) : (tyL cy)[30]? = some (cy 36, .int) := rfl
theorem tyL_37 (cy : Nat → ClassId) : (tyL cy)[31]? = some (cy 37, .long) := rfl
theorem tyL_38 (cy : Nat → ClassId) : (tyL cy)[32]? = some (cy 38, .long) := rfl
theorem tyL_40 (cy : Nat → ClassId) : (tyL cy)[33]? = some (cy 40, .long) := rfl
theorem tyL_41 (cy : Nat → ClassId) : (tyL cy)[34]? = some (cy 41, .long) := rfl
theorem tyL_42 (cy : Nat → ClassId) : (tyL cy)[35]? = some (cy 42, .long) := rfl
theorem tyL_43 (cy : Nat → ClassId) : (tyL cy)[36]? = some (cy 43, .int) := rfl
theorem tyL_44 (cy : Nat → ClassId) : (tyL cy)[37]? = some (cy 44, .long) := rfl
theorem tyL_45 (cy : Nat → ClassId) : (tyL cy)[38]? = some (cy 45, .long) := rfl
theorem tyL_46 (cy : Nat → ClassId) : (tyL cy)[39]? = some (cy 46, .long) := rfl
theorem tyL_48 (cy : Nat → ClassId) : (tyL cy)[40]? = some (cy 48, .int) := rfl
theorem tyL_49 (cy : Nat → ClassId) : (tyL cy)[41]? = some (cy 49, .int) := rfl
theorem tyL_50 (cy : Nat → ClassId) : (tyL cy)[42]? = some (cy 50, .int) := rfl
theorem tyL_51 (cy : Nat → ClassId) : (tyL cy)[43]? = some (cy 51, .long) := rfl
theorem tyL_52 (cy : Nat → ClassId) : (tyL cy)[44]? = some (cy 52, .long) := rfl
theorem wL_at0 (a : Nat → Nat) (cy : Nat → ClassId) (n0 n1 : Nat) (I : TI) (J : TJ) (S : TS) (L : TL) : (wL a cy n0 n1 I J S L)[0]? = some (a 0, .inr (6, [.ref (a 1), .ref (a 2), .ref (a 3), .ref (a 4)])) := rfl
theorem wL_at1 (a : Nat → Nat) (cy : Nat → ClassId) (n0 n1 : Nat) (I : TI) (J : TJ) (S : TS) (L : TL) : (wL a cy n0 n1 I J S L)[1]? = some (a 1, .inl (cy 1, 12, .inl (I 1))) := rfl
theorem wL_set1 (a : Nat → Nat) (cy : Nat → ClassId) (n0 n1 : Nat) (I : TI) (J : TJ) (S : TS) (L : TL) (f : Nat → Int32) : (wL a cy n0 n1 I J S L).set 1 (a 1, .inl (cy 1, 12, .inl f)) = wL a cy n0 n1 (va_up I 1 f) J S L := rfl
theorem wL_at2 (a : Nat → Nat) (cy : Nat → ClassId) (n0 n1 : Nat) (I : TI) (J : TJ) (S : TS) (L : TL) : (wL a cy n0 n1 I J S L)[2]? = some (a 2, .inl (cy 2, 72, .inl (I 2))) := rfl
theorem wL_set2 (a : Nat → Nat) (cy : Nat → ClassId) (n0 n1 : Nat) (I : TI) (J : TJ) (S : TS) (L : TL) (f : Nat → Int32) : (wL a cy n0 n1 I J S L).set 2 (a 2, .inl (cy 2, 72, .inl f)) = wL a cy n0 n1 (va_up I 2 f) J S L := rfl
theorem wL_at3 (a : Nat → Nat) (cy : Nat → ClassId) (n0 n1 : Nat) (I : TI) (J : TJ) (S : TS) (L : TL) : (wL a cy n0 n1 I J S L)[3]? = some (a 3, .inl (cy 3, 216, .inl (I 3))) := rfl
theorem wL_set3 (a : Nat → Nat) (cy : Nat → ClassId) (n0 n1 : Nat) (I : TI) (J : TJ) (S : TS) (L : TL) (f : Nat → Int32) : (wL a cy n0 n1 I J S L).set 3 (a 3, .inl (cy 3, 216, .inl f)) = wL a cy n0 n1 (va_up I 3 f) J S L := rfl
theorem wL_at4 (a : Nat → Nat) (cy : Nat → ClassId) (n0 n1 : Nat) (I : TI) (J : TJ) (S : TS) (L : TL) : (wL a cy n0 n1 I J S L)[4]? = some (a 4, .inl (cy 4, 216, .inl (I 4))) := rfl
theorem wL_set4 (a : Nat → Nat) (cy : Nat → ClassId) (n0 n1 : Nat) (I : TI) (J : TJ) (S : TS) (L : TL) (f : Nat → Int32) : (wL a cy n0 n1 I J S L).set 4 (a 4, .inl (cy 4, 216, .inl f)) = wL a cy n0 n1 (va_up I 4 f) J S L := rfl
theorem wL_at5 (a : Nat → Nat) (cy : Nat → ClassId) (n0 n1 : Nat) (I : TI) (J : TJ) (S : TS) (L : TL) : (wL a cy n0 n1 I J S L)[5]? = some (a 5, .inr (0, [.ref (a 6), .ref (a 7), .ref (a 8), .ref (a 9), .ref (a 10), .ref (a 11), .ref (a 12), .ref (a 13), .int (S 1)])) := rfl
theorem wL_setS1 (a : Nat → Nat) (cy : Nat → ClassId) (n0 n1 : Nat) (I : TI) (J : TJ) (S : TS) (L : TL) (v : Int32) : (wL a cy n0 n1 I J S L).set 5 (a 5, .inr (0, List.set [.ref (a 6), .ref (a 7), .ref (a 8), .ref (a 9), .ref (a 10), .ref (a 11), .ref (a 12), .ref (a 13), .int (S 1)] 8 (.int v))) = wL a cy n0 n1 I J (va_up S 1 v) L := rfl
theorem wL_at6 (a : Nat → Nat) (cy : Nat → ClassId) (n0 n1 : Nat) (I : TI) (J : TJ) (S : TS) (L : TL) : (wL a cy n0 n1 I J S L)[6]? = some (a 6, .inl (cy 6, 24, .inl (I 6))) := rfl
theorem wL_set6 (a : Nat → Nat) (cy : Nat → ClassId) (n0 n1 : Nat) (I : TI) (J : TJ) (S : TS) (L : TL) (f : Nat → Int32) : (wL a cy n0 n1 I J S L).set 6 (a 6, .inl (cy 6, 24, .inl f)) = wL a cy n0 n1 (va_up I 6 f) J S L := rfl
theorem wL_at7 (a : Nat → Nat) (cy : Nat → ClassId) (n0 n1 : Nat) (I : TI) (J : TJ) (S : TS) (L : TL) : (wL a cy n0 n1 I J S L)[7]? = some (a 7, .inl (cy 7, 24, .inl (I 7))) := rfl
theorem wL_set7 (a : Nat → Nat) (cy : Nat → ClassId) (n0 n1 : Nat) (I : TI) (J : TJ) (S : TS) (L : TL) (f : Nat → Int32) : (wL a cy n0 n1 I J S L).set 7 (a 7, .inl (cy 7, 24, .inl f)) = wL a cy n0 n1 (va_up I 7 f) J S L := rfl
theorem wL_at8 (a : Nat → Nat) (cy : Nat → ClassId) (n0 n1 : Nat) (I : TI) (J : TJ) (S : TS) (L : TL) : (wL a cy n0 n1 I J S L)[8]? = some (a 8, .inl (cy 8, 24, .inl (I 8))) := rfl
theorem wL_set8 (a : Nat → Nat) (cy : Nat → ClassId) (n0 n1 : Nat) (I : TI) (J : TJ) (S : TS) (L : TL) (f : Nat → Int32) : (wL a cy n0 n1 I J S L).set 8 (a 8, .inl (cy 8, 24, .inl f)) = wL a cy n0 n1 (va_up I 8 f) J S L := rfl
theorem wL_at9 (a : Nat → Nat) (cy : Nat → ClassId) (n0 n1 : Nat) (I : TI) (J : TJ) (S : TS) (L : TL) : (wL a cy n0 n1 I J S L)[9]? = some (a 9, .inl (cy 9, 24, .inl (I 9))) := rfl
theorem wL_set9 (a : Nat → Nat) (cy : Nat → ClassId) (n0 n1 : Nat) (I : TI) (J : TJ) (S : TS) (L : TL) (f : Nat → Int32) : (wL a cy n0 n1 I J S L).set 9 (a 9, .inl (cy 9, 24, .inl f)) = wL a cy n0 n1 (va_up I 9 f) J S L := rfl
theorem wL_at10 (a : Nat → Nat) (cy : Nat → ClassId) (n0 n1 : Nat) (I : TI) (J : TJ) (S : TS) (L : TL) : (wL a cy n0 n1 I J S L)[10]? = some (a 10, .inl (cy 10, 24, .inl (I 10))) := rfl
theorem wL_set10 (a : Nat → Nat) (cy : Nat → ClassId) (n0 n1 : Nat) (I : TI) (J : TJ) (S : TS) (L : TL) (f : Nat → Int32) : (wL a cy n0 n1 I J S L).set 10 (a 10, .inl (cy 10, 24, .inl f)) = wL a cy n0 n1 (va_up I 10 f) J S L := rfl
theorem wL_at11 (a : Nat → Nat) (cy : Nat → ClassId) (n0 n1 : Nat) (I : TI) (J : TJ) (S : TS) (L : TL) : (wL a cy n0 n1 I J S L)[11]? = some (a 11, .inl (cy 11, 24, .inl (I 11))) := rfl
theorem wL_set11 (a : Nat → Nat) (cy : Nat → ClassId) (n0 n1 : Nat) (I : TI) (J : TJ) (S : TS) (L : TL) (f : Nat → Int32) : (wL a cy n0 n1 I J S L).set 11 (a 11, .inl (cy 11, 24, .inl f)) = wL a cy n0 n1 (va_up I 11 f) J S L := rfl
theorem wL_at12 (a : Nat → Nat) (cy : Nat → ClassId) (n0 n1 : Nat) (I : TI) (J : TJ) (S : TS) (L : TL) : (wL a cy n0 n1 I J S L)[12]? = some (a 12, .inl (cy 12, 24, .inl (I 12))) := rfl
theorem wL_set12 (a : Nat → Nat) (cy : Nat → ClassId) (n0 n1 : Nat) (I : TI) (J : TJ) (S : TS) (L : TL) (f : Nat → Int32) : (wL a cy n0 n1 I J S L).set 12 (a 12, .inl (cy 12, 24, .inl f)) = wL a cy n0 n1 (va_up I 12 f) J S L := rfl
theorem wL_at13 (a : Nat → Nat) (cy : Nat → ClassId) (n0 n1 : Nat) (I : TI) (J : TJ) (S : TS) (L : TL) : (wL a cy n0 n1 I J S L)[13]? = some (a 13, .inl (cy 13, 24, .inl (I 13))) := rfl
theorem wL_set13 (a : Nat → Nat) (cy : Nat → ClassId) (n0 n1 : Nat) (I : TI) (J : TJ) (S : TS) (L : TL) (f : Nat → Int32) : (wL a cy n0 n1 I J S L).set 13 (a 13, .inl (cy 13, 24, .inl f)) = wL a cy n0 n1 (va_up I 13 f) J S L := rfl
theorem wL_at14 (a : Nat → Nat) (cy : Nat → ClassId) (n0 n1 : Nat) (I : TI) (J : TJ) (S : TS) (L : TL) : (wL a cy n0 n1 I J S L)[14]? = some (a 14, .inr (4, [.ref (a 15), .ref (a 16), .ref (a 17), .ref (a 18), .ref (a 19), .ref (a 20)])) := rfl
theorem wL_at15 (a : Nat → Nat) (cy : Nat → ClassId) (n0 n1 : Nat) (I : TI) (J : TJ) (S : TS) (L : TL) : (wL a cy n0 n1 I J S L)[15]? = some (a 15, .inl (cy 15, 1440, .inl (I 15))) := rfl
theorem wL_set15 (a : Nat → Nat) (cy : Nat → ClassId) (n0 n1 : Nat) (I : TI) (J : TJ) (S : TS) (L : TL) (f : Nat → Int32) : (wL a cy n0 n1 I J S L).set 15 (a 15, .inl (cy 15, 1440, .inl f)) = wL a cy n0 n1 (va_up I 15 f) J S L := rfl
theorem wL_at16 (a : Nat → Nat) (cy : Nat → ClassId) (n0 n1 : Nat) (I : TI) (J : TJ) (S : TS) (L : TL) : (wL a cy n0 n1 I J S L)[16]? = some (a 16, .inl (cy 16, 480, .inl (I 16))) := rfl
theorem wL_set16 (a : Nat → Nat) (cy : Nat → ClassId) (n0 n1 : Nat) (I : TI) (J : TJ) (S : TS) (L : TL) (f : Nat → Int32) : (wL a cy n0 n1 I J S L).set 16 (a 16, .inl (cy 16, 480, .inl f)) = wL a cy n0 n1 (va_up I 16 f) J S L := rfl
theorem wL_at17 (a : Nat → Nat) (cy : Nat → ClassId) (n0 n1 : Nat) (I : TI) (J : TJ) (S : TS) (L : TL) : (wL a cy n0 n1 I J S L)[17]? = some (a 17, .inl (cy 17, 480, .inl (I 17))) := rfl
theorem wL_set17 (a : Nat → Nat) (cy : Nat → ClassId) (n0 n1 : Nat) (I : TI) (J : TJ) (S : TS) (L : TL) (f : Nat → Int32) : (wL a cy n0 n1 I J S L).set 17 (a 17, .inl (cy 17, 480, .inl f)) = wL a cy n0 n1 (va_up I 17 f) J S L := rfl
theorem wL_at18 (a : Nat → Nat) (cy : Nat → ClassId) (n0 n1 : Nat) (I : TI) (J : TJ) (S : TS) (L : TL) : (wL a cy n0 n1 I J S L)[18]? = some (a 18, .inl (cy 18, 480, .inl (I 18))) := rfl
theorem wL_set18 (a : Nat → Nat) (cy : Nat → ClassId) (n0 n1 : Nat) (I : TI) (J : TJ) (S : TS) (L : TL) (f : Nat → Int32) : (wL a cy n0 n1 I J S L).set 18 (a 18, .inl (cy 18, 480, .inl f)) = wL a cy n0 n1 (va_up I 18 f) J S L := rfl
theorem wL_at19 (a : Nat → Nat) (cy : Nat → ClassId) (n0 n1 : Nat) (I : TI) (J : TJ) (S : TS) (L : TL) : (wL a cy n0 n1 I J S L)[19]? = some (a 19, .inl (cy 19, 40, .inl (I 19))) := rfl
theorem wL_set19 (a : Nat → Nat) (cy : Nat → ClassId) (n0 n1 : Nat) (I : TI) (J : TJ) (S : TS) (L : TL) (f : Nat → Int32) : (wL a cy n0 n1 I J S L).set 19 (a 19, .inl (cy 19, 40, .inl f)) = wL a cy n0 n1 (va_up I 19 f) J S L := rfl
theorem wL_at20 (a : Nat → Nat) (cy : Nat → ClassId) (n0 n1 : Nat) (I : TI) (J : TJ) (S : TS) (L : TL) : (wL a cy n0 n1 I J S L)[20]? = some (a 20, .inl (cy 20, 40, .inl (I 20))) := rfl
theorem wL_set20 (a : Nat → Nat) (cy : Nat → ClassId) (n0 n1 : Nat) (I : TI) (J : TJ) (S : TS) (L : TL) (f : Nat → Int32) : (wL a cy n0 n1 I J S L).set 20 (a 20, .inl (cy 20, 40, .inl f)) = wL a cy n0 n1 (va_up I 20 f) J S L := rfl
theorem wL_at21 (a : Nat → Nat) (cy : Nat → ClassId) (n0 n1 : Nat) (I : TI) (J : TJ) (S : TS) (L : TL) : (wL a cy n0 n1 I J S L)[21]? = some (a 21, .inr (5, [.ref (a 22), .ref (a 23), .ref (a 24), .int (S 2), .long (L 0)])) := rfl
theorem wL_setS2 (a : Nat → Nat) (cy : Nat → ClassId) (n0 n1 : Nat) (I : TI) (J : TJ) (S : TS) (L : TL) (v : Int32) : (wL a cy n0 n1 I J S L).set 21 (a 21, .inr (5, List.set [.ref (a 22), .ref (a 23), .ref (a 24), .int (S 2), .long (L 0)] 3 (.int v))) = wL a cy n0 n1 I J (va_up S 2 v) L := rfl
theorem wL_setL0 (a : Nat → Nat) (cy : Nat → ClassId) (n0 n1 : Nat) (I : TI) (J : TJ) (S : TS) (L : TL) (v : Int64) : (wL a cy n0 n1 I J S L).set 21 (a 21, .inr (5, List.set [.ref (a 22), .ref (a 23), .ref (a 24), .int (S 2), .long (L 0)] 4 (.long v))) = wL a cy n0 n1 I J S (va_up L 0 v) := rfl
theorem wL_at22 (a : Nat → Nat) (cy : Nat → ClassId) (n0 n1 : Nat) (I : TI) (J : TJ) (S : TS) (L : TL) : (wL a cy n0 n1 I J S L)[22]? = some (a 22, .inl (cy 22, 60, .inl (I 22))) := rfl
theorem wL_set22 (a : Nat → Nat) (cy : Nat → ClassId) (n0 n1 : Nat) (I : TI) (J : TJ) (S : TS) (L : TL) (f : Nat → Int32) : (wL a cy n0 n1 I J S L).set 22 (a 22, .inl (cy 22, 60, .inl f)) = wL a cy n0 n1 (va_up I 22 f) J S L := rfl
theorem wL_at23 (a : Nat → Nat) (cy : Nat → ClassId) (n0 n1 : Nat) (I : TI) (J : TJ) (S : TS) (L : TL) : (wL a cy n0 n1 I J S L)[23]? = some (a 23, .inl (cy 23, 60, .inl (I 23))) := rfl
theorem wL_set23 (a : Nat → Nat) (cy : Nat → ClassId) (n0 n1 : Nat) (I : TI) (J : TJ) (S : TS) (L : TL) (f : Nat → Int32) : (wL a cy n0 n1 I J S L).set 23 (a 23, .inl (cy 23, 60, .inl f)) = wL a cy n0 n1 (va_up I 23 f) J S L := rfl
theorem wL_at24 (a : Nat → Nat) (cy : Nat → ClassId) (n0 n1 : Nat) (I : TI) (J : TJ) (S : TS) (L : TL) : (wL a cy n0 n1 I J S L)[24]? = some (a 24, .inl (cy 24, 60, .inl (I 24))) := rfl
theorem wL_set24 (a : Nat → Nat) (cy : Nat → ClassId) (n0 n1 : Nat) (I : TI) (J : TJ) (S : TS) (L : TL) (f : Nat → Int32) : (wL a cy n0 n1 I J S L).set 24 (a 24, .inl (cy 24, 60, .inl f)) = wL a cy n0 n1 (va_up I 24 f) J S L := rfl
theorem wL_at25 (a : Nat → Nat) (cy : Nat → ClassId) (n0 n1 : Nat) (I : TI) (J : TJ) (S : TS) (L : TL) : (wL a cy n0 n1 I J S L)[25]? = some (a 25, .inr (2, [.ref (a 26), .ref (a 27), .ref (a 28), .ref (a 29), .ref (a 30), .ref (a 31), .ref (a 32), .ref (a 33), .long (L 1), .long (L 2), .int (S 3), .int (S 4), .ref (a 0), .ref (a 5), .ref (a 14), .ref (a 21)])) := rfl
theorem wL_setL1 (a : Nat → Nat) (cy : Nat → ClassId) (n0 n1 : Nat) (I : TI) (J : TJ) (S : TS) (L : TL) (v : Int64) : (wL a cy n0 n1 I J S L).set 25 (a 25, .inr (2, List.set [.ref (a 26), .ref (a 27), .ref (a 28), .ref (a 29), .ref (a 30), .ref (a 31), .ref (a 32), .ref (a 33), .long (L 1), .long (L 2), .int (S 3), .int (S 4), .ref (a 0), .ref (a 5), .ref (a 14), .ref (a 21)] 8 (.long v))) = wL a cy n0 n1 I J S (va_up L 1 v) := rfl
theorem wL_setL2 (a : Nat → Nat) (cy : Nat → ClassId) (n0 n1 : Nat) (I : TI) (J : TJ) (S : TS) (L : TL) (v : Int64) : (wL a cy n0 n1 I J S L).set 25 (a 25, .inr (2, List.set [.ref (a 26), .ref (a 27), .ref (a 28), .ref (a 29), .ref (a 30), .ref (a 31), .ref (a 32), .ref (a 33), .long (L 1), .long (L 2), .int (S 3), .int (S 4), .ref (a 0), .ref (a 5), .ref (a 14), .ref (a 21)] 9 (.long v))) = wL a cy n0 n1 I J S (va_up L 2 v) := rfl
theorem wL_setS3 (a : Nat → Nat) (cy : Nat → ClassId) (n0 n1 : Nat) (I : TI) (J : TJ) (S : TS) (L : TL) (v : Int32) : (wL a cy n0 n1 I J S L).set 25 (a 25, .inr (2, List.set [.ref (a 26), .ref (a 27), .ref (a 28), .ref (a 29), .ref (a 30), .ref (a 31), .ref (a 32), .ref (a 33), .long (L 1), .long (L 2), .int (S 3), .int (S 4), .ref (a 0), .ref (a 5), .ref (a 14), .ref (a 21)] 10 (.int v))) = wL a cy n0 n1 I J (va_up S 3 v) L := rfl
theorem wL_setS4 (a : Nat → Nat) (cy : Nat → ClassId) (n0 n1 : Nat) (I : TI) (J : TJ) (S : TS) (L : TL) (v : Int32) : (wL a cy n0 n1 I J S L).set 25 (a 25, .inr (2, List.set [.ref (a 26), .ref (a 27), .ref (a 28), .ref (a 29), .ref (a 30), .ref (a 31), .ref (a 32), .ref (a 33), .long (L 1), .long (L 2), .int (S 3), .int (S 4), .ref (a 0), .ref (a 5), .ref (a 14), .ref (a 21)] 11 (.int v))) = wL a cy n0 n1 I J (va_up S 4 v) L := rfl
theorem wL_at26 (a : Nat → Nat) (cy : Nat → ClassId) (n0 n1 : Nat) (I : TI) (J : TJ) (S : TS) (L : TL) : (wL a cy n0 n1 I J S L)[26]? = some (a 26, .inl (cy 26, 12, .inr (.inl (J 26)))) := rfl
theorem wL_set26 (a : Nat → Nat) (cy : Nat → ClassId) (n0 n1 : Nat) (I : TI) (J : TJ) (S : TS) (L : TL) (f : Nat → Int64) : (wL a cy n0 n1 I J S L).set 26 (a 26, .inl (cy 26, 12, .inr (.inl f))) = wL a cy n0 n1 I (va_up J 26 f) S L := rfl
theorem wL_at27 (a : Nat → Nat) (cy : Nat → ClassId) (n0 n1 : Nat) (I : TI) (J : TJ) (S : TS) (L : TL) : (wL a cy n0 n1 I J S L)[27]? = some (a 27, .inl (cy 27, 12, .inr (.inl (J 27)))) := rfl
theorem wL_set27 (a : Nat → Nat) (cy : Nat → ClassId) (n0 n1 : Nat) (I : TI) (J : TJ) (S : TS) (L : TL) (f : Nat → Int64) : (wL a cy n0 n1 I J S L).set 27 (a 27, .inl (cy 27, 12, .inr (.inl f))) = wL a cy n0 n1 I (va_up J 27 f) S L := rfl
theorem wL_at28 (a : Nat → Nat) (cy : Nat → ClassId) (n0 n1 : Nat) (I : TI) (J : TJ) (S : TS) (L : TL) : (wL a cy n0 n1 I J S L)[28]? = some (a 28, .inl (cy 28, 12, .inr (.inl (J 28)))) := rfl
theorem wL_set28 (a : Nat → Nat) (cy : Nat → ClassId) (n0 n1 : Nat) (I : TI) (J : TJ) (S : TS) (L : TL) (f : Nat → Int64) : (wL a cy n0 n1 I J S L).set 28 (a 28, .inl (cy 28, 12, .inr (.inl f))) = wL a cy n0 n1 I (va_up J 28 f) S L := rfl
theorem wL_at29 (a : Nat → Nat) (cy : Nat → ClassId) (n0 n1 : Nat) (I : TI) (J : TJ) (S : TS) (L : TL) : (wL a cy n0 n1 I J S L)[29]? = some (a 29, .inl (cy 29, 480, .inl (I 29))) := rfl
theorem wL_set29 (a : Nat → Nat) (cy : Nat → ClassId) (n0 n1 : Nat) (I : TI) (J : TJ) (S : TS) (L : TL) (f : Nat → Int32) : (wL a cy n0 n1 I J S L).set 29 (a 29, .inl (cy 29, 480, .inl f)) = wL a cy n0 n1 (va_up I 29 f) J S L := rfl
theorem wL_at30 (a : Nat → Nat) (cy : Nat → ClassId) (n0 n1 : Nat) (I : TI) (J : TJ) (S : TS) (L : TL) : (wL a cy n0 n1 I J S L)[30]? = some (a 30, .inl (cy 30, 24, .inr (.inl (J 30)))) := rfl
theorem wL_set30 (a : Nat → Nat) (cy : Nat → ClassId) (n0 n1 : Nat) (I : TI) (J : TJ) (S : TS) (L : TL) (f : Nat → Int64) : (wL a cy n0 n1 I J S L).set 30 (a 30, .inl (cy 30, 24, .inr (.inl f))) = wL a cy n0 n1 I (va_up J 30 f) S L := rfl
theorem wL_at31 (a : Nat → Nat) (cy : Nat → ClassId) (n0 n1 : Nat) (I : TI) (J : TJ) (S : TS) (L : TL) : (wL a cy n0 n1 I J S L)[31]? = some (a 31, .inl (cy 31, 24, .inr (.inl (J 31)))) := rfl
theorem wL_set31 (a : Nat → Nat) (cy : Nat → ClassId) (n0 n1 : Nat) (I : TI) (J : TJ) (S : TS) (L : TL) (f : Nat → Int64) : (wL a cy n0 n1 I J S L).set 31 (a 31, .inl (cy 31, 24, .inr (.inl f))) = wL a cy n0 n1 I (va_up J 31 f) S L := rfl
theorem wL_at32 (a : Nat → Nat) (cy : Nat → ClassId) (n0 n1 : Nat) (I : TI) (J : TJ) (S : TS) (L : TL) : (wL a cy n0 n1 I J S L)[32]? = some (a 32, .inl (cy 32, 960, .inr (.inl (J 32)))) := rfl
theorem wL_set32 (a : Nat → Nat) (cy : Nat → ClassId) (n0 n1 : Nat) (I : TI) (J : TJ) (S : TS) (L : TL) (f : Nat → Int64) : (wL a cy n0 n1 I J S L).set 32 (a 32, .inl (cy 32, 960, .inr (.inl f))) = wL a cy n0 n1 I (va_up J 32 f) S L := rfl
theorem wL_at33 (a : Nat → Nat) (cy : Nat → ClassId) (n0 n1 : Nat) (I : TI) (J : TJ) (S : TS) (L : TL) : (wL a cy n0 n1 I J S L)[33]? = some (a 33, .inr (3, [.int (S 6), .ref (a 34), .ref (a 35), .ref (a 36), .ref (a 37), .ref (a 38), .int (S 5)])) := rfl
theorem wL_setS6 (a : Nat → Nat) (cy : Nat → ClassId) (n0 n1 : Nat) (I : TI) (J : TJ) (S : TS) (L : TL) (v : Int32) : (wL a cy n0 n1 I J S L).set 33 (a 33, .inr (3, List.set [.int (S 6), .ref (a 34), .ref (a 35), .ref (a 36), .ref (a 37), .ref (a 38), .int (S 5)] 0 (.int v))) = wL a cy n0 n1 I J (va_up S 6 v) L := rfl
theorem wL_setS5 (a : Nat → Nat) (cy : Nat → ClassId) (n0 n1 : Nat) (I : TI) (J : TJ) (S : TS) (L : TL) (v : Int32) : (wL a cy n0 n1 I J S L).set 33 (a 33, .inr (3, List.set [.int (S 6), .ref (a 34), .ref (a 35), .ref (a 36), .ref (a 37), .ref (a 38), .int (S 5)] 6 (.int v))) = wL a cy n0 n1 I J (va_up S 5 v) L := rfl
theorem wL_at34 (a : Nat → Nat) (cy : Nat → ClassId) (n0 n1 : Nat) (I : TI) (J : TJ) (S : TS) (L : TL) : (wL a cy n0 n1 I J S L)[34]? = some (a 34, .inl (cy 34, n0, .inl (I 34))) := rfl
theorem wL_set34 (a : Nat → Nat) (cy : Nat → ClassId) (n0 n1 : Nat) (I : TI) (J : TJ) (S : TS) (L : TL) (f : Nat → Int32) : (wL a cy n0 n1 I J S L).set 34 (a 34, .inl (cy 34, n0, .inl f)) = wL a cy n0 n1 (va_up I 34 f) J S L := rfl
theorem wL_at35 (a : Nat → Nat) (cy : Nat → ClassId) (n0 n1 : Nat) (I : TI) (J : TJ) (S : TS) (L : TL) : (wL a cy n0 n1 I J S L)[35]? = some (a 35, .inl (cy 35, n0, .inl (I 35))) := rfl
theorem wL_set35 (a : Nat → Nat) (cy : Nat → ClassId) (n0 n1 : Nat) (I : TI) (J : TJ) (S : TS) (L : TL) (f : Nat → Int32) : (wL a cy n0 n1 I J S L).set 35 (a 35, .inl (cy 35, n0, .inl f)) = wL a cy n0 n1 (va_up I 35 f) J S L := rfl
theorem wL_at36 (a : Nat → Nat) (cy : Nat → ClassId) (n0 n1 : Nat) (I : TI) (J : TJ) (S : TS) (L : TL) : (wL a cy n0 n1 I J S L)[36]? = some (a 36, .inl (cy 36, n0, .inl (I 36))) := rfl
theorem wL_set36 (a : Nat → Nat) (cy : Nat → ClassId) (n0 n1 : Nat) (I : TI) (J : TJ) (S : TS) (L : TL) (f : Nat → Int32) : (wL a cy n0 n1 I J S L).set 36 (a 36, .inl (cy 36, n0, .inl f)) = wL a cy n0 n1 (va_up I 36 f) J S L := rfl
theorem wL_at37 (a : Nat → Nat) (cy : Nat → ClassId) (n0 n1 : Nat) (I : TI) (J : TJ) (S : TS) (L : TL) : (wL a cy n0 n1 I J S L)[37]? = some (a 37, .inl (cy 37, n0, .inr (.inl (J 37)))) := rfl
theorem wL_set37 (a : Nat → Nat) (cy : Nat → ClassId) (n0 n1 : Nat) (I : TI) (J : TJ) (S : TS) (L : TL) (f : Nat → Int64) : (wL a cy n0 n1 I J S L).set 37 (a 37, .inl (cy 37, n0, .inr (.inl f))) = wL a cy n0 n1 I (va_up J 37 f) S L := rfl
theorem wL_at38 (a : Nat → Nat) (cy : Nat → ClassId) (n0 n1 : Nat) (I : TI) (J : TJ) (S : TS) (L : TL) : (wL a cy n0 n1 I J S L)[38]? = some (a 38, .inl (cy 38, n0, .inr (.inl (J 38)))) := rfl
theorem wL_set38 (a : Nat → Nat) (cy : Nat → ClassId) (n0 n1 : Nat) (I : TI) (J : TJ) (S : TS) (L : TL) (f : Nat → Int64) : (wL a cy n0 n1 I J S L).set 38 (a 38, .inl (cy 38, n0, .inr (.inl f))) = wL a cy n0 n1 I (va_up J 38 f) S L := rfl
theorem wL_at39 (a : Nat → Nat) (cy : Nat → ClassId) (n0 n1 : Nat) (I : TI) (J : TJ) (S : TS) (L : TL) : (wL a cy n0 n1 I J S L)[39]? = some (a 39, .inr (2, [.ref (a 40), .ref (a 41), .ref (a 42), .ref (a 43), .ref (a 44), .ref (a 45), .ref (a 46), .ref (a 47), .long (L 3), .long (L 4), .int (S 7), .int (S 8), .ref (a 0), .ref (a 5), .ref (a 14), .ref (a 21)])) := rfl
theorem wL_setL3 (a : Nat → Nat) (cy : Nat → ClassId) (n0 n1 : Nat) (I : TI) (J : TJ) (S : TS) (L : TL) (v : Int64) : (wL a cy n0 n1 I J S L).set 39 (a 39, .inr (2, List.set [.ref (a 40), .ref (a 41), .ref (a 42), .ref (a 43), .ref (a 44), .ref (a 45), .ref (a 46), .ref (a 47), .long (L 3), .long (L 4), .int (S 7), .int (S 8), .ref (a 0), .ref (a 5), .ref (a 14), .ref (a 21)] 8 (.long v))) = wL a cy n0 n1 I J S (va_up L 3 v) := rfl
theorem wL_setL4 (a : Nat → Nat) (cy : Nat → ClassId) (n0 n1 : Nat) (I : TI) (J : TJ) (S : TS) (L : TL) (v : Int64) : (wL a cy n0 n1 I J S L).set 39 (a 39, .inr (2, List.set [.ref (a 40), .ref (a 41), .ref (a 42), .ref (a 43), .ref (a 44), .ref (a 45), .ref (a 46), .ref (a 47), .long (L 3), .long (L 4), .int (S 7), .int (S 8), .ref (a 0), .ref (a 5), .ref (a 14), .ref (a 21)] 9 (.long v))) = wL a cy n0 n1 I J S (va_up L 4 v) := rfl
theorem wL_setS7 (a : Nat → Nat) (cy : Nat → ClassId) (n0 n1 : Nat) (I : TI) (J : TJ) (S : TS) (L : TL) (v : Int32) : (wL a cy n0 n1 I J S L).set 39 (a 39, .inr (2, List.set [.ref (a 40), .ref (a 41), .ref (a 42), .ref (a 43), .ref (a 44), .ref (a 45), .ref (a 46), .ref (a 47), .long (L 3), .long (L 4), .int (S 7), .int (S 8), .ref (a 0), .ref (a 5), .ref (a 14), .ref (a 21)] 10 (.int v))) = wL a cy n0 n1 I J (va_up S 7 v) L := rfl
theorem wL_setS8 (a : Nat → Nat) (cy : Nat → ClassId) (n0 n1 : Nat) (I : TI) (J : TJ) (S : TS) (L : TL) (v : Int32) : (wL a cy n0 n1 I J S L).set 39 (a 39, .inr (2, List.set [.ref (a 40), .ref (a 41), .ref (a 42), .ref (a 43), .ref (a 44), .ref (a 45), .ref (a 46), .ref (a 47), .long (L 3), .long (L 4), .int (S 7), .int (S 8), .ref (a 0), .ref (a 5), .ref (a 14), .ref (a 21)] 11 (.int v))) = wL a cy n0 n1 I J (va_up S 8 v) L := rfl
theorem wL_at40 (a : Nat → Nat) (cy : Nat → ClassId) (n0 n1 : Nat) (I : TI) (J : TJ) (S : TS) (L : TL) : (wL a cy n0 n1 I J S L)[40]? = some (a 40, .inl (cy 40, 12, .inr (.inl (J 40)))) := rfl
theorem wL_set40 (a : Nat → Nat) (cy : Nat → ClassId) (n0 n1 : Nat) (I : TI) (J : TJ) (S : TS) (L : TL) (f : Nat → Int64) : (wL a cy n0 n1 I J S L).set 40 (a 40, .inl (cy 40, 12, .inr (.inl f))) = wL a cy n0 n1 I (va_up J 40 f) S L := rfl
theorem wL_at41 (a : Nat → Nat) (cy : Nat → ClassId) (n0 n1 : Nat) (I : TI) (J : TJ) (S : TS) (L : TL) : (wL a cy n0 n1 I J S L)[41]? = some (a 41, .inl (cy 41, 12, .inr (.inl (J 41)))) := rfl
theorem wL_set41 (a : Nat → Nat) (cy : Nat → ClassId) (n0 n1 : Nat) (I : TI) (J : TJ) (S : TS) (L : TL) (f : Nat → Int64) : (wL a cy n0 n1 I J S L).set 41 (a 41, .inl (cy 41, 12, .inr (.inl f))) = wL a cy n0 n1 I (va_up J 41 f) S L := rfl
theorem wL_at42 (a : Nat → Nat) (cy : Nat → ClassId) (n0 n1 : Nat) (I : TI) (J : TJ) (S : TS) (L : TL) : (wL a cy n0 n1 I J S L)[42]? = some (a 42, .inl (cy 42, 12, .inr (.inl (J 42)))) := rfl
theorem wL_set42 (a : Nat → Nat) (cy : Nat → ClassId) (n0 n1 : Nat) (I : TI) (J : TJ) (S : TS) (L : TL) (f : Nat → Int64) : (wL a cy n0 n1 I J S L).set 42 (a 42, .inl (cy 42, 12, .inr (.inl f))) = wL a cy n0 n1 I (va_up J 42 f) S L := rfl
theorem wL_at43 (a : Nat → Nat) (cy : Nat → ClassId) (n0 n1 : Nat) (I : TI) (J : TJ) (S : TS) (L : TL) : (wL a cy n0 n1 I J S L)[43]? = some (a 43, .inl (cy 43, 480, .inl (I 43))) := rfl
theorem wL_set43 (a : Nat → Nat) (cy : Nat → ClassId) (n0 n1 : Nat) (I : TI) (J : TJ) (S : TS) (L : TL) (f : Nat → Int32) : (wL a cy n0 n1 I J S L).set 43 (a 43, .inl (cy 43, 480, .inl f)) = wL a cy n0 n1 (va_up I 43 f) J S L := rfl
theorem wL_at44 (a : Nat → Nat) (cy : Nat → ClassId) (n0 n1 : Nat) (I : TI) (J : TJ) (S : TS) (L : TL) : (wL a cy n0 n1 I J S L)[44]? = some (a 44, .inl (cy 44, 24, .inr (.inl (J 44)))) := rfl
theorem wL_set44 (a : Nat → Nat) (cy : Nat → ClassId) (n0 n1 : Nat) (I : TI) (J : TJ) (S : TS) (L : TL) (f : Nat → Int64) : (wL a cy n0 n1 I J S L).set 44 (a 44, .inl (cy 44, 24, .inr (.inl f))) = wL a cy n0 n1 I (va_up J 44 f) S L := rfl
theorem wL_at45 (a : Nat → Nat) (cy : Nat → ClassId) (n0 n1 : Nat) (I : TI) (J : TJ) (S : TS) (L : TL) : (wL a cy n0 n1 I J S L)[45]? = some (a 45, .inl (cy 45, 24, .inr (.inl (J 45)))) := rfl
theorem wL_set45 (a : Nat → Nat) (cy : Nat → ClassId) (n0 n1 : Nat) (I : TI) (J : TJ) (S : TS) (L : TL) (f : Nat → Int64) : (wL a cy n0 n1 I J S L).set 45 (a 45, .inl (cy 45, 24, .inr (.inl f))) = wL a cy n0 n1 I (va_up J 45 f) S L := rfl
theorem wL_at46 (a : Nat → Nat) (cy : Nat → ClassId) (n0 n1 : Nat) (I : TI) (J : TJ) (S : TS) (L : TL) : (wL a cy n0 n1 I J S L)[46]? = some (a 46, .inl (cy 46, 960, .inr (.inl (J 46)))) := rfl
theorem wL_set46 (a : Nat → Nat) (cy : Nat → ClassId) (n0 n1 : Nat) (I : TI) (J : TJ) (S : TS) (L : TL) (f : Nat → Int64) : (wL a cy n0 n1 I J S L).set 46 (a 46, .inl (cy 46, 960, .inr (.inl f))) = wL a cy n0 n1 I (va_up J 46 f) S L := rfl
theorem wL_at47 (a : Nat → Nat) (cy : Nat → ClassId) (n0 n1 : Nat) (I : TI) (J : TJ) (S : TS) (L : TL) : (wL a cy n0 n1 I J S L)[47]? = some (a 47, .inr (3, [.int (S 10), .ref (a 48), .ref (a 49), .ref (a 50), .ref (a 51), .ref (a 52), .int (S 9)])) := rfl
theorem wL_setS10 (a : Nat → Nat) (cy : Nat → ClassId) (n0 n1 : Nat) (I : TI) (J : TJ) (S : TS) (L : TL) (v : Int32) : (wL a cy n0 n1 I J S L).set 47 (a 47, .inr (3, List.set [.int (S 10), .ref (a 48), .ref (a 49), .ref (a 50), .ref (a 51), .ref (a 52), .int (S 9)] 0 (.int v))) = wL a cy n0 n1 I J (va_up S 10 v) L := rfl
theorem wL_setS9 (a : Nat → Nat) (cy : Nat → ClassId) (n0 n1 : Nat) (I : TI) (J : TJ) (S : TS) (L : TL) (v : Int32) : (wL a cy n0 n1 I J S L).set 47 (a 47, .inr (3, List.set [.int (S 10), .ref (a 48), .ref (a 49), .ref (a 50), .ref (a 51), .ref (a 52), .int (S 9)] 6 (.int v))) = wL a cy n0 n1 I J (va_up S 9 v) L := rfl
theorem wL_at48 (a : Nat → Nat) (cy : Nat → ClassId) (n0 n1 : Nat) (I : TI) (J : TJ) (S : TS) (L : TL) : (wL a cy n0 n1 I J S L)[48]? = some (a 48, .inl (cy 48, n1, .inl (I 48))) := rfl
theorem wL_set48 (a : Nat → Nat) (cy : Nat → ClassId) (n0 n1 : Nat) (I : TI) (J : TJ) (S : TS) (L : TL) (f : Nat → Int32) : (wL a cy n0 n1 I J S L).set 48 (a 48, .inl (cy 48, n1, .inl f)) = wL a cy n0 n1 (va_up I 48 f) J S L := rfl
theorem wL_at49 (a : Nat → Nat) (cy : Nat → ClassId) (n0 n1 : Nat) (I : TI) (J : TJ) (S : TS) (L : TL) : (wL a cy n0 n1 I J S L)[49]? = some (a 49, .inl (cy 49, n1, .inl (I 49))) := rfl
theorem wL_set49 (a : Nat → Nat) (cy : Nat → ClassId) (n0 n1 : Nat) (I : TI) (J : TJ) (S : TS) (L : TL) (f : Nat → Int32) : (wL a cy n0 n1 I J S L).set 49 (a 49, .inl (cy 49, n1, .inl f)) = wL a cy n0 n1 (va_up I 49 f) J S L := rfl
theorem wL_at50 (a : Nat → Nat) (cy : Nat → ClassId) (n0 n1 : Nat) (I : TI) (J : TJ) (S : TS) (L : TL) : (wL a cy n0 n1 I J S L)[50]? = some (a 50, .inl (cy 50, n1, .inl (I 50))) := rfl
theorem wL_set50 (a : Nat → Nat) (cy : Nat → ClassId) (n0 n1 : Nat) (I : TI) (J : TJ) (S : TS) (L : TL) (f : Nat → Int32) : (wL a cy n0 n1 I J S L).set 50 (a 50, .inl (cy 50, n1, .inl f)) = wL a cy n0 n1 (va_up I 50 f) J S L := rfl
theorem wL_at51 (a : Nat → Nat) (cy : Nat → ClassId) (n0 n1 : Nat) (I : TI) (J : TJ) (S : TS) (L : TL) : (wL a cy n0 n1 I J S L)[51]? = some (a 51, .inl (cy 51, n1, .inr (.inl (J 51)))) := rfl
theorem wL_set51 (a : Nat → Nat) (cy : Nat → ClassId) (n0 n1 : Nat) (I : TI) (J : TJ) (S : TS) (L : TL) (f : Nat → Int64) : (wL a cy n0 n1 I J S L).set 51 (a 51, .inl (cy 51, n1, .inr (.inl f))) = wL a cy n0 n1 I (va_up J 51 f) S L := rfl
theorem wL_at52 (a : Nat → Nat) (cy : Nat → ClassId) (n0 n1 : Nat) (I : TI) (J : TJ) (S : TS) (L : TL) : (wL a cy n0 n1 I J S L)[52]? = some (a 52, .inl (cy 52, n1, .inr (.inl (J 52)))) := rfl
theorem wL_set52 (a : Nat → Nat) (cy : Nat → ClassId) (n0 n1 : Nat) (I : TI) (J : TJ) (S : TS) (L : TL) (f : Nat → Int64) : (wL a cy n0 n1 I J S L).set 52 (a 52, .inl (cy 52, n1, .inr (.inl f))) = wL a cy n0 n1 I (va_up J 52 f) S L := rfl
def wM (a : Nat → Nat) (cy : Nat → ClassId) (I : TI) (J : TJ) (S : TS) (L : TL) : va_W := [(a 0, .inr (8, [.int (S 0), .ref (a 1), .ref (a 2), .ref (a 3), .ref (a 4), .int (S 1), .ref (a 5), .ref (a 6), .ref (a 7), .ref (a 8), .ref (a 9), .ref (a 10), .ref (a 11), .ref (a 12), .ref (a 13), .ref (a 14), .ref (a 15), .ref (a 16), .ref (a 17), .ref (a 18), .ref (a 19), .ref (a 20), .ref (a 21), .ref (a 22), .ref (a 23), .ref (a 24), .ref (a 25), .ref (a 26), .ref (a 27), .ref (a 28), .ref (a 29), .ref (a 30), .ref (a 31), .ref (a 32), .int (S 2), .int (S 3), .ref (a 33), .ref (a 34), .ref (a 35), .ref (a 36), .ref (a 37), .int (S 4), .ref (a 38), .ref (a 39), .ref (a 40), .long (L 0), .int (S 5)])), (a 1, .inl (cy 1, 12, .inl (I 1))), (a 2, .inl (cy 2, 72, .inl (I 2))), (a 3, .inl (cy 3, 216, .inl (I 3))), (a 4, .inl (cy 4, 216, .inl (I 4))), (a 5, .inl (cy 5, 24, .inl (I 5))), (a 6, .inl (cy 6, 24, .inl (I 6))), (a 7, .inl (cy 7, 24, .inl (I 7))), (a 8, .inl (cy 8, 24, .inl (I 8))), (a 9, .inl (cy 9, 24, .inl (I 9))), (a 10, .inl (cy 10, 24, .inl (I 10))), (a 11, .inl (cy 11, 24, .inl (I 11))), (a 12, .inl (cy 12, 24, .inl (I 12))), (a 13, .inl (cy 13, 480, .inl (I 13))), (a 14, .inl (cy 14, 480, .inl (I 14))), (a 15, .inl (cy 15, 480, .inl (I 15))), (a 16, .inl (cy 16, 480, .inl (I 16))), (a 17, .inl (cy 17, 480, .inl (I 17))), (a 18, .inl (cy 18, 40, .inl (I 18))), (a 19, .inl (cy 19, 40, .inl (I 19))), (a 20, .inl (cy 20, 480, .inl (I 20))), (a 21, .inl (cy 21, 24, .inr (.inl (J 21)))), (a 22, .inl (cy 22, 24, .inr (.inl (J 22)))), (a 23, .inl (cy 23, 48, .inr (.inl (J 23)))), (a 24, .inl (cy 24, 48, .inr (.inl (J 24)))), (a 25, .inl (cy 25, 1920, .inr (.inl (J 25)))), (a 26, .inl (cy 26, 960, .inl (I 26))), (a 27, .inl (cy 27, 24, .inl (I 27))), (a 28, .inl (cy 28, 2, .inr (.inl (J 28)))), (a 29, .inl (cy 29, 3, .inl (I 29))), (a 30, .inl (cy 30, 3, .inl (I 30))), (a 31, .inl (cy 31, 3, .inl (I 31))), (a 32, .inl (cy 32, 3, .inr (.inl (J 32)))), (a 33, .inl (cy 33, 600, .inl (I 33))), (a 34, .inl (cy 34, 600, .inl (I 34))), (a 35, .inl (cy 35, 600, .inl (I 35))), (a 36, .inl (cy 36, 600, .inr (.inl (J 36)))), (a 37, .inl (cy 37, 600, .inr (.inl (J 37)))), (a 38, .inl (cy 38, 60, .inl (I 38))), (a 39, .inl (cy 39, 60, .inl (I 39))), (a 40, .inl (cy 40, 60, .inl (I 40)))]
def tyM (cy : Nat → ClassId) : TY := [(cy 1, .int), (cy 2, .int), (cy 3, .int), (cy 4, .int), (cy 5, .int), (cy 6, .int), (cy 7, .int), (cy 8, .int), (cy 9, .int), (cy 10, .int), (cy 11, .int), (cy 12, .int), (cy 13, .int), (cy 14, .int), (cy 15, .int), (cy 16, .int), (cy 17, .int), (cy 18, .int), (cy 19, .int), (cy 20, .boolean), (cy 21, .long), (cy 22, .long), (cy 23, .long), (cy 24, .long), (cy 25, .long), (cy 26, .int), (cy 27, .int), (cy 28, .long), (cy 29, .int), (cy 30, .int), (cy 31, .int), (cy 32, .long), (cy 33, .int), (cy 34, .int), (cy 35, .int), (cy 36, .long), (cy 37, .long), (cy 38, .int), (cy 39, .int), (cy 40, .int)]
theorem tyM_1 (cy : Nat → ClassId) : (tyM cy)[0]? = some (cy 1, .int) := rfl
theorem tyM_2 (cy : Nat → ClassId) : (tyM cy)[1]? = some (cy 2, .int) := rfl
theorem tyM_3 (cy : Nat → ClassId) : (tyM cy)[2]? = some (cy 3, .int) := rfl
theorem tyM_4 (cy : Nat → ClassId) : (tyM cy)[3]? = some (cy 4, .int) := rfl
theorem tyM_5 (cy : Nat → ClassId) : (tyM cy)[4]? = some (cy 5, .int) := rfl
theorem tyM_6 (cy : Nat → ClassId) : (tyM cy)[5]? = some (cy 6, .int) := rfl
theorem tyM_7 (cy : Nat → ClassId) : (tyM cy)[6]? = some (cy 7, .int) := rfl
theorem tyM_8 (cy : Nat → ClassId) : (tyM cy)[7]? = some (cy 8, .int) := rfl
theorem tyM_9 (cy : Nat → ClassId) : (tyM cy)[8]? = some (cy 9, .int) := rfl
theorem tyM_10 (cy : Nat → ClassId) : (tyM cy)[9]? = some (cy 10, .int) := rfl
theorem tyM_11 (cy : Nat → ClassId) : (tyM cy)[10]? = some (cy 11, .int) := rfl
theorem tyM_12 (cy : Nat → ClassId) : (tyM cy)[11]? = some (cy 12, .int) := rfl
theorem tyM_13 (cy : Nat → ClassId) : (tyM cy)[12]? = some (cy 13, .int) := rfl
theorem tyM_14 (cy : Nat → ClassId) : (tyM cy)[13]? = some (cy 14, .int) := rfl
theorem tyM_15 (cy : Nat → ClassId) : (tyM cy)[14]? = some (cy 15, .int) := rfl
theorem tyM_16 (cy : Nat → ClassId) : (tyM cy)[15]? = some (cy 16, .int) := rfl
theorem tyM_17 (cy : Nat → ClassId) : (tyM cy)[16]? = some (cy 17, .int) := rfl
theorem tyM_18 (cy : Nat → ClassId) : (tyM cy)[17]? = some (cy 18, .int) := rfl
theorem tyM_19 (cy : Nat → ClassId) : (tyM cy)[18]? = some (cy 19, .int) := rfl
theorem tyM_20 (cy : Nat → ClassId) : (tyM cy)[19]? = some (cy 20, .boolean) := rfl
theorem tyM_21 (cy : Nat → ClassId) : (tyM cy)[20]? = some (cy 21, .long) := rfl
theorem tyM_22 (cy : Nat → ClassId) : (tyM cy)[21]? = some (cy 22, .long) := rfl
theorem tyM_23 (cy : Nat → ClassId) : (tyM cy)[22]? = some (cy 23, .long) := rfl
theorem tyM_24 (cy : Nat → ClassId) : (tyM cy)[23]? = some (cy 24, .long) := rfl
theorem tyM_25 (cy : Nat → ClassId) : (tyM cy)[24]? = some (cy 25, .long) := rfl
theorem tyM_26 (cy : Nat → ClassId) : (tyM cy)[25]? = some (cy 26, .int) := rfl
theorem tyM_27 (cy : Nat → ClassId) : (tyM cy)[26]? = some (cy 27, .int) := rfl
theorem tyM_28 (cy : Nat → ClassId) : (tyM cy)[27]? = some (cy 28, .long) := rfl
theorem tyM_29 (cy : Nat → ClassId) : (tyM cy)[28]? = some (cy 29, .int) := rfl
theorem tyM_30 (cy : Nat → ClassId) : (tyM cy)[29]? = some (cy 30, .int) := rfl
theorem tyM_31 (cy : Nat → ClassId) : (tyM cy)[30]? = some (cy 31, .int) := rfl
theorem tyM_32 (cy : Nat → ClassId) : (tyM cy)[31]? = some (cy 32, .long) := rfl
theorem tyM_33 (cy : Nat → ClassId) : (tyM cy)[32]? = some (cy 33, .int) := rfl
theorem tyM_34 (cy : Nat → ClassId) : (tyM cy)[33]? = some (cy 34, .int) := rfl
theorem tyM_35 (cy : Nat → ClassId) : (tyM cy)[34]? = some (cy 35, .int) := rfl
theorem tyM_36 (cy : Nat → ClassId) : (tyM cy)[35]? = some (cy 36, .long) := rfl
theorem tyM_37 (cy : Nat → ClassId) : (tyM cy)[36]? = some (cy 37, .long) := rfl
theorem tyM_38 (cy : Nat → ClassId) : (tyM cy)[37]? = some (cy 38, .int) := rfl
theorem tyM_39 (cy : Nat → ClassId) : (tyM cy)[38]? = some (cy 39, .int) := rfl
theorem tyM_40 (cy : Nat → ClassId) : (tyM cy)[39]? = some (cy 40, .int) := rfl
theorem wM_at0 (a : Nat → Nat) (cy : Nat → ClassId) (I : TI) (J : TJ) (S : TS) (L : TL) : (wM a cy I J S L)[0]? = some (a 0, .inr (8, [.int (S 0), .ref (a 1), .ref (a 2), .ref (a 3), .ref (a 4), .int (S 1), .ref (a 5), .ref (a 6), .ref (a 7), .ref (a 8), .ref (a 9), .ref (a 10), .ref (a 11), .ref (a 12), .ref (a 13), .ref (a 14), .ref (a 15), .ref (a 16), .ref (a 17), .ref (a 18), .ref (a 19), .ref (a 20), .ref (a 21), .ref (a 22), .ref (a 23), .ref (a 24), .ref (a 25), .ref (a 26), .ref (a 27), .ref (a 28), .ref (a 29), .ref (a 30), .ref (a 31), .ref (a 32), .int (S 2), .int (S 3), .ref (a 33), .ref (a 34), .ref (a 35), .ref (a 36), .ref (a 37), .int (S 4), .ref (a 38), .ref (a 39), .ref (a 40), .long (L 0), .int (S 5)])) := rfl
theorem wM_setS0 (a : Nat → Nat) (cy : Nat → ClassId) (I : TI) (J : TJ) (S : TS) (L : TL) (v : Int32) : (wM a cy I J S L).set 0 (a 0, .inr (8, List.set [.int (S 0), .ref (a 1), .ref (a 2), .ref (a 3), .ref (a 4), .int (S 1), .ref (a 5), .ref (a 6), .ref (a 7), .ref (a 8), .ref (a 9), .ref (a 10), .ref (a 11), .ref (a 12), .ref (a 13), .ref (a 14), .ref (a 15), .ref (a 16), .ref (a 17), .ref (a 18), .ref (a 19), .ref (a 20), .ref (a 21), .ref (a 22), .ref (a 23), .ref (a 24), .ref (a 25), .ref (a 26), .ref (a 27), .ref (a 28), .ref (a 29), .ref (a 30), .ref (a 31), .ref (a 32), .int (S 2), .int (S 3), .ref (a 33), .ref (a 34), .ref (a 35), .ref (a 36), .ref (a 37), .int (S 4), .ref (a 38), .ref (a 39), .ref (a 40), .long (L 0), .int (S 5)] 0 (.int v))) = wM a cy I J (va_up S 0 v) L := rfl
theorem wM_setS1 (a : Nat → Nat) (cy : Nat → ClassId) (I : TI) (J : TJ) (S : TS) (L : TL) (v : Int32) : (wM a cy I J S L).set 0 (a 0, .inr (8, List.set [.int (S 0), .ref (a 1), .ref (a 2), .ref (a 3), .ref (a 4), .int (S 1), .ref (a 5), .ref (a 6), .ref (a 7), .ref (a 8), .ref (a 9), .ref (a 10), .ref (a 11), .ref (a 12), .ref (a 13), .ref (a 14), .ref (a 15), .ref (a 16), .ref (a 17), .ref (a 18), .ref (a 19), .ref (a 20), .ref (a 21), .ref (a 22), .ref (a 23), .ref (a 24), .ref (a 25), .ref (a 26), .ref (a 27), .ref (a 28), .ref (a 29), .ref (a 30), .ref (a 31), .ref (a 32), .int (S 2), .int (S 3), .ref (a 33), .ref (a 34), .ref (a 35), .ref (a 36), .ref (a 37), .int (S 4), .ref (a 38), .ref (a 39), .ref (a 40), .long (L 0), .int (S 5)] 5 (.int v))) = wM a cy I J (va_up S 1 v) L := rfl
theorem wM_setS2 (a : Nat → Nat) (cy : Nat → ClassId) (I : TI) (J : TJ) (S : TS) (L : TL) (v : Int32) : (wM a cy I J S L).set 0 (a 0, .inr (8, List.set [.int (S 0), .ref (a 1), .ref (a 2), .ref (a 3), .ref (a 4), .int (S 1), .ref (a 5), .ref (a 6), .ref (a 7), .ref (a 8), .ref (a 9), .ref (a 10), .ref (a 11), .ref (a 12), .ref (a 13), .ref (a 14), .ref (a 15), .ref (a 16), .ref (a 17), .ref (a 18), .ref (a 19), .ref (a 20), .ref (a 21), .ref (a 22), .ref (a 23), .ref (a 24), .ref (a 25), .ref (a 26), .ref (a 27), .ref (a 28), .ref (a 29), .ref (a 30), .ref (a 31), .ref (a 32), .int (S 2), .int (S 3), .ref (a 33), .ref (a 34), .ref (a 35), .ref (a 36), .ref (a 37), .int (S 4), .ref (a 38), .ref (a 39), .ref (a 40), .long (L 0), .int (S 5)] 34 (.int v))) = wM a cy I J (va_up S 2 v) L := rfl
theorem wM_setS3 (a : Nat → Nat) (cy : Nat → ClassId) (I : TI) (J : TJ) (S : TS) (L : TL) (v : Int32) : (wM a cy I J S L).set 0 (a 0, .inr (8, List.set [.int (S 0), .ref (a 1), .ref (a 2), .ref (a 3), .ref (a 4), .int (S 1), .ref (a 5), .ref (a 6), .ref (a 7), .ref (a 8), .ref (a 9), .ref (a 10), .ref (a 11), .ref (a 12), .ref (a 13), .ref (a 14), .ref (a 15), .ref (a 16), .ref (a 17), .ref (a 18), .ref (a 19), .ref (a 20), .ref (a 21), .ref (a 22), .ref (a 23), .ref (a 24), .ref (a 25), .ref (a 26), .ref (a 27), .ref (a 28), .ref (a 29), .ref (a 30), .ref (a 31), .ref (a 32), .int (S 2), .int (S 3), .ref (a 33), .ref (a 34), .ref (a 35), .ref (a 36), .ref (a 37), .int (S 4), .ref (a 38), .ref (a 39), .ref (a 40), .long (L 0), .int (S 5)] 35 (.int v))) = wM a cy I J (va_up S 3 v) L := rfl
theorem wM_setS4 (a : Nat → Nat) (cy : Nat → ClassId) (I : TI) (J : TJ) (S : TS) (L : TL) (v : Int32) : (wM a cy I J S L).set 0 (a 0, .inr (8, List.set [.int (S 0), .ref (a 1), .ref (a 2), .ref (a 3), .ref (a 4), .int (S 1), .ref (a 5), .ref (a 6), .ref (a 7), .ref (a 8), .ref (a 9), .ref (a 10), .ref (a 11), .ref (a 12), .ref (a 13), .ref (a 14), .ref (a 15), .ref (a 16), .ref (a 17), .ref (a 18), .ref (a 19), .ref (a 20), .ref (a 21), .ref (a 22), .ref (a 23), .ref (a 24), .ref (a 25), .ref (a 26), .ref (a 27), .ref (a 28), .ref (a 29), .ref (a 30), .ref (a 31), .ref (a 32), .int (S 2), .int (S 3), .ref (a 33), .ref (a 34), .ref (a 35), .ref (a 36), .ref (a 37), .int (S 4), .ref (a 38), .ref (a 39), .ref (a 40), .long (L 0), .int (S 5)] 41 (.int v))) = wM a cy I J (va_up S 4 v) L := rfl
theorem wM_setL0 (a : Nat → Nat) (cy : Nat → ClassId) (I : TI) (J : TJ) (S : TS) (L : TL) (v : Int64) : (wM a cy I J S L).set 0 (a 0, .inr (8, List.set [.int (S 0), .ref (a 1), .ref (a 2), .ref (a 3), .ref (a 4), .int (S 1), .ref (a 5), .ref (a 6), .ref (a 7), .ref (a 8), .ref (a 9), .ref (a 10), .ref (a 11), .ref (a 12), .ref (a 13), .ref (a 14), .ref (a 15), .ref (a 16), .ref (a 17), .ref (a 18), .ref (a 19), .ref (a 20), .ref (a 21), .ref (a 22), .ref (a 23), .ref (a 24), .ref (a 25), .ref (a 26), .ref (a 27), .ref (a 28), .ref (a 29), .ref (a 30), .ref (a 31), .ref (a 32), .int (S 2), .int (S 3), .ref (a 33), .ref (a 34), .ref (a 35), .ref (a 36), .ref (a 37), .int (S 4), .ref (a 38), .ref (a 39), .ref (a 40), .long (L 0), .int (S 5)] 45 (.long v))) = wM a cy I J S (va_up L 0 v) := rfl
theorem wM_setS5 (a : Nat → Nat) (cy : Nat → ClassId) (I : TI) (J : TJ) (S : TS) (L : TL) (v : Int32) : (wM a cy I J S L).set 0 (a 0, .inr (8, List.set [.int (S 0), .ref (a 1), .ref (a 2), .ref (a 3), .ref (a 4), .int (S 1), .ref (a 5), .ref (a 6), .ref (a 7), .ref (a 8), .ref (a 9), .ref (a 10), .ref (a 11), .ref (a 12), .ref (a 13), .ref (a 14), .ref (a 15), .ref (a 16), .ref (a 17), .ref (a 18), .ref (a 19), .ref (a 20), .ref (a 21), .ref (a 22), .ref (a 23), .ref (a 24), .ref (a 25), .ref (a 26), .ref (a 27), .ref (a 28), .ref (a 29), .ref (a 30), .ref (a 31), .ref (a 32), .int (S 2), .int (S 3), .ref (a 33), .ref (a 34), .ref (a 35), .ref (a 36), .ref (a 37), .int (S 4), .ref (a 38), .ref (a 39), .ref (a 40), .long (L 0), .int (S 5)] 46 (.int v))) = wM a cy I J (va_up S 5 v) L := rfl
theorem wM_at1 (a : Nat → Nat) (cy : Nat → ClassId) (I : TI) (J : TJ) (S : TS) (L : TL) : (wM a cy I J S L)[1]? = some (a 1, .inl (cy 1, 12, .inl (I 1))) := rfl
theorem wM_set1 (a : Nat → Nat) (cy : Nat → ClassId) (I : TI) (J : TJ) (S : TS) (L : TL) (f : Nat → Int32) : (wM a cy I J S L).set 1 (a 1, .inl (cy 1, 12, .inl f)) = wM a cy (va_up I 1 f) J S L := rfl
theorem wM_at2 (a : Nat → Nat) (cy : Nat → ClassId) (I : TI) (J : TJ) (S : TS) (L : TL) : (wM a cy I J S L)[2]? = some (a 2, .inl (cy 2, 72, .inl (I 2))) := rfl
theorem wM_set2 (a : Nat → Nat) (cy : Nat → ClassId) (I : TI) (J : TJ) (S : TS) (L : TL) (f : Nat → Int32) : (wM a cy I J S L).set 2 (a 2, .inl (cy 2, 72, .inl f)) = wM a cy (va_up I 2 f) J S L := rfl
theorem wM_at3 (a : Nat → Nat) (cy : Nat → ClassId) (I : TI) (J : TJ) (S : TS) (L : TL) : (wM a cy I J S L)[3]? = some (a 3, .inl (cy 3, 216, .inl (I 3))) := rfl
theorem wM_set3 (a : Nat → Nat) (cy : Nat → ClassId) (I : TI) (J : TJ) (S : TS) (L : TL) (f : Nat → Int32) : (wM a cy I J S L).set 3 (a 3, .inl (cy 3, 216, .inl f)) = wM a cy (va_up I 3 f) J S L := rfl
theorem wM_at4 (a : Nat → Nat) (cy : Nat → ClassId) (I : TI) (J : TJ) (S : TS) (L : TL) : (wM a cy I J S L)[4]? = some (a 4, .inl (cy 4, 216, .inl (I 4))) := rfl
theorem wM_set4 (a : Nat → Nat) (cy : Nat → ClassId) (I : TI) (J : TJ) (S : TS) (L : TL) (f : Nat → Int32) : (wM a cy I J S L).set 4 (a 4, .inl (cy 4, 216, .inl f)) = wM a cy (va_up I 4 f) J S L := rfl
theorem wM_at5 (a : Nat → Nat) (cy : Nat → ClassId) (I : TI) (J : TJ) (S : TS) (L : TL) : (wM a cy I J S L)[5]? = some (a 5, .inl (cy 5, 24, .inl (I 5))) := rfl
theorem wM_set5 (a : Nat → Nat) (cy : Nat → ClassId) (I : TI) (J : TJ) (S : TS) (L : TL) (f : Nat → Int32) : (wM a cy I J S L).set 5 (a 5, .inl (cy 5, 24, .inl f)) = wM a cy (va_up I 5 f) J S L := rfl
theorem wM_at6 (a : Nat → Nat) (cy : Nat → ClassId) (I : TI) (J : TJ) (S : TS) (L : TL) : (wM a cy I J S L)[6]? = some (a 6, .inl (cy 6, 24, .inl (I 6))) := rfl
theorem wM_set6 (a : Nat → Nat) (cy : Nat → ClassId) (I : TI) (J : TJ) (S : TS) (L : TL) (f : Nat → Int32) : (wM a cy I J S L).set 6 (a 6, .inl (cy 6, 24, .inl f)) = wM a cy (va_up I 6 f) J S L := rfl
theorem wM_at7 (a : Nat → Nat) (cy : Nat → ClassId) (I : TI) (J : TJ) (S : TS) (L : TL) : (wM a cy I J S L)[7]? = some (a 7, .inl (cy 7, 24, .inl (I 7))) := rfl
theorem wM_set7 (a : Nat → Nat) (cy : Nat → ClassId) (I : TI) (J : TJ) (S : TS) (L : TL) (f : Nat → Int32) : (wM a cy I J S L).set 7 (a 7, .inl (cy 7, 24, .inl f)) = wM a cy (va_up I 7 f) J S L := rfl
theorem wM_at8 (a : Nat → Nat) (cy : Nat → ClassId) (I : TI) (J : TJ) (S : TS) (L : TL) : (wM a cy I J S L)[8]? = some (a 8, .inl (cy 8, 24, .inl (I 8))) := rfl
theorem wM_set8 (a : Nat → Nat) (cy : Nat → ClassId) (I : TI) (J : TJ) (S : TS) (L : TL) (f : Nat → Int32) : (wM a cy I J S L).set 8 (a 8, .inl (cy 8, 24, .inl f)) = wM a cy (va_up I 8 f) J S L := rfl
theorem wM_at9 (a : Nat → Nat) (cy : Nat → ClassId) (I : TI) (J : TJ) (S : TS) (L : TL) : (wM a cy I J S L)[9]? = some (a 9, .inl (cy 9, 24, .inl (I 9))) := rfl
theorem wM_set9 (a : Nat → Nat) (cy : Nat → ClassId) (I : TI) (J : TJ) (S : TS) (L : TL) (f : Nat → Int32) : (wM a cy I J S L).set 9 (a 9, .inl (cy 9, 24, .inl f)) = wM a cy (va_up I 9 f) J S L := rfl
theorem wM_at10 (a : Nat → Nat) (cy : Nat → ClassId) (I : TI) (J : TJ) (S : TS) (L : TL) : (wM a cy I J S L)[10]? = some (a 10, .inl (cy 10, 24, .inl (I 10))) := rfl
theorem wM_set10 (a : Nat → Nat) (cy : Nat → ClassId) (I : TI) (J : TJ) (S : TS) (L : TL) (f : Nat → Int32) : (wM a cy I J S L).set 10 (a 10, .inl (cy 10, 24, .inl f)) = wM a cy (va_up I 10 f) J S L := rfl
theorem wM_at11 (a : Nat → Nat) (cy : Nat → ClassId) (I : TI) (J : TJ) (S : TS) (L : TL) : (wM a cy I J S L)[11]? = some (a 11, .inl (cy 11, 24, .inl (I 11))) := rfl
theorem wM_set11 (a : Nat → Nat) (cy : Nat → ClassId) (I : TI) (J : TJ) (S : TS) (L : TL) (f : Nat → Int32) : (wM a cy I J S L).set 11 (a 11, .inl (cy 11, 24, .inl f)) = wM a cy (va_up I 11 f) J S L := rfl
theorem wM_at12 (a : Nat → Nat) (cy : Nat → ClassId) (I : TI) (J : TJ) (S : TS) (L : TL) : (wM a cy I J S L)[12]? = some (a 12, .inl (cy 12, 24, .inl (I 12))) := rfl
theorem wM_set12 (a : Nat → Nat) (cy : Nat → ClassId) (I : TI) (J : TJ) (S : TS) (L : TL) (f : Nat → Int32) : (wM a cy I J S L).set 12 (a 12, .inl (cy 12, 24, .inl f)) = wM a cy (va_up I 12 f) J S L := rfl
theorem wM_at13 (a : Nat → Nat) (cy : Nat → ClassId) (I : TI) (J : TJ) (S : TS) (L : TL) : (wM a cy I J S L)[13]? = some (a 13, .inl (cy 13, 480, .inl (I 13))) := rfl
theorem wM_set13 (a : Nat → Nat) (cy : Nat → ClassId) (I : TI) (J : TJ) (S : TS) (L : TL) (f : Nat → Int32) : (wM a cy I J S L).set 13 (a 13, .inl (cy 13, 480, .inl f)) = wM a cy (va_up I 13 f) J S L := rfl
theorem wM_at14 (a : Nat → Nat) (cy : Nat → ClassId) (I : TI) (J : TJ) (S : TS) (L : TL) : (wM a cy I J S L)[14]? = some (a 14, .inl (cy 14, 480, .inl (I 14))) := rfl
theorem wM_set14 (a : Nat → Nat) (cy : Nat → ClassId) (I : TI) (J : TJ) (S : TS) (L : TL) (f : Nat → Int32) : (wM a cy I J S L).set 14 (a 14, .inl (cy 14, 480, .inl f)) = wM a cy (va_up I 14 f) J S L := rfl
theorem wM_at15 (a : Nat → Nat) (cy : Nat → ClassId) (I : TI) (J : TJ) (S : TS) (L : TL) : (wM a cy I J S L)[15]? = some (a 15, .inl (cy 15, 480, .inl (I 15))) := rfl
theorem wM_set15 (a : Nat → Nat) (cy : Nat → ClassId) (I : TI) (J : TJ) (S : TS) (L : TL) (f : Nat → Int32) : (wM a cy I J S L).set 15 (a 15, .inl (cy 15, 480, .inl f)) = wM a cy (va_up I 15 f) J S L := rfl
theorem wM_at16 (a : Nat → Nat) (cy : Nat → ClassId) (I : TI) (J : TJ) (S : TS) (L : TL) : (wM a cy I J S L)[16]? = some (a 16, .inl (cy 16, 480, .inl (I 16))) := rfl
theorem wM_set16 (a : Nat → Nat) (cy : Nat → ClassId) (I : TI) (J : TJ) (S : TS) (L : TL) (f : Nat → Int32) : (wM a cy I J S L).set 16 (a 16, .inl (cy 16, 480, .inl f)) = wM a cy (va_up I 16 f) J S L := rfl
theorem wM_at17 (a : Nat → Nat) (cy : Nat → ClassId) (I : TI) (J : TJ) (S : TS) (L : TL) : (wM a cy I J S L)[17]? = some (a 17, .inl (cy 17, 480, .inl (I 17))) := rfl
theorem wM_set17 (a : Nat → Nat) (cy : Nat → ClassId) (I : TI) (J : TJ) (S : TS) (L : TL) (f : Nat → Int32) : (wM a cy I J S L).set 17 (a 17, .inl (cy 17, 480, .inl f)) = wM a cy (va_up I 17 f) J S L := rfl
theorem wM_at18 (a : Nat → Nat) (cy : Nat → ClassId) (I : TI) (J : TJ) (S : TS) (L : TL) : (wM a cy I J S L)[18]? = some (a 18, .inl (cy 18, 40, .inl (I 18))) := rfl
theorem wM_set18 (a : Nat → Nat) (cy : Nat → ClassId) (I : TI) (J : TJ) (S : TS) (L : TL) (f : Nat → Int32) : (wM a cy I J S L).set 18 (a 18, .inl (cy 18, 40, .inl f)) = wM a cy (va_up I 18 f) J S L := rfl
theorem wM_at19 (a : Nat → Nat) (cy : Nat → ClassId) (I : TI) (J : TJ) (S : TS) (L : TL) : (wM a cy I J S L)[19]? = some (a 19, .inl (cy 19, 40, .inl (I 19))) := rfl
theorem wM_set19 (a : Nat → Nat) (cy : Nat → ClassId) (I : TI) (J : TJ) (S : TS) (L : TL) (f : Nat → Int32) : (wM a cy I J S L).set 19 (a 19, .inl (cy 19, 40, .inl f)) = wM a cy (va_up I 19 f) J S L := rfl
theorem wM_at20 (a : Nat → Nat) (cy : Nat → ClassId) (I : TI) (J : TJ) (S : TS) (L : TL) : (wM a cy I J S L)[20]? = some (a 20, .inl (cy 20, 480, .inl (I 20))) := rfl
theorem wM_set20 (a : Nat → Nat) (cy : Nat → ClassId) (I : TI) (J : TJ) (S : TS) (L : TL) (f : Nat → Int32) : (wM a cy I J S L).set 20 (a 20, .inl (cy 20, 480, .inl f)) = wM a cy (va_up I 20 f) J S L := rfl
theorem wM_at21 (a : Nat → Nat) (cy : Nat → ClassId) (I : TI) (J : TJ) (S : TS) (L : TL) : (wM a cy I J S L)[21]? = some (a 21, .inl (cy 21, 24, .inr (.inl (J 21)))) := rfl
theorem wM_set21 (a : Nat → Nat) (cy : Nat → ClassId) (I : TI) (J : TJ) (S : TS) (L : TL) (f : Nat → Int64) : (wM a cy I J S L).set 21 (a 21, .inl (cy 21, 24, .inr (.inl f))) = wM a cy I (va_up J 21 f) S L := rfl
theorem wM_at22 (a : Nat → Nat) (cy : Nat → ClassId) (I : TI) (J : TJ) (S : TS) (L : TL) : (wM a cy I J S L)[22]? = some (a 22, .inl (cy 22, 24, .inr (.inl (J 22)))) := rfl
theorem wM_set22 (a : Nat → Nat) (cy : Nat → ClassId) (I : TI) (J : TJ) (S : TS) (L : TL) (f : Nat → Int64) : (wM a cy I J S L).set 22 (a 22, .inl (cy 22, 24, .inr (.inl f))) = wM a cy I (va_up J 22 f) S L := rfl
theorem wM_at23 (a : Nat → Nat) (cy : Nat → ClassId) (I : TI) (J : TJ) (S : TS) (L : TL) : (wM a cy I J S L)[23]? = some (a 23, .inl (cy 23, 48, .inr (.inl (J 23)))) := rfl
theorem wM_set23 (a : Nat → Nat) (cy : Nat → ClassId) (I : TI) (J : TJ) (S : TS) (L : TL) (f : Nat → Int64) : (wM a cy I J S L).set 23 (a 23, .inl (cy 23, 48, .inr (.inl f))) = wM a cy I (va_up J 23 f) S L := rfl
theorem wM_at24 (a : Nat → Nat) (cy : Nat → ClassId) (I : TI) (J : TJ) (S : TS) (L : TL) : (wM a cy I J S L)[24]? = some (a 24, .inl (cy 24, 48, .inr (.inl (J 24)))) := rfl
theorem wM_set24 (a : Nat → Nat) (cy : Nat → ClassId) (I : TI) (J : TJ) (S : TS) (L : TL) (f : Nat → Int64) : (wM a cy I J S L).set 24 (a 24, .inl (cy 24, 48, .inr (.inl f))) = wM a cy I (va_up J 24 f) S L := rfl
theorem wM_at25 (a : Nat → Nat) (cy : Nat → ClassId) (I : TI) (J : TJ) (S : TS) (L : TL) : (wM a cy I J S L)[25]? = some (a 25, .inl (cy 25, 1920, .inr (.inl (J 25)))) := rfl
theorem wM_set25 (a : Nat → Nat) (cy : Nat → ClassId) (I : TI) (J : TJ) (S : TS) (L : TL) (f : Nat → Int64) : (wM a cy I J S L).set 25 (a 25, .inl (cy 25, 1920, .inr (.inl f))) = wM a cy I (va_up J 25 f) S L := rfl
theorem wM_at26 (a : Nat → Nat) (cy : Nat → ClassId) (I : TI) (J : TJ) (S : TS) (L : TL) : (wM a cy I J S L)[26]? = some (a 26, .inl (cy 26, 960, .inl (I 26))) := rfl
theorem wM_set26 (a : Nat → Nat) (cy : Nat → ClassId) (I : TI) (J : TJ) (S : TS) (L : TL) (f : Nat → Int32) : (wM a cy I J S L).set 26 (a 26, .inl (cy 26, 960, .inl f)) = wM a cy (va_up I 26 f) J S L := rfl
theorem wM_at27 (a : Nat → Nat) (cy : Nat → ClassId) (I : TI) (J : TJ) (S : TS) (L : TL) : (wM a cy I J S L)[27]? = some (a 27, .inl (cy 27, 24, .inl (I 27))) := rfl
theorem wM_set27 (a : Nat → Nat) (cy : Nat → ClassId) (I : TI) (J : TJ) (S : TS) (L : TL) (f : Nat → Int32) : (wM a cy I J S L).set 27 (a 27, .inl (cy 27, 24, .inl f)) = wM a cy (va_up I 27 f) J S L := rfl
theorem wM_at28 (a : Nat → Nat) (cy : Nat → ClassId) (I : TI) (J : TJ) (S : TS) (L : TL) : (wM a cy I J S L)[28]? = some (a 28, .inl (cy 28, 2, .inr (.inl (J 28)))) := rfl
theorem wM_set28 (a : Nat → Nat) (cy : Nat → ClassId) (I : TI) (J : TJ) (S : TS) (L : TL) (f : Nat → Int64) : (wM a cy I J S L).set 28 (a 28, .inl (cy 28, 2, .inr (.inl f))) = wM a cy I (va_up J 28 f) S L := rfl
theorem wM_at29 (a : Nat → Nat) (cy : Nat → ClassId) (I : TI) (J : TJ) (S : TS) (L : TL) : (wM a cy I J S L)[29]? = some (a 29, .inl (cy 29, 3, .inl (I 29))) := rfl
theorem wM_set29 (a : Nat → Nat) (cy : Nat → ClassId) (I : TI) (J : TJ) (S : TS) (L : TL) (f : Nat → Int32) : (wM a cy I J S L).set 29 (a 29, .inl (cy 29, 3, .inl f)) = wM a cy (va_up I 29 f) J S L := rfl
theorem wM_at30 (a : Nat → Nat) (cy : Nat → ClassId) (I : TI) (J : TJ) (S : TS) (L : TL) : (wM a cy I J S L)[30]? = some (a 30, .inl (cy 30, 3, .inl (I 30))) := rfl
theorem wM_set30 (a : Nat → Nat) (cy : Nat → ClassId) (I : TI) (J : TJ) (S : TS) (L : TL) (f : Nat → Int32) : (wM a cy I J S L).set 30 (a 30, .inl (cy 30, 3, .inl f)) = wM a cy (va_up I 30 f) J S L := rfl
theorem wM_at31 (a : Nat → Nat) (cy : Nat → ClassId) (I : TI) (J : TJ) (S : TS) (L : TL) : (wM a cy I J S L)[31]? = some (a 31, .inl (cy 31, 3, .inl (I 31))) := rfl
theorem wM_set31 (a : Nat → Nat) (cy : Nat → ClassId) (I : TI) (J : TJ) (S : TS) (L : TL) (f : Nat → Int32) : (wM a cy I J S L).set 31 (a 31, .inl (cy 31, 3, .inl f)) = wM a cy (va_up I 31 f) J S L := rfl
theorem wM_at32 (a : Nat → Nat) (cy : Nat → ClassId) (I : TI) (J : TJ) (S : TS) (L : TL) : (wM a cy I J S L)[32]? = some (a 32, .inl (cy 32, 3, .inr (.inl (J 32)))) := rfl
theorem wM_set32 (a : Nat → Nat) (cy : Nat → ClassId) (I : TI) (J : TJ) (S : TS) (L : TL) (f : Nat → Int64) : (wM a cy I J S L).set 32 (a 32, .inl (cy 32, 3, .inr (.inl f))) = wM a cy I (va_up J 32 f) S L := rfl
theorem wM_at33 (a : Nat → Nat) (cy : Nat → ClassId) (I : TI) (J : TJ) (S : TS) (L : TL) : (wM a cy I J S L)[33]? = some (a 33, .inl (cy 33, 600, .inl (I 33))) := rfl
theorem wM_set33 (a : Nat → Nat) (cy : Nat → ClassId) (I : TI) (J : TJ) (S : TS) (L : TL) (f : Nat → Int32) : (wM a cy I J S L).set 33 (a 33, .inl (cy 33, 600, .inl f)) = wM a cy (va_up I 33 f) J S L := rfl
theorem wM_at34 (a : Nat → Nat) (cy : Nat → ClassId) (I : TI) (J : TJ) (S : TS) (L : TL) : (wM a cy I J S L)[34]? = some (a 34, .inl (cy 34, 600, .inl (I 34))) := rfl
theorem wM_set34 (a : Nat → Nat) (cy : Nat → ClassId) (I : TI) (J : TJ) (S : TS) (L : TL) (f : Nat → Int32) : (wM a cy I J S L).set 34 (a 34, .inl (cy 34, 600, .inl f)) = wM a cy (va_up I 34 f) J S L := rfl
theorem wM_at35 (a : Nat → Nat) (cy : Nat → ClassId) (I : TI) (J : TJ) (S : TS) (L : TL) : (wM a cy I J S L)[35]? = some (a 35, .inl (cy 35, 600, .inl (I 35))) := rfl
theorem wM_set35 (a : Nat → Nat) (cy : Nat → ClassId) (I : TI) (J : TJ) (S : TS) (L : TL) (f : Nat → Int32) : (wM a cy I J S L).set 35 (a 35, .inl (cy 35, 600, .inl f)) = wM a cy (va_up I 35 f) J S L := rfl
theorem wM_at36 (a : Nat → Nat) (cy : Nat → ClassId) (I : TI) (J : TJ) (S : TS) (L : TL) : (wM a cy I J S L)[36]? = some (a 36, .inl (cy 36, 600, .inr (.inl (J 36)))) := rfl
theorem wM_set36 (a : Nat → Nat) (cy : Nat → ClassId) (I : TI) (J : TJ) (S : TS) (L : TL) (f : Nat → Int64) : (wM a cy I J S L).set 36 (a 36, .inl (cy 36, 600, .inr (.inl f))) = wM a cy I (va_up J 36 f) S L := rfl
theorem wM_at37 (a : Nat → Nat) (cy : Nat → ClassId) (I : TI) (J : TJ) (S : TS) (L : TL) : (wM a cy I J S L)[37]? = some (a 37, .inl (cy 37, 600, .inr (.inl (J 37)))) := rfl
theorem wM_set37 (a : Nat → Nat) (cy : Nat → ClassId) (I : TI) (J : TJ) (S : TS) (L : TL) (f : Nat → Int64) : (wM a cy I J S L).set 37 (a 37, .inl (cy 37, 600, .inr (.inl f))) = wM a cy I (va_up J 37 f) S L := rfl
theorem wM_at38 (a : Nat → Nat) (cy : Nat → ClassId) (I : TI) (J : TJ) (S : TS) (L : TL) : (wM a cy I J S L)[38]? = some (a 38, .inl (cy 38, 60, .inl (I 38))) := rfl
theorem wM_set38 (a : Nat → Nat) (cy : Nat → ClassId) (I : TI) (J : TJ) (S : TS) (L : TL) (f : Nat → Int32) : (wM a cy I J S L).set 38 (a 38, .inl (cy 38, 60, .inl f)) = wM a cy (va_up I 38 f) J S L := rfl
theorem wM_at39 (a : Nat → Nat) (cy : Nat → ClassId) (I : TI) (J : TJ) (S : TS) (L : TL) : (wM a cy I J S L)[39]? = some (a 39, .inl (cy 39, 60, .inl (I 39))) := rfl
theorem wM_set39 (a : Nat → Nat) (cy : Nat → ClassId) (I : TI) (J : TJ) (S : TS) (L : TL) (f : Nat → Int32) : (wM a cy I J S L).set 39 (a 39, .inl (cy 39, 60, .inl f)) = wM a cy (va_up I 39 f) J S L := rfl
theorem wM_at40 (a : Nat → Nat) (cy : Nat → ClassId) (I : TI) (J : TJ) (S : TS) (L : TL) : (wM a cy I J S L)[40]? = some (a 40, .inl (cy 40, 60, .inl (I 40))) := rfl
theorem wM_set40 (a : Nat → Nat) (cy : Nat → ClassId) (I : TI) (J : TJ) (S : TS) (L : TL) (f : Nat → Int32) : (wM a cy I J S L).set 40 (a 40, .inl (cy 40, 60, .inl f)) = wM a cy (va_up I 40 f) J S L := rfl
abbrev oO (a : Nat → Nat) (z : Int32) : Nat × va_E := (a 53, .inr (7, [.ref (a 0), .ref (a 5), .ref (a 14), .ref (a 21), .ref (a 25), .ref (a 39), .int z]))
def wO (a : Nat → Nat) (cy : Nat → ClassId) (n0 n1 : Nat) (I : TI) (J : TJ) (S : TS) (L : TL) : va_W := oO a (S 0) :: wL a cy n0 n1 I J S L
theorem wO_atO (a : Nat → Nat) (cy : Nat → ClassId) (n0 n1 : Nat) (I : TI) (J : TJ) (S : TS) (L : TL) : (wO a cy n0 n1 I J S L)[0]? = some (a 53, .inr (7, [.ref (a 0), .ref (a 5), .ref (a 14), .ref (a 21), .ref (a 25), .ref (a 39), .int (S 0)])) := rfl
theorem wO_setS0 (a : Nat → Nat) (cy : Nat → ClassId) (n0 n1 : Nat) (I : TI) (J : TJ) (S : TS) (L : TL) (v : Int32) : (wO a cy n0 n1 I J S L).set 0 (a 53, .inr (7, List.set [.ref (a 0), .ref (a 5), .ref (a 14), .ref (a 21), .ref (a 25), .ref (a 39), .int (S 0)] 6 (.int v))) = wO a cy n0 n1 I J (va_up S 0 v) L := rfl
theorem wO_cons (a : Nat → Nat) (cy : Nat → ClassId) (n0 n1 : Nat) (z : Int32) (I : TI) (J : TJ) (S : TS) (L : TL) : wO a cy n0 n1 I J (va_up S 0 z) L = oO a z :: wL a cy n0 n1 I J S L := rfl
theorem wO_at0 (a : Nat → Nat) (cy : Nat → ClassId) (n0 n1 : Nat) (I : TI) (J : TJ) (S : TS) (L : TL) : (wO a cy n0 n1 I J S L)[1]? = some (a 0, .inr (6, [.ref (a 1), .ref (a 2), .ref (a 3), .ref (a 4)])) := rfl
theorem wO_at1 (a : Nat → Nat) (cy : Nat → ClassId) (n0 n1 : Nat) (I : TI) (J : TJ) (S : TS) (L : TL) : (wO a cy n0 n1 I J S L)[2]? = some (a 1, .inl (cy 1, 12, .inl (I 1))) := rfl
theorem wO_at2 (a : Nat → Nat) (cy : Nat → ClassId) (n0 n1 : Nat) (I : TI) (J : TJ) (S : TS) (L : TL) : (wO a cy n0 n1 I J S L)[3]? = some (a 2, .inl (cy 2, 72, .inl (I 2))) := rfl
theorem wO_at3 (a : Nat → Nat) (cy : Nat → ClassId) (n0 n1 : Nat) (I : TI) (J : TJ) (S : TS) (L : TL) : (wO a cy n0 n1 I J S L)[4]? = some (a 3, .inl (cy 3, 216, .inl (I 3))) := rfl
theorem wO_at4 (a : Nat → Nat) (cy : Nat → ClassId) (n0 n1 : Nat) (I : TI) (J : TJ) (S : TS) (L : TL) : (wO a cy n0 n1 I J S L)[5]? = some (a 4, .inl (cy 4, 216, .inl (I 4))) := rfl
theorem wO_at5 (a : Nat → Nat) (cy : Nat → ClassId) (n0 n1 : Nat) (I : TI) (J : TJ) (S : TS) (L : TL) : (wO a cy n0 n1 I J S L)[6]? = some (a 5, .inr (0, [.ref (a 6), .ref (a 7), .ref (a 8), .ref (a 9), .ref (a 10), .ref (a 11), .ref (a 12), .ref (a 13), .int (S 1)])) := rfl
theorem wO_at6 (a : Nat → Nat) (cy : Nat → ClassId) (n0 n1 : Nat) (I : TI) (J : TJ) (S : TS) (L : TL) : (wO a cy n0 n1 I J S L)[7]? = some (a 6, .inl (cy 6, 24, .inl (I 6))) := rfl
theorem wO_at7 (a : Nat → Nat) (cy : Nat → ClassId) (n0 n1 : Nat) (I : TI) (J : TJ) (S : TS) (L : TL) : (wO a cy n0 n1 I J S L)[8]? = some (a 7, .inl (cy 7, 24, .inl (I 7))) := rfl
theorem wO_at8 (a : Nat → Nat) (cy : Nat → ClassId) (n0 n1 : Nat) (I : TI) (J : TJ) (S : TS) (L : TL) : (wO a cy n0 n1 I J S L)[9]? = some (a 8, .inl (cy 8, 24, .inl (I 8))) := rfl
theorem wO_at9 (a : Nat → Nat) (cy : Nat → ClassId) (n0 n1 : Nat) (I : TI) (J : TJ) (S : TS) (L : TL) : (wO a cy n0 n1 I J S L)[10]? = some (a 9, .inl (cy 9, 24, .inl (I 9))) := rfl
theorem wO_at10 (a : Nat → Nat) (cy : Nat → ClassId) (n0 n1 : Nat) (I : TI) (J : TJ) (S : TS) (L : TL) : (wO a cy n0 n1 I J S L)[11]? = some (a 10, .inl (cy 10, 24, .inl (I 10))) := rfl
theorem wO_at11 (a : Nat → Nat) (cy : Nat → ClassId) (n0 n1 : Nat) (I : TI) (J : TJ) (S : TS) (L : TL) : (wO a cy n0 n1 I J S L)[12]? = some (a 11, .inl (cy 11, 24, .inl (I 11))) := rfl
theorem wO_at12 (a : Nat → Nat) (cy : Nat → ClassId) (n0 n1 : Nat) (I : TI) (J : TJ) (S : TS) (L : TL) : (wO a cy n0 n1 I J S L)[13]? = some (a 12, .inl (cy 12, 24, .inl (I 12))) := rfl
theorem wO_at13 (a : Nat → Nat) (cy : Nat → ClassId) (n0 n1 : Nat) (I : TI) (J : TJ) (S : TS) (L : TL) : (wO a cy n0 n1 I J S L)[14]? = some (a 13, .inl (cy 13, 24, .inl (I 13))) := rfl
theorem wO_at14 (a : Nat → Nat) (cy : Nat → ClassId) (n0 n1 : Nat) (I : TI) (J : TJ) (S : TS) (L : TL) : (wO a cy n0 n1 I J S L)[15]? = some (a 14, .inr (4, [.ref (a 15), .ref (a 16), .ref (a 17), .ref (a 18), .ref (a 19), .ref (a 20)])) := rfl
theorem wO_at15 (a : Nat → Nat) (cy : Nat → ClassId) (n0 n1 : Nat) (I : TI) (J : TJ) (S : TS) (L : TL) : (wO a cy n0 n1 I J S L)[16]? = some (a 15, .inl (cy 15, 1440, .inl (I 15))) := rfl
theorem wO_at16 (a : Nat → Nat) (cy : Nat → ClassId) (n0 n1 : Nat) (I : TI) (J : TJ) (S : TS) (L : TL) : (wO a cy n0 n1 I J S L)[17]? = some (a 16, .inl (cy 16, 480, .inl (I 16))) := rfl
theorem wO_at17 (a : Nat → Nat) (cy : Nat → ClassId) (n0 n1 : Nat) (I : TI) (J : TJ) (S : TS) (L : TL) : (wO a cy n0 n1 I J S L)[18]? = some (a 17, .inl (cy 17, 480, .inl (I 17))) := rfl
theorem wO_at18 (a : Nat → Nat) (cy : Nat → ClassId) (n0 n1 : Nat) (I : TI) (J : TJ) (S : TS) (L : TL) : (wO a cy n0 n1 I J S L)[19]? = some (a 18, .inl (cy 18, 480, .inl (I 18))) := rfl
theorem wO_at19 (a : Nat → Nat) (cy : Nat → ClassId) (n0 n1 : Nat) (I : TI) (J : TJ) (S : TS) (L : TL) : (wO a cy n0 n1 I J S L)[20]? = some (a 19, .inl (cy 19, 40, .inl (I 19))) := rfl
theorem wO_at20 (a : Nat → Nat) (cy : Nat → ClassId) (n0 n1 : Nat) (I : TI) (J : TJ) (S : TS) (L : TL) : (wO a cy n0 n1 I J S L)[21]? = some (a 20, .inl (cy 20, 40, .inl (I 20))) := rfl
theorem wO_at21 (a : Nat → Nat) (cy : Nat → ClassId) (n0 n1 : Nat) (I : TI) (J : TJ) (S : TS) (L : TL) : (wO a cy n0 n1 I J S L)[22]? = some (a 21, .inr (5, [.ref (a 22), .ref (a 23), .ref (a 24), .int (S 2), .long (L 0)])) := rfl
theorem wO_at22 (a : Nat → Nat) (cy : Nat → ClassId) (n0 n1 : Nat) (I : TI) (J : TJ) (S : TS) (L : TL) : (wO a cy n0 n1 I J S L)[23]? = some (a 22, .inl (cy 22, 60, .inl (I 22))) := rfl
theorem wO_at23 (a : Nat → Nat) (cy : Nat → ClassId) (n0 n1 : Nat) (I : TI) (J : TJ) (S : TS) (L : TL) : (wO a cy n0 n1 I J S L)[24]? = some (a 23, .inl (cy 23, 60, .inl (I 23))) := rfl
theorem wO_at24 (a : Nat → Nat) (cy : Nat → ClassId) (n0 n1 : Nat) (I : TI) (J : TJ) (S : TS) (L : TL) : (wO a cy n0 n1 I J S L)[25]? = some (a 24, .inl (cy 24, 60, .inl (I 24))) := rfl
theorem wO_at25 (a : Nat → Nat) (cy : Nat → ClassId) (n0 n1 : Nat) (I : TI) (J : TJ) (S : TS) (L : TL) : (wO a cy n0 n1 I J S L)[26]? = some (a 25, .inr (2, [.ref (a 26), .ref (a 27), .ref (a 28), .ref (a 29), .ref (a 30), .ref (a 31), .ref (a 32), .ref (a 33), .long (L 1), .long (L 2), .int (S 3), .int (S 4), .ref (a 0), .ref (a 5), .ref (a 14), .ref (a 21)])) := rfl
theorem wO_at26 (a : Nat → Nat) (cy : Nat → ClassId) (n0 n1 : Nat) (I : TI) (J : TJ) (S : TS) (L : TL) : (wO a cy n0 n1 I J S L)[27]? = some (a 26, .inl (cy 26, 12, .inr (.inl (J 26)))) := rfl
theorem wO_at27 (a : Nat → Nat) (cy : Nat → ClassId) (n0 n1 : Nat) (I : TI) (J : TJ) (S : TS) (L : TL) : (wO a cy n0 n1 I J S L)[28]? = some (a 27, .inl (cy 27, 12, .inr (.inl (J 27)))) := rfl
theorem wO_at28 (a : Nat → Nat) (cy : Nat → ClassId) (n0 n1 : Nat) (I : TI) (J : TJ) (S : TS) (L : TL) : (wO a cy n0 n1 I J S L)[29]? = some (a 28, .inl (cy 28, 12, .inr (.inl (J 28)))) := rfl
theorem wO_at29 (a : Nat → Nat) (cy : Nat → ClassId) (n0 n1 : Nat) (I : TI) (J : TJ) (S : TS) (L : TL) : (wO a cy n0 n1 I J S L)[30]? = some (a 29, .inl (cy 29, 480, .inl (I 29))) := rfl
theorem wO_at30 (a : Nat → Nat) (cy : Nat → ClassId) (n0 n1 : Nat) (I : TI) (J : TJ) (S : TS) (L : TL) : (wO a cy n0 n1 I J S L)[31]? = some (a 30, .inl (cy 30, 24, .inr (.inl (J 30)))) := rfl
theorem wO_at31 (a : Nat → Nat) (cy : Nat → ClassId) (n0 n1 : Nat) (I : TI) (J : TJ) (S : TS) (L : TL) : (wO a cy n0 n1 I J S L)[32]? = some (a 31, .inl (cy 31, 24, .inr (.inl (J 31)))) := rfl
theorem wO_at32 (a : Nat → Nat) (cy : Nat → ClassId) (n0 n1 : Nat) (I : TI) (J : TJ) (S : TS) (L : TL) : (wO a cy n0 n1 I J S L)[33]? = some (a 32, .inl (cy 32, 960, .inr (.inl (J 32)))) := rfl
theorem wO_at33 (a : Nat → Nat) (cy : Nat → ClassId) (n0 n1 : Nat) (I : TI) (J : TJ) (S : TS) (L : TL) : (wO a cy n0 n1 I J S L)[34]? = some (a 33, .inr (3, [.int (S 6), .ref (a 34), .ref (a 35), .ref (a 36), .ref (a 37), .ref (a 38), .int (S 5)])) := rfl
theorem wO_at34 (a : Nat → Nat) (cy : Nat → ClassId) (n0 n1 : Nat) (I : TI) (J : TJ) (S : TS) (L : TL) : (wO a cy n0 n1 I J S L)[35]? = some (a 34, .inl (cy 34, n0, .inl (I 34))) := rfl
theorem wO_at35 (a : Nat → Nat) (cy : Nat → ClassId) (n0 n1 : Nat) (I : TI) (J : TJ) (S : TS) (L : TL) : (wO a cy n0 n1 I J S L)[36]? = some (a 35, .inl (cy 35, n0, .inl (I 35))) := rfl
theorem wO_at36 (a : Nat → Nat) (cy : Nat → ClassId) (n0 n1 : Nat) (I : TI) (J : TJ) (S : TS) (L : TL) : (wO a cy n0 n1 I J S L)[37]? = some (a 36, .inl (cy 36, n0, .inl (I 36))) := rfl
theorem wO_at37 (a : Nat → Nat) (cy : Nat → ClassId) (n0 n1 : Nat) (I : TI) (J : TJ) (S : TS) (L : TL) : (wO a cy n0 n1 I J S L)[38]? = some (a 37, .inl (cy 37, n0, .inr (.inl (J 37)))) := rfl
theorem wO_at38 (a : Nat → Nat) (cy : Nat → ClassId) (n0 n1 : Nat) (I : TI) (J : TJ) (S : TS) (L : TL) : (wO a cy n0 n1 I J S L)[39]? = some (a 38, .inl (cy 38, n0, .inr (.inl (J 38)))) := rfl
theorem wO_at39 (a : Nat → Nat) (cy : Nat → ClassId) (n0 n1 : Nat) (I : TI) (J : TJ) (S : TS) (L : TL) : (wO a cy n0 n1 I J S L)[40]? = some (a 39, .inr (2, [.ref (a 40), .ref (a 41), .ref (a 42), .ref (a 43), .ref (a 44), .ref (a 45), .ref (a 46), .ref (a 47), .long (L 3), .long (L 4), .int (S 7), .int (S 8), .ref (a 0), .ref (a 5), .ref (a 14), .ref (a 21)])) := rfl
theorem wO_at40 (a : Nat → Nat) (cy : Nat → ClassId) (n0 n1 : Nat) (I : TI) (J : TJ) (S : TS) (L : TL) : (wO a cy n0 n1 I J S L)[41]? = some (a 40, .inl (cy 40, 12, .inr (.inl (J 40)))) := rfl
theorem wO_at41 (a : Nat → Nat) (cy : Nat → ClassId) (n0 n1 : Nat) (I : TI) (J : TJ) (S : TS) (L : TL) : (wO a cy n0 n1 I J S L)[42]? = some (a 41, .inl (cy 41, 12, .inr (.inl (J 41)))) := rfl
theorem wO_at42 (a : Nat → Nat) (cy : Nat → ClassId) (n0 n1 : Nat) (I : TI) (J : TJ) (S : TS) (L : TL) : (wO a cy n0 n1 I J S L)[43]? = some (a 42, .inl (cy 42, 12, .inr (.inl (J 42)))) := rfl
theorem wO_at43 (a : Nat → Nat) (cy : Nat → ClassId) (n0 n1 : Nat) (I : TI) (J : TJ) (S : TS) (L : TL) : (wO a cy n0 n1 I J S L)[44]? = some (a 43, .inl (cy 43, 480, .inl (I 43))) := rfl
theorem wO_at44 (a : Nat → Nat) (cy : Nat → ClassId) (n0 n1 : Nat) (I : TI) (J : TJ) (S : TS) (L : TL) : (wO a cy n0 n1 I J S L)[45]? = some (a 44, .inl (cy 44, 24, .inr (.inl (J 44)))) := rfl
theorem wO_at45 (a : Nat → Nat) (cy : Nat → ClassId) (n0 n1 : Nat) (I : TI) (J : TJ) (S : TS) (L : TL) : (wO a cy n0 n1 I J S L)[46]? = some (a 45, .inl (cy 45, 24, .inr (.inl (J 45)))) := rfl
theorem wO_at46 (a : Nat → Nat) (cy : Nat → ClassId) (n0 n1 : Nat) (I : TI) (J : TJ) (S : TS) (L : TL) : (wO a cy n0 n1 I J S L)[47]? = some (a 46, .inl (cy 46, 960, .inr (.inl (J 46)))) := rfl
theorem wO_at47 (a : Nat → Nat) (cy : Nat → ClassId) (n0 n1 : Nat) (I : TI) (J : TJ) (S : TS) (L : TL) : (wO a cy n0 n1 I J S L)[48]? = some (a 47, .inr (3, [.int (S 10), .ref (a 48), .ref (a 49), .ref (a 50), .ref (a 51), .ref (a 52), .int (S 9)])) := rfl
theorem wO_at48 (a : Nat → Nat) (cy : Nat → ClassId) (n0 n1 : Nat) (I : TI) (J : TJ) (S : TS) (L : TL) : (wO a cy n0 n1 I J S L)[49]? = some (a 48, .inl (cy 48, n1, .inl (I 48))) := rfl
theorem wO_at49 (a : Nat → Nat) (cy : Nat → ClassId) (n0 n1 : Nat) (I : TI) (J : TJ) (S : TS) (L : TL) : (wO a cy n0 n1 I J S L)[50]? = some (a 49, .inl (cy 49, n1, .inl (I 49))) := rfl
theorem wO_at50 (a : Nat → Nat) (cy : Nat → ClassId) (n0 n1 : Nat) (I : TI) (J : TJ) (S : TS) (L : TL) : (wO a cy n0 n1 I J S L)[51]? = some (a 50, .inl (cy 50, n1, .inl (I 50))) := rfl
theorem wO_at51 (a : Nat → Nat) (cy : Nat → ClassId) (n0 n1 : Nat) (I : TI) (J : TJ) (S : TS) (L : TL) : (wO a cy n0 n1 I J S L)[52]? = some (a 51, .inl (cy 51, n1, .inr (.inl (J 51)))) := rfl
theorem wO_at52 (a : Nat → Nat) (cy : Nat → ClassId) (n0 n1 : Nat) (I : TI) (J : TJ) (S : TS) (L : TL) : (wO a cy n0 n1 I J S L)[53]? = some (a 52, .inl (cy 52, n1, .inr (.inl (J 52)))) := rfl
abbrev prL : List Nat := [0, 1, 2, 3, 4, 5, 6, 7, 8, 9, 10, 11, 12, 13, 14, 15, 16, 17, 18, 19, 20, 21, 22, 23, 24, 39, 40, 41, 42, 43, 44, 45, 46, 47, 48, 49, 50, 51, 52, 25, 26, 27, 28, 29, 30, 31, 32, 33, 34, 35, 36, 37, 38]
abbrev prT : List Nat := [0, 1, 2, 3, 4, 5, 6, 7, 8, 9, 10, 11, 12, 13, 14, 15, 16, 17, 18, 19, 20, 33, 34, 35, 36, 37, 38, 39, 40, 41, 42, 43, 44, 21, 22, 23, 24, 25, 26, 27, 28, 29, 30, 31, 32]
theorem wL_perm (a : Nat → Nat) (cy : Nat → ClassId) (n0 n1 : Nat) (I : TI) (J : TJ) (S : TS) (L : TL) : prL.map (fun i => (wL a cy n0 n1 I J S L)[i]?) = (wL (fun k => a (pO k)) (fun k => cy (pO k)) n1 n0 (fun k => I (pO k)) (fun k => J (pO k)) (fun k => S (pS k)) (fun k => L (pL k))).map some := rfl
theorem wL_permB (a : Nat → Nat) (cy : Nat → ClassId) (n0 n1 : Nat) (I : TI) (J : TJ) (S : TS) (L : TL) : prL.map (fun i => (wL (fun k => a (pO k)) (fun k => cy (pO k)) n1 n0 I J S L)[i]?) = (wL a cy n0 n1 (fun k => I (pO k)) (fun k => J (pO k)) (fun k => S (pS k)) (fun k => L (pL k))).map some := rfl
theorem tyL_perm (cy : Nat → ClassId) : prT.filterMap (fun i => (tyL cy)[i]?) = tyL (fun k => cy (pO k)) := rfl
theorem tyL_permB (cy : Nat → ClassId) : prT.filterMap (fun i => (tyL (fun k => cy (pO k)))[i]?) = tyL cy := rfl
