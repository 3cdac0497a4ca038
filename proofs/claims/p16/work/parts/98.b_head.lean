/-! THE CLAIM OUT OF ONE WALK OF THE LAW'S BODY. Your part is whole_start (and what it stands on); all else here is the same for every law, but numbers. -/
def R_law : String := "SongOfficeLaw"
def lw_P (b : Addr) (xs : List Int32) (args : Array Value) (s : State) : Prop := args = #[.ref b] ∧ s.IntsAt b xs ∧ xs.length ≤ 4608 ∧ (Jvm.Cond.and given_1 narrow_1).before args s = true
def lw_Q (_ : Array Value) (s : State) (o : Outcome) (t : State) : Prop := o = .returned (some (.int 1)) ∧ Framed s o t [] 600000 7302250
def lw_Z (below : List Frame) (a : Array Value) (s : State) : State → Prop := fun t => ∃ o, t.status = .running ∧ Ended t below o ∧ lw_Q a s o t
/-- the law's own end, with 1 on the stack, nothing written that was there before, its room as the claim has it -/
theorem lw_ret {p : Program} {l : Launch} {e : Env} {s : State} {m : MethodId} {below : List Frame} {meth : Method} {c : Code} {b : Nat} (hx : p.tables.exec = Jvm.exec) (hb : c.code = code) (hr : meth.sig.returnType = ret) (hlocks : meth.locks = false) {pc : Nat} {H : Heap} {ls : Array Slot} (hdg : decode code pc = .ok (.ireturn, 1)) : W p l e room_1 s m #[Value.ref b] below meth c H [] 600000 7302250 (lw_Z below #[Value.ref b] s) (F0 m pc ls [.int 1]) := by
  intro T hT X
  obtain ⟨fs, hret, hrun, hended, hW, hframe⟩ := X.leave (v := some (.int 1)) (hlocks := hlocks) (fun h => by rw [hr] at h; cases h)
  have hmeth' : T.vm.method? m = some meth := X.method'
  refine ⟨T.setFrames fs, ?_, .returned (some (.int 1)), hrun, hended, rfl, ⟨_, rfl⟩, hW, hframe⟩
  jvm_step X.here [X.here.top, hx, hb, hdg, hmeth', hr, ret, narrow_b1]
  (try refine ⟨rfl, ?_⟩); (try refine ⟨rfl, ?_⟩)
  first | (intro acts; rw [hret _ acts rfl rfl rfl]) | rw [hret _ _ rfl rfl rfl]
  exact Steps.refl _
/-- what holds at the law's entry: the machine, the code, the tables' words (any of lw_tbl by 'hts w (by decide +kernel)'), the script of L ints xs at the cell b, what the Statement gives of the start (any of its parts by flat_of_before) -/
def lw_At (p : Program) (s : State) (m : MethodId) (meth : Method) (c : Code) (b L : Nat) (xs : Nat → Int32) : Prop :=
  p.tables.exec = Jvm.exec ∧ c.code = code ∧ meth.sig.returnType = ret ∧ c.maxLocals = 4 ∧ s.vm.findClass R_law = some m.cls ∧ (∀ w ∈ lw_tbl, w.before #[Value.ref b] s = true) ∧ va_X b L xs s s.heap ∧ b < s.heap.size ∧ meth.locks = false ∧ (Jvm.Cond.and given_1 narrow_1).before #[Value.ref b] s = true
theorem lg_same (x : Int64) : lg_cmp x x = 0 := by
  unfold lg_cmp
  rw [if_neg (by simp), if_pos rfl]
def Dis (w w2 : va_W) : Prop := ∀ (i j : Nat) (p q : Nat × va_E), w[i]? = some p → w2[j]? = some q → p.1 ≠ q.1
theorem Dis.sy {w w2 : va_W} (h : Dis w w2) : Dis w2 w := fun i j p q hp hq e => h j i q p hq hp e.symm
theorem adr_one {w w' : va_W} (h : w.map Prod.fst = w'.map Prod.fst) {i : Nat} {p : Nat × va_E} (hp : w'[i]? = some p) : ∃ q, w[i]? = some q ∧ q.1 = p.1 := by
  have h1 : (w.map Prod.fst)[i]? = (w'.map Prod.fst)[i]? := by rw [h]
  rw [List.getElem?_map, List.getElem?_map, hp] at h1
  cases hw : w[i]? with
  | none => rw [hw] at h1; simp at h1
  | some q => rw [hw] at h1; exact ⟨q, rfl, by simpa using h1⟩
theorem Dis.tr {w w' w2 w2' : va_W} (h : Dis w w2) (e : w.map Prod.fst = w'.map Prod.fst) (e2 : w2.map Prod.fst = w2'.map Prod.fst) : Dis w' w2' := by
  intro i j p q hp hq
  obtain ⟨p0, hp0, ep⟩ := adr_one e hp
  obtain ⟨q0, hq0, eq⟩ := adr_one e2 hq
  rw [← ep, ← eq]
  exact h i j p0 q0 hp0 hq0
theorem wO_adr (a : Nat → Nat) (cy : Nat → ClassId) (n0 n1 : Nat) (I : TI) (J : TJ) (S : TS) (L : TL) (I' : TI) (J' : TJ) (S' : TS) (L' : TL) : (wO a cy n0 n1 I J S L).map Prod.fst = (wO a cy n0 n1 I' J' S' L').map Prod.fst := rfl
theorem wM_adr (a : Nat → Nat) (cy : Nat → ClassId) (I : TI) (J : TJ) (S : TS) (L : TL) (I' : TI) (J' : TJ) (S' : TS) (L' : TL) : (wM a cy I J S L).map Prod.fst = (wM a cy I' J' S' L').map Prod.fst := rfl
theorem dis_A {D : va_G} {cl : List vw_C} {w w2 : va_W} {H : Heap} (hdis : Dis w w2) (hP2 : va_P D cl w2 H) : ∀ (k : Nat) (q : Nat × va_E), w2[k]? = some q → ¬ va_A w H.size q.1 := by
  rintro k q hk (⟨i, e, hi⟩ | h)
  · exact hdis i k (q.1, e) q hi hk rfl
  · have := (hP2 k q hk).lt
    omega
theorem va_keep {D : va_G} {cl : List vw_C} {w w2 : va_W} {H H1 : Heap} (hP2 : va_P D cl w2 H) (hdis : ∀ (k : Nat) (q : Nat × va_E), w2[k]? = some q → ¬ va_A w H.size q.1) (hk : ∀ q : Nat, q < H.size → ¬ va_A w H.size q → H1[q]? = H[q]?) : va_P D cl w2 H1 := hP2.kept (fun k q h => hk q.1 (hP2 k q h).lt (hdis k q h))
section
variable {p : Program} {l : Launch} {e : Env} {R : Room} {s : State} {m : MethodId} {args : Array Value} {below : List Frame} {meth : Method} {c : Code} {H H0 : Heap} {locs : List Loc} {cells slots : Nat} {Q : State → Prop} {pc : Nat} {ls : Array Slot} {st0 rest : List Value} {a : Array Value} {A0 : Nat → Prop} {dC : Nat → ClassId} {dI : Nat → Nat → Nat} {Wd : TW} {ty : TY} {w w2 : va_W}
theorem xcalli {Φ : Int32 → TI → TJ → TS → TL → Prop} (hr : va_Run p l e R s m args below meth c H locs cells slots 0 0 (F0 m pc ls st0) rest (gQi dC dI Wd ty (va_A w H.size) Φ a) (va_A w H.size)) (hS : va_S A0 H0 H locs) (hA : ∀ q, H0.size ≤ q → A0 q) (hD : va_D A0 w) (hP2 : va_P (dC, dI) vwCl w2 H) (hdis : Dis w w2)
    (kk : ∀ (r : Int32) (I : TI) (J : TJ) (S : TS) (L : TL) (H1 : Heap) (locs1 : List Loc), va_P (dC, dI) vwCl (Wd I J S L) H1 → va_D A0 (Wd I J S L) → va_P (dC, dI) vwCl w2 H1 → va_S A0 H0 H1 locs1 → Φ r I J S L → W p l e R s m args below meth c H1 locs1 cells slots Q (F0 m (pc + 3) ls (.int r :: rest))) : W p l e R s m args below meth c H locs cells slots Q (F0 m pc ls st0) := by
  have hF : ∀ q, va_A w H.size q → A0 q := g_free hD hS hA
  refine va_calli hr hS (fun q _ h => hF q h) hF (fun r u t H1 locs1 ht hvm hw hB hz hk hS1 => ?_)
  obtain ⟨I, J, S, L⟩ := u
  obtain ⟨hP1, hK1, hD1⟩ := hB
  rw [ht] at hP1
  exact kk r I J S L H1 locs1 hP1 (hD1.weaken (fun _ q _ hq => hF _ hq)) (va_keep hP2 (dis_A hdis hP2) hk) hS1 hw
theorem xcalll {Φ : Int64 → TI → TJ → TS → TL → Prop} (hr : va_Run p l e R s m args below meth c H locs cells slots 0 0 (F0 m pc ls st0) rest (gQl dC dI Wd ty (va_A w H.size) Φ a) (va_A w H.size)) (hS : va_S A0 H0 H locs) (hA : ∀ q, H0.size ≤ q → A0 q) (hD : va_D A0 w) (hP2 : va_P (dC, dI) vwCl w2 H) (hdis : Dis w w2)
    (kk : ∀ (r : Int64) (I : TI) (J : TJ) (S : TS) (L : TL) (H1 : Heap) (locs1 : List Loc), va_P (dC, dI) vwCl (Wd I J S L) H1 → va_D A0 (Wd I J S L) → va_P (dC, dI) vwCl w2 H1 → va_S A0 H0 H1 locs1 → Φ r I J S L → W p l e R s m args below meth c H1 locs1 cells slots Q (F0 m (pc + 3) ls (.long r :: rest))) : W p l e R s m args below meth c H locs cells slots Q (F0 m pc ls st0) := by
  have hF : ∀ q, va_A w H.size q → A0 q := g_free hD hS hA
  refine va_calll hr hS (fun q _ h => hF q h) hF (fun r u t H1 locs1 ht hvm hw hB hz hk hS1 => ?_)
  obtain ⟨I, J, S, L⟩ := u
  obtain ⟨hP1, hK1, hD1⟩ := hB
  rw [ht] at hP1
  exact kk r I J S L H1 locs1 hP1 (hD1.weaken (fun _ q _ hq => hF _ hq)) (va_keep hP2 (dis_A hdis hP2) hk) hS1 hw
end
theorem sc_in0 {k L : Nat} (hk : k + 9 ≤ L) (hL : L ≤ 4608) : vp_in (nI k) L := vp_in_nI (by omega) (by omega)
theorem sc_in1 {k L : Nat} (hk : k + 9 ≤ L) (hL : L ≤ 4608) : vp_in (nI k + 1) L := by
  rw [show (1 : Int32) = nI 1 from rfl, nI_add]
  exact vp_in_nI (by omega) (by omega)
theorem sc_in2 {k L : Nat} (hk : k + 9 ≤ L) (hL : L ≤ 4608) : vp_in (nI k + 2) L := by
  rw [show (2 : Int32) = nI 2 from rfl, nI_add]
  exact vp_in_nI (by omega) (by omega)
theorem sc_in3 {k L : Nat} (hk : k + 9 ≤ L) (hL : L ≤ 4608) : vp_in (nI k + 3) L := by
  rw [show (3 : Int32) = nI 3 from rfl, nI_add]
  exact vp_in_nI (by omega) (by omega)
theorem sc_in4 {k L : Nat} (hk : k + 9 ≤ L) (hL : L ≤ 4608) : vp_in (nI k + 4) L := by
  rw [show (4 : Int32) = nI 4 from rfl, nI_add]
  exact vp_in_nI (by omega) (by omega)
theorem sc_in5 {k L : Nat} (hk : k + 9 ≤ L) (hL : L ≤ 4608) : vp_in (nI k + 5) L := by
  rw [show (5 : Int32) = nI 5 from rfl, nI_add]
  exact vp_in_nI (by omega) (by omega)
theorem sc_in6 {k L : Nat} (hk : k + 9 ≤ L) (hL : L ≤ 4608) : vp_in (nI k + 6) L := by
  rw [show (6 : Int32) = nI 6 from rfl, nI_add]
  exact vp_in_nI (by omega) (by omega)
theorem sc_in7 {k L : Nat} (hk : k + 9 ≤ L) (hL : L ≤ 4608) : vp_in (nI k + 7) L := by
  rw [show (7 : Int32) = nI 7 from rfl, nI_add]
  exact vp_in_nI (by omega) (by omega)
theorem sc_in8 {k L : Nat} (hk : k + 9 ≤ L) (hL : L ≤ 4608) : vp_in (nI k + 8) L := by
  rw [show (8 : Int32) = nI 8 from rfl, nI_add]
  exact vp_in_nI (by omega) (by omega)
theorem sc_le {L k : Nat} (hL : L ≤ 4608) (hk : k ≤ 9000) (h : ¬ Int32.ofNat L - 9 < nI k) : k + 9 ≤ L := by
  have e : (nI L - nI 9).toInt = (L : Int) - 9 := pk_sub_toInt (by omega) (by omega)
  have h2 : ¬ (nI L - nI 9).toInt < (nI k).toInt := fun g => h (Int32.lt_iff_toInt_lt.mpr g)
  rw [e, nI_toInt (by omega)] at h2
  omega
set_option maxHeartbeats 1000000 in
theorem law_true {p : Program} {e : Env} {s : State} {m : MethodId} {below : List Frame} {meth : Method} {c : Code} (l : Launch) {b L : Nat} {xs : Nat → Int32} (C0 : lw_At p s m meth c b L xs) (H : Heap) (locs : List Loc) (ls : Array Slot) (hS : va_S (fun q : Nat => s.heap.size ≤ q) s.heap H locs) : W p l e room_1 s m #[Value.ref b] below meth c H locs 300 60000 (lw_Z below #[Value.ref b] s) (F0 m 776 ls []) := by
  obtain ⟨hx, hb, hr, hml, hown, hts0, hX, hbl, hlocks, hgv⟩ := id C0
  refine lv_iconst (v := 1) hx hb dL_law_776 (by decide) ?_
  refine va_forget hS.2.2 ?_
  refine W.widen (k := 600000) (n := 7302250) (by decide) (by decide) ?_
  exact lw_ret hx hb hr hlocks dL_law_777
