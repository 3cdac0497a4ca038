/-- how many LINES there are -/
theorem lnF_n {X : TI} {r t i K : Nat} {w h : Int32} {ps : Bool} {rec : Nat → Int64 → TG → TG} (hrec : ∀ n y g, (rec n y g).2.2 ≤ g.2.2 + K) : ∀ (j n : Nat) (y : Int64) (g : TG), (lnF X r t w ps rec h i j n y g).2.2 ≤ g.2.2 + j * K
  | 0, n, y, g => by rw [lnF_0, enF_p.2.1]; omega
  | j + 1, n, y, g => by
    rw [Nat.succ_mul]
    by_cases hz : lg_cmp y 0 ≤ 0
    · rw [lnF_z hz, enF_p.2.1]; omega
    · by_cases hh : hdP X w h t n ∧ (ps = true ∨ ¬ psP X n)
      · by_cases hp : psP X n ∧ ¬ lg_cmp (tkF X g.2.1 n y) 0 ≤ 0
        · rw [lnF_pass (g := g) hz hh hp]
          have a := lnF_n (X := X) (r := r) (t := t) (i := i) (w := w) (h := h) (ps := ps) hrec j (n + 1) (y - tkF X g.2.1 n y) (rec n (tkF X g.2.1 n y) (g.1, meetF X t g.2.1 n y, g.2.2))
          have b : (rec n (tkF X g.2.1 n y) (g.1, meetF X t g.2.1 n y, g.2.2)).2.2 ≤ g.2.2 + K := hrec n (tkF X g.2.1 n y) (g.1, meetF X t g.2.1 n y, g.2.2)
          omega
        · rw [lnF_keep (g := g) hz hh hp]
          have a : (lnF X r t w ps rec h i j (n + 1) (y - tkF X g.2.1 n y) (g.1, meetF X t g.2.1 n y, g.2.2)).2.2 ≤ g.2.2 + j * K := lnF_n (X := X) (r := r) (t := t) (i := i) (w := w) (h := h) (ps := ps) hrec j (n + 1) (y - tkF X g.2.1 n y) (g.1, meetF X t g.2.1 n y, g.2.2)
          omega
      · rw [lnF_skip hz hh]
        have a := lnF_n (X := X) (r := r) (t := t) (i := i) (w := w) (h := h) (ps := ps) hrec j (n + 1) y g
        omega
theorem rlF_n {X : TI} {r t b n K : Nat} {w h f : Int32} {ps : Bool} {rec : Nat → Int64 → TG → TG} {m : Int64} {g : TG} (hb : b ≤ 24) (hrec : ∀ n y g, (rec n y g).2.2 ≤ g.2.2 + K) : (rlF X r t b w ps rec h f n m g).2.2 ≤ g.2.2 + (1 + 24 * K) := by
  unfold rlF
  have a := lnF_n (X := X) (r := r) (t := t) (i := g.2.2) (w := w) (h := h) (ps := ps) hrec (b - n) n m (bgF r w h f m g)
  rw [bgF_p.1] at a
  have c : (b - n) * K ≤ 24 * K := Nat.mul_le_mul_right K (by omega)
  omega
section
variable {X : TI} {r t b : Nat} {w h f : Int32} {m : Int64} {g : TG}
theorem rl2_n {n : Nat} (hb : b ≤ 24) : (rl2 X r t b w h f n m g).2.2 ≤ g.2.2 + 1 := rlF_n (K := 0) hb (fun _ _ _ => Nat.le_refl _)
theorem rl1_n {n : Nat} (hb : b ≤ 24) : (rl1 X r t b w h f n m g).2.2 ≤ g.2.2 + 25 := rlF_n (K := 1) hb (fun _ _ _ => rl2_n hb)
theorem rl0_n {n : Nat} (hb : b ≤ 24) : (rl0 X r t b w h f n m g).2.2 ≤ g.2.2 + 601 := rlF_n (K := 25) hb (fun _ _ _ => rl1_n hb)
end
section
variable {X : TI} {r t b w s : Nat} {y : Int64}
theorem shF_n (hb : b ≤ 24) : ∀ (j e : Nat) (g : TG), (shF X r t b w s y j e g).2.2 ≤ g.2.2 + j * 601
  | 0, _, _ => Nat.le_refl _
  | j + 1, e, g => by
    rw [shF_s]
    generalize hg : (if lg_cmp (y * (X 4 (s * 3 + e)).toInt64 * 1000) 0 ≤ 0 then g else rl0 X r t b (nI w) (X 3 (s * 3 + e)) (-1) 0 (y * (X 4 (s * 3 + e)).toInt64 * 1000) g) = g1
    have a := shF_n hb j (e + 1) g1
    have c : g1.2.2 ≤ g.2.2 + 601 := by
      rw [← hg]
      split
      · omega
      · exact rl0_n hb
    omega
theorem ptF_n {P : Nat} (hb : b ≤ 24) : ∀ (j e : Nat) (g : TC), (ptF X r t b w P j e g).1.2.2 ≤ g.1.2.2 + j * 1803
  | 0, _, _ => Nat.le_refl _
  | j + 1, e, g => by
    rw [ptF_s]
    have a := ptF_n (P := P) hb j (e + 1) (shF X r t b w (stN X w (dyF t P e)) (cnF X t w e) 3 0 g.1, g.2 + cnF X t w e * 1000000)
    have c := shF_n (X := X) (r := r) (t := t) (w := w) (s := stN X w (dyF t P e)) (y := cnF X t w e) hb 3 0 g.1
    dsimp only at a
    omega
theorem biF_n (hb : b ≤ 24) (g : TC) : (biF X r t b w g).1.2.2 ≤ g.1.2.2 + 5409 := by
  unfold biF
  split
  · exact ptF_n hb 3 0 g
  · have := ptF_n (X := X) (r := r) (t := t) (w := w) (P := 1) hb 1 0 g
    omega
theorem rpF_n (hb : b ≤ 24) : ∀ (j i : Nat) (g : TC), (rpF X r t b j i g).1.2.2 ≤ g.1.2.2 + j * 5409
  | 0, _, _ => Nat.le_refl _
  | j + 1, i, g => by
    rw [rpF_s]
    generalize hg : (if opP X t (X 18 (t * 12 + i)) then g else biF X r t b (X 18 (t * 12 + i)).toNatClampNeg g) = g1
    have a := rpF_n hb j (i + 1) g1
    have c : g1.1.2.2 ≤ g.1.2.2 + 5409 := by
      rw [← hg]
      split
      · omega
      · exact biF_n hb g
    omega
theorem rpG_n {I : TI} {J : TJ} {ci : Int64} (hb : b ≤ 24) (hR : RpX X) (ht : t < 40) : (rpG X r t b I J ci).1.2.2 ≤ 64908 := by
  obtain ⟨z, hz, ez, -⟩ := hR.2 t ht
  unfold rpG
  rw [ez, clN (by omega)]
  have := rpF_n (X := X) (r := r) (t := t) hb z 0 ((I, J, 0), ci)
  dsimp only at this
  omega
end
/-- the books in order -/
def NB (b : Nat) (X : TI) : Prop := ∀ n, b ≤ n → n < 24 → ¬ X 6 n = 2
def BX (c b q : Nat) (X : TI) : Prop := (b ≤ 24 ∧ BgX b X ∧ NB b X) ∧ StX X ∧ RpX X ∧ PX X ∧ q ≤ 60 ∧ SX q c X
/-- the second ledger is ANEW of a part of the books -/
def VW (Z : TK) (b q c : Nat) (I : TI) (J : TJ) (S : TS) (L : TL) : Prop := ∃ k2 t : Nat, AV Z b k2 t I J S L ∧ k2 ≤ q ∧ t ≤ c ∧ ∀ i, k2 ≤ i → i < q → t ≤ tmF I i
def FO (c b q : Nat) (Z : TK) (I : TI) (J : TJ) (S : TS) (L : TL) : Prop := InvO c I S ∧ BX c b q I ∧ (S 1 = nI b ∧ S 2 = nI q ∧ S 4 = nI q) ∧ AI (-100000000000000000) false c b I (I 29) J ∧ VW Z b q c I J S L
def TN (c : Nat) (X Im : TI) : Prop := ∀ t, c ≤ t → t < 40 → ∃ n : Nat, n ≤ 12 ∧ Im 19 t = nI n ∧ X 20 t = ((4095 : Int32) <<< (nI n &&& 31)) &&& (4095 : Int32)
def FM (c b q : Nat) (I : TI) (J : TJ) (S : TS) (L : TL) (Im : TI) (Jm : TJ) (Sm : TS) (Lm : TL) : Prop := InvM c b Im Sm ∧ (BM I Im ∧ SMx I Im ∧ RM I Im ∧ QM I Im) ∧ (MZ c Im ∧ TN c I Im) ∧ Sm 4 = nI q ∧ MP 0 I (I 29) J Im Jm ∧ Jm 28 0 = L 1 ∧ (∃ N : Nat, N ≤ 64908 ∧ S 5 = nI N ∧ MRc (fun _ => False) I J N Im Jm Sm) ∧ S 0 = Sm 5 ∧ Lm 0 = L 0 * 1000000
/-- both sides agree on all but what came to a FLOOR -/
def R2 (c b q : Nat) (Z : TK) (Io : TI) (Jo : TJ) (So : TS) (Lo : TL) (Im : TI) (Jm : TJ) (Sm : TS) (Lm : TL) : Prop := FO c b q Z Io Jo So Lo ∧ FM c b q Io Jo So Lo Im Jm Sm Lm
def RR (Io : TI) (Jo : TJ) (So : TS) (Lo : TL) (Im : TI) (Jm : TJ) (Sm : TS) (Lm : TL) : Prop := ∃ (c b q : Nat) (Z : TK), R2 c b q Z Io Jo So Lo Im Jm Sm Lm
section
variable {X X' I I1 Im Im1 : TI} {J J1 Jm Jm1 : TJ} {S S1 Sm Sm1 : TS} {L L1 Lm Lm1 : TL} {c b q : Nat} {Z : TK}
theorem BX.fr (h : BX c b q X) (e : ∀ j, j < 25 → X' j = X j) : BX c b q X' := by
  obtain ⟨⟨hb, hB, hN⟩, hS, hR, hP, hq, hQ⟩ := h
  refine ⟨⟨hb, ?_, ?_⟩, ?_, ?_, hP.fr (fun k _ h2 => e k (by omega)), hq, hQ.fr e⟩
  · unfold BgX at hB ⊢
    rw [e 7 (by omega), e 6 (by omega), e 10 (by omega), e 11 (by omega), e 12 (by omega), e 13 (by omega)]
    exact hB
  · unfold NB at hN ⊢
    rw [e 6 (by omega)]
    exact hN
  · unfold StX at hS ⊢
    rw [e 1 (by omega), e 3 (by omega), e 4 (by omega)]
    exact hS
  · unfold RpX at hR ⊢
    rw [e 1 (by omega), e 15 (by omega), e 18 (by omega), e 19 (by omega)]
    exact hR
theorem AI.fr {Lo : Int} {κ : Bool} {D : Nat → Int32} (h : AI Lo κ c b X D J) (e6 : X' 6 = X 6) (e10 : X' 10 = X 10) (j26 : J1 26 = J 26) (j28 : J1 28 = J 28) (j30 : J1 30 = J 30) (j32 : J1 32 = J 32) : AI Lo κ c b X' D J1 := by
  unfold AI KIn AB DI FL BZ at h ⊢
  rw [e6, e10, j26, j28, j30, j32]
  exact h
theorem AV.ext {b' k2 t : Nat} (h : AV Z b k2 t I J S L) (hE : XE t b b' I I1) (ht : t ≤ 40) (hB : BgX b I) (hS : StX I) (hR : RpX I) (hxs : ∀ k, k < k2 → I1 22 k = I 22 k ∧ I1 23 k = I 23 k ∧ I1 24 k = I 24 k) (eI : ∀ k, 39 ≤ k → k < 53 → I1 k = I k ∧ J1 k = J k) (s7 : S1 7 = S 7) (s8 : S1 8 = S 8) (s9 : S1 9 = S 9) (l3 : L1 3 = L 3) (l4 : L1 4 = L 4) : AV Z b' k2 t I1 J1 S1 L1 := by
  obtain ⟨hZ, v7, v8, vQ, vR, v9, vL3, vL4, vk⟩ := h
  have e := anT_ext (r := 0) hZ hE ht hB hS hR vQ hxs
  unfold AV
  rw [e, s7, s8, s9, l3, l4]
  refine ⟨hZ, v7, v8, ⟨fun k hk => ?_, fun i j h1 h2 => ?_⟩, fun k h1 h2 => ?_, v9, vL3, vL4, vk⟩
  · have et : tmF I1 k = tmF I k := by unfold tmF; rw [(hxs k hk).2.2]
    rw [et, (hxs k hk).1, (hxs k hk).2.1, (hxs k hk).2.2]
    exact vQ.1 k hk
  · have et : ∀ k, k < k2 → tmF I1 k = tmF I k := fun k hk => by unfold tmF; rw [(hxs k hk).2.2]
    rw [et i (by omega), et j h2]
    exact vQ.2 i j h1 h2
  · have g : 39 ≤ pO k ∧ pO k < 53 := by
      unfold pO
      rw [if_neg (by omega), if_pos h2]
      omega
    rw [(eI _ g.1 g.2).1, (eI _ g.1 g.2).2]
    exact vR k h1 h2
/-- a reckoning of the second ledger alone -/
def SaO (Z : TK) (b q c : Nat) (I : TI) (J : TJ) (S : TS) (L : TL) (I1 : TI) (J1 : TJ) (S1 : TS) (L1 : TL) : Prop := VW Z b q c I1 J1 S1 L1 ∧ (∀ j, j < 39 ∨ 53 ≤ j → I1 j = I j ∧ J1 j = J j) ∧ (∀ j, j ≠ 7 → j ≠ 8 → j ≠ 9 → S1 j = S j) ∧ (∀ j, j ≠ 3 → j ≠ 4 → L1 j = L j)
def SaM (I : TI) (J : TJ) (S : TS) (L : TL) (I1 : TI) (J1 : TJ) (S1 : TS) (L1 : TL) : Prop := MG 1 I I1 J J1 ∧ MFs 1 S S1 ∧ L1 = L
theorem SaO.rf (h : FO c b q Z I J S L) : SaO Z b q c I J S L I J S L := ⟨h.2.2.2.2, fun _ _ => ⟨rfl, rfl⟩, fun _ _ _ _ => rfl, fun _ _ _ => rfl⟩
theorem SaM.rf : SaM I J S L I J S L := ⟨MG.rf, ⟨fun _ _ _ => rfl, fun _ => rfl⟩, rfl⟩
theorem SaO.fo (h : FO c b q Z I J S L) (g : SaO Z b q c I J S L I1 J1 S1 L1) : FO c b q Z I1 J1 S1 L1 := by
  obtain ⟨hI, hB, ⟨s1, s2, s4⟩, hA, -⟩ := h
  obtain ⟨hV, eI, eS, eL⟩ := g
  have e5 : ∀ j, j < 25 → I1 j = I j := fun j hj => (eI j (by omega)).1
  refine ⟨?_, hB.fr e5, ⟨by rw [eS 1 (by omega) (by omega) (by omega)]; exact s1, by rw [eS 2 (by omega) (by omega) (by omega)]; exact s2, by rw [eS 4 (by omega) (by omega) (by omega)]; exact s4⟩, ?_, hV⟩
  · obtain ⟨hBk, hC, hc, h3, -, ⟨q1, t, t2, hq1, h2, ht, h4, ht2, h8⟩, h6, h10⟩ := hI
    obtain ⟨k2, t9, ⟨-, v7, v8, -⟩, hk, htc, -⟩ := hV
    have eq : q1 = q := (nI_eq (by omega) (by have := hB.2.2.2.2.1; omega)).mp (h2.symm.trans s2)
    subst eq
    refine ⟨hBk.same e5 (eS 1 (by omega) (by omega) (by omega)) (eS 2 (by omega) (by omega) (by omega)), hC.same (e5 19 (by omega)) (e5 16 (by omega)), hc, by rw [eS 3 (by omega) (by omega) (by omega)]; exact h3, ⟨t9, htc, v7⟩, ⟨q1, t, k2, hq1, by rw [eS 2 (by omega) (by omega) (by omega)]; exact h2, ht, by rw [eS 4 (by omega) (by omega) (by omega)]; exact h4, hk, v8⟩, by rw [eS 6 (by omega) (by omega) (by omega)]; exact h6, by rw [eS 10 (by omega) (by omega) (by omega)]; exact h10⟩
  · rw [(eI 29 (by omega)).1]
    exact hA.fr (e5 6 (by omega)) (e5 10 (by omega)) (eI 26 (by omega)).2 (eI 28 (by omega)).2 (eI 30 (by omega)).2 (eI 32 (by omega)).2
theorem BM.x {X X' Im : TI} (h : BM X Im) (e : ∀ j, j < 25 → X' j = X j) : BM X' Im := by
  unfold BM at h ⊢
  rw [e 6 (by omega), e 7 (by omega), e 8 (by omega), e 9 (by omega), e 10 (by omega), e 11 (by omega), e 12 (by omega), e 13 (by omega)]
  exact h
theorem SMx.x {X X' Im : TI} (h : SMx X Im) (e : ∀ j, j < 25 → X' j = X j) : SMx X' Im := by
  unfold SMx at h ⊢
  rw [e 1 (by omega), e 2 (by omega), e 3 (by omega), e 4 (by omega)]
  exact h
theorem RM.x {X X' Im : TI} (h : RM X Im) (e : ∀ j, j < 25 → X' j = X j) : RM X' Im := by
  unfold RM opP at h ⊢
  rw [e 15 (by omega), e 16 (by omega), e 18 (by omega), e 19 (by omega), e 20 (by omega)]
  exact h
theorem QM.x {X X' Im : TI} (h : QM X Im) (e : ∀ j, j < 25 → X' j = X j) : QM X' Im := by
  unfold QM at h ⊢
  rw [e 22 (by omega), e 23 (by omega), e 24 (by omega)]
  exact h
theorem MP.x {l : Nat} {D : Nat → Int32} (h : MP l X D J Im Jm) (e6 : X' 6 = X 6) (j26 : J1 26 = J 26) (j27 : J1 27 = J 27) (j28 : J1 28 = J 28) (j30 : J1 30 = J 30) (j31 : J1 31 = J 31) (j32 : J1 32 = J 32) : MP l X' D J1 Im Jm := by
  unfold MP MV at h ⊢
  rw [e6, j26, j27, j28, j30, j31, j32]
  exact h
/-- reads: both sides keep what they hold -/
theorem SaO.rr (h : R2 c b q Z I J S L Im Jm Sm Lm) (g : SaO Z b q c I J S L I1 J1 S1 L1) (m : SaM Im Jm Sm Lm Im1 Jm1 Sm1 Lm1) : R2 c b q Z I1 J1 S1 L1 Im1 Jm1 Sm1 Lm1 := by
  obtain ⟨hF, hM, ⟨m1, m2, m3, m4⟩, ⟨hZ, hT⟩, s4, hP, h28, ⟨N, hN, n5, hRc⟩, s5, l0⟩ := h
  refine ⟨g.fo hF, ?_⟩
  obtain ⟨hV, eI, eS, eL⟩ := g
  obtain ⟨g, f, rfl⟩ := m
  have e5 : ∀ j, j < 25 → I1 j = I j := fun j hj => (eI j (by omega)).1
  refine ⟨hM.keep (fun n hn => g.1 n (by omega)) (fun j hj => f.1 j (by omega) (by omega)), ⟨(m1.x e5).f6 g.1, (m2.x e5).f6 g.1, (m3.x e5).f6 g.1, (m4.x e5).fr g.1⟩, ⟨?_, ?_⟩, by rw [f.1 4 (by omega) (by omega)]; exact s4, ?_, ?_, ⟨N, hN, ?_, ?_⟩, ?_, ?_⟩
  · unfold MZ at hZ ⊢
    rw [g.1 20 (by omega)]
    exact hZ
  · unfold TN at hT ⊢
    rw [g.1 19 (by omega), e5 20 (by omega)]
    exact hT
  · rw [(eI 29 (by omega)).1]
    exact (hP.x (e5 6 (by omega)) (eI 26 (by omega)).2 (eI 27 (by omega)).2 (eI 28 (by omega)).2 (eI 30 (by omega)).2 (eI 31 (by omega)).2 (eI 32 (by omega)).2).g0 g
  · rw [g.2.2.2.2.2.2.2 0 (by omega), eL 1 (by omega) (by omega)]
    exact h28
  · rw [eS 5 (by omega) (by omega) (by omega)]
    exact n5
  · have := hRc.g0 g f
    unfold MRc at this ⊢
    rw [(eI 34 (by omega)).1, (eI 35 (by omega)).1, (eI 36 (by omega)).1, (eI 37 (by omega)).2, (eI 38 (by omega)).2]
    exact this
  · rw [eS 0 (by omega) (by omega) (by omega), f.1 5 (by omega) (by omega)]
    exact s5
  · rw [eL 0 (by omega) (by omega)]
    exact l0
end
