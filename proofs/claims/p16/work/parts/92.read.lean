def F5 (p : Int32) (v0 v1 v2 v3 v4 v5 r : Int64) : Prop := (p = nI 0 → r = v0) ∧ (p = nI 1 → r = v1) ∧ (p = nI 2 → r = v2) ∧ (p = nI 3 → r = v3) ∧ (p = nI 4 → r = v4) ∧ ((∀ k, k < 5 → ¬ p = nI k) → r = v5)
section
variable {p : Int32} {v0 v1 v2 v3 v4 v5 r r2 : Int64}
theorem F5.fn (a : F5 p v0 v1 v2 v3 v4 v5 r) (b : F5 p v0 v1 v2 v3 v4 v5 r2) : r = r2 := by
  obtain ⟨a0, a1, a2, a3, a4, a5⟩ := a
  obtain ⟨b0, b1, b2, b3, b4, b5⟩ := b
  by_cases h0 : p = nI 0
  · exact (a0 h0).trans (b0 h0).symm
  by_cases h1 : p = nI 1
  · exact (a1 h1).trans (b1 h1).symm
  by_cases h2 : p = nI 2
  · exact (a2 h2).trans (b2 h2).symm
  by_cases h3 : p = nI 3
  · exact (a3 h3).trans (b3 h3).symm
  by_cases h4 : p = nI 4
  · exact (a4 h4).trans (b4 h4).symm
  have hk : ∀ k, k < 5 → ¬ p = nI k := fun k hk e => by
    obtain rfl | rfl | rfl | rfl | rfl : k = 0 ∨ k = 1 ∨ k = 2 ∨ k = 3 ∨ k = 4 := by omega
    · exact h0 e
    · exact h1 e
    · exact h2 e
    · exact h3 e
    · exact h4 e
  exact (a5 hk).trans (b5 hk).symm
theorem F5.m0 : F5 (nI 0) v0 v1 v2 v3 v4 v5 v0 := ⟨fun _ => rfl, fun e => absurd e (by decide), fun e => absurd e (by decide), fun e => absurd e (by decide), fun e => absurd e (by decide), fun k => absurd rfl (k 0 (by omega))⟩
theorem F5.m1 : F5 (nI 1) v0 v1 v2 v3 v4 v5 v1 := ⟨fun e => absurd e (by decide), fun _ => rfl, fun e => absurd e (by decide), fun e => absurd e (by decide), fun e => absurd e (by decide), fun k => absurd rfl (k 1 (by omega))⟩
theorem F5.m2 : F5 (nI 2) v0 v1 v2 v3 v4 v5 v2 := ⟨fun e => absurd e (by decide), fun e => absurd e (by decide), fun _ => rfl, fun e => absurd e (by decide), fun e => absurd e (by decide), fun k => absurd rfl (k 2 (by omega))⟩
theorem F5.m3 : F5 (nI 3) v0 v1 v2 v3 v4 v5 v3 := ⟨fun e => absurd e (by decide), fun e => absurd e (by decide), fun e => absurd e (by decide), fun _ => rfl, fun e => absurd e (by decide), fun k => absurd rfl (k 3 (by omega))⟩
theorem F5.m4 : F5 (nI 4) v0 v1 v2 v3 v4 v5 v4 := ⟨fun e => absurd e (by decide), fun e => absurd e (by decide), fun e => absurd e (by decide), fun e => absurd e (by decide), fun _ => rfl, fun k => absurd rfl (k 4 (by omega))⟩
theorem F5.no (h : ∀ k, k < 5 → ¬ p = nI k) : F5 p v0 v1 v2 v3 v4 v5 v5 := ⟨fun e => absurd e (h 0 (by omega)), fun e => absurd e (h 1 (by omega)), fun e => absurd e (h 2 (by omega)), fun e => absurd e (h 3 (by omega)), fun e => absurd e (h 4 (by omega)), fun _ => rfl⟩
end
def F8 (p : Int32) (v0 v1 v2 v3 v4 v5 v6 v7 v8 r : Int64) : Prop := (p = nI 0 → r = v0) ∧ (p = nI 1 → r = v1) ∧ (p = nI 2 → r = v2) ∧ (p = nI 3 → r = v3) ∧ (p = nI 4 → r = v4) ∧ (p = nI 5 → r = v5) ∧ (p = nI 6 → r = v6) ∧ (p = nI 7 → r = v7) ∧ ((∀ k, k < 8 → ¬ p = nI k) → r = v8)
section
variable {p : Int32} {v0 v1 v2 v3 v4 v5 v6 v7 v8 r r2 : Int64}
theorem F8.fn (a : F8 p v0 v1 v2 v3 v4 v5 v6 v7 v8 r) (b : F8 p v0 v1 v2 v3 v4 v5 v6 v7 v8 r2) : r = r2 := by
  obtain ⟨a0, a1, a2, a3, a4, a5, a6, a7, a8⟩ := a
  obtain ⟨b0, b1, b2, b3, b4, b5, b6, b7, b8⟩ := b
  by_cases h0 : p = nI 0
  · exact (a0 h0).trans (b0 h0).symm
  by_cases h1 : p = nI 1
  · exact (a1 h1).trans (b1 h1).symm
  by_cases h2 : p = nI 2
  · exact (a2 h2).trans (b2 h2).symm
  by_cases h3 : p = nI 3
  · exact (a3 h3).trans (b3 h3).symm
  by_cases h4 : p = nI 4
  · exact (a4 h4).trans (b4 h4).symm
  by_cases h5 : p = nI 5
  · exact (a5 h5).trans (b5 h5).symm
  by_cases h6 : p = nI 6
  · exact (a6 h6).trans (b6 h6).symm
  by_cases h7 : p = nI 7
  · exact (a7 h7).trans (b7 h7).symm
  have hk : ∀ k, k < 8 → ¬ p = nI k := fun k hk e => by
    obtain rfl | rfl | rfl | rfl | rfl | rfl | rfl | rfl : k = 0 ∨ k = 1 ∨ k = 2 ∨ k = 3 ∨ k = 4 ∨ k = 5 ∨ k = 6 ∨ k = 7 := by omega
    · exact h0 e
    · exact h1 e
    · exact h2 e
    · exact h3 e
    · exact h4 e
    · exact h5 e
    · exact h6 e
    · exact h7 e
  exact (a8 hk).trans (b8 hk).symm
theorem F8.m0 : F8 (nI 0) v0 v1 v2 v3 v4 v5 v6 v7 v8 v0 := ⟨fun _ => rfl, fun e => absurd e (by decide), fun e => absurd e (by decide), fun e => absurd e (by decide), fun e => absurd e (by decide), fun e => absurd e (by decide), fun e => absurd e (by decide), fun e => absurd e (by decide), fun k => absurd rfl (k 0 (by omega))⟩
theorem F8.m1 : F8 (nI 1) v0 v1 v2 v3 v4 v5 v6 v7 v8 v1 := ⟨fun e => absurd e (by decide), fun _ => rfl, fun e => absurd e (by decide), fun e => absurd e (by decide), fun e => absurd e (by decide), fun e => absurd e (by decide), fun e => absurd e (by decide), fun e => absurd e (by decide), fun k => absurd rfl (k 1 (by omega))⟩
theorem F8.m2 : F8 (nI 2) v0 v1 v2 v3 v4 v5 v6 v7 v8 v2 := ⟨fun e => absurd e (by decide), fun e => absurd e (by decide), fun _ => rfl, fun e => absurd e (by decide), fun e => absurd e (by decide), fun e => absurd e (by decide), fun e => absurd e (by decide), fun e => absurd e (by decide), fun k => absurd rfl (k 2 (by omega))⟩
theorem F8.m3 : F8 (nI 3) v0 v1 v2 v3 v4 v5 v6 v7 v8 v3 := ⟨fun e => absurd e (by decide), fun e => absurd e (by decide), fun e => absurd e (by decide), fun _ => rfl, fun e => absurd e (by decide), fun e => absurd e (by decide), fun e => absurd e (by decide), fun e => absurd e (by decide), fun k => absurd rfl (k 3 (by omega))⟩
theorem F8.m4 : F8 (nI 4) v0 v1 v2 v3 v4 v5 v6 v7 v8 v4 := ⟨fun e => absurd e (by decide), fun e => absurd e (by decide), fun e => absurd e (by decide), fun e => absurd e (by decide), fun _ => rfl, fun e => absurd e (by decide), fun e => absurd e (by decide), fun e => absurd e (by decide), fun k => absurd rfl (k 4 (by omega))⟩
theorem F8.m5 : F8 (nI 5) v0 v1 v2 v3 v4 v5 v6 v7 v8 v5 := ⟨fun e => absurd e (by decide), fun e => absurd e (by decide), fun e => absurd e (by decide), fun e => absurd e (by decide), fun e => absurd e (by decide), fun _ => rfl, fun e => absurd e (by decide), fun e => absurd e (by decide), fun k => absurd rfl (k 5 (by omega))⟩
theorem F8.m6 : F8 (nI 6) v0 v1 v2 v3 v4 v5 v6 v7 v8 v6 := ⟨fun e => absurd e (by decide), fun e => absurd e (by decide), fun e => absurd e (by decide), fun e => absurd e (by decide), fun e => absurd e (by decide), fun e => absurd e (by decide), fun _ => rfl, fun e => absurd e (by decide), fun k => absurd rfl (k 6 (by omega))⟩
theorem F8.m7 : F8 (nI 7) v0 v1 v2 v3 v4 v5 v6 v7 v8 v7 := ⟨fun e => absurd e (by decide), fun e => absurd e (by decide), fun e => absurd e (by decide), fun e => absurd e (by decide), fun e => absurd e (by decide), fun e => absurd e (by decide), fun e => absurd e (by decide), fun _ => rfl, fun k => absurd rfl (k 7 (by omega))⟩
theorem F8.no (h : ∀ k, k < 8 → ¬ p = nI k) : F8 p v0 v1 v2 v3 v4 v5 v6 v7 v8 v8 := ⟨fun e => absurd e (h 0 (by omega)), fun e => absurd e (h 1 (by omega)), fun e => absurd e (h 2 (by omega)), fun e => absurd e (h 3 (by omega)), fun e => absurd e (h 4 (by omega)), fun e => absurd e (h 5 (by omega)), fun e => absurd e (h 6 (by omega)), fun e => absurd e (h 7 (by omega)), fun _ => rfl⟩
end
def E4 (I : TI) (J : TJ) (S : TS) (L : TL) (I1 : TI) (J1 : TJ) (S1 : TS) (L1 : TL) : Prop := I1 = I ∧ J1 = J ∧ S1 = S ∧ L1 = L
def DuS (c : Nat) (X : TI) (p0 p1 r : Int32) : Prop := (∃ h t : Nat, h < 12 ∧ p0 = nI h ∧ t < c ∧ p1 = nI t ∧ r = X 29 (h * 40 + t)) ∨ (¬ (W12 p0 ∧ ∃ t : Nat, t < c ∧ p1 = nI t) ∧ r = -1)
theorem DuS.fn {c : Nat} {X : TI} {p0 p1 r r2 : Int32} (hc : c ≤ 40) (a : DuS c X p0 p1 r) (b : DuS c X p0 p1 r2) : r = r2 := by
  rcases a with ⟨h, t, hh, e0, ht, e1, er⟩ | ⟨hn, er⟩ <;> rcases b with ⟨h2, t2, hh2, f0, ht2, f1, fr⟩ | ⟨hn2, fr⟩
  · have g1 : h = h2 := (nI_eq (by omega) (by omega)).mp (e0.symm.trans f0)
    have g2 : t = t2 := (nI_eq (by omega) (by omega)).mp (e1.symm.trans f1)
    subst g1
    subst g2
    exact er.trans fr.symm
  · exact absurd ⟨by rw [e0]; exact W12_nI hh, t, ht, e1⟩ hn2
  · exact absurd ⟨by rw [f0]; exact W12_nI hh2, t2, ht2, f1⟩ hn
  · exact er.trans fr.symm
/-- what is owed to a HAND -/
def oF (Z : TK) (b q c : Nat) (I : TI) (J : TJ) : Nat → Int64 := fun h => wF ((anT Z I 0 b q c).1 29) (anT Z I 0 b q c).2.1 h - wF (I 29) J h
def HaS (Z : TK) (b q c : Nat) (I : TI) (J : TJ) (p0 p1 : Int32) (r : Int64) : Prop := (∃ h : Nat, h < 12 ∧ p0 = nI h ∧ F5 p1 (J 26 h) (J 27 h) (dsF (I 29) h c 0 0) (J 28 h) (oF Z b q c I J h) (-1) r) ∨ (¬ W12 p0 ∧ r = -1)
theorem HaS.fn {Z : TK} {b q c : Nat} {I : TI} {J : TJ} {p0 p1 : Int32} {r r2 : Int64} (a : HaS Z b q c I J p0 p1 r) (g : HaS Z b q c I J p0 p1 r2) : r = r2 := by
  rcases a with ⟨h, hh, e0, er⟩ | ⟨hn, er⟩ <;> rcases g with ⟨h2, hh2, f0, fr⟩ | ⟨hn2, fr⟩
  · have g1 : h = h2 := (nI_eq (by omega) (by omega)).mp (e0.symm.trans f0)
    subst g1
    exact er.fn fr
  · exact absurd (by rw [e0]; exact W12_nI hh) hn2
  · exact absurd (by rw [f0]; exact W12_nI hh2) hn
  · exact er.trans fr.symm
def LiS (N : Nat) (I : TI) (J : TJ) (p0 p1 : Int32) (r : Int64) : Prop := (∃ i : Nat, (i < N ∧ i < 600) ∧ p0 = nI i ∧ F5 p1 (I 34 i).toInt64 (I 35 i).toInt64 (I 36 i).toInt64 (J 37 i) (J 38 i) (-1) r) ∨ (¬ (∃ i : Nat, (i < N ∧ i < 600) ∧ p0 = nI i) ∧ r = -1)
theorem LiS.fn {N : Nat} {I : TI} {J : TJ} {p0 p1 : Int32} {r r2 : Int64} (a : LiS N I J p0 p1 r) (g : LiS N I J p0 p1 r2) : r = r2 := by
  rcases a with ⟨h, hh, e0, er⟩ | ⟨hn, er⟩ <;> rcases g with ⟨h2, hh2, f0, fr⟩ | ⟨hn2, fr⟩
  · have g1 : h = h2 := (nI_eq (by omega) (by omega)).mp (e0.symm.trans f0)
    subst g1
    exact er.fn fr
  · exact absurd ⟨h, hh, e0⟩ hn2
  · exact absurd ⟨h2, hh2, f0⟩ hn
  · exact er.trans fr.symm
/-- how many bits are set, as the library counts them -/
def bc1 (p : Int32) : Int32 := p - ((((Int32.toUInt32 p) >>> ((Int32.toUInt32 (1 : Int32)) &&& Int32.toUInt32 31)).toInt32) &&& (1431655765 : Int32))
def bc2 (x : Int32) : Int32 := (x &&& (858993459 : Int32)) + ((((Int32.toUInt32 x) >>> ((Int32.toUInt32 (2 : Int32)) &&& Int32.toUInt32 31)).toInt32) &&& (858993459 : Int32))
def bc3 (x : Int32) : Int32 := (x + (((Int32.toUInt32 x) >>> ((Int32.toUInt32 (4 : Int32)) &&& Int32.toUInt32 31)).toInt32)) &&& (252645135 : Int32)
def bc4 (x : Int32) : Int32 := x + (((Int32.toUInt32 x) >>> ((Int32.toUInt32 (8 : Int32)) &&& Int32.toUInt32 31)).toInt32)
def bc5 (x : Int32) : Int32 := x + (((Int32.toUInt32 x) >>> ((Int32.toUInt32 (16 : Int32)) &&& Int32.toUInt32 31)).toInt32)
def bcF (p : Int32) : Int32 := bc5 (bc4 (bc3 (bc2 (bc1 p)))) &&& (63 : Int32)
theorem e_bitCount {I : TI} {J : TJ} {S : TS} {L : TL} {p0 : Int32} {Φ : Int32 → TI → TJ → TS → TL → Prop} (hf : Φ (bcF p0) I J S L) : wp_J6_bitCount_0f7a4 I J S L p0 Φ := by
  unfold wp_J6_bitCount_0f7a4
  intro x1 h1 x2 h2 x3 h3 x4 h4 x5 h5 x6 h6 x7 h7 x8 h8 x9 h9 x10 h10
  have e2 : x2 = bc1 p0 := by rw [h2, h1]; rfl
  have e4 : x4 = bc2 x2 := by rw [h4, h3]; rfl
  have e6 : x6 = bc3 x4 := by rw [h6, h5]; rfl
  have e8 : x8 = bc4 x6 := by rw [h8, h7]; rfl
  have e10 : x10 = bc5 x8 := by rw [h10, h9]; rfl
  rw [e10, e8, e6, e4, e2]
  exact hf
theorem torn_bc {n : Nat} (hn : n ≤ 12) : (12 : Int32) - bcF (((4095 : Int32) <<< (nI n &&& 31)) &&& (4095 : Int32)) = nI n := by
  obtain rfl | rfl | rfl | rfl | rfl | rfl | rfl | rfl | rfl | rfl | rfl | rfl | rfl : n = 0 ∨ n = 1 ∨ n = 2 ∨ n = 3 ∨ n = 4 ∨ n = 5 ∨ n = 6 ∨ n = 7 ∨ n = 8 ∨ n = 9 ∨ n = 10 ∨ n = 11 ∨ n = 12 := by omega
  all_goals decide +kernel
def trF (c : Nat) (X : TI) : Int64 := if c < 40 then ((12 : Int32) - bcF (X 20 c)).toInt64 else -1
def CoS (c : Nat) (I : TI) (J : TJ) (S : TS) (L : TL) (p0 : Int32) (r : Int64) : Prop := F8 p0 (S 3).toInt64 (S 1).toInt64 (S 5).toInt64 (L 1) (osF (fun h => J 28 h) 12 0 0) (L 0 * 1000000) (trF c I) (S 0).toInt64 (-1) r
section
variable {I I1 Im : TI} {J J1 Jm : TJ} {S S1 Sm : TS} {L L1 Lm : TL} {c b q : Nat} {Z : TK}
theorem u_X7_due (p0 p1 : Int32) (hR : R2 c b q Z I J S L Im Jm Sm Lm) : wp_X7_due 600 0 I J S L p0 p1 (fun r I1 J1 S1 L1 => E4 I J S L I1 J1 S1 L1 ∧ DuS c I p0 p1 r) := by
  obtain ⟨⟨⟨hB, hC, hc, h3, -⟩, -⟩, -⟩ := hR
  have N : ¬ (W12 p0 ∧ ∃ t : Nat, t < c ∧ p1 = nI t) → E4 I J S L I J S L ∧ DuS c I p0 p1 (-1) := fun hn => ⟨⟨rfl, rfl, rfl, rfl⟩, Or.inr ⟨hn, rfl⟩⟩
  unfold wp_X7_due
  refine s_X7_isHand (fun hw => ⟨_, fun _ _ _ _ hB => hB, fun hc => absurd hc (by decide), fun _ => ?_⟩) (fun hw => ⟨_, fun _ _ _ _ hB => hB, fun _ => N (fun k => hw k.1), fun hc => absurd rfl hc⟩)
  obtain ⟨k, hk, rfl⟩ := W12_cases hw
  refine t_isClosedR h3 hc (fun t ht et => ⟨fun _ => ?_, fun hc => absurd hc (by decide)⟩) (fun hn => ⟨fun hc => absurd rfl hc, fun _ => N (fun k => hn k.2)⟩)
  subst et
  rw [show (40 : Int32) = nI 40 from rfl, pk_mul, nI_add, clN (by omega)]
  exact ⟨vp_in_nI (by omega) (by omega), ⟨rfl, rfl, rfl, rfl⟩, Or.inl ⟨k, t, hk, rfl, ht, rfl, rfl⟩⟩
theorem u_X8_due (p0 p1 : Int32) (hR : R2 c b q Z I J S L Im Jm Sm Lm) : wp_X8_due Im Jm Sm Lm p0 p1 (fun r I1 J1 S1 L1 => E4 Im Jm Sm Lm I1 J1 S1 L1 ∧ DuS c I p0 p1 r) := by
  obtain ⟨-, ⟨⟨hc, s0⟩, -⟩, -, -, -, hP, -⟩ := hR
  have N : ¬ (W12 p0 ∧ ∃ t : Nat, t < c ∧ p1 = nI t) → E4 Im Jm Sm Lm Im Jm Sm Lm ∧ DuS c I p0 p1 (-1) := fun hn => ⟨⟨rfl, rfl, rfl, rfl⟩, Or.inr ⟨hn, rfl⟩⟩
  unfold wp_X8_due
  refine s_X8_isHand (fun hw => ?_) (fun hw => ⟨_, fun _ _ _ _ _ hB => hB, _, fun _ _ _ _ hB => hB, fun _ => N (fun k => hw k.1), fun hc => absurd rfl hc⟩)
  rw [s0]
  refine ⟨_, fun _ _ _ _ _ hB => hB, _, fun _ _ _ _ hB => hB, fun hc => absurd hc (by decide), fun _ => ⟨fun e0 => N (fun k => ?_), fun e0 => ⟨fun e4 => N (fun k => ?_), fun e4 => ?_⟩⟩⟩
  · obtain ⟨t, ht, rfl⟩ := k.2
    exact absurd e0 (nI_pos (by omega))
  · obtain ⟨t, ht, rfl⟩ := k.2
    exact absurd e4 (nI_ge ht (by omega))
  obtain ⟨t, ht, rfl⟩ := nI_case (t := 0) c (by omega) e0 e4
  obtain ⟨w, hw2, rfl⟩ := W12_cases hw
  unfold wp_X8_dueAt
  rw [show (0 : Int32) = nI 0 from rfl, edue]
  dsimp only
  rw [clN (by omega)]
  refine ⟨vp_in_nI (by omega) (by omega), ⟨rfl, rfl, rfl, rfl⟩, Or.inl ⟨w, t, hw2, rfl, ht, rfl, ?_⟩⟩
  exact hP.2.2.1 w t hw2 (by omega)
theorem u_X7_has (p0 p1 : Int32) (hR : R2 c b q Z I J S L Im Jm Sm Lm) : wp_X7_has 600 0 I J S L p0 p1 (fun _ I1 J1 S1 L1 => E4 I J S L I1 J1 S1 L1) := by
  obtain ⟨⟨-, ⟨⟨hb, -⟩, -⟩, ⟨h1, -⟩, -⟩, -⟩ := hR
  have N : E4 I J S L I J S L := ⟨rfl, rfl, rfl, rfl⟩
  unfold wp_X7_has
  refine ⟨_, fun _ _ _ _ hB => hB, fun _ => N, fun h0 => ⟨fun hlt => ?_, fun _ => N⟩⟩
  obtain ⟨n, hn, rfl⟩ := nI_of h0
  rw [h1] at hlt
  have hnb : n < b := (nI_ltI hn (by omega)).mp hlt
  have hv : vp_in (nI n) 24 := vp_in_nI (by omega) (by omega)
  refine ⟨fun _ => ⟨fun _ => ⟨fun _ => ?_, fun _ => r_stillIn_O hb hnb (fun _ => N)⟩, fun _ => ⟨hv, N⟩⟩, fun _ => ⟨hv, N⟩⟩
  refine ⟨_, fun _ _ _ _ hB => hB, fun _ => N, fun h20 => ⟨fun _ => N, fun h60 => ⟨?_, N⟩⟩⟩
  have g0 : ¬ p1 < 0 := fun g => h20 (Int32.lt_trans g (by decide))
  obtain ⟨w, hw, rfl⟩ := nI_of g0
  have w20 : 20 ≤ w := by
    rcases Nat.lt_or_ge w 20 with g | g
    · exact absurd (nI_lt (b := 20) g (by omega)) h20
    · exact g
  have w60 : w < 60 := by
    rcases Nat.lt_or_ge w 60 with g | g
    · exact g
    · exact absurd (nI_le (a := 60) g hw) h60
  rw [show (40 : Int32) = nI 40 from rfl, pk_mul, nI_add, show (20 : Int32) = nI 20 from rfl, pk_sub (by omega)]
  exact vp_in_nI (by omega) (by omega)
theorem u_X8_has (p0 p1 : Int32) (hR : R2 c b q Z I J S L Im Jm Sm Lm) : wp_X8_has Im Jm Sm Lm p0 p1 (fun _ I1 J1 S1 L1 => E4 Im Jm Sm Lm I1 J1 S1 L1) := by
  obtain ⟨-, ⟨⟨hc, s0⟩, ⟨hb, s1, hB⟩, -⟩, -⟩ := hR
  have N : E4 Im Jm Sm Lm Im Jm Sm Lm := ⟨rfl, rfl, rfl, rfl⟩
  unfold wp_X8_has
  rw [s1]
  refine ⟨_, fun _ _ _ _ hB => hB, fun _ => N, fun e0 => ⟨fun e1 => ?_, fun _ => N⟩⟩
  obtain ⟨n, hn, rfl⟩ := nI_case (t := 0) b (by omega) e0 (Int32.not_le.mpr e1)
  have v24 : vp_in (nI n) 24 := vp_in_nI (by omega) (by omega)
  have v48 : vp_in (nI n) 48 := vp_in_nI (by omega) (by omega)
  refine ⟨fun _ => ⟨fun _ => ⟨fun _ => ⟨_, fun _ _ _ _ _ hB => hB, _, fun _ _ _ _ hB => hB, fun _ => N, fun e2 => ⟨fun _ => N, fun e6 => ?_⟩⟩, fun _ => ⟨v24, _, fun _ _ _ _ _ hB => hB, fun _ => ⟨v24, fun _ => N, fun _ => m_inBags (by omega) (fun r => N)⟩, fun _ => ⟨v24, v48, N⟩⟩⟩, fun _ => ⟨v48, N⟩⟩, fun _ => ⟨v48, N⟩⟩
  obtain ⟨k, hk, rfl⟩ := nI_case (t := 0) (x := p1) 60 (by omega) (fun g => e2 (Int32.lt_trans g (by decide))) e6
  have hk2 : 20 ≤ k := by
    rcases Nat.lt_or_ge k 20 with g | g
    · exact absurd (nI_lt (b := 20) g (by omega)) e2
    · exact g
  rw [show (20 : Int32) = nI 20 from rfl, pk_sub hk2]
  unfold wp_X8_bag
  rw [show (0 : Int32) = nI 0 from rfl, ebag]
  exact ⟨vp_in_nI (by omega) (by omega), N⟩
theorem u_X7_told (p0 p1 p2 : Int32) (hR : R2 c b q Z I J S L Im Jm Sm Lm) : wp_X7_told 600 0 I J S L p0 p1 p2 (fun r I1 J1 S1 L1 => E4 I J S L I1 J1 S1 L1 ∧ TdS c I p0 p1 p2 r) := by
  obtain ⟨⟨⟨-, -, hc, h3, -⟩, -⟩, -⟩ := hR
  exact e_told hc h3 (fun r h => ⟨⟨rfl, rfl, rfl, rfl⟩, h⟩)
theorem u_X8_told (p0 p1 p2 : Int32) (hR : R2 c b q Z I J S L Im Jm Sm Lm) : wp_X8_told Im Jm Sm Lm p0 p1 p2 (fun r I1 J1 S1 L1 => E4 Im Jm Sm Lm I1 J1 S1 L1 ∧ TdS c I p0 p1 p2 r) := by
  obtain ⟨⟨-, hX, -⟩, ⟨⟨hc, s0⟩, -⟩, ⟨-, -, hM, -⟩, -⟩ := hR
  exact n2_told hM hX.2.2.2.1 hc s0 (fun r h => ⟨⟨rfl, rfl, rfl, rfl⟩, h⟩)
/-- reckoning ANEW on the class's side -/
theorem e_anewF {Φ : TI → TJ → TS → TL → Prop} (h : FO c b q Z I J S L) (hf : ∀ (I' : TI) (J' : TJ) (S' : TS) (L' : TL), SaO Z b q c I J S L I' J' S' L' → AV Z b q c I' J' S' L' → Φ I' J' S' L') : wp_X2_reckonTo_Op 600 0 I J S L (S 3) Φ := by
  obtain ⟨⟨hBk, -, hc, h3, -, -, -, s10⟩, ⟨⟨hb, hB, -⟩, hS, hR, -, hq, hQ⟩, ⟨s1, s2, -⟩, -, k2, t, hV, hk, ht, hge⟩ := h
  rw [h3]
  exact e_anew hV hBk hB hb hS hR hQ hc hq hk ht hge s1 s2 s10 (fun I' J' S' L' v e1 e2 e3 => hf I' J' S' L' ⟨⟨q, c, v, Nat.le_refl _, Nat.le_refl _, fun i h1 h2 => absurd h2 (by omega)⟩, e1, e2, e3⟩ v)
theorem wF_J {D : Nat → Int32} {h : Nat} (e6 : J1 26 = J 26) (e7 : J1 27 = J 27) : wF D J1 h = wF D J h := by
  unfold wF
  rw [e6, e7]
theorem oF_eq {h : Nat} (hF : FO c b q Z I J S L) (g : SaO Z b q c I J S L I1 J1 S1 L1) (v : AV Z b q c I1 J1 S1 L1) (hh : h < 12) : w2F I1 J1 c h - w1F I1 J1 c h = oF Z b q c I J h := by
  have hc := hF.1.2.2.1
  have hA := hF.2.2.2.1
  obtain ⟨-, ⟨⟨hb, hB, -⟩, hS, hR, -, hq, hQ⟩, -⟩ := id hF
  have hX1 := (g.fo hF).2.1
  have e5 : ∀ j, j < 25 → I1 j = I j := fun j hj => (g.2.1 j (by omega)).1
  have e29 := (g.2.1 29 (by omega)).1
  rw [w2_anT v hX1.1.2.1 hb hX1.2.1 hX1.2.2.1 hc hh, w1_wF (by rw [e29]; exact hA.2.2.1) hh hc, anT_eq v.1 e5 hb hc hB hS hR hQ, e29, wF_J (g.2.1 26 (by omega)).2 (g.2.1 27 (by omega)).2]
  rfl
theorem u_X7_hand (p0 p1 : Int32) (hR : R2 c b q Z I J S L Im Jm Sm Lm) : wp_X7_hand 600 0 I J S L p0 p1 (fun r I1 J1 S1 L1 => SaO Z b q c I J S L I1 J1 S1 L1 ∧ HaS Z b q c I J p0 p1 r) := by
  have hF := hR.1
  obtain ⟨-, -, hc, h3, -⟩ := id hF.1
  have N := SaO.rf hF
  unfold wp_X7_hand
  refine s_X7_isHand (fun hw => ⟨fun _ => ?_, fun hc => absurd hc (by decide)⟩) (fun hw => ⟨fun hc => absurd rfl hc, fun _ => ⟨N, Or.inr ⟨hw, rfl⟩⟩⟩)
  have hi := W12_in hw
  obtain ⟨k, hk, rfl⟩ := W12_cases hw
  rw [clN (show k < 2 ^ 31 by omega)]
  refine ⟨fun e => ?_, fun e => ?_, fun e => ?_, fun e => ?_, fun e => ?_, fun e => ⟨N, Or.inl ⟨k, hk, rfl, F5.no e⟩⟩⟩
  · subst e; exact ⟨hi, N, Or.inl ⟨k, hk, rfl, F5.m0⟩⟩
  · subst e; exact ⟨hi, N, Or.inl ⟨k, hk, rfl, F5.m1⟩⟩
  · subst e
    unfold wp_X2_allDues_O wp_X2_allDues
    rw [h3]
    refine e_duesOf (D := I 29) (f := 0) rfl hk (by omega) hc ?_
    show SaO Z b q c I J S L I J (va_up S 0 (S 0)) L ∧ HaS Z b q c I J (nI k) (nI 2) (dsF (I 29) k (c - 0) 0 0)
    rw [up_same, Nat.sub_zero]
    exact ⟨N, Or.inl ⟨k, hk, rfl, F5.m2⟩⟩
  · subst e; exact ⟨hi, N, Or.inl ⟨k, hk, rfl, F5.m3⟩⟩
  · subst e
    refine e_anewF hF (fun I1 J1 S1 L1 g v => ?_)
    refine e_owedTo hk ((g.2.2.1 3 (by omega) (by omega) (by omega)).trans h3) hc v.2.1 hc ?_
    rw [oF_eq hF g v hk]
    exact ⟨g, Or.inl ⟨k, hk, rfl, F5.m4⟩⟩
theorem u_X7_owe (hR : R2 c b q Z I J S L Im Jm Sm Lm) : wp_X7_owe 600 0 I J S L (fun r I1 J1 S1 L1 => SaO Z b q c I J S L I1 J1 S1 L1 ∧ r = osF (oF Z b q c I J) 12 0 0) := by
  have hF := hR.1
  obtain ⟨-, -, hc, h3, -⟩ := id hF.1
  unfold wp_X7_owe
  refine e_anewF hF (fun I1 J1 S1 L1 g v => ?_)
  have s3 : S1 3 = nI c := (g.2.2.1 3 (by omega) (by omega) (by omega)).trans h3
  have hf : ∀ h, h < 12 → w2F I1 J1 c h - w1F I1 J1 c h = oF Z b q c I J h := fun h hh => oF_eq hF g v hh
  generalize oF Z b q c I J = f at hf
  generalize hR0 : osF f 12 0 0 = R
  refine ⟨fun n I' J' S' L' y x => I' = I1 ∧ J' = J1 ∧ S' = S1 ∧ L' = L1 ∧ ∃ k, k ≤ 12 ∧ x = nI k ∧ n = 12 - k ∧ R = osF f (12 - k) k y, ⟨12, rfl, rfl, rfl, rfl, 0, by omega, rfl, rfl, hR0.symm⟩, ?_⟩
  rintro n I' J' S' L' y x ⟨rfl, rfl, rfl, rfl, k, hk, rfl, rfl, hR1⟩
  refine ⟨fun hc1 => ⟨g, ?_⟩, fun hc1 => ?_⟩
  · have : 12 ≤ k := (nI_leI (a := 12) (by omega) (by omega)).mp hc1
    rw [hR1, show 12 - k = 0 by omega, osF_0]
  have hk2 : k < 12 := nI_nleN (by omega) hk hc1
  refine e_owedTo hk2 s3 hc v.2.1 hc ?_
  intro y2 ey x2 ex2
  exact ⟨12 - (k + 1), by omega, rfl, rfl, rfl, rfl, k + 1, by omega, by rw [ex2]; exact nI_1 k, rfl, by rw [hR1, ey, hf k hk2, show 12 - k = (12 - (k + 1)) + 1 by omega, osF_s]⟩
theorem u_X8_hand (p0 p1 : Int32) (hR : R2 c b q Z I J S L Im Jm Sm Lm) : wp_X8_hand Im Jm Sm Lm p0 p1 (fun r I1 J1 S1 L1 => SaM Im Jm Sm Lm I1 J1 S1 L1 ∧ HaS Z b q c I J p0 p1 r) := by
  obtain ⟨⟨hO, ⟨⟨hb, hB, -⟩, hS, hRp, -, hq, hQ⟩, -, hA, k2, t2, hV, -⟩, ⟨⟨hc, s0⟩, ⟨-, s1, -⟩, -⟩, ⟨m1, m2, m3, m4⟩, -, s4, hP, -⟩ := hR
  have N : SaM Im Jm Sm Lm Im Jm Sm Lm := SaM.rf
  unfold wp_X8_hand
  refine s_X8_isHand (fun hw => ⟨fun _ => ?_, fun hc => absurd hc (by decide)⟩) (fun hw => ⟨fun hc => absurd rfl hc, fun _ => ⟨N, Or.inr ⟨hw, rfl⟩⟩⟩)
  obtain ⟨k, hk, rfl⟩ := W12_cases hw
  have hv : vp_in (nI k) 24 := vp_in_nI (by omega) (by omega)
  rw [clN (show k < 2 ^ 31 by omega)]
  have q1 := hP.1.1 k hk
  have q2 := hP.2.1 k hk
  have q4 := hP.2.2.2 k hk
  rw [Nat.mul_zero, Nat.zero_add] at q1 q2 q4
  rw [q1, q2, q4]
  refine ⟨fun e => ?_, fun e => ?_, fun e => ?_, fun e => ?_, fun e => ?_, fun e => ⟨N, Or.inl ⟨k, hk, rfl, F5.no e⟩⟩⟩
  · subst e; exact ⟨hv, N, Or.inl ⟨k, hk, rfl, F5.m0⟩⟩
  · subst e; exact ⟨hv, N, Or.inl ⟨k, hk, rfl, F5.m1⟩⟩
  · subst e
    refine n2_duesOf (l := 0) (D := I 29) (by omega) hk hP.2.2.1 ?_
    rw [ds_c hA.2.2.1 hk hc]
    exact ⟨N, Or.inl ⟨k, hk, rfl, F5.m2⟩⟩
  · subst e; exact ⟨hv, N, Or.inl ⟨k, hk, rfl, F5.m3⟩⟩
  · subst e
    refine n2_anew (Z := Z) hV.1 m1 m2 m3 m4 hB hS hRp hQ hb hq hc s0 s1 s4 (fun I' J' S' hP1 h28 hG hS' => ?_)
    refine n2_owed (X := I) (D := I 29) (Ja := J) (D1 := (anT Z I 0 b q c).1 29) (J1 := (anT Z I 0 b q c).2.1) hk (hP.g0 hG) hP1 ?_
    exact ⟨⟨hG, hS', rfl⟩, Or.inl ⟨k, hk, rfl, F5.m4⟩⟩
theorem u_X8_owe (hR : R2 c b q Z I J S L Im Jm Sm Lm) : wp_X8_owe Im Jm Sm Lm (fun r I1 J1 S1 L1 => SaM Im Jm Sm Lm I1 J1 S1 L1 ∧ r = osF (oF Z b q c I J) 12 0 0) := by
  obtain ⟨⟨hO, ⟨⟨hb, hB, -⟩, hS, hRp, -, hq, hQ⟩, -, hA, k2, t2, hV, -⟩, ⟨⟨hc, s0⟩, ⟨-, s1, -⟩, -⟩, ⟨m1, m2, m3, m4⟩, -, s4, hP, -⟩ := hR
  refine n2_owe (X := I) (Z := Z) (D := I 29) (Ja := J) hV.1 m1 m2 m3 m4 hB hS hRp hQ hb hq hc s0 s1 s4 hP (fun I' J' S' hP1 h28 hG hS' => ⟨⟨hG, hS', rfl⟩, ?_⟩)
  unfold oF
  generalize (fun h => wF ((anT Z I 0 b q c).1 29) (anT Z I 0 b q c).2.1 h - wF (I 29) J h) = f
  rfl
theorem u_X7_line (p0 p1 : Int32) (hR : R2 c b q Z I J S L Im Jm Sm Lm) : wp_X7_line 600 0 I J S L p0 p1 (fun r I1 J1 S1 L1 => E4 I J S L I1 J1 S1 L1 ∧ LiS (S 5).toNatClampNeg I J p0 p1 r) := by
  obtain ⟨⟨⟨-, -, -, -, -, -, h6, -⟩, -⟩, -, -, -, -, -, -, ⟨N, hN, s5, -⟩, -⟩ := hR
  rw [s5, clN (by omega)]
  have N0 : ¬ (∃ i : Nat, (i < N ∧ i < 600) ∧ p0 = nI i) → E4 I J S L I J S L ∧ LiS N I J p0 p1 (-1) := fun hn => ⟨⟨rfl, rfl, rfl, rfl⟩, Or.inr ⟨hn, rfl⟩⟩
  unfold wp_X7_line
  refine ⟨_, fun _ _ _ _ hB => hB, fun e0 => N0 ?_, fun h0 => ?_⟩
  · rintro ⟨i, hi, rfl⟩
    exact absurd e0 (nI_pos (by omega))
  unfold wp_X3_kept_O wp_X3_kept
  intro x hx
  dsimp only
  rw [up_same]
  have ex : x = nI (min N 600) := by
    rw [hx, h6, s5]
    by_cases g : 600 < N
    · rw [if_pos (nI_lt g (by omega)), Nat.min_eq_right (by omega)]
    · rw [if_neg (fun k => g ((nI_ltI (by omega) (by omega)).mp k)), Nat.min_eq_left (by omega)]
  obtain ⟨n, hn, rfl⟩ := nI_of h0
  rw [ex]
  refine ⟨fun hlt => ?_, fun hlt => N0 ?_⟩
  · have hn6 : n < min N 600 := (nI_ltI hn (by omega)).mp hlt
    have hv : vp_in (nI n) 600 := vp_in_nI (by omega) (by omega)
    rw [clN hn]
    refine ⟨fun e => ?_, fun e => ?_, fun e => ?_, fun e => ?_, fun e => ?_, fun e => ⟨⟨rfl, rfl, rfl, rfl⟩, Or.inl ⟨n, ⟨by omega, by omega⟩, rfl, F5.no e⟩⟩⟩
    · subst e; exact ⟨hv, ⟨rfl, rfl, rfl, rfl⟩, Or.inl ⟨n, ⟨by omega, by omega⟩, rfl, F5.m0⟩⟩
    · subst e; exact ⟨hv, ⟨rfl, rfl, rfl, rfl⟩, Or.inl ⟨n, ⟨by omega, by omega⟩, rfl, F5.m1⟩⟩
    · subst e; exact ⟨hv, ⟨rfl, rfl, rfl, rfl⟩, Or.inl ⟨n, ⟨by omega, by omega⟩, rfl, F5.m2⟩⟩
    · subst e; exact ⟨hv, ⟨rfl, rfl, rfl, rfl⟩, Or.inl ⟨n, ⟨by omega, by omega⟩, rfl, F5.m3⟩⟩
    · subst e; exact ⟨hv, ⟨rfl, rfl, rfl, rfl⟩, Or.inl ⟨n, ⟨by omega, by omega⟩, rfl, F5.m4⟩⟩
  · rintro ⟨i, hi, e⟩
    have : n = i := (nI_eq hn (by omega)).mp e
    exact hlt (nI_lt (by omega) (by omega))
theorem u_X8_line (p0 p1 : Int32) (hR : R2 c b q Z I J S L Im Jm Sm Lm) : wp_X8_line Im Jm Sm Lm p0 p1 (fun r I1 J1 S1 L1 => E4 Im Jm Sm Lm I1 J1 S1 L1 ∧ LiS (S 5).toNatClampNeg I J p0 p1 r) := by
  obtain ⟨-, -, -, -, -, -, -, ⟨N, hN, s5, m3, hMR⟩, -⟩ := hR
  rw [s5, clN (by omega)]
  have N0 : ¬ (∃ i : Nat, (i < N ∧ i < 600) ∧ p0 = nI i) → E4 Im Jm Sm Lm Im Jm Sm Lm ∧ LiS N I J p0 p1 (-1) := fun hn => ⟨⟨rfl, rfl, rfl, rfl⟩, Or.inr ⟨hn, rfl⟩⟩
  unfold wp_X8_line
  rw [m3]
  refine ⟨_, fun _ _ _ _ hB => hB, fun e0 => N0 ?_, fun e0 => ⟨fun e1 => N0 ?_, fun e1 => ⟨fun e6 => ?_, fun e6 => N0 ?_⟩⟩⟩
  · rintro ⟨i, hi, rfl⟩
    exact absurd e0 (nI_pos (by omega))
  · rintro ⟨i, hi, rfl⟩
    exact absurd e1 (nI_ge hi.1 (by omega))
  · obtain ⟨n, hn, rfl⟩ := nI_case (t := 0) (x := p0) 600 (by omega) e0 (Int32.not_le.mpr e6)
    have hnN : n < N := by
      rcases Nat.lt_or_ge n N with g | g
      · exact g
      · exact absurd (nI_le g (by omega)) e1
    have hv : vp_in (nI n) 600 := vp_in_nI hn (by omega)
    obtain ⟨a1, a2, a3, a4, a5⟩ := hMR n hnN hn
    rw [clN (by omega), a1, a2, a3, a4, a5 (fun h => h)]
    refine ⟨fun e => ?_, fun e => ?_, fun e => ?_, fun e => ?_, fun e => ?_, fun e => ⟨⟨rfl, rfl, rfl, rfl⟩, Or.inl ⟨n, ⟨hnN, hn⟩, rfl, F5.no e⟩⟩⟩
    · subst e; exact ⟨hv, ⟨rfl, rfl, rfl, rfl⟩, Or.inl ⟨n, ⟨hnN, hn⟩, rfl, F5.m0⟩⟩
    · subst e; exact ⟨hv, ⟨rfl, rfl, rfl, rfl⟩, Or.inl ⟨n, ⟨hnN, hn⟩, rfl, F5.m1⟩⟩
    · subst e; exact ⟨hv, ⟨rfl, rfl, rfl, rfl⟩, Or.inl ⟨n, ⟨hnN, hn⟩, rfl, F5.m2⟩⟩
    · subst e; exact ⟨hv, ⟨rfl, rfl, rfl, rfl⟩, Or.inl ⟨n, ⟨hnN, hn⟩, rfl, F5.m3⟩⟩
    · subst e; exact ⟨hv, ⟨rfl, rfl, rfl, rfl⟩, Or.inl ⟨n, ⟨hnN, hn⟩, rfl, F5.m4⟩⟩
  · rintro ⟨i, hi, rfl⟩
    exact e6 (nI_lt (b := 600) hi.2 (by omega))
theorem u_X7_count (p0 : Int32) (hR : R2 c b q Z I J S L Im Jm Sm Lm) : wp_X7_count 600 0 I J S L p0 (fun r I1 J1 S1 L1 => E4 I J S L I1 J1 S1 L1 ∧ CoS c I J S L p0 r) := by
  obtain ⟨⟨⟨-, -, hc, h3, -⟩, -⟩, -⟩ := hR
  have N : E4 I J S L I J S L := ⟨rfl, rfl, rfl, rfl⟩
  unfold wp_X7_count CoS
  generalize hT : osF (fun h => J 28 h) 12 0 0 = T
  refine ⟨fun e => ?_, fun e => ?_, fun e => ?_, fun e => ?_, fun e => ?_, fun e => ?_, fun e => ?_, fun e => ?_, fun e => ⟨N, F8.no e⟩⟩
  · subst e; exact ⟨N, F8.m0⟩
  · subst e; exact ⟨N, F8.m1⟩
  · subst e; exact ⟨N, F8.m2⟩
  · subst e; exact ⟨N, F8.m3⟩
  · subst e
    unfold wp_X2_allFilled_O wp_X2_allFilled
    refine ⟨fun n I' J' S' L' y x => I' = I ∧ J' = J ∧ S' = S ∧ L' = L ∧ ∃ k, k ≤ 12 ∧ x = nI k ∧ n = 12 - k ∧ T = osF (fun h => J 28 h) (12 - k) k y, ⟨12, rfl, rfl, rfl, rfl, 0, by omega, rfl, rfl, hT.symm⟩, ?_⟩
    rintro n I' J' S' L' y x ⟨rfl, rfl, rfl, rfl, k, hk, rfl, rfl, hR1⟩
    refine ⟨fun hc1 => ?_, fun hc1 => ?_⟩
    · have : 12 ≤ k := (nI_leI (a := 12) (by omega) (by omega)).mp hc1
      dsimp only
      rw [up_same]
      rw [show 12 - k = 0 by omega, osF_0] at hR1
      rw [← hR1]
      exact ⟨N, F8.m4⟩
    have hk2 : k < 12 := nI_nleN (by omega) hk hc1
    rw [clN (by omega)]
    refine ⟨vp_in_nI hk2 (by omega), fun y2 ey x2 ex2 => ?_⟩
    exact ⟨12 - (k + 1), by omega, rfl, rfl, rfl, rfl, k + 1, by omega, by rw [ex2]; exact nI_1 k, rfl, by rw [hR1, ey, show 12 - k = (12 - (k + 1)) + 1 by omega, osF_s]⟩
  · subst e; exact ⟨N, F8.m5⟩
  · subst e
    refine ⟨_, fun _ _ _ _ _ hB => hB, fun h4 => ?_, fun h4 => ?_⟩
    · rw [h3] at h4
      have g : ¬ c < 40 := fun g => absurd h4 (nI_ge (b := 40) g (by omega))
      have : trF c I = -1 := if_neg g
      rw [this]
      exact ⟨N, F8.m6⟩
    · unfold wp_X4_tornAt_O wp_X4_tornAt
      rw [h3] at h4
      have hc4 : c < 40 := by
        rcases Nat.lt_or_ge c 40 with g | g
        · exact g
        · exact absurd (nI_le (a := 40) g (by omega)) h4
      have : trF c I = ((12 : Int32) - bcF (I 20 c)).toInt64 := if_pos hc4
      rw [this, show (S 3).toNatClampNeg = c by rw [h3, clN (by omega)]]
      refine ⟨by rw [h3]; exact vp_in_nI hc4 (by omega), e_bitCount ?_⟩
      dsimp only
      rw [up_same]
      exact ⟨N, F8.m6⟩
  · subst e; exact ⟨N, F8.m7⟩
theorem u_X8_count (p0 : Int32) (hR : R2 c b q Z I J S L Im Jm Sm Lm) : wp_X8_count Im Jm Sm Lm p0 (fun r I1 J1 S1 L1 => E4 Im Jm Sm Lm I1 J1 S1 L1 ∧ CoS c I J S L p0 r) := by
  obtain ⟨⟨⟨-, -, hc, h3, -⟩, -, ⟨h1, -⟩, -⟩, ⟨⟨-, s0⟩, ⟨-, s1, -⟩, -⟩, -, ⟨-, hT6⟩, -, hP, h28, ⟨M, hM, s5, m3, -⟩, hs5, l0⟩ := hR
  have N : E4 Im Jm Sm Lm Im Jm Sm Lm := ⟨rfl, rfl, rfl, rfl⟩
  unfold wp_X8_count CoS
  have hfl : ∀ k, k < 12 → (Im 27 k).toInt64 = J 28 k := fun k hk => by
    have := hP.2.2.2 k hk
    rw [Nat.mul_zero, Nat.zero_add] at this
    exact this
  generalize hT : osF (fun h => J 28 h) 12 0 0 = T
  rw [s0, s1, m3, ← hs5, l0, h3, h1, s5]
  refine ⟨fun e => ?_, fun e => ?_, fun e => ?_, fun e => ?_, fun e => ?_, fun e => ?_, fun e => ?_, fun e => ?_, fun e => ⟨N, F8.no e⟩⟩
  · subst e; exact ⟨N, F8.m0⟩
  · subst e; exact ⟨N, F8.m1⟩
  · subst e; exact ⟨N, F8.m2⟩
  · subst e
    have : Jm 28 ((0 : Int32)).toNatClampNeg = L 1 := h28
    rw [this]
    exact ⟨vp_in_nI (n := 0) (by omega) (by omega), N, F8.m3⟩
  · subst e
    refine ⟨fun n I' J' S' L' y x => I' = Im ∧ J' = Jm ∧ S' = Sm ∧ L' = Lm ∧ ∃ k, k ≤ 12 ∧ x = nI k ∧ n = 12 - k ∧ T = osF (fun h => J 28 h) (12 - k) k y, ⟨12, rfl, rfl, rfl, rfl, 0, by omega, rfl, rfl, hT.symm⟩, ?_⟩
    rintro n I' J' S' L' y x ⟨rfl, rfl, rfl, rfl, k, hk, rfl, rfl, hR1⟩
    refine ⟨fun hc1 => ?_, fun hc1 => ?_⟩
    · have : 12 ≤ k := (nI_leI (a := 12) (by omega) (by omega)).mp hc1
      rw [show 12 - k = 0 by omega, osF_0] at hR1
      rw [← hR1]
      exact ⟨N, F8.m4⟩
    have hk2 : k < 12 := nI_nleN (by omega) hk hc1
    rw [clN (by omega), hfl k hk2]
    refine ⟨vp_in_nI (by omega) (by omega), fun y2 ey x2 ex2 => ?_⟩
    exact ⟨12 - (k + 1), by omega, rfl, rfl, rfl, rfl, k + 1, by omega, by rw [ex2]; exact nI_1 k, rfl, by rw [hR1, ey, show 12 - k = (12 - (k + 1)) + 1 by omega, osF_s]⟩
  · subst e; exact ⟨N, F8.m5⟩
  · subst e
    refine ⟨_, fun _ _ _ _ _ hB => hB, fun e4 => ?_, fun e4 => ?_⟩
    · have hc4 : c < 40 := by
        rcases Nat.lt_or_ge c 40 with g | g
        · exact g
        · exact absurd (by rw [show c = 40 by omega]; rfl) e4
      obtain ⟨n, hn, i19, i20⟩ := hT6 c (Nat.le_refl _) hc4
      have : trF c I = (nI n).toInt64 := by
        unfold trF
        rw [if_pos hc4, i20, torn_bc hn]
      rw [this, clN (by omega), i19]
      exact ⟨vp_in_nI hc4 (by omega), N, F8.m6⟩
    · have : c = 40 := (nI_eq (b := 40) (by omega) (by omega)).mp e4
      have : trF c I = -1 := if_neg (by omega)
      rw [this]
      exact ⟨N, F8.m6⟩
  · subst e; exact ⟨N, F8.m7⟩
end
