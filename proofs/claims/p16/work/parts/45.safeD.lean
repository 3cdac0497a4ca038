section
variable {n0 n1 : Nat} {I : TI} {J : TJ} {S : TS} {L : TL}
theorem r_isReserveOf {p0 p1 : Int32} {Φ : Int32 → TI → TJ → TS → TL → Prop} (hv : vp_in p0 24) (h1 : Φ 1 I J S L) (h0 : Φ 0 I J S L) : wp_X0_isReserveOf n0 n1 I J S L p0 p1 Φ := by
  unfold wp_X0_isReserveOf
  exact ⟨hv, _, fun _ _ _ _ _ hB => hB, _, fun _ _ _ _ hB => hB, fun _ => ⟨Or.inl rfl, h0⟩, fun _ => ⟨hv, fun _ => ⟨Or.inl rfl, h0⟩, fun _ => ⟨Or.inr rfl, h1⟩⟩⟩
theorem r_takeSent {b c : Nat} {p0 : Int32} {p1 : Int64} {Φ : TI → TJ → TS → TL → Prop} (hb : b ≤ 24) (h1 : S 1 = nI b) (h3 : S 3 = nI c) (hc : c ≤ 40) (hw : W12 p0) (hf : ∀ (J' : TJ) (L' : TL), Φ I J' S L') : wp_X2_takeSent n0 n1 I J S L p0 p1 Φ := by
  unfold wp_X2_takeSent
  have hi := W12_in hw
  refine ⟨fun n I' J' S' L' y x => I' = I ∧ S' = S ∧ ∃ m, m ≤ c ∧ x = nI m ∧ n = c - m, ⟨c, rfl, rfl, 0, by omega, rfl, rfl⟩, ?_⟩
  rintro n I' J' S' L' y x ⟨rfl, rfl, m, hm, rfl, rfl⟩
  refine ⟨fun I2 J2 S2 L2 y => I2 = I' ∧ S2 = S', ?_, fun _ => ⟨rfl, rfl⟩, fun hc1 => ⟨fun _ => ⟨rfl, rfl⟩, fun _ => ?_⟩⟩
  · rintro I2 J2 S2 L2 y ⟨rfl, rfl⟩
    exact ⟨hi, hi, fun J3 _ L3 _ => hf J3 L3⟩
  rw [h3] at hc1
  have hm2 : m < c := nI_nleN (by omega) hm hc1
  refine ⟨fun n2 I2 J2 S2 L2 y x z => I2 = I' ∧ S2 = S' ∧ x = nI m ∧ ∃ e, e ≤ b ∧ z = nI e ∧ n2 = b - e, ⟨b, rfl, rfl, rfl, 0, by omega, rfl, rfl⟩, ?_⟩
  rintro n2 I2 J2 S2 L2 y x z ⟨rfl, rfl, rfl, e, he, rfl, rfl⟩
  refine ⟨fun _ => fun x2 ex2 => ⟨c - (m + 1), by omega, rfl, rfl, m + 1, by omega, by rw [ex2]; exact nI_1 m, rfl⟩, fun hc2 => ?_⟩
  rw [h1] at hc2
  have he2 : e < b := nI_nleN (by omega) he hc2
  have hv : vp_in (nI e) 24 := vp_in_nI (by omega) (by omega)
  have e9 : nI e * (40 : Int32) + nI m = nI (e * 40 + m) := by rw [show (40 : Int32) = nI 40 from rfl, pk_mul, nI_add]
  have h96 : vp_in (nI (e * 40 + m)) 960 := vp_in_nI (by omega) (by omega)
  have nx : ∀ (I3 : TI) (J3 : TJ) (S3 : TS) (L3 : TL) (y : Int64) (x z : Int32), (I3 = I2 ∧ S3 = S2 ∧ x = nI m ∧ z = nI e) → ∀ x_43 : Int32, x_43 = z + 1 → ∃ n_44, n_44 < b - e ∧ (I3 = I2 ∧ S3 = S2 ∧ x = nI m ∧ ∃ e, e ≤ b ∧ x_43 = nI e ∧ n_44 = b - e) := by
    rintro I3 J3 S3 L3 y x z ⟨rfl, rfl, rfl, rfl⟩ x2 ex2
    exact ⟨b - (e + 1), by omega, rfl, rfl, rfl, e + 1, by omega, by rw [ex2]; exact nI_1 e, rfl⟩
  rw [e9]
  refine r_isReserveOf hv ?_ ?_
  · refine ⟨fun I3 J3 S3 L3 y x z => I3 = I2 ∧ S3 = S2 ∧ x = nI m ∧ z = nI e, nx, fun hc => absurd hc (by decide), fun _ => ⟨h96, fun y2 _ => ⟨h96, h96, fun J3 _ y3 _ => ⟨rfl, rfl, rfl, rfl⟩⟩⟩⟩
  · exact ⟨fun I3 J3 S3 L3 y x z => I3 = I2 ∧ S3 = S2 ∧ x = nI m ∧ z = nI e, nx, fun _ => ⟨rfl, rfl, rfl, rfl⟩, fun hc => absurd rfl hc⟩
theorem r_takeSentOf {b c q t : Nat} {p0 : Int32} {Φ : TI → TJ → TS → TL → Prop} (hb : b ≤ 24) (h1 : S 1 = nI b) (h3 : S 3 = nI c) (hc : c ≤ 40) (hq : q ≤ 60) (h2 : S 2 = nI q) (hQ : ∀ k, k < q → W12 (I 22 k)) (h4 : S 4 = nI t) (ht : t ≤ q) (hf : ∀ (J' : TJ) (S' : TS) (L' : TL), (∀ j, j ≠ 4 → S' j = S j) → (∃ t : Nat, t ≤ q ∧ S' 4 = nI t) → Φ I J' S' L') : wp_X2_takeSentOf n0 n1 I J S L p0 Φ := by
  unfold wp_X2_takeSentOf
  refine ⟨fun n I' J' S' L' => I' = I ∧ (∀ j, j ≠ 4 → S' j = S j) ∧ ∃ t : Nat, t ≤ q ∧ S' 4 = nI t ∧ n = q - t, ⟨q - t, rfl, fun _ _ => rfl, t, ht, h4, rfl⟩, ?_⟩
  rintro n I' J' S' L' ⟨rfl, hS, t1, ht1, e4, rfl⟩
  refine ⟨fun I2 J2 S2 L2 => I2 = I' ∧ (∀ j, j ≠ 4 → S2 j = S j) ∧ ∃ t : Nat, t ≤ q ∧ S2 4 = nI t, ?_, fun _ => ⟨rfl, hS, t1, ht1, e4⟩, fun hc1 => ?_⟩
  · rintro I2 J2 S2 L2 ⟨rfl, hS2, ht2⟩
    exact hf J2 S2 L2 hS2 ht2
  rw [hS 2 (by omega), h2, e4] at hc1
  have ht3 : t1 < q := nI_nleN (by omega) ht1 hc1
  rw [e4, clN (by omega)]
  have hv : vp_in (nI t1) 60 := vp_in_nI (by omega) (by omega)
  refine ⟨hv, fun _ => ⟨rfl, hS, t1, ht1, e4⟩, fun _ => ⟨hv, hv, ?_⟩⟩
  refine r_takeSent hb ((hS 1 (by omega)).trans h1) ((hS 3 (by omega)).trans h3) hc (hQ t1 ht3) (fun J2 L2 S3 e3 => ?_)
  exact ⟨q - (t1 + 1), by omega, rfl, fun j hj => by rw [e3, va_up_ne _ _ hj]; exact hS j hj, t1 + 1, by omega, by rw [e3, va_up_self, e4]; exact nI_1 t1, rfl⟩
/-- behind a reckoning to term e of a ledger whose closed is c -/
def Rk (I : TI) (S : TS) (m q : Nat) (I' : TI) (S' : TS) : Prop := (∀ j, j < 25 → I' j = I j) ∧ (∀ j, j ≠ 3 → j ≠ 4 → j ≠ 5 → S' j = S j) ∧ S' 3 = nI m ∧ ∃ t : Nat, t ≤ q ∧ S' 4 = nI t
theorem r_reckonTo {c q t e : Nat} {Φ : TI → TJ → TS → TL → Prop} (hB : Bk I S) (h3 : S 3 = nI c) (hc : c ≤ 40) (hq : q ≤ 60) (h2 : S 2 = nI q) (h4 : S 4 = nI t) (ht : t ≤ q) (h6 : S 6 = nI n0) (hn0 : n0 < 2 ^ 31) (he : e ≤ 40) (hf : ∀ (I' : TI) (J' : TJ) (S' : TS) (L' : TL), Rk I S (max c e) q I' S' → Φ I' J' S' L') : wp_X2_reckonTo n0 n1 I J S L (nI e) Φ := by
  obtain ⟨⟨b, hb, h1, hBg⟩, hSt, ⟨q', hq', h2', hQ⟩, hZ⟩ := id hB
  have eq : q' = q := (nI_eq (by omega) (by omega)).mp (h2'.symm.trans h2)
  subst eq
  unfold wp_X2_reckonTo
  intro x1 e1 x2 e2
  rw [if_neg (by rw [show (40 : Int32) = nI 40 from rfl]; exact nI_nlt he (by omega))] at e1
  rw [h3] at e2
  refine ⟨fun n I' J' S' L' a x => a = nI e ∧ ∃ m, c ≤ m ∧ m ≤ max c e ∧ x = nI m ∧ n = e - m ∧ Rk I S m q' I' S', ⟨e - c, e1, c, Nat.le_refl _, Nat.le_max_left _ _, e2, rfl, ⟨fun _ _ => rfl, fun _ _ _ _ => rfl, h3, t, ht, h4⟩⟩, ?_⟩
  rintro n I' J' S' L' a x ⟨rfl, m, hm1, hm2, rfl, rfl, hR⟩
  obtain ⟨hI, hS, s3, t1, ht1, s4⟩ := id hR
  have s1 : S' 1 = nI b := (hS 1 (by omega) (by omega) (by omega)).trans h1
  have s2 : S' 2 = nI q' := (hS 2 (by omega) (by omega) (by omega)).trans h2
  have hQ' : ∀ k, k < q' → W12 (I' 22 k) := by rw [hI 22 (by omega)]; exact hQ
  have hm40 : m ≤ 40 := Nat.le_trans hm2 (Nat.max_le.mpr ⟨hc, he⟩)
  refine ⟨fun hc1 => ?_, fun hc1 => ?_⟩
  · have hem : e ≤ m := (nI_leI (by omega) (by omega)).mp hc1
    have hmm : m = max c e := Nat.le_antisymm hm2 (Nat.max_le.mpr ⟨hm1, hem⟩)
    refine r_takeSentOf hb s1 s3 hm40 hq s2 hQ' s4 ht1 (fun J2 S2 L2 hS2 ht2 => ?_)
    exact hf I' J2 S2 L2 ⟨hI, fun j a b c => (hS2 j b).trans (hS j a b c), by rw [hS2 3 (by omega), s3, hmm], ht2⟩
  · have hme : m < e := by
      rcases Nat.lt_or_ge m e with g | g
      · exact g
      · exact absurd (nI_le g (by omega)) hc1
    refine r_takeSentOf hb s1 s3 hm40 hq s2 hQ' s4 ht1 (fun J2 S2 L2 hS2 ht2 => ?_)
    obtain ⟨t2, ht2, s42⟩ := ht2
    refine r_closeTerm (c := m) (hB.same hI ((hS2 1 (by omega)).trans (hS 1 (by omega) (by omega) (by omega))) ((hS2 2 (by omega)).trans (hS 2 (by omega) (by omega) (by omega)))) ((hS2 3 (by omega)).trans s3) (by omega) ((hS2 6 (by omega)).trans ((hS 6 (by omega) (by omega) (by omega)).trans h6)) hn0 (fun I3 J3 S3 L3 hI3 hS3 s33 => ?_)
    intro x3 ex3
    exact ⟨e - (m + 1), by omega, rfl, m + 1, by omega, Nat.le_trans (by omega) (Nat.le_max_right c e), by rw [ex3]; exact nI_1 m, rfl, ⟨fun j hj => (hI3 j hj).trans (hI j hj), fun j a b c => ((hS3 j a c).trans (hS2 j b)).trans (hS j a b c), s33, t2, ht2, by rw [hS3 4 (by omega) (by omega)]; exact s42⟩⟩
end
