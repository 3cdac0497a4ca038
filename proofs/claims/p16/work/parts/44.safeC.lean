/-- what a ledger reads of the books, all in range -/
def Bk (I : TI) (S : TS) : Prop := (∃ b : Nat, b ≤ 24 ∧ S 1 = nI b ∧ Bgs b I) ∧ Sts I ∧ (∃ q : Nat, q ≤ 60 ∧ S 2 = nI q ∧ ∀ k, k < q → W12 (I 22 k)) ∧ ∀ t, t < 40 → ∃ z : Nat, z ≤ 12 ∧ I 19 t = nI z ∧ ∀ i, i < z → W12 (I 18 (t * 12 + i))
theorem Bk.same {I I' : TI} {S S' : TS} (h : Bk I S) (e : ∀ j, j < 25 → I' j = I j) (e1 : S' 1 = S 1) (e2 : S' 2 = S 2) : Bk I' S' := by
  obtain ⟨⟨b, hb, h1, hB⟩, hs, ⟨q, hq, h2, hQ⟩, hz⟩ := h
  refine ⟨⟨b, hb, by rw [e1]; exact h1, hB.same e⟩, hs.same e, ⟨q, hq, by rw [e2]; exact h2, ?_⟩, ?_⟩
  · rw [e 22 (by omega)]
    exact hQ
  · rw [e 19 (by omega), e 18 (by omega)]
    exact hz
theorem m0 (y : Int64) : y * ((0 : Int32).toInt64) * 1000 = 0 := by
  rw [show (0 : Int32).toInt64 = 0 from rfl, Int64.mul_zero, Int64.zero_mul]
section
variable {n0 n1 : Nat} {I : TI} {J : TJ} {S : TS} {L : TL}
set_option maxHeartbeats 2000000 in
theorem r_bringIn {b c k j : Nat} {Φ : TI → TJ → TS → TL → Prop} (hb : b ≤ 24) (h1 : S 1 = nI b) (hBg : Bgs b I) (hSt : Sts I) (h3 : S 3 = nI c) (hc : c < 40) (h6 : S 6 = nI n0) (hn0 : n0 < 2 ^ 31) (h5 : S 5 = nI k) (hk : k + 5409 < 2 ^ 31) (hj : j < 12) (hf : ∀ (I' : TI) (J' : TJ) (S' : TS) (L' : TL), Zl I S (k + 5409) I' S' → Φ I' J' S' L') : wp_X2_bringIn n0 n1 I J S L (nI j) Φ := by
  unfold wp_X2_bringIn wp_X4_wayOf
  rw [h3, show (12 : Int32) = nI 12 from rfl, pk_mul, nI_add]
  refine ⟨vp_in_nI (by omega) (by omega), ?_⟩
  refine ⟨fun I' J' S' L' s => I' = I ∧ J' = J ∧ S' = S ∧ L' = L ∧ ∃ P : Nat, P ≤ 3 ∧ s = nI P, ?_, fun _ => ⟨rfl, rfl, rfl, rfl, 1, by omega, rfl⟩, fun _ => ⟨rfl, rfl, rfl, rfl, 3, by omega, rfl⟩⟩
  rintro I1 J1 S1 L1 s ⟨rfl, rfl, rfl, rfl, P, hP, rfl⟩
  refine ⟨fun n I' J' S' L' a x => a = nI P ∧ ∃ m, m ≤ P ∧ x = nI m ∧ n = P - m ∧ Zl I1 S1 (k + m * 1803) I' S', ⟨P, rfl, 0, by omega, rfl, rfl, fun _ _ => rfl, fun _ _ => rfl, k, by omega, h5⟩, ?_⟩
  rintro n I' J' S' L' a x ⟨rfl, m, hm, rfl, rfl, hz⟩
  refine ⟨fun _ => hf I' J' S' L' (hz.mono (by omega)), fun hc1 => ?_⟩
  have hm2 : m < P := nI_nleN (by omega) hm hc1
  unfold wp_X4_coinsOf
  rw [hz.2.1 3 (by omega), h3, show (12 : Int32) = nI 12 from rfl, pk_mul, nI_add, show (3 : Int32) = nI 3 from rfl, pk_mul, nI_add]
  refine ⟨vp_in_nI (by omega) (by omega), fun y _ => ?_⟩
  unfold wp_X2_lastDay
  obtain ⟨kk, hkk, ekk⟩ := (hSt.same hz.1).1 j hj
  refine r_setAt hj ekk hkk (fun s hs => ?_)
  intro L2 _ x2 ex2
  rw [pk_mul] at ex2
  subst ex2
  refine ⟨fun n' I2 J2 S2 L2 a x y f g => a = nI P ∧ x = nI m ∧ f = nI s ∧ ∃ e, e ≤ 3 ∧ g = nI (s * 3 + e) ∧ n' = 3 - e ∧ Zl I1 S1 (k + m * 1803 + e * 601) I2 S2, ⟨3, rfl, rfl, rfl, 0, by omega, rfl, rfl, hz.mono (by omega)⟩, ?_⟩
  rintro n' I2 J2 S2 L2 a x y f g ⟨rfl, rfl, rfl, e, he, rfl, rfl, hz2⟩
  have e3 : (nI s + (1 : Int32)) * (nI 3) = nI ((s + 1) * 3) := by rw [nI_1, pk_mul]
  refine ⟨fun _ => fun x3 ex3 => ?_, fun hc3 => ?_⟩
  · exact ⟨P - (m + 1), by omega, rfl, m + 1, by omega, by rw [ex3]; exact nI_1 m, rfl, hz2.mono (by omega)⟩
  rw [e3] at hc3
  have he2 : e < 3 := by
    rcases Nat.lt_or_ge e 3 with q | q
    · exact q
    · exact absurd (nI_le (by omega) (by omega)) hc3
  have hv : vp_in (nI (s * 3 + e)) 216 := vp_in_nI (by omega) (by omega)
  refine ⟨hv, fun y2 ey2 => ?_⟩
  refine ⟨fun I3 J3 S3 L3 a x y f g => a = nI P ∧ x = nI m ∧ f = nI s ∧ g = nI (s * 3 + e) ∧ Zl I1 S1 (k + m * 1803 + (e + 1) * 601) I3 S3, ?_, fun _ => ⟨rfl, rfl, rfl, rfl, hz2.mono (by omega)⟩, fun hy => ⟨hv, ?_⟩⟩
  · rintro I3 J3 S3 L3 a x y f g ⟨rfl, rfl, rfl, rfl, hz3⟩ x3 ex3
    exact ⟨3 - (e + 1), by omega, rfl, rfl, rfl, e + 1, by omega, by rw [ex3]; exact nI_1 _, rfl, hz3⟩
  rw [clN (by omega)] at ey2 ⊢
  have hw : W12 (I2 3 (s * 3 + e)) := by
    rcases (hSt.same hz2.1).2 (s * 3 + e) (by omega) with ⟨_, h4⟩ | h
    · rw [h4, m0] at ey2
      rw [ey2] at hy
      exact absurd (by decide) hy
    · exact h
  obtain ⟨k2, hk2, e5⟩ := hz2.2.2
  refine r_runLine_0 (b := b) (c := c) (k := k2) (m := 0) hb (by rw [hz2.2.1 1 (by omega)]; exact h1) (hBg.same hz2.1) (by rw [hz2.2.1 3 (by omega)]; exact h3) hc (by rw [hz2.2.1 6 (by omega)]; exact h6) hn0 e5 (by omega) hw (by decide) (by omega) (fun I3 J3 S3 L3 hz3 => ⟨rfl, rfl, rfl, rfl, ?_⟩)
  refine ⟨fun j hj => (hz3.1 j hj).trans (hz2.1 j hj), fun j hj => (hz3.2.1 j hj).trans (hz2.2.1 j hj), ?_⟩
  obtain ⟨k3, hk3, e6⟩ := hz3.2.2
  exact ⟨k3, by omega, e6⟩
/-- closeTerm: the books stand; closed grows by one; the other fields but lines.size stand -/
theorem r_closeTerm {c : Nat} {Φ : TI → TJ → TS → TL → Prop} (hB : Bk I S) (h3 : S 3 = nI c) (hc : c < 40) (h6 : S 6 = nI n0) (hn0 : n0 < 2 ^ 31) (hf : ∀ (I' : TI) (J' : TJ) (S' : TS) (L' : TL), (∀ j, j < 25 → I' j = I j) → (∀ j, j ≠ 3 → j ≠ 5 → S' j = S j) → S' 3 = nI (c + 1) → Φ I' J' S' L') : wp_X2_closeTerm n0 n1 I J S L Φ := by
  obtain ⟨⟨b, hb, h1, hBg⟩, hSt, hQ, hZ⟩ := id hB
  obtain ⟨z, hz12, ez, hzo⟩ := hZ c hc
  unfold wp_X2_closeTerm
  intro S1 eS1
  have s5 : S1 5 = nI 0 := by rw [eS1]; rfl
  have sj : ∀ j, j ≠ 5 → S1 j = S j := fun j hj => by rw [eS1]; exact va_up_ne _ _ hj
  have hZ0 : ∀ {k : Nat} {I' : TI} {S' : TS}, Zl I S1 k I' S' → (∀ j, j ≠ 5 → S' j = S j) := fun h j hj => (h.2.1 j hj).trans (sj j hj)
  refine ⟨fun n I' J' S' L' x => ∃ m, m ≤ z ∧ x = nI m ∧ n = z - m ∧ Zl I S1 (m * 5409) I' S', ⟨z, 0, by omega, rfl, rfl, fun _ _ => rfl, fun _ _ => rfl, 0, by omega, s5⟩, ?_⟩
  rintro n I' J' S' L' x ⟨m, hm, rfl, rfl, hz⟩
  unfold wp_X4_sizeOf
  have e3 : S' 3 = nI c := (hZ0 hz 3 (by omega)).trans h3
  rw [e3, clN (by omega), hz.1 19 (by omega), ez]
  refine ⟨vp_in_nI hc (by omega), fun _ => ?_, fun hc1 => ?_⟩
  · refine r_emptyOldBags hb ((hZ0 hz 1 (by omega)).trans h1) (hBg.same hz.1) e3 hc (fun J2 => ?_)
    refine r_payHands e3 hc (fun I2 J3 hI2 => ?_)
    refine ⟨fun I3 J3 S3 L3 => (∀ j, j < 25 → I3 j = I j) ∧ S3 = S', ?_, fun _ => ⟨fun j hj => (hI2 j hj).trans (hz.1 j hj), rfl⟩, fun h4 => ?_⟩
    · rintro I3 J3 S3 L3 ⟨hI3, rfl⟩ S4 e4
      exact hf I3 J3 S4 L3 hI3 (fun j hj1 hj2 => by rw [e4, va_up_ne _ _ hj1]; exact hZ0 hz j hj2) (by rw [e4]; show S3 3 + 1 = nI (c + 1); rw [e3]; exact nI_1 c)
    · have hc3 : 3 ≤ c := by
        rcases Nat.lt_or_ge c 3 with q | q
        · rw [e3] at h4
          rcases (show c = 0 ∨ c = 1 ∨ c = 2 by omega) with rfl | rfl | rfl <;> exact absurd h4 (by decide)
        · exact q
      refine r_fillFloors hb ((hZ0 hz 1 (by omega)).trans h1) (hBg.same (fun j hj => (hI2 j hj).trans (hz.1 j hj))) e3 hc hc3 (fun I3 J4 hI3 => ⟨fun j hj => (hI3 j hj).trans ((hI2 j hj).trans (hz.1 j hj)), rfl⟩)
  · have hm2 : m < z := nI_nleN (by omega) hm hc1
    unfold wp_X4_workAt
    have e9 : nI c * (12 : Int32) + nI m = nI (c * 12 + m) := by rw [show (12 : Int32) = nI 12 from rfl, pk_mul, nI_add]
    rw [e3, e9, clN (by omega), hz.1 18 (by omega)]
    refine ⟨vp_in_nI (by omega) (by omega), ?_⟩
    obtain ⟨w, hw, ew⟩ := W12_cases (hzo m hm2)
    rw [ew]
    unfold wp_X4_isOpen
    rw [e3]
    refine ⟨vp_in_nI hc (by omega), ?_⟩
    have nx : ∃ n_50, n_50 < z - m ∧ ∃ m_1, m_1 ≤ z ∧ nI m + 1 = nI m_1 ∧ n_50 = z - m_1 ∧ True := ⟨z - (m + 1), by omega, m + 1, by omega, nI_1 m, rfl, trivial⟩
    have go : ∀ r : Int32, (∃ B_43 : TI → TJ → TS → TL → Int32 → Prop, (∀ (I_44 : TI) (J_45 : TJ) (S_46 : TS) (L_47 : TL) (x_48 : Int32), B_43 I_44 J_45 S_46 L_47 x_48 → (∀ x_49 : Int32, x_49 = x_48 + 1 → (∃ n_50, n_50 < z - m ∧ ∃ m_1, m_1 ≤ z ∧ x_49 = nI m_1 ∧ n_50 = z - m_1 ∧ Zl I S1 (m_1 * 5409) I_44 S_46))) ∧ (((¬ r = 0) → (B_43 I' J' S' L' (nI m))) ∧ ((r = 0) → (wp_X2_bringIn n0 n1 I' J' S' L' (nI w) (fun (I_51 : TI) (J_52 : TJ) (S_53 : TS) (L_54 : TL) => (B_43 I_51 J_52 S_53 L_54 (nI m))))))) := by
      intro r
      refine ⟨fun I2 J2 S2 L2 x => x = nI m ∧ Zl I S1 ((m + 1) * 5409) I2 S2, ?_, fun _ => ⟨rfl, hz.mono (by omega)⟩, fun _ => ?_⟩
      · rintro I2 J2 S2 L2 x ⟨rfl, hz2⟩ x2 ex2
        exact ⟨z - (m + 1), by omega, m + 1, by omega, by rw [ex2]; exact nI_1 m, rfl, hz2⟩
      · obtain ⟨k2, hk2, e5⟩ := hz.2.2
        refine r_bringIn (b := b) (c := c) (k := k2) hb ((hZ0 hz 1 (by omega)).trans h1) (hBg.same hz.1) (hSt.same hz.1) e3 hc ((hZ0 hz 6 (by omega)).trans h6) hn0 e5 (by omega) hw (fun I3 J3 S3 L3 hz3 => ⟨rfl, ?_⟩)
        refine ⟨fun j hj => (hz3.1 j hj).trans (hz.1 j hj), fun j hj => (hz3.2.1 j hj).trans (hz.2.1 j hj), ?_⟩
        obtain ⟨k3, hk3, e6⟩ := hz3.2.2
        exact ⟨k3, by omega, e6⟩
    exact ⟨_, fun _ _ _ _ _ hB => hB, fun _ => ⟨Or.inl rfl, go 0⟩, fun _ => ⟨Or.inr rfl, go 1⟩⟩
end
