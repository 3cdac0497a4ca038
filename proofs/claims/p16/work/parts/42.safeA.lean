def Bgs (b : Nat) (I : TI) : Prop := ∀ n, n < b → W12 (I 7 n) ∧ (Ps (I 6 n) → W12 (I 13 n)) ∧ (I 6 n = 4 → ∃ y : Nat, 1 ≤ y ∧ y ≤ 8 ∧ I 11 n = nI y)
/-- behind some lines: the books stand, the fields but lines.size stand, and that is at most k -/
def Zl (I : TI) (S : TS) (k : Nat) (I' : TI) (S' : TS) : Prop := (∀ j, j < 25 → I' j = I j) ∧ (∀ j, j ≠ 5 → S' j = S j) ∧ ∃ k' : Nat, k' ≤ k ∧ S' 5 = nI k'
theorem Zl.mono {I I' : TI} {S S' : TS} {k k2 : Nat} (h : Zl I S k I' S') (hk : k ≤ k2) : Zl I S k2 I' S' := ⟨h.1, h.2.1, by obtain ⟨a, b, c⟩ := h.2.2; exact ⟨a, by omega, c⟩⟩
theorem Zl.up {I I' : TI} {S S' : TS} {k j : Nat} (h : Zl I S k I' S') (hj : 25 ≤ j) (f : Nat → Int32) : Zl I S k (va_up I' j f) S' := ⟨fun i hi => by rw [va_up_ne _ _ (by omega)]; exact h.1 i hi, h.2⟩
theorem clN {j : Nat} (h : j < 2 ^ 31) : (nI j).toNatClampNeg = j := nI_clamp h
theorem Bgs.same {b : Nat} {I I' : TI} (h : Bgs b I) (e : ∀ j, j < 25 → I' j = I j) : Bgs b I' := by
  intro n hn
  rw [e 7 (by omega), e 6 (by omega), e 13 (by omega), e 11 (by omega)]
  exact h n hn
section
variable {n0 n1 : Nat} {I : TI} {J : TJ} {S : TS} {L : TL}
theorem r_begin {k : Nat} {p0 p1 p2 : Int32} {p3 : Int64} {Φ : Int32 → TI → TJ → TS → TL → Prop} (h5 : S 5 = nI k) (hk : k < 2 ^ 31) (h6 : S 6 = nI n0) (hn0 : n0 < 2 ^ 31) (hf : ∀ (I' : TI) (J' : TJ) (S' : TS), Zl I S (k + 1) I' S' → S' 5 = nI (k + 1) → Φ (nI k) I' J' S' L) : wp_X3_begin n0 n1 I J S L p0 p1 p2 p3 Φ := by
  unfold wp_X3_begin
  intro x ex
  rw [h5] at ex
  subst ex
  refine ⟨fun I' J' S' L' x => (∀ j, j < 25 → I' j = I j) ∧ S' = S ∧ L' = L ∧ x = nI k, ?_, fun _ => ⟨fun _ _ => rfl, rfl, rfl, rfl⟩, fun hc => ?_⟩
  · rintro I' J' S' L' x ⟨hI, rfl, rfl, rfl⟩ S1 e1
    have e5 : S1 5 = nI (k + 1) := by
      rw [e1]
      show S' 5 + 1 = nI (k + 1)
      rw [h5]
      exact nI_1 k
    exact hf I' J' S1 ⟨hI, fun j hj => by rw [e1]; exact va_up_ne _ _ hj, k + 1, Nat.le_refl _, e5⟩ e5
  · have hv : vp_in (nI k) n0 := by
      refine vp_in_nI ?_ hn0
      rw [h6] at hc
      rcases Nat.lt_or_ge k n0 with q | q
      · exact q
      · exact absurd (nI_le q hk) hc
    refine ⟨hv, fun I1 e1 => ⟨hv, fun I2 e2 => ⟨hv, fun I3 e3 => ⟨hv, fun J1 _ => ⟨fun j hj => ?_, rfl, rfl, rfl⟩⟩⟩⟩⟩
    rw [e3, va_up_ne _ _ (by omega), e2, va_up_ne _ _ (by omega), e1, va_up_ne _ _ (by omega)]
theorem r_end {k : Nat} {p1 : Int64} {Φ : TI → TJ → TS → TL → Prop} (hk : k < 2 ^ 31) (h6 : S 6 = nI n0) (hn0 : n0 < 2 ^ 31) (hf : ∀ J' : TJ, Φ I J' S L) : wp_X3_end n0 n1 I J S L (nI k) p1 Φ := by
  unfold wp_X3_end
  refine ⟨_, fun _ _ _ _ hB => hB, fun _ => hf J, fun _ => ⟨fun _ => hf J, fun hc => ⟨?_, fun J1 _ => hf J1⟩⟩⟩
  refine vp_in_nI ?_ hn0
  rw [h6] at hc
  rcases Nat.lt_or_ge k n0 with q | q
  · exact q
  · exact absurd (nI_le q hk) hc
theorem r_takenBy {p0 : Int32} {p1 : Int64} {Φ : Int64 → TI → TJ → TS → TL → Prop} (hv : vp_in p0 24) (hf : ∀ r : Int64, Φ r I J S L) : wp_X2_takenBy n0 n1 I J S L p0 p1 Φ := by
  unfold wp_X2_takenBy
  exact ⟨hv, fun y _ => ⟨hv, fun _ => hf _, fun _ => ⟨hv, fun _ _ => hf _⟩, fun _ => hf _, fun _ => ⟨hv, hv, fun _ _ _ _ => ⟨hv, hf _⟩⟩, fun _ => hf _, fun _ => hf _⟩⟩
theorem r_holdsFor {p0 p1 p2 p3 : Int32} {Φ : Int32 → TI → TJ → TS → TL → Prop} (hv : vp_in p0 24) (h1 : Φ 1 I J S L) (h0 : Φ 0 I J S L) : wp_X0_holdsFor n0 n1 I J S L p0 p1 p2 p3 Φ := by
  unfold wp_X0_holdsFor
  exact ⟨hv, _, fun _ _ _ _ _ hB => hB, _, fun _ _ _ _ hB => hB, fun _ => ⟨Or.inl rfl, h0⟩, fun _ => ⟨hv, fun _ => ⟨Or.inl rfl, h0⟩, fun _ => ⟨hv, fun _ => ⟨Or.inl rfl, h0⟩, fun _ => ⟨Or.inr rfl, h1⟩⟩⟩⟩
end
set_option maxHeartbeats 2000000 in
theorem r_runLine_2 {n0 n1 : Nat} {I : TI} {J : TJ} {S : TS} {L : TL} {b c k m : Nat} {p0 p1 p2 : Int32} {p4 : Int64} {Φ : TI → TJ → TS → TL → Prop} (hb : b ≤ 24) (h1 : S 1 = nI b) (hBg : Bgs b I) (h3 : S 3 = nI c) (hc : c < 40) (h6 : S 6 = nI n0) (hn0 : n0 < 2 ^ 31) (h5 : S 5 = nI k) (hk : k + 1 < 2 ^ 31) (hw : W12 p1) (hp2 : p2 + 1 = nI m) (hm : m ≤ b) (hf : ∀ (I' : TI) (J' : TJ) (S' : TS) (L' : TL), Zl I S (k + 1) I' S' → Φ I' J' S' L') : wp_X2_runLine_2 n0 n1 I J S L p0 p1 p2 (nI 2) p4 Φ := by
  unfold wp_X2_runLine_2
  refine r_begin h5 (by omega) h6 hn0 (fun I1 J1 S1 hz1 e51 => ?_)
  intro x ex
  rw [hp2] at ex
  subst ex
  refine ⟨fun n I' J' S' L' a y x => ∃ m1, m ≤ m1 ∧ m1 ≤ b ∧ x = nI m1 ∧ n = b - m1 ∧ a = nI k ∧ Zl I S (k + 1 + (m1 - m) * 0) I' S', ⟨b - m, m, Nat.le_refl _, hm, rfl, rfl, rfl, hz1.mono (by omega)⟩, ?_⟩
  rintro n I' J' S' L' a y x ⟨m1, hm1, hm2, rfl, rfl, rfl, hz⟩
  have hbd : (m1 - m) * 0 ≤ 24 * 0 := Nat.mul_le_mul_right _ (by omega)
  have hi1 : vp_in p1 12 := W12_in hw
  refine ⟨fun I' J' S' L' a y => a = nI k ∧ Zl I S (k + 1) I' S', ?_, fun _ => ⟨rfl, hz.mono (by omega)⟩, fun hc1 => ?_⟩
  · rintro I' J' S' L' a y ⟨rfl, hz⟩
    refine ⟨hi1, hi1, fun J2 _ => ?_⟩
    exact r_end (by omega) (by rw [hz.2.1 6 (by omega)]; exact h6) hn0 (fun J3 => hf I' J3 S' L' hz)
  rw [hz.2.1 1 (by omega), h1] at hc1
  have hm3 : m1 < b := nI_nleN (by omega) hm2 hc1
  have hv : vp_in (nI m1) 24 := vp_in_nI (by omega) (by omega)
  have hst : (m1 + 1 - m) * 0 = (m1 - m) * 0 + 0 := by rw [show m1 + 1 - m = (m1 - m) + 1 by omega, Nat.succ_mul]
  have hbd2 : (m1 + 1 - m) * 0 ≤ 24 * 0 := Nat.mul_le_mul_right _ (by omega)
  refine ⟨fun _ => ⟨rfl, hz.mono (by omega)⟩, fun _ => ⟨hv, ?_⟩⟩
  rw [clN (by omega), hz.1 6 (by omega)]
  refine s_X7_passesOn (fun hps => ?_) (fun hps => ?_)
  · refine ⟨fun I' J' S' L' a y x p s => a = nI k ∧ x = nI m1 ∧ Zl I S (k + 1 + (m1 - m) * 0) I' S' ∧ (p = 0 ∨ (Ps (I 6 m1) ∧ ¬ s = 0)), ?_, fun I' J' S' L' a y x p => a = nI k ∧ x = nI m1 ∧ Zl I S (k + 1 + (m1 - m) * 0) I' S' ∧ p = 0, ?_, fun hc => absurd hc (by decide), fun _ => ⟨fun hc => absurd hc (by decide), fun _ => ⟨rfl, rfl, hz, Or.inr ⟨hps, by decide⟩⟩⟩⟩
    · rintro I' J' S' L' a y x p s ⟨rfl, rfl, hz, hp⟩
      refine ⟨fun I' J' S' L' a y x => a = nI k ∧ x = nI m1 ∧ Zl I S (k + 1 + (m1 + 1 - m) * 0) I' S', ?_, fun _ => ⟨rfl, rfl, hz.mono (by omega)⟩, fun hs => ?_⟩
      · rintro I' J' S' L' a y x ⟨rfl, rfl, hz⟩ x2 ex2
        exact ⟨b - (m1 + 1), by omega, m1 + 1, by omega, by omega, by rw [ex2]; exact nI_1 m1, rfl, rfl, hz⟩
      unfold wp_X2_lastDay
      refine r_holdsFor hv ⟨fun _ => ?_, fun hc => absurd hc (by decide)⟩ ⟨fun hc => absurd rfl hc, fun _ => ⟨rfl, rfl, hz.mono (by omega)⟩⟩
      refine r_takenBy hv (fun r => ?_)
      refine ⟨hv, hv, fun J2 _ => ⟨hv, hv, fun J3 _ => fun y2 _ => ⟨hv, ?_⟩⟩⟩
      have hp9 : p = 0 := hp.elim id (fun h => absurd hs h.2)
      refine ⟨fun I' J' S' L' a y x p t => a = nI k ∧ x = nI m1 ∧ Zl I S (k + 1 + (m1 - m) * 0) I' S' ∧ p = 0, ?_, fun _ => ⟨rfl, rfl, hz, hp9⟩, fun _ => ?_⟩
      · rintro I' J' S' L' a y x p t ⟨rfl, rfl, hz2, hp⟩
        exact ⟨fun _ => ⟨rfl, rfl, hz2.mono (by omega)⟩, fun hc => absurd hp hc⟩
      · have hv9 : vp_in (nI m1 * (40 : Int32) + S' 3) 960 := by
          rw [hz.2.1 3 (by omega), h3, show (40 : Int32) = nI 40 from rfl, pk_mul, nI_add]
          exact vp_in_nI (by omega) (by omega)
        exact ⟨hv9, hv9, fun J4 _ => ⟨rfl, rfl, hz, hp9⟩⟩
    · rintro I' J' S' L' a y x p ⟨rfl, rfl, hz, hp⟩
      exact ⟨rfl, rfl, hz, Or.inl hp⟩
  · refine ⟨fun I' J' S' L' a y x p s => a = nI k ∧ x = nI m1 ∧ Zl I S (k + 1 + (m1 - m) * 0) I' S' ∧ (p = 0 ∨ (Ps (I 6 m1) ∧ ¬ s = 0)), ?_, fun I' J' S' L' a y x p => a = nI k ∧ x = nI m1 ∧ Zl I S (k + 1 + (m1 - m) * 0) I' S' ∧ p = 0, ?_, fun _ => ⟨rfl, rfl, hz, rfl⟩, fun hc => absurd rfl hc⟩
    · rintro I' J' S' L' a y x p s ⟨rfl, rfl, hz, hp⟩
      refine ⟨fun I' J' S' L' a y x => a = nI k ∧ x = nI m1 ∧ Zl I S (k + 1 + (m1 + 1 - m) * 0) I' S', ?_, fun _ => ⟨rfl, rfl, hz.mono (by omega)⟩, fun hs => ?_⟩
      · rintro I' J' S' L' a y x ⟨rfl, rfl, hz⟩ x2 ex2
        exact ⟨b - (m1 + 1), by omega, m1 + 1, by omega, by omega, by rw [ex2]; exact nI_1 m1, rfl, rfl, hz⟩
      unfold wp_X2_lastDay
      refine r_holdsFor hv ⟨fun _ => ?_, fun hc => absurd hc (by decide)⟩ ⟨fun hc => absurd rfl hc, fun _ => ⟨rfl, rfl, hz.mono (by omega)⟩⟩
      refine r_takenBy hv (fun r => ?_)
      refine ⟨hv, hv, fun J2 _ => ⟨hv, hv, fun J3 _ => fun y2 _ => ⟨hv, ?_⟩⟩⟩
      have hp9 : p = 0 := hp.elim id (fun h => absurd hs h.2)
      refine ⟨fun I' J' S' L' a y x p t => a = nI k ∧ x = nI m1 ∧ Zl I S (k + 1 + (m1 - m) * 0) I' S' ∧ p = 0, ?_, fun _ => ⟨rfl, rfl, hz, hp9⟩, fun _ => ?_⟩
      · rintro I' J' S' L' a y x p t ⟨rfl, rfl, hz2, hp⟩
        exact ⟨fun _ => ⟨rfl, rfl, hz2.mono (by omega)⟩, fun hc => absurd hp hc⟩
      · have hv9 : vp_in (nI m1 * (40 : Int32) + S' 3) 960 := by
          rw [hz.2.1 3 (by omega), h3, show (40 : Int32) = nI 40 from rfl, pk_mul, nI_add]
          exact vp_in_nI (by omega) (by omega)
        exact ⟨hv9, hv9, fun J4 _ => ⟨rfl, rfl, hz, hp9⟩⟩
    · rintro I' J' S' L' a y x p ⟨rfl, rfl, hz, hp⟩
      exact ⟨rfl, rfl, hz, Or.inl hp⟩
set_option maxHeartbeats 2000000 in
theorem r_runLine_1 {n0 n1 : Nat} {I : TI} {J : TJ} {S : TS} {L : TL} {b c k m : Nat} {p0 p1 p2 : Int32} {p4 : Int64} {Φ : TI → TJ → TS → TL → Prop} (hb : b ≤ 24) (h1 : S 1 = nI b) (hBg : Bgs b I) (h3 : S 3 = nI c) (hc : c < 40) (h6 : S 6 = nI n0) (hn0 : n0 < 2 ^ 31) (h5 : S 5 = nI k) (hk : k + 25 < 2 ^ 31) (hw : W12 p1) (hp2 : p2 + 1 = nI m) (hm : m ≤ b) (hf : ∀ (I' : TI) (J' : TJ) (S' : TS) (L' : TL), Zl I S (k + 25) I' S' → Φ I' J' S' L') : wp_X2_runLine_1 n0 n1 I J S L p0 p1 p2 (nI 1) p4 Φ := by
  unfold wp_X2_runLine_1
  refine r_begin h5 (by omega) h6 hn0 (fun I1 J1 S1 hz1 e51 => ?_)
  intro x ex
  rw [hp2] at ex
  subst ex
  refine ⟨fun n I' J' S' L' a y x => ∃ m1, m ≤ m1 ∧ m1 ≤ b ∧ x = nI m1 ∧ n = b - m1 ∧ a = nI k ∧ Zl I S (k + 1 + (m1 - m) * 1) I' S', ⟨b - m, m, Nat.le_refl _, hm, rfl, rfl, rfl, hz1.mono (by omega)⟩, ?_⟩
  rintro n I' J' S' L' a y x ⟨m1, hm1, hm2, rfl, rfl, rfl, hz⟩
  have hbd : (m1 - m) * 1 ≤ 24 * 1 := Nat.mul_le_mul_right _ (by omega)
  have hi1 : vp_in p1 12 := W12_in hw
  refine ⟨fun I' J' S' L' a y => a = nI k ∧ Zl I S (k + 25) I' S', ?_, fun _ => ⟨rfl, hz.mono (by omega)⟩, fun hc1 => ?_⟩
  · rintro I' J' S' L' a y ⟨rfl, hz⟩
    refine ⟨hi1, hi1, fun J2 _ => ?_⟩
    exact r_end (by omega) (by rw [hz.2.1 6 (by omega)]; exact h6) hn0 (fun J3 => hf I' J3 S' L' hz)
  rw [hz.2.1 1 (by omega), h1] at hc1
  have hm3 : m1 < b := nI_nleN (by omega) hm2 hc1
  have hv : vp_in (nI m1) 24 := vp_in_nI (by omega) (by omega)
  have hst : (m1 + 1 - m) * 1 = (m1 - m) * 1 + 1 := by rw [show m1 + 1 - m = (m1 - m) + 1 by omega, Nat.succ_mul]
  have hbd2 : (m1 + 1 - m) * 1 ≤ 24 * 1 := Nat.mul_le_mul_right _ (by omega)
  refine ⟨fun _ => ⟨rfl, hz.mono (by omega)⟩, fun _ => ⟨hv, ?_⟩⟩
  rw [clN (by omega), hz.1 6 (by omega)]
  refine s_X7_passesOn (fun hps => ?_) (fun hps => ?_)
  · refine ⟨fun I' J' S' L' a y x p s => a = nI k ∧ x = nI m1 ∧ Zl I S (k + 1 + (m1 - m) * 1) I' S' ∧ (p = 0 ∨ Ps (I 6 m1)), ?_, fun I' J' S' L' a y x p => a = nI k ∧ x = nI m1 ∧ Zl I S (k + 1 + (m1 - m) * 1) I' S' ∧ (p = 0 ∨ Ps (I 6 m1)), ?_, fun hc => absurd hc (by decide), fun _ => ⟨fun _ => ⟨rfl, rfl, hz, Or.inr hps⟩, fun hc => absurd (by decide) hc⟩⟩
    · rintro I' J' S' L' a y x p s ⟨rfl, rfl, hz, hp⟩
      refine ⟨fun I' J' S' L' a y x => a = nI k ∧ x = nI m1 ∧ Zl I S (k + 1 + (m1 + 1 - m) * 1) I' S', ?_, fun _ => ⟨rfl, rfl, hz.mono (by omega)⟩, fun hs => ?_⟩
      · rintro I' J' S' L' a y x ⟨rfl, rfl, hz⟩ x2 ex2
        exact ⟨b - (m1 + 1), by omega, m1 + 1, by omega, by omega, by rw [ex2]; exact nI_1 m1, rfl, rfl, hz⟩
      unfold wp_X2_lastDay
      refine r_holdsFor hv ⟨fun _ => ?_, fun hc => absurd hc (by decide)⟩ ⟨fun hc => absurd rfl hc, fun _ => ⟨rfl, rfl, hz.mono (by omega)⟩⟩
      refine r_takenBy hv (fun r => ?_)
      refine ⟨hv, hv, fun J2 _ => ⟨hv, hv, fun J3 _ => fun y2 _ => ⟨hv, ?_⟩⟩⟩
      have hp9 : (p = 0 ∨ Ps (I 6 m1)) := hp
      refine ⟨fun I' J' S' L' a y x p t => a = nI k ∧ x = nI m1 ∧ Zl I S (k + 1 + (m1 - m) * 1) I' S' ∧ (p = 0 ∨ Ps (I 6 m1)), ?_, fun _ => ⟨rfl, rfl, hz, hp9⟩, fun _ => ?_⟩
      · rintro I' J' S' L' a y x p t ⟨rfl, rfl, hz2, hp⟩
        refine ⟨fun _ => ⟨rfl, rfl, hz2.mono (by omega)⟩, fun hpn => ⟨fun _ => ⟨rfl, rfl, hz2.mono (by omega)⟩, fun _ => ⟨hv, ?_⟩⟩⟩
        have hps : Ps (I 6 m1) := by
          rcases hp with hp | hp
          · exact absurd hp hpn
          · exact hp
        obtain ⟨k2, hk2, e5⟩ := hz2.2.2
        rw [clN (by omega), show (nI 1 + 1 : Int32) = nI 2 from rfl]
        refine r_runLine_2 (b := b) (c := c) (k := k2) (m := m1 + 1) hb (by rw [hz2.2.1 1 (by omega)]; exact h1) (hBg.same hz2.1) (by rw [hz2.2.1 3 (by omega)]; exact h3) hc (by rw [hz2.2.1 6 (by omega)]; exact h6) hn0 e5 (by omega) (by rw [hz2.1 13 (by omega)]; exact (hBg m1 hm3).2.1 hps) (nI_1 m1) (by omega) (fun I3 J3 S3 L3 hz3 => ⟨rfl, rfl, ?_⟩)
        refine ⟨fun j hj => (hz3.1 j hj).trans (hz2.1 j hj), fun j hj => (hz3.2.1 j hj).trans (hz2.2.1 j hj), ?_⟩
        obtain ⟨k3, hk3, e6⟩ := hz3.2.2
        exact ⟨k3, by omega, e6⟩
      · have hv9 : vp_in (nI m1 * (40 : Int32) + S' 3) 960 := by
          rw [hz.2.1 3 (by omega), h3, show (40 : Int32) = nI 40 from rfl, pk_mul, nI_add]
          exact vp_in_nI (by omega) (by omega)
        exact ⟨hv9, hv9, fun J4 _ => ⟨rfl, rfl, hz, hp9⟩⟩
    · rintro I' J' S' L' a y x p ⟨rfl, rfl, hz, hp⟩
      exact ⟨rfl, rfl, hz, hp⟩
  · refine ⟨fun I' J' S' L' a y x p s => a = nI k ∧ x = nI m1 ∧ Zl I S (k + 1 + (m1 - m) * 1) I' S' ∧ (p = 0 ∨ Ps (I 6 m1)), ?_, fun I' J' S' L' a y x p => a = nI k ∧ x = nI m1 ∧ Zl I S (k + 1 + (m1 - m) * 1) I' S' ∧ (p = 0 ∨ Ps (I 6 m1)), ?_, fun _ => ⟨rfl, rfl, hz, Or.inl rfl⟩, fun hc => absurd rfl hc⟩
    · rintro I' J' S' L' a y x p s ⟨rfl, rfl, hz, hp⟩
      refine ⟨fun I' J' S' L' a y x => a = nI k ∧ x = nI m1 ∧ Zl I S (k + 1 + (m1 + 1 - m) * 1) I' S', ?_, fun _ => ⟨rfl, rfl, hz.mono (by omega)⟩, fun hs => ?_⟩
      · rintro I' J' S' L' a y x ⟨rfl, rfl, hz⟩ x2 ex2
        exact ⟨b - (m1 + 1), by omega, m1 + 1, by omega, by omega, by rw [ex2]; exact nI_1 m1, rfl, rfl, hz⟩
      unfold wp_X2_lastDay
      refine r_holdsFor hv ⟨fun _ => ?_, fun hc => absurd hc (by decide)⟩ ⟨fun hc => absurd rfl hc, fun _ => ⟨rfl, rfl, hz.mono (by omega)⟩⟩
      refine r_takenBy hv (fun r => ?_)
      refine ⟨hv, hv, fun J2 _ => ⟨hv, hv, fun J3 _ => fun y2 _ => ⟨hv, ?_⟩⟩⟩
      have hp9 : (p = 0 ∨ Ps (I 6 m1)) := hp
      refine ⟨fun I' J' S' L' a y x p t => a = nI k ∧ x = nI m1 ∧ Zl I S (k + 1 + (m1 - m) * 1) I' S' ∧ (p = 0 ∨ Ps (I 6 m1)), ?_, fun _ => ⟨rfl, rfl, hz, hp9⟩, fun _ => ?_⟩
      · rintro I' J' S' L' a y x p t ⟨rfl, rfl, hz2, hp⟩
        refine ⟨fun _ => ⟨rfl, rfl, hz2.mono (by omega)⟩, fun hpn => ⟨fun _ => ⟨rfl, rfl, hz2.mono (by omega)⟩, fun _ => ⟨hv, ?_⟩⟩⟩
        have hps : Ps (I 6 m1) := by
          rcases hp with hp | hp
          · exact absurd hp hpn
          · exact hp
        obtain ⟨k2, hk2, e5⟩ := hz2.2.2
        rw [clN (by omega), show (nI 1 + 1 : Int32) = nI 2 from rfl]
        refine r_runLine_2 (b := b) (c := c) (k := k2) (m := m1 + 1) hb (by rw [hz2.2.1 1 (by omega)]; exact h1) (hBg.same hz2.1) (by rw [hz2.2.1 3 (by omega)]; exact h3) hc (by rw [hz2.2.1 6 (by omega)]; exact h6) hn0 e5 (by omega) (by rw [hz2.1 13 (by omega)]; exact (hBg m1 hm3).2.1 hps) (nI_1 m1) (by omega) (fun I3 J3 S3 L3 hz3 => ⟨rfl, rfl, ?_⟩)
        refine ⟨fun j hj => (hz3.1 j hj).trans (hz2.1 j hj), fun j hj => (hz3.2.1 j hj).trans (hz2.2.1 j hj), ?_⟩
        obtain ⟨k3, hk3, e6⟩ := hz3.2.2
        exact ⟨k3, by omega, e6⟩
      · have hv9 : vp_in (nI m1 * (40 : Int32) + S' 3) 960 := by
          rw [hz.2.1 3 (by omega), h3, show (40 : Int32) = nI 40 from rfl, pk_mul, nI_add]
          exact vp_in_nI (by omega) (by omega)
        exact ⟨hv9, hv9, fun J4 _ => ⟨rfl, rfl, hz, hp9⟩⟩
    · rintro I' J' S' L' a y x p ⟨rfl, rfl, hz, hp⟩
      exact ⟨rfl, rfl, hz, hp⟩
set_option maxHeartbeats 2000000 in
theorem r_runLine_0 {n0 n1 : Nat} {I : TI} {J : TJ} {S : TS} {L : TL} {b c k m : Nat} {p0 p1 p2 : Int32} {p4 : Int64} {Φ : TI → TJ → TS → TL → Prop} (hb : b ≤ 24) (h1 : S 1 = nI b) (hBg : Bgs b I) (h3 : S 3 = nI c) (hc : c < 40) (h6 : S 6 = nI n0) (hn0 : n0 < 2 ^ 31) (h5 : S 5 = nI k) (hk : k + 601 < 2 ^ 31) (hw : W12 p1) (hp2 : p2 + 1 = nI m) (hm : m ≤ b) (hf : ∀ (I' : TI) (J' : TJ) (S' : TS) (L' : TL), Zl I S (k + 601) I' S' → Φ I' J' S' L') : wp_X2_runLine_0 n0 n1 I J S L p0 p1 p2 (nI 0) p4 Φ := by
  unfold wp_X2_runLine_0
  refine r_begin h5 (by omega) h6 hn0 (fun I1 J1 S1 hz1 e51 => ?_)
  intro x ex
  rw [hp2] at ex
  subst ex
  refine ⟨fun n I' J' S' L' a y x => ∃ m1, m ≤ m1 ∧ m1 ≤ b ∧ x = nI m1 ∧ n = b - m1 ∧ a = nI k ∧ Zl I S (k + 1 + (m1 - m) * 25) I' S', ⟨b - m, m, Nat.le_refl _, hm, rfl, rfl, rfl, hz1.mono (by omega)⟩, ?_⟩
  rintro n I' J' S' L' a y x ⟨m1, hm1, hm2, rfl, rfl, rfl, hz⟩
  have hbd : (m1 - m) * 25 ≤ 24 * 25 := Nat.mul_le_mul_right _ (by omega)
  have hi1 : vp_in p1 12 := W12_in hw
  refine ⟨fun I' J' S' L' a y => a = nI k ∧ Zl I S (k + 601) I' S', ?_, fun _ => ⟨rfl, hz.mono (by omega)⟩, fun hc1 => ?_⟩
  · rintro I' J' S' L' a y ⟨rfl, hz⟩
    refine ⟨hi1, hi1, fun J2 _ => ?_⟩
    exact r_end (by omega) (by rw [hz.2.1 6 (by omega)]; exact h6) hn0 (fun J3 => hf I' J3 S' L' hz)
  rw [hz.2.1 1 (by omega), h1] at hc1
  have hm3 : m1 < b := nI_nleN (by omega) hm2 hc1
  have hv : vp_in (nI m1) 24 := vp_in_nI (by omega) (by omega)
  have hst : (m1 + 1 - m) * 25 = (m1 - m) * 25 + 25 := by rw [show m1 + 1 - m = (m1 - m) + 1 by omega, Nat.succ_mul]
  have hbd2 : (m1 + 1 - m) * 25 ≤ 24 * 25 := Nat.mul_le_mul_right _ (by omega)
  refine ⟨fun _ => ⟨rfl, hz.mono (by omega)⟩, fun _ => ⟨hv, ?_⟩⟩
  rw [clN (by omega), hz.1 6 (by omega)]
  refine s_X7_passesOn (fun hps => ?_) (fun hps => ?_)
  · refine ⟨fun I' J' S' L' a y x p s => a = nI k ∧ x = nI m1 ∧ Zl I S (k + 1 + (m1 - m) * 25) I' S' ∧ (p = 0 ∨ Ps (I 6 m1)), ?_, fun I' J' S' L' a y x p => a = nI k ∧ x = nI m1 ∧ Zl I S (k + 1 + (m1 - m) * 25) I' S' ∧ (p = 0 ∨ Ps (I 6 m1)), ?_, fun hc => absurd hc (by decide), fun _ => ⟨fun _ => ⟨rfl, rfl, hz, Or.inr hps⟩, fun hc => absurd (by decide) hc⟩⟩
    · rintro I' J' S' L' a y x p s ⟨rfl, rfl, hz, hp⟩
      refine ⟨fun I' J' S' L' a y x => a = nI k ∧ x = nI m1 ∧ Zl I S (k + 1 + (m1 + 1 - m) * 25) I' S', ?_, fun _ => ⟨rfl, rfl, hz.mono (by omega)⟩, fun hs => ?_⟩
      · rintro I' J' S' L' a y x ⟨rfl, rfl, hz⟩ x2 ex2
        exact ⟨b - (m1 + 1), by omega, m1 + 1, by omega, by omega, by rw [ex2]; exact nI_1 m1, rfl, rfl, hz⟩
      unfold wp_X2_lastDay
      refine r_holdsFor hv ⟨fun _ => ?_, fun hc => absurd hc (by decide)⟩ ⟨fun hc => absurd rfl hc, fun _ => ⟨rfl, rfl, hz.mono (by omega)⟩⟩
      refine r_takenBy hv (fun r => ?_)
      refine ⟨hv, hv, fun J2 _ => ⟨hv, hv, fun J3 _ => fun y2 _ => ⟨hv, ?_⟩⟩⟩
      have hp9 : (p = 0 ∨ Ps (I 6 m1)) := hp
      refine ⟨fun I' J' S' L' a y x p t => a = nI k ∧ x = nI m1 ∧ Zl I S (k + 1 + (m1 - m) * 25) I' S' ∧ (p = 0 ∨ Ps (I 6 m1)), ?_, fun _ => ⟨rfl, rfl, hz, hp9⟩, fun _ => ?_⟩
      · rintro I' J' S' L' a y x p t ⟨rfl, rfl, hz2, hp⟩
        refine ⟨fun _ => ⟨rfl, rfl, hz2.mono (by omega)⟩, fun hpn => ⟨fun _ => ⟨rfl, rfl, hz2.mono (by omega)⟩, fun _ => ⟨hv, ?_⟩⟩⟩
        have hps : Ps (I 6 m1) := by
          rcases hp with hp | hp
          · exact absurd hp hpn
          · exact hp
        obtain ⟨k2, hk2, e5⟩ := hz2.2.2
        rw [clN (by omega), show (nI 0 + 1 : Int32) = nI 1 from rfl]
        refine r_runLine_1 (b := b) (c := c) (k := k2) (m := m1 + 1) hb (by rw [hz2.2.1 1 (by omega)]; exact h1) (hBg.same hz2.1) (by rw [hz2.2.1 3 (by omega)]; exact h3) hc (by rw [hz2.2.1 6 (by omega)]; exact h6) hn0 e5 (by omega) (by rw [hz2.1 13 (by omega)]; exact (hBg m1 hm3).2.1 hps) (nI_1 m1) (by omega) (fun I3 J3 S3 L3 hz3 => ⟨rfl, rfl, ?_⟩)
        refine ⟨fun j hj => (hz3.1 j hj).trans (hz2.1 j hj), fun j hj => (hz3.2.1 j hj).trans (hz2.2.1 j hj), ?_⟩
        obtain ⟨k3, hk3, e6⟩ := hz3.2.2
        exact ⟨k3, by omega, e6⟩
      · have hv9 : vp_in (nI m1 * (40 : Int32) + S' 3) 960 := by
          rw [hz.2.1 3 (by omega), h3, show (40 : Int32) = nI 40 from rfl, pk_mul, nI_add]
          exact vp_in_nI (by omega) (by omega)
        exact ⟨hv9, hv9, fun J4 _ => ⟨rfl, rfl, hz, hp9⟩⟩
    · rintro I' J' S' L' a y x p ⟨rfl, rfl, hz, hp⟩
      exact ⟨rfl, rfl, hz, hp⟩
  · refine ⟨fun I' J' S' L' a y x p s => a = nI k ∧ x = nI m1 ∧ Zl I S (k + 1 + (m1 - m) * 25) I' S' ∧ (p = 0 ∨ Ps (I 6 m1)), ?_, fun I' J' S' L' a y x p => a = nI k ∧ x = nI m1 ∧ Zl I S (k + 1 + (m1 - m) * 25) I' S' ∧ (p = 0 ∨ Ps (I 6 m1)), ?_, fun _ => ⟨rfl, rfl, hz, Or.inl rfl⟩, fun hc => absurd rfl hc⟩
    · rintro I' J' S' L' a y x p s ⟨rfl, rfl, hz, hp⟩
      refine ⟨fun I' J' S' L' a y x => a = nI k ∧ x = nI m1 ∧ Zl I S (k + 1 + (m1 + 1 - m) * 25) I' S', ?_, fun _ => ⟨rfl, rfl, hz.mono (by omega)⟩, fun hs => ?_⟩
      · rintro I' J' S' L' a y x ⟨rfl, rfl, hz⟩ x2 ex2
        exact ⟨b - (m1 + 1), by omega, m1 + 1, by omega, by omega, by rw [ex2]; exact nI_1 m1, rfl, rfl, hz⟩
      unfold wp_X2_lastDay
      refine r_holdsFor hv ⟨fun _ => ?_, fun hc => absurd hc (by decide)⟩ ⟨fun hc => absurd rfl hc, fun _ => ⟨rfl, rfl, hz.mono (by omega)⟩⟩
      refine r_takenBy hv (fun r => ?_)
      refine ⟨hv, hv, fun J2 _ => ⟨hv, hv, fun J3 _ => fun y2 _ => ⟨hv, ?_⟩⟩⟩
      have hp9 : (p = 0 ∨ Ps (I 6 m1)) := hp
      refine ⟨fun I' J' S' L' a y x p t => a = nI k ∧ x = nI m1 ∧ Zl I S (k + 1 + (m1 - m) * 25) I' S' ∧ (p = 0 ∨ Ps (I 6 m1)), ?_, fun _ => ⟨rfl, rfl, hz, hp9⟩, fun _ => ?_⟩
      · rintro I' J' S' L' a y x p t ⟨rfl, rfl, hz2, hp⟩
        refine ⟨fun _ => ⟨rfl, rfl, hz2.mono (by omega)⟩, fun hpn => ⟨fun _ => ⟨rfl, rfl, hz2.mono (by omega)⟩, fun _ => ⟨hv, ?_⟩⟩⟩
        have hps : Ps (I 6 m1) := by
          rcases hp with hp | hp
          · exact absurd hp hpn
          · exact hp
        obtain ⟨k2, hk2, e5⟩ := hz2.2.2
        rw [clN (by omega), show (nI 0 + 1 : Int32) = nI 1 from rfl]
        refine r_runLine_1 (b := b) (c := c) (k := k2) (m := m1 + 1) hb (by rw [hz2.2.1 1 (by omega)]; exact h1) (hBg.same hz2.1) (by rw [hz2.2.1 3 (by omega)]; exact h3) hc (by rw [hz2.2.1 6 (by omega)]; exact h6) hn0 e5 (by omega) (by rw [hz2.1 13 (by omega)]; exact (hBg m1 hm3).2.1 hps) (nI_1 m1) (by omega) (fun I3 J3 S3 L3 hz3 => ⟨rfl, rfl, ?_⟩)
        refine ⟨fun j hj => (hz3.1 j hj).trans (hz2.1 j hj), fun j hj => (hz3.2.1 j hj).trans (hz2.2.1 j hj), ?_⟩
        obtain ⟨k3, hk3, e6⟩ := hz3.2.2
        exact ⟨k3, by omega, e6⟩
      · have hv9 : vp_in (nI m1 * (40 : Int32) + S' 3) 960 := by
          rw [hz.2.1 3 (by omega), h3, show (40 : Int32) = nI 40 from rfl, pk_mul, nI_add]
          exact vp_in_nI (by omega) (by omega)
        exact ⟨hv9, hv9, fun J4 _ => ⟨rfl, rfl, hz, hp9⟩⟩
    · rintro I' J' S' L' a y x p ⟨rfl, rfl, hz, hp⟩
      exact ⟨rfl, rfl, hz, hp⟩
