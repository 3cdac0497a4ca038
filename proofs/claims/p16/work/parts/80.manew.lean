def siF (X : TI) (b c : Nat) (p : Int32) : Nat → Nat → TJ → TJ
  | 0, _, J => J
  | j + 1, k, J => siF X b c p j (k + 1) (if X 24 k = p then (tsF X b c (X 22 k) ((X 23 k).toInt64 * 1000000) J).1 else J)
section
variable {X : TI} {b q c t : Nat}
theorem siF_s {p : Int32} {j k : Nat} {J : TJ} : siF X b c p (j + 1) k J = siF X b c p j (k + 1) (if X 24 k = p then (tsF X b c (X 22 k) ((X 23 k).toInt64 * 1000000) J).1 else J) := rfl
theorem siF_no {p : Int32} {J : TJ} : ∀ (m j k : Nat), (∀ i, k ≤ i → i < k + m → ¬ X 24 i = p) → siF X b c p (m + j) k J = siF X b c p j (k + m) J
  | 0, j, k, _ => by rw [Nat.zero_add, Nat.add_zero]
  | m + 1, j, k, h => by
    rw [show m + 1 + j = (m + j) + 1 by omega, siF_s, if_neg (h k (Nat.le_refl _) (by omega)), siF_no m j (k + 1) (fun i h1 h2 => h i (by omega) (by omega)), show k + 1 + m = k + (m + 1) by omega]
theorem siF_to {cc : Nat} (hS : SX q cc X) (hcc : cc ≤ 40) (ht : t ≤ 40) : ∀ (j k : Nat) (J : TJ) (lk : Int64), k + j = q → (∀ i, k ≤ i → i < q → t ≤ tmF X i) → siF X b c (nI t) j k J = (toF X b c (nI t) j k (J, lk)).1
  | 0, _, _, _, _, _ => rfl
  | j + 1, k, J, lk, hk, h => by
    rw [siF_s, toF_s]
    have a := hS.1 k (by omega)
    by_cases e : X 24 k = nI t
    · rw [if_pos e, if_pos e]
      exact siF_to hS hcc ht j (k + 1) _ _ (by omega) (fun i h1 h2 => h i (by omega) h2)
    · rw [if_neg e, if_neg e]
      have hne : tmF X k ≠ t := fun z => e (by rw [a.2.2.1, z])
      have tk := h k (Nat.le_refl _) (by omega)
      have := siF_no (X := X) (b := b) (c := c) (p := nI t) (J := J) j 0 (k + 1) (fun i h1 h2 z => by
        have a' := hS.1 i (by omega)
        have z2 : tmF X i = t := (nI_eq (by omega) (by omega)).mp (a'.2.2.1.symm.trans z)
        have := hS.2 k i (by omega) (by omega)
        omega)
      rw [Nat.add_zero] at this
      rw [this]
      rfl
theorem siF_K {cc k : Nat} {J : TJ} {lk : Int64} (hS : SX q cc X) (hcc : cc ≤ 40) (ht : t ≤ 40) (hK : K0 X q t k) : siF X b c (nI t) q 0 J = (toF X b c (nI t) (q - k) k (J, lk)).1 := by
  have := siF_no (X := X) (b := b) (c := c) (p := nI t) (J := J) k (q - k) 0 (fun i h1 h2 z => by
    have a' := hS.1 i (by have := hK.1; omega)
    have z2 : tmF X i = t := (nI_eq (by omega) (by omega)).mp (a'.2.2.1.symm.trans z)
    have := hK.2.1 i (by omega)
    omega)
  rw [show k + (q - k) = q by have := hK.1; omega, Nat.zero_add] at this
  rw [this]
  exact siF_to hS hcc ht (q - k) k J lk (by have := hK.1; omega) hK.2.2
end
/-- the reference's SENT BACK is X's -/
def QM (X Im : TI) : Prop := Im 38 = X 22 ∧ Im 39 = X 23 ∧ Im 40 = X 24
section
variable {X I : TI} {J : TJ} {S : TS} {L : TL}
theorem n2_sentIn {b q cc t : Nat} {D : Nat → Int32} {Ja : TJ} {Φ : TI → TJ → TS → TL → Prop} (hM : BM X I) (hQM : QM X I) (hQ : SX q cc X) (hcc : cc ≤ 40) (hq : q ≤ 60) (s4 : S 4 = nI q) (hb : b ≤ 24) (ht : t ≤ 40) (s1 : S 1 = nI b) (hA : AI 0 true t b X D Ja) (hP : MP 1 X D Ja I J) (hf : ∀ J' : TJ, MP 1 X D (siF X b t (nI t) q 0 Ja) I J' → MG 1 I I J J' → (∀ k, k ≠ 22 → k ≠ 25 → J' k = J k) → Φ I J' S L) : wp_X8_sentIn I J S L (nI t) Φ := by
  unfold wp_X8_sentIn
  generalize hR0 : siF X b t (nI t) q 0 Ja = R at hf
  refine ⟨fun n I' J' S' L' x => I' = I ∧ S' = S ∧ L' = L ∧ ∃ (k : Nat) (Jb : TJ), k ≤ q ∧ x = nI k ∧ n = q - k ∧ R = siF X b t (nI t) (q - k) k Jb ∧ AI 0 true t b X D Jb ∧ MP 1 X D Jb I J' ∧ MG 1 I I J J' ∧ (∀ k, k ≠ 22 → k ≠ 25 → J' k = J k), ⟨q, rfl, rfl, rfl, 0, Ja, by omega, rfl, rfl, hR0.symm, hA, hP, MG.rf, fun _ _ _ => rfl⟩, ?_⟩
  rintro n I' J' S' L' x ⟨rfl, rfl, rfl, k, Jb, hk, rfl, rfl, hR, hAb, hPb, hGb, hJb⟩
  rw [s4]
  refine ⟨fun hc => ?_, fun hc => ?_⟩
  · have : q - k = 0 := by
      have := (nI_leI (by omega) (by omega)).mp hc
      omega
    rw [this] at hR
    have hR : R = Jb := hR
    subst hR
    exact hf J' hPb hGb hJb
  have hk2 : k < q := nI_nleN (by omega) hk hc
  have hv : vp_in (nI k) 60 := vp_in_nI (by omega) (by omega)
  rw [clN (show k < 2 ^ 31 by omega), hQM.1, hQM.2.1, hQM.2.2]
  rw [show q - k = (q - (k + 1)) + 1 by omega, siF_s] at hR
  have a := hQ.1 k hk2
  obtain ⟨h, hh, eh⟩ := W12_cases a.1
  refine ⟨hv, fun I3 J3 S3 L3 x => I3 = I' ∧ S3 = S' ∧ L3 = L' ∧ x = nI k ∧ ∃ Jc : TJ, R = siF X b t (nI t) (q - (k + 1)) (k + 1) Jc ∧ AI 0 true t b X D Jc ∧ MP 1 X D Jc I' J3 ∧ MG 1 I' I' J J3 ∧ (∀ k, k ≠ 22 → k ≠ 25 → J3 k = J k), ?_, fun hne => ⟨rfl, rfl, rfl, rfl, Jb, ?_, hAb, hPb, hGb, hJb⟩, fun he => ⟨hv, hv, ?_⟩⟩
  · rintro I3 J3 S3 L3 x ⟨rfl, rfl, rfl, rfl, Jc, a1, a2, a3, a4, a5⟩ x2 ex2
    exact ⟨q - (k + 1), by omega, rfl, rfl, rfl, k + 1, Jc, by omega, by rw [ex2]; exact nI_1 k, rfl, a1, a2, a3, a4, a5⟩
  · rw [if_neg hne] at hR
    exact hR
  · rw [if_pos he, eh] at hR
    rw [eh]
    have hA2 := (AI_ts (hd := nI h) (m := (X 23 k).toInt64 * 1000000) hb ht (W12_nI hh) (sm_m a.2.1) hAb).1
    exact n2_takes (l := 1) hM hb ht s1 (by omega) hh (sm_m a.2.1) hAb hPb (fun J4 b1 b2 b3 => ⟨rfl, rfl, rfl, rfl, _, hR, hA2, b1, hGb.tr b2, fun k p1 p2 => (b3 k p1 p2).trans (hJb k p1 p2)⟩)
set_option maxRecDepth 100000 in
theorem n2_empties {Φ : TI → TJ → TS → TL → Prop} (hf : ∀ (I' : TI) (J' : TJ), MP 1 X (fun _ => 0) (fun _ _ => 0) I' J' → J' 28 1 = 0 → MG 1 I I' J J' → (∀ k, k ≠ 26 → k ≠ 27 → I' k = I k) → (∀ k, k ≠ 21 → k ≠ 22 → k ≠ 23 → k ≠ 24 → k ≠ 25 → k ≠ 28 → J' k = J k) → Φ I' J' S L) : wp_X8_empties I J S L Φ := by
  unfold wp_X8_empties
  refine ⟨fun n I' J' S' L' x => S' = S ∧ L' = L ∧ ∃ k, 12 ≤ k ∧ k ≤ 24 ∧ x = nI k ∧ n = 24 - k ∧ (∀ q, q ≠ 27 → I' q = I q) ∧ (∀ q, q ≠ 21 → q ≠ 22 → J' q = J q) ∧ (∀ i, I' 27 i = if 12 ≤ i ∧ i < k then 0 else I 27 i) ∧ (∀ i, J' 21 i = if 12 ≤ i ∧ i < k then 0 else J 21 i) ∧ (∀ i, J' 22 i = if 12 ≤ i ∧ i < k then 0 else J 22 i), ⟨12, rfl, rfl, 12, by omega, by omega, rfl, rfl, fun _ _ => rfl, fun _ _ _ => rfl, fun i => by rw [if_neg (by omega)], fun i => by rw [if_neg (by omega)], fun i => by rw [if_neg (by omega)]⟩, ?_⟩
  rintro n I1 J1 S1 L1 x ⟨rfl, rfl, k, hk0, hk, rfl, rfl, a1, a2, a3, a4, a5⟩
  refine ⟨fun hc => ?_, fun hc => ?_⟩
  · have hk24 : k = 24 := by
      have := (nI_leI (a := 24) (by omega) (by omega)).mp hc
      omega
    subst hk24
    refine ⟨fun n I' J' S' L' x => I' = I1 ∧ S' = S1 ∧ L' = L1 ∧ ∃ k, 24 ≤ k ∧ k ≤ 48 ∧ x = nI k ∧ n = 48 - k ∧ (∀ q, q ≠ 23 → q ≠ 24 → J' q = J1 q) ∧ (∀ i, J' 23 i = if 24 ≤ i ∧ i < k then 0 else J1 23 i) ∧ (∀ i, J' 24 i = if 24 ≤ i ∧ i < k then 0 else J1 24 i), ⟨24, rfl, rfl, rfl, 24, by omega, by omega, rfl, rfl, fun _ _ _ => rfl, fun i => by rw [if_neg (by omega)], fun i => by rw [if_neg (by omega)]⟩, ?_⟩
    rintro n I2 J2 S2 L2 x ⟨rfl, rfl, rfl, k2, hk20, hk2, rfl, rfl, b1, b2, b3⟩
    refine ⟨fun hc2 => ?_, fun hc2 => ?_⟩
    · have hk48 : k2 = 48 := by
        have := (nI_leI (a := 48) (by omega) (by omega)).mp hc2
        omega
      subst hk48
      refine ⟨fun n I' J' S' L' x => I' = I2 ∧ S' = S2 ∧ L' = L2 ∧ ∃ k, 960 ≤ k ∧ k ≤ 1920 ∧ x = nI k ∧ n = 1920 - k ∧ (∀ q, q ≠ 25 → J' q = J2 q) ∧ (∀ i, J' 25 i = if 960 ≤ i ∧ i < k then 0 else J2 25 i), ⟨960, rfl, rfl, rfl, 960, by omega, by omega, rfl, rfl, fun _ _ => rfl, fun i => by rw [if_neg (by omega)]⟩, ?_⟩
      rintro n I3 J3 S3 L3 x ⟨rfl, rfl, rfl, k3, hk30, hk3, rfl, rfl, c1, c2⟩
      refine ⟨fun hc3 => ?_, fun hc3 => ?_⟩
      · have hk19 : k3 = 1920 := by
          have := (nI_leI (a := 1920) (by omega) (by omega)).mp hc3
          omega
        subst hk19
        refine ⟨fun n I' J' S' L' x => J' = J3 ∧ S' = S3 ∧ L' = L3 ∧ ∃ k, 480 ≤ k ∧ k ≤ 960 ∧ x = nI k ∧ n = 960 - k ∧ (∀ q, q ≠ 26 → I' q = I3 q) ∧ (∀ i, I' 26 i = if 480 ≤ i ∧ i < k then 0 else I3 26 i), ⟨480, rfl, rfl, rfl, 480, by omega, by omega, rfl, rfl, fun _ _ => rfl, fun i => by rw [if_neg (by omega)]⟩, ?_⟩
        rintro n I4 J4 S4 L4 x ⟨rfl, rfl, rfl, k4, hk40, hk4, rfl, rfl, d1, d2⟩
        refine ⟨fun hc4 => ⟨vp_in_nI (n := 1) (by omega) (by omega), fun J5 e5 => ?_⟩, fun hc4 => ?_⟩
        · have hk96 : k4 = 960 := by
            have := (nI_leI (a := 960) (by omega) (by omega)).mp hc4
            omega
          subst hk96
          have e5' : J5 = va_up J4 28 (vp_updL (J4 28) 1 0) := e5
          have eo : ∀ q, q ≠ 28 → J5 q = J4 q := fun q hq => by rw [e5', va_up_ne _ _ hq]
          have z : ((0 : Int32)).toInt64 = 0 := by decide
          refine hf I4 J5 ⟨⟨fun h hh => ?_, fun n hn => ?_, fun n hn _ => ?_, fun n t hn ht => ?_⟩, fun h hh => ?_, fun h t hh ht => ?_, fun h hh => ?_⟩ (by rw [e5', va_up_self, pk_uLs]) ⟨fun n hn => by rw [d1 n (by omega), a1 n (by omega)], fun i hi => by rw [d2 i, if_neg (by omega), a1 26 (by omega)], fun i hi => ⟨by rw [d1 27 (by omega), a3 i, if_neg (by omega)], by rw [eo 21 (by omega), c1 21 (by omega), b1 21 (by omega) (by omega), a4 i, if_neg (by omega)], by rw [eo 22 (by omega), c1 22 (by omega), b1 22 (by omega) (by omega), a5 i, if_neg (by omega)]⟩, fun _ => ⟨by rw [d1 33 (by omega), a1 33 (by omega)], by rw [d1 34 (by omega), a1 34 (by omega)], by rw [d1 35 (by omega), a1 35 (by omega)], by rw [eo 36 (by omega), c1 36 (by omega), b1 36 (by omega) (by omega), a2 36 (by omega) (by omega)], by rw [eo 37 (by omega), c1 37 (by omega), b1 37 (by omega) (by omega), a2 37 (by omega) (by omega)]⟩, fun k h1 h2 h3 h4 h5 h6 _ _ _ => by rw [eo k h6, c1 k h5, b1 k h3 h4, a2 k h1 h2], fun i hi => ⟨by rw [eo 23 (by omega), c1 23 (by omega), b2 i, if_neg (by omega), a2 23 (by omega) (by omega)], by rw [eo 24 (by omega), c1 24 (by omega), b3 i, if_neg (by omega), a2 24 (by omega) (by omega)]⟩, fun i hi => by rw [eo 25 (by omega), c2 i, if_neg (by omega), b1 25 (by omega) (by omega), a2 25 (by omega) (by omega)], fun i hi => by rw [e5', va_up_self, pk_uLn hi, c1 28 (by omega), b1 28 (by omega) (by omega), a2 28 (by omega) (by omega)]⟩ (fun k h1 h2 => by rw [d1 k h1, a1 k h2]) (fun k h1 h2 h3 h4 h5 h6 => by rw [eo k h6, c1 k h5, b1 k h3 h4, a2 k h1 h2])
          · rw [eo 21 (by omega), c1 21 (by omega), b1 21 (by omega) (by omega), a4, if_pos (by omega)]
          · rw [eo 23 (by omega), c1 23 (by omega), b2, if_pos (by omega)]
          · rw [eo 24 (by omega), c1 24 (by omega), b3, if_pos (by omega)]
          · rw [eo 25 (by omega), c2, if_pos (by omega)]
          · rw [eo 22 (by omega), c1 22 (by omega), b1 22 (by omega) (by omega), a5, if_pos (by omega)]
          · rw [d2, if_pos (by omega)]
          · rw [d1 27 (by omega), a3, if_pos (by omega), z]
        have hk5 : k4 < 960 := nI_nleN (N := 960) (by omega) hk4 hc4
        rw [clN (show k4 < 2 ^ 31 by omega)]
        refine ⟨vp_in_nI hk5 (by omega), fun I5 e5 x ex => ⟨960 - (k4 + 1), by omega, rfl, rfl, rfl, k4 + 1, by omega, by omega, by rw [ex]; exact nI_1 k4, rfl, fun q hq => by rw [e5, va_up_ne _ _ hq]; exact d1 q hq, fun i => ?_⟩⟩
        rw [e5, va_up_self]
        by_cases g : i = k4
        · rw [g, pk_us, if_pos (by omega)]
        · rw [pk_un g, d2 i]
          by_cases g2 : 480 ≤ i ∧ i < k4
          · rw [if_pos g2, if_pos (by omega)]
          · rw [if_neg g2, if_neg (by omega)]
      · have hk5 : k3 < 1920 := nI_nleN (N := 1920) (by omega) hk3 hc3
        rw [clN (show k3 < 2 ^ 31 by omega)]
        refine ⟨vp_in_nI hk5 (by omega), fun J5 e5 x ex => ⟨1920 - (k3 + 1), by omega, rfl, rfl, rfl, k3 + 1, by omega, by omega, by rw [ex]; exact nI_1 k3, rfl, fun q hq => by rw [e5, va_up_ne _ _ hq]; exact c1 q hq, fun i => ?_⟩⟩
        rw [e5, va_up_self]
        by_cases g : i = k3
        · rw [g, pk_uLs, if_pos (by omega)]
        · rw [pk_uLn g, c2 i]
          by_cases g2 : 960 ≤ i ∧ i < k3
          · rw [if_pos g2, if_pos (by omega)]
          · rw [if_neg g2, if_neg (by omega)]
    · have hk5 : k2 < 48 := nI_nleN (N := 48) (by omega) hk2 hc2
      have hv : vp_in (nI k2) 48 := vp_in_nI hk5 (by omega)
      rw [clN (show k2 < 2 ^ 31 by omega)]
      refine ⟨hv, fun J5 e5 => ⟨hv, fun J6 e6 x ex => ⟨48 - (k2 + 1), by omega, rfl, rfl, rfl, k2 + 1, by omega, by omega, by rw [ex]; exact nI_1 k2, rfl, fun q h3 h4 => by rw [e6, va_up_ne _ _ h4, e5, va_up_ne _ _ h3]; exact b1 q h3 h4, fun i => ?_, fun i => ?_⟩⟩⟩
      · rw [e6, va_up_ne _ _ (by omega), e5, va_up_self]
        by_cases g : i = k2
        · rw [g, pk_uLs, if_pos (by omega)]
        · rw [pk_uLn g, b2 i]
          by_cases g2 : 24 ≤ i ∧ i < k2
          · rw [if_pos g2, if_pos (by omega)]
          · rw [if_neg g2, if_neg (by omega)]
      · rw [e6, va_up_self, e5, va_up_ne _ _ (by omega)]
        by_cases g : i = k2
        · rw [g, pk_uLs, if_pos (by omega)]
        · rw [pk_uLn g, b3 i]
          by_cases g2 : 24 ≤ i ∧ i < k2
          · rw [if_pos g2, if_pos (by omega)]
          · rw [if_neg g2, if_neg (by omega)]
  · have hk5 : k < 24 := nI_nleN (N := 24) (by omega) hk hc
    have hv : vp_in (nI k) 24 := vp_in_nI hk5 (by omega)
    rw [clN (show k < 2 ^ 31 by omega)]
    refine ⟨hv, fun J5 e5 => ⟨hv, fun J6 e6 => ⟨hv, fun I7 e7 x ex => ⟨24 - (k + 1), by omega, rfl, rfl, k + 1, by omega, by omega, by rw [ex]; exact nI_1 k, rfl, fun q hq => by rw [e7, va_up_ne _ _ hq]; exact a1 q hq, fun q h1 h2 => by rw [e6, va_up_ne _ _ h2, e5, va_up_ne _ _ h1]; exact a2 q h1 h2, fun i => ?_, fun i => ?_, fun i => ?_⟩⟩⟩⟩
    · rw [e7, va_up_self]
      by_cases g : i = k
      · rw [g, pk_us, if_pos (by omega)]
      · rw [pk_un g, a3 i]
        by_cases g2 : 12 ≤ i ∧ i < k
        · rw [if_pos g2, if_pos (by omega)]
        · rw [if_neg g2, if_neg (by omega)]
    · rw [e6, va_up_ne _ _ (by omega), e5, va_up_self]
      by_cases g : i = k
      · rw [g, pk_uLs, if_pos (by omega)]
      · rw [pk_uLn g, a4 i]
        by_cases g2 : 12 ≤ i ∧ i < k
        · rw [if_pos g2, if_pos (by omega)]
        · rw [if_neg g2, if_neg (by omega)]
    · rw [e6, va_up_self, e5, va_up_ne _ _ (by omega)]
      by_cases g : i = k
      · rw [g, pk_uLs, if_pos (by omega)]
      · rw [pk_uLn g, a5 i]
        by_cases g2 : 12 ≤ i ∧ i < k
        · rw [if_pos g2, if_pos (by omega)]
        · rw [if_neg g2, if_neg (by omega)]
end
