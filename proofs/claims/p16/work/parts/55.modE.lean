section
variable {I : TI} {J : TJ} {S : TS} {L : TL}
theorem m_takes {b l h : Nat} {p2 : Int32} {Φ : Int64 → TI → TJ → TS → TL → Prop} (hb : b ≤ 24) (s1 : S 1 = nI b) (hl : l < 2) (hh : h < 12) (hf : ∀ (r : Int64) (J' : TJ), Φ r I J' S L) : wp_X8_takes I J S L (nI l) (nI h) p2 Φ := by
  unfold wp_X8_takes
  intro y _
  rw [e12]
  have hv24 : vp_in (nI (12 * l + h)) 24 := vp_in_nI (by omega) (by omega)
  refine ⟨fun n I' J' S' L' y x => I' = I ∧ S' = S ∧ L' = L ∧ ∃ k, k ≤ 40 ∧ x = nI k ∧ n = 40 - k, ⟨40, rfl, rfl, rfl, 0, by omega, rfl, rfl⟩, ?_⟩
  rintro n I' J' S' L' y x ⟨rfl, rfl, rfl, k, hk, rfl, rfl⟩
  refine ⟨fun _ => ⟨hv24, hv24, fun J2 _ => hf y J2⟩, fun hc => ?_⟩
  have hk2 : k < 40 := nI_nleN (N := 40) (by omega) hk hc
  refine ⟨fun n I2 J2 S2 L2 y a x => I2 = I' ∧ S2 = S' ∧ L2 = L' ∧ a = nI k ∧ ∃ m, m ≤ b ∧ x = nI m ∧ n = b - m, ⟨b, rfl, rfl, rfl, rfl, 0, by omega, rfl, rfl⟩, ?_⟩
  rintro n I2 J2 S2 L2 y a x ⟨rfl, rfl, rfl, rfl, m, hm, rfl, rfl⟩
  rw [s1]
  refine ⟨fun _ x2 ex2 => ⟨40 - (k + 1), by omega, rfl, rfl, rfl, k + 1, by omega, by rw [ex2]; exact nI_1 k, rfl⟩, fun hc2 => ?_⟩
  have hm2 : m < b := nI_nleN (by omega) hm hc2
  have hvm : vp_in (nI m) 24 := vp_in_nI (by omega) (by omega)
  refine ⟨hvm, fun I3 J3 S3 L3 y a x => I3 = I2 ∧ S3 = S2 ∧ L3 = L2 ∧ a = nI k ∧ x = nI m, ?_, fun _ => ⟨rfl, rfl, rfl, rfl, rfl⟩, fun _ => ⟨hvm, fun _ => ?_, fun _ => ⟨rfl, rfl, rfl, rfl, rfl⟩⟩⟩
  · rintro I3 J3 S3 L3 y a x ⟨rfl, rfl, rfl, rfl, rfl⟩ x2 ex2
    exact ⟨b - (m + 1), by omega, rfl, rfl, rfl, rfl, m + 1, by omega, by rw [ex2]; exact nI_1 m, rfl⟩
  · unfold wp_X8_bag
    rw [ebag]
    have hv9 : vp_in (nI ((l * 24 + m) * 40 + k)) 1920 := vp_in_nI (by omega) (by omega)
    refine ⟨hv9, fun I4 J4 S4 L4 y a x w s => I4 = I2 ∧ S4 = S2 ∧ L4 = L2 ∧ a = nI k ∧ x = nI m ∧ w = nI ((l * 24 + m) * 40 + k), ?_, fun _ => ⟨rfl, rfl, rfl, rfl, rfl, rfl⟩, fun _ => ⟨hv9, rfl, rfl, rfl, rfl, rfl, rfl⟩⟩
    rintro I4 J4 S4 L4 y a x w s ⟨rfl, rfl, rfl, rfl, rfl, rfl⟩
    exact ⟨hv9, hv9, fun J5 _ y2 _ => ⟨rfl, rfl, rfl, rfl, rfl⟩⟩
theorem m_sentIn {b q : Nat} {p0 : Int32} {Φ : TI → TJ → TS → TL → Prop} (hb : b ≤ 24) (s1 : S 1 = nI b) (hq : q ≤ 60) (s4 : S 4 = nI q) (hQ : ∀ k, k < q → W12 (I 38 k)) (hf : ∀ J' : TJ, Φ I J' S L) : wp_X8_sentIn I J S L p0 Φ := by
  unfold wp_X8_sentIn
  refine ⟨fun n I' J' S' L' x => I' = I ∧ S' = S ∧ L' = L ∧ ∃ k, k ≤ q ∧ x = nI k ∧ n = q - k, ⟨q, rfl, rfl, rfl, 0, by omega, rfl, rfl⟩, ?_⟩
  rintro n I' J' S' L' x ⟨rfl, rfl, rfl, k, hk, rfl, rfl⟩
  rw [s4]
  refine ⟨fun _ => hf J', fun hc => ?_⟩
  have hk2 : k < q := nI_nleN (by omega) hk hc
  have hv : vp_in (nI k) 60 := vp_in_nI (by omega) (by omega)
  rw [clN (show k < 2 ^ 31 by omega)]
  obtain ⟨h, hh, eh⟩ := W12_cases (hQ k hk2)
  refine ⟨hv, fun I3 J3 S3 L3 x => I3 = I' ∧ S3 = S' ∧ L3 = L' ∧ x = nI k, ?_, fun _ => ⟨rfl, rfl, rfl, rfl⟩, fun _ => ⟨hv, hv, ?_⟩⟩
  · rintro I3 J3 S3 L3 x ⟨rfl, rfl, rfl, rfl⟩ x2 ex2
    exact ⟨q - (k + 1), by omega, rfl, rfl, rfl, k + 1, by omega, by rw [ex2]; exact nI_1 k, rfl⟩
  · rw [eh]
    exact m_takes (l := 1) hb s1 (by omega) hh (fun r J2 => ⟨rfl, rfl, rfl, rfl⟩)
theorem m_empties {Φ : TI → TJ → TS → TL → Prop} (hf : ∀ (I' : TI) (J' : TJ), FI I I' → Φ I' J' S L) : wp_X8_empties I J S L Φ := by
  unfold wp_X8_empties
  refine ⟨fun n I' J' S' L' x => FI I I' ∧ S' = S ∧ L' = L ∧ ∃ k, k ≤ 24 ∧ x = nI k ∧ n = 24 - k, ⟨12, FI.rf, rfl, rfl, 12, by omega, rfl, rfl⟩, ?_⟩
  rintro n I1 J1 S1 L1 x ⟨hI1, rfl, rfl, k, hk, rfl, rfl⟩
  refine ⟨fun _ => ?_, fun hc => ?_⟩
  · refine ⟨fun n I' J' S' L' x => FI I I' ∧ S' = S1 ∧ L' = L1 ∧ ∃ k, k ≤ 48 ∧ x = nI k ∧ n = 48 - k, ⟨24, hI1, rfl, rfl, 24, by omega, rfl, rfl⟩, ?_⟩
    rintro n I2 J2 S2 L2 x ⟨hI2, rfl, rfl, k2, hk2, rfl, rfl⟩
    refine ⟨fun _ => ?_, fun hc => ?_⟩
    · refine ⟨fun n I' J' S' L' x => FI I I' ∧ S' = S2 ∧ L' = L2 ∧ ∃ k, k ≤ 1920 ∧ x = nI k ∧ n = 1920 - k, ⟨960, hI2, rfl, rfl, 960, by omega, rfl, rfl⟩, ?_⟩
      rintro n I3 J3 S3 L3 x ⟨hI3, rfl, rfl, k3, hk3, rfl, rfl⟩
      refine ⟨fun _ => ?_, fun hc => ?_⟩
      · refine ⟨fun n I' J' S' L' x => FI I I' ∧ S' = S3 ∧ L' = L3 ∧ ∃ k, k ≤ 960 ∧ x = nI k ∧ n = 960 - k, ⟨480, hI3, rfl, rfl, 480, by omega, rfl, rfl⟩, ?_⟩
        rintro n I4 J4 S4 L4 x ⟨hI4, rfl, rfl, k4, hk4, rfl, rfl⟩
        refine ⟨fun _ => ⟨vp_in_nI (n := 1) (by omega) (by omega), fun J5 _ => hf I4 J5 hI4⟩, fun hc => ?_⟩
        have hk5 : k4 < 960 := nI_nleN (N := 960) (by omega) hk4 hc
        exact ⟨vp_in_nI hk5 (by omega), fun I5 e5 x ex => ⟨960 - (k4 + 1), by omega, by rw [e5]; exact hI4.up (by omega) _, rfl, rfl, k4 + 1, by omega, by rw [ex]; exact nI_1 k4, rfl⟩⟩
      · have hk5 : k3 < 1920 := nI_nleN (N := 1920) (by omega) hk3 hc
        exact ⟨vp_in_nI hk5 (by omega), fun J5 _ x ex => ⟨1920 - (k3 + 1), by omega, hI3, rfl, rfl, k3 + 1, by omega, by rw [ex]; exact nI_1 k3, rfl⟩⟩
    · have hk5 : k2 < 48 := nI_nleN (N := 48) (by omega) hk2 hc
      exact ⟨vp_in_nI hk5 (by omega), fun J5 _ => ⟨vp_in_nI hk5 (by omega), fun J6 _ x ex => ⟨48 - (k2 + 1), by omega, hI2, rfl, rfl, k2 + 1, by omega, by rw [ex]; exact nI_1 k2, rfl⟩⟩⟩
  · have hk5 : k < 24 := nI_nleN (N := 24) (by omega) hk hc
    have hv : vp_in (nI k) 24 := vp_in_nI hk5 (by omega)
    exact ⟨hv, fun J5 _ => ⟨hv, fun J6 _ => ⟨hv, fun I7 e7 x ex => ⟨24 - (k + 1), by omega, by rw [e7]; exact hI1.up (by omega) _, rfl, rfl, k + 1, by omega, by rw [ex]; exact nI_1 k, rfl⟩⟩⟩⟩
theorem m_anew {b c q : Nat} {Φ : TI → TJ → TS → TL → Prop} (hB : MBg b I) (hb : b ≤ 24) (s1 : S 1 = nI b) (hSt : MSt I) (hOr : MOr I) (hc : c ≤ 40) (s0 : S 0 = nI c) (hq : q ≤ 60) (s4 : S 4 = nI q) (hQ : ∀ k, k < q → W12 (I 38 k)) (hf : ∀ (I' : TI) (J' : TJ) (S' : TS) (L' : TL), FI I I' → FS S S' → Φ I' J' S' L') : wp_X8_anew I J S L Φ := by
  unfold wp_X8_anew
  refine m_empties (fun I1 J1 hI1 => ?_)
  refine ⟨fun n I' J' S' L' x => FI I I' ∧ FS S S' ∧ ∃ k, k ≤ c ∧ x = nI k ∧ n = c - k, ⟨c, hI1, fun _ _ _ => rfl, 0, by omega, rfl, rfl⟩, ?_⟩
  rintro n I2 J2 S2 L2 x ⟨hI2, hS2, k, hk, rfl, rfl⟩
  have t0 : S2 0 = nI c := (hS2 0 (by omega) (by omega)).trans s0
  have t1 : S2 1 = nI b := (hS2 1 (by omega) (by omega)).trans s1
  have t4 : S2 4 = nI q := (hS2 4 (by omega) (by omega)).trans s4
  have tQ : ∀ k, k < q → W12 (I2 38 k) := by rw [hI2 38 (by omega)]; exact hQ
  rw [t0]
  refine ⟨fun _ => m_sentIn hb t1 hq t4 tQ (fun J3 => hf I2 J3 S2 L2 hI2 hS2), fun hc2 => ?_⟩
  have hk2 : k < c := nI_nleN (by omega) hk hc2
  refine m_sentIn hb t1 hq t4 tQ (fun J3 => ?_)
  refine m_closes (l := 1) (hB.same hI2) hb t1 (hSt.same hI2) (hOr.same hI2) (by omega) (by omega) (fun h => absurd h (by decide)) (fun I4 J4 S4 L4 a1 a2 x ex => ?_)
  exact ⟨c - (k + 1), by omega, hI2.tr a1, hS2.tr a2, k + 1, by omega, by rw [ex]; exact nI_1 k, rfl⟩
theorem m_duesOf {l h : Nat} {Φ : Int64 → TI → TJ → TS → TL → Prop} (hl : l < 2) (hh : h < 12) (hf : ∀ r : Int64, Φ r I J S L) : wp_X8_duesOf I J S L (nI l) (nI h) Φ := by
  unfold wp_X8_duesOf
  refine ⟨fun n I' J' S' L' y x => I' = I ∧ J' = J ∧ S' = S ∧ L' = L ∧ ∃ k, k ≤ 40 ∧ x = nI k ∧ n = 40 - k, ⟨40, rfl, rfl, rfl, rfl, 0, by omega, rfl, rfl⟩, ?_⟩
  rintro n I' J' S' L' y x ⟨rfl, rfl, rfl, rfl, k, hk, rfl, rfl⟩
  refine ⟨fun _ => hf y, fun hc => ?_⟩
  have hk2 : k < 40 := nI_nleN (N := 40) (by omega) hk hc
  unfold wp_X8_dueAt
  rw [edue]
  exact ⟨vp_in_nI (by omega) (by omega), fun y2 _ x ex => ⟨40 - (k + 1), by omega, rfl, rfl, rfl, rfl, k + 1, by omega, by rw [ex]; exact nI_1 k, rfl⟩⟩
theorem m_worth {l h : Nat} {Φ : Int64 → TI → TJ → TS → TL → Prop} (hl : l < 2) (hh : h < 12) (hf : ∀ r : Int64, Φ r I J S L) : wp_X8_worth I J S L (nI l) (nI h) Φ := by
  unfold wp_X8_worth
  refine m_duesOf hl hh (fun r => ?_)
  rw [e12]
  have hv24 : vp_in (nI (12 * l + h)) 24 := vp_in_nI (by omega) (by omega)
  exact ⟨hv24, hv24, hf _⟩
theorem m_owed {h : Nat} {Φ : Int64 → TI → TJ → TS → TL → Prop} (hh : h < 12) (hf : ∀ r : Int64, Φ r I J S L) : wp_X8_owed I J S L (nI h) Φ := by
  unfold wp_X8_owed
  exact m_worth (l := 1) (by omega) hh (fun r => m_worth (l := 0) (by omega) hh (fun r2 => hf _))
theorem m_inBags {n : Nat} {Φ : Int64 → TI → TJ → TS → TL → Prop} (hn : n < 24) (hf : ∀ r : Int64, Φ r I J S L) : wp_X8_inBags I J S L (nI n) Φ := by
  unfold wp_X8_inBags
  refine ⟨fun n I' J' S' L' y x => I' = I ∧ J' = J ∧ S' = S ∧ L' = L ∧ ∃ k, k ≤ 40 ∧ x = nI k ∧ n = 40 - k, ⟨40, rfl, rfl, rfl, rfl, 0, by omega, rfl, rfl⟩, ?_⟩
  rintro n I' J' S' L' y x ⟨rfl, rfl, rfl, rfl, k, hk, rfl, rfl⟩
  refine ⟨fun _ => hf y, fun hc => ?_⟩
  have hk2 : k < 40 := nI_nleN (N := 40) (by omega) hk hc
  unfold wp_X8_bag
  rw [show (0 : Int32) = nI 0 from rfl, ebag]
  exact ⟨vp_in_nI (by omega) (by omega), fun y2 _ x ex => ⟨40 - (k + 1), by omega, rfl, rfl, rfl, rfl, k + 1, by omega, by rw [ex]; exact nI_1 k, rfl⟩⟩
end
