def MOr (I : TI) : Prop := ∀ t, t < 40 → ∃ z : Nat, z ≤ 12 ∧ I 18 t = nI z ∧ ∀ i, i < z → W12 (I 17 (12 * t + i))
theorem MOr.same {I I' : TI} (h : MOr I) (e : FI I I') : MOr I' := by
  unfold MOr
  rw [e 18 (by omega), e 17 (by omega)]
  exact h
section
variable {I : TI} {J : TJ} {S : TS} {L : TL}
theorem e12 (t w : Nat) : (12 : Int32) * nI t + nI w = nI (12 * t + w) := by rw [show (12 : Int32) = nI 12 from rfl, pk_mul, nI_add]
theorem ebag (l n t : Nat) : (nI l * (24 : Int32) + nI n) * (40 : Int32) + nI t = nI ((l * 24 + n) * 40 + t) := by rw [show (24 : Int32) = nI 24 from rfl, pk_mul, nI_add, show (40 : Int32) = nI 40 from rfl, pk_mul, nI_add]
theorem edue (l h t : Nat) : (nI l * (12 : Int32) + nI h) * (40 : Int32) + nI t = nI ((l * 12 + h) * 40 + t) := by rw [show (12 : Int32) = nI 12 from rfl, pk_mul, nI_add, show (40 : Int32) = nI 40 from rfl, pk_mul, nI_add]
theorem m_fills {l t n : Nat} {Φ : TI → TJ → TS → TL → Prop} (hl : l < 2) (ht : t < 40) (h3 : 3 ≤ t) (hn : n < 24) (hw : W12 (I 6 n)) (hf : ∀ I' : TI, FI I I' → Φ I' J S L) : wp_X8_fills I J S L (nI l) (nI t) (nI n) Φ := by
  unfold wp_X8_fills
  have hvn : vp_in (nI n) 24 := vp_in_nI hn (by omega)
  obtain ⟨h, hh, eh⟩ := W12_cases hw
  rw [clN (show n < 2 ^ 31 by omega)]
  refine ⟨hvn, fun x ex => ?_⟩
  rw [eh] at ex
  subst ex
  intro x2 ex2
  rw [show (3 : Int32) = nI 3 from rfl, pk_sub h3] at ex2
  subst ex2
  refine ⟨fun m I' J' S' L' a y x => I' = I ∧ J' = J ∧ S' = S ∧ L' = L ∧ a = nI h ∧ ∃ k, t - 3 ≤ k ∧ k ≤ t + 1 ∧ x = nI k ∧ m = t + 1 - k, ⟨4, rfl, rfl, rfl, rfl, rfl, t - 3, by omega, by omega, rfl, by omega⟩, ?_⟩
  rintro m I' J' S' L' a y x ⟨rfl, rfl, rfl, rfl, rfl, k, hk1, hk2, rfl, rfl⟩
  have hv24 : vp_in (nI (12 * l + h)) 24 := vp_in_nI (by omega) (by omega)
  refine ⟨fun _ => ⟨hvn, fun _ => ⟨hvn, fun x13 _ => ?_⟩, fun _ => hf I' FI.rf⟩, fun hc => ?_⟩
  · unfold wp_X8_dueAt
    rw [edue, e12]
    have hv : vp_in (nI ((l * 12 + h) * 40 + t)) 960 := vp_in_nI (by omega) (by omega)
    exact ⟨hv, hv, fun I2 e2 => ⟨hv24, hv24, fun I3 e3 => hf I3 (by rw [e3, e2]; exact (FI.rf.up (by omega) _).up (by omega) _)⟩⟩
  · have hk3 : k ≤ t := by
      rcases Nat.lt_or_ge t k with g | g
      · exact absurd (nI_lt g (by omega)) hc
      · exact g
    unfold wp_X8_dueAt
    rw [edue]
    exact ⟨vp_in_nI (by omega) (by omega), fun y2 _ x2 ex2 => ⟨t + 1 - (k + 1), by omega, rfl, rfl, rfl, rfl, rfl, k + 1, by omega, by omega, by rw [ex2]; exact nI_1 k, rfl⟩⟩
theorem m_isOpen {t w : Nat} {Φ : Int32 → TI → TJ → TS → TL → Prop} (ht : t < 40) (hw : w < 12) (hf : ∀ r : Int32, Φ r I J S L) : wp_X8_isOpen I J S L (nI t) (nI w) Φ := by
  unfold wp_X8_isOpen
  rw [e12]
  have hv : vp_in (nI (12 * t + w)) 480 := vp_in_nI (by omega) (by omega)
  refine ⟨vp_in_nI ht (by omega), fun I' J' S' L' s => I' = I ∧ J' = J ∧ S' = S ∧ L' = L ∧ (s = 0 ∨ s = 1), ?_, fun I' J' S' L' => I' = I ∧ J' = J ∧ S' = S ∧ L' = L, ?_, fun _ => ⟨rfl, rfl, rfl, rfl⟩, fun _ => ⟨hv, fun _ => ⟨rfl, rfl, rfl, rfl⟩, fun _ => ⟨rfl, rfl, rfl, rfl, Or.inr rfl⟩⟩⟩
  · rintro I' J' S' L' s ⟨rfl, rfl, rfl, rfl, hs⟩
    exact ⟨hs, hf s⟩
  · rintro I' J' S' L' ⟨rfl, rfl, rfl, rfl⟩
    exact ⟨rfl, rfl, rfl, rfl, Or.inl rfl⟩
theorem cl_b {k' m : Nat} (h : k' ≤ m * 140634 + 140634) : k' ≤ (m + 1) * 140634 := by rw [Nat.succ_mul]; exact h
set_option maxRecDepth 100000 in
set_option maxHeartbeats 1000000 in
theorem m_closes {b l t : Nat} {Φ : TI → TJ → TS → TL → Prop} (hB : MBg b I) (hb : b ≤ 24) (s1 : S 1 = nI b) (hSt : MSt I) (hOr : MOr I) (hl : l < 2) (ht : t < 40) (hln : nI l = 0 → S 3 = nI 0) (hf : ∀ (I' : TI) (J' : TJ) (S' : TS) (L' : TL), FI I I' → FS S S' → Φ I' J' S' L') : wp_X8_closes I J S L (nI l) (nI t) Φ := by
  unfold wp_X8_closes
  obtain ⟨z, hz, ez, ho⟩ := hOr t ht
  have hvt : vp_in (nI t) 40 := vp_in_nI ht (by omega)
  rw [clN (show t < 2 ^ 31 by omega)]
  refine ⟨fun n I' J' S' L' x => ∃ m, m ≤ z ∧ x = nI m ∧ n = z - m ∧ Cm I S (m * 140634) l I' S', ⟨z, 0, by omega, rfl, rfl, FI.rf, fun _ _ _ => rfl, fun h => ⟨0, by omega, hln h⟩⟩, ?_⟩
  rintro n I1 J1 S1 L1 x ⟨m, hm, rfl, rfl, hI, hS, hlk⟩
  have s1' : S1 1 = nI b := (hS 1 (by omega) (by omega)).trans s1
  refine ⟨hvt, fun _ => ?_, fun hc => ?_⟩
  · have hB1 := hB.same hI
    refine ⟨fun n I' J' S' L' x => I' = I1 ∧ S' = S1 ∧ ∃ m, m ≤ b ∧ x = nI m ∧ n = b - m, ⟨b, rfl, rfl, 0, by omega, rfl, rfl⟩, ?_⟩
    rintro n I' J' S' L' x ⟨rfl, rfl, m2, hm2, rfl, rfl⟩
    rw [s1']
    refine ⟨fun _ => ?_, fun hc => ?_⟩
    · refine ⟨fun n I2 J2 S2 L2 x => FI I I2 ∧ S2 = S' ∧ ∃ k, k ≤ 12 ∧ x = nI k ∧ n = 12 - k, ⟨12, hI, rfl, 0, by omega, rfl, rfl⟩, ?_⟩
      rintro n I2 J2 S2 L2 x ⟨hI2, rfl, k, hk, rfl, rfl⟩
      refine ⟨fun _ => ?_, fun hc => ?_⟩
      · refine ⟨fun n I3 J3 S3 L3 x => FI I I3 ∧ S3 = S2 ∧ ∃ k, k ≤ b ∧ x = nI k ∧ n = b - k, ⟨b, hI2, rfl, 0, by omega, rfl, rfl⟩, ?_⟩
        rintro n I3 J3 S3 L3 x ⟨hI3, rfl, k3, hk3, rfl, rfl⟩
        rw [s1']
        refine ⟨fun I4 J4 S4 L4 => FI I I4 ∧ S4 = S3, ?_, fun _ => ⟨hI3, rfl⟩, fun hc => ⟨fun _ => ⟨hI3, rfl⟩, fun h43 => ?_⟩⟩
        · rintro I4 J4 S4 L4 ⟨a, rfl⟩
          exact hf I4 J4 S4 L4 a hS
        · have hk4 : k3 < b := nI_nleN (by omega) hk3 hc
          rw [show (4 : Int32) = nI 4 from rfl, pk_rem (by omega) (by omega) (by omega)] at h43
          have h4 : t % 4 = 3 := (nI_eq (b := 3) (by omega) (by omega)).mp h43
          rw [clN (show k3 < 2 ^ 31 by omega)]
          have hvk : vp_in (nI k3) 24 := vp_in_nI (by omega) (by omega)
          refine ⟨hvk, fun I5 J5 S5 L5 x => FI I I5 ∧ S5 = S3 ∧ x = nI k3, ?_, fun _ => ⟨hI3, rfl, rfl⟩, fun _ => ⟨hvk, fun _ => ⟨hI3, rfl, rfl⟩, fun _ => ?_⟩⟩
          · rintro I5 J5 S5 L5 x ⟨a, rfl, rfl⟩ x2 ex2
            exact ⟨b - (k3 + 1), by omega, a, rfl, k3 + 1, by omega, by rw [ex2]; exact nI_1 k3, rfl⟩
          · exact m_fills hl ht (by omega) (by omega) (((hB.same hI3) k3 hk4).1) (fun I6 h6 => ⟨hI3.tr h6, rfl, rfl⟩)
      · have hk2 : k < 12 := nI_nleN (N := 12) (by omega) hk hc
        exact m_pays hl ht hk2 (fun I3 J3 h3 x ex => ⟨12 - (k + 1), by omega, hI2.tr h3, rfl, k + 1, by omega, by rw [ex]; exact nI_1 k, rfl⟩)
    · have hm3 : m2 < b := nI_nleN (by omega) hm2 hc
      rw [clN (show m2 < 2 ^ 31 by omega)]
      have hvm : vp_in (nI m2) 24 := vp_in_nI (by omega) (by omega)
      refine ⟨hvm, fun I5 J5 S5 L5 x => I5 = I' ∧ S5 = S' ∧ x = nI m2, ?_, fun _ => ⟨rfl, rfl, rfl⟩, fun h4 => ⟨hvm, fun hle => ⟨hvm, ?_⟩, fun _ => ⟨rfl, rfl, rfl⟩⟩⟩
      · rintro I5 J5 S5 L5 x ⟨rfl, rfl, rfl⟩ x2 ex2
        exact ⟨b - (m2 + 1), by omega, rfl, rfl, m2 + 1, by omega, by rw [ex2]; exact nI_1 m2, rfl⟩
      · obtain ⟨y, hy1, hy8, ey⟩ := (hB1 m2 hm3).2.2 h4
        obtain ⟨h, hh, eh⟩ := W12_cases (hB1 m2 hm3).1
        rw [ey] at hle ⊢
        have hyt : y ≤ t := (nI_leI (by omega) (by omega)).mp hle
        rw [pk_sub hyt]
        unfold wp_X8_bag
        rw [ebag]
        have hv9 : vp_in (nI ((l * 24 + m2) * 40 + (t - y))) 1920 := vp_in_nI (by omega) (by omega)
        refine ⟨hvm, fun x69 e69 => ?_⟩
        rw [eh, e12] at e69
        subst e69
        have hv24 : vp_in (nI (12 * l + h)) 24 := vp_in_nI (by omega) (by omega)
        exact ⟨hv24, hv9, hv24, fun J6 _ => ⟨hv9, fun J7 _ => ⟨rfl, rfl, rfl⟩⟩⟩
  · rw [hI 18 (by omega), ez] at hc
    have hm2 : m < z := nI_nleN (by omega) hm hc
    rw [e12, clN (show 12 * t + m < 2 ^ 31 by omega)]
    refine ⟨vp_in_nI (by omega) (by omega), fun x72 e72 => ?_⟩
    obtain ⟨w, hw, ew⟩ := W12_cases (ho m hm2)
    rw [hI 17 (by omega), ew] at e72
    subst e72
    rw [e12]
    intro x73 e73
    subst e73
    have hv : vp_in (nI (12 * t + w)) 480 := vp_in_nI (by omega) (by omega)
    refine m_isOpen ht hw (fun r => ⟨fun I5 J5 S5 L5 x => x = nI m ∧ Cm I S ((m + 1) * 140634) l I5 S5, ?_, fun _ => ⟨hv, fun _ => ⟨hv, ?_⟩, fun _ => ⟨hv, ?_⟩⟩, fun _ => ⟨rfl, hI, hS, fun h => by obtain ⟨k', q1, q2⟩ := hlk h; exact ⟨k', cl_b (Nat.le_trans q1 (Nat.le_add_right _ _)), q2⟩⟩⟩)
    · rintro I5 J5 S5 L5 x ⟨rfl, hC⟩ x2 ex2
      exact ⟨z - (m + 1), by omega, m + 1, by omega, by rw [ex2]; exact nI_1 m, rfl, hC⟩
    · refine m_comes (k := m * 140634) (hB.same hI) hb s1' (hSt.same hI) hl ht hw hlk (by omega) (fun I6 J6 S6 L6 a => ?_)
      exact ⟨rfl, hI.tr a.1, hS.tr a.2.1, fun h => by obtain ⟨k', q1, q2⟩ := a.2.2 h; exact ⟨k', cl_b (Nat.le_trans q1 (Nat.add_le_add_left (Nat.le_of_ble_eq_true rfl) _)), q2⟩⟩
    · refine m_comes (k := m * 140634) (hB.same hI) hb s1' (hSt.same hI) hl ht hw hlk (by omega) (fun I6 J6 S6 L6 a => ⟨hv, ?_⟩)
      have i6 := hI.tr a.1
      have f6 := hS.tr a.2.1
      refine m_comes (k := m * 140634 + 46878) (hB.same i6) hb ((f6 1 (by omega) (by omega)).trans s1) (hSt.same i6) hl ht hw a.2.2 (by omega) (fun I7 J7 S7 L7 a7 => ⟨hv, ?_⟩)
      have i7 := i6.tr a7.1
      have f7 := f6.tr a7.2.1
      refine m_comes (k := m * 140634 + 46878 + 46878) (hB.same i7) hb ((f7 1 (by omega) (by omega)).trans s1) (hSt.same i7) hl ht hw a7.2.2 (by omega) (fun I8 J8 S8 L8 a8 => ?_)
      exact ⟨rfl, i7.tr a8.1, f7.tr a8.2.1, fun h => by obtain ⟨k', q1, q2⟩ := a8.2.2 h; exact ⟨k', cl_b (by omega), q2⟩⟩
end
