theorem mI12 {j : Nat} : (12 : Int32) * 0 + nI j = nI j := by
  rw [show (12 : Int32) * 0 = nI 0 from rfl, nI_add, Nat.zero_add]
theorem IM0 {k i : Nat} (h : k ≠ 19) : IM k i = 0 := by unfold IM; rw [if_neg h]
theorem q_X8_told (p0 p1 p2 : Int32) : wp_X8_told IM JM SM LM p0 p1 p2 (fun r _ _ _ _ => r = vTold p0 p1 p2) := by
  unfold wp_X8_told
  refine ⟨_, fun _ _ _ _ hB => hB, fun h => vTold_n (fun h2 => absurd h (by rw [h2.1]; decide)), fun h0 => ⟨fun h => vTold_n (fun h2 => absurd h (by rw [h2.1]; show ¬ (0 : Int32) < 0; decide)), fun h1 => ?_⟩⟩
  have e0 : p0 = 0 := by
    have h1 : ¬ (0 : Int32) < p0 := h1
    exact Int32.le_antisymm (Int32.not_lt.mp h1) (Int32.not_lt.mp h0)
  subst e0
  refine ⟨fun h => absurd h (by decide), fun _ => ?_⟩
  refine s_X8_isWork (fun hw => ⟨fun _ => ?_, fun hc => absurd hc (by decide)⟩) (fun hw => ⟨fun hc => absurd rfl hc, fun _ => vTold_n (fun h => hw h.2.1)⟩)
  obtain ⟨j, hj, rfl⟩ := W12_cases hw
  rw [mI12]
  intro x hx
  subst hx
  have hv : vp_in (nI j) 480 := vp_in_nI (by omega) (by omega)
  refine ⟨fun e => ⟨hv, ?_⟩, fun e => ⟨hv, ?_⟩, fun e => ⟨hv, ?_⟩, fun e => ⟨hv, ?_⟩, fun e => ?_, fun e => vTold_n (fun h => by rcases h.2.2 with h | h | h | h <;> exact e _ (by decide) h)⟩
  · exact (IM0 (by omega)).trans (vTold_y ⟨rfl, hw, Or.inl e⟩)
  · exact (IM0 (by omega)).trans (vTold_y ⟨rfl, hw, Or.inr (Or.inl e)⟩)
  · exact (IM0 (by omega)).trans (vTold_y ⟨rfl, hw, Or.inr (Or.inr (Or.inl e))⟩)
  · unfold wp_X8_isOpen
    refine ⟨by unfold vp_in; decide, ?_⟩
    have ht : IM 19 (0 : Int32).toNatClampNeg = 12 := by decide
    rw [ht]
    refine ⟨_, fun _ _ _ _ _ hB => hB, _, fun _ _ _ _ hB => hB, fun _ => ⟨Or.inl rfl, ?_⟩, fun hc => absurd (show nI j < nI 12 from nI_lt hj (by omega)) hc⟩
    refine ⟨_, fun _ _ _ _ _ _ hB => hB, fun _ => ?_, fun hc => absurd rfl hc⟩
    rw [IM0 (by omega)]
    exact (show (0 : Int32) + 0 = 0 from rfl).trans (vTold_y ⟨rfl, hw, Or.inr (Or.inr (Or.inr e))⟩)
  · refine ⟨fun n I' J' S' L' x => I' = IM ∧ J' = JM ∧ S' = SM ∧ L' = LM ∧ x = 0, ⟨0, rfl, rfl, rfl, rfl, rfl⟩, ?_⟩
    rintro n I' J' S' L' x ⟨rfl, rfl, rfl, rfl, rfl⟩
    refine ⟨by unfold vp_in; decide, fun _ => vTold_n (fun h => ?_), fun hc => absurd (by rw [IM0 (by omega)]; decide) hc⟩
    rw [e] at h
    rcases h.2.2 with h | h | h | h <;> exact absurd h (by decide)
section
variable {I : TI} {J : TJ} {S : TS} {L : TL}
theorem s_takes0 {p0 p1 p2 : Int32} {Φ : Int64 → TI → TJ → TS → TL → Prop} (hv : vp_in ((12 : Int32) * p0 + p1) 24) (h1 : S 1 = 0) (hf : ∀ J' : TJ, Φ (p2.toInt64 * 1000000) I J' S L) : wp_X8_takes I J S L p0 p1 p2 Φ := by
  unfold wp_X8_takes
  intro y ey
  refine ⟨fun n I' J' S' L' y' x => I' = I ∧ J' = J ∧ S' = S ∧ L' = L ∧ y' = y ∧ ∃ k, k ≤ 40 ∧ x = nI k ∧ n = 40 - k, ⟨40, rfl, rfl, rfl, rfl, rfl, 0, by omega, rfl, rfl⟩, ?_⟩
  rintro n I' J' S' L' y' x ⟨rfl, rfl, rfl, rfl, rfl, k, hk, rfl, rfl⟩
  refine ⟨fun _ => ⟨hv, hv, fun J1 _ => ?_⟩, fun hc => ?_⟩
  · rw [ey]
    exact hf J1
  · have hk2 : k < 40 := nI_nleN (by omega) hk hc
    refine ⟨fun n I'' J'' S'' L'' y'' x z => I'' = I' ∧ J'' = J' ∧ S'' = S' ∧ L'' = L' ∧ y'' = y' ∧ x = nI k ∧ z = 0, ⟨0, rfl, rfl, rfl, rfl, rfl, rfl, rfl⟩, ?_⟩
    rintro n I'' J'' S'' L'' y'' x z ⟨rfl, rfl, rfl, rfl, rfl, rfl, rfl⟩
    refine ⟨fun _ => fun x ex => ?_, fun hc => absurd (by rw [h1]; decide) hc⟩
    exact ⟨40 - (k + 1), by omega, rfl, rfl, rfl, rfl, rfl, k + 1, by omega, by rw [ex]; exact nI_1 k, rfl⟩
end
theorem q_X8_sent (p0 p1 : Int32) : wp_X8_sent IM JM SM LM p0 p1 (fun r _ _ _ _ => r = vSent p0 p1) := by
  unfold wp_X8_sent
  have hv : vp_in (SM 4) 60 := by unfold vp_in; show ¬ ((0 : Int32) < 0 ∨ 60 ≤ (0 : Int32).toNatClampNeg); decide
  refine s_X8_isHand (fun hw => ⟨_, fun _ _ _ _ hB => hB, fun hc => absurd hc (by decide), fun _ => ?_⟩) (fun hw => ⟨_, fun _ _ _ _ hB => hB, fun _ => vSent_n (fun h => hw h.1), fun hc => absurd rfl hc⟩)
  refine ⟨fun h => vSent_n (fun h2 => h2.2.1 h), fun h1 => ⟨fun h => vSent_n (fun h2 => h2.2.2 h), fun h2 => ⟨fun _ => ?_, fun hc => absurd hc (by show ¬ (0 : Int32) = 60; decide)⟩⟩⟩
  refine ⟨hv, fun I1 _ => ⟨hv, fun I2 _ => ⟨hv, fun I3 _ => fun S1 eS L1 _ => ?_⟩⟩⟩
  obtain ⟨j, hj, rfl⟩ := W12_cases hw
  refine s_takes0 ?_ (by rw [eS]; decide) (fun _ => vSent_y ⟨hw, h1, h2⟩)
  rw [mI12]
  exact vp_in_nI (by omega) (by omega)
theorem q_pays {l h : Nat} (hl : l < 2) (hh : h < 12) {Φ : TI → TJ → TS → TL → Prop} (hf : Φ IM JM SM LM) : wp_X8_pays IM JM SM LM (nI l) 0 (nI h) Φ := by
  unfold wp_X8_pays
  have e : (12 : Int32) * nI l + nI h = nI (12 * l + h) := by
    rw [show (12 : Int32) = nI 12 from rfl, pk_mul, nI_add]
  rw [e]
  intro x hx
  subst hx
  have hv : vp_in (nI (12 * l + h)) 24 := vp_in_nI (by omega) (by omega)
  refine ⟨hv, _, fun _ _ _ _ _ hB => hB, fun _ => ?_, fun hc => absurd (by show lg_cmp (0 : Int64) 0 ≤ 0; decide) hc⟩
  refine ⟨hv, _, fun _ _ _ _ _ _ hB => hB, fun hc => absurd hc (by show ¬ 0 ≤ lg_cmp (0 : Int64) 1000000; decide), fun _ => ?_⟩
  unfold wp_X8_dueAt
  have e2 : ((nI l * (12 : Int32)) + nI h) * (40 : Int32) + 0 = nI ((l * 12 + h) * 40) := by
    rw [show (12 : Int32) = nI 12 from rfl, pk_mul, nI_add, show (40 : Int32) = nI 40 from rfl, pk_mul, show (0 : Int32) = nI 0 from rfl, nI_add, Nat.add_zero]
  rw [e2]
  refine ⟨vp_in_nI (by omega) (by omega), fun I1 e1 => ?_⟩
  have e1 : I1 = IM := by rw [e1]; exact upI_same (IM0 (by omega)).symm
  subst e1
  refine ⟨hv, hv, fun J1 e3 => ?_⟩
  have e3 : J1 = JM := by rw [e3]; exact upJ_same (by show (0 : Int64) - (0 : Int32).toInt64 * 1000000 = 0; decide)
  subst e3
  exact hf
theorem q_closes {l : Nat} (hl : l < 2) {Φ : TI → TJ → TS → TL → Prop} (hf : Φ IM JM SM LM) : wp_X8_closes IM JM SM LM (nI l) 0 Φ := by
  unfold wp_X8_closes
  refine ⟨fun n I' J' S' L' x => I' = IM ∧ J' = JM ∧ S' = SM ∧ L' = LM ∧ x = 0, ⟨0, rfl, rfl, rfl, rfl, rfl⟩, ?_⟩
  rintro n I' J' S' L' x ⟨rfl, rfl, rfl, rfl, rfl⟩
  refine ⟨by unfold vp_in; decide, fun _ => ?_, fun hc => absurd (by rw [IM0 (by omega)]; decide) hc⟩
  refine ⟨fun n I' J' S' L' x => I' = IM ∧ J' = JM ∧ S' = SM ∧ L' = LM ∧ x = 0, ⟨0, rfl, rfl, rfl, rfl, rfl⟩, ?_⟩
  rintro n I' J' S' L' x ⟨rfl, rfl, rfl, rfl, rfl⟩
  refine ⟨fun _ => ?_, fun hc => absurd (by show (0 : Int32) ≤ 0; decide) hc⟩
  refine ⟨fun n I' J' S' L' x => I' = IM ∧ J' = JM ∧ S' = SM ∧ L' = LM ∧ ∃ k, k ≤ 12 ∧ x = nI k ∧ n = 12 - k, ⟨12, rfl, rfl, rfl, rfl, 0, by omega, rfl, rfl⟩, ?_⟩
  rintro n I' J' S' L' x ⟨rfl, rfl, rfl, rfl, k, hk, rfl, rfl⟩
  refine ⟨fun _ => ?_, fun hc => ?_⟩
  · refine ⟨fun n I' J' S' L' x => I' = IM ∧ J' = JM ∧ S' = SM ∧ L' = LM ∧ x = 0, ⟨0, rfl, rfl, rfl, rfl, rfl⟩, ?_⟩
    rintro n I' J' S' L' x ⟨rfl, rfl, rfl, rfl, rfl⟩
    exact ⟨_, fun _ _ _ _ hB => hB, fun _ => hf, fun hc => absurd (by show (0 : Int32) ≤ 0; decide) hc⟩
  · have hk2 : k < 12 := nI_nleN (by omega) hk hc
    refine q_pays hl hk2 ?_
    intro x ex
    exact ⟨12 - (k + 1), by omega, rfl, rfl, rfl, rfl, k + 1, by omega, by rw [ex]; exact nI_1 k, rfl⟩
theorem q_X8_close : wp_X8_close IM JM SM LM (fun r _ _ _ _ => r = 0) := by
  unfold wp_X8_close
  refine ⟨fun _ => fun S1 eS => ?_, fun hc => absurd hc (by show ¬ (0 : Int32) = 40; decide)⟩
  have eS : S1 = SM := by rw [eS]; exact upS_same rfl
  subst eS
  refine q_closes (l := 0) (by omega) ?_
  intro S2 e2
  rw [e2]
  decide
theorem q_duesOf {l : Nat} (hl : l < 2) {p1 : Int32} (hw : W12 p1) {Φ : Int64 → TI → TJ → TS → TL → Prop} (hf : Φ 0 IM JM SM LM) : wp_X8_duesOf IM JM SM LM (nI l) p1 Φ := by
  obtain ⟨h, hh, rfl⟩ := W12_cases hw
  unfold wp_X8_duesOf
  refine ⟨fun n I' J' S' L' y x => I' = IM ∧ J' = JM ∧ S' = SM ∧ L' = LM ∧ y = 0 ∧ ∃ k, k ≤ 40 ∧ x = nI k ∧ n = 40 - k, ⟨40, rfl, rfl, rfl, rfl, rfl, 0, by omega, rfl, rfl⟩, ?_⟩
  rintro n I' J' S' L' y x ⟨rfl, rfl, rfl, rfl, rfl, k, hk, rfl, rfl⟩
  refine ⟨fun _ => hf, fun hc => ?_⟩
  have hk2 : k < 40 := nI_nleN (by omega) hk hc
  unfold wp_X8_dueAt
  have e2 : ((nI l * (12 : Int32)) + nI h) * (40 : Int32) + nI k = nI ((l * 12 + h) * 40 + k) := by
    rw [show (12 : Int32) = nI 12 from rfl, pk_mul, nI_add, show (40 : Int32) = nI 40 from rfl, pk_mul, nI_add]
  rw [e2]
  refine ⟨vp_in_nI (by omega) (by omega), fun y ey x ex => ?_⟩
  rw [IM0 (by omega)] at ey
  exact ⟨40 - (k + 1), by omega, rfl, rfl, rfl, rfl, by rw [ey]; decide, k + 1, by omega, by rw [ex]; exact nI_1 k, rfl⟩
theorem q_owed {p0 : Int32} (hw : W12 p0) {Φ : Int64 → TI → TJ → TS → TL → Prop} (hf : Φ 0 IM JM SM LM) : wp_X8_owed IM JM SM LM p0 Φ := by
  obtain ⟨h, hh, rfl⟩ := W12_cases hw
  have e : ∀ l : Nat, (12 : Int32) * nI l + nI h = nI (12 * l + h) := by
    intro l
    rw [show (12 : Int32) = nI 12 from rfl, pk_mul, nI_add]
  unfold wp_X8_owed wp_X8_worth
  refine q_duesOf (l := 1) (by omega) hw ?_
  rw [show (1 : Int32) = nI 1 from rfl, e 1]
  refine ⟨vp_in_nI (by omega) (by omega), vp_in_nI (by omega) (by omega), ?_⟩
  refine q_duesOf (l := 0) (by omega) hw ?_
  rw [show (0 : Int32) = nI 0 from rfl, e 0]
  refine ⟨vp_in_nI (by omega) (by omega), vp_in_nI (by omega) (by omega), ?_⟩
  show Φ (((0 : Int64) * 1000000 + 0 - 0) - ((0 : Int64) * 1000000 + 0 - 0)) IM JM SM LM
  rw [show ((0 : Int64) * 1000000 + 0 - 0) - ((0 : Int64) * 1000000 + 0 - 0) = 0 by decide]
  exact hf
theorem q_sentIn {p0 : Int32} {Φ : TI → TJ → TS → TL → Prop} (hf : Φ IM JM SM LM) : wp_X8_sentIn IM JM SM LM p0 Φ := by
  unfold wp_X8_sentIn
  refine ⟨fun n I' J' S' L' x => I' = IM ∧ J' = JM ∧ S' = SM ∧ L' = LM ∧ x = 0, ⟨0, rfl, rfl, rfl, rfl, rfl⟩, ?_⟩
  rintro n I' J' S' L' x ⟨rfl, rfl, rfl, rfl, rfl⟩
  exact ⟨fun _ => hf, fun hc => absurd (by show (0 : Int32) ≤ 0; decide) hc⟩
theorem q_empties {Φ : TI → TJ → TS → TL → Prop} (hf : Φ IM JM SM LM) : wp_X8_empties IM JM SM LM Φ := by
  have up : ∀ (k i : Nat) (J1 : TJ), J1 = va_up JM k (vp_updL (JM k) i (0 : Int64)) → J1 = JM := fun k i J1 e => by rw [e]; exact upJ_same rfl
  have ui : ∀ (k i : Nat) (I1 : TI), k ≠ 19 → I1 = va_up IM k (upd (IM k) i (0 : Int32)) → I1 = IM := fun k i I1 h e => by rw [e]; exact upI_same (IM0 h).symm
  unfold wp_X8_empties
  refine ⟨fun n I' J' S' L' x => I' = IM ∧ J' = JM ∧ S' = SM ∧ L' = LM ∧ ∃ k, k ≤ 24 ∧ x = nI k ∧ n = 24 - k, ⟨12, rfl, rfl, rfl, rfl, 12, by omega, rfl, rfl⟩, ?_⟩
  rintro n I' J' S' L' x ⟨rfl, rfl, rfl, rfl, k, hk, rfl, rfl⟩
  refine ⟨fun _ => ?_, fun hc => ?_⟩
  · refine ⟨fun n I' J' S' L' x => I' = IM ∧ J' = JM ∧ S' = SM ∧ L' = LM ∧ ∃ k, k ≤ 48 ∧ x = nI k ∧ n = 48 - k, ⟨24, rfl, rfl, rfl, rfl, 24, by omega, rfl, rfl⟩, ?_⟩
    rintro n I' J' S' L' x ⟨rfl, rfl, rfl, rfl, k, hk, rfl, rfl⟩
    refine ⟨fun _ => ?_, fun hc => ?_⟩
    · refine ⟨fun n I' J' S' L' x => I' = IM ∧ J' = JM ∧ S' = SM ∧ L' = LM ∧ ∃ k, k ≤ 1920 ∧ x = nI k ∧ n = 1920 - k, ⟨960, rfl, rfl, rfl, rfl, 960, by omega, rfl, rfl⟩, ?_⟩
      rintro n I' J' S' L' x ⟨rfl, rfl, rfl, rfl, k, hk, rfl, rfl⟩
      refine ⟨fun _ => ?_, fun hc => ?_⟩
      · refine ⟨fun n I' J' S' L' x => I' = IM ∧ J' = JM ∧ S' = SM ∧ L' = LM ∧ ∃ k, k ≤ 960 ∧ x = nI k ∧ n = 960 - k, ⟨480, rfl, rfl, rfl, rfl, 480, by omega, rfl, rfl⟩, ?_⟩
        rintro n I' J' S' L' x ⟨rfl, rfl, rfl, rfl, k, hk, rfl, rfl⟩
        refine ⟨fun _ => ⟨by unfold vp_in; decide, fun J1 e1 => ?_⟩, fun hc => ?_⟩
        · have e1 := up _ _ _ e1
          subst e1
          exact hf
        · have hk2 : k < 960 := nI_nleN (by omega) hk hc
          refine ⟨vp_in_nI hk2 (by omega), fun I1 e1 => ?_⟩
          have e1 := ui _ _ _ (by omega) e1
          subst e1
          intro x ex
          exact ⟨960 - (k + 1), by omega, rfl, rfl, rfl, rfl, k + 1, by omega, by rw [ex]; exact nI_1 k, rfl⟩
      · have hk2 : k < 1920 := nI_nleN (by omega) hk hc
        refine ⟨vp_in_nI hk2 (by omega), fun J1 e1 => ?_⟩
        have e1 := up _ _ _ e1
        subst e1
        intro x ex
        exact ⟨1920 - (k + 1), by omega, rfl, rfl, rfl, rfl, k + 1, by omega, by rw [ex]; exact nI_1 k, rfl⟩
    · have hk2 : k < 48 := nI_nleN (by omega) hk hc
      refine ⟨vp_in_nI hk2 (by omega), fun J1 e1 => ?_⟩
      have e1 := up _ _ _ e1
      subst e1
      refine ⟨vp_in_nI hk2 (by omega), fun J1 e1 => ?_⟩
      have e1 := up _ _ _ e1
      subst e1
      intro x ex
      exact ⟨48 - (k + 1), by omega, rfl, rfl, rfl, rfl, k + 1, by omega, by rw [ex]; exact nI_1 k, rfl⟩
  · have hk2 : k < 24 := nI_nleN (by omega) hk hc
    refine ⟨vp_in_nI hk2 (by omega), fun J1 e1 => ?_⟩
    have e1 := up _ _ _ e1
    subst e1
    refine ⟨vp_in_nI hk2 (by omega), fun J1 e1 => ?_⟩
    have e1 := up _ _ _ e1
    subst e1
    refine ⟨vp_in_nI hk2 (by omega), fun I1 e1 => ?_⟩
    have e1 := ui _ _ _ (by omega) e1
    subst e1
    intro x ex
    exact ⟨24 - (k + 1), by omega, rfl, rfl, rfl, rfl, k + 1, by omega, by rw [ex]; exact nI_1 k, rfl⟩
theorem q_anew {Φ : TI → TJ → TS → TL → Prop} (hf : Φ IM JM SM LM) : wp_X8_anew IM JM SM LM Φ := by
  unfold wp_X8_anew
  refine q_empties ?_
  refine ⟨fun n I' J' S' L' x => I' = IM ∧ J' = JM ∧ S' = SM ∧ L' = LM ∧ x = 0, ⟨0, rfl, rfl, rfl, rfl, rfl⟩, ?_⟩
  rintro n I' J' S' L' x ⟨rfl, rfl, rfl, rfl, rfl⟩
  exact ⟨fun _ => q_sentIn hf, fun hc => absurd (by show (0 : Int32) ≤ 0; decide) hc⟩
theorem q_X8_hand (p0 p1 : Int32) : wp_X8_hand IM JM SM LM p0 p1 (fun r _ _ _ _ => r = vHand p0 p1) := by
  unfold wp_X8_hand
  refine s_X8_isHand (fun hw => ⟨fun _ => ?_, fun hc => absurd hc (by decide)⟩) (fun hw => ⟨fun hc => absurd rfl hc, fun _ => vHand_n (fun h => hw h.1)⟩)
  have hv : vp_in p0 24 := by
    obtain ⟨j, hj, rfl⟩ := W12_cases hw
    exact vp_in_nI (by omega) (by omega)
  refine ⟨fun e => ⟨hv, vHand_y hw (k := 0) (by omega) e⟩, fun e => ⟨hv, vHand_y hw (k := 1) (by omega) e⟩, fun e => ?_, fun e => ⟨hv, ?_⟩, fun e => ?_, fun e => vHand_n (fun h => h.2 e)⟩
  · exact q_duesOf (l := 0) (by omega) hw (vHand_y hw (k := 2) (by omega) e)
  · rw [IM0 (by omega)]
    exact vHand_y hw (k := 3) (by omega) e
  · exact q_anew (q_owed hw (vHand_y hw (k := 4) (by omega) e))
theorem q_X8_owe : wp_X8_owe IM JM SM LM (fun r _ _ _ _ => r = 0) := by
  unfold wp_X8_owe
  refine q_anew ?_
  refine ⟨fun n I' J' S' L' y x => I' = IM ∧ J' = JM ∧ S' = SM ∧ L' = LM ∧ y = 0 ∧ ∃ k, k ≤ 12 ∧ x = nI k ∧ n = 12 - k, ⟨12, rfl, rfl, rfl, rfl, rfl, 0, by omega, rfl, rfl⟩, ?_⟩
  rintro n I' J' S' L' y x ⟨rfl, rfl, rfl, rfl, rfl, k, hk, rfl, rfl⟩
  refine ⟨fun _ => rfl, fun hc => ?_⟩
  have hk2 : k < 12 := nI_nleN (by omega) hk hc
  refine q_owed (W12_nI hk2) ?_
  intro y ey x ex
  exact ⟨12 - (k + 1), by omega, rfl, rfl, rfl, rfl, by rw [ey]; decide, k + 1, by omega, by rw [ex]; exact nI_1 k, rfl⟩
theorem q_X8_settle : wp_X8_settle IM JM SM LM (fun r _ _ _ _ => r = 0) := by
  have up : ∀ (k i : Nat) (v : Int64) (J1 : TJ), v = 0 → J1 = va_up JM k (vp_updL (JM k) i v) → J1 = JM := fun k i v J1 hv e => by rw [e]; exact upJ_same hv
  unfold wp_X8_settle
  refine q_anew ?_
  refine ⟨fun n I' J' S' L' y x => I' = IM ∧ J' = JM ∧ S' = SM ∧ L' = LM ∧ y = 0 ∧ ∃ k, k ≤ 12 ∧ x = nI k ∧ n = 12 - k, ⟨12, rfl, rfl, rfl, rfl, rfl, 0, by omega, rfl, rfl⟩, ?_⟩
  rintro n I' J' S' L' y x ⟨rfl, rfl, rfl, rfl, rfl, k, hk, rfl, rfl⟩
  refine ⟨fun _ => ?_, fun hc => ?_⟩
  · refine ⟨fun n I' J' S' L' y x => J' = JM ∧ y = 0 ∧ ∃ k, k ≤ 24 ∧ x = nI k ∧ n = 24 - k, ⟨24, rfl, rfl, 0, by omega, rfl, rfl⟩, ?_⟩
    rintro n I' J' S' L' y x ⟨rfl, rfl, k, hk, rfl, rfl⟩
    refine ⟨fun _ => ?_, fun hc => ?_⟩
    · refine ⟨fun n I' J' S' L' y x => J' = JM ∧ y = 0 ∧ ∃ k, k ≤ 960 ∧ x = nI k ∧ n = 960 - k, ⟨960, rfl, rfl, 0, by omega, rfl, rfl⟩, ?_⟩
      rintro n I' J' S' L' y x ⟨rfl, rfl, k, hk, rfl, rfl⟩
      refine ⟨fun _ => ⟨by unfold vp_in; decide, by unfold vp_in; decide, fun J1 _ S1 _ => rfl⟩, fun hc => ?_⟩
      have hk2 : k < 960 := nI_nleN (by omega) hk hc
      have e9 : (960 : Int32) + nI k = nI (960 + k) := by rw [show (960 : Int32) = nI 960 from rfl, nI_add]
      rw [e9]
      refine ⟨vp_in_nI (by omega) (by omega), vp_in_nI (by omega) (by omega), fun J1 e1 => ?_⟩
      have e1 := up _ _ _ _ rfl e1
      subst e1
      intro x ex
      exact ⟨960 - (k + 1), by omega, rfl, rfl, k + 1, by omega, by rw [ex]; exact nI_1 k, rfl⟩
    · have hk2 : k < 24 := nI_nleN (by omega) hk hc
      have e9 : (24 : Int32) + nI k = nI (24 + k) := by rw [show (24 : Int32) = nI 24 from rfl, nI_add]
      rw [e9]
      refine ⟨vp_in_nI (by omega) (by omega), vp_in_nI (by omega) (by omega), fun J1 e1 => ?_⟩
      have e1 := up _ _ _ _ rfl e1
      subst e1
      refine ⟨vp_in_nI (by omega) (by omega), vp_in_nI (by omega) (by omega), fun J1 e1 => ?_⟩
      have e1 := up _ _ _ _ rfl e1
      subst e1
      intro x ex
      exact ⟨24 - (k + 1), by omega, rfl, rfl, k + 1, by omega, by rw [ex]; exact nI_1 k, rfl⟩
  · have hk2 : k < 12 := nI_nleN (by omega) hk hc
    refine q_owed (W12_nI hk2) ?_
    refine ⟨_, fun _ _ _ _ _ _ _ _ hB => hB, fun _ => ?_, fun hc => absurd lg0 hc⟩
    intro z ez
    have e9 : (12 : Int32) + nI k = nI (12 + k) := by rw [show (12 : Int32) = nI 12 from rfl, nI_add]
    have hv : vp_in (nI k) 24 := vp_in_nI (by omega) (by omega)
    rw [e9]
    have hv2 : vp_in (nI (12 + k)) 24 := vp_in_nI (by omega) (by omega)
    refine ⟨hv, hv, hv2, hv, fun J1 e1 => ?_⟩
    have e1 := up _ _ _ _ (by show (0 : Int64) + 0 - 0 + 0 = 0; decide) e1
    subst e1
    refine ⟨hv2, hv, fun J1 e1 => ?_⟩
    have e1 := up _ _ _ _ rfl e1
    subst e1
    refine ⟨hv2, hv, fun I1 e1 => ?_⟩
    have e1 : I1 = IM := by rw [e1]; exact upI_same (by rw [IM0 (by omega), IM0 (by omega)])
    subst e1
    intro x ex
    exact ⟨12 - (k + 1), by omega, rfl, rfl, rfl, rfl, by rw [ez]; decide, k + 1, by omega, by rw [ex]; exact nI_1 k, rfl⟩
theorem q_X8_count (p0 : Int32) : wp_X8_count IM JM SM LM p0 (fun r _ _ _ _ => r = vCount p0) := by
  unfold wp_X8_count
  refine ⟨fun e => vCount_0 0 (by omega) (by omega) e, fun e => vCount_0 1 (by omega) (by omega) e, fun e => vCount_0 2 (by omega) (by omega) e, fun e => ⟨by unfold vp_in; decide, vCount_0 3 (by omega) (by omega) e⟩, fun e => ?_, fun e => vCount_0 5 (by omega) (by omega) e, fun e => ?_, fun e => vCount_0 7 (by omega) (by omega) e, fun e => vCount_n e⟩
  · refine ⟨fun n I' J' S' L' y x => I' = IM ∧ J' = JM ∧ S' = SM ∧ L' = LM ∧ y = 0 ∧ ∃ k, k ≤ 12 ∧ x = nI k ∧ n = 12 - k, ⟨12, rfl, rfl, rfl, rfl, rfl, 0, by omega, rfl, rfl⟩, ?_⟩
    rintro n I' J' S' L' y x ⟨rfl, rfl, rfl, rfl, rfl, k, hk, rfl, rfl⟩
    refine ⟨fun _ => vCount_0 4 (by omega) (by omega) e, fun hc => ?_⟩
    have hk2 : k < 12 := nI_nleN (by omega) hk hc
    refine ⟨vp_in_nI (by omega) (by omega), fun y ey x ex => ?_⟩
    rw [IM0 (by omega)] at ey
    exact ⟨12 - (k + 1), by omega, rfl, rfl, rfl, rfl, by rw [ey]; decide, k + 1, by omega, by rw [ex]; exact nI_1 k, rfl⟩
  · refine ⟨_, fun _ _ _ _ _ hB => hB, fun _ => ⟨by unfold vp_in; show ¬ ((0 : Int32) < 0 ∨ 40 ≤ (0 : Int32).toNatClampNeg); decide, ?_⟩, fun hc => absurd hc (by show ¬ (0 : Int32) = 40; decide)⟩
    exact (show (IM 19 (SM 0).toNatClampNeg).toInt64 = 12 by decide).trans (vCount_6 e)
