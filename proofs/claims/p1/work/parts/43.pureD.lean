theorem q_isTheTerm {p0 : Int32} {Φ : Int32 → TI → TJ → TS → TL → Prop} (h1 : p0 = 0 → Φ 1 IO JO SO LO) (h2 : ¬ p0 = 0 → Φ 0 IO JO SO LO) : wp_X7_isTheTerm 600 0 IO JO SO LO p0 Φ := by
  unfold wp_X7_isTheTerm
  refine ⟨_, fun _ _ _ _ _ hB => hB, _, fun _ _ _ _ hB => hB, fun hc => ⟨Or.inl rfl, h2 hc⟩, fun (hc : p0 = 0) => ⟨fun h4 => absurd h4 (by rw [hc]; decide), fun _ => ⟨Or.inr rfl, h1 hc⟩⟩⟩
def TdOK (p0 p1 p2 : Int32) : Prop := p0 = 0 ∧ W12 p1 ∧ (p2 = nI 0 ∨ p2 = nI 1 ∨ p2 = nI 2 ∨ p2 = nI 3)
noncomputable def vTold (p0 p1 p2 : Int32) : Int32 := @ite _ (TdOK p0 p1 p2) (Classical.propDecidable _) 0 (-1)
theorem vTold_y {p0 p1 p2 : Int32} (h : TdOK p0 p1 p2) : (0 : Int32) = vTold p0 p1 p2 := by unfold vTold; rw [if_pos h]
theorem vTold_n {p0 p1 p2 : Int32} (h : ¬ TdOK p0 p1 p2) : (-1 : Int32) = vTold p0 p1 p2 := by unfold vTold; rw [if_neg h]
theorem sh0 : ∀ j, j < 12 → ¬ (((0 : Int32) >>> (nI j &&& 31)) &&& 1) = 1 := by decide
theorem ix0 {j k : Nat} : ((0 : Int32) * 12 + nI j) * 3 + nI k = nI (j * 3 + k) := by
  rw [show (0 : Int32) * 12 = nI 0 from rfl, nI_add, Nat.zero_add, show (3 : Int32) = nI 3 from rfl, pk_mul, nI_add]
theorem ix1 {j : Nat} : (0 : Int32) * 12 + nI j = nI j := by
  rw [show (0 : Int32) * 12 = nI 0 from rfl, nI_add, Nat.zero_add]
theorem q_X7_told (p0 p1 p2 : Int32) : wp_X7_told 600 0 IO JO SO LO p0 p1 p2 (fun r _ _ _ _ => r = vTold p0 p1 p2) := by
  unfold wp_X7_told
  refine q_isClosed ?_
  refine ⟨_, fun _ _ _ _ _ hB => hB, _, fun _ _ _ _ hB => hB, fun hc => absurd rfl hc, fun _ => ?_⟩
  refine q_isTheTerm (fun h0 => ⟨fun hc => absurd hc (by decide), fun _ => ?_⟩) (fun h0 => ⟨fun _ => ?_, fun hc => absurd rfl hc⟩)
  · refine ⟨_, fun _ _ _ _ hB => hB, fun hc => absurd hc (by decide), fun _ => ?_⟩
    refine s_X7_isWork (fun hw => ⟨fun _ => ?_, fun hc => absurd hc (by decide)⟩) (fun hw => ⟨fun hc => absurd rfl hc, fun _ => vTold_n (fun h => hw h.2.1)⟩)
    subst h0
    obtain ⟨j, hj, rfl⟩ := W12_cases hw
    refine ⟨fun e => ?_, fun e => ?_, fun e => ?_, fun e => ?_, fun e => ?_, fun e => vTold_n (fun h => by rcases h.2.2 with h | h | h | h <;> exact e _ (by decide) h)⟩
    · unfold wp_X4_coinsOf_O wp_X4_coinsOf
      rw [e, ix0]
      exact ⟨vp_in_nI (by omega) (by omega), vTold_y ⟨rfl, hw, Or.inl rfl⟩⟩
    · unfold wp_X4_coinsOf_O wp_X4_coinsOf
      rw [e, ix0]
      exact ⟨vp_in_nI (by omega) (by omega), vTold_y ⟨rfl, hw, Or.inr (Or.inl rfl)⟩⟩
    · unfold wp_X4_coinsOf_O wp_X4_coinsOf
      rw [e, ix0]
      exact ⟨vp_in_nI (by omega) (by omega), vTold_y ⟨rfl, hw, Or.inr (Or.inr (Or.inl rfl))⟩⟩
    · unfold wp_X4_wayOf_O wp_X4_wayOf
      rw [ix1]
      refine ⟨vp_in_nI (by omega) (by omega), ?_⟩
      unfold wp_X4_isOpen_O wp_X4_isOpen
      refine ⟨by unfold vp_in; decide, ?_⟩
      refine ⟨_, fun _ _ _ _ _ hB => hB, fun _ => ⟨Or.inl rfl, ?_⟩, fun hc => absurd hc (sh0 j hj)⟩
      refine ⟨_, fun _ _ _ _ _ _ hB => hB, fun _ => ?_, fun hc => absurd rfl hc⟩
      show (0 : Int32) + 0 = _
      exact (show (0 : Int32) + 0 = 0 from rfl).trans (vTold_y ⟨rfl, hw, Or.inr (Or.inr (Or.inr e))⟩)
    · unfold wp_X4_placeOf_O wp_X4_placeOf
      rw [ix1]
      intro x hx
      subst hx
      refine ⟨vp_in_nI (by omega) (by omega), ?_⟩
      refine ⟨_, fun _ _ _ _ _ hB => hB, fun hc => absurd rfl hc, fun _ => vTold_n (fun h => ?_)⟩
      rw [e] at h
      rcases h.2.2 with h | h | h | h <;> exact absurd h (by decide)
  · refine ⟨_, fun _ _ _ _ hB => hB, fun _ => vTold_n (fun h => h0 h.1), fun hc => absurd rfl hc⟩
noncomputable def vCount (p0 : Int32) : Int64 := @ite _ (∀ k, k < 8 → ¬ p0 = nI k) (Classical.propDecidable _) (-1) (if p0 = nI 6 then 12 else 0)
theorem vCount_n {p0 : Int32} (h : ∀ k, k < 8 → ¬ p0 = nI k) : (-1 : Int64) = vCount p0 := by unfold vCount; rw [if_pos h]
theorem vCount_0 {p0 : Int32} (k : Nat) (hk : k < 8) (h6 : k ≠ 6) (e : p0 = nI k) : (0 : Int64) = vCount p0 := by
  unfold vCount
  rw [if_neg (fun h => h k hk e), if_neg (by rw [e, nI_eq (by omega) (by omega)]; exact h6)]
theorem vCount_6 {p0 : Int32} (e : p0 = nI 6) : (12 : Int64) = vCount p0 := by
  unfold vCount
  rw [if_neg (fun h => h 6 (by omega) e), if_pos e]
theorem q_bitCount0 {Φ : Int32 → TI → TJ → TS → TL → Prop} (hf : Φ 0 IO JO SO LO) : wp_J6_bitCount_0f7a4 IO JO SO LO 0 Φ := by
  unfold wp_J6_bitCount_0f7a4
  repeat' (intro x hx; have hx := hx.trans (show _ = (0 : Int32) by decide); subst hx)
  exact hf
theorem q_X7_count (p0 : Int32) : wp_X7_count 600 0 IO JO SO LO p0 (fun r _ _ _ _ => r = vCount p0) := by
  unfold wp_X7_count
  refine ⟨fun e => vCount_0 0 (by omega) (by omega) e, fun e => vCount_0 1 (by omega) (by omega) e, fun e => vCount_0 2 (by omega) (by omega) e, fun e => vCount_0 3 (by omega) (by omega) e, fun e => ?_, fun e => vCount_0 5 (by omega) (by omega) e, fun e => ?_, fun e => vCount_0 7 (by omega) (by omega) e, fun e => vCount_n e⟩
  · unfold wp_X2_allFilled_O wp_X2_allFilled
    refine ⟨fun n I' J' S' L' y x => I' = IO ∧ J' = JO ∧ S' = SO ∧ L' = LO ∧ y = 0 ∧ ∃ k, k ≤ 12 ∧ x = nI k ∧ n = 12 - k, ⟨12, rfl, rfl, rfl, rfl, rfl, 0, by omega, rfl, rfl⟩, ?_⟩
    rintro n I' J' S' L' y x ⟨rfl, rfl, rfl, rfl, rfl, k, hk, rfl, rfl⟩
    refine ⟨fun _ => vCount_0 4 (by omega) (by omega) e, fun hc => ?_⟩
    have hk2 : k < 12 := nI_nleN (by omega) hk hc
    refine ⟨W12_in (W12_nI hk2), fun y ey x ex => ?_⟩
    exact ⟨12 - (k + 1), by omega, rfl, rfl, rfl, rfl, by rw [ey]; rfl, k + 1, by omega, by rw [ex]; exact nI_1 k, rfl⟩
  · refine ⟨_, fun _ _ _ _ _ hB => hB, fun hc => absurd hc (by show ¬ (40 : Int32) ≤ 0; decide), fun _ => ?_⟩
    unfold wp_X4_tornAt_O wp_X4_tornAt
    refine ⟨by unfold vp_in; show ¬ ((0 : Int32) < 0 ∨ 40 ≤ (0 : Int32).toNatClampNeg); decide, ?_⟩
    refine q_bitCount0 ?_
    show ((12 : Int32) - 0).toInt64 = vCount p0
    exact (show ((12 : Int32) - 0).toInt64 = 12 by decide).trans (vCount_6 e)
