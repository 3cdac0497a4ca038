theorem nI_nleN {N k : Nat} (hN : N < 2 ^ 31) (hk : k ≤ N) (h : ¬ nI N ≤ nI k) : k < N := by
  rcases Nat.lt_or_ge k N with q | q
  · exact q
  · exact absurd (nI_le q (by omega)) h
theorem upJ_same {J : TJ} {k i : Nat} {v : Int64} (h : v = J k i) : va_up J k (vp_updL (J k) i v) = J := by
  funext a b
  unfold va_up vp_updL
  by_cases ha : a = k
  · rw [if_pos ha, ha]
    by_cases hb : b = i
    · simp only [hb, if_pos, h]
    · rw [if_neg hb]
  · rw [if_neg ha]
theorem upI_same {I : TI} {k i : Nat} {v : Int32} (h : v = I k i) : va_up I k (upd (I k) i v) = I := by
  funext a b
  unfold va_up upd
  by_cases ha : a = k
  · rw [if_pos ha, ha]
    by_cases hb : b = i
    · simp only [hb, if_pos, h]
    · rw [if_neg hb]
  · rw [if_neg ha]
theorem upS_same {S : TS} {k : Nat} {v : Int32} (h : v = S k) : va_up S k v = S := by rw [h]; exact up_same S k
theorem upL_same {L : TL} {k : Nat} {v : Int64} (h : v = L k) : va_up L k v = L := by rw [h]; exact up_same L k
theorem cpy_same {f g : Nat → Int64} {a b n : Nat} (hf : ∀ i, f i = 0) (hg : ∀ i, g i = 0) : va_cpy f g a b n = g := by
  funext j
  by_cases h : b ≤ j ∧ j < b + n
  · rw [pk_cpy_in h.1 h.2, hf, hg]
  · rw [pk_cpy_out (by omega)]
theorem lg0 : lg_cmp (0 : Int64) (0 : Int64) = 0 := by decide
theorem ppO (k : Nat) : pO (pO k) = k := by unfold pO; (repeat' split) <;> omega
theorem ppS (k : Nat) : pS (pS k) = k := by unfold pS; (repeat' split) <;> omega
theorem ppL (k : Nat) : pL (pL k) = k := by unfold pL; (repeat' split) <;> omega
theorem fpO {α : Type} (f : Nat → α) : (fun k => (fun k => f (pO k)) (pO k)) = f := by funext k; exact congrArg f (ppO k)
theorem fpS {α : Type} (f : Nat → α) : (fun k => (fun k => f (pS k)) (pS k)) = f := by funext k; exact congrArg f (ppS k)
theorem fpL {α : Type} (f : Nat → α) : (fun k => (fun k => f (pL k)) (pL k)) = f := by funext k; exact congrArg f (ppL k)
section
variable {n0 n1 : Nat} {I : TI} {J : TJ} {S : TS} {L : TL}
theorem s_X7_isDayAhead {p0 : Int32} {Φ : Int32 → TI → TJ → TS → TL → Prop} (h1 : (¬ p0 < S 3 * 90 ∧ ¬ (3599 : Int32) < p0) → Φ 1 I J S L) (h2 : ¬ (¬ p0 < S 3 * 90 ∧ ¬ (3599 : Int32) < p0) → Φ 0 I J S L) : wp_X7_isDayAhead n0 n1 I J S L p0 Φ := by
  unfold wp_X7_isDayAhead
  repeat' (first
    | (intro hc; exact absurd hc (by decide))
    | (refine ⟨_, fun _ _ _ _ hB => hB, ?_⟩)
    | (refine ⟨_, fun _ _ _ _ _ hB => hB, ?_⟩)
    | (refine ⟨_, fun _ _ _ _ _ _ hB => hB, ?_⟩)
    | (refine ⟨_, fun _ _ _ _ _ _ _ hB => hB, ?_⟩)
    | (refine ⟨_, fun _ _ _ _ _ _ _ _ hB => hB, ?_⟩)
    | (refine ⟨_, fun _ _ _ _ _ _ _ _ _ hB => hB, ?_⟩)
    | (refine ⟨_, fun _ _ _ _ _ _ _ _ _ _ hB => hB, ?_⟩)
    | (refine ⟨_, fun _ _ _ _ _ _ _ _ _ _ _ hB => hB, ?_⟩)
    | (refine ⟨_, fun _ _ _ _ _ _ _ _ _ _ _ _ hB => hB, ?_⟩)
    | (refine ⟨_, fun _ _ _ _ _ _ _ _ _ _ _ _ _ hB => hB, ?_⟩)
    | (refine ⟨_, fun _ _ _ _ _ _ _ _ _ _ _ _ _ _ hB => hB, ?_⟩)
    | (refine ⟨_, fun _ _ _ _ _ _ _ _ _ _ _ _ _ _ _ hB => hB, ?_⟩)
    | (refine ⟨?_, ?_⟩)
    | (intro x hx; subst hx)
    | (intro hc)
    | (dsimp only))
  all_goals first
    | exact Or.inl rfl
    | exact Or.inr rfl
    | exact h1 ⟨‹_›, ‹_›⟩
    | exact h2 (fun hq => hq.1 ‹_›)
    | exact h2 (fun hq => hq.2 ‹_›)
theorem s_X8_isDay {p0 : Int32} {Φ : Int32 → TI → TJ → TS → TL → Prop} (h1 : (¬ p0 < 90 * S 0 ∧ ¬ (3599 : Int32) < p0) → Φ 1 I J S L) (h2 : ¬ (¬ p0 < 90 * S 0 ∧ ¬ (3599 : Int32) < p0) → Φ 0 I J S L) : wp_X8_isDay I J S L p0 Φ := by
  unfold wp_X8_isDay
  repeat' (first
    | (intro hc; exact absurd hc (by decide))
    | (refine ⟨_, fun _ _ _ _ hB => hB, ?_⟩)
    | (refine ⟨_, fun _ _ _ _ _ hB => hB, ?_⟩)
    | (refine ⟨_, fun _ _ _ _ _ _ hB => hB, ?_⟩)
    | (refine ⟨_, fun _ _ _ _ _ _ _ hB => hB, ?_⟩)
    | (refine ⟨_, fun _ _ _ _ _ _ _ _ hB => hB, ?_⟩)
    | (refine ⟨_, fun _ _ _ _ _ _ _ _ _ hB => hB, ?_⟩)
    | (refine ⟨_, fun _ _ _ _ _ _ _ _ _ _ hB => hB, ?_⟩)
    | (refine ⟨_, fun _ _ _ _ _ _ _ _ _ _ _ hB => hB, ?_⟩)
    | (refine ⟨_, fun _ _ _ _ _ _ _ _ _ _ _ _ hB => hB, ?_⟩)
    | (refine ⟨_, fun _ _ _ _ _ _ _ _ _ _ _ _ _ hB => hB, ?_⟩)
    | (refine ⟨_, fun _ _ _ _ _ _ _ _ _ _ _ _ _ _ hB => hB, ?_⟩)
    | (refine ⟨_, fun _ _ _ _ _ _ _ _ _ _ _ _ _ _ _ hB => hB, ?_⟩)
    | (refine ⟨?_, ?_⟩)
    | (intro x hx; subst hx)
    | (intro hc)
    | (dsimp only))
  all_goals first
    | exact Or.inl rfl
    | exact Or.inr rfl
    | exact h1 ⟨‹_›, ‹_›⟩
    | exact h2 (fun hq => hq.1 ‹_›)
    | exact h2 (fun hq => hq.2 ‹_›)
/-- an end of takeSentOf with nothing to take -/
theorem s_takeSentOf0 {p0 : Int32} {Φ : TI → TJ → TS → TL → Prop} (h : S 2 ≤ S 4) (hf : Φ I J S L) : wp_X2_takeSentOf n0 n1 I J S L p0 Φ := by
  unfold wp_X2_takeSentOf
  refine ⟨fun n I' J' S' L' => n = 0 ∧ I' = I ∧ J' = J ∧ S' = S ∧ L' = L, ⟨0, rfl, rfl, rfl, rfl, rfl⟩, ?_⟩
  rintro n I' J' S' L' ⟨rfl, rfl, rfl, rfl, rfl⟩
  exact ⟨_, fun _ _ _ _ hB => hB, fun _ => hf, fun hc => absurd h hc⟩
theorem s_reckonTo0 {p0 : Int32} {Φ : TI → TJ → TS → TL → Prop} (hp : p0 = 0) (h3 : S 3 = 0) (h : S 2 ≤ S 4) (hf : Φ I J S L) : wp_X2_reckonTo n0 n1 I J S L p0 Φ := by
  unfold wp_X2_reckonTo
  intro x1 e1 x2 e2
  have e1 : x1 = 0 := by rw [e1, hp]; decide
  rw [h3] at e2
  refine ⟨fun n I' J' S' L' a b => n = 0 ∧ I' = I ∧ J' = J ∧ S' = S ∧ L' = L ∧ a = 0 ∧ b = 0, ⟨0, rfl, rfl, rfl, rfl, rfl, e1, e2⟩, ?_⟩
  rintro n I' J' S' L' a b ⟨rfl, rfl, rfl, rfl, rfl, rfl, rfl⟩
  exact ⟨fun _ => s_takeSentOf0 h hf, fun hc => absurd (by decide) hc⟩
theorem s_reckonTo0_O {p0 : Int32} {Φ : TI → TJ → TS → TL → Prop} (hp : p0 = 0) (h3 : S 3 = 0) (h : S 2 ≤ S 4) (hf : Φ I J S L) : wp_X2_reckonTo_O n0 n1 I J S L p0 Φ := by
  unfold wp_X2_reckonTo_O
  refine s_reckonTo0 hp h3 h ?_
  try dsimp only
  rw [up_same]
  exact hf
theorem s_reckonTo0_Op {p0 : Int32} {Φ : TI → TJ → TS → TL → Prop} (hp : p0 = 0) (h3 : S 7 = 0) (h : S 2 ≤ S 8) (hf : Φ I J S L) : wp_X2_reckonTo_Op n0 n1 I J S L p0 Φ := by
  unfold wp_X2_reckonTo_Op wp_X2_reckonTo_p
  refine s_reckonTo0 hp h3 h ?_
  show Φ (fun k => (fun k => I (pO k)) (pO k)) (fun k => (fun k => J (pO k)) (pO k)) (va_up (fun k => (fun k => S (pS k)) (pS k)) 0 (S 0)) (fun k => (fun k => L (pL k)) (pL k))
  rw [fpO, fpO, fpS, fpL, up_same]
  exact hf
theorem s_duesOf0 {p0 p2 : Int32} {Φ : Int64 → TI → TJ → TS → TL → Prop} (hp : p2 = 0) (hf : Φ 0 I J S L) : wp_X2_duesOf n0 n1 I J S L p0 0 p2 Φ := by
  unfold wp_X2_duesOf
  refine ⟨fun n I' J' S' L' a b => n = 0 ∧ I' = I ∧ J' = J ∧ S' = S ∧ L' = L ∧ a = 0 ∧ b = 0, ⟨0, rfl, rfl, rfl, rfl, rfl, rfl, rfl⟩, ?_⟩
  rintro n I' J' S' L' a b ⟨rfl, rfl, rfl, rfl, rfl, rfl, rfl⟩
  exact ⟨fun _ => hf, fun hc => absurd (by rw [hp]; decide) hc⟩
theorem s_worth0 {p0 : Int32} {Φ : Int64 → TI → TJ → TS → TL → Prop} (hw : W12 p0) (h3 : S 3 = 0) (h1 : J 26 p0.toNatClampNeg = 0) (h2 : J 27 p0.toNatClampNeg = 0) (hf : Φ 0 I J S L) : wp_X2_worth n0 n1 I J S L p0 Φ := by
  unfold wp_X2_worth wp_X2_allDues
  refine s_duesOf0 h3 ?_
  try dsimp only
  refine ⟨W12_in hw, W12_in hw, ?_⟩
  rw [h1, h2]
  exact hf
theorem s_worth0_O {p0 : Int32} {Φ : Int64 → TI → TJ → TS → TL → Prop} (hw : W12 p0) (h3 : S 3 = 0) (h1 : J 26 p0.toNatClampNeg = 0) (h2 : J 27 p0.toNatClampNeg = 0) (hf : Φ 0 I J S L) : wp_X2_worth_O n0 n1 I J S L p0 Φ := by
  unfold wp_X2_worth_O
  refine s_worth0 hw h3 h1 h2 ?_
  try dsimp only
  rw [up_same]
  exact hf
theorem s_worth0_p {p0 : Int32} {Φ : Int64 → TI → TJ → TS → TL → Prop} (hw : W12 p0) (h3 : S 7 = 0) (h1 : J 40 p0.toNatClampNeg = 0) (h2 : J 41 p0.toNatClampNeg = 0) (hf : Φ 0 I J S L) : wp_X2_worth_p n0 n1 I J S L p0 Φ := by
  unfold wp_X2_worth_p
  refine s_worth0 hw h3 h1 h2 ?_
  show Φ 0 (fun k => (fun k => I (pO k)) (pO k)) (fun k => (fun k => J (pO k)) (pO k)) (fun k => (fun k => S (pS k)) (pS k)) (fun k => (fun k => L (pL k)) (pL k))
  rw [fpO, fpO, fpS, fpL]
  exact hf
theorem s_worth0_Op {p0 : Int32} {Φ : Int64 → TI → TJ → TS → TL → Prop} (hw : W12 p0) (h3 : S 7 = 0) (h1 : J 40 p0.toNatClampNeg = 0) (h2 : J 41 p0.toNatClampNeg = 0) (hf : Φ 0 I J S L) : wp_X2_worth_Op n0 n1 I J S L p0 Φ := by
  unfold wp_X2_worth_Op
  refine s_worth0_p hw h3 h1 h2 ?_
  try dsimp only
  rw [up_same]
  exact hf
end
theorem q_owedTo {p0 : Int32} (hw : W12 p0) {Φ : Int64 → TI → TJ → TS → TL → Prop} (hf : Φ 0 IO JO SO LO) : wp_X7_owedTo 600 0 IO JO SO LO p0 Φ := by
  unfold wp_X7_owedTo
  refine s_worth0_Op hw rfl rfl rfl ?_
  try dsimp only
  refine s_worth0_O hw rfl rfl rfl ?_
  try dsimp only
  exact hf
theorem W12_nI {k : Nat} (h : k < 12) : W12 (nI k) := ⟨nI_pos (by omega), nI_ge (b := 12) h (by decide)⟩
theorem q_payHands {Φ : TI → TJ → TS → TL → Prop} (hf : Φ IO JO SO LO) : wp_X2_payHands 600 0 IO JO SO LO Φ := by
  unfold wp_X2_payHands
  refine ⟨fun n I' J' S' L' x => I' = IO ∧ J' = JO ∧ S' = SO ∧ L' = LO ∧ ∃ k, k ≤ 12 ∧ x = nI k ∧ n = 12 - k, ⟨12, rfl, rfl, rfl, rfl, 0, by omega, rfl, rfl⟩, ?_⟩
  rintro n I' J' S' L' x ⟨rfl, rfl, rfl, rfl, k, hk, rfl, rfl⟩
  refine ⟨fun _ => hf, fun hc => ?_⟩
  have hk2 : k < 12 := nI_nleN (by omega) hk hc
  have hw := W12_nI hk2
  have hi : vp_in (nI k) 12 := W12_in hw
  refine ⟨hi, _, fun _ _ _ _ _ hB => hB, fun _ => ?_, fun h => absurd (by show lg_cmp (0 : Int64) 0 ≤ 0; decide) h⟩
  refine ⟨hi, fun y hy => ?_⟩
  have hy : y = 0 := by rw [hy]; show (if (0 : Int64) / 1000000 < 0 then (0 : Int64) else 0 / 1000000) = 0; decide
  subst hy
  refine ⟨hi, hi, fun J1 eJ => ?_⟩
  have eJ : J1 = JO := by rw [eJ]; exact upJ_same (by show (0 : Int64) - 0 * 1000000 = 0; decide)
  subst eJ
  have hi2 : vp_in (nI k * (40 : Int32) + SO 3) 480 := by
    have e : nI k * (40 : Int32) + SO 3 = nI (k * 40) := by
      show nI k * nI 40 + nI 0 = nI (k * 40)
      rw [pk_mul, nI_add, Nat.add_zero]
    rw [e]
    exact vp_in_nI (by omega) (by omega)
  refine ⟨hi2, fun I1 eI => ?_⟩
  have eI : I1 = IO := by rw [eI]; exact upI_same (by show (0 : Int64).toInt32 = 0; decide)
  subst eI
  intro x ex
  refine ⟨12 - (k + 1), by omega, rfl, rfl, rfl, rfl, k + 1, by omega, ?_, rfl⟩
  rw [ex]
  exact nI_1 k
theorem q_emptyOldBags {Φ : TI → TJ → TS → TL → Prop} (hf : Φ IO JO SO LO) : wp_X2_emptyOldBags 600 0 IO JO SO LO Φ := by
  unfold wp_X2_emptyOldBags
  refine ⟨fun n I' J' S' L' x => I' = IO ∧ J' = JO ∧ S' = SO ∧ L' = LO ∧ x = 0, ⟨0, rfl, rfl, rfl, rfl, rfl⟩, ?_⟩
  rintro n I' J' S' L' x ⟨rfl, rfl, rfl, rfl, rfl⟩
  exact ⟨fun _ => hf, fun hc => absurd (by show (0 : Int32) ≤ 0; decide) hc⟩
theorem q_closeTerm {Φ : TI → TJ → TS → TL → Prop} (hf : Φ IO JO (va_up SO 3 1) LO) : wp_X2_closeTerm 600 0 IO JO SO LO Φ := by
  unfold wp_X2_closeTerm
  intro S1 eS
  have eS : S1 = SO := by rw [eS]; exact upS_same rfl
  subst eS
  refine ⟨fun n I' J' S' L' x => I' = IO ∧ J' = JO ∧ S' = SO ∧ L' = LO ∧ x = 0, ⟨0, rfl, rfl, rfl, rfl, rfl⟩, ?_⟩
  rintro n I' J' S' L' x ⟨rfl, rfl, rfl, rfl, rfl⟩
  unfold wp_X4_sizeOf
  refine ⟨by unfold vp_in; show ¬ ((0 : Int32) < 0 ∨ 40 ≤ (0 : Int32).toNatClampNeg); decide, ?_⟩
  try dsimp only
  refine ⟨fun _ => ?_, fun hc => absurd (by show (0 : Int32) ≤ 0; decide) hc⟩
  refine q_emptyOldBags ?_
  refine q_payHands ?_
  refine ⟨_, fun _ _ _ _ hB => hB, fun _ => ?_, fun hc => absurd hc (by show ¬ ((0 : Int32) - 0 / 4 * 4) = 3; decide)⟩
  intro S2 eS2
  rw [eS2]
  exact hf
