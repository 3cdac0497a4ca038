def W12 (x : Int32) : Prop := ¬ x < 0 ∧ ¬ (12 : Int32) ≤ x
def P1k (x : Int32) : Prop := ¬ x < 1 ∧ ¬ (1000 : Int32) < x
def Sm (x : Int32) : Prop := ¬ x < 1 ∧ ¬ (1000000 : Int32) < x
def Tl (x : Int32) : Prop := ¬ x < 0 ∧ ¬ (1000000 : Int32) < x
def Sh (h p : Int32) : Prop := (h = -1 ∧ p = 0) ∨ (¬ h = -1 ∧ W12 h ∧ P1k p)
theorem W12_cases {x : Int32} (h : W12 x) : ∃ j : Nat, j < 12 ∧ x = nI j := by
  obtain ⟨j, hj, e⟩ := nI_of h.1
  refine ⟨j, ?_, e⟩
  rcases Nat.lt_or_ge j 12 with q | q
  · exact q
  · exact absurd (by rw [e]; exact (nI_leI (a := 12) (by omega) hj).mpr q) h.2
theorem W12_in {x : Int32} (h : W12 x) : vp_in x 12 := by
  obtain ⟨j, hj, rfl⟩ := W12_cases h
  exact vp_in_nI hj (by omega)
theorem up_same {α : Type} (f : Nat → α) (k : Nat) : va_up f k (f k) = f := by
  funext j
  unfold va_up
  by_cases h : j = k
  · rw [if_pos h, h]
  · rw [if_neg h]
theorem s_X7_isHand {I : TI} {J : TJ} {S : TS} {L : TL} {p0 : Int32} {Φ : Int32 → TI → TJ → TS → TL → Prop} (h1 : W12 p0 → Φ 1 I J S L) (h2 : ¬ W12 p0 → Φ 0 I J S L) : wp_X7_isHand I J S L p0 Φ := by
  unfold wp_X7_isHand
  repeat' (first
    | (intro hc; exact absurd hc (by decide))
    | (refine ⟨_, fun _ _ _ _ hB => hB, ?_⟩)
    | (refine ⟨_, fun _ _ _ _ _ hB => hB, ?_⟩)
    | (refine ⟨_, fun _ _ _ _ _ _ hB => hB, ?_⟩)
    | (refine ⟨_, fun _ _ _ _ _ _ _ hB => hB, ?_⟩)
    | (refine ⟨_, fun _ _ _ _ _ _ _ _ hB => hB, ?_⟩)
    | (refine ⟨_, fun _ _ _ _ _ _ _ _ _ hB => hB, ?_⟩)
    | (refine ⟨_, fun _ _ _ _ _ _ _ _ _ _ hB => hB, ?_⟩)
    | (refine ⟨_, fun _ _ _ _ _ _ _ _ _ _ _ hB => hB, ?_⟩)
    | (refine ⟨_, fun _ _ _ _ _ _ _ _ _ _ _ _ hB => hB, ?_⟩)
    | (refine ⟨_, fun _ _ _ _ _ _ _ _ _ _ _ _ _ hB => hB, ?_⟩)
    | (refine ⟨_, fun _ _ _ _ _ _ _ _ _ _ _ _ _ _ hB => hB, ?_⟩)
    | (refine ⟨_, fun _ _ _ _ _ _ _ _ _ _ _ _ _ _ _ hB => hB, ?_⟩)
    | (refine ⟨?_, ?_⟩)
    | (intro x hx; subst hx)
    | (intro hc)
    | (dsimp only))
  all_goals first
    | exact Or.inl rfl
    | exact Or.inr rfl
    | exact h1 ⟨‹_›, ‹_›⟩
    | exact h2 (fun hq => hq.1 ‹_›)
    | exact h2 (fun hq => hq.2 ‹_›)
theorem s_X7_isWork {I : TI} {J : TJ} {S : TS} {L : TL} {p0 : Int32} {Φ : Int32 → TI → TJ → TS → TL → Prop} (h1 : W12 p0 → Φ 1 I J S L) (h2 : ¬ W12 p0 → Φ 0 I J S L) : wp_X7_isWork I J S L p0 Φ := by
  unfold wp_X7_isWork
  repeat' (first
    | (intro hc; exact absurd hc (by decide))
    | (refine ⟨_, fun _ _ _ _ hB => hB, ?_⟩)
    | (refine ⟨_, fun _ _ _ _ _ hB => hB, ?_⟩)
    | (refine ⟨_, fun _ _ _ _ _ _ hB => hB, ?_⟩)
    | (refine ⟨_, fun _ _ _ _ _ _ _ hB => hB, ?_⟩)
    | (refine ⟨_, fun _ _ _ _ _ _ _ _ hB => hB, ?_⟩)
    | (refine ⟨_, fun _ _ _ _ _ _ _ _ _ hB => hB, ?_⟩)
    | (refine ⟨_, fun _ _ _ _ _ _ _ _ _ _ hB => hB, ?_⟩)
    | (refine ⟨_, fun _ _ _ _ _ _ _ _ _ _ _ hB => hB, ?_⟩)
    | (refine ⟨_, fun _ _ _ _ _ _ _ _ _ _ _ _ hB => hB, ?_⟩)
    | (refine ⟨_, fun _ _ _ _ _ _ _ _ _ _ _ _ _ hB => hB, ?_⟩)
    | (refine ⟨_, fun _ _ _ _ _ _ _ _ _ _ _ _ _ _ hB => hB, ?_⟩)
    | (refine ⟨_, fun _ _ _ _ _ _ _ _ _ _ _ _ _ _ _ hB => hB, ?_⟩)
    | (refine ⟨?_, ?_⟩)
    | (intro x hx; subst hx)
    | (intro hc)
    | (dsimp only))
  all_goals first
    | exact Or.inl rfl
    | exact Or.inr rfl
    | exact h1 ⟨‹_›, ‹_›⟩
    | exact h2 (fun hq => hq.1 ‹_›)
    | exact h2 (fun hq => hq.2 ‹_›)
theorem s_X8_isHand {I : TI} {J : TJ} {S : TS} {L : TL} {p0 : Int32} {Φ : Int32 → TI → TJ → TS → TL → Prop} (h1 : W12 p0 → Φ 1 I J S L) (h2 : ¬ W12 p0 → Φ 0 I J S L) : wp_X8_isHand I J S L p0 Φ := by
  unfold wp_X8_isHand
  repeat' (first
    | (intro hc; exact absurd hc (by decide))
    | (refine ⟨_, fun _ _ _ _ hB => hB, ?_⟩)
    | (refine ⟨_, fun _ _ _ _ _ hB => hB, ?_⟩)
    | (refine ⟨_, fun _ _ _ _ _ _ hB => hB, ?_⟩)
    | (refine ⟨_, fun _ _ _ _ _ _ _ hB => hB, ?_⟩)
    | (refine ⟨_, fun _ _ _ _ _ _ _ _ hB => hB, ?_⟩)
    | (refine ⟨_, fun _ _ _ _ _ _ _ _ _ hB => hB, ?_⟩)
    | (refine ⟨_, fun _ _ _ _ _ _ _ _ _ _ hB => hB, ?_⟩)
    | (refine ⟨_, fun _ _ _ _ _ _ _ _ _ _ _ hB => hB, ?_⟩)
    | (refine ⟨_, fun _ _ _ _ _ _ _ _ _ _ _ _ hB => hB, ?_⟩)
    | (refine ⟨_, fun _ _ _ _ _ _ _ _ _ _ _ _ _ hB => hB, ?_⟩)
    | (refine ⟨_, fun _ _ _ _ _ _ _ _ _ _ _ _ _ _ hB => hB, ?_⟩)
    | (refine ⟨_, fun _ _ _ _ _ _ _ _ _ _ _ _ _ _ _ hB => hB, ?_⟩)
    | (refine ⟨?_, ?_⟩)
    | (intro x hx; subst hx)
    | (intro hc)
    | (dsimp only))
  all_goals first
    | exact Or.inl rfl
    | exact Or.inr rfl
    | exact h1 ⟨‹_›, ‹_›⟩
    | exact h2 (fun hq => hq.1 ‹_›)
    | exact h2 (fun hq => hq.2 ‹_›)
theorem s_X8_isWork {I : TI} {J : TJ} {S : TS} {L : TL} {p0 : Int32} {Φ : Int32 → TI → TJ → TS → TL → Prop} (h1 : W12 p0 → Φ 1 I J S L) (h2 : ¬ W12 p0 → Φ 0 I J S L) : wp_X8_isWork I J S L p0 Φ := by
  unfold wp_X8_isWork
  repeat' (first
    | (intro hc; exact absurd hc (by decide))
    | (refine ⟨_, fun _ _ _ _ hB => hB, ?_⟩)
    | (refine ⟨_, fun _ _ _ _ _ hB => hB, ?_⟩)
    | (refine ⟨_, fun _ _ _ _ _ _ hB => hB, ?_⟩)
    | (refine ⟨_, fun _ _ _ _ _ _ _ hB => hB, ?_⟩)
    | (refine ⟨_, fun _ _ _ _ _ _ _ _ hB => hB, ?_⟩)
    | (refine ⟨_, fun _ _ _ _ _ _ _ _ _ hB => hB, ?_⟩)
    | (refine ⟨_, fun _ _ _ _ _ _ _ _ _ _ hB => hB, ?_⟩)
    | (refine ⟨_, fun _ _ _ _ _ _ _ _ _ _ _ hB => hB, ?_⟩)
    | (refine ⟨_, fun _ _ _ _ _ _ _ _ _ _ _ _ hB => hB, ?_⟩)
    | (refine ⟨_, fun _ _ _ _ _ _ _ _ _ _ _ _ _ hB => hB, ?_⟩)
    | (refine ⟨_, fun _ _ _ _ _ _ _ _ _ _ _ _ _ _ hB => hB, ?_⟩)
    | (refine ⟨_, fun _ _ _ _ _ _ _ _ _ _ _ _ _ _ _ hB => hB, ?_⟩)
    | (refine ⟨?_, ?_⟩)
    | (intro x hx; subst hx)
    | (intro hc)
    | (dsimp only))
  all_goals first
    | exact Or.inl rfl
    | exact Or.inr rfl
    | exact h1 ⟨‹_›, ‹_›⟩
    | exact h2 (fun hq => hq.1 ‹_›)
    | exact h2 (fun hq => hq.2 ‹_›)
theorem s_X7_isPart {I : TI} {J : TJ} {S : TS} {L : TL} {p0 : Int32} {Φ : Int32 → TI → TJ → TS → TL → Prop} (h1 : P1k p0 → Φ 1 I J S L) (h2 : ¬ P1k p0 → Φ 0 I J S L) : wp_X7_isPart I J S L p0 Φ := by
  unfold wp_X7_isPart
  repeat' (first
    | (intro hc; exact absurd hc (by decide))
    | (refine ⟨_, fun _ _ _ _ hB => hB, ?_⟩)
    | (refine ⟨_, fun _ _ _ _ _ hB => hB, ?_⟩)
    | (refine ⟨_, fun _ _ _ _ _ _ hB => hB, ?_⟩)
    | (refine ⟨_, fun _ _ _ _ _ _ _ hB => hB, ?_⟩)
    | (refine ⟨_, fun _ _ _ _ _ _ _ _ hB => hB, ?_⟩)
    | (refine ⟨_, fun _ _ _ _ _ _ _ _ _ hB => hB, ?_⟩)
    | (refine ⟨_, fun _ _ _ _ _ _ _ _ _ _ hB => hB, ?_⟩)
    | (refine ⟨_, fun _ _ _ _ _ _ _ _ _ _ _ hB => hB, ?_⟩)
    | (refine ⟨_, fun _ _ _ _ _ _ _ _ _ _ _ _ hB => hB, ?_⟩)
    | (refine ⟨_, fun _ _ _ _ _ _ _ _ _ _ _ _ _ hB => hB, ?_⟩)
    | (refine ⟨_, fun _ _ _ _ _ _ _ _ _ _ _ _ _ _ hB => hB, ?_⟩)
    | (refine ⟨_, fun _ _ _ _ _ _ _ _ _ _ _ _ _ _ _ hB => hB, ?_⟩)
    | (refine ⟨?_, ?_⟩)
    | (intro x hx; subst hx)
    | (intro hc)
    | (dsimp only))
  all_goals first
    | exact Or.inl rfl
    | exact Or.inr rfl
    | exact h1 ⟨‹_›, ‹_›⟩
    | exact h2 (fun hq => hq.1 ‹_›)
    | exact h2 (fun hq => hq.2 ‹_›)
theorem s_X8_isThousandth {I : TI} {J : TJ} {S : TS} {L : TL} {p0 : Int32} {Φ : Int32 → TI → TJ → TS → TL → Prop} (h1 : P1k p0 → Φ 1 I J S L) (h2 : ¬ P1k p0 → Φ 0 I J S L) : wp_X8_isThousandth I J S L p0 Φ := by
  unfold wp_X8_isThousandth
  repeat' (first
    | (intro hc; exact absurd hc (by decide))
    | (refine ⟨_, fun _ _ _ _ hB => hB, ?_⟩)
    | (refine ⟨_, fun _ _ _ _ _ hB => hB, ?_⟩)
    | (refine ⟨_, fun _ _ _ _ _ _ hB => hB, ?_⟩)
    | (refine ⟨_, fun _ _ _ _ _ _ _ hB => hB, ?_⟩)
    | (refine ⟨_, fun _ _ _ _ _ _ _ _ hB => hB, ?_⟩)
    | (refine ⟨_, fun _ _ _ _ _ _ _ _ _ hB => hB, ?_⟩)
    | (refine ⟨_, fun _ _ _ _ _ _ _ _ _ _ hB => hB, ?_⟩)
    | (refine ⟨_, fun _ _ _ _ _ _ _ _ _ _ _ hB => hB, ?_⟩)
    | (refine ⟨_, fun _ _ _ _ _ _ _ _ _ _ _ _ hB => hB, ?_⟩)
    | (refine ⟨_, fun _ _ _ _ _ _ _ _ _ _ _ _ _ hB => hB, ?_⟩)
    | (refine ⟨_, fun _ _ _ _ _ _ _ _ _ _ _ _ _ _ hB => hB, ?_⟩)
    | (refine ⟨_, fun _ _ _ _ _ _ _ _ _ _ _ _ _ _ _ hB => hB, ?_⟩)
    | (refine ⟨?_, ?_⟩)
    | (intro x hx; subst hx)
    | (intro hc)
    | (dsimp only))
  all_goals first
    | exact Or.inl rfl
    | exact Or.inr rfl
    | exact h1 ⟨‹_›, ‹_›⟩
    | exact h2 (fun hq => hq.1 ‹_›)
    | exact h2 (fun hq => hq.2 ‹_›)
theorem s_X7_isSum {I : TI} {J : TJ} {S : TS} {L : TL} {p0 : Int32} {Φ : Int32 → TI → TJ → TS → TL → Prop} (h1 : Sm p0 → Φ 1 I J S L) (h2 : ¬ Sm p0 → Φ 0 I J S L) : wp_X7_isSum I J S L p0 Φ := by
  unfold wp_X7_isSum
  repeat' (first
    | (intro hc; exact absurd hc (by decide))
    | (refine ⟨_, fun _ _ _ _ hB => hB, ?_⟩)
    | (refine ⟨_, fun _ _ _ _ _ hB => hB, ?_⟩)
    | (refine ⟨_, fun _ _ _ _ _ _ hB => hB, ?_⟩)
    | (refine ⟨_, fun _ _ _ _ _ _ _ hB => hB, ?_⟩)
    | (refine ⟨_, fun _ _ _ _ _ _ _ _ hB => hB, ?_⟩)
    | (refine ⟨_, fun _ _ _ _ _ _ _ _ _ hB => hB, ?_⟩)
    | (refine ⟨_, fun _ _ _ _ _ _ _ _ _ _ hB => hB, ?_⟩)
    | (refine ⟨_, fun _ _ _ _ _ _ _ _ _ _ _ hB => hB, ?_⟩)
    | (refine ⟨_, fun _ _ _ _ _ _ _ _ _ _ _ _ hB => hB, ?_⟩)
    | (refine ⟨_, fun _ _ _ _ _ _ _ _ _ _ _ _ _ hB => hB, ?_⟩)
    | (refine ⟨_, fun _ _ _ _ _ _ _ _ _ _ _ _ _ _ hB => hB, ?_⟩)
    | (refine ⟨_, fun _ _ _ _ _ _ _ _ _ _ _ _ _ _ _ hB => hB, ?_⟩)
    | (refine ⟨?_, ?_⟩)
    | (intro x hx; subst hx)
    | (intro hc)
    | (dsimp only))
  all_goals first
    | exact Or.inl rfl
    | exact Or.inr rfl
    | exact h1 ⟨‹_›, ‹_›⟩
    | exact h2 (fun hq => hq.1 ‹_›)
    | exact h2 (fun hq => hq.2 ‹_›)
theorem s_X8_isSum {I : TI} {J : TJ} {S : TS} {L : TL} {p0 : Int32} {Φ : Int32 → TI → TJ → TS → TL → Prop} (h1 : Sm p0 → Φ 1 I J S L) (h2 : ¬ Sm p0 → Φ 0 I J S L) : wp_X8_isSum I J S L p0 Φ := by
  unfold wp_X8_isSum
  repeat' (first
    | (intro hc; exact absurd hc (by decide))
    | (refine ⟨_, fun _ _ _ _ hB => hB, ?_⟩)
    | (refine ⟨_, fun _ _ _ _ _ hB => hB, ?_⟩)
    | (refine ⟨_, fun _ _ _ _ _ _ hB => hB, ?_⟩)
    | (refine ⟨_, fun _ _ _ _ _ _ _ hB => hB, ?_⟩)
    | (refine ⟨_, fun _ _ _ _ _ _ _ _ hB => hB, ?_⟩)
    | (refine ⟨_, fun _ _ _ _ _ _ _ _ _ hB => hB, ?_⟩)
    | (refine ⟨_, fun _ _ _ _ _ _ _ _ _ _ hB => hB, ?_⟩)
    | (refine ⟨_, fun _ _ _ _ _ _ _ _ _ _ _ hB => hB, ?_⟩)
    | (refine ⟨_, fun _ _ _ _ _ _ _ _ _ _ _ _ hB => hB, ?_⟩)
    | (refine ⟨_, fun _ _ _ _ _ _ _ _ _ _ _ _ _ hB => hB, ?_⟩)
    | (refine ⟨_, fun _ _ _ _ _ _ _ _ _ _ _ _ _ _ hB => hB, ?_⟩)
    | (refine ⟨_, fun _ _ _ _ _ _ _ _ _ _ _ _ _ _ _ hB => hB, ?_⟩)
    | (refine ⟨?_, ?_⟩)
    | (intro x hx; subst hx)
    | (intro hc)
    | (dsimp only))
  all_goals first
    | exact Or.inl rfl
    | exact Or.inr rfl
    | exact h1 ⟨‹_›, ‹_›⟩
    | exact h2 (fun hq => hq.1 ‹_›)
    | exact h2 (fun hq => hq.2 ‹_›)
theorem s_X7_isTold {I : TI} {J : TJ} {S : TS} {L : TL} {p0 : Int32} {Φ : Int32 → TI → TJ → TS → TL → Prop} (h1 : Tl p0 → Φ 1 I J S L) (h2 : ¬ Tl p0 → Φ 0 I J S L) : wp_X7_isTold I J S L p0 Φ := by
  unfold wp_X7_isTold
  repeat' (first
    | (intro hc; exact absurd hc (by decide))
    | (refine ⟨_, fun _ _ _ _ hB => hB, ?_⟩)
    | (refine ⟨_, fun _ _ _ _ _ hB => hB, ?_⟩)
    | (refine ⟨_, fun _ _ _ _ _ _ hB => hB, ?_⟩)
    | (refine ⟨_, fun _ _ _ _ _ _ _ hB => hB, ?_⟩)
    | (refine ⟨_, fun _ _ _ _ _ _ _ _ hB => hB, ?_⟩)
    | (refine ⟨_, fun _ _ _ _ _ _ _ _ _ hB => hB, ?_⟩)
    | (refine ⟨_, fun _ _ _ _ _ _ _ _ _ _ hB => hB, ?_⟩)
    | (refine ⟨_, fun _ _ _ _ _ _ _ _ _ _ _ hB => hB, ?_⟩)
    | (refine ⟨_, fun _ _ _ _ _ _ _ _ _ _ _ _ hB => hB, ?_⟩)
    | (refine ⟨_, fun _ _ _ _ _ _ _ _ _ _ _ _ _ hB => hB, ?_⟩)
    | (refine ⟨_, fun _ _ _ _ _ _ _ _ _ _ _ _ _ _ hB => hB, ?_⟩)
    | (refine ⟨_, fun _ _ _ _ _ _ _ _ _ _ _ _ _ _ _ hB => hB, ?_⟩)
    | (refine ⟨?_, ?_⟩)
    | (intro x hx; subst hx)
    | (intro hc)
    | (dsimp only))
  all_goals first
    | exact Or.inl rfl
    | exact Or.inr rfl
    | exact h1 ⟨‹_›, ‹_›⟩
    | exact h2 (fun hq => hq.1 ‹_›)
    | exact h2 (fun hq => hq.2 ‹_›)
theorem s_X8_areCoins {I : TI} {J : TJ} {S : TS} {L : TL} {p0 : Int32} {Φ : Int32 → TI → TJ → TS → TL → Prop} (h1 : Tl p0 → Φ 1 I J S L) (h2 : ¬ Tl p0 → Φ 0 I J S L) : wp_X8_areCoins I J S L p0 Φ := by
  unfold wp_X8_areCoins
  repeat' (first
    | (intro hc; exact absurd hc (by decide))
    | (refine ⟨_, fun _ _ _ _ hB => hB, ?_⟩)
    | (refine ⟨_, fun _ _ _ _ _ hB => hB, ?_⟩)
    | (refine ⟨_, fun _ _ _ _ _ _ hB => hB, ?_⟩)
    | (refine ⟨_, fun _ _ _ _ _ _ _ hB => hB, ?_⟩)
    | (refine ⟨_, fun _ _ _ _ _ _ _ _ hB => hB, ?_⟩)
    | (refine ⟨_, fun _ _ _ _ _ _ _ _ _ hB => hB, ?_⟩)
    | (refine ⟨_, fun _ _ _ _ _ _ _ _ _ _ hB => hB, ?_⟩)
    | (refine ⟨_, fun _ _ _ _ _ _ _ _ _ _ _ hB => hB, ?_⟩)
    | (refine ⟨_, fun _ _ _ _ _ _ _ _ _ _ _ _ hB => hB, ?_⟩)
    | (refine ⟨_, fun _ _ _ _ _ _ _ _ _ _ _ _ _ hB => hB, ?_⟩)
    | (refine ⟨_, fun _ _ _ _ _ _ _ _ _ _ _ _ _ _ hB => hB, ?_⟩)
    | (refine ⟨_, fun _ _ _ _ _ _ _ _ _ _ _ _ _ _ _ hB => hB, ?_⟩)
    | (refine ⟨?_, ?_⟩)
    | (intro x hx; subst hx)
    | (intro hc)
    | (dsimp only))
  all_goals first
    | exact Or.inl rfl
    | exact Or.inr rfl
    | exact h1 ⟨‹_›, ‹_›⟩
    | exact h2 (fun hq => hq.1 ‹_›)
    | exact h2 (fun hq => hq.2 ‹_›)
theorem s_X7_isSharer {I : TI} {J : TJ} {S : TS} {L : TL} {p0 p1 : Int32} {Φ : Int32 → TI → TJ → TS → TL → Prop} (h1 : Sh p0 p1 → Φ 1 I J S L) (h2 : ¬ Sh p0 p1 → Φ 0 I J S L) : wp_X7_isSharer I J S L p0 p1 Φ := by
  unfold wp_X7_isSharer
  repeat' (first
    | (intro hc; exact absurd hc (by decide))
    | (refine s_X7_isHand ?_ ?_)
    | (refine s_X7_isPart ?_ ?_)
    | (refine ⟨_, fun _ _ _ _ hB => hB, ?_⟩)
    | (refine ⟨_, fun _ _ _ _ _ hB => hB, ?_⟩)
    | (refine ⟨_, fun _ _ _ _ _ _ hB => hB, ?_⟩)
    | (refine ⟨_, fun _ _ _ _ _ _ _ hB => hB, ?_⟩)
    | (refine ⟨_, fun _ _ _ _ _ _ _ _ hB => hB, ?_⟩)
    | (refine ⟨_, fun _ _ _ _ _ _ _ _ _ hB => hB, ?_⟩)
    | (refine ⟨_, fun _ _ _ _ _ _ _ _ _ _ hB => hB, ?_⟩)
    | (refine ⟨_, fun _ _ _ _ _ _ _ _ _ _ _ hB => hB, ?_⟩)
    | (refine ⟨_, fun _ _ _ _ _ _ _ _ _ _ _ _ hB => hB, ?_⟩)
    | (refine ⟨_, fun _ _ _ _ _ _ _ _ _ _ _ _ _ hB => hB, ?_⟩)
    | (refine ⟨_, fun _ _ _ _ _ _ _ _ _ _ _ _ _ _ hB => hB, ?_⟩)
    | (refine ⟨_, fun _ _ _ _ _ _ _ _ _ _ _ _ _ _ _ hB => hB, ?_⟩)
    | (refine ⟨?_, ?_⟩)
    | (intro x hx; subst hx)
    | (intro hc)
    | (dsimp only))
  all_goals first
    | exact Or.inl rfl
    | exact Or.inr rfl
    | exact h1 (Or.inl ⟨‹_›, ‹_›⟩)
    | exact h1 (Or.inr ⟨‹_›, ‹_›, ‹_›⟩)
    | exact h1 (Or.inr ⟨‹_›, ‹_›, ‹_›, ‹_›⟩)
    | exact h2 (by rintro (⟨ha, hb⟩ | ⟨ha, hb, hd⟩) <;> first | exact absurd ha ‹_› | exact absurd hb ‹_› | exact ha ‹_› | exact absurd hd ‹_› | exact hd.1 ‹_› | exact hd.2 ‹_›)
theorem s_X8_isPart {I : TI} {J : TJ} {S : TS} {L : TL} {p0 p1 : Int32} {Φ : Int32 → TI → TJ → TS → TL → Prop} (h1 : Sh p0 p1 → Φ 1 I J S L) (h2 : ¬ Sh p0 p1 → Φ 0 I J S L) : wp_X8_isPart I J S L p0 p1 Φ := by
  unfold wp_X8_isPart
  repeat' (first
    | (intro hc; exact absurd hc (by decide))
    | (refine s_X8_isHand ?_ ?_)
    | (refine ⟨_, fun _ _ _ _ hB => hB, ?_⟩)
    | (refine ⟨_, fun _ _ _ _ _ hB => hB, ?_⟩)
    | (refine ⟨_, fun _ _ _ _ _ _ hB => hB, ?_⟩)
    | (refine ⟨_, fun _ _ _ _ _ _ _ hB => hB, ?_⟩)
    | (refine ⟨_, fun _ _ _ _ _ _ _ _ hB => hB, ?_⟩)
    | (refine ⟨_, fun _ _ _ _ _ _ _ _ _ hB => hB, ?_⟩)
    | (refine ⟨_, fun _ _ _ _ _ _ _ _ _ _ hB => hB, ?_⟩)
    | (refine ⟨_, fun _ _ _ _ _ _ _ _ _ _ _ hB => hB, ?_⟩)
    | (refine ⟨_, fun _ _ _ _ _ _ _ _ _ _ _ _ hB => hB, ?_⟩)
    | (refine ⟨_, fun _ _ _ _ _ _ _ _ _ _ _ _ _ hB => hB, ?_⟩)
    | (refine ⟨_, fun _ _ _ _ _ _ _ _ _ _ _ _ _ _ hB => hB, ?_⟩)
    | (refine ⟨_, fun _ _ _ _ _ _ _ _ _ _ _ _ _ _ _ hB => hB, ?_⟩)
    | (refine ⟨?_, ?_⟩)
    | (intro x hx; subst hx)
    | (intro hc)
    | (dsimp only))
  all_goals first
    | exact Or.inl rfl
    | exact Or.inr rfl
    | exact h1 (Or.inl ⟨‹_›, ‹_›⟩)
    | exact h1 (Or.inr ⟨‹_›, ‹_›, ‹_›⟩)
    | exact h1 (Or.inr ⟨‹_›, ‹_›, ‹_›, ‹_›⟩)
    | exact h2 (by rintro (⟨ha, hb⟩ | ⟨ha, hb, hd⟩) <;> first | exact absurd ha ‹_› | exact absurd hb ‹_› | exact ha ‹_› | exact absurd hd ‹_› | exact hd.1 ‹_› | exact hd.2 ‹_›)
def Ps (k : Int32) : Prop := k = 0 ∨ k = 3
theorem s_X7_passesOn {I : TI} {J : TJ} {S : TS} {L : TL} {p0 : Int32} {Φ : Int32 → TI → TJ → TS → TL → Prop} (h1 : Ps p0 → Φ 1 I J S L) (h2 : ¬ Ps p0 → Φ 0 I J S L) : wp_X7_passesOn I J S L p0 Φ := by
  unfold wp_X7_passesOn
  repeat' (first
    | (intro hc; exact absurd hc (by decide))
    | (refine ⟨_, fun _ _ _ _ hB => hB, ?_⟩)
    | (refine ⟨_, fun _ _ _ _ _ hB => hB, ?_⟩)
    | (refine ⟨_, fun _ _ _ _ _ _ hB => hB, ?_⟩)
    | (refine ⟨_, fun _ _ _ _ _ _ _ hB => hB, ?_⟩)
    | (refine ⟨_, fun _ _ _ _ _ _ _ _ hB => hB, ?_⟩)
    | (refine ⟨_, fun _ _ _ _ _ _ _ _ _ hB => hB, ?_⟩)
    | (refine ⟨_, fun _ _ _ _ _ _ _ _ _ _ hB => hB, ?_⟩)
    | (refine ⟨_, fun _ _ _ _ _ _ _ _ _ _ _ hB => hB, ?_⟩)
    | (refine ⟨_, fun _ _ _ _ _ _ _ _ _ _ _ _ hB => hB, ?_⟩)
    | (refine ⟨_, fun _ _ _ _ _ _ _ _ _ _ _ _ _ hB => hB, ?_⟩)
    | (refine ⟨_, fun _ _ _ _ _ _ _ _ _ _ _ _ _ _ hB => hB, ?_⟩)
    | (refine ⟨_, fun _ _ _ _ _ _ _ _ _ _ _ _ _ _ _ hB => hB, ?_⟩)
    | (refine ⟨?_, ?_⟩)
    | (intro x hx; subst hx)
    | (intro hc)
    | (dsimp only))
  all_goals first
    | exact Or.inl rfl
    | exact Or.inr rfl
    | exact h1 (Or.inl ‹_›)
    | exact h1 (Or.inr ‹_›)
    | exact h2 (by rintro (ha | ha) <;> simp_all)
def Tf (k x y z : Int32) : Prop := (k = nI 0 ∧ P1k x) ∨ (k = nI 1 ∧ Sm x) ∨ (k = nI 2 ∧ Sm x) ∨ (k = nI 3 ∧ P1k x ∧ Sm y ∧ ¬ z < 0 ∧ ¬ (1000 : Int32) < z) ∨ (k = nI 4 ∧ P1k x ∧ ¬ y < 1 ∧ ¬ (8 : Int32) < y)
theorem kne : ∀ i, i < 5 → ∀ j, j < 5 → i ≠ j → nI i ≠ nI j := by decide
theorem s_X7_termsFit {I : TI} {J : TJ} {S : TS} {L : TL} {p0 p1 p2 p3 : Int32} {Φ : Int32 → TI → TJ → TS → TL → Prop} (h1 : Tf p0 p1 p2 p3 → Φ 1 I J S L) (h2 : ¬ Tf p0 p1 p2 p3 → Φ 0 I J S L) : wp_X7_termsFit I J S L p0 p1 p2 p3 Φ := by
  unfold wp_X7_termsFit
  repeat' (first
    | (intro hc; exact absurd hc (by decide))
    | (refine s_X7_isPart ?_ ?_)
    | (refine s_X7_isSum ?_ ?_)
    | (refine ⟨_, fun _ _ _ _ hB => hB, ?_⟩)
    | (refine ⟨_, fun _ _ _ _ _ hB => hB, ?_⟩)
    | (refine ⟨_, fun _ _ _ _ _ _ hB => hB, ?_⟩)
    | (refine ⟨_, fun _ _ _ _ _ _ _ hB => hB, ?_⟩)
    | (refine ⟨_, fun _ _ _ _ _ _ _ _ hB => hB, ?_⟩)
    | (refine ⟨_, fun _ _ _ _ _ _ _ _ _ hB => hB, ?_⟩)
    | (refine ⟨_, fun _ _ _ _ _ _ _ _ _ _ hB => hB, ?_⟩)
    | (refine ⟨_, fun _ _ _ _ _ _ _ _ _ _ _ hB => hB, ?_⟩)
    | (refine ⟨_, fun _ _ _ _ _ _ _ _ _ _ _ _ hB => hB, ?_⟩)
    | (refine ⟨_, fun _ _ _ _ _ _ _ _ _ _ _ _ _ hB => hB, ?_⟩)
    | (refine ⟨_, fun _ _ _ _ _ _ _ _ _ _ _ _ _ _ hB => hB, ?_⟩)
    | (refine ⟨_, fun _ _ _ _ _ _ _ _ _ _ _ _ _ _ _ hB => hB, ?_⟩)
    | (refine ⟨?_, ?_⟩)
    | (intro x hx; subst hx)
    | (intro hc)
    | (dsimp only))
  all_goals first
    | exact Or.inl rfl
    | exact Or.inr rfl
    | exact h1 (Or.inl ⟨‹_›, ‹_›⟩)
    | exact h1 (Or.inr (Or.inl ⟨‹_›, ‹_›⟩))
    | exact h1 (Or.inr (Or.inr (Or.inl ⟨‹_›, ‹_›⟩)))
    | exact h1 (Or.inr (Or.inr (Or.inr (Or.inl ⟨‹_›, ‹_›, ‹_›, ‹_›, ‹_›⟩))))
    | exact h1 (Or.inr (Or.inr (Or.inr (Or.inr ⟨‹_›, ‹_›, ‹_›, ‹_›⟩))))
    | exact h2 (by
        rintro (⟨ha, hb⟩ | ⟨ha, hb⟩ | ⟨ha, hb⟩ | ⟨ha, hb, hd, he, hf⟩ | ⟨ha, hb, hd, he⟩) <;> subst ha <;> first
          | exact absurd ‹nI _ = nI _› (by decide)
          | exact absurd hb ‹_›
          | exact absurd hd ‹_›
          | exact absurd ‹_› he
          | exact absurd ‹_› hf
          | exact absurd ‹_› hd
          | exact (show ∀ k : Nat, k < 5 → ¬ nI 0 = nI k by assumption) 0 (by decide) rfl
          | exact (show ∀ k : Nat, k < 5 → ¬ nI 1 = nI k by assumption) 1 (by decide) rfl
          | exact (show ∀ k : Nat, k < 5 → ¬ nI 2 = nI k by assumption) 2 (by decide) rfl
          | exact (show ∀ k : Nat, k < 5 → ¬ nI 3 = nI k by assumption) 3 (by decide) rfl
          | exact (show ∀ k : Nat, k < 5 → ¬ nI 4 = nI k by assumption) 4 (by decide) rfl
          | done)
def Bg (k h x y z t : Int32) : Prop := Tf k x y z ∧ (Ps k → W12 t ∧ ¬ t = h)
