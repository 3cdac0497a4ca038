def Dc (c : Nat) (x : Int32) : Prop := ¬ x < nI (c * 90) ∧ ¬ (3599 : Int32) < x
def Sx (p2 p3 p4 p5 p6 p7 : Int32) : Prop := W12 p2 ∧ P1k p3 ∧ Sh p4 p5 ∧ Sh p6 p7 ∧ ¬ (p4 = -1 ∧ ¬ p6 = -1) ∧ ¬ p2 = p4 ∧ ¬ p2 = p6 ∧ ¬ (¬ p4 = -1 ∧ p4 = p6) ∧ p3 + p5 + p7 = 1000
def Rm (f1 f2 : Nat → Int32) (j : Nat) (p1 : Int32) : Prop := ∃ k : Nat, f1 j = nI k ∧ k < 6 ∧ (k = 0 ∨ f2 (j * 6 + k - 1) < p1)
def OKx (c : Nat) (f1 f2 : Nat → Int32) (p0 p1 p2 p3 p4 p5 p6 p7 : Int32) : Prop := W12 p0 ∧ Dc c p1 ∧ Rm f1 f2 p0.toNatClampNeg p1 ∧ Sx p2 p3 p4 p5 p6 p7
def ShSpec (c : Nat) (f1 f2 : Nat → Int32) (p0 p1 p2 p3 p4 p5 p6 p7 r : Int32) (g1 g2 : Nat → Int32) : Prop := (OKx c f1 f2 p0 p1 p2 p3 p4 p5 p6 p7 ∧ r = f1 p0.toNatClampNeg + 1 ∧ g1 = upd f1 p0.toNatClampNeg (f1 p0.toNatClampNeg + 1) ∧ g2 = upd f2 (p0.toNatClampNeg * 6 + (f1 p0.toNatClampNeg).toNatClampNeg) p1) ∨ (¬ OKx c f1 f2 p0 p1 p2 p3 p4 p5 p6 p7 ∧ r = -1 ∧ g1 = f1 ∧ g2 = f2)
theorem ShSpec.one {c : Nat} {f1 f2 g1 g2 h1 h2 : Nat → Int32} {p0 p1 p2 p3 p4 p5 p6 p7 r r' : Int32} (a : ShSpec c f1 f2 p0 p1 p2 p3 p4 p5 p6 p7 r g1 g2) (b : ShSpec c f1 f2 p0 p1 p2 p3 p4 p5 p6 p7 r' h1 h2) : r = r' ∧ g1 = h1 ∧ g2 = h2 := by
  rcases a with ⟨a0, a1, a2, a3⟩ | ⟨a0, a1, a2, a3⟩ <;> rcases b with ⟨b0, b1, b2, b3⟩ | ⟨b0, b1, b2, b3⟩
  · exact ⟨a1.trans b1.symm, a2.trans b2.symm, a3.trans b3.symm⟩
  · exact absurd a0 b0
  · exact absurd b0 a0
  · exact ⟨a1.trans b1.symm, a2.trans b2.symm, a3.trans b3.symm⟩
section
variable {I : TI} {J : TJ} {S : TS} {L : TL} {c : Nat}
theorem t_dayAhead {p0 : Int32} {Φ : Int32 → TI → TJ → TS → TL → Prop} (h3 : S 3 = nI c) (h1 : Dc c p0 → Φ 1 I J S L) (h2 : ¬ Dc c p0 → Φ 0 I J S L) : wp_X7_isDayAhead 600 0 I J S L p0 Φ := by
  have e : S 3 * 90 = nI (c * 90) := by rw [h3, show (90 : Int32) = nI 90 from rfl, pk_mul]
  refine s_X7_isDayAhead ?_ ?_
  · rw [e]; exact h1
  · rw [e]; exact h2
theorem t_hasRoom_O {j : Nat} {p1 : Int32} {Φ : Int32 → TI → TJ → TS → TL → Prop} (hj : j < 12) (hk6 : ∃ k : Nat, k ≤ 6 ∧ I 1 j = nI k) (h1 : Rm (I 1) (I 2) j p1 → Φ 1 I J S L) (h2 : ¬ Rm (I 1) (I 2) j p1 → Φ 0 I J S L) : wp_X6_hasRoom_O 600 0 I J S L (nI j) p1 Φ := by
  obtain ⟨k, hk, ek⟩ := hk6
  have hi : vp_in (nI j) 12 := vp_in_nI hj (by omega)
  have u : ∀ {k' : Nat}, k' < 6 → I 1 j = nI k' → k' = k := fun h e => (nI_eq (by omega) (by omega)).mp (e.symm.trans ek)
  unfold wp_X6_hasRoom_O wp_X6_hasRoom
  rw [clN (by omega), ek]
  refine ⟨hi, fun x hx => ?_⟩
  subst hx
  have f1 : Rm (I 1) (I 2) j p1 → Φ 1 I J (va_up S 0 (S 0)) L := fun h => by rw [up_same]; exact h1 h
  have f2 : ¬ Rm (I 1) (I 2) j p1 → Φ 0 I J (va_up S 0 (S 0)) L := fun h => by rw [up_same]; exact h2 h
  refine ⟨fun hne => ?_, fun h0 => f1 ⟨k, ek, ?_, Or.inl ?_⟩⟩
  · have hk0 : k ≠ 0 := fun e => hne (by rw [e]; rfl)
    refine ⟨_, fun _ _ _ _ _ hB => hB, _, fun _ _ _ _ hB => hB, fun h6 => ⟨Or.inl rfl, f2 ?_⟩, fun h6 => ?_⟩
    · rintro ⟨k', e', hk', -⟩
      have := u hk' e'
      exact absurd h6 (nI_ge (b := 6) (by omega) (by omega))
    · have hk5 : k < 6 := by
        rcases Nat.lt_or_ge k 6 with g | g
        · exact g
        · exact absurd (nI_le (a := 6) g (by omega)) h6
      have ei : nI j * (6 : Int32) + nI k - 1 = nI (j * 6 + k - 1) := by
        rw [show (6 : Int32) = nI 6 from rfl, pk_mul, nI_add, show (1 : Int32) = nI 1 from rfl, pk_sub (by omega)]
      rw [ei, clN (by omega)]
      refine ⟨vp_in_nI (by omega) (by omega), fun hle => ⟨Or.inl rfl, f2 ?_⟩, fun hle => ⟨Or.inr rfl, f1 ⟨k, ek, hk5, Or.inr (Int32.not_le.mp hle)⟩⟩⟩
      rintro ⟨k', e', hk', hor⟩
      have := u hk' e'
      subst this
      rcases hor with g | g
      · exact hk0 g
      · exact absurd hle (Int32.not_le.mpr g)
  · have : k = 0 := (nI_eq (by omega) (by omega)).mp h0
    omega
  · exact (nI_eq (by omega) (by omega)).mp h0
/-- one more set: the sets stay in order -/
theorem Sts.set {I I' : TI} {j k : Nat} (h : Sts I) (hj : j < 12) (hk : k < 6) (e1 : I' 1 = upd (I 1) j (nI (k + 1))) (e34 : ∀ i, i < 216 → (I' 3 i = I 3 i ∧ I' 4 i = I 4 i) ∨ ((I' 3 i = -1 ∧ I' 4 i = 0) ∨ W12 (I' 3 i))) : Sts I' := by
  refine ⟨fun w hw => ?_, fun i hi => ?_⟩
  · rw [e1]
    unfold upd
    by_cases g : w = j
    · rw [if_pos g]; exact ⟨k + 1, by omega, rfl⟩
    · rw [if_neg g]; exact h.1 w hw
  · rcases e34 i hi with ⟨a, b⟩ | a
    · rw [a, b]; exact h.2 i hi
    · exact a
end
