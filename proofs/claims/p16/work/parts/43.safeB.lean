def Sts (I : TI) : Prop := (∀ w, w < 12 → ∃ kk : Nat, kk ≤ 6 ∧ I 1 w = nI kk) ∧ ∀ i, i < 216 → (I 3 i = -1 ∧ I 4 i = 0) ∨ W12 (I 3 i)
theorem Sts.same {I I' : TI} (h : Sts I) (e : ∀ j, j < 25 → I' j = I j) : Sts I' := by
  unfold Sts
  rw [e 1 (by omega), e 3 (by omega), e 4 (by omega)]
  exact h
section
variable {n0 n1 : Nat} {I : TI} {J : TJ} {S : TS} {L : TL}
theorem r_setAt {j kk : Nat} {p1 : Int32} {Φ : Int32 → TI → TJ → TS → TL → Prop} (hj : j < 12) (hs : I 1 j = nI kk) (hkk : kk ≤ 6) (hf : ∀ s, s < 72 → Φ (nI s) I J S L) : wp_X6_setAt n0 n1 I J S L (nI j) p1 Φ := by
  unfold wp_X6_setAt
  intro x ex
  rw [show (6 : Int32) = nI 6 from rfl, pk_mul] at ex
  subst ex
  refine ⟨fun n I' J' S' L' f x => I' = I ∧ J' = J ∧ S' = S ∧ L' = L ∧ (∃ s, s < 72 ∧ f = nI s) ∧ ∃ m, m ≤ 7 ∧ x = nI m ∧ n = 7 - m, ⟨6, rfl, rfl, rfl, rfl, ⟨j * 6, by omega, rfl⟩, 1, by omega, rfl, rfl⟩, ?_⟩
  rintro n I' J' S' L' f x ⟨rfl, rfl, rfl, rfl, ⟨s, hs1, rfl⟩, m, hm, rfl, rfl⟩
  refine ⟨vp_in_nI hj (by omega), fun _ => hf s hs1, fun hc => ?_⟩
  rw [clN (by omega), hs] at hc
  have hm2 : m < kk := by
    rcases Nat.lt_or_ge m kk with q | q
    · exact q
    · exact absurd (nI_le q (by omega)) hc
  rw [show (6 : Int32) = nI 6 from rfl, pk_mul, nI_add]
  refine ⟨vp_in_nI (by omega) (by omega), fun I2 J2 S2 L2 f x => I2 = I' ∧ J2 = J' ∧ S2 = S' ∧ L2 = L' ∧ (∃ s, s < 72 ∧ f = nI s) ∧ x = nI m, ?_, fun _ => ⟨rfl, rfl, rfl, rfl, ⟨s, hs1, rfl⟩, rfl⟩, fun _ => fun x ex => ⟨rfl, rfl, rfl, rfl, ⟨j * 6 + m, by omega, ex⟩, rfl⟩⟩
  rintro I2 J2 S2 L2 f x ⟨rfl, rfl, rfl, rfl, hs3, rfl⟩ x2 ex2
  exact ⟨7 - (m + 1), by omega, rfl, rfl, rfl, rfl, hs3, m + 1, by omega, by rw [ex2]; exact nI_1 m, rfl⟩
theorem r_duesOf {h f e : Nat} {Φ : Int64 → TI → TJ → TS → TL → Prop} (hh : h < 12) (hfe : f ≤ e) (he : e ≤ 40) (hf : ∀ r : Int64, Φ r I J S L) : wp_X2_duesOf n0 n1 I J S L (nI h) (nI f) (nI e) Φ := by
  unfold wp_X2_duesOf
  refine ⟨fun n I' J' S' L' y x => I' = I ∧ J' = J ∧ S' = S ∧ L' = L ∧ ∃ m, m ≤ e ∧ x = nI m ∧ n = e - m, ⟨e - f, rfl, rfl, rfl, rfl, f, hfe, rfl, rfl⟩, ?_⟩
  rintro n I' J' S' L' y x ⟨rfl, rfl, rfl, rfl, m, hm, rfl, rfl⟩
  refine ⟨fun _ => hf y, fun hc => ?_⟩
  have hm2 : m < e := nI_nleN (by omega) hm hc
  rw [show (40 : Int32) = nI 40 from rfl, pk_mul, nI_add]
  refine ⟨vp_in_nI (by omega) (by omega), fun y2 _ x2 ex2 => ?_⟩
  exact ⟨e - (m + 1), by omega, rfl, rfl, rfl, rfl, m + 1, by omega, by rw [ex2]; exact nI_1 m, rfl⟩
theorem r_emptyOldBags {b c : Nat} {Φ : TI → TJ → TS → TL → Prop} (hb : b ≤ 24) (h1 : S 1 = nI b) (hBg : Bgs b I) (h3 : S 3 = nI c) (hc : c < 40) (hf : ∀ J' : TJ, Φ I J' S L) : wp_X2_emptyOldBags n0 n1 I J S L Φ := by
  unfold wp_X2_emptyOldBags
  refine ⟨fun n I' J' S' L' x => I' = I ∧ S' = S ∧ L' = L ∧ ∃ m, m ≤ b ∧ x = nI m ∧ n = b - m, ⟨b, rfl, rfl, rfl, 0, by omega, rfl, rfl⟩, ?_⟩
  rintro n I' J' S' L' x ⟨rfl, rfl, rfl, m, hm, rfl, rfl⟩
  refine ⟨fun _ => hf J', fun hc1 => ?_⟩
  rw [h1] at hc1
  have hm2 : m < b := nI_nleN (by omega) hm hc1
  have hv : vp_in (nI m) 24 := vp_in_nI (by omega) (by omega)
  refine ⟨hv, fun I2 J2 S2 L2 x => I2 = I' ∧ S2 = S' ∧ L2 = L' ∧ x = nI m, ?_, fun _ => ⟨rfl, rfl, rfl, rfl⟩, fun hk => ⟨hv, fun _ => ⟨rfl, rfl, rfl, rfl⟩, fun hy => ⟨hv, ?_⟩⟩⟩
  · rintro I2 J2 S2 L2 x ⟨rfl, rfl, rfl, rfl⟩ x2 ex2
    exact ⟨b - (m + 1), by omega, rfl, rfl, rfl, m + 1, by omega, by rw [ex2]; exact nI_1 m, rfl⟩
  · rw [clN (by omega)] at hk hy ⊢
    obtain ⟨y, hy1, hy8, ey⟩ := (hBg m hm2).2.2 hk
    rw [ey, h3] at hy
    have hyc : y ≤ c := by
      rcases Nat.lt_or_ge c y with q | q
      · exact absurd (nI_lt q (by omega)) hy
      · exact q
    have e9 : nI m * (40 : Int32) + S' 3 - I' 11 m = nI (m * 40 + (c - y)) := by
      rw [h3, ey, show (40 : Int32) = nI 40 from rfl, pk_mul, nI_add, pk_sub (by omega), show m * 40 + c - y = m * 40 + (c - y) by omega]
    have h12 := W12_in (hBg m hm2).1
    intro x2 ex2
    rw [e9] at ex2
    subst ex2
    have h96 : vp_in (nI (m * 40 + (c - y))) 960 := vp_in_nI (by omega) (by omega)
    exact ⟨hv, h12, h96, h12, fun J3 _ => ⟨h96, fun J4 _ => ⟨rfl, rfl, rfl, rfl⟩⟩⟩
theorem r_payHands {c : Nat} {Φ : TI → TJ → TS → TL → Prop} (h3 : S 3 = nI c) (hc : c < 40) (hf : ∀ (I' : TI) (J' : TJ), (∀ j, j < 25 → I' j = I j) → Φ I' J' S L) : wp_X2_payHands n0 n1 I J S L Φ := by
  unfold wp_X2_payHands
  refine ⟨fun n I' J' S' L' x => (∀ j, j < 25 → I' j = I j) ∧ S' = S ∧ L' = L ∧ ∃ m, m ≤ 12 ∧ x = nI m ∧ n = 12 - m, ⟨12, fun _ _ => rfl, rfl, rfl, 0, by omega, rfl, rfl⟩, ?_⟩
  rintro n I' J' S' L' x ⟨hI, rfl, rfl, m, hm, rfl, rfl⟩
  refine ⟨fun _ => hf I' J' hI, fun hc1 => ?_⟩
  have hm2 : m < 12 := nI_nleN (by omega) hm hc1
  have hv : vp_in (nI m) 12 := vp_in_nI (by omega) (by omega)
  have key : ∀ (P : Prop), P → (P ∧ True) := fun P h => ⟨h, trivial⟩
  refine ⟨hv, fun I2 J2 S2 L2 x => (∀ j, j < 25 → I2 j = I j) ∧ S2 = S' ∧ L2 = L' ∧ x = nI m, ?_, fun _ => ⟨hI, rfl, rfl, rfl⟩, fun _ => ⟨hv, fun _ => ⟨hI, rfl, rfl, rfl⟩, fun _ => ⟨hv, hv, fun y _ => ⟨hv, hv, fun J3 _ => ⟨hv, hv, fun J4 _ => ⟨hI, rfl, rfl, rfl⟩⟩⟩⟩⟩⟩
  rintro I2 J2 S2 L2 x ⟨hI2, rfl, rfl, rfl⟩
  refine ⟨hv, fun y _ => ⟨hv, hv, fun J3 _ => ?_⟩⟩
  have e9 : nI m * (40 : Int32) + S2 3 = nI (m * 40 + c) := by
    rw [h3, show (40 : Int32) = nI 40 from rfl, pk_mul, nI_add]
  rw [e9]
  refine ⟨vp_in_nI (by omega) (by omega), fun I3 e3 x2 ex2 => ?_⟩
  exact ⟨12 - (m + 1), by omega, fun j hj => by rw [e3, va_up_ne _ _ (by omega)]; exact hI2 j hj, rfl, rfl, m + 1, by omega, by rw [ex2]; exact nI_1 m, rfl⟩
theorem r_fillFloors {b c : Nat} {Φ : TI → TJ → TS → TL → Prop} (hb : b ≤ 24) (h1 : S 1 = nI b) (hBg : Bgs b I) (h3 : S 3 = nI c) (hc : c < 40) (hc3 : 3 ≤ c) (hf : ∀ (I' : TI) (J' : TJ), (∀ j, j < 25 → I' j = I j) → Φ I' J' S L) : wp_X2_fillFloors n0 n1 I J S L Φ := by
  unfold wp_X2_fillFloors
  refine ⟨fun n I' J' S' L' x => (∀ j, j < 25 → I' j = I j) ∧ S' = S ∧ L' = L ∧ ∃ m, m ≤ b ∧ x = nI m ∧ n = b - m, ⟨b, fun _ _ => rfl, rfl, rfl, 0, by omega, rfl, rfl⟩, ?_⟩
  rintro n I' J' S' L' x ⟨hI, rfl, rfl, m, hm, rfl, rfl⟩
  refine ⟨fun _ => hf I' J' hI, fun hc1 => ?_⟩
  rw [h1] at hc1
  have hm2 : m < b := nI_nleN (by omega) hm hc1
  have hv : vp_in (nI m) 24 := vp_in_nI (by omega) (by omega)
  refine ⟨hv, fun I2 J2 S2 L2 x => (∀ j, j < 25 → I2 j = I j) ∧ S2 = S' ∧ L2 = L' ∧ x = nI m, ?_, fun _ => ⟨hI, rfl, rfl, rfl⟩, fun _ => ⟨hv, ?_⟩⟩
  · rintro I2 J2 S2 L2 x ⟨hI2, rfl, rfl, rfl⟩ x2 ex2
    exact ⟨b - (m + 1), by omega, hI2, rfl, rfl, m + 1, by omega, by rw [ex2]; exact nI_1 m, rfl⟩
  unfold wp_X2_lastDay
  refine ⟨fun _ => ⟨hI, rfl, rfl, rfl⟩, fun _ => ⟨hv, fun x2 ex2 => ?_⟩⟩
  rw [clN (by omega), hI 7 (by omega)] at ex2
  obtain ⟨h, hh, eh⟩ := W12_cases (hBg m hm2).1
  rw [eh] at ex2
  subst ex2
  have f1 : S' 3 - (4 : Int32) + 1 = nI (c - 3) := by
    rw [h3]
    obtain ⟨d, rfl⟩ : ∃ d, c = d + 3 := ⟨c - 3, by omega⟩
    rw [show d + 3 - 3 = d by omega, show nI (d + 3) = nI d + nI 3 from (nI_add d 3).symm]
    have : nI d + nI 3 - (4 : Int32) + 1 = nI d := by
      rw [show nI 3 = (3 : Int32) from rfl]
      grind
    exact this
  have f2 : S' 3 + (1 : Int32) = nI (c + 1) := by rw [h3]; exact nI_1 c
  rw [f1, f2]
  refine r_duesOf hh (by omega) (by omega) (fun r => ?_)
  refine ⟨hv, fun y _ => ?_⟩
  have e9 : nI h * (40 : Int32) + S' 3 = nI (h * 40 + c) := by
    rw [h3, show (40 : Int32) = nI 40 from rfl, pk_mul, nI_add]
  rw [e9]
  have h48 : vp_in (nI (h * 40 + c)) 480 := vp_in_nI (by omega) (by omega)
  have h12 : vp_in (nI h) 12 := vp_in_nI hh (by omega)
  exact ⟨h48, h48, fun I3 e3 => ⟨h12, h12, fun J3 _ => ⟨fun j hj => by rw [e3, va_up_ne _ _ (by omega)]; exact hI j hj, rfl, rfl, rfl⟩⟩⟩
end
