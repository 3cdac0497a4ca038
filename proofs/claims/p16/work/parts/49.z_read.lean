section
variable {n0 n1 : Nat} {I : TI} {J : TJ} {S : TS} {L : TL} {c : Nat}
theorem t_X7_due (p0 p1 : Int32) (h : InvO c I S) : wp_X7_due 600 0 I J S L p0 p1 (fun _ I' _ S' _ => Same2 I I' S S' ∧ InvO c I' S') := by
  obtain ⟨hB, hC, hc, h3, h7, hq, h6, h10⟩ := id h
  have N : Same2 I I S S ∧ InvO c I S := ⟨⟨rfl, rfl, rfl⟩, h⟩
  unfold wp_X7_due
  refine s_X7_isHand (fun hw => ⟨_, fun _ _ _ _ hB => hB, fun _ => N, fun _ => ?_⟩) (fun _ => ⟨_, fun _ _ _ _ hB => hB, fun _ => N, fun hc => absurd rfl hc⟩)
  obtain ⟨k, hk, rfl⟩ := W12_cases hw
  refine t_isClosed h3 hc (fun t ht et => ⟨fun _ => ⟨?_, N⟩, fun _ => N⟩) ⟨fun hc => absurd rfl hc, fun _ => N⟩
  rw [et, show (40 : Int32) = nI 40 from rfl, pk_mul, nI_add]
  exact vp_in_nI (by omega) (by omega)
theorem r_stillIn_O {b n : Nat} {Φ : Int64 → TI → TJ → TS → TL → Prop} (hb : b ≤ 24) (hn : n < b) (hf : ∀ r : Int64, Φ r I J S L) : wp_X2_stillIn_O n0 n1 I J S L (nI n) Φ := by
  unfold wp_X2_stillIn_O wp_X2_stillIn
  have hv : vp_in (nI n) 24 := vp_in_nI (by omega) (by omega)
  have hf2 : ∀ r : Int64, Φ r I J (va_up S 0 (S 0)) L := fun r => by rw [up_same]; exact hf r
  refine ⟨hv, fun _ => ?_, fun _ => ⟨hv, hv, hf2 _⟩⟩
  refine ⟨fun m I' J' S' L' y x => I' = I ∧ J' = J ∧ S' = S ∧ L' = L ∧ ∃ k, k ≤ 40 ∧ x = nI k ∧ m = 40 - k, ⟨40, rfl, rfl, rfl, rfl, 0, by omega, rfl, rfl⟩, ?_⟩
  rintro m I' J' S' L' y x ⟨rfl, rfl, rfl, rfl, k, hk, rfl, rfl⟩
  refine ⟨fun _ => hf2 y, fun hc1 => ?_⟩
  have hk2 : k < 40 := nI_nleN (by omega) hk hc1
  rw [show (40 : Int32) = nI 40 from rfl, pk_mul, nI_add]
  refine ⟨vp_in_nI (by omega) (by omega), fun y2 _ x2 ex2 => ?_⟩
  exact ⟨40 - (k + 1), by omega, rfl, rfl, rfl, rfl, k + 1, by omega, by rw [ex2]; exact nI_1 k, rfl⟩
theorem t_X7_has (p0 p1 : Int32) (h : InvO c I S) : wp_X7_has 600 0 I J S L p0 p1 (fun _ I' _ S' _ => Same2 I I' S S' ∧ InvO c I' S') := by
  obtain ⟨hB, hC, hc, h3, h7, hq, h6, h10⟩ := id h
  obtain ⟨⟨b, hb, h1, hBg⟩, hSt, hQ, hZ⟩ := id hB
  have N : Same2 I I S S ∧ InvO c I S := ⟨⟨rfl, rfl, rfl⟩, h⟩
  unfold wp_X7_has
  refine ⟨_, fun _ _ _ _ hB => hB, fun _ => N, fun h0 => ⟨fun hlt => ?_, fun _ => N⟩⟩
  obtain ⟨n, hn, rfl⟩ := nI_of h0
  rw [h1] at hlt
  have hnb : n < b := (nI_ltI hn (by omega)).mp hlt
  have hv : vp_in (nI n) 24 := vp_in_nI (by omega) (by omega)
  refine ⟨fun _ => ⟨fun _ => ⟨fun _ => ?_, fun _ => r_stillIn_O hb hnb (fun _ => N)⟩, fun _ => ⟨hv, N⟩⟩, fun _ => ⟨hv, N⟩⟩
  refine ⟨_, fun _ _ _ _ hB => hB, fun _ => N, fun h20 => ⟨fun _ => N, fun h60 => ⟨?_, N⟩⟩⟩
  have g0 : ¬ p1 < 0 := fun g => h20 (Int32.lt_trans g (by decide))
  obtain ⟨w, hw, rfl⟩ := nI_of g0
  have w20 : 20 ≤ w := by
    rcases Nat.lt_or_ge w 20 with g | g
    · exact absurd (nI_lt (b := 20) g (by omega)) h20
    · exact g
  have w60 : w < 60 := by
    rcases Nat.lt_or_ge w 60 with g | g
    · exact g
    · exact absurd (nI_le (a := 60) g hw) h60
  rw [show (40 : Int32) = nI 40 from rfl, pk_mul, nI_add, show (20 : Int32) = nI 20 from rfl, pk_sub (by omega)]
  exact vp_in_nI (by omega) (by omega)
theorem r_bitCount {p0 : Int32} {Φ : Int32 → TI → TJ → TS → TL → Prop} (hf : ∀ r : Int32, Φ r I J S L) : wp_J6_bitCount_0f7a4 I J S L p0 Φ := by
  unfold wp_J6_bitCount_0f7a4
  repeat' (intro _ _)
  exact hf _
theorem t_X7_told (p0 p1 p2 : Int32) (h : InvO c I S) : wp_X7_told 600 0 I J S L p0 p1 p2 (fun _ I' _ S' _ => Same2 I I' S S' ∧ InvO c I' S') := by
  obtain ⟨hB, hC, hc, h3, h7, hq, h6, h10⟩ := id h
  have N : Same2 I I S S ∧ InvO c I S := ⟨⟨rfl, rfl, rfl⟩, h⟩
  have N2 : Same2 I I S (va_up S 0 (S 0)) ∧ InvO c I (va_up S 0 (S 0)) := by rw [up_same]; exact N
  unfold wp_X7_told
  have body : ∀ t : Nat, t < 40 → p0 = nI t → (wp_X7_isWork I J S L p1 (fun (r_21 : Int32) (I_17 : TI) (J_18 : TJ) (S_19 : TS) (L_20 : TL) => ((((¬ r_21 = 0) → (((p2 = nI 0) → (wp_X4_coinsOf_O 600 0 I_17 J_18 S_19 L_20 p0 p1 p2 (fun (r_26 : Int32) (I_22 : TI) (J_23 : TJ) (S_24 : TS) (L_25 : TL) => (Same2 I I_22 S S_24 ∧ InvO c I_22 S_24)))) ∧ ((p2 = nI 1) → (wp_X4_coinsOf_O 600 0 I_17 J_18 S_19 L_20 p0 p1 p2 (fun (r_31 : Int32) (I_27 : TI) (J_28 : TJ) (S_29 : TS) (L_30 : TL) => (Same2 I I_27 S S_29 ∧ InvO c I_27 S_29)))) ∧ ((p2 = nI 2) → (wp_X4_coinsOf_O 600 0 I_17 J_18 S_19 L_20 p0 p1 p2 (fun (r_36 : Int32) (I_32 : TI) (J_33 : TJ) (S_34 : TS) (L_35 : TL) => (Same2 I I_32 S S_34 ∧ InvO c I_32 S_34)))) ∧ ((p2 = nI 3) → (wp_X4_wayOf_O 600 0 I_17 J_18 S_19 L_20 p0 p1 (fun (r_41 : Int32) (I_37 : TI) (J_38 : TJ) (S_39 : TS) (L_40 : TL) => (wp_X4_isOpen_O 600 0 I_37 J_38 S_39 L_40 p0 p1 (fun (r_46 : Int32) (I_42 : TI) (J_43 : TJ) (S_44 : TS) (L_45 : TL) => (∃ B_47 : TI → TJ → TS → TL → Int32 → Int32 → Prop, (∀ (I_48 : TI) (J_49 : TJ) (S_50 : TS) (L_51 : TL) (s_52 : Int32) (s_53 : Int32), B_47 I_48 J_49 S_50 L_51 s_52 s_53 → (Same2 I I_48 S S_50 ∧ InvO c I_48 S_50)) ∧ (((r_46 = 0) → (B_47 I_42 J_43 S_44 L_45 r_41 (0 : Int32))) ∧ ((¬ r_46 = 0) → (B_47 I_42 J_43 S_44 L_45 r_41 (4 : Int32)))))))))) ∧ ((p2 = nI 4) → (wp_X4_placeOf_O 600 0 I_17 J_18 S_19 L_20 p0 p1 (fun (r_58 : Int32) (I_54 : TI) (J_55 : TJ) (S_56 : TS) (L_57 : TL) => (Same2 I I_54 S S_56 ∧ InvO c I_54 S_56)))) ∧ ((∀ k, k < 5 → ¬ p2 = nI k) → (Same2 I I_17 S S_19 ∧ InvO c I_17 S_19)))) ∧ ((r_21 = 0) → (Same2 I I_17 S S_19 ∧ InvO c I_17 S_19)))))) := by
    intro t ht et
    subst et
    refine s_X7_isWork (fun hw => ⟨fun _ => ?_, fun _ => N⟩) (fun _ => ⟨fun hc => absurd rfl hc, fun _ => N⟩)
    obtain ⟨w, hw2, rfl⟩ := W12_cases hw
    have er : nI t * (12 : Int32) + nI w = nI (t * 12 + w) := by rw [show (12 : Int32) = nI 12 from rfl, pk_mul, nI_add]
    have ec : ∀ d : Nat, d < 3 → vp_in ((nI t * (12 : Int32) + nI w) * (3 : Int32) + nI d) 1440 := fun d hd => by
      rw [er, show (3 : Int32) = nI 3 from rfl, pk_mul, nI_add]
      exact vp_in_nI (by omega) (by omega)
    have hv : vp_in (nI t * (12 : Int32) + nI w) 480 := by rw [er]; exact vp_in_nI (by omega) (by omega)
    refine ⟨fun e => ?_, fun e => ?_, fun e => ?_, fun _ => ?_, fun _ => ?_, fun _ => N⟩
    · subst e; unfold wp_X4_coinsOf_O wp_X4_coinsOf; exact ⟨ec 0 (by omega), N2⟩
    · subst e; unfold wp_X4_coinsOf_O wp_X4_coinsOf; exact ⟨ec 1 (by omega), N2⟩
    · subst e; unfold wp_X4_coinsOf_O wp_X4_coinsOf; exact ⟨ec 2 (by omega), N2⟩
    · unfold wp_X4_wayOf_O wp_X4_wayOf
      refine ⟨hv, ?_⟩
      unfold wp_X4_isOpen_O wp_X4_isOpen
      dsimp only
      rw [up_same]
      refine ⟨vp_in_nI ht (by omega), _, fun _ _ _ _ _ hB => hB, fun _ => ⟨Or.inl rfl, ?_⟩, fun _ => ⟨Or.inr rfl, ?_⟩⟩
      · exact ⟨_, fun _ _ _ _ _ _ hB => hB, fun _ => N2, fun _ => N2⟩
      · exact ⟨_, fun _ _ _ _ _ _ hB => hB, fun _ => N2, fun _ => N2⟩
    · unfold wp_X4_placeOf_O wp_X4_placeOf
      intro x hx
      subst hx
      exact ⟨hv, _, fun _ _ _ _ _ hB => hB, fun _ => ⟨hv, N2⟩, fun _ => N2⟩
  refine t_isClosed h3 hc (fun t ht et => ?_) ?_
  · refine ⟨fun I' J' S' L' s => I' = I ∧ J' = J ∧ S' = S ∧ L' = L, ?_, fun I' J' S' L' => I' = I ∧ J' = J ∧ S' = S ∧ L' = L, fun _ _ _ _ g => g, fun _ => ⟨rfl, rfl, rfl, rfl⟩, fun hc => absurd hc (by decide)⟩
    rintro I' J' S' L' s ⟨rfl, rfl, rfl, rfl⟩
    exact ⟨_, fun _ _ _ _ hB => hB, fun _ => N, fun _ => body t (by omega) et⟩
  · refine ⟨fun I' J' S' L' s => (I' = I ∧ J' = J ∧ S' = S ∧ L' = L) ∧ (s = 0 ∨ (c < 40 ∧ p0 = nI c)), ?_, fun I' J' S' L' => (I' = I ∧ J' = J ∧ S' = S ∧ L' = L) ∧ (c < 40 ∧ p0 = nI c), fun _ _ _ _ g => ⟨g.1, Or.inr g.2⟩, fun hc => absurd rfl hc, fun _ => ?_⟩
    · rintro I' J' S' L' s ⟨⟨rfl, rfl, rfl, rfl⟩, hs⟩
      refine ⟨_, fun _ _ _ _ hB => hB, fun _ => N, fun hn => ?_⟩
      rcases hs with g | g
      · exact absurd g hn
      · exact body c g.1 g.2
    · exact t_isTheTerm h3 hc (fun a b => ⟨fun hc => absurd hc (by decide), fun _ => ⟨⟨rfl, rfl, rfl, rfl⟩, a, b⟩⟩) ⟨fun _ => ⟨⟨rfl, rfl, rfl, rfl⟩, Or.inl rfl⟩, fun hc => absurd rfl hc⟩
theorem t_X7_line (p0 p1 : Int32) (h : InvO c I S) : wp_X7_line 600 0 I J S L p0 p1 (fun _ I' _ S' _ => Same2 I I' S S' ∧ InvO c I' S') := by
  obtain ⟨hB, hC, hc, h3, h7, hq, h6, h10⟩ := id h
  have N : Same2 I I S S ∧ InvO c I S := ⟨⟨rfl, rfl, rfl⟩, h⟩
  have N2 : Same2 I I S (va_up S 0 (S 0)) ∧ InvO c I (va_up S 0 (S 0)) := by rw [up_same]; exact N
  unfold wp_X7_line
  refine ⟨_, fun _ _ _ _ hB => hB, fun _ => N, fun h0 => ?_⟩
  unfold wp_X3_kept_O wp_X3_kept
  intro x hx
  refine ⟨fun hlt => ?_, fun _ => N2⟩
  obtain ⟨n, hn, rfl⟩ := nI_of h0
  have hle : x ≤ nI 600 := by
    rw [hx, h6]
    split
    · exact Int32.le_refl _
    · rename_i g
      exact Int32.not_lt.mp g
  have hn6 : n < 600 := by
    have g : nI n < nI 600 := by
      rcases Nat.lt_or_ge n 600 with q | q
      · exact nI_lt q (by omega)
      · exact absurd (Int32.le_trans hle (nI_le q hn)) (Int32.not_le.mpr hlt)
    exact (nI_ltI hn (by omega)).mp g
  have hv : vp_in (nI n) 600 := vp_in_nI hn6 (by omega)
  exact ⟨fun _ => ⟨hv, N2⟩, fun _ => ⟨hv, N2⟩, fun _ => ⟨hv, N2⟩, fun _ => ⟨hv, N2⟩, fun _ => ⟨hv, N2⟩, fun _ => N2⟩
theorem t_X7_count (p0 : Int32) (h : InvO c I S) : wp_X7_count 600 0 I J S L p0 (fun _ I' _ S' _ => Same2 I I' S S' ∧ InvO c I' S') := by
  obtain ⟨hB, hC, hc, h3, h7, hq, h6, h10⟩ := id h
  have N : Same2 I I S S ∧ InvO c I S := ⟨⟨rfl, rfl, rfl⟩, h⟩
  have N2 : Same2 I I S (va_up S 0 (S 0)) ∧ InvO c I (va_up S 0 (S 0)) := by rw [up_same]; exact N
  unfold wp_X7_count
  refine ⟨fun _ => N, fun _ => N, fun _ => N, fun _ => N, fun _ => ?_, fun _ => N, fun _ => ?_, fun _ => N, fun _ => N⟩
  · unfold wp_X2_allFilled_O wp_X2_allFilled
    refine ⟨fun n I' J' S' L' y x => I' = I ∧ S' = S ∧ ∃ k, k ≤ 12 ∧ x = nI k ∧ n = 12 - k, ⟨12, rfl, rfl, 0, by omega, rfl, rfl⟩, ?_⟩
    rintro n I' J' S' L' y x ⟨rfl, rfl, k, hk, rfl, rfl⟩
    refine ⟨fun _ => N2, fun hc1 => ?_⟩
    have hk2 : k < 12 := nI_nleN (by omega) hk hc1
    refine ⟨vp_in_nI hk2 (by omega), fun y2 _ x2 ex2 => ?_⟩
    exact ⟨12 - (k + 1), by omega, rfl, rfl, k + 1, by omega, by rw [ex2]; exact nI_1 k, rfl⟩
  · refine ⟨_, fun _ _ _ _ _ hB => hB, fun _ => N, fun h4 => ?_⟩
    unfold wp_X4_tornAt_O wp_X4_tornAt
    rw [h3] at h4 ⊢
    have hc4 : c < 40 := by
      rcases Nat.lt_or_ge c 40 with g | g
      · exact g
      · exact absurd (nI_le (a := 40) g (by omega)) h4
    exact ⟨vp_in_nI hc4 (by omega), r_bitCount (fun _ => N2)⟩
end
