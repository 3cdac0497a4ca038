section
variable {n0 n1 : Nat} {I : TI} {J : TJ} {S : TS} {L : TL} {c : Nat}
theorem t_bargTail {b : Nat} {p0 p1 p2 p3 p4 p5 p6 p7 : Int32} {Φ : Int32 → TI → TJ → TS → TL → Prop} (hb : b < 24) (h1 : S 1 = nI b) (hf : ∀ (I' : TI) (S' : TS), (∀ n, n < 6 ∨ 14 ≤ n → I' n = I n) → I' 6 = upd (I 6) b p0 → I' 7 = upd (I 7) b p1 → I' 11 = upd (I 11) b p5 → I' 13 = upd (I 13) b p7 → (∀ j, j ≠ 1 → S' j = S j) → S' 1 = nI (b + 1) → Φ (nI b) I' J S' L) : wp_X0_add_O n0 n1 I J S L p0 p1 p2 p3 (fun r I J S L => wp_X0_agree_O n0 n1 I J S L r p4 p5 p6 p7 (fun I J S L => Φ r I J S L)) := by
  have hv : vp_in (nI b) 24 := vp_in_nI hb (by omega)
  unfold wp_X0_add_O wp_X0_add
  intro x hx
  rw [h1] at hx
  subst hx
  rw [clN (by omega)]
  refine ⟨hv, fun I1 e1 => ⟨hv, fun I2 e2 => ⟨hv, fun I3 e3 => ⟨hv, fun I4 e4 => fun S1 eS => ?_⟩⟩⟩⟩
  show wp_X0_agree_O n0 n1 I4 J (va_up S1 0 (S 0)) L (nI b) p4 p5 p6 p7 (fun I J S L => Φ (nI b) I J S L)
  have s0 : va_up S1 0 (S 0) = S1 := upS_same (by rw [eS, va_up_ne _ _ (by omega)])
  rw [s0]
  unfold wp_X0_agree_O wp_X0_agree
  rw [clN (by omega)]
  refine ⟨hv, fun I5 e5 => ⟨hv, fun I6 e6 => ⟨hv, fun I7 e7 => ⟨hv, fun I8 e8 => ?_⟩⟩⟩⟩
  show Φ (nI b) I8 J (va_up S1 0 (S1 0)) L
  rw [up_same]
  have tr : ∀ n, n ≠ 13 → n ≠ 12 → n ≠ 11 → n ≠ 10 → n ≠ 9 → n ≠ 8 → n ≠ 7 → n ≠ 6 → I8 n = I n := fun n a1 a2 a3 a4 a5 a6 a7 a8 => by rw [e8, va_up_ne _ _ a1, e7, va_up_ne _ _ a2, e6, va_up_ne _ _ a3, e5, va_up_ne _ _ a4, e4, va_up_ne _ _ a5, e3, va_up_ne _ _ a6, e2, va_up_ne _ _ a7, e1, va_up_ne _ _ a8]
  refine hf I8 S1 (fun n hn => tr n (by omega) (by omega) (by omega) (by omega) (by omega) (by omega) (by omega) (by omega)) ?_ ?_ ?_ ?_ (fun j hj => by rw [eS, va_up_ne _ _ hj]) (by rw [eS, va_up_self, h1]; exact nI_1 b)
  · rw [e8, va_up_ne _ _ (by omega), e7, va_up_ne _ _ (by omega), e6, va_up_ne _ _ (by omega), e5, va_up_ne _ _ (by omega), e4, va_up_ne _ _ (by omega), e3, va_up_ne _ _ (by omega), e2, va_up_ne _ _ (by omega), e1, va_up_self]
  · rw [e8, va_up_ne _ _ (by omega), e7, va_up_ne _ _ (by omega), e6, va_up_ne _ _ (by omega), e5, va_up_ne _ _ (by omega), e4, va_up_ne _ _ (by omega), e3, va_up_ne _ _ (by omega), e2, va_up_self, e1, va_up_ne _ _ (by omega)]
  · rw [e8, va_up_ne _ _ (by omega), e7, va_up_ne _ _ (by omega), e6, va_up_self, e5, va_up_ne _ _ (by omega), e4, va_up_ne _ _ (by omega), e3, va_up_ne _ _ (by omega), e2, va_up_ne _ _ (by omega), e1, va_up_ne _ _ (by omega)]
  · rw [e8, va_up_self, e7, va_up_ne _ _ (by omega), e6, va_up_ne _ _ (by omega), e5, va_up_ne _ _ (by omega), e4, va_up_ne _ _ (by omega), e3, va_up_ne _ _ (by omega), e2, va_up_ne _ _ (by omega), e1, va_up_ne _ _ (by omega)]
theorem Bgs.add {b : Nat} {I I' : TI} {p0 p1 p5 p7 : Int32} (h : Bgs b I) (w1 : W12 p1) (w7 : Ps p0 → W12 p7) (w5 : p0 = 4 → ∃ y : Nat, 1 ≤ y ∧ y ≤ 8 ∧ p5 = nI y) (e6 : I' 6 = upd (I 6) b p0) (e7 : I' 7 = upd (I 7) b p1) (e11 : I' 11 = upd (I 11) b p5) (e13 : I' 13 = upd (I 13) b p7) : Bgs (b + 1) I' := by
  intro n hn
  rw [e6, e7, e11, e13]
  unfold upd
  by_cases g : n = b
  · rw [if_pos g, if_pos g, if_pos g, if_pos g]
    exact ⟨w1, w7, w5⟩
  · rw [if_neg g, if_neg g, if_neg g, if_neg g]
    exact h n (by omega)
theorem Tf_y {k x y z : Int32} (h : Tf k x y z) (e : k = 4) : ∃ n : Nat, 1 ≤ n ∧ n ≤ 8 ∧ y = nI n := by
  rcases h with ⟨a, _⟩ | ⟨a, _⟩ | ⟨a, _⟩ | ⟨a, _⟩ | ⟨a, _, h1, h8⟩
  · rw [e] at a; exact absurd a (by decide)
  · rw [e] at a; exact absurd a (by decide)
  · rw [e] at a; exact absurd a (by decide)
  · rw [e] at a; exact absurd a (by decide)
  · have h0 : ¬ y < 0 := fun g => h1 (Int32.lt_trans g (by decide))
    obtain ⟨n, hn, rfl⟩ := nI_of h0
    refine ⟨n, ?_, ?_, rfl⟩
    · rcases Nat.lt_or_ge n 1 with q | q
      · exact absurd (nI_lt (b := 1) q (by omega)) h1
      · exact q
    · rcases Nat.lt_or_ge 8 n with q | q
      · exact absurd (nI_lt (a := 8) q (by omega)) h8
      · exact q
set_option maxHeartbeats 1000000 in
theorem t_X7_bargain (p0 p1 p2 p3 p4 p5 p6 p7 : Int32) (h : InvO c I S) : wp_X7_bargain 600 0 I J S L p0 p1 p2 p3 p4 p5 p6 p7 (fun _ I' _ S' _ => Same2 I I' ∧ InvO c I' S') := by
  obtain ⟨hB, hC, hc, h3, h7, hq, h6, h10⟩ := id h
  obtain ⟨⟨b, hb, h1, hBg⟩, hSt, hQ, hZ⟩ := id hB
  have N : Same2 I I ∧ InvO c I S := ⟨⟨rfl, rfl⟩, h⟩
  unfold wp_X7_bargain
  refine ⟨_, fun _ _ _ _ hB => hB, fun _ => N, fun _ => ⟨fun _ => N, fun _ => ?_⟩⟩
  refine s_X7_isHand (fun hw => ⟨fun _ => N, fun _ => ⟨fun _ => N, fun _ => ⟨fun _ => ?_, fun _ => N⟩⟩⟩) (fun _ => ⟨fun _ => N, fun hc => absurd rfl hc⟩)
  have key : ∀ r : Int32, (∃ B_16 : TI → TJ → TS → TL → Prop, (∀ (I_17 : TI) (J_18 : TJ) (S_19 : TS) (L_20 : TL), B_16 I_17 J_18 S_19 L_20 → (Same2 I I_17 ∧ InvO c I_17 S_19)) ∧ (B_16 I J S L)) := fun _ => ⟨_, fun _ _ _ _ hB => hB, N⟩
  have fin : Tf p0 p4 p5 p6 → (Ps p0 → W12 p7) → b < 24 → wp_X0_add_O 600 0 I J S L p0 p1 p2 p3 (fun r I0 J0 S0 L0 => wp_X0_agree_O 600 0 I0 J0 S0 L0 r p4 p5 p6 p7 (fun I' J' S' L' => Same2 I I' ∧ InvO c I' S')) := by
    intro hT hP hb2
    refine t_bargTail (Φ := fun _ I' _ S' _ => Same2 I I' ∧ InvO c I' S') hb2 h1 (fun I' S' eN e6 e7 e11 e13 eS s1 => ?_)
    refine ⟨⟨eN 1 (by omega), eN 2 (by omega)⟩, ⟨⟨b + 1, by omega, s1, hBg.add hw hP (fun e => Tf_y hT e) e6 e7 e11 e13⟩, ?_, ?_, ?_⟩, hC.same (eN 19 (by omega)) (eN 16 (by omega)), hc, by rw [eS 3 (by omega)]; exact h3, by rw [eS 7 (by omega)]; exact h7, by rw [eS 2 (by omega), eS 4 (by omega), eS 8 (by omega)]; exact hq, by rw [eS 6 (by omega)]; exact h6, by rw [eS 10 (by omega)]; exact h10⟩
    · unfold Sts
      rw [eN 1 (by omega), eN 3 (by omega), eN 4 (by omega)]
      exact hSt
    · rw [eS 2 (by omega), eN 22 (by omega)]
      exact hQ
    · rw [eN 19 (by omega), eN 18 (by omega)]
      exact hZ
  refine t_dayAhead h3 (fun _ => ?_) (fun _ => ⟨_, fun _ _ _ _ hB => hB, fun _ => N, fun hc => absurd rfl hc⟩)
  refine ⟨_, fun _ _ _ _ hB => hB, fun _ => N, fun _ => ⟨fun _ => N, fun h24 => ?_⟩⟩
  have hb2 : b < 24 := by
    rw [h1] at h24
    exact nI_nleN (N := 24) (by omega) hb h24
  refine s_X7_termsFit (fun hT => ⟨fun _ => ?_, fun _ => N⟩) (fun _ => ⟨fun hc => absurd rfl hc, fun _ => N⟩)
  refine s_X7_passesOn (fun hps => ?_) (fun hps => ⟨_, fun _ _ _ _ hB => hB, fun _ => fin hT (fun k => absurd k hps) hb2, fun hc => absurd rfl hc⟩)
  refine ⟨fun I' J' S' L' => I' = I ∧ J' = J ∧ S' = S ∧ L' = L ∧ W12 p7, ?_, fun hc => absurd hc (by decide), fun _ => ?_⟩
  · rintro I' J' S' L' ⟨rfl, rfl, rfl, rfl, hw7⟩
    exact fin hT (fun _ => hw7) hb2
  refine s_X7_isHand (fun hw7 => ?_) (fun _ => ⟨_, fun _ _ _ _ hB => hB, fun _ => N, fun hc => absurd rfl hc⟩)
  exact ⟨_, fun _ _ _ _ hB => hB, fun _ => N, fun _ => ⟨fun _ => ⟨rfl, rfl, rfl, rfl, hw7⟩, fun _ => N⟩⟩
theorem t_reportFits {p0 p1 p2 p3 p4 : Int32} {Φ : Int32 → TI → TJ → TS → TL → Prop} (h1 : W12 p0 → Φ 1 I J S L) (h0 : Φ 0 I J S L) : wp_X7_reportFits 600 0 I J S L p0 p1 p2 p3 p4 Φ := by
  unfold wp_X7_reportFits
  refine s_X7_isWork (fun hw => ?_) (fun _ => ⟨_, fun _ _ _ _ hB => hB, fun _ => h0, fun hc => absurd rfl hc⟩)
  have h1 := h1 hw
  refine ⟨_, fun _ _ _ _ hB => hB, fun _ => h0, fun _ => ⟨W12_in hw, fun _ => h0, fun _ => ?_⟩⟩
  refine s_X7_isTold (fun _ => ⟨fun _ => ?_, fun _ => h0⟩) (fun _ => ⟨fun hc => absurd rfl hc, fun _ => h0⟩)
  refine ⟨_, fun _ _ _ _ _ hB => hB, _, fun _ _ _ _ hB => hB, fun _ => ⟨Or.inr rfl, h1⟩, fun _ => ?_⟩
  refine s_X7_isTold (fun _ => ?_) (fun _ => ⟨_, fun _ _ _ _ hB => hB, fun _ => ⟨Or.inl rfl, h0⟩, fun hc => absurd rfl hc⟩)
  refine ⟨_, fun _ _ _ _ hB => hB, fun _ => ⟨Or.inl rfl, h0⟩, fun _ => ?_⟩
  exact s_X7_isTold (fun _ => ⟨fun _ => ⟨Or.inl rfl, h0⟩, fun _ => ⟨Or.inr rfl, h1⟩⟩) (fun _ => ⟨fun _ => ⟨Or.inl rfl, h0⟩, fun hc => absurd rfl hc⟩)
theorem t_X7_tear (p0 : Int32) (h : InvO c I S) : wp_X7_tear 600 0 I J S L p0 (fun _ I' _ S' _ => Same2 I I' ∧ InvO c I' S') := by
  obtain ⟨hB, hC, hc, h3, h7, hq, h6, h10⟩ := id h
  have N : Same2 I I ∧ InvO c I S := ⟨⟨rfl, rfl⟩, h⟩
  unfold wp_X7_tear
  intro x ex
  rw [h3] at ex
  subst ex
  refine ⟨_, fun _ _ _ _ hB => hB, fun _ => N, fun h4 => ⟨fun _ => N, fun _ => ⟨fun _ => ?_, fun _ => N⟩⟩⟩
  intro x2 _
  unfold wp_X4_tearAt_O wp_X4_tearAt
  have hc4 : c < 40 := by
    rcases Nat.lt_or_ge c 40 with g | g
    · exact g
    · exact absurd (nI_le (a := 40) g (by omega)) h4
  refine ⟨vp_in_nI hc4 (by omega), fun I1 e1 => ?_⟩
  show Same2 I I1 ∧ InvO c I1 (va_up S 0 (S 0))
  rw [up_same]
  have eN : ∀ n, n ≠ 20 → I1 n = I n := fun n hn => by rw [e1, va_up_ne _ _ hn]
  refine ⟨⟨eN 1 (by omega), eN 2 (by omega)⟩, ?_, hC.same (eN 19 (by omega)) (eN 16 (by omega)), hc, h3, h7, hq, h6, h10⟩
  obtain ⟨⟨b, hb, h1, hBg⟩, hSt, hQ, hZ⟩ := id hB
  refine ⟨⟨b, hb, h1, ?_⟩, ?_, by rw [eN 22 (by omega)]; exact hQ, by rw [eN 19 (by omega), eN 18 (by omega)]; exact hZ⟩
  · unfold Bgs
    rw [eN 7 (by omega), eN 6 (by omega), eN 13 (by omega), eN 11 (by omega)]
    exact hBg
  · unfold Sts
    rw [eN 1 (by omega), eN 3 (by omega), eN 4 (by omega)]
    exact hSt
end
