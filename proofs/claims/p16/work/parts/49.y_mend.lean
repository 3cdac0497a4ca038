section
variable {n0 n1 : Nat} {I : TI} {J : TJ} {S : TS} {L : TL} {c : Nat}
theorem t_isClosedR {p0 : Int32} {Φ : Int32 → TI → TJ → TS → TL → Prop} (h3 : S 3 = nI c) (hc : c ≤ 40) (h1 : ∀ t : Nat, t < c → p0 = nI t → Φ 1 I J S L) (h0 : ¬ (∃ t : Nat, t < c ∧ p0 = nI t) → Φ 0 I J S L) : wp_X7_isClosed 600 0 I J S L p0 Φ := by
  unfold wp_X7_isClosed
  refine ⟨_, fun _ _ _ _ _ hB => hB, _, fun _ _ _ _ hB => hB, fun hn => ⟨Or.inl rfl, h0 (fun k => ?_)⟩, fun hn => ⟨fun hc1 => ⟨Or.inl rfl, h0 (fun k => ?_)⟩, fun hc1 => ⟨Or.inr rfl, ?_⟩⟩⟩
  · obtain ⟨t, ht, rfl⟩ := k
    exact absurd hn (nI_pos (by omega))
  · obtain ⟨t, ht, rfl⟩ := k
    rw [h3] at hc1
    exact absurd hc1 (nI_ge ht (by omega))
  obtain ⟨t, ht, rfl⟩ := nI_of hn
  rw [h3] at hc1
  refine h1 t ?_ rfl
  rcases Nat.lt_or_ge t c with g | g
  · exact g
  · exact absurd (nI_le g ht) hc1
theorem t_isClosed {p0 : Int32} {Φ : Int32 → TI → TJ → TS → TL → Prop} (h3 : S 3 = nI c) (hc : c ≤ 40) (h1 : ∀ t : Nat, t < c → p0 = nI t → Φ 1 I J S L) (h0 : Φ 0 I J S L) : wp_X7_isClosed 600 0 I J S L p0 Φ := t_isClosedR h3 hc h1 (fun _ => h0)
theorem t_isTheTerm {p0 : Int32} {Φ : Int32 → TI → TJ → TS → TL → Prop} (h3 : S 3 = nI c) (hc : c ≤ 40) (h1 : c < 40 → p0 = nI c → Φ 1 I J S L) (h0 : Φ 0 I J S L) : wp_X7_isTheTerm 600 0 I J S L p0 Φ := by
  unfold wp_X7_isTheTerm
  refine ⟨_, fun _ _ _ _ _ hB => hB, _, fun _ _ _ _ hB => hB, fun _ => ⟨Or.inl rfl, h0⟩, fun e => ⟨fun _ => ⟨Or.inl rfl, h0⟩, fun h4 => ⟨Or.inr rfl, ?_⟩⟩⟩
  rw [h3] at e
  subst e
  refine h1 ?_ rfl
  rcases Nat.lt_or_ge c 40 with g | g
  · exact g
  · exact absurd (nI_le (a := 40) g (by omega)) h4
theorem r_fill_26 {p0 : Int64} {Φ : TI → TJ → TS → TL → Prop} (hf : ∀ J' : TJ, Φ I J' S L) : wp_J7_fill_d0a16_26 n0 n1 I J S L p0 Φ := by
  unfold wp_J7_fill_d0a16_26
  refine ⟨fun n I' J' S' L' x a => I' = I ∧ S' = S ∧ L' = L ∧ a = nI 12 ∧ ∃ k, k ≤ 12 ∧ x = nI k ∧ n = 12 - k, ⟨12, rfl, rfl, rfl, rfl, 0, by omega, rfl, rfl⟩, ?_⟩
  rintro n I' J' S' L' x a ⟨rfl, rfl, rfl, rfl, k, hk, rfl, rfl⟩
  refine ⟨fun _ => hf J', fun hc1 => ?_⟩
  have hk2 : k < 12 := nI_nleN (by omega) hk hc1
  refine ⟨vp_in_nI (by omega) (by omega), fun J2 _ x2 ex2 => ?_⟩
  exact ⟨12 - (k + 1), by omega, rfl, rfl, rfl, rfl, k + 1, by omega, by rw [ex2]; exact nI_1 k, rfl⟩
theorem r_fill_27 {p0 : Int64} {Φ : TI → TJ → TS → TL → Prop} (hf : ∀ J' : TJ, Φ I J' S L) : wp_J7_fill_d0a16_27 n0 n1 I J S L p0 Φ := by
  unfold wp_J7_fill_d0a16_27
  refine ⟨fun n I' J' S' L' x a => I' = I ∧ S' = S ∧ L' = L ∧ a = nI 12 ∧ ∃ k, k ≤ 12 ∧ x = nI k ∧ n = 12 - k, ⟨12, rfl, rfl, rfl, rfl, 0, by omega, rfl, rfl⟩, ?_⟩
  rintro n I' J' S' L' x a ⟨rfl, rfl, rfl, rfl, k, hk, rfl, rfl⟩
  refine ⟨fun _ => hf J', fun hc1 => ?_⟩
  have hk2 : k < 12 := nI_nleN (by omega) hk hc1
  refine ⟨vp_in_nI (by omega) (by omega), fun J2 _ x2 ex2 => ?_⟩
  exact ⟨12 - (k + 1), by omega, rfl, rfl, rfl, rfl, k + 1, by omega, by rw [ex2]; exact nI_1 k, rfl⟩
theorem r_fill_28 {p0 : Int64} {Φ : TI → TJ → TS → TL → Prop} (hf : ∀ J' : TJ, Φ I J' S L) : wp_J7_fill_d0a16_28 n0 n1 I J S L p0 Φ := by
  unfold wp_J7_fill_d0a16_28
  refine ⟨fun n I' J' S' L' x a => I' = I ∧ S' = S ∧ L' = L ∧ a = nI 12 ∧ ∃ k, k ≤ 12 ∧ x = nI k ∧ n = 12 - k, ⟨12, rfl, rfl, rfl, rfl, 0, by omega, rfl, rfl⟩, ?_⟩
  rintro n I' J' S' L' x a ⟨rfl, rfl, rfl, rfl, k, hk, rfl, rfl⟩
  refine ⟨fun _ => hf J', fun hc1 => ?_⟩
  have hk2 : k < 12 := nI_nleN (by omega) hk hc1
  refine ⟨vp_in_nI (by omega) (by omega), fun J2 _ x2 ex2 => ?_⟩
  exact ⟨12 - (k + 1), by omega, rfl, rfl, rfl, rfl, k + 1, by omega, by rw [ex2]; exact nI_1 k, rfl⟩
theorem r_fill_30 {p0 : Int64} {Φ : TI → TJ → TS → TL → Prop} (hf : ∀ J' : TJ, Φ I J' S L) : wp_J7_fill_d0a16_30 n0 n1 I J S L p0 Φ := by
  unfold wp_J7_fill_d0a16_30
  refine ⟨fun n I' J' S' L' x a => I' = I ∧ S' = S ∧ L' = L ∧ a = nI 24 ∧ ∃ k, k ≤ 24 ∧ x = nI k ∧ n = 24 - k, ⟨24, rfl, rfl, rfl, rfl, 0, by omega, rfl, rfl⟩, ?_⟩
  rintro n I' J' S' L' x a ⟨rfl, rfl, rfl, rfl, k, hk, rfl, rfl⟩
  refine ⟨fun _ => hf J', fun hc1 => ?_⟩
  have hk2 : k < 24 := nI_nleN (by omega) hk hc1
  refine ⟨vp_in_nI (by omega) (by omega), fun J2 _ x2 ex2 => ?_⟩
  exact ⟨24 - (k + 1), by omega, rfl, rfl, rfl, rfl, k + 1, by omega, by rw [ex2]; exact nI_1 k, rfl⟩
theorem r_fill_31 {p0 : Int64} {Φ : TI → TJ → TS → TL → Prop} (hf : ∀ J' : TJ, Φ I J' S L) : wp_J7_fill_d0a16_31 n0 n1 I J S L p0 Φ := by
  unfold wp_J7_fill_d0a16_31
  refine ⟨fun n I' J' S' L' x a => I' = I ∧ S' = S ∧ L' = L ∧ a = nI 24 ∧ ∃ k, k ≤ 24 ∧ x = nI k ∧ n = 24 - k, ⟨24, rfl, rfl, rfl, rfl, 0, by omega, rfl, rfl⟩, ?_⟩
  rintro n I' J' S' L' x a ⟨rfl, rfl, rfl, rfl, k, hk, rfl, rfl⟩
  refine ⟨fun _ => hf J', fun hc1 => ?_⟩
  have hk2 : k < 24 := nI_nleN (by omega) hk hc1
  refine ⟨vp_in_nI (by omega) (by omega), fun J2 _ x2 ex2 => ?_⟩
  exact ⟨24 - (k + 1), by omega, rfl, rfl, rfl, rfl, k + 1, by omega, by rw [ex2]; exact nI_1 k, rfl⟩
theorem r_fill_32 {p0 : Int64} {Φ : TI → TJ → TS → TL → Prop} (hf : ∀ J' : TJ, Φ I J' S L) : wp_J7_fill_d0a16_32 n0 n1 I J S L p0 Φ := by
  unfold wp_J7_fill_d0a16_32
  refine ⟨fun n I' J' S' L' x a => I' = I ∧ S' = S ∧ L' = L ∧ a = nI 960 ∧ ∃ k, k ≤ 960 ∧ x = nI k ∧ n = 960 - k, ⟨960, rfl, rfl, rfl, rfl, 0, by omega, rfl, rfl⟩, ?_⟩
  rintro n I' J' S' L' x a ⟨rfl, rfl, rfl, rfl, k, hk, rfl, rfl⟩
  refine ⟨fun _ => hf J', fun hc1 => ?_⟩
  have hk2 : k < 960 := nI_nleN (by omega) hk hc1
  refine ⟨vp_in_nI (by omega) (by omega), fun J2 _ x2 ex2 => ?_⟩
  exact ⟨960 - (k + 1), by omega, rfl, rfl, rfl, rfl, k + 1, by omega, by rw [ex2]; exact nI_1 k, rfl⟩
theorem r_fill_29 {p0 : Int32} {Φ : TI → TJ → TS → TL → Prop} (hf : ∀ I' : TI, (∀ n, n ≠ 29 → I' n = I n) → Φ I' J S L) : wp_J7_fill_53178_29 n0 n1 I J S L p0 Φ := by
  unfold wp_J7_fill_53178_29
  refine ⟨fun n I' J' S' L' x a => (∀ n, n ≠ 29 → I' n = I n) ∧ J' = J ∧ S' = S ∧ L' = L ∧ a = nI 480 ∧ ∃ k, k ≤ 480 ∧ x = nI k ∧ n = 480 - k, ⟨480, fun _ _ => rfl, rfl, rfl, rfl, rfl, 0, by omega, rfl, rfl⟩, ?_⟩
  rintro n I' J' S' L' x a ⟨hI, rfl, rfl, rfl, rfl, k, hk, rfl, rfl⟩
  refine ⟨fun _ => hf I' hI, fun hc1 => ?_⟩
  have hk2 : k < 480 := nI_nleN (by omega) hk hc1
  refine ⟨vp_in_nI (by omega) (by omega), fun I2 e2 x2 ex2 => ?_⟩
  exact ⟨480 - (k + 1), by omega, fun n hn => by rw [e2, va_up_ne _ _ hn]; exact hI n hn, rfl, rfl, rfl, rfl, k + 1, by omega, by rw [ex2]; exact nI_1 k, rfl⟩
theorem r_clear_Op {Φ : TI → TJ → TS → TL → Prop} (hf : ∀ (I' : TI) (J' : TJ) (S' : TS) (L' : TL), (∀ n, n < 25 → I' n = I n) → (∀ j, j ≠ 7 → j ≠ 8 → S' j = S j) → S' 7 = nI 0 → S' 8 = nI 0 → Φ I' J' S' L') : wp_X2_clear_Op n0 n1 I J S L Φ := by
  unfold wp_X2_clear_Op wp_X2_clear_p wp_X2_clear
  refine r_fill_26 (fun J1 => r_fill_27 (fun J2 => r_fill_28 (fun J3 => r_fill_29 (fun I4 e4 => r_fill_30 (fun J5 => r_fill_31 (fun J6 => r_fill_32 (fun J7 => ?_)))))))
  intro L1 _ S1 e1 S2 e2
  have eS : ∀ j, j ≠ 7 → j ≠ 8 → S2 (pS j) = S j := fun j a b => by
    have g : pS j ≠ 3 ∧ pS j ≠ 4 := by unfold pS; (repeat' split) <;> omega
    rw [e2, va_up_ne _ _ g.2, e1, va_up_ne _ _ g.1]
    exact congrArg S (ppS j)
  have e0 : va_up (fun k => S2 (pS k)) 0 (S 0) = fun k => S2 (pS k) := upS_same (eS 0 (by omega) (by omega)).symm
  show Φ (fun k => I4 (pO k)) (fun k => J7 (pO k)) (va_up (fun k => S2 (pS k)) 0 (S 0)) (fun k => L1 (pL k))
  rw [e0]
  refine hf _ _ _ _ (fun n hn => ?_) eS ?_ ?_
  · show I4 (pO n) = I n
    rw [pO_lt hn, e4 n (by omega)]
    show I (pO n) = I n
    rw [pO_lt hn]
  · show S2 3 = nI 0
    rw [e2, va_up_ne _ _ (by omega), e1, va_up_self]
    rfl
  · show S2 4 = nI 0
    rw [e2, va_up_self]
    rfl
theorem t_X7_mend (p0 p1 p2 p3 p4 p5 : Int32) (h : InvO c I S) : wp_X7_mend 600 0 I J S L p0 p1 p2 p3 p4 p5 (fun r I' _ S' _ => Same2 I I' S S' ∧ InvO c I' S' ∧ RSpec ((∃ t : Nat, t < c ∧ p0 = nI t) ∧ RpOK (I 1) p1 p2 p3 p4 p5) r) := by
  obtain ⟨hB, hC, hc, h3, h7, hq, h6, h10⟩ := id h
  have N : ¬ ((∃ t : Nat, t < c ∧ p0 = nI t) ∧ RpOK (I 1) p1 p2 p3 p4 p5) → Same2 I I S S ∧ InvO c I S ∧ RSpec ((∃ t : Nat, t < c ∧ p0 = nI t) ∧ RpOK (I 1) p1 p2 p3 p4 p5) 0 := fun hn => ⟨⟨rfl, rfl, rfl⟩, h, Or.inr ⟨hn, rfl⟩⟩
  unfold wp_X7_mend
  refine t_isClosedR h3 hc (fun t ht et => ?_) (fun hn => ⟨_, fun _ _ _ _ hB => hB, fun _ => N (fun k => hn k.1), fun hc => absurd rfl hc⟩)
  subst et
  refine ⟨_, fun _ _ _ _ hB => hB, fun hc => absurd hc (by decide), fun _ => ?_⟩
  refine t_reportFits (fun hr => ⟨fun _ => ?_, fun hc => absurd hc (by decide)⟩) (fun hr => ⟨fun hc => absurd rfl hc, fun _ => N (fun k => hr k.2)⟩)
  have hY : RSpec ((∃ t' : Nat, t' < c ∧ nI t = nI t') ∧ RpOK (I 1) p1 p2 p3 p4 p5) 1 := Or.inl ⟨⟨⟨t, ht, rfl⟩, hr⟩, rfl⟩
  obtain ⟨w, hw2, rfl⟩ := W12_cases hr.1
  refine t_put_O hC (by omega) hw2 (fun I1 hF => ?_)
  have hB1 := hF.bk hB (by omega) hw2
  have hC1 := hF.ct hC (by omega) hw2
  have s2 : Same2 I I1 S S := ⟨hF.1 1 (by omega), hF.1 2 (by omega), rfl⟩
  unfold wp_X4_bringBack_O wp_X4_bringBack
  have hv : vp_in (nI t) 40 := vp_in_nI (by omega) (by omega)
  refine ⟨hv, hv, fun I2 e2 => ?_⟩
  dsimp only
  rw [up_same]
  have eN : ∀ n, n ≠ 20 → I2 n = I1 n := fun n hn => by rw [e2, va_up_ne _ _ hn]
  have h2 : InvO c I2 S := by
    refine ⟨?_, hC1.same (eN 19 (by omega)) (eN 16 (by omega)), hc, h3, h7, hq, h6, h10⟩
    obtain ⟨⟨b, hb, h1, hBg⟩, hSt, hQ, hZ⟩ := id hB1
    refine ⟨⟨b, hb, h1, ?_⟩, ?_, by rw [eN 22 (by omega)]; exact hQ, by rw [eN 19 (by omega), eN 18 (by omega)]; exact hZ⟩
    · unfold Bgs
      rw [eN 7 (by omega), eN 6 (by omega), eN 13 (by omega), eN 11 (by omega)]
      exact hBg
    · unfold Sts
      rw [eN 1 (by omega), eN 3 (by omega), eN 4 (by omega)]
      exact hSt
  have s3 : Same2 I I2 S S := ⟨(eN 1 (by omega)).trans s2.1, (eN 2 (by omega)).trans s2.2.1, rfl⟩
  refine ⟨_, fun _ _ _ _ hB => hB, fun _ => ⟨s3, h2, hY⟩, fun _ => ?_⟩
  refine r_clear_Op (fun I3 J3 S3 L3 eI eS e7 e8 => ?_)
  obtain ⟨hB2, hC2, -⟩ := id h2
  obtain ⟨q, t1, t2, hq1, q2, ht1, q4, ht2, q8⟩ := hq
  refine ⟨⟨(eI 1 (by omega)).trans s3.1, (eI 2 (by omega)).trans s3.2.1, eS 1 (by omega) (by omega)⟩, ⟨hB2.same eI (eS 1 (by omega) (by omega)) (eS 2 (by omega) (by omega)), hC2.same (eI 19 (by omega)) (eI 16 (by omega)), hc, by rw [eS 3 (by omega) (by omega)]; exact h3, ⟨0, by omega, e7⟩, ⟨q, t1, 0, hq1, by rw [eS 2 (by omega) (by omega)]; exact q2, ht1, by rw [eS 4 (by omega) (by omega)]; exact q4, by omega, e8⟩, by rw [eS 6 (by omega) (by omega)]; exact h6, by rw [eS 10 (by omega) (by omega)]; exact h10⟩, hY⟩
theorem t_X7_sent (p0 p1 : Int32) (h : InvO c I S) : wp_X7_sent 600 0 I J S L p0 p1 (fun _ I' _ S' _ => Same2 I I' S S' ∧ InvO c I' S') := by
  obtain ⟨hB, hC, hc, h3, h7, hq, h6, h10⟩ := id h
  obtain ⟨q, t1, t2, hq1, q2, ht1, q4, ht2, q8⟩ := id hq
  have N : Same2 I I S S ∧ InvO c I S := ⟨⟨rfl, rfl, rfl⟩, h⟩
  unfold wp_X7_sent
  refine s_X7_isHand (fun hw => ⟨_, fun _ _ _ _ hB => hB, fun _ => N, fun _ => ?_⟩) (fun _ => ⟨_, fun _ _ _ _ hB => hB, fun _ => N, fun hc => absurd rfl hc⟩)
  refine s_X7_isSum (fun _ => ⟨fun _ => N, fun _ => ⟨fun h60 => ?_, fun _ => N⟩⟩) (fun _ => ⟨fun _ => N, fun hc => absurd rfl hc⟩)
  rw [q2] at h60
  have hq6 : q < 60 := (nI_ltI (b := 60) (by omega) (by omega)).mp h60
  intro x ex
  rw [h3] at ex
  subst ex
  unfold wp_X5_add_O wp_X5_add
  rw [q2, clN (by omega)]
  have hv : vp_in (nI q) 60 := vp_in_nI hq6 (by omega)
  refine ⟨hv, fun I1 e1 => ⟨hv, fun I2 e2 => ⟨hv, fun I3 e3 => fun S1 eS L1 _ => ?_⟩⟩⟩
  dsimp only
  have s0 : va_up S1 0 (S 0) = S1 := upS_same (by rw [eS, va_up_ne _ _ (by omega)])
  rw [s0]
  have eN : ∀ n, n ≠ 22 → n ≠ 23 → n ≠ 24 → I3 n = I n := fun n a b d => by rw [e3, va_up_ne _ _ d, e2, va_up_ne _ _ b, e1, va_up_ne _ _ a]
  have e22 : I3 22 = upd (I 22) q p0 := by rw [e3, va_up_ne _ _ (by omega), e2, va_up_ne _ _ (by omega), e1, va_up_self]
  have sN : ∀ j, j ≠ 2 → S1 j = S j := fun j hj => by rw [eS, va_up_ne _ _ hj]
  have s2 : S1 2 = nI (q + 1) := by rw [eS, va_up_self]; exact nI_1 q
  have hB1 : Bk I3 S1 := by
    obtain ⟨⟨b, hb, h1, hBg⟩, hSt, ⟨q', hq', h2', hQ⟩, hZ⟩ := id hB
    have eq : q' = q := (nI_eq (by omega) (by omega)).mp (h2'.symm.trans q2)
    subst eq
    refine ⟨⟨b, hb, by rw [sN 1 (by omega)]; exact h1, ?_⟩, ?_, ⟨q' + 1, by omega, s2, fun k hk => ?_⟩, by rw [eN 19 (by omega) (by omega) (by omega), eN 18 (by omega) (by omega) (by omega)]; exact hZ⟩
    · unfold Bgs
      rw [eN 7 (by omega) (by omega) (by omega), eN 6 (by omega) (by omega) (by omega), eN 13 (by omega) (by omega) (by omega), eN 11 (by omega) (by omega) (by omega)]
      exact hBg
    · unfold Sts
      rw [eN 1 (by omega) (by omega) (by omega), eN 3 (by omega) (by omega) (by omega), eN 4 (by omega) (by omega) (by omega)]
      exact hSt
    · rw [e22]
      unfold upd
      by_cases g : k = q'
      · rw [if_pos g]; exact hw
      · rw [if_neg g]; exact hQ k (by omega)
  have h1 : InvO c I3 S1 := ⟨hB1, hC.same (eN 19 (by omega) (by omega) (by omega)) (eN 16 (by omega) (by omega) (by omega)), hc, by rw [sN 3 (by omega)]; exact h3, by rw [sN 7 (by omega)]; exact h7, ⟨q + 1, t1, t2, by omega, s2, by omega, by rw [sN 4 (by omega)]; exact q4, by omega, by rw [sN 8 (by omega)]; exact q8⟩, by rw [sN 6 (by omega)]; exact h6, by rw [sN 10 (by omega)]; exact h10⟩
  refine r_reckonTo_O (c := c) (q := q + 1) (t := t1) hB1 (by rw [sN 3 (by omega)]; exact h3) hc (by omega) s2 (by rw [sN 4 (by omega)]; exact q4) (by omega) (by rw [sN 6 (by omega)]; exact h6) (by omega) hc (fun I' J' S' L' hR => ?_)
  rw [Nat.max_self] at hR
  exact ⟨⟨(Rk_2 hR).1.trans (eN 1 (by omega) (by omega) (by omega)), (Rk_2 hR).2.1.trans (eN 2 (by omega) (by omega) (by omega)), (Rk_2 hR).2.2.trans (sN 1 (by omega))⟩, h1.rk s2 (by omega) (Nat.le_refl _) hc hR⟩
end
