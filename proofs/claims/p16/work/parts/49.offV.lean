def Gd (p0 p1 p2 p3 p4 p5 : Int32) : Prop := Tf p0 p2 p3 p4 ∧ (Ps p0 → W12 p5 ∧ ¬ p5 = p1)
def BgOK (c b : Nat) (p0 p1 p2 p3 p4 p5 p6 p7 : Int32) : Prop := W12 p1 ∧ ¬ p2 < 1 ∧ ¬ (4095 : Int32) < p2 ∧ Dc c p3 ∧ b < 24 ∧ Gd p0 p1 p4 p5 p6 p7
def BgS (c b : Nat) (p0 p1 p2 p3 p4 p5 p6 p7 r s : Int32) : Prop := (BgOK c b p0 p1 p2 p3 p4 p5 p6 p7 ∧ r = nI b ∧ s = nI (b + 1)) ∨ (¬ BgOK c b p0 p1 p2 p3 p4 p5 p6 p7 ∧ r = -1 ∧ s = nI b)
def RpOK (f1 : Nat → Int32) (p0 p1 p2 p3 p4 : Int32) : Prop := W12 p0 ∧ ¬ f1 p0.toNatClampNeg = 0 ∧ Tl p1 ∧ (p4 = 0 ∨ (Tl p2 ∧ Tl p3))
def RSpec (P : Prop) (r : Int32) : Prop := (P ∧ r = 1) ∨ (¬ P ∧ r = 0)
theorem Tf_rng {k x y z : Int32} (h : Tf k x y z) : ¬ k < 0 ∧ ¬ (4 : Int32) < k := by
  rcases h with ⟨a, _⟩ | ⟨a, _⟩ | ⟨a, _⟩ | ⟨a, _⟩ | ⟨a, _⟩ <;> subst a <;> decide
section
variable {n0 n1 : Nat} {I : TI} {J : TJ} {S : TS} {L : TL} {c : Nat}
theorem t_bargTail {b : Nat} {p0 p1 p2 p3 p4 p5 p6 p7 : Int32} {Φ : Int32 → TI → TJ → TS → TL → Prop} (hb : b < 24) (h1 : S 1 = nI b) (hf : ∀ (I' : TI) (S' : TS), (∀ n, n < 6 ∨ 14 ≤ n → I' n = I n) → I' 6 = upd (I 6) b p0 → I' 7 = upd (I 7) b p1 → I' 11 = upd (I 11) b p5 → I' 13 = upd (I 13) b p7 → (∀ j, j ≠ 1 → S' j = S j) → S' 1 = nI (b + 1) → Φ (nI b) I' J S' L) : wp_X0_add_O n0 n1 I J S L p0 p1 p2 p3 (fun r I J S L => wp_X0_agree_O n0 n1 I J S L r p4 p5 p6 p7 (fun I J S L => Φ r I J S L)) := by
  have hv : vp_in (nI b) 24 := vp_in_nI hb (by omega)
  unfold wp_X0_add_O wp_X0_add
  intro x hx
  rw [h1] at hx
  subst hx
  rw [clN (by omega)]
  refine ⟨hv, fun I1 e1 => ⟨hv, fun I2 e2 => ⟨hv, fun I3 e3 => ⟨hv, fun I4 e4 => fun S1 eS => ?_⟩⟩⟩⟩
  show wp_X0_agree_O n0 n1 I4 J (va_up S1 0 (S 0)) L (nI b) p4 p5 p6 p7 (fun I J S L => Φ (nI b) I J S L)
  have s0 : va_up S1 0 (S 0) = S1 := upS_same (by rw [eS, va_up_ne _ _ (by omega)])
  rw [s0]
  unfold wp_X0_agree_O wp_X0_agree
  rw [clN (by omega)]
  refine ⟨hv, fun I5 e5 => ⟨hv, fun I6 e6 => ⟨hv, fun I7 e7 => ⟨hv, fun I8 e8 => ?_⟩⟩⟩⟩
  show Φ (nI b) I8 J (va_up S1 0 (S1 0)) L
  rw [up_same]
  have tr : ∀ n, n ≠ 13 → n ≠ 12 → n ≠ 11 → n ≠ 10 → n ≠ 9 → n ≠ 8 → n ≠ 7 → n ≠ 6 → I8 n = I n := fun n a1 a2 a3 a4 a5 a6 a7 a8 => by rw [e8, va_up_ne _ _ a1, e7, va_up_ne _ _ a2, e6, va_up_ne _ _ a3, e5, va_up_ne _ _ a4, e4, va_up_ne _ _ a5, e3, va_up_ne _ _ a6, e2, va_up_ne _ _ a7, e1, va_up_ne _ _ a8]
  refine hf I8 S1 (fun n hn => tr n (by omega) (by omega) (by omega) (by omega) (by omega) (by omega) (by omega) (by omega)) ?_ ?_ ?_ ?_ (fun j hj => by rw [eS, va_up_ne _ _ hj]) (by rw [eS, va_up_self, h1]; exact nI_1 b)
  · rw [e8, va_up_ne _ _ (by omega), e7, va_up_ne _ _ (by omega), e6, va_up_ne _ _ (by omega), e5, va_up_ne _ _ (by omega), e4, va_up_ne _ _ (by omega), e3, va_up_ne _ _ (by omega), e2, va_up_ne _ _ (by omega), e1, va_up_self]
  · rw [e8, va_up_ne _ _ (by omega), e7, va_up_ne _ _ (by omega), e6, va_up_ne _ _ (by omega), e5, va_up_ne _ _ (by omega), e4, va_up_ne _ _ (by omega), e3, va_up_ne _ _ (by omega), e2, va_up_self, e1, va_up_ne _ _ (by omega)]
  · rw [e8, va_up_ne _ _ (by omega), e7, va_up_ne _ _ (by omega), e6, va_up_self, e5, va_up_ne _ _ (by omega), e4, va_up_ne _ _ (by omega), e3, va_up_ne _ _ (by omega), e2, va_up_ne _ _ (by omega), e1, va_up_ne _ _ (by omega)]
  · rw [e8, va_up_self, e7, va_up_ne _ _ (by omega), e6, va_up_ne _ _ (by omega), e5, va_up_ne _ _ (by omega), e4, va_up_ne _ _ (by omega), e3, va_up_ne _ _ (by omega), e2, va_up_ne _ _ (by omega), e1, va_up_ne _ _ (by omega)]
theorem Bgs.add {b : Nat} {I I' : TI} {p0 p1 p5 p7 : Int32} (h : Bgs b I) (w1 : W12 p1) (w7 : Ps p0 → W12 p7) (w5 : p0 = 4 → ∃ y : Nat, 1 ≤ y ∧ y ≤ 8 ∧ p5 = nI y) (e6 : I' 6 = upd (I 6) b p0) (e7 : I' 7 = upd (I 7) b p1) (e11 : I' 11 = upd (I 11) b p5) (e13 : I' 13 = upd (I 13) b p7) : Bgs (b + 1) I' := by
  intro n hn
  rw [e6, e7, e11, e13]
  unfold upd
  by_cases g : n = b
  · rw [if_pos g, if_pos g, if_pos g, if_pos g]
    exact ⟨w1, w7, w5⟩
  · rw [if_neg g, if_neg g, if_neg g, if_neg g]
    exact h n (by omega)
theorem Tf_y {k x y z : Int32} (h : Tf k x y z) (e : k = 4) : ∃ n : Nat, 1 ≤ n ∧ n ≤ 8 ∧ y = nI n := by
  rcases h with ⟨a, _⟩ | ⟨a, _⟩ | ⟨a, _⟩ | ⟨a, _⟩ | ⟨a, _, h1, h8⟩
  · rw [e] at a; exact absurd a (by decide)
  · rw [e] at a; exact absurd a (by decide)
  · rw [e] at a; exact absurd a (by decide)
  · rw [e] at a; exact absurd a (by decide)
  · have h0 : ¬ y < 0 := fun g => h1 (Int32.lt_trans g (by decide))
    obtain ⟨n, hn, rfl⟩ := nI_of h0
    refine ⟨n, ?_, ?_, rfl⟩
    · rcases Nat.lt_or_ge n 1 with q | q
      · exact absurd (nI_lt (b := 1) q (by omega)) h1
      · exact q
    · rcases Nat.lt_or_ge 8 n with q | q
      · exact absurd (nI_lt (a := 8) q (by omega)) h8
      · exact q
set_option maxHeartbeats 1000000 in
theorem t_X7_bargain (p0 p1 p2 p3 p4 p5 p6 p7 : Int32) (h : InvO c I S) : wp_X7_bargain 600 0 I J S L p0 p1 p2 p3 p4 p5 p6 p7 (fun r I' _ S' _ => (I' 1 = I 1 ∧ I' 2 = I 2) ∧ InvO c I' S' ∧ ∀ b : Nat, b ≤ 24 → S 1 = nI b → BgS c b p0 p1 p2 p3 p4 p5 p6 p7 r (S' 1)) := by
  obtain ⟨hB, hC, hc, h3, h7, hq, h6, h10⟩ := id h
  obtain ⟨⟨b, hb, h1, hBg⟩, hSt, hQ, hZ⟩ := id hB
  have ub : ∀ {b' : Nat}, b' ≤ 24 → S 1 = nI b' → b' = b := fun hb' e => (nI_eq (by omega) (by omega)).mp (e.symm.trans h1)
  have N : (BgOK c b p0 p1 p2 p3 p4 p5 p6 p7 → False) → (I 1 = I 1 ∧ I 2 = I 2) ∧ InvO c I S ∧ ∀ b : Nat, b ≤ 24 → S 1 = nI b → BgS c b p0 p1 p2 p3 p4 p5 p6 p7 (-1) (S 1) := fun hn => ⟨⟨rfl, rfl⟩, h, fun b' hb' e => by
    have g := ub hb' e
    subst g
    exact Or.inr ⟨hn, rfl, h1⟩⟩
  unfold wp_X7_bargain
  refine ⟨_, fun _ _ _ _ hB => hB, fun e0 => N (fun k => (Tf_rng k.2.2.2.2.2.1).1 e0), fun e0 => ⟨fun e4 => N (fun k => (Tf_rng k.2.2.2.2.2.1).2 e4), fun e4 => ?_⟩⟩
  refine s_X7_isHand (fun hw => ⟨fun hc => absurd hc (by decide), fun _ => ⟨fun g => N (fun k => k.2.1 g), fun g1 => ⟨fun g2 => ?_, fun g => N (fun k => k.2.2.1 (Int32.not_le.mp g))⟩⟩⟩) (fun hw => ⟨fun _ => N (fun k => hw k.1), fun hc => absurd rfl hc⟩)
  have fin : BgOK c b p0 p1 p2 p3 p4 p5 p6 p7 → wp_X0_add_O 600 0 I J S L p0 p1 p2 p3 (fun r I0 J0 S0 L0 => wp_X0_agree_O 600 0 I0 J0 S0 L0 r p4 p5 p6 p7 (fun I' J' S' L' => (I' 1 = I 1 ∧ I' 2 = I 2) ∧ InvO c I' S' ∧ ∀ b : Nat, b ≤ 24 → S 1 = nI b → BgS c b p0 p1 p2 p3 p4 p5 p6 p7 r (S' 1))) := by
    intro hok
    have hb2 := hok.2.2.2.2.1
    refine t_bargTail (Φ := fun r I' _ S' _ => (I' 1 = I 1 ∧ I' 2 = I 2) ∧ InvO c I' S' ∧ ∀ b : Nat, b ≤ 24 → S 1 = nI b → BgS c b p0 p1 p2 p3 p4 p5 p6 p7 r (S' 1)) hb2 h1 (fun I' S' eN e6 e7 e11 e13 eS s1 => ?_)
    refine ⟨⟨eN 1 (by omega), eN 2 (by omega)⟩, ⟨⟨⟨b + 1, by omega, s1, hBg.add hw (fun k => (hok.2.2.2.2.2.2 k).1) (fun e => Tf_y hok.2.2.2.2.2.1 e) e6 e7 e11 e13⟩, ?_, ?_, ?_⟩, hC.same (eN 19 (by omega)) (eN 16 (by omega)), hc, by rw [eS 3 (by omega)]; exact h3, by rw [eS 7 (by omega)]; exact h7, by rw [eS 2 (by omega), eS 4 (by omega), eS 8 (by omega)]; exact hq, by rw [eS 6 (by omega)]; exact h6, by rw [eS 10 (by omega)]; exact h10⟩, fun b' hb' e => ?_⟩
    · unfold Sts
      rw [eN 1 (by omega), eN 3 (by omega), eN 4 (by omega)]
      exact hSt
    · rw [eS 2 (by omega), eN 22 (by omega)]
      exact hQ
    · rw [eN 19 (by omega), eN 18 (by omega)]
      exact hZ
    · have g := ub hb' e
      subst g
      exact Or.inl ⟨hok, rfl, s1⟩
  refine t_dayAhead h3 (fun hd => ?_) (fun hd => ⟨_, fun _ _ _ _ hB => hB, fun _ => N (fun k => hd k.2.2.2.1), fun hc => absurd rfl hc⟩)
  refine ⟨_, fun _ _ _ _ hB => hB, fun hc => absurd hc (by decide), fun _ => ⟨fun g => N (fun k => ?_), fun h24 => ?_⟩⟩
  · rw [h1] at g
    exact absurd g (nI_ge (b := 24) k.2.2.2.2.1 (by omega))
  have hb2 : b < 24 := by
    rw [h1] at h24
    exact nI_nleN (N := 24) (by omega) hb h24
  refine s_X7_termsFit (fun hT => ⟨fun _ => ?_, fun hc => absurd hc (by decide)⟩) (fun hT => ⟨fun hc => absurd rfl hc, fun _ => N (fun k => hT k.2.2.2.2.2.1)⟩)
  have ok : (Ps p0 → W12 p7 ∧ ¬ p7 = p1) → BgOK c b p0 p1 p2 p3 p4 p5 p6 p7 := fun k => ⟨hw, g1, Int32.not_lt.mpr g2, hd, hb2, hT, k⟩
  refine s_X7_passesOn (fun hps => ?_) (fun hps => ⟨_, fun _ _ _ _ hB => hB, fun _ => fin (ok (fun k => absurd k hps)), fun hc => absurd rfl hc⟩)
  refine ⟨fun I' J' S' L' => I' = I ∧ J' = J ∧ S' = S ∧ L' = L ∧ W12 p7 ∧ ¬ p7 = p1, ?_, fun hc => absurd hc (by decide), fun _ => ?_⟩
  · rintro I' J' S' L' ⟨rfl, rfl, rfl, rfl, hw7⟩
    exact fin (ok (fun _ => hw7))
  refine s_X7_isHand (fun hw7 => ?_) (fun hw7 => ⟨_, fun _ _ _ _ hB => hB, fun _ => N (fun k => hw7 (k.2.2.2.2.2.2 hps).1), fun hc => absurd rfl hc⟩)
  exact ⟨_, fun _ _ _ _ hB => hB, fun hc => absurd hc (by decide), fun _ => ⟨fun hne => ⟨rfl, rfl, rfl, rfl, hw7, hne⟩, fun e => N (fun k => (k.2.2.2.2.2.2 hps).2 e)⟩⟩
theorem t_reportFits {p0 p1 p2 p3 p4 : Int32} {Φ : Int32 → TI → TJ → TS → TL → Prop} (h1 : RpOK (I 1) p0 p1 p2 p3 p4 → Φ 1 I J S L) (h0 : ¬ RpOK (I 1) p0 p1 p2 p3 p4 → Φ 0 I J S L) : wp_X7_reportFits 600 0 I J S L p0 p1 p2 p3 p4 Φ := by
  unfold wp_X7_reportFits
  refine s_X7_isWork (fun hw => ?_) (fun hw => ⟨_, fun _ _ _ _ hB => hB, fun _ => h0 (fun k => hw k.1), fun hc => absurd rfl hc⟩)
  refine ⟨_, fun _ _ _ _ hB => hB, fun hc => absurd hc (by decide), fun _ => ⟨W12_in hw, fun e => h0 (fun k => k.2.1 e), fun ne => ?_⟩⟩
  refine s_X7_isTold (fun ha => ⟨fun _ => ?_, fun hc => absurd hc (by decide)⟩) (fun ha => ⟨fun hc => absurd rfl hc, fun _ => h0 (fun k => ha k.2.2.1)⟩)
  refine ⟨_, fun _ _ _ _ _ hB => hB, _, fun _ _ _ _ hB => hB, fun e => ⟨Or.inr rfl, h1 ⟨hw, ne, ha, Or.inl e⟩⟩, fun nd => ?_⟩
  have no : ¬ (Tl p2 ∧ Tl p3) → ¬ RpOK (I 1) p0 p1 p2 p3 p4 := fun g k => by
    rcases k.2.2.2 with q | q
    · exact nd q
    · exact g q
  refine s_X7_isTold (fun hb => ?_) (fun hb => ⟨_, fun _ _ _ _ hB => hB, fun _ => ⟨Or.inl rfl, h0 (no (fun q => hb q.1))⟩, fun hc => absurd rfl hc⟩)
  refine ⟨_, fun _ _ _ _ hB => hB, fun hc => absurd hc (by decide), fun _ => ?_⟩
  exact s_X7_isTold (fun hc3 => ⟨fun hc => absurd hc (by decide), fun _ => ⟨Or.inr rfl, h1 ⟨hw, ne, ha, Or.inr ⟨hb, hc3⟩⟩⟩⟩) (fun hc3 => ⟨fun _ => ⟨Or.inl rfl, h0 (no (fun q => hc3 q.2))⟩, fun hc => absurd rfl hc⟩)
theorem t_X7_tear (p0 : Int32) (h : InvO c I S) : wp_X7_tear 600 0 I J S L p0 (fun r I' _ S' _ => Same2 I I' S S' ∧ InvO c I' S' ∧ RSpec (c < 40 ∧ ¬ p0 < -1 ∧ ¬ (12 : Int32) < p0) r) := by
  obtain ⟨hB, hC, hc, h3, h7, hq, h6, h10⟩ := id h
  have N : ¬ (c < 40 ∧ ¬ p0 < -1 ∧ ¬ (12 : Int32) < p0) → Same2 I I S S ∧ InvO c I S ∧ RSpec (c < 40 ∧ ¬ p0 < -1 ∧ ¬ (12 : Int32) < p0) 0 := fun hn => ⟨⟨rfl, rfl, rfl⟩, h, Or.inr ⟨hn, rfl⟩⟩
  unfold wp_X7_tear
  intro x ex
  rw [h3] at ex
  subst ex
  refine ⟨_, fun _ _ _ _ hB => hB, fun e4 => N (fun k => absurd e4 (nI_ge (b := 40) k.1 (by omega))), fun h4 => ⟨fun e1' => N (fun k => k.2.1 e1'), fun e1' => ⟨fun e2' => ?_, fun e2' => N (fun k => k.2.2 (Int32.not_le.mp e2'))⟩⟩⟩
  intro x2 _
  unfold wp_X4_tearAt_O wp_X4_tearAt
  have hc4 : c < 40 := by
    rcases Nat.lt_or_ge c 40 with g | g
    · exact g
    · exact absurd (nI_le (a := 40) g (by omega)) h4
  refine ⟨vp_in_nI hc4 (by omega), fun I1 e1 => ?_⟩
  show Same2 I I1 S (va_up S 0 (S 0)) ∧ InvO c I1 (va_up S 0 (S 0)) ∧ RSpec (c < 40 ∧ ¬ p0 < -1 ∧ ¬ (12 : Int32) < p0) 1
  rw [up_same]
  have eN : ∀ n, n ≠ 20 → I1 n = I n := fun n hn => by rw [e1, va_up_ne _ _ hn]
  refine ⟨⟨eN 1 (by omega), eN 2 (by omega), rfl⟩, ⟨?_, hC.same (eN 19 (by omega)) (eN 16 (by omega)), hc, h3, h7, hq, h6, h10⟩, Or.inl ⟨⟨hc4, e1', Int32.not_lt.mpr e2'⟩, rfl⟩⟩
  obtain ⟨⟨b, hb, h1, hBg⟩, hSt, hQ, hZ⟩ := id hB
  refine ⟨⟨b, hb, h1, ?_⟩, ?_, by rw [eN 22 (by omega)]; exact hQ, by rw [eN 19 (by omega), eN 18 (by omega)]; exact hZ⟩
  · unfold Bgs
    rw [eN 7 (by omega), eN 6 (by omega), eN 13 (by omega), eN 11 (by omega)]
    exact hBg
  · unfold Sts
    rw [eN 1 (by omega), eN 3 (by omega), eN 4 (by omega)]
    exact hSt
end
