theorem nI_case {t : Nat} {x : Int32} (N : Nat) (hN : N < 2 ^ 31) (h0 : ¬ x < 0) (h : ¬ nI N ≤ x) : ∃ t : Nat, t < N ∧ x = nI t := by
  obtain ⟨j, hj, rfl⟩ := nI_of h0
  refine ⟨j, ?_, rfl⟩
  rcases Nat.lt_or_ge j N with g | g
  · exact g
  · exact absurd (nI_le g (by omega)) h
section
variable {I : TI} {J : TJ} {S : TS} {L : TL} {c b : Nat}
set_option maxHeartbeats 2000000 in
theorem t_X8_share (p0 p1 p2 p3 p4 p5 p6 p7 : Int32) (h : InvM c b I S) : wp_X8_share I J S L p0 p1 p2 p3 p4 p5 p6 p7 (fun r I' _ S' _ => InvM c b I' S' ∧ ShSpec c (I 1) (I 2) p0 p1 p2 p3 p4 p5 p6 p7 r (I' 1) (I' 2)) := by
  obtain ⟨⟨hc, s0⟩, ⟨hb, s1, hB⟩, hSt, hOr, hCt, hQ⟩ := id h
  have N : ¬ OKx c (I 1) (I 2) p0 p1 p2 p3 p4 p5 p6 p7 → InvM c b I S ∧ ShSpec c (I 1) (I 2) p0 p1 p2 p3 p4 p5 p6 p7 (-1) (I 1) (I 2) := fun hn => ⟨h, Or.inr ⟨hn, rfl, rfl, rfl⟩⟩
  unfold wp_X8_share
  refine s_X8_isWork (fun hw => ?_) (fun hw => ⟨_, fun _ _ _ _ hB => hB, fun _ => N (fun k => hw k.1), fun hc => absurd rfl hc⟩)
  refine ⟨_, fun _ _ _ _ hB => hB, fun hc => absurd hc (by decide), fun _ => ?_⟩
  refine s_X8_isHand (fun ha => ⟨fun hc => absurd hc (by decide), fun _ => ?_⟩) (fun ha => ⟨fun _ => N (fun k => ha k.2.2.2.1), fun hc => absurd rfl hc⟩)
  refine s_X8_isPartW ha (fun hpa => ⟨fun hc => absurd hc (by decide), fun _ => ?_⟩) (fun hpa => ⟨fun _ => N (fun k => hpa k.2.2.2.2.1), fun hc => absurd rfl hc⟩)
  refine s_X8_isPart (fun hb4 => ⟨fun hc => absurd hc (by decide), fun _ => ?_⟩) (fun hb4 => ⟨fun _ => N (fun k => hb4 k.2.2.2.2.2.1), fun hc => absurd rfl hc⟩)
  refine s_X8_isPart (fun hc6 => ⟨fun hc => absurd hc (by decide), fun _ => ?_⟩) (fun hc6 => ⟨fun _ => N (fun k => hc6 k.2.2.2.2.2.2.1), fun hc => absurd rfl hc⟩)
  refine ⟨fun I' J' S' L' => I' = I ∧ J' = J ∧ S' = S ∧ L' = L ∧ ¬ (p4 = -1 ∧ ¬ p6 = -1), ?_, fun h4 => ⟨rfl, rfl, rfl, rfl, fun k => h4 k.1⟩, fun h4 => ⟨fun h6 => ⟨rfl, rfl, rfl, rfl, fun k => k.2 h6⟩, fun h6 => N (fun k => k.2.2.2.2.2.2.2.1 ⟨h4, h6⟩)⟩⟩
  rintro I' J' S' L' ⟨rfl, rfl, rfl, rfl, hG⟩
  refine ⟨_, fun _ _ _ _ hB => hB, fun e => N (fun k => k.2.2.2.2.2.2.2.2.1 e), fun e24 => ⟨fun e => N (fun k => k.2.2.2.2.2.2.2.2.2.1 e), fun e26 => ?_⟩⟩
  refine ⟨fun I2 J2 S2 L2 => I2 = I' ∧ J2 = J' ∧ S2 = S' ∧ L2 = L' ∧ ¬ (¬ p4 = -1 ∧ p4 = p6), ?_, fun e46 => ⟨rfl, rfl, rfl, rfl, fun k => e46 k.2⟩, fun e46 => ⟨fun e4 => N (fun k => k.2.2.2.2.2.2.2.2.2.2.1 ⟨e4, e46⟩), fun e4 => ⟨rfl, rfl, rfl, rfl, fun k => k.1 e4⟩⟩⟩
  rintro I2 J2 S2 L2 ⟨rfl, rfl, rfl, rfl, hA⟩
  refine ⟨fun hsum => N (fun k => hsum k.2.2.2.2.2.2.2.2.2.2.2), fun hsum => ?_⟩
  refine m_isDay s0 (fun hd => ⟨fun _ => ?_, fun hc => absurd hc (by decide)⟩) (fun hd => ⟨fun hc => absurd rfl hc, fun _ => N (fun k => hd k.2.1)⟩)
  obtain ⟨j, hj, ej⟩ := W12_cases hw
  subst ej
  obtain ⟨k, hk6, ek⟩ := hSt.1 j hj
  have ecl : (nI j).toNatClampNeg = j := clN (by omega)
  have hi : vp_in (nI j) 12 := vp_in_nI hj (by omega)
  have u : ∀ {k' : Nat}, k' < 6 → I2 1 j = nI k' → k' = k := fun h e => (nI_eq (by omega) (by omega)).mp (e.symm.trans ek)
  have e6 : (6 : Int32) * nI j + nI k = nI (j * 6 + k) := by rw [show (6 : Int32) = nI 6 from rfl, pk_mul, nI_add, Nat.mul_comm]
  rw [ecl, ek]
  refine ⟨hi, fun x ex => ?_⟩
  subst ex
  refine ⟨_, fun _ _ _ _ hB => hB, fun h6 => N (fun kk => ?_), fun h6 => ?_⟩
  · obtain ⟨k', e', hk', -⟩ := kk.2.2.1
    rw [ecl] at e'
    have := u hk' e'
    have : k = 6 := (nI_eq (b := 6) (by omega) (by omega)).mp h6
    omega
  have hk5 : k < 6 := by
    rcases Nat.lt_or_ge k 6 with g | g
    · exact g
    · exact absurd (by rw [show k = 6 by omega]; rfl) h6
  refine ⟨fun I3 J3 S3 L3 x => I3 = I2 ∧ J3 = J2 ∧ S3 = S2 ∧ L3 = L2 ∧ x = nI k ∧ Rm (I2 1) (I2 2) j p1, ?_, fun h0 => ⟨rfl, rfl, rfl, rfl, rfl, ⟨k, ek, hk5, Or.inl ?_⟩⟩, fun h0 => ?_⟩
  · rintro I3 J3 S3 L3 x ⟨rfl, rfl, rfl, rfl, rfl, hr⟩ x63 e63
    rw [e6] at e63
    subst e63
    have e3 : (3 : Int32) * nI (j * 6 + k) = nI (3 * (j * 6 + k)) := by rw [show (3 : Int32) = nI 3 from rfl, pk_mul]
    rw [e3, show (1 : Int32) = nI 1 from rfl, show (2 : Int32) = nI 2 from rfl, nI_add, nI_add, nI_add, clN (show j * 6 + k < 2 ^ 31 by omega), clN (show 3 * (j * 6 + k) < 2 ^ 31 by omega), clN (show 3 * (j * 6 + k) + 1 < 2 ^ 31 by omega), clN (show 3 * (j * 6 + k) + 2 < 2 ^ 31 by omega)]
    have v0 : vp_in (nI (3 * (j * 6 + k))) 216 := vp_in_nI (by omega) (by omega)
    have v1 : vp_in (nI (3 * (j * 6 + k) + 1)) 216 := vp_in_nI (by omega) (by omega)
    have v2 : vp_in (nI (3 * (j * 6 + k) + 2)) 216 := vp_in_nI (by omega) (by omega)
    refine ⟨vp_in_nI (by omega) (by omega), fun I4 e4 => ⟨v0, fun I5 e5 => ⟨v1, fun I6 e6 => ⟨v2, fun I7 e7 => ⟨v0, fun I8 e8 => ⟨v1, fun I9 e9 => ⟨v2, fun I10 e10 => ⟨hi, fun I11 e11 => ?_⟩⟩⟩⟩⟩⟩⟩⟩
    have g4 : ∀ n, n ≠ 2 → I4 n = I3 n := fun n h => by rw [e4, va_up_ne _ _ h]
    have g5 : ∀ n, n ≠ 3 → I5 n = I4 n := fun n h => by rw [e5, va_up_ne _ _ h]
    have g6 : ∀ n, n ≠ 3 → I6 n = I5 n := fun n h => by rw [e6, va_up_ne _ _ h]
    have g7 : ∀ n, n ≠ 3 → I7 n = I6 n := fun n h => by rw [e7, va_up_ne _ _ h]
    have g8 : ∀ n, n ≠ 4 → I8 n = I7 n := fun n h => by rw [e8, va_up_ne _ _ h]
    have g9 : ∀ n, n ≠ 4 → I9 n = I8 n := fun n h => by rw [e9, va_up_ne _ _ h]
    have g10 : ∀ n, n ≠ 4 → I10 n = I9 n := fun n h => by rw [e10, va_up_ne _ _ h]
    have g11 : ∀ n, n ≠ 1 → I11 n = I10 n := fun n h => by rw [e11, va_up_ne _ _ h]
    have eN : ∀ n, n ≠ 1 → n ≠ 2 → n ≠ 3 → n ≠ 4 → I11 n = I3 n := fun n a1 a2 a3 a4 => by rw [g11 n a1, g10 n a4, g9 n a4, g8 n a4, g7 n a3, g6 n a3, g5 n a3, g4 n a2]
    have r1 : I11 1 = upd (I3 1) j (nI (k + 1)) := by rw [e11, va_up_self, g10 1 (by omega), g9 1 (by omega), g8 1 (by omega), g7 1 (by omega), g6 1 (by omega), g5 1 (by omega), g4 1 (by omega)]
    have r2 : I11 2 = upd (I3 2) (j * 6 + k) p1 := by rw [g11 2 (by omega), g10 2 (by omega), g9 2 (by omega), g8 2 (by omega), g7 2 (by omega), g6 2 (by omega), g5 2 (by omega), e4, va_up_self]
    have r3 : I11 3 = upd (upd (upd (I3 3) (3 * (j * 6 + k)) p2) (3 * (j * 6 + k) + 1) p4) (3 * (j * 6 + k) + 2) p6 := by rw [g11 3 (by omega), g10 3 (by omega), g9 3 (by omega), g8 3 (by omega), e7, va_up_self, e6, va_up_self, e5, va_up_self, g4 3 (by omega)]
    have sw : ∀ {x y : Int32}, Sh x y → x = -1 ∨ W12 x := fun g => by
      rcases Sh_or g with g | g
      · exact Or.inl g.1
      · exact Or.inr g
    refine ⟨⟨⟨hc, s0⟩, ⟨hb, s1, ?_⟩, ⟨fun w hw => ?_, fun i hi => ?_⟩, ?_, ?_, ?_⟩, Or.inl ⟨⟨hw, hd, by rw [ecl]; exact hr, ha, hpa, hb4, hc6, hG, e24, e26, hA, hsum⟩, by rw [ecl, ek]; exact (nI_1 k).symm, by rw [ecl, ek, nI_1]; exact r1, by rw [ecl, ek, clN (by omega)]; exact r2⟩⟩
    · unfold MBg
      rw [eN 6 (by omega) (by omega) (by omega) (by omega), eN 5 (by omega) (by omega) (by omega) (by omega), eN 12 (by omega) (by omega) (by omega) (by omega), eN 10 (by omega) (by omega) (by omega) (by omega)]
      exact hB
    · rw [r1]
      by_cases g : w = j
      · rw [g, pk_us]; exact ⟨k + 1, by omega, rfl⟩
      · rw [pk_un g]; exact hSt.1 w hw
    · rw [r3]
      by_cases i2 : i = 3 * (j * 6 + k) + 2
      · rw [i2, pk_us]; exact sw hc6
      · rw [pk_un i2]
        by_cases i1 : i = 3 * (j * 6 + k) + 1
        · rw [i1, pk_us]; exact sw hb4
        · rw [pk_un i1]
          by_cases i0 : i = 3 * (j * 6 + k)
          · rw [i0, pk_us]; exact Or.inr ha
          · rw [pk_un i0]; exact hSt.2 i hi
    · unfold MOr
      rw [eN 18 (by omega) (by omega) (by omega) (by omega), eN 17 (by omega) (by omega) (by omega) (by omega)]
      exact hOr
    · unfold MCt
      rw [eN 18 (by omega) (by omega) (by omega) (by omega), eN 16 (by omega) (by omega) (by omega) (by omega)]
      exact hCt
    · rw [eN 38 (by omega) (by omega) (by omega) (by omega)]
      exact hQ
  · rcases Nat.eq_zero_or_pos k with g | g
    · exact g
    · exact absurd h0 (nI_nle g (by omega))
  · have hk0 : k ≠ 0 := fun e => h0 (by rw [e]; decide)
    have ei : (6 : Int32) * nI j + nI k - 1 = nI (j * 6 + k - 1) := by rw [e6, show (1 : Int32) = nI 1 from rfl, pk_sub (by omega)]
    rw [ei, clN (by omega)]
    refine ⟨vp_in_nI (by omega) (by omega), fun hlt => ⟨rfl, rfl, rfl, rfl, rfl, ⟨k, ek, hk5, Or.inr hlt⟩⟩, fun hlt => N (fun kk => ?_)⟩
    obtain ⟨k', e', hk', hor⟩ := kk.2.2.1
    rw [ecl] at e' hor
    have := u hk' e'
    subst this
    rcases hor with g | g
    · exact hk0 g
    · exact hlt g
set_option maxHeartbeats 1000000 in
theorem t_X8_bargain (p0 p1 p2 p3 p4 p5 p6 p7 : Int32) (h : InvM c b I S) : wp_X8_bargain I J S L p0 p1 p2 p3 p4 p5 p6 p7 (fun r I' _ S' _ => Sam2 I I' ∧ ((BgOK c b p0 p1 p2 p3 p4 p5 p6 p7 ∧ r = nI b ∧ InvM c (b + 1) I' S') ∨ (¬ BgOK c b p0 p1 p2 p3 p4 p5 p6 p7 ∧ r = -1 ∧ InvM c b I' S'))) := by
  obtain ⟨⟨hc, s0⟩, ⟨hb, s1, hB⟩, hSt, hOr, hCt, hQ⟩ := id h
  have N : ¬ BgOK c b p0 p1 p2 p3 p4 p5 p6 p7 → Sam2 I I ∧ ((BgOK c b p0 p1 p2 p3 p4 p5 p6 p7 ∧ (-1 : Int32) = nI b ∧ InvM c (b + 1) I S) ∨ (¬ BgOK c b p0 p1 p2 p3 p4 p5 p6 p7 ∧ (-1 : Int32) = -1 ∧ InvM c b I S)) := fun hn => ⟨⟨rfl, rfl⟩, Or.inr ⟨hn, rfl, h⟩⟩
  unfold wp_X8_bargain
  refine s_X8_isHand (fun hw => ?_) (fun hw => ⟨_, fun _ _ _ _ hB => hB, fun _ => N (fun k => hw k.1), fun hc => absurd rfl hc⟩)
  refine ⟨_, fun _ _ _ _ hB => hB, fun hc => absurd hc (by decide), fun _ => ⟨fun h2 => N (fun k => k.2.1 h2), fun h2 => ⟨fun h4 => N (fun k => k.2.2.1 h4), fun h4 => ?_⟩⟩⟩
  refine m_isDay s0 (fun hd => ⟨fun hc => absurd hc (by decide), fun _ => ?_⟩) (fun hd => ⟨fun _ => N (fun k => hd k.2.2.2.1), fun hc => absurd rfl hc⟩)
  rw [s1]
  refine ⟨fun h24 => N (fun k => ?_), fun h24 => ?_⟩
  · have := (nI_eq (b := 24) (by omega) (by omega)).mp h24
    have := k.2.2.2.2.1
    omega
  have hb2 : b < 24 := by
    rcases Nat.lt_or_ge b 24 with g | g
    · exact g
    · exact absurd (by rw [show b = 24 by omega]; rfl) h24
  refine s_X8_areGood (fun hg => ⟨fun _ x ex => ?_, fun hc => absurd hc (by decide)⟩) (fun hg => ⟨fun hc => absurd rfl hc, fun _ => N (fun k => hg k.2.2.2.2.2)⟩)
  rw [s1] at ex
  subst ex
  have hv : vp_in (nI b) 24 := vp_in_nI hb2 (by omega)
  rw [clN (show b < 2 ^ 31 by omega)]
  refine ⟨hv, fun I1 e1 => ⟨hv, fun I2 e2 => ⟨hv, fun I3 e3 => ⟨hv, fun I4 e4 => ⟨hv, fun I5 e5 => ⟨hv, fun I6 e6 => ⟨hv, fun I7 e7 => ⟨hv, fun I8 e8 S1 eS => ?_⟩⟩⟩⟩⟩⟩⟩⟩
  have g1 : ∀ n, n ≠ 5 → I1 n = I n := fun n h => by rw [e1, va_up_ne _ _ h]
  have g2 : ∀ n, n ≠ 6 → I2 n = I1 n := fun n h => by rw [e2, va_up_ne _ _ h]
  have g3 : ∀ n, n ≠ 7 → I3 n = I2 n := fun n h => by rw [e3, va_up_ne _ _ h]
  have g4 : ∀ n, n ≠ 8 → I4 n = I3 n := fun n h => by rw [e4, va_up_ne _ _ h]
  have g5 : ∀ n, n ≠ 9 → I5 n = I4 n := fun n h => by rw [e5, va_up_ne _ _ h]
  have g6 : ∀ n, n ≠ 10 → I6 n = I5 n := fun n h => by rw [e6, va_up_ne _ _ h]
  have g7 : ∀ n, n ≠ 11 → I7 n = I6 n := fun n h => by rw [e7, va_up_ne _ _ h]
  have g8 : ∀ n, n ≠ 12 → I8 n = I7 n := fun n h => by rw [e8, va_up_ne _ _ h]
  have eN : ∀ n, n < 5 ∨ 13 ≤ n → I8 n = I n := fun n hn => by rw [g8 n (by omega), g7 n (by omega), g6 n (by omega), g5 n (by omega), g4 n (by omega), g3 n (by omega), g2 n (by omega), g1 n (by omega)]
  have r5 : I8 5 = upd (I 5) b p0 := by rw [g8 5 (by omega), g7 5 (by omega), g6 5 (by omega), g5 5 (by omega), g4 5 (by omega), g3 5 (by omega), g2 5 (by omega), e1, va_up_self]
  have r6 : I8 6 = upd (I 6) b p1 := by rw [g8 6 (by omega), g7 6 (by omega), g6 6 (by omega), g5 6 (by omega), g4 6 (by omega), g3 6 (by omega), e2, va_up_self, g1 6 (by omega)]
  have r10 : I8 10 = upd (I 10) b p5 := by rw [g8 10 (by omega), g7 10 (by omega), e6, va_up_self, g5 10 (by omega), g4 10 (by omega), g3 10 (by omega), g2 10 (by omega), g1 10 (by omega)]
  have r12 : I8 12 = upd (I 12) b p7 := by rw [e8, va_up_self, g7 12 (by omega), g6 12 (by omega), g5 12 (by omega), g4 12 (by omega), g3 12 (by omega), g2 12 (by omega), g1 12 (by omega)]
  have tS : ∀ j, j ≠ 1 → S1 j = S j := fun j hj => by rw [eS, va_up_ne _ _ hj]
  refine ⟨⟨eN 1 (by omega), eN 2 (by omega)⟩, Or.inl ⟨⟨hw, h2, h4, hd, hb2, hg⟩, rfl, ⟨hc, by rw [tS 0 (by omega)]; exact s0⟩, ⟨by omega, by rw [eS, va_up_self]; exact nI_1 b, fun n hn => ?_⟩, ?_, ?_, ?_, ?_⟩⟩
  · rw [r5, r6, r10, r12]
    by_cases g : n = b
    · rw [g, pk_us, pk_us, pk_us, pk_us]
      exact ⟨hw, fun hp => (hg.2 hp).1, fun e => Tf_y hg.1 e⟩
    · rw [pk_un g, pk_un g, pk_un g, pk_un g]
      exact hB n (by omega)
  · unfold MSt
    rw [eN 1 (by omega), eN 3 (by omega)]
    exact hSt
  · unfold MOr
    rw [eN 18 (by omega), eN 17 (by omega)]
    exact hOr
  · unfold MCt
    rw [eN 18 (by omega), eN 16 (by omega)]
    exact hCt
  · rw [eN 38 (by omega), tS 4 (by omega)]
    exact hQ
theorem t_X8_report (p0 p1 p2 p3 p4 : Int32) (h : InvM c b I S) : wp_X8_report I J S L p0 p1 p2 p3 p4 (fun r I' _ S' _ => Sam2 I I' ∧ InvM c b I' S' ∧ RSpec (c < 40 ∧ RpOK (I 1) p0 p1 p2 p3 p4) r) := by
  obtain ⟨⟨hc, s0⟩, -, hSt, hOr, hCt, hQ⟩ := id h
  have N : ¬ (c < 40 ∧ RpOK (I 1) p0 p1 p2 p3 p4) → Sam2 I I ∧ InvM c b I S ∧ RSpec (c < 40 ∧ RpOK (I 1) p0 p1 p2 p3 p4) 0 := fun hn => ⟨⟨rfl, rfl⟩, h, Or.inr ⟨hn, rfl⟩⟩
  unfold wp_X8_report
  refine ⟨_, fun _ _ _ _ hB => hB, fun e4 => N (fun k => ?_), fun e4 => ?_⟩
  · rw [s0] at e4
    have := (nI_eq (b := 40) (by omega) (by omega)).mp e4
    omega
  have hc4 : c < 40 := by
    rcases Nat.lt_or_ge c 40 with g | g
    · exact g
    · exact absurd (by rw [s0, show c = 40 by omega]; rfl) e4
  refine m_isReport hSt (fun hr => ⟨fun _ => ?_, fun hc => absurd hc (by decide)⟩) (fun hr => ⟨fun hc => absurd rfl hc, fun _ => N (fun k => hr k.2)⟩)
  obtain ⟨w, hw, ew⟩ := W12_cases hr.1
  have hr2 := hr
  rw [s0]
  subst ew
  refine m_puts hCt hc4 hw (fun I' hF => ?_)
  exact ⟨⟨hF.1 1 (by omega), hF.1 2 (by omega)⟩, hF.inv h hc4 hw, Or.inl ⟨⟨hc4, hr2⟩, rfl⟩⟩
theorem t_X8_mend (p0 p1 p2 p3 p4 p5 : Int32) (h : InvM c b I S) : wp_X8_mend I J S L p0 p1 p2 p3 p4 p5 (fun r I' _ S' _ => Sam2 I I' ∧ InvM c b I' S' ∧ RSpec ((∃ t : Nat, t < c ∧ p0 = nI t) ∧ RpOK (I 1) p1 p2 p3 p4 p5) r) := by
  obtain ⟨⟨hc, s0⟩, -, hSt, hOr, hCt, hQ⟩ := id h
  have N : ¬ ((∃ t : Nat, t < c ∧ p0 = nI t) ∧ RpOK (I 1) p1 p2 p3 p4 p5) → Sam2 I I ∧ InvM c b I S ∧ RSpec ((∃ t : Nat, t < c ∧ p0 = nI t) ∧ RpOK (I 1) p1 p2 p3 p4 p5) 0 := fun hn => ⟨⟨rfl, rfl⟩, h, Or.inr ⟨hn, rfl⟩⟩
  unfold wp_X8_mend
  rw [s0]
  refine ⟨_, fun _ _ _ _ hB => hB, fun e4 => N (fun k => ?_), fun e0 => ⟨fun e4 => N (fun k => ?_), fun e4 => ?_⟩⟩
  · obtain ⟨⟨t, ht, rfl⟩, -⟩ := k
    exact absurd e4 (nI_pos (by omega))
  · obtain ⟨⟨t, ht, rfl⟩, -⟩ := k
    exact absurd e4 (nI_ge ht (by omega))
  obtain ⟨t, ht, rfl⟩ := nI_case (t := 0) c (by omega) e0 e4
  refine m_isReport hSt (fun hr => ⟨fun _ => ?_, fun hc => absurd hc (by decide)⟩) (fun hr => ⟨fun hc => absurd rfl hc, fun _ => N (fun k => hr k.2)⟩)
  obtain ⟨w, hw, ew⟩ := W12_cases hr.1
  have hr2 := hr
  subst ew
  refine m_puts hCt (by omega) hw (fun I' hF => ?_)
  rw [e12]
  refine ⟨vp_in_nI (by omega) (by omega), fun I2 e2 => ?_⟩
  have hN : ∀ n, n ≠ 20 → I2 n = I' n := fun n hn => by rw [e2, va_up_ne _ _ hn]
  have h2 : InvM c b I2 S := InvM.keep (hF.inv h (by omega) hw) (fun n hn => hN n (by omega)) (fun _ _ => rfl)
  exact ⟨⟨by rw [hN 1 (by omega)]; exact hF.1 1 (by omega), by rw [hN 2 (by omega)]; exact hF.1 2 (by omega)⟩, h2, Or.inl ⟨⟨⟨t, ht, rfl⟩, hr2⟩, rfl⟩⟩
theorem t_X8_tear (p0 : Int32) (h : InvM c b I S) : wp_X8_tear I J S L p0 (fun r I' _ S' _ => Sam2 I I' ∧ InvM c b I' S' ∧ RSpec (c < 40 ∧ ¬ p0 < -1 ∧ ¬ (12 : Int32) < p0) r) := by
  obtain ⟨⟨hc, s0⟩, -⟩ := id h
  have N : ¬ (c < 40 ∧ ¬ p0 < -1 ∧ ¬ (12 : Int32) < p0) → Sam2 I I ∧ InvM c b I S ∧ RSpec (c < 40 ∧ ¬ p0 < -1 ∧ ¬ (12 : Int32) < p0) 0 := fun hn => ⟨⟨rfl, rfl⟩, h, Or.inr ⟨hn, rfl⟩⟩
  unfold wp_X8_tear
  rw [s0]
  refine ⟨_, fun _ _ _ _ hB => hB, fun e1 => N (fun k => k.2.1 e1), fun e1 => ⟨fun e2 => N (fun k => k.2.2 e2), fun e2 => ⟨fun e4 => ?_, fun e4 => N (fun k => ?_)⟩⟩⟩
  · have hc4 : c < 40 := by
      rcases Nat.lt_or_ge c 40 with g | g
      · exact g
      · exact absurd (by rw [show c = 40 by omega]; rfl) e4
    refine ⟨fun I2 J2 S2 L2 a s => I2 = I ∧ S2 = S ∧ a = nI c, ?_, fun _ => ⟨rfl, rfl, rfl⟩, fun _ => ⟨rfl, rfl, rfl⟩⟩
    rintro I2 J2 S2 L2 a s ⟨rfl, rfl, rfl⟩
    refine ⟨vp_in_nI hc4 (by omega), fun I3 e3 => ?_⟩
    have hN : ∀ n, n ≠ 19 → I3 n = I2 n := fun n hn => by rw [e3, va_up_ne _ _ hn]
    exact ⟨⟨hN 1 (by omega), hN 2 (by omega)⟩, h.keep (fun n hn => hN n (by omega)) (fun _ _ => rfl), Or.inl ⟨⟨hc4, e1, e2⟩, rfl⟩⟩
  · have := (nI_eq (b := 40) (by omega) (by omega)).mp e4
    omega
theorem t_X8_close (h : InvM c b I S) : wp_X8_close I J S L (fun r I' _ S' _ => Sam2 I I' ∧ ((c < 40 ∧ r = nI c ∧ InvM (c + 1) b I' S') ∨ (c = 40 ∧ r = -1 ∧ InvM c b I' S'))) := by
  obtain ⟨⟨hc, s0⟩, ⟨hb, s1, hB⟩, hSt, hOr, hCt, hQ⟩ := id h
  unfold wp_X8_close
  refine ⟨fun e4 S1 eS => ?_, fun e4 => ⟨⟨rfl, rfl⟩, Or.inr ⟨?_, rfl, h⟩⟩⟩
  · have hc4 : c < 40 := by
      rcases Nat.lt_or_ge c 40 with g | g
      · exact g
      · exact absurd (by rw [s0, show c = 40 by omega]; rfl) e4
    have tS : ∀ j, j ≠ 3 → S1 j = S j := fun j hj => by rw [eS, va_up_ne _ _ hj]
    rw [tS 0 (by omega), s0]
    refine m_closes (l := 0) hB hb ((tS 1 (by omega)).trans s1) hSt hOr (by omega) hc4 (fun _ => by rw [eS, va_up_self]; rfl) (fun I2 J2 S2 L2 hI hS S3 e3 => ?_)
    have t0 : S2 0 = nI c := by rw [hS 0 (by omega) (by omega), tS 0 (by omega), s0]
    have t3 : S3 0 = nI (c + 1) := by rw [e3, va_up_self, t0]; exact nI_1 c
    refine ⟨FI_2 hI, Or.inl ⟨hc4, by rw [t3]; exact nI_pred c, ?_⟩⟩
    have h2 : InvM c b I2 S := h.keep (fun n hn => hI n (by omega)) (fun _ _ => rfl)
    obtain ⟨-, ⟨hb', s1', hB'⟩, hSt', hOr', hCt', q, hq, s4, hQ'⟩ := h2
    refine ⟨⟨by omega, t3⟩, ⟨hb', ?_, hB'⟩, hSt', hOr', hCt', q, hq, ?_, hQ'⟩
    · rw [e3, va_up_ne _ _ (by omega), hS 1 (by omega) (by omega), tS 1 (by omega), s1]
    · rw [e3, va_up_ne _ _ (by omega), hS 4 (by omega) (by omega), tS 4 (by omega), s4]
  · rw [s0] at e4
    exact (nI_eq (b := 40) (by omega) (by omega)).mp e4
theorem m_anewI {Φ : TI → TJ → TS → TL → Prop} (h : InvM c b I S) (hf : ∀ (I' : TI) (J' : TJ) (S' : TS) (L' : TL), FI I I' → FS S S' → InvM c b I' S' → Φ I' J' S' L') : wp_X8_anew I J S L Φ := by
  obtain ⟨⟨hc, s0⟩, ⟨hb, s1, hB⟩, hSt, hOr, hCt, q, hq, s4, hQ⟩ := id h
  exact m_anew hB hb s1 hSt hOr hc s0 hq s4 hQ (fun I' J' S' L' a1 a2 => hf I' J' S' L' a1 a2 (h.same a1 a2))
theorem t_X8_owe (h : InvM c b I S) : wp_X8_owe I J S L (fun _ I' _ S' _ => Sam2 I I' ∧ InvM c b I' S') := by
  unfold wp_X8_owe
  refine m_anewI h (fun I1 J1 S1 L1 a1 a2 h1 => ?_)
  refine ⟨fun n I' J' S' L' y x => I' = I1 ∧ S' = S1 ∧ ∃ k, k ≤ 12 ∧ x = nI k ∧ n = 12 - k, ⟨12, rfl, rfl, 0, by omega, rfl, rfl⟩, ?_⟩
  rintro n I' J' S' L' y x ⟨rfl, rfl, k, hk, rfl, rfl⟩
  refine ⟨fun _ => ⟨FI_2 a1, h1⟩, fun hc1 => ?_⟩
  have hk2 : k < 12 := nI_nleN (by omega) hk hc1
  refine m_owed hk2 (fun r y2 _ x2 ex2 => ?_)
  exact ⟨12 - (k + 1), by omega, rfl, rfl, k + 1, by omega, by rw [ex2]; exact nI_1 k, rfl⟩
theorem t_X8_settle (h : InvM c b I S) : wp_X8_settle I J S L (fun _ I' _ S' _ => Sam2 I I' ∧ InvM c b I' S') := by
  unfold wp_X8_settle
  refine m_anewI h (fun I1 J1 S1 L1 a1 a2 h1 => ?_)
  refine ⟨fun n I' J' S' L' y x => FI I1 I' ∧ S' = S1 ∧ ∃ k, k ≤ 12 ∧ x = nI k ∧ n = 12 - k, ⟨12, FI.rf, rfl, 0, by omega, rfl, rfl⟩, ?_⟩
  rintro n I2 J2 S2 L2 y x ⟨hI2, rfl, k, hk, rfl, rfl⟩
  refine ⟨fun _ => ?_, fun hc1 => ?_⟩
  · refine ⟨fun n I' J' S' L' y x => I' = I2 ∧ S' = S2 ∧ ∃ k, k ≤ 24 ∧ x = nI k ∧ n = 24 - k, ⟨24, rfl, rfl, 0, by omega, rfl, rfl⟩, ?_⟩
    rintro n I3 J3 S3 L3 y x ⟨rfl, rfl, k2, hk2, rfl, rfl⟩
    refine ⟨fun _ => ?_, fun hc2 => ?_⟩
    · refine ⟨fun n I' J' S' L' y x => I' = I3 ∧ S' = S3 ∧ ∃ k, k ≤ 960 ∧ x = nI k ∧ n = 960 - k, ⟨960, rfl, rfl, 0, by omega, rfl, rfl⟩, ?_⟩
      rintro n I4 J4 S4 L4 y x ⟨rfl, rfl, k3, hk3, rfl, rfl⟩
      refine ⟨fun _ => ⟨vp_in_nI (n := 1) (by omega) (by omega), vp_in_nI (n := 0) (by omega) (by omega), fun J5 _ S5 e5 => ?_⟩, fun hc3 => ?_⟩
      · have tS : ∀ j, j ≠ 5 → S5 j = S4 j := fun j hj => by rw [e5, va_up_ne _ _ hj]
        exact ⟨FI_2 (a1.tr hI2), h1.keep (fun n hn => hI2 n (by omega)) (fun j hj => tS j (by omega))⟩
      · have hk4 : k3 < 960 := nI_nleN (N := 960) (by omega) hk3 hc3
        have e9 : (960 : Int32) + nI k3 = nI (960 + k3) := by rw [show (960 : Int32) = nI 960 from rfl, nI_add]
        rw [e9]
        exact ⟨vp_in_nI (by omega) (by omega), vp_in_nI (by omega) (by omega), fun J5 _ x ex => ⟨960 - (k3 + 1), by omega, rfl, rfl, k3 + 1, by omega, by rw [ex]; exact nI_1 k3, rfl⟩⟩
    · have hk4 : k2 < 24 := nI_nleN (N := 24) (by omega) hk2 hc2
      have e9 : (24 : Int32) + nI k2 = nI (24 + k2) := by rw [show (24 : Int32) = nI 24 from rfl, nI_add]
      rw [e9]
      have w1 : vp_in (nI (24 + k2)) 48 := vp_in_nI (by omega) (by omega)
      have w2 : vp_in (nI k2) 48 := vp_in_nI (by omega) (by omega)
      exact ⟨w1, w2, fun J5 _ => ⟨w1, w2, fun J6 _ x ex => ⟨24 - (k2 + 1), by omega, rfl, rfl, k2 + 1, by omega, by rw [ex]; exact nI_1 k2, rfl⟩⟩⟩
  have hk2 : k < 12 := nI_nleN (by omega) hk hc1
  refine m_owed hk2 (fun r => ?_)
  refine ⟨fun I3 J3 S3 L3 x y s s2 => I3 = I2 ∧ S3 = S2 ∧ x = nI k, ?_, fun _ => ⟨rfl, rfl, rfl⟩, fun _ => ⟨rfl, rfl, rfl⟩⟩
  rintro I3 J3 S3 L3 x y s s2 ⟨rfl, rfl, rfl⟩ x2 _
  have e9 : (12 : Int32) + nI k = nI (12 + k) := by rw [show (12 : Int32) = nI 12 from rfl, nI_add]
  rw [e9]
  have w1 : vp_in (nI (12 + k)) 24 := vp_in_nI (by omega) (by omega)
  have w2 : vp_in (nI k) 24 := vp_in_nI (by omega) (by omega)
  exact ⟨w2, w2, w1, w2, fun J5 _ => ⟨w1, w2, fun J6 _ => ⟨w1, w2, fun I7 e7 x ex => ⟨12 - (k + 1), by omega, by rw [e7]; exact hI2.up (by omega) _, rfl, k + 1, by omega, by rw [ex]; exact nI_1 k, rfl⟩⟩⟩⟩
theorem t_X8_sent (p0 p1 : Int32) (h : InvM c b I S) : wp_X8_sent I J S L p0 p1 (fun _ I' _ S' _ => Sam2 I I' ∧ InvM c b I' S') := by
  obtain ⟨⟨hc, s0⟩, ⟨hb, s1, hB⟩, hSt, hOr, hCt, q, hq, s4, hQ⟩ := id h
  have N : Sam2 I I ∧ InvM c b I S := ⟨⟨rfl, rfl⟩, h⟩
  unfold wp_X8_sent
  refine s_X8_isHand (fun hw => ?_) (fun hw => ⟨_, fun _ _ _ _ hB => hB, fun _ => N, fun hc => absurd rfl hc⟩)
  rw [s4]
  refine ⟨_, fun _ _ _ _ hB => hB, fun _ => N, fun _ => ⟨fun _ => N, fun _ => ⟨fun _ => N, fun _ => ⟨fun e6 => ?_, fun _ => N⟩⟩⟩⟩
  have hq6 : q < 60 := by
    rcases Nat.lt_or_ge q 60 with g | g
    · exact g
    · exact absurd (by rw [show q = 60 by omega]; rfl) e6
  have hv : vp_in (nI q) 60 := vp_in_nI hq6 (by omega)
  rw [clN (show q < 2 ^ 31 by omega)]
  refine ⟨hv, fun I1 e1 => ⟨hv, fun I2 e2 => ⟨hv, fun I3 e3 S1 eS L1 _ => ?_⟩⟩⟩
  obtain ⟨w, hw2, rfl⟩ := W12_cases hw
  have tS : ∀ j, j ≠ 4 → S1 j = S j := fun j hj => by rw [eS, va_up_ne _ _ hj]
  have hN : ∀ n, n < 38 → I3 n = I n := fun n hn => by rw [e3, va_up_ne _ _ (by omega), e2, va_up_ne _ _ (by omega), e1, va_up_ne _ _ (by omega)]
  have r38 : I3 38 = upd (I 38) q (nI w) := by rw [e3, va_up_ne _ _ (by omega), e2, va_up_ne _ _ (by omega), e1, va_up_self]
  refine m_takes (l := 0) hb ((tS 1 (by omega)).trans s1) (by omega) hw2 (fun r J4 => ⟨⟨hN 1 (by omega), hN 2 (by omega)⟩, ⟨hc, by rw [tS 0 (by omega)]; exact s0⟩, ⟨hb, (tS 1 (by omega)).trans s1, ?_⟩, ?_, ?_, ?_, q + 1, by omega, by rw [eS, va_up_self]; exact nI_1 q, fun k hk => ?_⟩)
  · unfold MBg
    rw [hN 6 (by omega), hN 5 (by omega), hN 12 (by omega), hN 10 (by omega)]
    exact hB
  · unfold MSt
    rw [hN 1 (by omega), hN 3 (by omega)]
    exact hSt
  · unfold MOr
    rw [hN 18 (by omega), hN 17 (by omega)]
    exact hOr
  · unfold MCt
    rw [hN 18 (by omega), hN 16 (by omega)]
    exact hCt
  · rw [r38]
    by_cases g : k = q
    · rw [g, pk_us]; exact W12_nI hw2
    · rw [pk_un g]; exact hQ k (by omega)
theorem t_X8_due (p0 p1 : Int32) (h : InvM c b I S) : wp_X8_due I J S L p0 p1 (fun _ I' _ S' _ => Sam2 I I' ∧ InvM c b I' S') := by
  obtain ⟨⟨hc, s0⟩, -⟩ := id h
  have N : Sam2 I I ∧ InvM c b I S := ⟨⟨rfl, rfl⟩, h⟩
  unfold wp_X8_due
  refine s_X8_isHand (fun hw => ?_) (fun hw => ⟨_, fun _ _ _ _ _ hB => hB, _, fun _ _ _ _ hB => hB, fun _ => N, fun hc => absurd rfl hc⟩)
  rw [s0]
  refine ⟨_, fun _ _ _ _ _ hB => hB, _, fun _ _ _ _ hB => hB, fun _ => N, fun _ => ⟨fun _ => N, fun e0 => ⟨fun _ => N, fun e4 => ?_⟩⟩⟩
  obtain ⟨t, ht, rfl⟩ := nI_case (t := 0) c (by omega) e0 e4
  obtain ⟨w, hw2, rfl⟩ := W12_cases hw
  unfold wp_X8_dueAt
  rw [show (0 : Int32) = nI 0 from rfl, edue]
  exact ⟨vp_in_nI (by omega) (by omega), N⟩
theorem t_X8_hand (p0 p1 : Int32) (h : InvM c b I S) : wp_X8_hand I J S L p0 p1 (fun _ I' _ S' _ => Sam2 I I' ∧ InvM c b I' S') := by
  have N : Sam2 I I ∧ InvM c b I S := ⟨⟨rfl, rfl⟩, h⟩
  unfold wp_X8_hand
  refine s_X8_isHand (fun hw => ⟨fun _ => ?_, fun _ => N⟩) (fun _ => ⟨fun hc => absurd rfl hc, fun _ => N⟩)
  obtain ⟨w, hw2, rfl⟩ := W12_cases hw
  have hv : vp_in (nI w) 24 := vp_in_nI (by omega) (by omega)
  exact ⟨fun _ => ⟨hv, N⟩, fun _ => ⟨hv, N⟩, fun _ => m_duesOf (l := 0) (by omega) hw2 (fun r => N), fun _ => ⟨hv, N⟩, fun _ => m_anewI h (fun I' J' S' L' a1 a2 h1 => m_owed hw2 (fun r => ⟨FI_2 a1, h1⟩)), fun _ => N⟩
theorem t_X8_has (p0 p1 : Int32) (h : InvM c b I S) : wp_X8_has I J S L p0 p1 (fun _ I' _ S' _ => Sam2 I I' ∧ InvM c b I' S') := by
  obtain ⟨⟨hc, s0⟩, ⟨hb, s1, hB⟩, -⟩ := id h
  have N : Sam2 I I ∧ InvM c b I S := ⟨⟨rfl, rfl⟩, h⟩
  unfold wp_X8_has
  rw [s1]
  refine ⟨_, fun _ _ _ _ hB => hB, fun _ => N, fun e0 => ⟨fun e1 => ?_, fun _ => N⟩⟩
  obtain ⟨n, hn, rfl⟩ := nI_case (t := 0) b (by omega) e0 (Int32.not_le.mpr e1)
  have v24 : vp_in (nI n) 24 := vp_in_nI (by omega) (by omega)
  have v48 : vp_in (nI n) 48 := vp_in_nI (by omega) (by omega)
  refine ⟨fun _ => ⟨fun _ => ⟨fun _ => ⟨_, fun _ _ _ _ _ hB => hB, _, fun _ _ _ _ hB => hB, fun _ => N, fun e2 => ⟨fun _ => N, fun e6 => ?_⟩⟩, fun _ => ⟨v24, _, fun _ _ _ _ _ hB => hB, fun _ => ⟨v24, fun _ => N, fun _ => m_inBags (by omega) (fun r => N)⟩, fun _ => ⟨v24, v48, N⟩⟩⟩, fun _ => ⟨v48, N⟩⟩, fun _ => ⟨v48, N⟩⟩
  obtain ⟨k, hk, rfl⟩ := nI_case (t := 0) (x := p1) 60 (by omega) (fun g => e2 (Int32.lt_trans g (by decide))) e6
  have hk2 : 20 ≤ k := by
    rcases Nat.lt_or_ge k 20 with g | g
    · exact absurd (nI_lt (b := 20) g (by omega)) e2
    · exact g
  rw [show (20 : Int32) = nI 20 from rfl, pk_sub hk2]
  unfold wp_X8_bag
  rw [show (0 : Int32) = nI 0 from rfl, ebag]
  exact ⟨vp_in_nI (by omega) (by omega), N⟩
theorem t_X8_told (p0 p1 p2 : Int32) (h : InvM c b I S) : wp_X8_told I J S L p0 p1 p2 (fun _ I' _ S' _ => Sam2 I I' ∧ InvM c b I' S') := by
  obtain ⟨⟨hc, s0⟩, -, hSt, hOr, hCt, hQ⟩ := id h
  have N : Sam2 I I ∧ InvM c b I S := ⟨⟨rfl, rfl⟩, h⟩
  unfold wp_X8_told
  refine ⟨_, fun _ _ _ _ hB => hB, fun _ => N, fun e0 => ⟨fun _ => N, fun _ => ⟨fun _ => N, fun e4 => ?_⟩⟩⟩
  refine s_X8_isWork (fun hw => ⟨fun _ x ex => ?_, fun hc => absurd hc (by decide)⟩) (fun _ => ⟨fun hc => absurd rfl hc, fun _ => N⟩)
  obtain ⟨t, ht, rfl⟩ := nI_case (t := 0) (x := p0) 40 (by omega) e0 e4
  obtain ⟨w, hw2, rfl⟩ := W12_cases hw
  rw [e12] at ex
  subst ex
  have hv : vp_in (nI (12 * t + w)) 480 := vp_in_nI (by omega) (by omega)
  refine ⟨fun _ => ⟨hv, N⟩, fun _ => ⟨hv, N⟩, fun _ => ⟨hv, N⟩, fun _ => ⟨hv, m_isOpen ht hw2 (fun r => ⟨_, fun _ _ _ _ _ _ hB => hB, fun _ => N, fun _ => N⟩)⟩, fun _ => ?_, fun _ => N⟩
  obtain ⟨z, hz, ez, ho⟩ := hOr t ht
  rw [clN (show t < 2 ^ 31 by omega)]
  refine ⟨fun n I' J' S' L' x => I' = I ∧ S' = S ∧ ∃ k, k ≤ z ∧ x = nI k ∧ n = z - k, ⟨z, rfl, rfl, 0, by omega, rfl, rfl⟩, ?_⟩
  rintro n I' J' S' L' x ⟨rfl, rfl, k, hk, rfl, rfl⟩
  rw [ez, e12]
  refine ⟨vp_in_nI ht (by omega), fun _ => N, fun hc1 => ⟨?_, fun _ x ex => ?_, fun _ => N⟩⟩
  · have hk2 : k < z := nI_nleN (by omega) hk hc1
    exact vp_in_nI (by omega) (by omega)
  · have hk2 : k < z := nI_nleN (by omega) hk hc1
    exact ⟨z - (k + 1), by omega, rfl, rfl, k + 1, by omega, by rw [ex]; exact nI_1 k, rfl⟩
theorem t_X8_line (p0 p1 : Int32) (h : InvM c b I S) : wp_X8_line I J S L p0 p1 (fun _ I' _ S' _ => Sam2 I I' ∧ InvM c b I' S') := by
  have N : Sam2 I I ∧ InvM c b I S := ⟨⟨rfl, rfl⟩, h⟩
  unfold wp_X8_line
  refine ⟨_, fun _ _ _ _ hB => hB, fun _ => N, fun e0 => ⟨fun _ => N, fun _ => ⟨fun e6 => ?_, fun _ => N⟩⟩⟩
  obtain ⟨k, hk, rfl⟩ := nI_case (t := 0) (x := p0) 600 (by omega) e0 (Int32.not_le.mpr e6)
  have hv : vp_in (nI k) 600 := vp_in_nI hk (by omega)
  exact ⟨fun _ => ⟨hv, N⟩, fun _ => ⟨hv, N⟩, fun _ => ⟨hv, N⟩, fun _ => ⟨hv, N⟩, fun _ => ⟨hv, N⟩, fun _ => N⟩
theorem t_X8_count (p0 : Int32) (h : InvM c b I S) : wp_X8_count I J S L p0 (fun _ I' _ S' _ => Sam2 I I' ∧ InvM c b I' S') := by
  obtain ⟨⟨hc, s0⟩, -⟩ := id h
  have N : Sam2 I I ∧ InvM c b I S := ⟨⟨rfl, rfl⟩, h⟩
  unfold wp_X8_count
  refine ⟨fun _ => N, fun _ => N, fun _ => N, fun _ => ⟨vp_in_nI (n := 0) (by omega) (by omega), N⟩, fun _ => ?_, fun _ => N, fun _ => ?_, fun _ => N, fun _ => N⟩
  · refine ⟨fun n I' J' S' L' y x => I' = I ∧ S' = S ∧ ∃ k, k ≤ 12 ∧ x = nI k ∧ n = 12 - k, ⟨12, rfl, rfl, 0, by omega, rfl, rfl⟩, ?_⟩
    rintro n I' J' S' L' y x ⟨rfl, rfl, k, hk, rfl, rfl⟩
    refine ⟨fun _ => N, fun hc1 => ?_⟩
    have hk2 : k < 12 := nI_nleN (by omega) hk hc1
    exact ⟨vp_in_nI (by omega) (by omega), fun y2 _ x ex => ⟨12 - (k + 1), by omega, rfl, rfl, k + 1, by omega, by rw [ex]; exact nI_1 k, rfl⟩⟩
  · rw [s0]
    refine ⟨_, fun _ _ _ _ _ hB => hB, fun e4 => ⟨?_, N⟩, fun _ => N⟩
    have hc4 : c < 40 := by
      rcases Nat.lt_or_ge c 40 with g | g
      · exact g
      · exact absurd (by rw [show c = 40 by omega]; rfl) e4
    exact vp_in_nI hc4 (by omega)
end
