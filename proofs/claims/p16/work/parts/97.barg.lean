/-- one more BARGAIN -/
def BgN (I I1 : TI) (b : Nat) (p0 p1 p2 p3 p4 p5 p6 p7 : Int32) : Prop := (∀ n, n < 6 ∨ 14 ≤ n → I1 n = I n) ∧ I1 6 = upd (I 6) b p0 ∧ I1 7 = upd (I 7) b p1 ∧ I1 8 = upd (I 8) b p2 ∧ I1 9 = upd (I 9) b p3 ∧ I1 10 = upd (I 10) b p4 ∧ I1 11 = upd (I 11) b p5 ∧ I1 12 = upd (I 12) b p6 ∧ I1 13 = upd (I 13) b p7
def BgM (I I1 : TI) (b : Nat) (p0 p1 p2 p3 p4 p5 p6 p7 : Int32) : Prop := (∀ n, n < 5 ∨ 13 ≤ n → I1 n = I n) ∧ I1 5 = upd (I 5) b p0 ∧ I1 6 = upd (I 6) b p1 ∧ I1 7 = upd (I 7) b p2 ∧ I1 8 = upd (I 8) b p3 ∧ I1 9 = upd (I 9) b p4 ∧ I1 10 = upd (I 10) b p5 ∧ I1 11 = upd (I 11) b p6 ∧ I1 12 = upd (I 12) b p7
section
variable {n0 n1 : Nat} {I I1 I2 Im Im1 Im2 : TI} {J J1 Jm Jm1 : TJ} {S S1 Sm Sm1 : TS} {L L1 Lm Lm1 : TL} {c b q t w : Nat} {Z : TK} {p0 p1 p2 p3 p4 p5 p6 p7 : Int32}
theorem u_bargTail {Φ : Int32 → TI → TJ → TS → TL → Prop} (hb : b < 24) (h1 : S 1 = nI b) (hf : ∀ (I' : TI) (S' : TS), BgN I I' b p0 p1 p2 p3 p4 p5 p6 p7 → (∀ j, j ≠ 1 → S' j = S j) → S' 1 = nI (b + 1) → Φ (nI b) I' J S' L) : wp_X0_add_O n0 n1 I J S L p0 p1 p2 p3 (fun r I J S L => wp_X0_agree_O n0 n1 I J S L r p4 p5 p6 p7 (fun I J S L => Φ r I J S L)) := by
  have hv : vp_in (nI b) 24 := vp_in_nI hb (by omega)
  unfold wp_X0_add_O wp_X0_add
  intro x hx
  rw [h1] at hx
  subst hx
  rw [clN (by omega)]
  refine ⟨hv, fun I1 e1 => ⟨hv, fun I2 e2 => ⟨hv, fun I3 e3 => ⟨hv, fun I4 e4 => fun S1 eS => ?_⟩⟩⟩⟩
  show wp_X0_agree_O n0 n1 I4 J (va_up S1 0 (S 0)) L (nI b) p4 p5 p6 p7 (fun I J S L => Φ (nI b) I J S L)
  have s0 : va_up S1 0 (S 0) = S1 := upS_same (by rw [eS, va_up_ne _ _ (by omega)])
  rw [s0]
  unfold wp_X0_agree_O wp_X0_agree
  rw [clN (by omega)]
  refine ⟨hv, fun I5 e5 => ⟨hv, fun I6 e6 => ⟨hv, fun I7 e7 => ⟨hv, fun I8 e8 => ?_⟩⟩⟩⟩
  show Φ (nI b) I8 J (va_up S1 0 (S1 0)) L
  rw [up_same]
  have g1 : ∀ n, n ≠ 6 → I1 n = I n := fun n h => by rw [e1, va_up_ne _ _ h]
  have g2 : ∀ n, n ≠ 7 → I2 n = I1 n := fun n h => by rw [e2, va_up_ne _ _ h]
  have g3 : ∀ n, n ≠ 8 → I3 n = I2 n := fun n h => by rw [e3, va_up_ne _ _ h]
  have g4 : ∀ n, n ≠ 9 → I4 n = I3 n := fun n h => by rw [e4, va_up_ne _ _ h]
  have g5 : ∀ n, n ≠ 10 → I5 n = I4 n := fun n h => by rw [e5, va_up_ne _ _ h]
  have g6 : ∀ n, n ≠ 11 → I6 n = I5 n := fun n h => by rw [e6, va_up_ne _ _ h]
  have g7 : ∀ n, n ≠ 12 → I7 n = I6 n := fun n h => by rw [e7, va_up_ne _ _ h]
  have g8 : ∀ n, n ≠ 13 → I8 n = I7 n := fun n h => by rw [e8, va_up_ne _ _ h]
  refine hf I8 S1 ⟨fun n hn => by rw [g8 n (by omega), g7 n (by omega), g6 n (by omega), g5 n (by omega), g4 n (by omega), g3 n (by omega), g2 n (by omega), g1 n (by omega)], ?_, ?_, ?_, ?_, ?_, ?_, ?_, ?_⟩ (fun j hj => by rw [eS, va_up_ne _ _ hj]) (by rw [eS, va_up_self, h1]; exact nI_1 b)
  · rw [g8 6 (by omega), g7 6 (by omega), g6 6 (by omega), g5 6 (by omega), g4 6 (by omega), g3 6 (by omega), g2 6 (by omega), e1, va_up_self]
  · rw [g8 7 (by omega), g7 7 (by omega), g6 7 (by omega), g5 7 (by omega), g4 7 (by omega), g3 7 (by omega), e2, va_up_self, g1 7 (by omega)]
  · rw [g8 8 (by omega), g7 8 (by omega), g6 8 (by omega), g5 8 (by omega), g4 8 (by omega), e3, va_up_self, g2 8 (by omega), g1 8 (by omega)]
  · rw [g8 9 (by omega), g7 9 (by omega), g6 9 (by omega), g5 9 (by omega), e4, va_up_self, g3 9 (by omega), g2 9 (by omega), g1 9 (by omega)]
  · rw [g8 10 (by omega), g7 10 (by omega), g6 10 (by omega), e5, va_up_self, g4 10 (by omega), g3 10 (by omega), g2 10 (by omega), g1 10 (by omega)]
  · rw [g8 11 (by omega), g7 11 (by omega), e6, va_up_self, g5 11 (by omega), g4 11 (by omega), g3 11 (by omega), g2 11 (by omega), g1 11 (by omega)]
  · rw [g8 12 (by omega), e7, va_up_self, g6 12 (by omega), g5 12 (by omega), g4 12 (by omega), g3 12 (by omega), g2 12 (by omega), g1 12 (by omega)]
  · rw [e8, va_up_self, g7 13 (by omega), g6 13 (by omega), g5 13 (by omega), g4 13 (by omega), g3 13 (by omega), g2 13 (by omega), g1 13 (by omega)]
theorem BgN.fo (hF : FO c b q Z I J S L) (hok : BgOK c b p0 p1 p2 p3 p4 p5 p6 p7) (f : BgN I I1 b p0 p1 p2 p3 p4 p5 p6 p7) (eS : ∀ j, j ≠ 1 → S1 j = S j) (s1 : S1 1 = nI (b + 1)) : FO c (b + 1) q Z I1 J S1 L := by
  obtain ⟨hO, hX, ⟨hs1, hs2, hs4⟩, hA, k2, t, hV, hk2, ht, hge⟩ := hF
  obtain ⟨hB, hC, hc, h3, h7, hq, h6, h10⟩ := id hO
  obtain ⟨⟨hbb, hBg, hNB⟩, hS, hRp, hPX, hq6, hQ⟩ := id hX
  obtain ⟨hw, -, -, hd, hb, hT, hP7⟩ := hok
  obtain ⟨e, e6, e7, e8, e9, e10, e11, e12, e13⟩ := f
  have hB1 : BgX (b + 1) I1 := fun n hn => by
    rw [e6, e7, e10, e11, e12, e13]
    by_cases g : n = b
    · rw [g, pk_us, pk_us, pk_us, pk_us, pk_us, pk_us]
      exact ⟨hw, hT, fun k => (hP7 k).1⟩
    · rw [pk_un g, pk_un g, pk_un g, pk_un g, pk_un g, pk_un g]
      exact hBg n (by omega)
  refine ⟨⟨⟨⟨b + 1, by omega, s1, hB1.bgs⟩, ?_, ?_, ?_⟩, hC.same (e 19 (by omega)) (e 16 (by omega)), hc, by rw [eS 3 (by omega)]; exact h3, by rw [eS 7 (by omega)]; exact h7, by rw [eS 2 (by omega), eS 4 (by omega), eS 8 (by omega)]; exact hq, by rw [eS 6 (by omega)]; exact h6, by rw [eS 10 (by omega)]; exact h10⟩, ⟨⟨by omega, hB1, fun n g1 g2 => ?_⟩, ?_, ?_, hPX.fr (fun k g1 g2 => e k (by omega)), hq6, hQ.fr2 (e 22 (by omega)) (e 23 (by omega)) (e 24 (by omega))⟩, ⟨s1, by rw [eS 2 (by omega)]; exact hs2, by rw [eS 4 (by omega)]; exact hs4⟩, ?_, k2, t, ?_, hk2, ht, fun i g1 g2 => ?_⟩
  · unfold Sts
    rw [e 1 (by omega), e 3 (by omega), e 4 (by omega)]
    exact hB.2.1
  · rw [eS 2 (by omega), e 22 (by omega)]
    exact hB.2.2.1
  · rw [e 19 (by omega), e 18 (by omega)]
    exact hB.2.2.2
  · rw [e6, pk_un (by omega)]
    exact hNB n (by omega) g2
  · unfold StX at hS ⊢
    rw [e 1 (by omega), e 3 (by omega), e 4 (by omega)]
    exact hS
  · unfold RpX at hRp ⊢
    rw [e 1 (by omega), e 15 (by omega), e 18 (by omega), e 19 (by omega)]
    exact hRp
  · rw [e 29 (by omega)]
    obtain ⟨a1, a2, a3, a4, a5⟩ := hA
    refine ⟨fun n hn => ?_, a2, a3, a4, fun n t g1 g2 g3 => a5.1 n t g1 g2 (by omega), fun n g1 g2 => a5.2 n (by omega) g2⟩
    rw [e6, e10]
    by_cases g : n = b
    · rw [g, pk_us, pk_us, a5.2 b (Nat.le_refl _) hb]
      intro k
      rw [k] at hT
      have hs := sm_m (Tf1.mp hT)
      have := P_sm (Tf1.mp hT)
      have e0 : (0 : Int64).toInt = 0 := by decide
      omega
    · rw [pk_un g, pk_un g]
      exact a1 n (by omega)
  · refine hV.ext ⟨⟨by omega, by omega⟩, fun k n g1 g2 g3 => ?_, fun n g1 g2 => ?_, fun w' hw' => ?_, fun u hu => ⟨by rw [e 19 (by omega)], by rw [e 20 (by omega)], fun i hi => ⟨by rw [e 18 (by omega)], by rw [e 16 (by omega)], fun m hm => by rw [e 15 (by omega)]⟩⟩⟩ (by omega) hBg hS hRp (fun k _ => ⟨by rw [e 22 (by omega)], by rw [e 23 (by omega)], by rw [e 24 (by omega)]⟩) (fun k h1 h2 => ⟨e k (by omega), rfl⟩) (eS 7 (by omega)) (eS 8 (by omega)) (eS 9 (by omega)) rfl rfl
    · obtain rfl | rfl | rfl | rfl | rfl | rfl | rfl | rfl : k = 6 ∨ k = 7 ∨ k = 8 ∨ k = 9 ∨ k = 10 ∨ k = 11 ∨ k = 12 ∨ k = 13 := by omega
      · rw [e6, pk_un (by omega)]
      · rw [e7, pk_un (by omega)]
      · rw [e8, pk_un (by omega)]
      · rw [e9, pk_un (by omega)]
      · rw [e10, pk_un (by omega)]
      · rw [e11, pk_un (by omega)]
      · rw [e12, pk_un (by omega)]
      · rw [e13, pk_un (by omega)]
    · have : n = b := by omega
      subst this
      rw [e9, pk_us]
      exact dc_t ht hc hd.1
    · obtain ⟨kk, g1, g2⟩ := hS.1 w' hw'
      exact ⟨kk, kk, Nat.le_refl _, g1, g2, by rw [e 1 (by omega)]; exact g2, fun _ _ => by rw [e 2 (by omega)], fun _ _ _ _ => ⟨by rw [e 3 (by omega)], by rw [e 4 (by omega)]⟩, fun k g1 g2 => absurd g2 (by omega)⟩
  · have : tmF I1 i = tmF I i := by unfold tmF; rw [e 24 (by omega)]
    rw [this]
    exact hge i g1 g2
def BaO (c b q : Nat) (Z : TK) (p0 p1 p2 p3 p4 p5 p6 p7 : Int32) (I : TI) (J : TJ) (S : TS) (L : TL) (I1 : TI) (J1 : TJ) (S1 : TS) (L1 : TL) : Prop := (BgOK c b p0 p1 p2 p3 p4 p5 p6 p7 ∧ BgN I I1 b p0 p1 p2 p3 p4 p5 p6 p7 ∧ (J1 = J ∧ L1 = L) ∧ (∀ j, j ≠ 1 → S1 j = S j) ∧ FO c (b + 1) q Z I1 J1 S1 L1) ∨ (¬ BgOK c b p0 p1 p2 p3 p4 p5 p6 p7 ∧ E4 I J S L I1 J1 S1 L1)
def BaM (c b : Nat) (p0 p1 p2 p3 p4 p5 p6 p7 : Int32) (Im : TI) (Jm : TJ) (Sm : TS) (Lm : TL) (Im1 : TI) (Jm1 : TJ) (Sm1 : TS) (Lm1 : TL) : Prop := (BgOK c b p0 p1 p2 p3 p4 p5 p6 p7 ∧ BgM Im Im1 b p0 p1 p2 p3 p4 p5 p6 p7 ∧ (Jm1 = Jm ∧ Lm1 = Lm) ∧ (∀ j, j ≠ 1 → Sm1 j = Sm j) ∧ InvM c (b + 1) Im1 Sm1) ∨ (¬ BgOK c b p0 p1 p2 p3 p4 p5 p6 p7 ∧ E4 Im Jm Sm Lm Im1 Jm1 Sm1 Lm1)
set_option maxHeartbeats 1000000 in
theorem u_X7_bargain (p0 p1 p2 p3 p4 p5 p6 p7 : Int32) (hR : R2 c b q Z I J S L Im Jm Sm Lm) : wp_X7_bargain 600 0 I J S L p0 p1 p2 p3 p4 p5 p6 p7 (fun _ I1 J1 S1 L1 => BaO c b q Z p0 p1 p2 p3 p4 p5 p6 p7 I J S L I1 J1 S1 L1) := by
  have hF := hR.1
  clear hR
  obtain ⟨hO, ⟨⟨hb, hBg, -⟩, -⟩, ⟨h1, -⟩, -⟩ := id hF
  have h3 := hO.2.2.2.1
  have N : (BgOK c b p0 p1 p2 p3 p4 p5 p6 p7 → False) → BaO c b q Z p0 p1 p2 p3 p4 p5 p6 p7 I J S L I J S L := fun hn => Or.inr ⟨hn, rfl, rfl, rfl, rfl⟩
  unfold wp_X7_bargain
  refine ⟨_, fun _ _ _ _ hB => hB, fun e0 => N (fun k => (Tf_rng k.2.2.2.2.2.1).1 e0), fun e0 => ⟨fun e4 => N (fun k => (Tf_rng k.2.2.2.2.2.1).2 e4), fun e4 => ?_⟩⟩
  refine s_X7_isHand (fun hw => ⟨fun hc => absurd hc (by decide), fun _ => ⟨fun g => N (fun k => k.2.1 g), fun g1 => ⟨fun g2 => ?_, fun g => N (fun k => k.2.2.1 (Int32.not_le.mp g))⟩⟩⟩) (fun hw => ⟨fun _ => N (fun k => hw k.1), fun hc => absurd rfl hc⟩)
  have fin : BgOK c b p0 p1 p2 p3 p4 p5 p6 p7 → wp_X0_add_O 600 0 I J S L p0 p1 p2 p3 (fun r I0 J0 S0 L0 => wp_X0_agree_O 600 0 I0 J0 S0 L0 r p4 p5 p6 p7 (fun I' J' S' L' => BaO c b q Z p0 p1 p2 p3 p4 p5 p6 p7 I J S L I' J' S' L')) := by
    intro hok
    refine u_bargTail (Φ := fun _ I' J' S' L' => BaO c b q Z p0 p1 p2 p3 p4 p5 p6 p7 I J S L I' J' S' L') hok.2.2.2.2.1 h1 (fun I' S' f eS s1 => ?_)
    exact Or.inl ⟨hok, f, ⟨rfl, rfl⟩, eS, f.fo hF hok eS s1⟩
  refine t_dayAhead h3 (fun hd => ?_) (fun hd => ⟨_, fun _ _ _ _ hB => hB, fun _ => N (fun k => hd k.2.2.2.1), fun hc => absurd rfl hc⟩)
  refine ⟨_, fun _ _ _ _ hB => hB, fun hc => absurd hc (by decide), fun _ => ⟨fun g => N (fun k => ?_), fun h24 => ?_⟩⟩
  · rw [h1] at g
    exact absurd g (nI_ge (b := 24) k.2.2.2.2.1 (by omega))
  have hb2 : b < 24 := by
    rw [h1] at h24
    exact nI_nleN (N := 24) (by omega) hb h24
  refine s_X7_termsFit (fun hT => ⟨fun _ => ?_, fun hc => absurd hc (by decide)⟩) (fun hT => ⟨fun hc => absurd rfl hc, fun _ => N (fun k => hT k.2.2.2.2.2.1)⟩)
  have ok : (Ps p0 → W12 p7 ∧ ¬ p7 = p1) → BgOK c b p0 p1 p2 p3 p4 p5 p6 p7 := fun k => ⟨hw, g1, Int32.not_lt.mpr g2, hd, hb2, hT, k⟩
  refine s_X7_passesOn (fun hps => ?_) (fun hps => ⟨_, fun _ _ _ _ hB => hB, fun _ => fin (ok (fun k => absurd k hps)), fun hc => absurd rfl hc⟩)
  refine ⟨fun I' J' S' L' => I' = I ∧ J' = J ∧ S' = S ∧ L' = L ∧ W12 p7 ∧ ¬ p7 = p1, ?_, fun hc => absurd hc (by decide), fun _ => ?_⟩
  · rintro I' J' S' L' ⟨rfl, rfl, rfl, rfl, hw7⟩
    exact fin (ok (fun _ => hw7))
  refine s_X7_isHand (fun hw7 => ?_) (fun hw7 => ⟨_, fun _ _ _ _ hB => hB, fun _ => N (fun k => hw7 (k.2.2.2.2.2.2 hps).1), fun hc => absurd rfl hc⟩)
  exact ⟨_, fun _ _ _ _ hB => hB, fun hc => absurd hc (by decide), fun _ => ⟨fun hne => ⟨rfl, rfl, rfl, rfl, hw7, hne⟩, fun e => N (fun k => (k.2.2.2.2.2.2 hps).2 e)⟩⟩
set_option maxHeartbeats 1000000 in
theorem v_X8_bargain (p0 p1 p2 p3 p4 p5 p6 p7 : Int32) (h : InvM c b I S) : wp_X8_bargain I J S L p0 p1 p2 p3 p4 p5 p6 p7 (fun _ I1 J1 S1 L1 => BaM c b p0 p1 p2 p3 p4 p5 p6 p7 I J S L I1 J1 S1 L1) := by
  obtain ⟨⟨hc, s0⟩, ⟨hb, s1, hB⟩, hSt, hOr, hCt, hQ⟩ := id h
  have N : ¬ BgOK c b p0 p1 p2 p3 p4 p5 p6 p7 → BaM c b p0 p1 p2 p3 p4 p5 p6 p7 I J S L I J S L := fun hn => Or.inr ⟨hn, rfl, rfl, rfl, rfl⟩
  unfold wp_X8_bargain
  refine s_X8_isHand (fun hw => ?_) (fun hw => ⟨_, fun _ _ _ _ hB => hB, fun _ => N (fun k => hw k.1), fun hc => absurd rfl hc⟩)
  refine ⟨_, fun _ _ _ _ hB => hB, fun hc => absurd hc (by decide), fun _ => ⟨fun h2 => N (fun k => k.2.1 h2), fun h2 => ⟨fun h4 => N (fun k => k.2.2.1 h4), fun h4 => ?_⟩⟩⟩
  refine m_isDay s0 (fun hd => ⟨fun hc => absurd hc (by decide), fun _ => ?_⟩) (fun hd => ⟨fun _ => N (fun k => hd k.2.2.2.1), fun hc => absurd rfl hc⟩)
  rw [s1]
  refine ⟨fun h24 => N (fun k => ?_), fun h24 => ?_⟩
  · have := (nI_eq (b := 24) (by omega) (by omega)).mp h24
    have := k.2.2.2.2.1
    omega
  have hb2 : b < 24 := by
    rcases Nat.lt_or_ge b 24 with g | g
    · exact g
    · exact absurd (by rw [show b = 24 by omega]; rfl) h24
  refine s_X8_areGood (fun hg => ⟨fun _ x ex => ?_, fun hc => absurd hc (by decide)⟩) (fun hg => ⟨fun hc => absurd rfl hc, fun _ => N (fun k => hg k.2.2.2.2.2)⟩)
  rw [s1] at ex
  subst ex
  have hv : vp_in (nI b) 24 := vp_in_nI hb2 (by omega)
  rw [clN (show b < 2 ^ 31 by omega)]
  refine ⟨hv, fun I1 e1 => ⟨hv, fun I2 e2 => ⟨hv, fun I3 e3 => ⟨hv, fun I4 e4 => ⟨hv, fun I5 e5 => ⟨hv, fun I6 e6 => ⟨hv, fun I7 e7 => ⟨hv, fun I8 e8 S1 eS => ?_⟩⟩⟩⟩⟩⟩⟩⟩
  have g1 : ∀ n, n ≠ 5 → I1 n = I n := fun n h => by rw [e1, va_up_ne _ _ h]
  have g2 : ∀ n, n ≠ 6 → I2 n = I1 n := fun n h => by rw [e2, va_up_ne _ _ h]
  have g3 : ∀ n, n ≠ 7 → I3 n = I2 n := fun n h => by rw [e3, va_up_ne _ _ h]
  have g4 : ∀ n, n ≠ 8 → I4 n = I3 n := fun n h => by rw [e4, va_up_ne _ _ h]
  have g5 : ∀ n, n ≠ 9 → I5 n = I4 n := fun n h => by rw [e5, va_up_ne _ _ h]
  have g6 : ∀ n, n ≠ 10 → I6 n = I5 n := fun n h => by rw [e6, va_up_ne _ _ h]
  have g7 : ∀ n, n ≠ 11 → I7 n = I6 n := fun n h => by rw [e7, va_up_ne _ _ h]
  have g8 : ∀ n, n ≠ 12 → I8 n = I7 n := fun n h => by rw [e8, va_up_ne _ _ h]
  have eN : ∀ n, n < 5 ∨ 13 ≤ n → I8 n = I n := fun n hn => by rw [g8 n (by omega), g7 n (by omega), g6 n (by omega), g5 n (by omega), g4 n (by omega), g3 n (by omega), g2 n (by omega), g1 n (by omega)]
  have r5 : I8 5 = upd (I 5) b p0 := by rw [g8 5 (by omega), g7 5 (by omega), g6 5 (by omega), g5 5 (by omega), g4 5 (by omega), g3 5 (by omega), g2 5 (by omega), e1, va_up_self]
  have r6 : I8 6 = upd (I 6) b p1 := by rw [g8 6 (by omega), g7 6 (by omega), g6 6 (by omega), g5 6 (by omega), g4 6 (by omega), g3 6 (by omega), e2, va_up_self, g1 6 (by omega)]
  have r7 : I8 7 = upd (I 7) b p2 := by rw [g8 7 (by omega), g7 7 (by omega), g6 7 (by omega), g5 7 (by omega), g4 7 (by omega), e3, va_up_self, g2 7 (by omega), g1 7 (by omega)]
  have r8 : I8 8 = upd (I 8) b p3 := by rw [g8 8 (by omega), g7 8 (by omega), g6 8 (by omega), g5 8 (by omega), e4, va_up_self, g3 8 (by omega), g2 8 (by omega), g1 8 (by omega)]
  have r9 : I8 9 = upd (I 9) b p4 := by rw [g8 9 (by omega), g7 9 (by omega), g6 9 (by omega), e5, va_up_self, g4 9 (by omega), g3 9 (by omega), g2 9 (by omega), g1 9 (by omega)]
  have r10 : I8 10 = upd (I 10) b p5 := by rw [g8 10 (by omega), g7 10 (by omega), e6, va_up_self, g5 10 (by omega), g4 10 (by omega), g3 10 (by omega), g2 10 (by omega), g1 10 (by omega)]
  have r11 : I8 11 = upd (I 11) b p6 := by rw [g8 11 (by omega), e7, va_up_self, g6 11 (by omega), g5 11 (by omega), g4 11 (by omega), g3 11 (by omega), g2 11 (by omega), g1 11 (by omega)]
  have r12 : I8 12 = upd (I 12) b p7 := by rw [e8, va_up_self, g7 12 (by omega), g6 12 (by omega), g5 12 (by omega), g4 12 (by omega), g3 12 (by omega), g2 12 (by omega), g1 12 (by omega)]
  have tS : ∀ j, j ≠ 1 → S1 j = S j := fun j hj => by rw [eS, va_up_ne _ _ hj]
  refine Or.inl ⟨⟨hw, h2, h4, hd, hb2, hg⟩, ⟨eN, r5, r6, r7, r8, r9, r10, r11, r12⟩, ⟨rfl, rfl⟩, tS, ⟨hc, by rw [tS 0 (by omega)]; exact s0⟩, ⟨by omega, by rw [eS, va_up_self]; exact nI_1 b, fun n hn => ?_⟩, ?_, ?_, ?_, ?_⟩
  · rw [r5, r6, r10, r12]
    by_cases g : n = b
    · rw [g, pk_us, pk_us, pk_us, pk_us]
      exact ⟨hw, fun hp => (hg.2 hp).1, fun e => Tf_y hg.1 e⟩
    · rw [pk_un g, pk_un g, pk_un g, pk_un g]
      exact hB n (by omega)
  · unfold MSt
    rw [eN 1 (by omega), eN 3 (by omega)]
    exact hSt
  · unfold MOr
    rw [eN 18 (by omega), eN 17 (by omega)]
    exact hOr
  · unfold MCt
    rw [eN 18 (by omega), eN 16 (by omega)]
    exact hCt
  · rw [eN 38 (by omega), tS 4 (by omega)]
    exact hQ
theorem u_X8_bargain (p0 p1 p2 p3 p4 p5 p6 p7 : Int32) (hR : R2 c b q Z I J S L Im Jm Sm Lm) : wp_X8_bargain Im Jm Sm Lm p0 p1 p2 p3 p4 p5 p6 p7 (fun _ I1 J1 S1 L1 => BaM c b p0 p1 p2 p3 p4 p5 p6 p7 Im Jm Sm Lm I1 J1 S1 L1) := v_X8_bargain p0 p1 p2 p3 p4 p5 p6 p7 hR.2.1
theorem rr_bargain (hR : R2 c b q Z I J S L Im Jm Sm Lm) (h1 : BaO c b q Z p0 p1 p2 p3 p4 p5 p6 p7 I J S L I1 J1 S1 L1) (h2 : BaM c b p0 p1 p2 p3 p4 p5 p6 p7 Im Jm Sm Lm Im1 Jm1 Sm1 Lm1) : RR I1 J1 S1 L1 Im1 Jm1 Sm1 Lm1 := by
  rcases h1 with ⟨ha, h1⟩ | ⟨ha, rfl, rfl, rfl, rfl⟩ <;> rcases h2 with ⟨hb, h2⟩ | ⟨hb, rfl, rfl, rfl, rfl⟩
  · obtain ⟨⟨f, f6, f7, f8, f9, f10, f11, f12, f13⟩, ⟨rfl, rfl⟩, fS, hF⟩ := h1
    obtain ⟨⟨g, g5, g6, g7, g8, g9, g10, g11, g12⟩, ⟨rfl, rfl⟩, gS, hM1⟩ := h2
    obtain ⟨⟨-, ⟨⟨-, -, hNB⟩, -⟩, -⟩, hM, ⟨m1, m2, m3, m4⟩, ⟨hZ, hT⟩, s4, hP, h28, ⟨N, hN, n5, hRc⟩, s5, l0⟩ := hR
    refine ⟨c, b + 1, q, Z, hF, hM1, ⟨?_, ?_, ?_, ?_⟩, ⟨?_, ?_⟩, by rw [gS 4 (by omega)]; exact s4, ?_, h28, ⟨N, hN, by rw [fS 5 (by omega)]; exact n5, ?_⟩, by rw [fS 0 (by omega), gS 5 (by omega)]; exact s5, l0⟩
    · obtain ⟨a1, a2, a3, a4, a5, a6, a7, a8⟩ := m1
      exact ⟨by rw [f6, g5, a1], by rw [f7, g6, a2], by rw [f8, g7, a3], by rw [f9, g8, a4], by rw [f10, g9, a5], by rw [f11, g10, a6], by rw [f12, g11, a7], by rw [f13, g12, a8]⟩
    · unfold SMx at m2 ⊢
      rw [g 1 (by omega), g 2 (by omega), g 3 (by omega), g 4 (by omega), f 1 (by omega), f 2 (by omega), f 3 (by omega), f 4 (by omega)]
      exact m2
    · unfold RM opP at m3 ⊢
      rw [g 13 (by omega), g 14 (by omega), g 15 (by omega), g 16 (by omega), g 17 (by omega), g 18 (by omega), g 19 (by omega), g 20 (by omega), f 15 (by omega), f 16 (by omega), f 18 (by omega), f 19 (by omega), f 20 (by omega)]
      exact m3
    · unfold QM at m4 ⊢
      rw [g 38 (by omega), g 39 (by omega), g 40 (by omega), f 22 (by omega), f 23 (by omega), f 24 (by omega)]
      exact m4
    · unfold MZ at hZ ⊢
      rw [g 20 (by omega)]
      exact hZ
    · unfold TN at hT ⊢
      rw [g 19 (by omega), f 20 (by omega)]
      exact hT
    · rw [f 29 (by omega)]
      refine MP.im ?_ (g 26 (by omega)) (g 27 (by omega))
      obtain ⟨⟨v1, v2, v3, v4⟩, v5⟩ := hP
      refine ⟨⟨v1, v2, fun n hn h2 => ?_, v4⟩, v5⟩
      rw [f6] at h2
      by_cases k : n = b
      · exact v3 n hn (by rw [k]; exact hNB b (Nat.le_refl _) (by omega))
      · rw [pk_un k] at h2
        exact v3 n hn h2
    · unfold MRc at hRc ⊢
      rw [g 33 (by omega), g 34 (by omega), g 35 (by omega), f 34 (by omega), f 35 (by omega), f 36 (by omega), gS 3 (by omega)]
      exact hRc
  · exact absurd ha hb
  · exact absurd hb ha
  · exact ⟨c, b, q, Z, hR⟩
/-- MEND -/
def MnA (c : Nat) (f1 : Nat → Int32) (p0 p1 p2 p3 p4 p5 : Int32) : Prop := (∃ t : Nat, t < c ∧ p0 = nI t) ∧ RpOK f1 p1 p2 p3 p4 p5
def MnO (c b q : Nat) (p0 p1 p2 p3 p4 p5 : Int32) (I : TI) (J : TJ) (S : TS) (L : TL) (I1 : TI) (J1 : TJ) (S1 : TS) (L1 : TL) : Prop := ∃ (t w : Nat) (I2 I3 : TI), (t < c ∧ p0 = nI t) ∧ (w < 12 ∧ p1 = nI w) ∧ XFin I I2 t w p2 p3 p4 p5 ∧ (∀ k, k ≠ 20 → I3 k = I2 k) ∧ I3 20 = upd (I2 20) t (I2 20 t &&& (((1 : Int32) <<< (nI w &&& 31)) ^^^ (-1 : Int32))) ∧ (∀ k, k < 39 → I1 k = I3 k ∧ J1 k = J k) ∧ (S1 0 = S 0 ∧ S1 5 = S 5 ∧ L1 0 = L 0 ∧ L1 1 = L 1) ∧ ∃ Z1 : TK, FO c b q Z1 I1 J1 S1 L1
def MnM (c b : Nat) (p0 p1 p2 p3 p4 p5 : Int32) (Im : TI) (Jm : TJ) (Sm : TS) (Lm : TL) (Im1 : TI) (Jm1 : TJ) (Sm1 : TS) (Lm1 : TL) : Prop := ∃ (t w : Nat) (I2 : TI), (t < c ∧ p0 = nI t) ∧ (w < 12 ∧ p1 = nI w) ∧ MFin Im I2 t w p2 p3 p4 p5 ∧ (∀ k, k ≠ 20 → Im1 k = I2 k) ∧ Im1 20 = upd (I2 20) (12 * t + w) 1 ∧ (Jm1 = Jm ∧ Sm1 = Sm ∧ Lm1 = Lm) ∧ InvM c b Im1 Sm1
theorem anT_0 {X : TI} {r : Nat} (h : Z.2.2.2.2.2 = 0) : anT Z X r b 0 0 = Z := toK_q (q := 0) h
theorem u_X7_mend (p0 p1 p2 p3 p4 p5 : Int32) (hR : R2 c b q Z I J S L Im Jm Sm Lm) : wp_X7_mend 600 0 I J S L p0 p1 p2 p3 p4 p5 (fun _ I1 J1 S1 L1 => (MnA c (I 1) p0 p1 p2 p3 p4 p5 ∧ MnO c b q p0 p1 p2 p3 p4 p5 I J S L I1 J1 S1 L1) ∨ (¬ MnA c (I 1) p0 p1 p2 p3 p4 p5 ∧ E4 I J S L I1 J1 S1 L1)) := by
  obtain ⟨⟨hO, hX, hs, hA, k2, t9, hV, hk, ht9, hge⟩, -⟩ := hR
  obtain ⟨hB, hC, hc, h3, h7, hq, h6, h10⟩ := id hO
  have N : ¬ MnA c (I 1) p0 p1 p2 p3 p4 p5 → (MnA c (I 1) p0 p1 p2 p3 p4 p5 ∧ MnO c b q p0 p1 p2 p3 p4 p5 I J S L I J S L) ∨ (¬ MnA c (I 1) p0 p1 p2 p3 p4 p5 ∧ E4 I J S L I J S L) := fun hn => Or.inr ⟨hn, rfl, rfl, rfl, rfl⟩
  unfold wp_X7_mend
  refine t_isClosedR h3 hc (fun t ht et => ?_) (fun hn => ⟨_, fun _ _ _ _ hB => hB, fun _ => N (fun k => hn k.1), fun hc => absurd rfl hc⟩)
  subst et
  refine ⟨_, fun _ _ _ _ hB => hB, fun hc => absurd hc (by decide), fun _ => ?_⟩
  refine t_reportFits (fun hr => ⟨fun _ => ?_, fun hc => absurd hc (by decide)⟩) (fun hr => ⟨fun hc => absurd rfl hc, fun _ => N (fun k => hr k.2)⟩)
  have hY : MnA c (I 1) (nI t) p1 p2 p3 p4 p5 := ⟨⟨t, ht, rfl⟩, hr⟩
  obtain ⟨w, hw2, ew⟩ := W12_cases hr.1
  obtain ⟨-, hne, ha, hbc⟩ := hr
  rw [ew, clN (by omega)] at hne
  subst ew
  refine e_put_O hC (by omega) hw2 (fun I1 f => ?_)
  have hF := f.fin
  have hB1 := hF.bk hB (by omega) hw2
  have hC1 := hF.ct hC (by omega) hw2
  unfold wp_X4_bringBack_O wp_X4_bringBack
  have hv : vp_in (nI t) 40 := vp_in_nI (by omega) (by omega)
  rw [clN (show t < 2 ^ 31 by omega)]
  refine ⟨hv, hv, fun I2 e2 => ?_⟩
  dsimp only
  rw [up_same]
  have eN : ∀ n, n ≠ 20 → I2 n = I1 n := fun n hn => by rw [e2, va_up_ne _ _ hn]
  have e20 : I2 20 = upd (I1 20) t (I1 20 t &&& (((1 : Int32) <<< (nI w &&& 31)) ^^^ (-1 : Int32))) := by rw [e2, va_up_self]
  have h2 : InvO c I2 S := by
    refine ⟨?_, hC1.same (eN 19 (by omega)) (eN 16 (by omega)), hc, h3, h7, hq, h6, h10⟩
    obtain ⟨⟨b, hb, h1, hBg⟩, hSt, hQ, hZ⟩ := id hB1
    refine ⟨⟨b, hb, h1, ?_⟩, ?_, by rw [eN 22 (by omega)]; exact hQ, by rw [eN 19 (by omega), eN 18 (by omega)]; exact hZ⟩
    · unfold Bgs
      rw [eN 7 (by omega), eN 6 (by omega), eN 13 (by omega), eN 11 (by omega)]
      exact hBg
    · unfold Sts
      rw [eN 1 (by omega), eN 3 (by omega), eN 4 (by omega)]
      exact hSt
  have eF : ∀ n, n < 15 ∨ 21 ≤ n → I2 n = I n := fun n hn => by rw [eN n (by omega), f.1 n (by omega)]
  have hX2 : BX c b q I2 := by
    refine hX.fr3 (fun j h1 h2 => eF j (by omega)) ?_ ((f.px hX.2.2.2.1 (by omega) hw2).fr (fun k _ h2 => eN k (by omega)))
    have := hX.2.2.1.put hX.2.1 (by omega) hw2 hne ha hbc f
    unfold RpX at this ⊢
    rw [eN 1 (by omega), eN 15 (by omega), eN 18 (by omega), eN 19 (by omega)]
    exact this
  have hA2 : AI (-100000000000000000) false c b I2 (I 29) J := hA.fr (eF 6 (by omega)) (eF 10 (by omega)) rfl rfl rfl rfl
  refine ⟨_, fun _ _ _ _ hB => hB, fun hle => ?_, fun _ => ?_⟩
  · refine Or.inl ⟨hY, t, w, I1, I2, ⟨ht, rfl⟩, ⟨hw2, rfl⟩, f, eN, e20, fun _ _ => ⟨rfl, rfl⟩, ⟨rfl, rfl, rfl, rfl⟩, Z, h2, hX2, hs, by rw [eF 29 (by omega)]; exact hA2, k2, t9, ?_, hk, ht9, fun i g1 g2 => ?_⟩
    · rw [hV.2.1] at hle
      have htt : t9 ≤ t := (nI_leI (by omega) (by omega)).mp hle
      exact hV.ext (XE.put hX.2.1 hX.1.1 (by omega) hw2 htt f (fun n h1 _ => eN n h1) (fun u hu => by rw [e20, pk_un (by omega)])) (by omega) hX.1.2.1 hX.2.1 hX.2.2.1 (fun k _ => ⟨by rw [eF 22 (by omega)], by rw [eF 23 (by omega)], by rw [eF 24 (by omega)]⟩) (fun k h1 h2 => ⟨eF k (by omega), rfl⟩) rfl rfl rfl rfl rfl
    · have : tmF I2 i = tmF I i := by unfold tmF; rw [eF 24 (by omega)]
      rw [this]
      exact hge i g1 g2
  · refine e_clear_Op (fun I3 J3 S3 L3 eI eJ hZ3 eS e7 e8 eL => ?_)
    obtain ⟨hB2, hC2, -⟩ := id h2
    obtain ⟨q9, t1, t2, hq1, q2, ht1, q4, ht2, q8⟩ := hq
    obtain ⟨N9, hN9⟩ := nI_any (S3 9)
    have e5 : ∀ j, j < 25 → I3 j = I2 j := fun j hj => eI j (by omega)
    refine Or.inl ⟨hY, t, w, I1, I2, ⟨ht, rfl⟩, ⟨hw2, rfl⟩, f, eN, e20, fun k hk => ⟨eI k (by omega), eJ k (by omega)⟩, ⟨eS 0 (by omega) (by omega), eS 5 (by omega) (by omega), eL 0 (by omega), eL 1 (by omega)⟩, (fun k => I3 (pO k), fun k => J3 (pO k), N9, L3 3, L3 4, 0), ⟨hB2.same e5 (eS 1 (by omega) (by omega)) (eS 2 (by omega) (by omega)), hC2.same (e5 19 (by omega)) (e5 16 (by omega)), hc, by rw [eS 3 (by omega) (by omega)]; exact h3, ⟨0, by omega, e7⟩, ⟨q9, t1, 0, hq1, by rw [eS 2 (by omega) (by omega)]; exact q2, ht1, by rw [eS 4 (by omega) (by omega)]; exact q4, by omega, e8⟩, by rw [eS 6 (by omega) (by omega)]; exact h6, by rw [eS 10 (by omega) (by omega)]; exact h10⟩, hX2.fr e5, ⟨by rw [eS 1 (by omega) (by omega)]; exact hs.1, by rw [eS 2 (by omega) (by omega)]; exact hs.2.1, by rw [eS 4 (by omega) (by omega)]; exact hs.2.2⟩, ?_, 0, 0, ⟨hZ3 N9, e7, e8, ⟨fun k hk => absurd hk (Nat.not_lt_zero _), fun i j h1 h2 => absurd h2 (Nat.not_lt_zero _)⟩, ?_⟩, Nat.zero_le _, Nat.zero_le _, fun i _ _ => Nat.zero_le _⟩
    · rw [eI 29 (by omega), eF 29 (by omega)]
      exact hA2.fr (e5 6 (by omega)) (e5 10 (by omega)) (eJ 26 (by omega)) (eJ 28 (by omega)) (eJ 30 (by omega)) (eJ 32 (by omega))
    · rw [anT_0 rfl]
      exact ⟨fun k _ _ => ⟨rfl, rfl⟩, hN9, rfl, rfl, rfl⟩
theorem v_X8_mend (p0 p1 p2 p3 p4 p5 : Int32) (h : InvM c b I S) : wp_X8_mend I J S L p0 p1 p2 p3 p4 p5 (fun _ I1 J1 S1 L1 => (MnA c (I 1) p0 p1 p2 p3 p4 p5 ∧ MnM c b p0 p1 p2 p3 p4 p5 I J S L I1 J1 S1 L1) ∨ (¬ MnA c (I 1) p0 p1 p2 p3 p4 p5 ∧ E4 I J S L I1 J1 S1 L1)) := by
  obtain ⟨⟨hc, s0⟩, -, hSt, hOr, hCt, hQ⟩ := id h
  have N : ¬ MnA c (I 1) p0 p1 p2 p3 p4 p5 → (MnA c (I 1) p0 p1 p2 p3 p4 p5 ∧ MnM c b p0 p1 p2 p3 p4 p5 I J S L I J S L) ∨ (¬ MnA c (I 1) p0 p1 p2 p3 p4 p5 ∧ E4 I J S L I J S L) := fun hn => Or.inr ⟨hn, rfl, rfl, rfl, rfl⟩
  unfold wp_X8_mend
  rw [s0]
  refine ⟨_, fun _ _ _ _ hB => hB, fun e4 => N (fun k => ?_), fun e0 => ⟨fun e4 => N (fun k => ?_), fun e4 => ?_⟩⟩
  · obtain ⟨⟨t, ht, rfl⟩, -⟩ := k
    exact absurd e4 (nI_pos (by omega))
  · obtain ⟨⟨t, ht, rfl⟩, -⟩ := k
    exact absurd e4 (nI_ge ht (by omega))
  obtain ⟨t, ht, rfl⟩ := nI_case (t := 0) c (by omega) e0 e4
  refine m_isReport hSt (fun hr => ⟨fun _ => ?_, fun hc => absurd hc (by decide)⟩) (fun hr => ⟨fun hc => absurd rfl hc, fun _ => N (fun k => hr k.2)⟩)
  obtain ⟨w, hw, ew⟩ := W12_cases hr.1
  have hr2 := hr
  subst ew
  refine m_puts hCt (by omega) hw (fun I' hF => ?_)
  rw [e12, clN (by omega)]
  refine ⟨vp_in_nI (by omega) (by omega), fun I2 e2 => ?_⟩
  have hN : ∀ n, n ≠ 20 → I2 n = I' n := fun n hn => by rw [e2, va_up_ne _ _ hn]
  have h2 : InvM c b I2 S := InvM.keep (hF.inv h (by omega) hw) (fun n hn => hN n (by omega)) (fun _ _ => rfl)
  exact Or.inl ⟨⟨⟨t, ht, rfl⟩, hr2⟩, t, w, I', ⟨ht, rfl⟩, ⟨hw, rfl⟩, hF, hN, by rw [e2, va_up_self]; rfl, ⟨rfl, rfl, rfl⟩, h2⟩
theorem u_X8_mend (p0 p1 p2 p3 p4 p5 : Int32) (hR : R2 c b q Z I J S L Im Jm Sm Lm) : wp_X8_mend Im Jm Sm Lm p0 p1 p2 p3 p4 p5 (fun _ I1 J1 S1 L1 => (MnA c (I 1) p0 p1 p2 p3 p4 p5 ∧ MnM c b p0 p1 p2 p3 p4 p5 Im Jm Sm Lm I1 J1 S1 L1) ∨ (¬ MnA c (I 1) p0 p1 p2 p3 p4 p5 ∧ E4 Im Jm Sm Lm I1 J1 S1 L1)) := by
  rw [← hR.2.2.1.2.1.1]
  exact v_X8_mend p0 p1 p2 p3 p4 p5 hR.2.1
theorem rr_mend (hR : R2 c b q Z I J S L Im Jm Sm Lm) (h1 : (MnA c (I 1) p0 p1 p2 p3 p4 p5 ∧ MnO c b q p0 p1 p2 p3 p4 p5 I J S L I1 J1 S1 L1) ∨ (¬ MnA c (I 1) p0 p1 p2 p3 p4 p5 ∧ E4 I J S L I1 J1 S1 L1)) (h2 : (MnA c (I 1) p0 p1 p2 p3 p4 p5 ∧ MnM c b p0 p1 p2 p3 p4 p5 Im Jm Sm Lm Im1 Jm1 Sm1 Lm1) ∨ (¬ MnA c (I 1) p0 p1 p2 p3 p4 p5 ∧ E4 Im Jm Sm Lm Im1 Jm1 Sm1 Lm1)) : RR I1 J1 S1 L1 Im1 Jm1 Sm1 Lm1 := by
  rcases h1 with ⟨ha, h1⟩ | ⟨ha, rfl, rfl, rfl, rfl⟩ <;> rcases h2 with ⟨hb, h2⟩ | ⟨hb, rfl, rfl, rfl, rfl⟩
  · obtain ⟨t, w, I2, I3, ⟨ht, e0⟩, ⟨hw, e1⟩, f, f3, f20, fI, ⟨fs0, fs5, fl0, fl1⟩, Z1, hF⟩ := h1
    obtain ⟨t', w', G2, ⟨ht', e0'⟩, ⟨hw', e1'⟩, g, g3, g20, ⟨rfl, rfl, rfl⟩, hM1⟩ := h2
    obtain ⟨-, hM, hm, ⟨hZ, hT⟩, s4, hP, h28, ⟨N, hN, n5, hRc⟩, s5, l0⟩ := hR
    have hc := hM.1.1
    have ew : t' = t := (nI_eq (by omega) (by omega)).mp (e0'.symm.trans e0)
    subst ew
    have ew : w' = w := (nI_eq (by omega) (by omega)).mp (e1'.symm.trans e1)
    subst ew
    obtain ⟨m1, m2, m3, m4⟩ := rr_put (show t' < 40 by omega) hw hm f g
    have m3' : RM I3 Im1 := m3.back (by omega) hw f3 f20 g3 g20
    have e5 : ∀ j, j < 25 → I1 j = I3 j := fun j hj => (fI j (by omega)).1
    have o : ∀ j, j < 15 ∨ 21 ≤ j → j < 39 → I1 j = I j := fun j h1 h2 => by rw [(fI j h2).1, f3 j (by omega), f.1 j (by omega)]
    have o2 : ∀ j, j ≠ 20 → j < 39 → I1 j = I2 j := fun j h1 h2 => by rw [(fI j h2).1, f3 j h1]
    refine ⟨c, b, q, Z1, hF, hM1, ⟨?_, ?_, m3'.x e5, ?_⟩, ⟨?_, fun u h1 h2 => ?_⟩, s4, ?_, by rw [fl1]; exact h28, ⟨N, hN, fs5.trans n5, ?_⟩, by rw [fs0]; exact s5, by rw [fl0]; exact l0⟩
    · unfold BM at m1 ⊢
      rw [g3 5 (by omega), g3 6 (by omega), g3 7 (by omega), g3 8 (by omega), g3 9 (by omega), g3 10 (by omega), g3 11 (by omega), g3 12 (by omega), o2 6 (by omega) (by omega), o2 7 (by omega) (by omega), o2 8 (by omega) (by omega), o2 9 (by omega) (by omega), o2 10 (by omega) (by omega), o2 11 (by omega) (by omega), o2 12 (by omega) (by omega), o2 13 (by omega) (by omega)]
      exact m1
    · unfold SMx at m2 ⊢
      rw [g3 1 (by omega), g3 2 (by omega), g3 3 (by omega), g3 4 (by omega), o2 1 (by omega) (by omega), o2 2 (by omega) (by omega), o2 3 (by omega) (by omega), o2 4 (by omega) (by omega)]
      exact m2
    · unfold QM at m4 ⊢
      rw [g3 38 (by omega), g3 39 (by omega), g3 40 (by omega), o2 22 (by omega) (by omega), o2 23 (by omega) (by omega), o2 24 (by omega) (by omega)]
      exact m4
    · have hZ2 : MZ c G2 := by
        unfold MZ at hZ ⊢
        rw [g.1 20 (by omega)]
        exact hZ
      exact hZ2.back ht hw g20
    · rw [g3 19 (by omega), g.1 19 (by omega), e5 20 (by omega), f20, pk_un (by omega), f.1 20 (by omega)]
      exact hT u h1 h2
    · rw [o 29 (by omega) (by omega)]
      exact (hP.x (o 6 (by omega) (by omega)) (fI 26 (by omega)).2 (fI 27 (by omega)).2 (fI 28 (by omega)).2 (fI 30 (by omega)).2 (fI 31 (by omega)).2 (fI 32 (by omega)).2).im (by rw [g3 26 (by omega), g.1 26 (by omega)]) (by rw [g3 27 (by omega), g.1 27 (by omega)])
    · unfold MRc at hRc ⊢
      rw [g3 33 (by omega), g3 34 (by omega), g3 35 (by omega), g.1 33 (by omega), g.1 34 (by omega), g.1 35 (by omega), o 34 (by omega) (by omega), o 35 (by omega) (by omega), o 36 (by omega) (by omega), (fI 37 (by omega)).2, (fI 38 (by omega)).2]
      exact hRc
  · exact absurd ha hb
  · exact absurd hb ha
  · exact ⟨c, b, q, Z, hR⟩
end
