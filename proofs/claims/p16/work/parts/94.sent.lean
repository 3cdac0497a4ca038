abbrev SumOK (x : Int32) : Prop := Sm x
section
variable {I I1 Im Im1 : TI} {J J1 Jm Jm1 : TJ} {S S1 Sm Sm1 : TS} {L L1 Lm Lm1 : TL} {c b q : Nat} {Z : TK}
theorem SX.add {p0 p1 : Int32} (h : SX q c I) (hc : c ≤ 40) (w0 : W12 p0) (w1 : SumOK p1) (e22 : I1 22 = upd (I 22) q p0) (e23 : I1 23 = upd (I 23) q p1) (e24 : I1 24 = upd (I 24) q (nI c)) : SX (q + 1) c I1 ∧ tmF I1 q = c ∧ ∀ k, k < q → tmF I1 k = tmF I k := by
  have a1 : tmF I1 q = c := by unfold tmF; rw [e24, pk_us, clN (by omega)]
  have a2 : ∀ k, k < q → tmF I1 k = tmF I k := fun k hk => by unfold tmF; rw [e24, pk_un (by omega)]
  refine ⟨⟨fun k hk => ?_, fun i j h1 h2 => ?_⟩, a1, a2⟩
  · by_cases g : k = q
    · subst g
      rw [a1, e22, e23, e24, pk_us, pk_us, pk_us]
      exact ⟨w0, w1, rfl, Nat.le_refl _⟩
    · rw [a2 k (by omega), e22, e23, e24, pk_un g, pk_un g, pk_un g]
      exact h.1 k (by omega)
  · by_cases g : j = q
    · subst g
      rw [a1, a2 i h1]
      exact (h.1 i h1).2.2.2
    · rw [a2 i (by omega), a2 j (by omega)]
      exact h.2 i j h1 (by omega)
theorem tsF_o {X : TI} {hd : Int32} {m : Int64} {k : Nat} (h7 : k ≠ 27) (h2 : k ≠ 32) : (tsF X b c hd m J).1 k = J k := by
  unfold tsF dbF
  dsimp only
  rw [va_up_ne _ _ h7, tsT_o h2]
def SnO (c b q : Nat) (Z : TK) (p0 p1 : Int32) (I : TI) (J : TJ) (S : TS) (L : TL) (I1 : TI) (J1 : TJ) (S1 : TS) (L1 : TL) : Prop := FO c b (q + 1) Z I1 J1 S1 L1 ∧ (∀ n, n ≠ 22 → n ≠ 23 → n ≠ 24 → I1 n = I n) ∧ (I1 22 = upd (I 22) q p0 ∧ I1 23 = upd (I 23) q p1 ∧ I1 24 = upd (I 24) q (nI c)) ∧ J1 = (tsF I b c p0 (p1.toInt64 * 1000000) J).1 ∧ S1 0 = S 0 ∧ S1 5 = S 5 ∧ L1 1 = L 1 ∧ L1 0 = L 0 + p1.toInt64
theorem u_X7_sent (p0 p1 : Int32) (hR : R2 c b q Z I J S L Im Jm Sm Lm) : wp_X7_sent 600 0 I J S L p0 p1 (fun r I1 J1 S1 L1 => ((W12 p0 ∧ SumOK p1 ∧ q < 60) ∧ SnO c b q Z p0 p1 I J S L I1 J1 S1 L1 ∧ r = (tsF I b c p0 (p1.toInt64 * 1000000) J).2) ∨ (¬ (W12 p0 ∧ SumOK p1 ∧ q < 60) ∧ E4 I J S L I1 J1 S1 L1 ∧ r = -1)) := by
  obtain ⟨⟨hO, hX, ⟨s1, s2, s4⟩, hA, k2, t, hV, hk, ht, hge⟩, -, -, -, -, -, -, ⟨N, hN, s5, -⟩, -⟩ := hR
  obtain ⟨hBk, hC, hc, h3, ⟨c2, hc2, h7⟩, ⟨q1, t1, t2, hq1, q2, ht1, q4, ht2, q8⟩, h6, h10⟩ := id hO
  obtain ⟨⟨hb, hB, hNB⟩, hS, hRp, hPX, hq, hQ⟩ := id hX
  have eq : q1 = q := (nI_eq (by omega) (by omega)).mp (q2.symm.trans s2)
  subst eq
  have N0 : ¬ (W12 p0 ∧ SumOK p1 ∧ q1 < 60) → ((W12 p0 ∧ SumOK p1 ∧ q1 < 60) ∧ SnO c b q1 Z p0 p1 I J S L I J S L ∧ (-1 : Int64) = (tsF I b c p0 (p1.toInt64 * 1000000) J).2) ∨ (¬ (W12 p0 ∧ SumOK p1 ∧ q1 < 60) ∧ E4 I J S L I J S L ∧ (-1 : Int64) = -1) := fun hn => Or.inr ⟨hn, ⟨rfl, rfl, rfl, rfl⟩, rfl⟩
  unfold wp_X7_sent
  refine s_X7_isHand (fun hw => ⟨_, fun _ _ _ _ hB => hB, fun hc => absurd hc (by decide), fun _ => ?_⟩) (fun hw => ⟨_, fun _ _ _ _ hB => hB, fun _ => N0 (fun k => hw k.1), fun hc => absurd rfl hc⟩)
  refine s_X7_isSum (fun hs => ⟨fun hc => absurd hc (by decide), fun _ => ⟨fun h60 => ?_, fun h60 => N0 (fun k => ?_)⟩⟩) (fun hs => ⟨fun _ => N0 (fun k => hs k.2.1), fun hc => absurd rfl hc⟩)
  · rw [s2] at h60
    have hq6 : q1 < 60 := (nI_ltI (b := 60) (by omega) (by omega)).mp h60
    intro x ex
    rw [h3] at ex
    subst ex
    unfold wp_X5_add_O wp_X5_add
    rw [s2, clN (by omega)]
    have hv : vp_in (nI q1) 60 := vp_in_nI hq6 (by omega)
    refine ⟨hv, fun I1 e1 => ⟨hv, fun I2 e2 => ⟨hv, fun I3 e3 => fun S1 eS L1 eL => ?_⟩⟩⟩
    dsimp only
    have s0 : va_up S1 0 (S 0) = S1 := upS_same (by rw [eS, va_up_ne _ _ (by omega)])
    rw [s0]
    have eN : ∀ n, n ≠ 22 → n ≠ 23 → n ≠ 24 → I3 n = I n := fun n a b d => by rw [e3, va_up_ne _ _ d, e2, va_up_ne _ _ b, e1, va_up_ne _ _ a]
    have e22 : I3 22 = upd (I 22) q1 p0 := by rw [e3, va_up_ne _ _ (by omega), e2, va_up_ne _ _ (by omega), e1, va_up_self]
    have e23 : I3 23 = upd (I 23) q1 p1 := by rw [e3, va_up_ne _ _ (by omega), e2, va_up_self, e1, va_up_ne _ _ (by omega)]
    have e24 : I3 24 = upd (I 24) q1 (nI c) := by rw [e3, va_up_self, e2, va_up_ne _ _ (by omega), e1, va_up_ne _ _ (by omega)]
    have e21 : ∀ j, j < 21 → I3 j = I j := fun j hj => eN j (by omega) (by omega) (by omega)
    have sN : ∀ j, j ≠ 2 → S1 j = S j := fun j hj => by rw [eS, va_up_ne _ _ hj]
    have t2' : S1 2 = nI (q1 + 1) := by rw [eS, va_up_self]; exact nI_1 q1
    have lN : ∀ j, j ≠ 0 → L1 j = L j := fun j hj => by rw [eL, va_up_ne _ _ hj]
    obtain ⟨hQ3, hTq, hTk⟩ := hQ.add hc hw hs e22 e23 e24
    have hB1 : Bk I3 S1 := by
      obtain ⟨⟨b', hb', h1', hBg⟩, hSt, ⟨q', hq', h2', hQ'⟩, hZ⟩ := id hBk
      have eq : q' = q1 := (nI_eq (by omega) (by omega)).mp (h2'.symm.trans s2)
      subst eq
      refine ⟨⟨b', hb', by rw [sN 1 (by omega)]; exact h1', ?_⟩, ?_, ⟨q' + 1, by omega, t2', fun k hk => (hQ3.1 k hk).1⟩, by rw [e21 19 (by omega), e21 18 (by omega)]; exact hZ⟩
      · unfold Bgs
        rw [e21 7 (by omega), e21 6 (by omega), e21 13 (by omega), e21 11 (by omega)]
        exact hBg
      · unfold Sts
        rw [e21 1 (by omega), e21 3 (by omega), e21 4 (by omega)]
        exact hSt
    have h1 : InvO c I3 S1 := ⟨hB1, hC.same (e21 19 (by omega)) (e21 16 (by omega)), hc, by rw [sN 3 (by omega)]; exact h3, ⟨c2, hc2, by rw [sN 7 (by omega)]; exact h7⟩, ⟨q1 + 1, t1, t2, by omega, t2', by omega, by rw [sN 4 (by omega)]; exact q4, by omega, by rw [sN 8 (by omega)]; exact q8⟩, by rw [sN 6 (by omega)]; exact h6, by rw [sN 10 (by omega)]; exact h10⟩
    have hX3 : BX c b (q1 + 1) I3 := by
      refine ⟨⟨hb, ?_, ?_⟩, ?_, ?_, hPX.fr (fun k _ h2 => e21 k (by omega)), by omega, hQ3⟩
      · unfold BgX at hB ⊢
        rw [e21 7 (by omega), e21 6 (by omega), e21 10 (by omega), e21 11 (by omega), e21 12 (by omega), e21 13 (by omega)]
        exact hB
      · unfold NB at hNB ⊢
        rw [e21 6 (by omega)]
        exact hNB
      · unfold StX at hS ⊢
        rw [e21 1 (by omega), e21 3 (by omega), e21 4 (by omega)]
        exact hS
      · unfold RpX at hRp ⊢
        rw [e21 1 (by omega), e21 15 (by omega), e21 18 (by omega), e21 19 (by omega)]
        exact hRp
    refine e_reckonTo_O (X := I3) (b := b) (c := c) (q := q1 + 1) (t := q1) (e := c) (N := N) (fun _ _ => rfl) hB1 hb (by rw [sN 1 (by omega)]; exact s1) (by rw [sN 3 (by omega)]; exact h3) (Nat.le_refl _) hc (by omega) t2' (by rw [sN 4 (by omega)]; exact s4) (by omega) (by rw [sN 5 (by omega)]; exact s5) (by rw [sN 6 (by omega)]; exact h6) (by omega) (fun I' J' S' L' hRx _ => ?_)
    have ot := fun k (hk : ¬ (25 ≤ k ∧ k < 39)) => rkF_ot (X := I3) (r := 600) (b := b) (q := q1 + 1) (j := c - c) (t := c) (g := (I3, J, N, L1 1, L1 2, q1)) hk
    have hm := sm_m hs
    have eX : tsF I3 b c p0 (p1.toInt64 * 1000000) J = tsF I b c p0 (p1.toInt64 * 1000000) J := tsF_ext (Nat.le_refl _) hb hc (fun k n h1 h2 _ => by rw [e21 k (by omega)]) hm hA
    have eK : rkF I3 600 b (q1 + 1) (c - c) c (I3, J, N, L1 1, L1 2, q1) = (I3, (tsF I b c p0 (p1.toInt64 * 1000000) J).1, N, L1 1, (tsF I b c p0 (p1.toInt64 * 1000000) J).2, q1 + 1) := by
      rw [Nat.sub_self]
      show toK I3 b (q1 + 1) c (nI c) (I3, J, N, L1 1, L1 2, q1) = _
      unfold toK
      dsimp only
      rw [show q1 + 1 - q1 = 0 + 1 by omega, toF_s, if_pos (by rw [e24, pk_us]), e22, e23, pk_us, pk_us, eX]
      rfl
    rw [eK] at hRx ot
    obtain ⟨x1, x2, x3, x4, x5, x6, x7⟩ := hRx
    have eI : I' = I3 := (congrArg Prod.fst x7).symm
    have eJ : J' = (tsF I b c p0 (p1.toInt64 * 1000000) J).1 := (congrArg (fun g : TK => g.2.1) x7).symm
    have eL1 : L' 1 = L1 1 := (congrArg (fun g : TK => g.2.2.2.1) x7).symm
    have eL2 : L' 2 = (tsF I b c p0 (p1.toInt64 * 1000000) J).2 := (congrArg (fun g : TK => g.2.2.2.2.1) x7).symm
    have x4 : S' 4 = nI (q1 + 1) := x4
    have x5 : S' 5 = nI N := x5
    subst eI
    refine Or.inl ⟨⟨hw, hs, hq6⟩, ⟨⟨?_, hX3, ⟨?_, ?_, x4⟩, ?_, k2, t, ?_, by omega, ht, fun i g1 g2 => ?_⟩, eN, ⟨e22, e23, e24⟩, eJ, ?_, ?_, ?_, ?_⟩, eL2⟩
    · exact h1.rk t2' (by omega) (Nat.le_refl _) hc ⟨x1, x2, x3, q1 + 1, Nat.le_refl _, x4⟩
    · rw [x2 1 (by omega) (by omega) (by omega), sN 1 (by omega)]; exact s1
    · rw [x2 2 (by omega) (by omega) (by omega)]; exact t2'
    · rw [eN 29 (by omega) (by omega) (by omega), eJ]
      exact (AI_ts hb hc hw hm hA).1.fr (e21 6 (by omega)) (e21 10 (by omega)) rfl rfl rfl rfl
    · refine hV.ext (XE.eq2 hS hb e21) (by omega) hB hS hRp (fun k hk2 => ⟨by rw [e22, pk_un (by omega)], by rw [e23, pk_un (by omega)], by rw [e24, pk_un (by omega)]⟩) (fun k h1 h2 => ⟨eN k (by omega) (by omega) (by omega), ?_⟩) (by rw [x2 7 (by omega) (by omega) (by omega), sN 7 (by omega)]) (by rw [x2 8 (by omega) (by omega) (by omega), sN 8 (by omega)]) (by rw [x2 9 (by omega) (by omega) (by omega), sN 9 (by omega)]) (by rw [x6 3 (by omega) (by omega), lN 3 (by omega)]) (by rw [x6 4 (by omega) (by omega), lN 4 (by omega)])
      rw [eJ, tsF_o (by omega) (by omega)]
    · by_cases g : i = q1
      · rw [g, hTq]
        exact ht
      · rw [hTk i (by omega)]
        exact hge i g1 (by omega)
    · rw [x2 0 (by omega) (by omega) (by omega), sN 0 (by omega)]
    · rw [x5, s5]
    · rw [eL1, lN 1 (by omega)]
    · rw [x6 0 (by omega) (by omega), eL, va_up_self]
  · rw [s2] at h60
    exact h60 (nI_lt (b := 60) k.2.2 (by omega))
theorem MP.im {l : Nat} {X : TI} {D : Nat → Int32} (h : MP l X D J Im Jm) (e6 : Im1 26 = Im 26) (e7 : Im1 27 = Im 27) : MP l X D J Im1 Jm := by
  unfold MP at h ⊢
  rw [e6, e7]
  exact h
def SnM (c b q : Nat) (p0 p1 : Int32) (I : TI) (J : TJ) (Im : TI) (Jm : TJ) (Sm : TS) (Lm : TL) (Im1 : TI) (Jm1 : TJ) (Sm1 : TS) (Lm1 : TL) : Prop := InvM c b Im1 Sm1 ∧ (∀ n, n ≠ 38 → n ≠ 39 → n ≠ 40 → Im1 n = Im n) ∧ (Im1 38 = upd (Im 38) q p0 ∧ Im1 39 = upd (Im 39) q p1 ∧ Im1 40 = upd (Im 40) q (nI c)) ∧ MP 0 I (I 29) (tsF I b c p0 (p1.toInt64 * 1000000) J).1 Im1 Jm1 ∧ (∀ k, k ≠ 22 → k ≠ 25 → Jm1 k = Jm k) ∧ Sm1 4 = nI (q + 1) ∧ (∀ j, j ≠ 4 → Sm1 j = Sm j) ∧ Lm1 0 = Lm 0 + p1.toInt64 * 1000000
theorem u_X8_sent (p0 p1 : Int32) (hR : R2 c b q Z I J S L Im Jm Sm Lm) : wp_X8_sent Im Jm Sm Lm p0 p1 (fun r I1 J1 S1 L1 => ((W12 p0 ∧ SumOK p1 ∧ q < 60) ∧ SnM c b q p0 p1 I J Im Jm Sm Lm I1 J1 S1 L1 ∧ r = (tsF I b c p0 (p1.toInt64 * 1000000) J).2) ∨ (¬ (W12 p0 ∧ SumOK p1 ∧ q < 60) ∧ E4 Im Jm Sm Lm I1 J1 S1 L1 ∧ r = -1)) := by
  obtain ⟨⟨-, ⟨⟨hb, hB0, hNB⟩, hS, hRp, hPX, hq, hQ0⟩, -, hA, -⟩, hM, ⟨m1, m2, m3, m4⟩, -, s4, hP, h28, -⟩ := hR
  obtain ⟨⟨hc, s0⟩, ⟨-, s1, hB⟩, hSt, hOr, hCt, q', hq', s4', hQ⟩ := id hM
  have eq : q' = q := (nI_eq (by omega) (by omega)).mp (s4'.symm.trans s4)
  subst eq
  have N0 : ¬ (W12 p0 ∧ SumOK p1 ∧ q' < 60) → ((W12 p0 ∧ SumOK p1 ∧ q' < 60) ∧ SnM c b q' p0 p1 I J Im Jm Sm Lm Im Jm Sm Lm ∧ (-1 : Int64) = (tsF I b c p0 (p1.toInt64 * 1000000) J).2) ∨ (¬ (W12 p0 ∧ SumOK p1 ∧ q' < 60) ∧ E4 Im Jm Sm Lm Im Jm Sm Lm ∧ (-1 : Int64) = -1) := fun hn => Or.inr ⟨hn, ⟨rfl, rfl, rfl, rfl⟩, rfl⟩
  unfold wp_X8_sent
  refine s_X8_isHand (fun hw => ?_) (fun hw => ⟨_, fun _ _ _ _ hB => hB, fun _ => N0 (fun k => hw k.1), fun hc => absurd rfl hc⟩)
  rw [s4, s0]
  refine ⟨_, fun _ _ _ _ hB => hB, fun hc => absurd hc (by decide), fun _ => ⟨fun g1 => N0 (fun k => k.2.1.1 g1), fun g1 => ⟨fun g2 => N0 (fun k => k.2.1.2 g2), fun g2 => ⟨fun e6 => ?_, fun e6 => N0 (fun k => ?_)⟩⟩⟩⟩
  · have hq6 : q' < 60 := by
      rcases Nat.lt_or_ge q' 60 with g | g
      · exact g
      · exact absurd (by rw [show q' = 60 by omega]; rfl) e6
    have hv : vp_in (nI q') 60 := vp_in_nI hq6 (by omega)
    rw [clN (show q' < 2 ^ 31 by omega)]
    refine ⟨hv, fun I1 e1 => ⟨hv, fun I2 e2 => ⟨hv, fun I3 e3 S1 eS L1 eL => ?_⟩⟩⟩
    have hs : SumOK p1 := ⟨g1, g2⟩
    obtain ⟨w, hw2, rfl⟩ := W12_cases hw
    have tS : ∀ j, j ≠ 4 → S1 j = Sm j := fun j hj => by rw [eS, va_up_ne _ _ hj]
    have t4 : S1 4 = nI (q' + 1) := by rw [eS, va_up_self]; exact nI_1 q'
    have hN : ∀ n, n ≠ 38 → n ≠ 39 → n ≠ 40 → I3 n = Im n := fun n a1 a2 a3 => by rw [e3, va_up_ne _ _ a3, e2, va_up_ne _ _ a2, e1, va_up_ne _ _ a1]
    have r38 : I3 38 = upd (Im 38) q' (nI w) := by rw [e3, va_up_ne _ _ (by omega), e2, va_up_ne _ _ (by omega), e1, va_up_self]
    have r39 : I3 39 = upd (Im 39) q' p1 := by rw [e3, va_up_ne _ _ (by omega), e2, va_up_self, e1, va_up_ne _ _ (by omega)]
    have r40 : I3 40 = upd (Im 40) q' (nI c) := by rw [e3, va_up_self, e2, va_up_ne _ _ (by omega), e1, va_up_ne _ _ (by omega)]
    have m1' : BM I I3 := by
      unfold BM at m1 ⊢
      rw [hN 5 (by omega) (by omega) (by omega), hN 6 (by omega) (by omega) (by omega), hN 7 (by omega) (by omega) (by omega), hN 8 (by omega) (by omega) (by omega), hN 9 (by omega) (by omega) (by omega), hN 10 (by omega) (by omega) (by omega), hN 11 (by omega) (by omega) (by omega), hN 12 (by omega) (by omega) (by omega)]
      exact m1
    refine n2_takes (X := I) (l := 0) (c := c) (D := I 29) (Ja := J) m1' hb hc ((tS 1 (by omega)).trans s1) (by omega) hw2 (sm_m hs) hA (hP.im (hN 26 (by omega) (by omega) (by omega)) (hN 27 (by omega) (by omega) (by omega))) (fun J4 a1 a2 a3 => Or.inl ⟨⟨hw, hs, hq6⟩, ⟨⟨⟨hc, by rw [tS 0 (by omega)]; exact s0⟩, ⟨hb, (tS 1 (by omega)).trans s1, ?_⟩, ?_, ?_, ?_, q' + 1, by omega, t4, fun k hk => ?_⟩, hN, ⟨r38, r39, r40⟩, a1, a3, t4, tS, by rw [eL, va_up_self]⟩, rfl⟩)
    · unfold MBg
      rw [hN 6 (by omega) (by omega) (by omega), hN 5 (by omega) (by omega) (by omega), hN 12 (by omega) (by omega) (by omega), hN 10 (by omega) (by omega) (by omega)]
      exact hB
    · unfold MSt
      rw [hN 1 (by omega) (by omega) (by omega), hN 3 (by omega) (by omega) (by omega)]
      exact hSt
    · unfold MOr
      rw [hN 18 (by omega) (by omega) (by omega), hN 17 (by omega) (by omega) (by omega)]
      exact hOr
    · unfold MCt
      rw [hN 18 (by omega) (by omega) (by omega), hN 16 (by omega) (by omega) (by omega)]
      exact hCt
    · rw [r38]
      by_cases g : k = q'
      · rw [g, pk_us]; exact W12_nI hw2
      · rw [pk_un g]; exact hQ k (by omega)
  · have := (nI_eq (b := 60) (by omega) (by omega)).mp e6
    have := k.2.2
    omega
theorem rr_sent {p0 p1 : Int32} {r1 r2 : Int64} (hR : R2 c b q Z I J S L Im Jm Sm Lm) (h1 : ((W12 p0 ∧ SumOK p1 ∧ q < 60) ∧ SnO c b q Z p0 p1 I J S L I1 J1 S1 L1 ∧ r1 = (tsF I b c p0 (p1.toInt64 * 1000000) J).2) ∨ (¬ (W12 p0 ∧ SumOK p1 ∧ q < 60) ∧ E4 I J S L I1 J1 S1 L1 ∧ r1 = -1)) (h2 : ((W12 p0 ∧ SumOK p1 ∧ q < 60) ∧ SnM c b q p0 p1 I J Im Jm Sm Lm Im1 Jm1 Sm1 Lm1 ∧ r2 = (tsF I b c p0 (p1.toInt64 * 1000000) J).2) ∨ (¬ (W12 p0 ∧ SumOK p1 ∧ q < 60) ∧ E4 Im Jm Sm Lm Im1 Jm1 Sm1 Lm1 ∧ r2 = -1)) : RR I1 J1 S1 L1 Im1 Jm1 Sm1 Lm1 := by
  rcases h1 with ⟨ha, h1, -⟩ | ⟨ha, ⟨rfl, rfl, rfl, rfl⟩, -⟩ <;> rcases h2 with ⟨hb, h2, -⟩ | ⟨hb, ⟨rfl, rfl, rfl, rfl⟩, -⟩
  · obtain ⟨hF, hM, ⟨m1, m2, m3, m4⟩, ⟨hZ, hT⟩, s4, hP, h28, ⟨N, hN, n5, hRc⟩, s5, l0⟩ := hR
    obtain ⟨f1, fN, ⟨f22, f23, f24⟩, fJ, f0, f5, fL1, fL0⟩ := h1
    obtain ⟨g1, gN, ⟨g38, g39, g40⟩, gP, gJ, g4, gS, gL⟩ := h2
    have iN : ∀ n, n < 38 → Im1 n = Im n := fun n hn => gN n (by omega) (by omega) (by omega)
    have oN : ∀ n, n < 22 → I1 n = I n := fun n hn => fN n (by omega) (by omega) (by omega)
    refine ⟨c, b, q + 1, Z, f1, g1, ⟨?_, ?_, ?_, ?_⟩, ⟨?_, ?_⟩, g4, ?_, ?_, ⟨N, hN, f5.trans n5, ?_, fun i hi h6 => ?_⟩, ?_, ?_⟩
    · unfold BM at m1 ⊢
      rw [iN 5 (by omega), iN 6 (by omega), iN 7 (by omega), iN 8 (by omega), iN 9 (by omega), iN 10 (by omega), iN 11 (by omega), iN 12 (by omega), oN 6 (by omega), oN 7 (by omega), oN 8 (by omega), oN 9 (by omega), oN 10 (by omega), oN 11 (by omega), oN 12 (by omega), oN 13 (by omega)]
      exact m1
    · unfold SMx at m2 ⊢
      rw [iN 1 (by omega), iN 2 (by omega), iN 3 (by omega), iN 4 (by omega), oN 1 (by omega), oN 2 (by omega), oN 3 (by omega), oN 4 (by omega)]
      exact m2
    · unfold RM opP at m3 ⊢
      rw [iN 13 (by omega), iN 14 (by omega), iN 15 (by omega), iN 16 (by omega), iN 17 (by omega), iN 18 (by omega), iN 19 (by omega), iN 20 (by omega), oN 15 (by omega), oN 16 (by omega), oN 18 (by omega), oN 19 (by omega), oN 20 (by omega)]
      exact m3
    · exact ⟨by rw [g38, f22, m4.1], by rw [g39, f23, m4.2.1], by rw [g40, f24, m4.2.2]⟩
    · unfold MZ at hZ ⊢
      rw [iN 20 (by omega)]
      exact hZ
    · unfold TN at hT ⊢
      rw [iN 19 (by omega), oN 20 (by omega)]
      exact hT
    · rw [fN 29 (by omega) (by omega) (by omega), fJ]
      exact gP.x (oN 6 (by omega)) rfl rfl rfl rfl rfl rfl
    · rw [gJ 28 (by omega) (by omega), fL1]
      exact h28
    · rw [gS 3 (by omega)]
      exact hRc.1
    · rw [iN 33 (by omega), iN 34 (by omega), iN 35 (by omega), gJ 36 (by omega) (by omega), gJ 37 (by omega) (by omega), fN 34 (by omega) (by omega) (by omega), fN 35 (by omega) (by omega) (by omega), fN 36 (by omega) (by omega) (by omega), fJ, tsF_o (by omega) (by omega), tsF_o (by omega) (by omega)]
      exact hRc.2 i hi h6
    · rw [f0, gS 5 (by omega)]
      exact s5
    · rw [gL, fL0, l0, Int64.add_mul]
  · exact absurd ha hb
  · exact absurd hb ha
  · exact ⟨c, b, q, Z, hR⟩
end
