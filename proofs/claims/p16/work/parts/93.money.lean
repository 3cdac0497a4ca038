section
variable {X X' : TI} {b q c t r : Nat}
theorem XE.eq2 (hS : StX X) (hb : b ≤ 24) (e : ∀ j, j < 21 → X' j = X j) : XE t b b X X' := ⟨⟨Nat.le_refl _, hb⟩, fun k _ h1 h2 _ => by rw [e k (by omega)], fun n h1 h2 => absurd h2 (by omega), fun w hw => by
  obtain ⟨kk, h1, h2⟩ := hS.1 w hw
  exact ⟨kk, kk, Nat.le_refl _, h1, h2, by rw [e 1 (by omega)]; exact h2, fun _ _ => by rw [e 2 (by omega)], fun _ _ _ _ => ⟨by rw [e 3 (by omega)], by rw [e 4 (by omega)]⟩, fun k h1 h2 => absurd h2 (by omega)⟩, fun _ _ => ⟨by rw [e 19 (by omega)], by rw [e 20 (by omega)], fun _ _ => ⟨by rw [e 18 (by omega)], by rw [e 16 (by omega)], fun _ _ => by rw [e 15 (by omega)]⟩⟩⟩
theorem toK_q {p : Int32} {g : TK} (h : g.2.2.2.2.2 = q) : toK X b q c p g = g := by
  obtain ⟨I, J, N, ci, lk, k⟩ := g
  have h : k = q := h
  subst h
  unfold toK
  dsimp only
  rw [Nat.sub_self]
  rfl
theorem rkF_1 {g : TK} (h : g.2.2.2.2.2 = q) : rkF X r b q (c + 1 - c) c g = clK X r b c g := by
  rw [show c + 1 - c = 1 by omega]
  show toK X b q (c + 1) (nI (c + 1)) (clK X r b c (toK X b q c (nI c) g)) = clK X r b c g
  rw [toK_q h, toK_q (by exact h)]
theorem cl_I {G : TC} {k : Nat} (hk : k ≠ 29) : (clQ X t b (clP X t b G)).1 k = G.1.1 k := by
  rw [clQ_i hk]
  unfold clP
  rw [pyF_i hk]
theorem cl_J {G : TC} {k : Nat} (h6 : k ≠ 26) (h7 : k ≠ 27) (h8 : k ≠ 28) (h2 : k ≠ 32) : (clQ X t b (clP X t b G)).2 k = G.1.2.1 k := by
  rw [clQ_o h8]
  unfold clP
  rw [pyF_o h6 h7]
  exact eoF_o h6 h2 _ _ _
end
section
variable {I I1 Im Im1 : TI} {J J1 Jm Jm1 : TJ} {S S1 Sm Sm1 : TS} {L L1 Lm Lm1 : TL} {c b q : Nat} {Z : TK}
/-- behind a CLOSE, the class -/
def ClO (c b q : Nat) (Z : TK) (I : TI) (J : TJ) (S : TS) (L : TL) (I1 : TI) (J1 : TJ) (S1 : TS) (L1 : TL) : Prop := FO (c + 1) b q Z I1 J1 S1 L1 ∧ (I1 = (clQ I c b (clP I c b (rpG I 600 c b I J (L 1)))).1 ∧ J1 = (clQ I c b (clP I c b (rpG I 600 c b I J (L 1)))).2) ∧ S1 5 = nI (rpG I 600 c b I J (L 1)).1.2.2 ∧ L1 1 = (rpG I 600 c b I J (L 1)).2 ∧ S1 0 = S 0 ∧ L1 0 = L 0 ∧ (∀ j, j < 25 → I1 j = I j)
theorem SX.up (h : SX q c I) : SX q (c + 1) I := ⟨fun k hk => ⟨(h.1 k hk).1, (h.1 k hk).2.1, (h.1 k hk).2.2.1, Nat.le_succ_of_le (h.1 k hk).2.2.2⟩, h.2⟩
theorem u_X7_close (hR : R2 c b q Z I J S L Im Jm Sm Lm) : wp_X7_close 600 0 I J S L (fun _ I1 J1 S1 L1 => (c < 40 ∧ ClO c b q Z I J S L I1 J1 S1 L1) ∨ (c = 40 ∧ E4 I J S L I1 J1 S1 L1)) := by
  obtain ⟨⟨hO, hX, ⟨s1, s2, s4⟩, hA, k2, t, hV, hk, ht, hge⟩, -, -, -, -, -, -, ⟨N, hN, s5, -⟩, -⟩ := hR
  obtain ⟨hBk, hC, hc, h3, -, -, h6, h10⟩ := id hO
  obtain ⟨⟨hb, hB, hNB⟩, hS, hRp, hPX, hq, hQ⟩ := id hX
  unfold wp_X7_close
  intro x ex
  rw [h3] at ex
  subst ex
  refine ⟨fun hlt => ?_, fun hlt => Or.inr ⟨?_, rfl, rfl, rfl, rfl⟩⟩
  · have hc4 : c < 40 := (nI_ltI (b := 40) (by omega) (by omega)).mp hlt
    rw [nI_1]
    refine e_reckonTo_O (X := I) (fun _ _ => rfl) hBk hb s1 h3 (by omega) (by omega) hq s2 s4 (Nat.le_refl _) s5 h6 (by omega) (fun I' J' S' L' hRx _ => ?_)
    have ot := fun k (hk : ¬ (25 ≤ k ∧ k < 39)) => rkF_ot (X := I) (r := 600) (b := b) (q := q) (j := c + 1 - c) (t := c) (g := (I, J, N, L 1, L 2, q)) hk
    rw [rkF_1 (g := (I, J, N, L 1, L 2, q)) rfl] at hRx ot
    obtain ⟨x1, x2, x3, x4, x5, x6, x7⟩ := hRx
    have eI : I' = (clQ I c b (clP I c b (rpG I 600 c b I J (L 1)))).1 := (congrArg Prod.fst x7).symm
    have eJ : J' = (clQ I c b (clP I c b (rpG I 600 c b I J (L 1)))).2 := (congrArg (fun g : TK => g.2.1) x7).symm
    have eL : L' 1 = (rpG I 600 c b I J (L 1)).2 := (congrArg (fun g : TK => g.2.2.2.1) x7).symm
    have x4 : S' 4 = nI q := x4
    have x5 : S' 5 = nI (rpG I 600 c b I J (L 1)).1.2.2 := x5
    refine Or.inl ⟨hc4, ⟨?_, ?_, ⟨by rw [x2 1 (by omega) (by omega) (by omega)]; exact s1, by rw [x2 2 (by omega) (by omega) (by omega)]; exact s2, x4⟩, ?_, k2, t, ?_, hk, by omega, fun i h1 h2 => ?_⟩, ⟨eI, eJ⟩, x5, eL, x2 0 (by omega) (by omega) (by omega), x6 0 (by omega) (by omega), x1⟩
    · exact hO.rk s2 hq (by omega) (by omega) ⟨x1, x2, x3, q, Nat.le_refl _, x4⟩
    · exact BX.fr (X := I) ⟨⟨hb, hB, hNB⟩, hS, hRp, hPX, hq, hQ.up⟩ x1
    · rw [eI, eJ]
      exact (AI_cl (r := 600) (ci := L 1) hB hb hc4 hS hRp hA).fr (by rw [← eI]; exact x1 6 (by omega)) (by rw [← eI]; exact x1 10 (by omega)) rfl rfl rfl rfl
    · refine hV.ext (XE.eq2 hS hb (fun j hj => x1 j (by omega))) (by omega) hB hS hRp (fun k _ => ⟨by rw [x1 22 (by omega)], by rw [x1 23 (by omega)], by rw [x1 24 (by omega)]⟩) (fun k h1 h2 => ?_) (x2 7 (by omega) (by omega) (by omega)) (x2 8 (by omega) (by omega) (by omega)) (x2 9 (by omega) (by omega) (by omega)) (x6 3 (by omega) (by omega)) (x6 4 (by omega) (by omega))
      have g := ot k (by omega)
      rw [x7] at g
      exact g
    · have : tmF I' i = tmF I i := by unfold tmF; rw [x1 24 (by omega)]
      rw [this]
      exact hge i h1 h2
  · rcases Nat.lt_or_ge c 40 with g | g
    · exact absurd (nI_lt (b := 40) g (by omega)) hlt
    · omega
/-- behind a CLOSE, the reference -/
def ClM (c b : Nat) (I : TI) (J : TJ) (L : TL) (Im : TI) (Jm : TJ) (Sm : TS) (Lm : TL) (Im1 : TI) (Jm1 : TJ) (Sm1 : TS) (Lm1 : TL) : Prop := InvM (c + 1) b Im1 Sm1 ∧ MP 0 I ((clQ I c b (clP I c b (rpG I 600 c b I J (L 1)))).1 29) (clQ I c b (clP I c b (rpG I 600 c b I J (L 1)))).2 Im1 Jm1 ∧ MRc (fun _ => False) (rpG I 600 c b I J (L 1)).1.1 (rpG I 600 c b I J (L 1)).1.2.1 (rpG I 600 c b I J (L 1)).1.2.2 Im1 Jm1 Sm1 ∧ Jm1 28 0 = (rpG I 600 c b I J (L 1)).2 ∧ MG 0 Im Im1 Jm Jm1 ∧ (∀ j, j ≠ 0 → j ≠ 2 → j ≠ 3 → Sm1 j = Sm j) ∧ Lm1 = Lm
theorem u_X8_close (hR : R2 c b q Z I J S L Im Jm Sm Lm) : wp_X8_close Im Jm Sm Lm (fun _ I1 J1 S1 L1 => (c < 40 ∧ ClM c b I J L Im Jm Sm Lm I1 J1 S1 L1) ∨ (c = 40 ∧ E4 Im Jm Sm Lm I1 J1 S1 L1)) := by
  obtain ⟨⟨-, ⟨⟨hb, hB, hNB⟩, hS, hRp, hPX, hq, hQ⟩, -, hA, -⟩, hM, ⟨m1, m2, m3, m4⟩, -, s4, hP, h28, -⟩ := hR
  obtain ⟨⟨hc, s0⟩, ⟨-, s1, -⟩, -⟩ := id hM
  unfold wp_X8_close
  refine ⟨fun e4 S1 eS => ?_, fun e4 => Or.inr ⟨?_, rfl, rfl, rfl, rfl⟩⟩
  · have hc4 : c < 40 := by
      rcases Nat.lt_or_ge c 40 with g | g
      · exact g
      · exact absurd (by rw [s0, show c = 40 by omega]; rfl) e4
    have tS : ∀ j, j ≠ 3 → S1 j = Sm j := fun j hj => by rw [eS, va_up_ne _ _ hj]
    have t3 : S1 3 = nI 0 := by rw [eS, va_up_self]; rfl
    rw [tS 0 (by omega), s0]
    obtain ⟨hK, hAB, hD, hFL, -⟩ := hA
    refine n2_closes (l := 0) (r := 600) (Ia := I) (Ja := J) (ci := L 1) m1 m2 m3 hB hS hRp hb ((tS 1 (by omega)).trans s1) (by omega) hc4 (fun _ => rfl) ⟨hP.1, fun _ => ⟨t3, fun i hi => absurd hi (Nat.not_lt_zero _)⟩, hK⟩ hP h28 hAB (by unfold UB; omega) hD (by unfold FB; omega) hFL (fun I2 J2 S2 hCL S3 e3 => ?_)
    obtain ⟨c1, c2, c3, c4, c5⟩ := hCL
    have u0 : S2 0 = nI c := by rw [c5.1 0 (by omega) (by omega), tS 0 (by omega), s0]
    have u3 : S3 0 = nI (c + 1) := by rw [e3, va_up_self, u0]; exact nI_1 c
    have uo : ∀ j, j ≠ 0 → j ≠ 2 → j ≠ 3 → S3 j = Sm j := fun j a1 a2 a3 => by rw [e3, va_up_ne _ _ a1, c5.1 j a2 a3, tS j a3]
    refine Or.inl ⟨hc4, ?_, c1, ?_, c3, c4, uo, rfl⟩
    · have h2 : InvM c b I2 Sm := hM.keep (fun n hn => c4.1 n (by omega)) (fun _ _ => rfl)
      obtain ⟨-, ⟨hb', s1', hB'⟩, hSt', hOr', hCt', q', hq', s4', hQ'⟩ := h2
      exact ⟨⟨by omega, u3⟩, ⟨hb', by rw [uo 1 (by omega) (by omega) (by omega)]; exact s1', hB'⟩, hSt', hOr', hCt', q', hq', by rw [uo 4 (by omega) (by omega) (by omega)]; exact s4', hQ'⟩
    · have g := c2 rfl
      exact ⟨by rw [e3, va_up_ne _ _ (by omega)]; exact g.1, g.2⟩
  · rw [s0] at e4
    exact (nI_eq (b := 40) (by omega) (by omega)).mp e4
theorem rr_close (hR : R2 c b q Z I J S L Im Jm Sm Lm) (h1 : (c < 40 ∧ ClO c b q Z I J S L I1 J1 S1 L1) ∨ (c = 40 ∧ E4 I J S L I1 J1 S1 L1)) (h2 : (c < 40 ∧ ClM c b I J L Im Jm Sm Lm Im1 Jm1 Sm1 Lm1) ∨ (c = 40 ∧ E4 Im Jm Sm Lm Im1 Jm1 Sm1 Lm1)) : RR I1 J1 S1 L1 Im1 Jm1 Sm1 Lm1 := by
  rcases h1 with ⟨hc4, h1⟩ | ⟨hc4, rfl, rfl, rfl, rfl⟩ <;> rcases h2 with ⟨hd4, h2⟩ | ⟨hd4, rfl, rfl, rfl, rfl⟩
  · obtain ⟨hF, hM, ⟨m1, m2, m3, m4⟩, ⟨hZ, hT⟩, s4, hP, h28, ⟨N, hN, n5, hRc⟩, s5, l0⟩ := hR
    obtain ⟨f1, ⟨eI, eJ⟩, f5, fL, f0, fL0, x1⟩ := h1
    obtain ⟨g1, g2, g3, g4, g5, g6, rfl⟩ := h2
    obtain ⟨-, ⟨⟨hb, -⟩, -, hRp, -⟩, -⟩ := hF
    rw [← eI, ← eJ] at g2
    refine ⟨c + 1, b, q, Z, f1, g1, ⟨(m1.x x1).f6 g5.1, (m2.x x1).f6 g5.1, (m3.x x1).f6 g5.1, (m4.x x1).fr g5.1⟩, ⟨fun t w a1 a2 a3 => ?_, fun t a1 a2 => ?_⟩, by rw [g6 4 (by omega) (by omega) (by omega)]; exact s4, g2.x (x1 6 (by omega)) rfl rfl rfl rfl rfl rfl, g4.trans fL.symm, ⟨_, rpG_n hb hRp hc4, f5, ?_⟩, ?_, ?_⟩
    · rw [g5.1 20 (by omega)]
      exact hZ t w (by omega) a2 a3
    · rw [g5.1 19 (by omega), x1 20 (by omega)]
      exact hT t (by omega) a2
    · unfold MRc at g3 ⊢
      rw [eI, eJ, cl_I (by omega), cl_I (by omega), cl_I (by omega), cl_J (by omega) (by omega) (by omega) (by omega), cl_J (by omega) (by omega) (by omega) (by omega)]
      exact g3
    · rw [f0, g6 5 (by omega) (by omega) (by omega)]
      exact s5
    · rw [fL0]
      exact l0
  · omega
  · omega
  · exact ⟨c, b, q, Z, hR⟩
/-- behind a SETTLE, the class -/
def StO (Z : TK) (b q c : Nat) (I : TI) (J : TJ) (S : TS) (L : TL) (I1 : TI) (J1 : TJ) (S1 : TS) (L1 : TL) : Prop := FO c b q Z I1 J1 S1 L1 ∧ SL ((anT Z I 0 b q c).1 29) (anT Z I 0 b q c).2.1 (I 29) J J1 ∧ L1 1 = (anT Z I 0 b q c).2.2.2.1 ∧ L1 0 = L 0 ∧ (∀ j, j < 39 → I1 j = I j) ∧ J1 37 = J 37 ∧ J1 38 = J 38 ∧ S1 0 = S 0 + 1 ∧ S1 5 = S 5
theorem u_X7_settle (hR : R2 c b q Z I J S L Im Jm Sm Lm) : wp_X7_settle 600 0 I J S L (fun r I1 J1 S1 L1 => StO Z b q c I J S L I1 J1 S1 L1 ∧ r = ocF (oF Z b q c I J) 12 0 0) := by
  have hF := hR.1
  obtain ⟨-, -, hc, h3, -⟩ := id hF.1
  unfold wp_X7_settle
  refine e_anewF hF (fun I1 J1 S1 L1 g v => ?_)
  have s3 : S1 3 = nI c := (g.2.2.1 3 (by omega) (by omega) (by omega)).trans h3
  have hf : ∀ h, h < 12 → w2F I1 J1 c h - w1F I1 J1 c h = oF Z b q c I J h := fun h hh => oF_eq hF g v hh
  have hE : ∀ (J2 : TJ) (L2 : TL) (S2 : TS), BL c c I1 J1 J2 → L2 = va_up L1 1 (L1 3) → S2 = va_up S1 0 (S1 0 + 1) → StO Z b q c I J S L I1 J2 S2 L2 := by
    intro J2 L2 S2 hBL eL eS
    have hF1 := g.fo hF
    obtain ⟨-, ⟨⟨hb, hB, -⟩, hS, hRp, -, hq, hQ⟩, -, hA, -⟩ := id hF
    have e5 : ∀ j, j < 25 → I1 j = I j := fun j hj => (g.2.1 j (by omega)).1
    have eT : anT Z I1 0 b q c = anT Z I 0 b q c := anT_eq v.1 e5 hb hc hB hS hRp hQ
    obtain ⟨hZ, v7, v8, vQ, vR, v9, vL3, vL4, vk⟩ := id v
    rw [eT] at vR vL3
    have r27 : J1 41 = (anT Z I 0 b q c).2.1 27 := (vR 27 (by omega) (by omega)).2
    have r28 : J1 42 = (anT Z I 0 b q c).2.1 28 := (vR 28 (by omega) (by omega)).2
    have r30 : J1 44 = (anT Z I 0 b q c).2.1 30 := (vR 30 (by omega) (by omega)).2
    have r31 : J1 45 = (anT Z I 0 b q c).2.1 31 := (vR 31 (by omega) (by omega)).2
    have r32 : J1 46 = (anT Z I 0 b q c).2.1 32 := (vR 32 (by omega) (by omega)).2
    obtain ⟨b1, b2, b3, b4⟩ := hBL
    have hSL : SL ((anT Z I 0 b q c).1 29) (anT Z I 0 b q c).2.1 (I 29) J J2 := by
      refine ⟨fun h hh => ⟨?_, ?_, ?_⟩, fun n hn => ⟨?_, ?_⟩, fun i hi => ?_⟩
      · rw [(b1 h hh).1, hf h hh, r27, (g.2.1 26 (by omega)).2, (g.2.1 27 (by omega)).2]
        rfl
      · rw [(b1 h hh).2.1, r27]
      · rw [(b1 h hh).2.2, r28]
      · rw [(b2 n hn).1, r30]
      · rw [(b2 n hn).2, r31]
      · rw [b3 i hi, r32]
    have hA1 := AI_anT (r := 0) hZ hB hb hS hRp hc hQ
    have hA2 := AI_set hc hA1 hA hSL hb
    have eS' : ∀ j, j ≠ 0 → S2 j = S1 j := fun j hj => by rw [eS, va_up_ne _ _ hj]
    have eL' : ∀ j, j ≠ 1 → L2 j = L1 j := fun j hj => by rw [eL, va_up_ne _ _ hj]
    refine ⟨⟨hF1.1.s0 eS', hF1.2.1, ⟨by rw [eS' 1 (by omega)]; exact hF1.2.2.1.1, by rw [eS' 2 (by omega)]; exact hF1.2.2.1.2.1, by rw [eS' 4 (by omega)]; exact hF1.2.2.1.2.2⟩, ?_, q, c, ?_, Nat.le_refl _, Nat.le_refl _, fun i h1 h2 => absurd h2 (by omega)⟩, hSL, ?_, ?_, fun j hj => (g.2.1 j (by omega)).1, ?_, ?_, ?_, ?_⟩
    · rw [(g.2.1 29 (by omega)).1]
      exact hA2.fr (e5 6 (by omega)) (e5 10 (by omega)) rfl rfl rfl rfl
    · refine v.ext (XE.eq2 hF1.2.1.2.1 hb (fun _ _ => rfl)) hc hF1.2.1.1.2.1 hF1.2.1.2.1 hF1.2.1.2.2.1 (fun _ _ => ⟨rfl, rfl, rfl⟩) (fun k h1 h2 => ⟨rfl, b4 k (by omega) (by omega) (by omega) (by omega) (by omega) (by omega)⟩) (eS' 7 (by omega)) (eS' 8 (by omega)) (eS' 9 (by omega)) (eL' 3 (by omega)) (eL' 4 (by omega))
    · rw [eL, va_up_self]
      exact vL3
    · rw [eL' 0 (by omega)]
      exact g.2.2.2 0 (by omega) (by omega)
    · rw [b4 37 (by omega) (by omega) (by omega) (by omega) (by omega) (by omega)]
      exact (g.2.1 37 (by omega)).2
    · rw [b4 38 (by omega) (by omega) (by omega) (by omega) (by omega) (by omega)]
      exact (g.2.1 38 (by omega)).2
    · rw [eS, va_up_self, g.2.2.1 0 (by omega) (by omega) (by omega)]
    · rw [eS' 5 (by omega)]
      exact g.2.2.1 5 (by omega) (by omega) (by omega)
  clear hF hR
  generalize oF Z b q c I J = f at hf
  generalize hR0 : ocF f 12 0 0 = R
  refine ⟨fun n I' J' S' L' y x => I' = I1 ∧ J' = J1 ∧ S' = S1 ∧ L' = L1 ∧ ∃ k, k ≤ 12 ∧ x = nI k ∧ n = 12 - k ∧ R = ocF f (12 - k) k y, ⟨12, rfl, rfl, rfl, rfl, 0, by omega, rfl, rfl, hR0.symm⟩, ?_⟩
  rintro n I' J' S' L' y x ⟨rfl, rfl, rfl, rfl, k, hk, rfl, rfl, hR1⟩
  refine ⟨fun hc1 => ?_, fun hc1 => ?_⟩
  · have : 12 ≤ k := (nI_leI (a := 12) (by omega) (by omega)).mp hc1
    rw [show 12 - k = 0 by omega, ocF_0] at hR1
    refine e_becomeLike_O s3 hc v.2.1 hc (fun J2 L2 hBL eL S2 eS => ⟨hE J2 L2 S2 hBL eL eS, hR1.symm⟩)
  have hk2 : k < 12 := nI_nleN (by omega) hk hc1
  refine e_owedTo hk2 s3 hc v.2.1 hc ?_
  rw [hf k hk2]
  rw [show 12 - k = (12 - (k + 1)) + 1 by omega, ocF_s] at hR1
  refine ⟨fun I2 J2 S2 L2 s x => I2 = I' ∧ J2 = J' ∧ S2 = S' ∧ L2 = L' ∧ x = nI k ∧ R = ocF f (12 - (k + 1)) (k + 1) s, ?_, fun e => ⟨rfl, rfl, rfl, rfl, rfl, ?_⟩, fun e x2 ex2 => ⟨rfl, rfl, rfl, rfl, rfl, ?_⟩⟩
  · rintro I2 J2 S2 L2 s x ⟨rfl, rfl, rfl, rfl, rfl, hs⟩ x2 ex2
    exact ⟨12 - (k + 1), by omega, rfl, rfl, rfl, rfl, k + 1, by omega, by rw [ex2]; exact nI_1 k, rfl, hs⟩
  · have : f k = 0 := vx_eq (lgc_eq.mp e)
    rw [if_pos this] at hR1
    exact hR1
  · have : ¬ f k = 0 := fun z => e (lgc_eq.mpr (by rw [z]))
    rw [if_neg this] at hR1
    rw [ex2]
    exact hR1
def StM (Z : TK) (b q c : Nat) (I : TI) (J : TJ) (Im : TI) (Jm : TJ) (Sm : TS) (Lm : TL) (Im1 : TI) (Jm1 : TJ) (Sm1 : TS) (Lm1 : TL) : Prop := (∀ Jn, SL ((anT Z I 0 b q c).1 29) (anT Z I 0 b q c).2.1 (I 29) J Jn → MP 0 I (I 29) Jn Im1 Jm1) ∧ Jm1 28 0 = (anT Z I 0 b q c).2.2.2.1 ∧ (∀ n, n < 26 ∨ 36 ≤ n → Im1 n = Im n) ∧ (Im1 33 = Im 33 ∧ Im1 34 = Im 34 ∧ Im1 35 = Im 35 ∧ Jm1 36 = Jm 36 ∧ Jm1 37 = Jm 37) ∧ (∀ j, j ≠ 2 → j ≠ 5 → Sm1 j = Sm j) ∧ Sm1 5 = Sm 5 + 1 ∧ Lm1 = Lm
theorem u_X8_settle (hR : R2 c b q Z I J S L Im Jm Sm Lm) : wp_X8_settle Im Jm Sm Lm (fun r I1 J1 S1 L1 => StM Z b q c I J Im Jm Sm Lm I1 J1 S1 L1 ∧ r = ocF (oF Z b q c I J) 12 0 0) := by
  obtain ⟨⟨hO, ⟨⟨hb, hB, -⟩, hS, hRp, -, hq, hQ⟩, -, hA, k2, t2, hV, -⟩, ⟨⟨hc, s0⟩, ⟨-, s1, -⟩, -⟩, ⟨m1, m2, m3, m4⟩, -, s4, hP, -⟩ := hR
  refine n2_settle (X := I) (Z := Z) (D := I 29) (Ja := J) hV.1 m1 m2 m3 m4 hB hS hRp hQ hb hq hc s0 s1 s4 hP (fun I' J' S' a1 a2 a3 a4 a5 a6 => ⟨⟨a1, a2, a3, a4, a5, a6, rfl⟩, ?_⟩)
  unfold oF
  generalize (fun h => wF ((anT Z I 0 b q c).1 29) (anT Z I 0 b q c).2.1 h - wF (I 29) J h) = f
  rfl
theorem rr_settle {T1 T2 : Prop} (hR : R2 c b q Z I J S L Im Jm Sm Lm) (h1 : StO Z b q c I J S L I1 J1 S1 L1 ∧ T1) (h2 : StM Z b q c I J Im Jm Sm Lm Im1 Jm1 Sm1 Lm1 ∧ T2) : RR I1 J1 S1 L1 Im1 Jm1 Sm1 Lm1 := by
  obtain ⟨hF, hM, ⟨m1, m2, m3, m4⟩, ⟨hZ, hT⟩, s4, hP, h28, ⟨N, hN, n5, hRc⟩, s5, l0⟩ := hR
  obtain ⟨⟨f1, fSL, fL1, fL0, x1, x37, x38, f0, f5⟩, -⟩ := h1
  obtain ⟨⟨g1, g2, g3, g4, g5, g6, rfl⟩, -⟩ := h2
  have e5 : ∀ j, j < 25 → I1 j = I j := fun j hj => x1 j (by omega)
  refine ⟨c, b, q, Z, f1, hM.keep (fun n hn => g3 n (by omega)) (fun j hj => g5 j (by omega) (by omega)), ⟨(m1.x e5).f6 g3, (m2.x e5).f6 g3, (m3.x e5).f6 g3, (m4.x e5).fr g3⟩, ⟨?_, ?_⟩, by rw [g5 4 (by omega) (by omega)]; exact s4, ?_, g2.trans fL1.symm, ⟨N, hN, f5.trans n5, ?_, fun i hi h6 => ?_⟩, ?_, ?_⟩
  · unfold MZ at hZ ⊢
    rw [g3 20 (by omega)]
    exact hZ
  · unfold TN at hT ⊢
    rw [g3 19 (by omega), e5 20 (by omega)]
    exact hT
  · rw [x1 29 (by omega)]
    exact (g1 J1 fSL).x (e5 6 (by omega)) rfl rfl rfl rfl rfl rfl
  · rw [g5 3 (by omega) (by omega)]
    exact hRc.1
  · rw [g4.1, g4.2.1, g4.2.2.1, g4.2.2.2.1, g4.2.2.2.2, x1 34 (by omega), x1 35 (by omega), x1 36 (by omega), x37, x38]
    exact hRc.2 i hi h6
  · rw [f0, g6, s5]
  · rw [fL0]
    exact l0
end
