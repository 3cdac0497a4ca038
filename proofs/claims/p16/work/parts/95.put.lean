theorem P_sm {x : Int32} (h : Sm x) : 1 ≤ x.toInt ∧ x.toInt ≤ 1000000 := by
  obtain ⟨h0, h1⟩ := h
  have a : ¬ x.toInt < (1 : Int32).toInt := fun k => h0 (vi_lt.mpr k)
  have b : ¬ (1000000 : Int32).toInt < x.toInt := fun k => h1 (vi_lt.mpr k)
  have e0 : (1 : Int32).toInt = 1 := by decide
  have e1 : (1000000 : Int32).toInt = 1000000 := by decide
  omega
theorem Tl_v {x : Int32} (h : Tl x) : 0 ≤ x.toInt ∧ x.toInt ≤ 1000000 := by
  obtain ⟨h0, h1⟩ := h
  have a : ¬ x.toInt < (0 : Int32).toInt := fun k => h0 (vi_lt.mpr k)
  have b : ¬ (1000000 : Int32).toInt < x.toInt := fun k => h1 (vi_lt.mpr k)
  have e0 : (0 : Int32).toInt = 0 := by decide
  have e1 : (1000000 : Int32).toInt = 1000000 := by decide
  omega
section
variable {I I1 I2 Im Im1 Im2 : TI} {J J1 Jm Jm1 : TJ} {S S1 Sm Sm1 : TS} {L L1 Lm Lm1 : TL} {c b q t w : Nat} {Z : TK}
theorem upd_r {f : Nat → Int32} {k i : Nat} {v : Int32} {P : Int32 → Prop} (hv : P v) (hf : P (f i)) : P (upd f k v i) := by
  by_cases g : i = k
  · rw [g, pk_us]; exact hv
  · rw [pk_un g]; exact hf
theorem SX.fr2 {X X' : TI} (h : SX q c X) (e22 : X' 22 = X 22) (e23 : X' 23 = X 23) (e24 : X' 24 = X 24) : SX q c X' := by
  unfold SX tmF at h ⊢
  rw [e22, e23, e24]
  exact h
/-- all of the books but what was told -/
theorem BX.fr3 {X X' : TI} (h : BX c b q X) (e : ∀ j, j < 15 ∨ 21 ≤ j → j < 25 → X' j = X j) (hR : RpX X') (hP : PX X') : BX c b q X' := by
  obtain ⟨⟨hb, hB, hN⟩, hS, -, -, hq, hQ⟩ := h
  refine ⟨⟨hb, ?_, ?_⟩, ?_, hR, hP, hq, hQ.fr2 (e 22 (by omega) (by omega)) (e 23 (by omega) (by omega)) (e 24 (by omega) (by omega))⟩
  · unfold BgX at hB ⊢
    rw [e 7 (by omega) (by omega), e 6 (by omega) (by omega), e 10 (by omega) (by omega), e 11 (by omega) (by omega), e 12 (by omega) (by omega), e 13 (by omega) (by omega)]
    exact hB
  · unfold NB at hN ⊢
    rw [e 6 (by omega) (by omega)]
    exact hN
  · unfold StX at hS ⊢
    rw [e 1 (by omega) (by omega), e 3 (by omega) (by omega), e 4 (by omega) (by omega)]
    exact hS
theorem RpX.put {p2 p3 p4 p5 : Int32} (h : RpX I) (hS : StX I) (ht : t < 40) (hw : w < 12) (hr : ¬ I 1 w = 0) (h2 : Tl p2) (h34 : p5 = 0 ∨ (Tl p3 ∧ Tl p4)) (f : XFin I I1 t w p2 p3 p4 p5) : RpX I1 := by
  obtain ⟨fN, -, f15, fO⟩ := f
  have z0 : Tl 0 := ⟨by decide, by decide⟩
  have h3 : Tl (if p5 = 0 then 0 else p3) := by
    split
    · exact z0
    · rename_i g
      rcases h34 with k | k
      · exact absurd k g
      · exact k.1
  have h4 : Tl (if p5 = 0 then 0 else p4) := by
    split
    · exact z0
    · rename_i g
      rcases h34 with k | k
      · exact absurd k g
      · exact k.2
  refine ⟨fun i hi => ?_, fun t' ht' => ?_⟩
  · rw [f15]
    exact upd_r (P := fun x => 0 ≤ x.toInt ∧ x.toInt ≤ 1000000) (Tl_v h4) (upd_r (P := fun x => 0 ≤ x.toInt ∧ x.toInt ≤ 1000000) (Tl_v h3) (upd_r (P := fun x => 0 ≤ x.toInt ∧ x.toInt ≤ 1000000) (Tl_v h2) (h.1 i hi)))
  · obtain ⟨z', hz', ez', ho⟩ := h.2 t' ht'
    rw [fN 1 (by omega)]
    rcases fO with ⟨-, -, f18, f19⟩ | ⟨-, z, hz, ez, -, f18, f19⟩
    · rw [f18, f19]
      exact ⟨z', hz', ez', ho⟩
    · rw [f18, f19]
      by_cases g : t' = t
      · subst g
        have ezz : z' = z := (nI_eq (by omega) (by omega)).mp (ez'.symm.trans ez)
        subst ezz
        refine ⟨z' + 1, by omega, pk_us, fun i hi => ?_⟩
        by_cases g2 : i = z'
        · subst g2
          rw [pk_us]
          obtain ⟨kk, hk6, ek⟩ := hS.1 w hw
          refine ⟨w, kk, hw, rfl, ?_, hk6, ek⟩
          rcases Nat.eq_zero_or_pos kk with k0 | k0
          · exact absurd (by rw [ek, k0]; rfl) hr
          · exact k0
        · rw [pk_un (by omega)]
          exact ho i (by omega)
      · refine ⟨z', hz', by rw [pk_un g]; exact ez', fun i hi => ?_⟩
        rw [pk_un (by omega)]
        exact ho i hi
theorem XE.put {t2 : Nat} {p2 p3 p4 p5 : Int32} (hS : StX I) (hb : b ≤ 24) (ht : t < 40) (hw : w < 12) (h2 : t2 ≤ t) (f : XFin I I1 t w p2 p3 p4 p5) (e : ∀ n, n ≠ 20 → n < 25 → I2 n = I1 n) (e20 : ∀ u, u < t2 → I2 20 u = I1 20 u) : XE t2 b b I I2 := by
  obtain ⟨fN, f16, f15, fO⟩ := f
  have e1 : ∀ n, n < 15 → I2 n = I n := fun n hn => by rw [e n (by omega) (by omega), fN n (by omega)]
  refine ⟨⟨Nat.le_refl _, hb⟩, fun k _ g1 g2 _ => by rw [e1 k (by omega)], fun n g1 g2 => absurd g2 (by omega), fun w' hw' => ?_, fun u hu => ⟨?_, ?_, fun i hi => ⟨?_, ?_, fun m hm => ?_⟩⟩⟩
  · obtain ⟨kk, g1, g2⟩ := hS.1 w' hw'
    exact ⟨kk, kk, Nat.le_refl _, g1, g2, by rw [e1 1 (by omega)]; exact g2, fun _ _ => by rw [e1 2 (by omega)], fun _ _ _ _ => ⟨by rw [e1 3 (by omega)], by rw [e1 4 (by omega)]⟩, fun k g1 g2 => absurd g2 (by omega)⟩
  · rw [e 19 (by omega) (by omega)]
    rcases fO with ⟨-, -, -, f19⟩ | ⟨-, z, hz, ez, -, -, f19⟩
    · rw [f19]
    · rw [f19, pk_un (by omega)]
  · rw [e20 u hu, fN 20 (by omega)]
  · rw [e 18 (by omega) (by omega)]
    rcases fO with ⟨-, -, f18, -⟩ | ⟨-, z, hz, ez, -, f18, -⟩
    · rw [f18]
    · rw [f18, pk_un (by omega)]
  · rw [e 16 (by omega) (by omega), f16, pk_un (by omega)]
  · rw [e 15 (by omega) (by omega), f15, pk_un (by omega), pk_un (by omega), pk_un (by omega)]
def RpO (c b q : Nat) (Z : TK) (p0 p1 p2 p3 p4 : Int32) (I : TI) (J : TJ) (S : TS) (L : TL) (I1 : TI) (J1 : TJ) (S1 : TS) (L1 : TL) : Prop := ∃ w : Nat, w < 12 ∧ p0 = nI w ∧ XFin I I1 c w p1 p2 p3 p4 ∧ (J1 = J ∧ S1 = S ∧ L1 = L) ∧ FO c b q Z I1 J1 S1 L1
def RpM (c b : Nat) (p0 p1 p2 p3 p4 : Int32) (Im : TI) (Jm : TJ) (Sm : TS) (Lm : TL) (Im1 : TI) (Jm1 : TJ) (Sm1 : TS) (Lm1 : TL) : Prop := ∃ w : Nat, w < 12 ∧ p0 = nI w ∧ MFin Im Im1 c w p1 p2 p3 p4 ∧ (Jm1 = Jm ∧ Sm1 = Sm ∧ Lm1 = Lm) ∧ InvM c b Im1 Sm1
theorem u_X7_report (p0 p1 p2 p3 p4 : Int32) (hR : R2 c b q Z I J S L Im Jm Sm Lm) : wp_X7_report 600 0 I J S L p0 p1 p2 p3 p4 (fun _ I1 J1 S1 L1 => ((c < 40 ∧ RpOK (I 1) p0 p1 p2 p3 p4) ∧ RpO c b q Z p0 p1 p2 p3 p4 I J S L I1 J1 S1 L1) ∨ (¬ (c < 40 ∧ RpOK (I 1) p0 p1 p2 p3 p4) ∧ E4 I J S L I1 J1 S1 L1)) := by
  obtain ⟨⟨hO, hX, hs, hA, k2, t, hV, hk, ht, hge⟩, -⟩ := hR
  obtain ⟨hB, hC, hc, h3, h7, hq, h6, h10⟩ := id hO
  have N : ¬ (c < 40 ∧ RpOK (I 1) p0 p1 p2 p3 p4) → ((c < 40 ∧ RpOK (I 1) p0 p1 p2 p3 p4) ∧ RpO c b q Z p0 p1 p2 p3 p4 I J S L I J S L) ∨ (¬ (c < 40 ∧ RpOK (I 1) p0 p1 p2 p3 p4) ∧ E4 I J S L I J S L) := fun hn => Or.inr ⟨hn, rfl, rfl, rfl, rfl⟩
  unfold wp_X7_report
  intro x ex
  rw [h3] at ex
  subst ex
  refine ⟨_, fun _ _ _ _ hB => hB, fun e4 => N (fun k => absurd e4 (nI_ge (b := 40) k.1 (by omega))), fun h4 => ?_⟩
  have hc4 : c < 40 := by
    rcases Nat.lt_or_ge c 40 with g | g
    · exact g
    · exact absurd (nI_le (a := 40) g (by omega)) h4
  refine t_reportFits (fun hr => ⟨fun _ => ?_, fun hc => absurd hc (by decide)⟩) (fun hr => ⟨fun hc => absurd rfl hc, fun _ => N (fun k => hr k.2)⟩)
  obtain ⟨w, hw2, ew⟩ := W12_cases hr.1
  have hr2 := id hr
  obtain ⟨-, hne, ha, hbc⟩ := hr
  rw [ew, clN (by omega)] at hne
  subst ew
  refine e_put_O hC hc4 hw2 (fun I' f => ?_)
  have hF := f.fin
  refine Or.inl ⟨⟨hc4, hr2⟩, w, hw2, rfl, f, ⟨rfl, rfl, rfl⟩, ⟨hF.bk hB hc4 hw2, hF.ct hC hc4 hw2, hc, h3, h7, hq, h6, h10⟩, ?_, hs, ?_, k2, t, ?_, hk, ht, fun i g1 g2 => ?_⟩
  · exact hX.fr3 (fun j h1 h2 => f.1 j (by omega)) (hX.2.2.1.put hX.2.1 hc4 hw2 hne ha hbc f) (f.px hX.2.2.2.1 hc4 hw2)
  · rw [f.1 29 (by omega)]
    exact hA.fr (f.1 6 (by omega)) (f.1 10 (by omega)) rfl rfl rfl rfl
  · exact hV.ext (XE.put hX.2.1 hX.1.1 hc4 hw2 ht f (fun _ _ _ => rfl) (fun _ _ => rfl)) (by omega) hX.1.2.1 hX.2.1 hX.2.2.1 (fun k _ => ⟨by rw [f.1 22 (by omega)], by rw [f.1 23 (by omega)], by rw [f.1 24 (by omega)]⟩) (fun k h1 h2 => ⟨f.1 k (by omega), rfl⟩) rfl rfl rfl rfl rfl
  · have : tmF I' i = tmF I i := by unfold tmF; rw [f.1 24 (by omega)]
    rw [this]
    exact hge i g1 g2
theorem u_X8_report (p0 p1 p2 p3 p4 : Int32) (hR : R2 c b q Z I J S L Im Jm Sm Lm) : wp_X8_report Im Jm Sm Lm p0 p1 p2 p3 p4 (fun _ I1 J1 S1 L1 => ((c < 40 ∧ RpOK (I 1) p0 p1 p2 p3 p4) ∧ RpM c b p0 p1 p2 p3 p4 Im Jm Sm Lm I1 J1 S1 L1) ∨ (¬ (c < 40 ∧ RpOK (I 1) p0 p1 p2 p3 p4) ∧ E4 Im Jm Sm Lm I1 J1 S1 L1)) := by
  obtain ⟨-, hM, ⟨-, m2, -⟩, -⟩ := hR
  obtain ⟨⟨hc, s0⟩, -, hSt, hOr, hCt, hQ⟩ := id hM
  rw [← m2.1]
  have N : ¬ (c < 40 ∧ RpOK (Im 1) p0 p1 p2 p3 p4) → ((c < 40 ∧ RpOK (Im 1) p0 p1 p2 p3 p4) ∧ RpM c b p0 p1 p2 p3 p4 Im Jm Sm Lm Im Jm Sm Lm) ∨ (¬ (c < 40 ∧ RpOK (Im 1) p0 p1 p2 p3 p4) ∧ E4 Im Jm Sm Lm Im Jm Sm Lm) := fun hn => Or.inr ⟨hn, rfl, rfl, rfl, rfl⟩
  unfold wp_X8_report
  refine ⟨_, fun _ _ _ _ hB => hB, fun e4 => N (fun k => ?_), fun e4 => ?_⟩
  · rw [s0] at e4
    have := (nI_eq (b := 40) (by omega) (by omega)).mp e4
    omega
  have hc4 : c < 40 := by
    rcases Nat.lt_or_ge c 40 with g | g
    · exact g
    · exact absurd (by rw [s0, show c = 40 by omega]; rfl) e4
  refine m_isReport hSt (fun hr => ⟨fun _ => ?_, fun hc => absurd hc (by decide)⟩) (fun hr => ⟨fun hc => absurd rfl hc, fun _ => N (fun k => hr k.2)⟩)
  obtain ⟨w, hw, ew⟩ := W12_cases hr.1
  have hr2 := hr
  rw [s0]
  subst ew
  refine m_puts hCt hc4 hw (fun I' hF => ?_)
  exact Or.inl ⟨⟨hc4, hr2⟩, w, hw, rfl, hF, ⟨rfl, rfl, rfl⟩, hF.inv hM hc4 hw⟩
/-- what was told on both sides, a new REPORT in -/
theorem rr_put {p2 p3 p4 p5 : Int32} (ht : t < 40) (hw : w < 12) (m : BM I Im ∧ SMx I Im ∧ RM I Im ∧ QM I Im) (f : XFin I I1 t w p2 p3 p4 p5) (g : MFin Im Im1 t w p2 p3 p4 p5) : BM I1 Im1 ∧ SMx I1 Im1 ∧ RM I1 Im1 ∧ QM I1 Im1 := by
  obtain ⟨m1, m2, m3, m4⟩ := m
  refine ⟨?_, ?_, m3.put ht hw f g, ?_⟩
  · unfold BM at m1 ⊢
    rw [g.1 5 (by omega), g.1 6 (by omega), g.1 7 (by omega), g.1 8 (by omega), g.1 9 (by omega), g.1 10 (by omega), g.1 11 (by omega), g.1 12 (by omega), f.1 6 (by omega), f.1 7 (by omega), f.1 8 (by omega), f.1 9 (by omega), f.1 10 (by omega), f.1 11 (by omega), f.1 12 (by omega), f.1 13 (by omega)]
    exact m1
  · unfold SMx at m2 ⊢
    rw [g.1 1 (by omega), g.1 2 (by omega), g.1 3 (by omega), g.1 4 (by omega), f.1 1 (by omega), f.1 2 (by omega), f.1 3 (by omega), f.1 4 (by omega)]
    exact m2
  · unfold QM at m4 ⊢
    rw [g.1 38 (by omega), g.1 39 (by omega), g.1 40 (by omega), f.1 22 (by omega), f.1 23 (by omega), f.1 24 (by omega)]
    exact m4
theorem rr_report {p0 p1 p2 p3 p4 : Int32} (hR : R2 c b q Z I J S L Im Jm Sm Lm) (h1 : ((c < 40 ∧ RpOK (I 1) p0 p1 p2 p3 p4) ∧ RpO c b q Z p0 p1 p2 p3 p4 I J S L I1 J1 S1 L1) ∨ (¬ (c < 40 ∧ RpOK (I 1) p0 p1 p2 p3 p4) ∧ E4 I J S L I1 J1 S1 L1)) (h2 : ((c < 40 ∧ RpOK (I 1) p0 p1 p2 p3 p4) ∧ RpM c b p0 p1 p2 p3 p4 Im Jm Sm Lm Im1 Jm1 Sm1 Lm1) ∨ (¬ (c < 40 ∧ RpOK (I 1) p0 p1 p2 p3 p4) ∧ E4 Im Jm Sm Lm Im1 Jm1 Sm1 Lm1)) : RR I1 J1 S1 L1 Im1 Jm1 Sm1 Lm1 := by
  rcases h1 with ⟨ha, h1⟩ | ⟨ha, rfl, rfl, rfl, rfl⟩ <;> rcases h2 with ⟨hb, h2⟩ | ⟨hb, rfl, rfl, rfl, rfl⟩
  · obtain ⟨w, hw, e0, f, ⟨rfl, rfl, rfl⟩, hF⟩ := h1
    obtain ⟨w', hw', e0', g, ⟨rfl, rfl, rfl⟩, hM1⟩ := h2
    have ew : w' = w := (nI_eq (by omega) (by omega)).mp (e0'.symm.trans e0)
    subst ew
    obtain ⟨-, hM, hm, ⟨hZ, hT⟩, s4, hP, h28, ⟨N, hN, n5, hRc⟩, s5, l0⟩ := hR
    refine ⟨c, b, q, Z, hF, hM1, rr_put ha.1 hw' hm f g, ⟨?_, ?_⟩, s4, ?_, h28, ⟨N, hN, n5, ?_⟩, s5, l0⟩
    · unfold MZ at hZ ⊢
      rw [g.1 20 (by omega)]
      exact hZ
    · unfold TN at hT ⊢
      rw [g.1 19 (by omega), f.1 20 (by omega)]
      exact hT
    · rw [f.1 29 (by omega)]
      exact (hP.x (f.1 6 (by omega)) rfl rfl rfl rfl rfl rfl).im (g.1 26 (by omega)) (g.1 27 (by omega))
    · unfold MRc at hRc ⊢
      rw [g.1 33 (by omega), g.1 34 (by omega), g.1 35 (by omega), f.1 34 (by omega), f.1 35 (by omega), f.1 36 (by omega)]
      exact hRc
  · exact absurd ha hb
  · exact absurd hb ha
  · exact ⟨c, b, q, Z, hR⟩
/-- TEAR -/
def TrA (c : Nat) (p0 : Int32) : Prop := c < 40 ∧ ¬ p0 < -1 ∧ ¬ (12 : Int32) < p0
theorem tear_n {p0 : Int32} (h1 : ¬ p0 < -1) (h2 : ¬ (12 : Int32) < p0) : ∃ n : Nat, n ≤ 12 ∧ (if p0 < 0 then 0 else p0) = nI n := by
  by_cases g : p0 < 0
  · exact ⟨0, by omega, by rw [if_pos g]; rfl⟩
  · rw [if_neg g]
    obtain ⟨n, hn, rfl⟩ := nI_of g
    refine ⟨n, ?_, rfl⟩
    rcases Nat.lt_or_ge 12 n with k | k
    · exact absurd (nI_lt (a := 12) k hn) h2
    · exact k
def TrO (c b q : Nat) (Z : TK) (p0 : Int32) (I : TI) (J : TJ) (S : TS) (L : TL) (I1 : TI) (J1 : TJ) (S1 : TS) (L1 : TL) : Prop := ∃ n : Nat, (n ≤ 12 ∧ (if p0 < 0 then 0 else p0) = nI n) ∧ (∀ k, k ≠ 20 → I1 k = I k) ∧ I1 20 = upd (I 20) c (((4095 : Int32) <<< (nI n &&& 31)) &&& (4095 : Int32)) ∧ (J1 = J ∧ S1 = S ∧ L1 = L) ∧ FO c b q Z I1 J1 S1 L1
def TrM (c b : Nat) (p0 : Int32) (Im : TI) (Jm : TJ) (Sm : TS) (Lm : TL) (Im1 : TI) (Jm1 : TJ) (Sm1 : TS) (Lm1 : TL) : Prop := ∃ n : Nat, (n ≤ 12 ∧ (if p0 < 0 then 0 else p0) = nI n) ∧ (∀ k, k ≠ 19 → Im1 k = Im k) ∧ Im1 19 = upd (Im 19) c (nI n) ∧ (Jm1 = Jm ∧ Sm1 = Sm ∧ Lm1 = Lm) ∧ InvM c b Im1 Sm1
theorem u_X7_tear (p0 : Int32) (hR : R2 c b q Z I J S L Im Jm Sm Lm) : wp_X7_tear 600 0 I J S L p0 (fun _ I1 J1 S1 L1 => (TrA c p0 ∧ TrO c b q Z p0 I J S L I1 J1 S1 L1) ∨ (¬ TrA c p0 ∧ E4 I J S L I1 J1 S1 L1)) := by
  obtain ⟨⟨hO, hX, hs, hA, k2, t, hV, hk, ht, hge⟩, -⟩ := hR
  obtain ⟨hB, hC, hc, h3, h7, hq, h6, h10⟩ := id hO
  have N : ¬ TrA c p0 → (TrA c p0 ∧ TrO c b q Z p0 I J S L I J S L) ∨ (¬ TrA c p0 ∧ E4 I J S L I J S L) := fun hn => Or.inr ⟨hn, rfl, rfl, rfl, rfl⟩
  unfold wp_X7_tear
  intro x ex
  rw [h3] at ex
  subst ex
  refine ⟨_, fun _ _ _ _ hB => hB, fun e4 => N (fun k => absurd e4 (nI_ge (b := 40) k.1 (by omega))), fun h4 => ⟨fun e1' => N (fun k => k.2.1 e1'), fun e1' => ⟨fun e2' => ?_, fun e2' => N (fun k => k.2.2 (Int32.not_le.mp e2'))⟩⟩⟩
  intro x2 ex2
  have hc4 : c < 40 := by
    rcases Nat.lt_or_ge c 40 with g | g
    · exact g
    · exact absurd (nI_le (a := 40) g (by omega)) h4
  obtain ⟨n, hn, en⟩ := tear_n e1' (Int32.not_lt.mpr e2')
  have ex3 : x2 = nI n := by rw [ex2]; exact en
  subst ex3
  unfold wp_X4_tearAt_O wp_X4_tearAt
  rw [clN (by omega)]
  refine ⟨vp_in_nI hc4 (by omega), fun I1 e1 => ?_⟩
  dsimp only
  rw [up_same]
  have eN : ∀ n, n ≠ 20 → I1 n = I n := fun n hn => by rw [e1, va_up_ne _ _ hn]
  have e20 : I1 20 = upd (I 20) c (((4095 : Int32) <<< (nI n &&& 31)) &&& (4095 : Int32)) := by rw [e1, va_up_self]
  refine Or.inl ⟨⟨hc4, e1', Int32.not_lt.mpr e2'⟩, n, ⟨hn, en⟩, eN, e20, ⟨rfl, rfl, rfl⟩, ⟨?_, hC.same (eN 19 (by omega)) (eN 16 (by omega)), hc, h3, h7, hq, h6, h10⟩, ?_, hs, ?_, k2, t, ?_, hk, ht, fun i g1 g2 => ?_⟩
  · obtain ⟨⟨b, hb, h1, hBg⟩, hSt, hQ, hZ⟩ := id hB
    refine ⟨⟨b, hb, h1, ?_⟩, ?_, by rw [eN 22 (by omega)]; exact hQ, by rw [eN 19 (by omega), eN 18 (by omega)]; exact hZ⟩
    · unfold Bgs
      rw [eN 7 (by omega), eN 6 (by omega), eN 13 (by omega), eN 11 (by omega)]
      exact hBg
    · unfold Sts
      rw [eN 1 (by omega), eN 3 (by omega), eN 4 (by omega)]
      exact hSt
  · refine hX.fr3 (fun j h1 h2 => eN j (by omega)) ?_ (hX.2.2.2.1.fr (fun k _ h2 => eN k (by omega)))
    have := hX.2.2.1
    unfold RpX at this ⊢
    rw [eN 1 (by omega), eN 15 (by omega), eN 18 (by omega), eN 19 (by omega)]
    exact this
  · rw [eN 29 (by omega)]
    exact hA.fr (eN 6 (by omega)) (eN 10 (by omega)) rfl rfl rfl rfl
  · refine hV.ext ⟨⟨Nat.le_refl _, hX.1.1⟩, fun k _ g1 g2 _ => by rw [eN k (by omega)], fun n g1 g2 => absurd g2 (by omega), fun w' hw' => ?_, fun u hu => ⟨by rw [eN 19 (by omega)], by rw [e20, pk_un (by omega)], fun i hi => ⟨by rw [eN 18 (by omega)], by rw [eN 16 (by omega)], fun m hm => by rw [eN 15 (by omega)]⟩⟩⟩ (by omega) hX.1.2.1 hX.2.1 hX.2.2.1 (fun k _ => ⟨by rw [eN 22 (by omega)], by rw [eN 23 (by omega)], by rw [eN 24 (by omega)]⟩) (fun k h1 h2 => ⟨eN k (by omega), rfl⟩) rfl rfl rfl rfl rfl
    obtain ⟨kk, g1, g2⟩ := hX.2.1.1 w' hw'
    exact ⟨kk, kk, Nat.le_refl _, g1, g2, by rw [eN 1 (by omega)]; exact g2, fun _ _ => by rw [eN 2 (by omega)], fun _ _ _ _ => ⟨by rw [eN 3 (by omega)], by rw [eN 4 (by omega)]⟩, fun k g1 g2 => absurd g2 (by omega)⟩
  · have : tmF I1 i = tmF I i := by unfold tmF; rw [eN 24 (by omega)]
    rw [this]
    exact hge i g1 g2
theorem u_X8_tear (p0 : Int32) (hR : R2 c b q Z I J S L Im Jm Sm Lm) : wp_X8_tear Im Jm Sm Lm p0 (fun _ I1 J1 S1 L1 => (TrA c p0 ∧ TrM c b p0 Im Jm Sm Lm I1 J1 S1 L1) ∨ (¬ TrA c p0 ∧ E4 Im Jm Sm Lm I1 J1 S1 L1)) := by
  obtain ⟨-, hM, -⟩ := hR
  obtain ⟨⟨hc, s0⟩, -⟩ := id hM
  have N : ¬ TrA c p0 → (TrA c p0 ∧ TrM c b p0 Im Jm Sm Lm Im Jm Sm Lm) ∨ (¬ TrA c p0 ∧ E4 Im Jm Sm Lm Im Jm Sm Lm) := fun hn => Or.inr ⟨hn, rfl, rfl, rfl, rfl⟩
  unfold wp_X8_tear
  rw [s0]
  refine ⟨_, fun _ _ _ _ hB => hB, fun e1 => N (fun k => k.2.1 e1), fun e1 => ⟨fun e2 => N (fun k => k.2.2 e2), fun e2 => ⟨fun e4 => ?_, fun e4 => N (fun k => ?_)⟩⟩⟩
  · have hc4 : c < 40 := by
      rcases Nat.lt_or_ge c 40 with g | g
      · exact g
      · exact absurd (by rw [show c = 40 by omega]; rfl) e4
    obtain ⟨n, hn, en⟩ := tear_n e1 e2
    refine ⟨fun I2 J2 S2 L2 a s => I2 = Im ∧ J2 = Jm ∧ S2 = Sm ∧ L2 = Lm ∧ a = nI c ∧ s = nI n, ?_, fun k => ⟨rfl, rfl, rfl, rfl, rfl, ?_⟩, fun k => ⟨rfl, rfl, rfl, rfl, rfl, ?_⟩⟩
    · rintro I2 J2 S2 L2 a s ⟨rfl, rfl, rfl, rfl, rfl, rfl⟩
      rw [clN (by omega)]
      refine ⟨vp_in_nI hc4 (by omega), fun I3 e3 => ?_⟩
      have hN : ∀ n, n ≠ 19 → I3 n = I2 n := fun n hn => by rw [e3, va_up_ne _ _ hn]
      exact Or.inl ⟨⟨hc4, e1, e2⟩, n, ⟨hn, en⟩, hN, by rw [e3, va_up_self], ⟨rfl, rfl, rfl⟩, hM.keep (fun n hn => hN n (by omega)) (fun _ _ => rfl)⟩
    · rw [← en, if_neg (Int32.not_lt.mpr k)]
    · rw [← en, if_pos (Int32.not_le.mp k)]
  · have := (nI_eq (b := 40) (by omega) (by omega)).mp e4
    have := k.1
    omega
theorem rr_tear {p0 : Int32} (hR : R2 c b q Z I J S L Im Jm Sm Lm) (h1 : (TrA c p0 ∧ TrO c b q Z p0 I J S L I1 J1 S1 L1) ∨ (¬ TrA c p0 ∧ E4 I J S L I1 J1 S1 L1)) (h2 : (TrA c p0 ∧ TrM c b p0 Im Jm Sm Lm Im1 Jm1 Sm1 Lm1) ∨ (¬ TrA c p0 ∧ E4 Im Jm Sm Lm Im1 Jm1 Sm1 Lm1)) : RR I1 J1 S1 L1 Im1 Jm1 Sm1 Lm1 := by
  rcases h1 with ⟨ha, h1⟩ | ⟨ha, rfl, rfl, rfl, rfl⟩ <;> rcases h2 with ⟨hb, h2⟩ | ⟨hb, rfl, rfl, rfl, rfl⟩
  · obtain ⟨n, ⟨hn, e0⟩, f, f20, ⟨rfl, rfl, rfl⟩, hF⟩ := h1
    obtain ⟨n', ⟨hn', e0'⟩, g, g19, ⟨rfl, rfl, rfl⟩, hM1⟩ := h2
    have ew : n' = n := (nI_eq (by omega) (by omega)).mp (e0'.symm.trans e0)
    subst ew
    obtain ⟨-, hM, ⟨m1, m2, m3, m4⟩, ⟨hZ, hT⟩, s4, hP, h28, ⟨N, hN, n5, hRc⟩, s5, l0⟩ := hR
    refine ⟨c, b, q, Z, hF, hM1, ⟨?_, ?_, m3.tear hZ ha.1 hn f f20 g g19, ?_⟩, ⟨?_, fun t h1 h2 => ?_⟩, s4, ?_, h28, ⟨N, hN, n5, ?_⟩, s5, l0⟩
    · unfold BM at m1 ⊢
      rw [g 5 (by omega), g 6 (by omega), g 7 (by omega), g 8 (by omega), g 9 (by omega), g 10 (by omega), g 11 (by omega), g 12 (by omega), f 6 (by omega), f 7 (by omega), f 8 (by omega), f 9 (by omega), f 10 (by omega), f 11 (by omega), f 12 (by omega), f 13 (by omega)]
      exact m1
    · unfold SMx at m2 ⊢
      rw [g 1 (by omega), g 2 (by omega), g 3 (by omega), g 4 (by omega), f 1 (by omega), f 2 (by omega), f 3 (by omega), f 4 (by omega)]
      exact m2
    · unfold QM at m4 ⊢
      rw [g 38 (by omega), g 39 (by omega), g 40 (by omega), f 22 (by omega), f 23 (by omega), f 24 (by omega)]
      exact m4
    · unfold MZ at hZ ⊢
      rw [g 20 (by omega)]
      exact hZ
    · by_cases k : t = c
      · subst k
        exact ⟨n', hn, by rw [g19, pk_us], by rw [f20, pk_us]⟩
      · rw [g19, f20, pk_un k, pk_un k]
        exact hT t h1 h2
    · rw [f 29 (by omega)]
      exact (hP.x (f 6 (by omega)) rfl rfl rfl rfl rfl rfl).im (g 26 (by omega)) (g 27 (by omega))
    · unfold MRc at hRc ⊢
      rw [g 33 (by omega), g 34 (by omega), g 35 (by omega), f 34 (by omega), f 35 (by omega), f 36 (by omega)]
      exact hRc
  · exact absurd ha hb
  · exact absurd hb ha
  · exact ⟨c, b, q, Z, hR⟩
end
