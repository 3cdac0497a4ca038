theorem LR.op {l b : Nat} {X : TI} {op op' : Nat → Prop} {g : TG} {Im : TI} {Jm : TJ} {Sm : TS} (h : LR l b X op g Im Jm Sm) (ho : ∀ i, op i → op' i) : LR l b X op' g Im Jm Sm := by
  obtain ⟨hV, hC, hK⟩ := h
  refine ⟨hV, fun h0 => ?_, hK⟩
  obtain ⟨c1, c2⟩ := hC h0
  refine ⟨c1, fun i hi h6 => ?_⟩
  obtain ⟨e1, e2, e3, e4, e5⟩ := c2 i hi h6
  exact ⟨e1, e2, e3, e4, fun q => e5 (fun o => q (ho i o))⟩
theorem LR.fr {l b : Nat} {X : TI} {op : Nat → Prop} {g : TG} {Im Im' : TI} {Jm Jm' : TJ} {Sm Sm' : TS} (h : LR l b X op g Im Jm Sm) (i3 : Im' 33 = Im 33) (i4 : Im' 34 = Im 34) (i5 : Im' 35 = Im 35) (m1 : Jm' 21 = Jm 21) (m3 : Jm' 23 = Jm 23) (m4 : Jm' 24 = Jm 24) (m5 : Jm' 25 = Jm 25) (m6 : Jm' 36 = Jm 36) (m7 : Jm' 37 = Jm 37) (s3 : Sm' 3 = Sm 3) : LR l b X op g Im' Jm' Sm' := by
  obtain ⟨hV, hC, hK⟩ := h
  refine ⟨hV.same rfl rfl rfl rfl m1 m3 m4 m5, fun h0 => ?_, hK⟩
  unfold MRc
  rw [i3, i4, i5, m6, m7, s3]
  exact hC h0
theorem lt_e (t : Nat) : (90 : Int32) * nI t + 89 = nI (t * 90 + 89) := by
  rw [show (90 : Int32) = nI 90 from rfl, pk_mul, show (89 : Int32) = nI 89 from rfl, nI_add, Nat.mul_comm]
theorem tl_m1 {l i : Nat} : tl l i = -1 ↔ ¬ (l = 0 ∧ i < 600) := by
  unfold tl
  by_cases h : l = 0 ∧ i < 600
  · rw [if_pos h]
    refine ⟨fun q => ?_, fun q => absurd h q⟩
    have : nI i < 0 := by rw [q]; decide
    exact absurd this (nI_pos (by omega))
  · rw [if_neg h]
    exact ⟨fun _ => h, fun _ => rfl⟩
section
variable {X I : TI} {J : TJ} {S : TS} {L : TL}
set_option maxRecDepth 100000 in
set_option maxHeartbeats 4000000 in
theorem n2_goes {b l t r N : Nat} {p2 p3 : Int32} {p4 : Int64} {g0 : TG} {Φ : TI → TJ → TS → TL → Prop} (hM : BM X I) (hB : BgX b X) (hb : b ≤ 24) (s1 : S 1 = nI b) (hl : l < 2) (ht : t < 40) (hr : l = 0 → r = 600) (hw : W12 p3) (hp0 : 0 ≤ p4.toInt) (hp4 : p4.toInt ≤ 1000000000000) (hL0 : LR l b X (fun _ => False) g0 I J S) (hN : g0.2.2 = N) (hN2 : N + 15626 < 2 ^ 31) (hf : ∀ (I' : TI) (J' : TJ) (S' : TS), LR l b X (fun _ => False) (if lg_cmp p4 0 ≤ 0 then g0 else rl0 X r t b p2 p3 (-1) 0 p4 g0) I' J' S' → MFi l I I' → MFr l J J' → MFs l S S' → J' 28 l = J 28 l + p4 → (if lg_cmp p4 0 ≤ 0 then g0 else rl0 X r t b p2 p3 (-1) 0 p4 g0).2.2 ≤ N + 15626 → Φ I' J' S' L) : wp_X8_goes I J S L (nI l) (nI t) p2 p3 p4 Φ := by
  unfold wp_X8_goes
  intro S1 e1
  have sS : ∀ j, j ≠ 2 → S1 j = S j := fun j hj => by rw [e1, va_up_ne _ _ hj]
  have hs1 : MFs l S S1 := ⟨fun j h2 _ => sS j h2, fun _ => sS 3 (by omega)⟩
  refine ⟨fun hne => ?_, fun hz => ?_⟩
  rotate_left
  · have h0 := lgc_eq.mp hz
    have hz2 : lg_cmp p4 0 ≤ 0 := lgc_le.mpr (by omega)
    rw [if_pos hz2] at hf
    have ep : p4 = 0 := vx_eq h0
    refine hf I J S1 (hL0.fr rfl rfl rfl rfl rfl rfl rfl rfl rfl (sS 3 (by omega))) MFi.rf MFr.rf hs1 (by rw [ep, Int64.add_zero]) (by omega)
  have hpos : ¬ lg_cmp p4 0 ≤ 0 := fun q => hne (lgc_eq.mpr (by have := lgc_le.mp q; rw [vx_0] at this ⊢; omega))
  rw [if_neg hpos] at hf
  have hv2 : vp_in (nI l) 2 := vp_in_nI hl (by omega)
  rw [clN (show l < 2 ^ 31 by omega)]
  refine ⟨hv2, hv2, fun J1 eJ1 => ?_⟩
  have gJ1 : ∀ k, k ≠ 28 → J1 k = J k := fun k hk => by rw [eJ1, va_up_ne _ _ hk]
  have J28 : J1 28 l = J 28 l + p4 := by rw [eJ1, va_up_self, pk_uLs]
  have fJ1 : MFr l J J1 := ⟨fun k _ _ _ _ h5 _ _ _ => gJ1 k h5, fun i _ => by rw [gJ1 21 (by omega)], fun i _ => ⟨by rw [gJ1 23 (by omega)], by rw [gJ1 24 (by omega)]⟩, fun i _ => by rw [gJ1 25 (by omega)], fun i hi => by rw [eJ1, va_up_self, pk_uLn hi], fun _ => ⟨gJ1 36 (by omega), gJ1 37 (by omega)⟩⟩
  have hL1 : LR l b X (fun _ => False) g0 I J1 S1 := hL0.fr rfl rfl rfl (gJ1 21 (by omega)) (gJ1 23 (by omega)) (gJ1 24 (by omega)) (gJ1 25 (by omega)) (gJ1 36 (by omega)) (gJ1 37 (by omega)) (sS 3 (by omega))
  subst hN
  refine n2_begins (d := 0) (N := g0.2.2) (by omega) hl (by rw [e1, va_up_self]; rfl) (fun h0 => (hL1.2.1 h0).1) (by omega) (fun I2 J2 S2 hbp => ?_)
  obtain ⟨f1, f2, f3⟩ := hbp.fr
  have hbp2 := hbp
  obtain ⟨a1, a2, a3, a4, a5, a6, a7, a8, a9, a10⟩ := hbp2
  have hR0 : rl0 X r t b p2 p3 (-1) 0 p4 g0 = fin X r t b p2 (fun _ => (p3, g0.2.2, 0, p4)) 1 (bgF r p2 p3 (-1) p4 g0) := by
    unfold rl0 rlF
    rw [fin_s]
    unfold lnL
    rw [if_pos rfl]
    rfl
  generalize rl0 X r t b p2 p3 (-1) 0 p4 g0 = R at hR0 hf
  have a30 : I2 30 0 = nI 0 := by rw [a3, pk_us]; decide
  refine ⟨fun nn I' J' S' L' => L' = L ∧ ∃ (d : Nat) (F : Nat → TF) (g : TG), d ≤ 3 ∧ S' 2 = nI d ∧ (∀ e, e < d → FrOK l b (F e) e I' J') ∧ LR l b X (fun i => ∃ e, e < d ∧ (F e).2.1 = i) g I' J' S' ∧ R = fin X r t b p2 F d g ∧ MFi l I I' ∧ MFr l J J' ∧ MFs l S S' ∧ J' 28 l = J 28 l + p4 ∧ nn = mu b (I' 30) d ∧ g.2.2 + mu b (I' 30) d ≤ g0.2.2 + 15626, ⟨mu b (I2 30) 1, rfl, 1, fun _ => (p3, g0.2.2, 0, p4), bgF r p2 p3 (-1) p4 g0, by omega, a8, fun e he => ?_, hL1.begin hr hbp (fun _ q => q.elim) ⟨0, by omega, rfl⟩, hR0, f1, fJ1.tr f2, hs1.tr f3, by rw [a5 28 (by omega) (by omega) (by omega)]; exact J28, rfl, ?_⟩, ?_⟩
  · rw [show e = 0 by omega]
    exact ⟨by rw [a2, pk_us], hw, a30, by show 0 ≤ b; omega, by rw [a4, pk_us], by rw [a6, pk_uLs], hp0, hp4⟩
  · have hm : mu b (I2 30) 1 ≤ 15625 := by
      rw [mu_succ, a30, clN (by omega)]
      show 0 + wt 0 * (b + 1 - 0) ≤ 15625
      have : wt 0 = 625 := rfl
      rw [this]
      omega
    rw [bgF_p.1]
    omega
  clear hbp a1 a2 a3 a4 a5 a6 a7 a8 a9 a10 f1 f2 f3 hR0 a30
  rintro nn I' J' S' L' ⟨rfl, d, F, g, hd, s2, hF, hL, hR, hI, hJ, hS, h28, rfl, hcnt⟩
  refine ⟨fun hz => ?_, fun hd0 => ?_⟩
  · have hd : d = 0 := by
      rcases Nat.eq_zero_or_pos d with q | q
      · exact q
      · rw [s2] at hz
        exact absurd hz (nI_nle q (by omega))
    subst hd
    have hR : R = g := hR
    subst hR
    exact hf I' J' S' (hL.op (fun i q => by obtain ⟨e, he, _⟩ := q; omega)) hI hJ hS h28 (by omega)
  obtain ⟨e, rfl⟩ : ∃ e, d = e + 1 := by
    refine ⟨d - 1, ?_⟩
    rcases Nat.eq_zero_or_pos d with q | q
    · rw [q] at s2; rw [s2] at hd0; exact absurd (by decide) hd0
    · omega
  intro x14 ex14
  rw [s2, show (1 : Int32) = nI 1 from rfl, pk_sub (by omega), Nat.add_sub_cancel] at ex14
  subst ex14
  have hve : vp_in (nI e) 3 := vp_in_nI (by omega) (by omega)
  obtain ⟨w29, hwh, w30, hmb, w31, w32, hy0, hy⟩ := hF e (by omega)
  obtain ⟨⟨h, i, m, y⟩, hfe⟩ : ∃ f : TF, F e = f := ⟨_, rfl⟩
  rw [hfe] at w29 hwh w30 hmb w31 w32 hy0 hy
  have w29 : I' 29 e = h := w29
  have hwh : W12 h := hwh
  have w30 : I' 30 e = nI m := w30
  have hmb : m ≤ b := hmb
  have w31 : I' 31 e = tl l i := w31
  have w32 : J' 32 e = y := w32
  have hy0 : 0 ≤ y.toInt := hy0
  have hy : y.toInt ≤ 1000000000000 := hy
  rw [fin_s, hfe] at hR
  have s1' : S' 1 = nI b := (hS.1 1 (by omega) (by omega)).trans s1
  rw [clN (show e < 2 ^ 31 by omega)]
  refine ⟨hve, fun x15 ex15 => ?_⟩
  rw [w30] at ex15
  subst ex15
  have hmu : mu b (I' 30) (e + 1) = mu b (I' 30) e + wt e * (b + 1 - m) := by rw [mu_succ, w30, clN (by omega)]
  have hwp := wt_pos e
  obtain ⟨hN1, hhN, ehN⟩ := W12_cases hwh
  refine ⟨_, fun _ _ _ _ hB => hB, fun I2 J2 S2 L2 x => I2 = I' ∧ J2 = J' ∧ S2 = S' ∧ L2 = L' ∧ x = nI e ∧ (m = b ∨ lg_cmp y 0 ≤ 0), ?_, fun heq => ⟨rfl, rfl, rfl, rfl, rfl, Or.inl ?_⟩, fun hne2 => ⟨hve, fun hyne => ⟨hve, fun I3 e3 => ?_⟩, fun hyz => ⟨rfl, rfl, rfl, rfl, rfl, Or.inr ?_⟩⟩⟩
  · rintro I2 J2 S2 L2 x ⟨rfl, rfl, rfl, rfl, rfl, hst⟩
    rw [clN (show e < 2 ^ 31 by omega), w29, w32, w31]
    refine ⟨hve, fun x28 e28 => ?_⟩
    rw [ehN, show (12 : Int32) = nI 12 from rfl, pk_mul, nI_add] at e28
    subst e28
    have hv24 : vp_in (nI (12 * l + hN1)) 24 := vp_in_nI (by omega) (by omega)
    rw [clN (show 12 * l + hN1 < 2 ^ 31 by omega)]
    rw [lnL_stop hst, ehN, clN (show hN1 < 2 ^ 31 by omega)] at hR
    have pop : ∀ (J9 : TJ) (S9 : TS), J9 21 = vp_updL (J2 21) (12 * l + hN1) (J2 21 (12 * l + hN1) + y) → ((l = 0 ∧ i < 600) → J9 37 = vp_updL (J2 37) i y) → (¬ (l = 0 ∧ i < 600) → J9 37 = J2 37) → (∀ k, k ≠ 21 → k ≠ 37 → J9 k = J2 k) → S9 = va_up S2 2 (nI e) → ∃ n_21, n_21 < mu b (I2 30) (e + 1) ∧ (L2 = L2 ∧ ∃ (d : Nat) (F : Nat → TF) (g : TG), d ≤ 3 ∧ S9 2 = nI d ∧ (∀ e, e < d → FrOK l b (F e) e I2 J9) ∧ LR l b X (fun i => ∃ e, e < d ∧ (F e).2.1 = i) g I2 J9 S9 ∧ R = fin X r t b p2 F d g ∧ MFi l I I2 ∧ MFr l J J9 ∧ MFs l S S9 ∧ J9 28 l = J 28 l + p4 ∧ n_21 = mu b (I2 30) d ∧ g.2.2 + mu b (I2 30) d ≤ g0.2.2 + 15626) := by
      intro J9 S9 e21 e37 n37 eo e9
      have hpos : 1 ≤ wt e * (b + 1 - m) := Nat.mul_pos hwp (by omega)
      have gS : ∀ j, j ≠ 2 → S9 j = S2 j := fun j hj => by rw [e9, va_up_ne _ _ hj]
      refine ⟨mu b (I2 30) e, by omega, rfl, e, F, enF r i hN1 y g, by omega, by rw [e9, va_up_self], fun e' he' => ?_, ?_, hR, hI, hJ.tr ⟨fun k h1 _ _ _ _ _ _ h8 => eo k h1 h8, fun k hk => by rw [e21, pk_uLn (by omega)], fun k _ => ⟨by rw [eo 23 (by omega) (by omega)], by rw [eo 24 (by omega) (by omega)]⟩, fun k _ => by rw [eo 25 (by omega) (by omega)], fun k _ => by rw [eo 28 (by omega) (by omega)], fun h0 => ⟨eo 36 (by omega) (by omega), n37 (fun q => h0 q.1)⟩⟩, hS.tr ⟨fun j h2 _ => gS j h2, fun _ => gS 3 (by omega)⟩, by rw [eo 28 (by omega) (by omega)]; exact h28, rfl, ?_⟩
      · obtain ⟨q1, q2, q3, q4, q5, q6, q7, q8⟩ := hF e' (by omega)
        exact ⟨q1, q2, q3, q4, q5, by rw [eo 32 (by omega) (by omega)]; exact q6, q7, q8⟩
      · refine hL.fin hr hhN e21 e37 n37 eo (gS 3 (by omega)) (fun k hk => ?_)
        obtain ⟨e', he', ee⟩ := hk
        by_cases ge : e' = e
        · left
          rw [ge, hfe] at ee
          exact ee.symm
        · exact Or.inr ⟨e', by omega, ee⟩
      · rw [enF_p.2.1]
        omega
    refine ⟨hv24, hve, hv24, fun J3 e3 => ⟨hve, fun I3 J4 S3 L3 x => I3 = I2 ∧ S3 = S2 ∧ L3 = L2 ∧ x = nI e ∧ J4 21 = vp_updL (J2 21) (12 * l + hN1) (J2 21 (12 * l + hN1) + y) ∧ ((l = 0 ∧ i < 600) → J4 37 = vp_updL (J2 37) i y) ∧ (¬ (l = 0 ∧ i < 600) → J4 37 = J2 37) ∧ (∀ k, k ≠ 21 → k ≠ 37 → J4 k = J2 k), ?_, fun h31 => ⟨rfl, rfl, rfl, rfl, by rw [e3, va_up_self], fun q => absurd q (tl_m1.mp h31), fun _ => by rw [e3, va_up_ne _ _ (by omega)], fun k h1 _ => by rw [e3, va_up_ne _ _ h1]⟩, fun h31 => ⟨hve, hve, ?_⟩⟩⟩
    · rintro I3 J4 S3 L3 x ⟨rfl, rfl, rfl, rfl, q1, q2, q3, q4⟩ S9 e9
      exact pop J4 S9 q1 q2 q3 q4 e9
    · have hop : l = 0 ∧ i < 600 := Classical.byContradiction (fun q => h31 (tl_m1.mpr q))
      have etl : tl l i = nI i := by
        unfold tl
        rw [if_pos hop]
      rw [etl, clN (by omega)]
      refine ⟨vp_in_nI hop.2 (by omega), fun J4 e4 => ⟨rfl, rfl, rfl, rfl, by rw [e4, va_up_ne _ _ (by omega), e3, va_up_self], fun _ => ?_, fun q => absurd hop q, fun k h1 h7 => by rw [e4, va_up_ne _ _ h7, e3, va_up_ne _ _ h1]⟩⟩
      rw [e4, va_up_self, e3, va_up_ne _ _ (by omega), va_up_ne _ _ (by omega), w32]
  · rw [s1'] at heq
    exact (nI_eq (by omega) (by omega)).mp heq
  · have hmb2 : m < b := by
      rcases Nat.lt_or_ge m b with q | q
      · exact q
      · exact absurd (by rw [s1', show m = b by omega]) hne2
    rw [w32] at hyne
    have hypos : ¬ lg_cmp y 0 ≤ 0 := fun q => hyne (lgc_eq.mpr (by have := lgc_le.mp q; rw [vx_0] at this ⊢; omega))
    have hvm : vp_in (nI m) 24 := vp_in_nI (by omega) (by omega)
    have eI3 : ∀ n, n ≠ 30 → I3 n = I' n := fun n hn => by rw [e3, va_up_ne _ _ hn]
    have e30 : I3 30 = upd (I' 30) e (nI m + 1) := by rw [e3, va_up_self]
    have hI3 : MFi l I I3 := ⟨fun n hn => by rw [eI3 n (by omega)]; exact hI.1 n hn, fun h0 => by rw [eI3 33 (by omega), eI3 34 (by omega), eI3 35 (by omega)]; exact hI.2 h0⟩
    have hL3 : LR l b X (fun i => ∃ e', e' < e + 1 ∧ (F e').2.1 = i) g I3 J' S' := hL.fr (eI3 33 (by omega)) (eI3 34 (by omega)) (eI3 35 (by omega)) rfl rfl rfl rfl rfl rfl rfl
    have hmu3 : mu b (I3 30) (e + 1) = mu b (I' 30) e + wt e * (b - m) := by
      rw [mu_succ, e30, pk_us, nI_1, clN (by omega)]
      rw [mu_cong (fun i hi => pk_un (show i ≠ e by omega)), show b + 1 - (m + 1) = b - m by omega]
    have hdec : mu b (I3 30) (e + 1) + wt e = mu b (I' 30) (e + 1) := by
      rw [hmu3, hmu, show b + 1 - m = (b - m) + 1 by omega, Nat.mul_add, Nat.mul_one]
      omega
    have x7 : I3 6 = X 7 := by rw [eI3 6 (by omega), hI.1 6 (by omega)]; exact hM.2.1
    have x8 : I3 7 = X 8 := by rw [eI3 7 (by omega), hI.1 7 (by omega)]; exact hM.2.2.1
    have x9 : I3 8 = X 9 := by rw [eI3 8 (by omega), hI.1 8 (by omega)]; exact hM.2.2.2.1
    have hM3 : BM X I3 := by
      unfold BM
      rw [eI3 5 (by omega), eI3 6 (by omega), eI3 7 (by omega), eI3 8 (by omega), eI3 9 (by omega), eI3 10 (by omega), eI3 11 (by omega), eI3 12 (by omega), hI.1 5 (by omega), hI.1 6 (by omega), hI.1 7 (by omega), hI.1 8 (by omega), hI.1 9 (by omega), hI.1 10 (by omega), hI.1 11 (by omega), hI.1 12 (by omega)]
      exact hM
    -- the frame's new state, no push
    have nopush : ∀ (J9 : TJ) (y9 : Int64) (g9 : TG), (∀ e', e' ≠ e → J9 32 e' = J' 32 e') → J9 32 e = y9 → 0 ≤ y9.toInt → y9.toInt ≤ 1000000000000 → MFr l J' J9 → J9 28 l = J' 28 l → g9.2.2 = g.2.2 → LR l b X (fun i => ∃ e', e' < e + 1 ∧ (F e').2.1 = i) g9 I3 J9 S' → R = fin X r t b p2 F e (lnL X r t b p2 e (h, i, m + 1, y9) g9) → ∃ n_21, n_21 < mu b (I' 30) (e + 1) ∧ (L' = L' ∧ ∃ (d : Nat) (F : Nat → TF) (g : TG), d ≤ 3 ∧ S' 2 = nI d ∧ (∀ e, e < d → FrOK l b (F e) e I3 J9) ∧ LR l b X (fun i => ∃ e, e < d ∧ (F e).2.1 = i) g I3 J9 S' ∧ R = fin X r t b p2 F d g ∧ MFi l I I3 ∧ MFr l J J9 ∧ MFs l S S' ∧ J9 28 l = J 28 l + p4 ∧ n_21 = mu b (I3 30) d ∧ g.2.2 + mu b (I3 30) d ≤ g0.2.2 + 15626) := by
      intro J9 y9 g9 eo ey q0 q1 hfr h289 hg hL9 hR9
      refine ⟨mu b (I3 30) (e + 1), by omega, rfl, e + 1, fun k => if k = e then (h, i, m + 1, y9) else F k, g9, hd, s2, fun e' he' => ?_, hL9.op (fun k hk => ?_), ?_, hI3, hJ.tr hfr, hS, h289.trans h28, rfl, by rw [hg]; omega⟩
      · dsimp only
        by_cases ge : e' = e
        · rw [if_pos ge, ge]
          exact ⟨by rw [eI3 29 (by omega)]; exact w29, hwh, by rw [e30, pk_us, nI_1], by show m + 1 ≤ b; omega, by rw [eI3 31 (by omega)]; exact w31, ey, q0, q1⟩
        · rw [if_neg ge]
          obtain ⟨z1, z2, z3, z4, z5, z6, z7, z8⟩ := hF e' he'
          exact ⟨by rw [eI3 29 (by omega)]; exact z1, z2, by rw [e30, pk_un ge]; exact z3, z4, by rw [eI3 31 (by omega)]; exact z5, by rw [eo e' ge]; exact z6, z7, z8⟩
      · obtain ⟨e', he', ee⟩ := hk
        refine ⟨e', he', ?_⟩
        dsimp only
        by_cases ge : e' = e
        · rw [if_pos ge]
          rw [ge, hfe] at ee
          exact ee
        · rw [if_neg ge]
          exact ee
      · rw [fin_s, if_pos rfl, hR9]
        exact fin_cong (fun k hk => by rw [if_neg (by omega)])
    have skip : ¬ (hdP X p2 h t m ∧ (e < 2 ∨ ¬ psP X m)) → ∃ n_21, n_21 < mu b (I' 30) (e + 1) ∧ (L' = L' ∧ ∃ (d : Nat) (F : Nat → TF) (g : TG), d ≤ 3 ∧ S' 2 = nI d ∧ (∀ e, e < d → FrOK l b (F e) e I3 J') ∧ LR l b X (fun i => ∃ e, e < d ∧ (F e).2.1 = i) g I3 J' S' ∧ R = fin X r t b p2 F d g ∧ MFi l I I3 ∧ MFr l J J' ∧ MFs l S S' ∧ J' 28 l = J 28 l + p4 ∧ n_21 = mu b (I3 30) d ∧ g.2.2 + mu b (I3 30) d ≤ g0.2.2 + 15626) := fun hno => by
      refine nopush J' y g (fun _ _ => rfl) w32 hy0 hy MFr.rf rfl rfl hL3 ?_
      rw [hR, lnL_skip hmb2 hypos hno]
    rw [x7, x8, x9, clN (show m < 2 ^ 31 by omega), eI3 29 (by omega), w29, lt_e]
    refine ⟨hvm, hve, fun q => skip (fun k => q k.1.1), fun q1 => ⟨hvm, fun q => skip (fun k => q k.1.2.1), fun q2 => ⟨hvm, fun q => skip (fun k => k.1.2.2 q), fun q3 => ?_⟩⟩⟩
    have hhd : hdP X p2 h t m := ⟨q1, q2, q3⟩
    refine n2_meets (N := g.2.2) (Ja := g.2.1) hM3 hB hb hmb2 hl ht (by omega) s2 (fun h0 => (hL3.2.1 h0).1) (by omega) hL3.1 (fun I4 J4 S4 hO => ?_)
    rw [w32] at hO
    have htk := tk_rng (y := y) hB hmb2 hL3.2.2 hy0 hy
    have eyt : (y - tkF X g.2.1 m y).toInt = y.toInt - (tkF X g.2.1 m y).toInt := vx_sb (by omega) (by omega)
    rcases hO with ⟨⟨hps, he2⟩, rfl, rfl, rfl⟩ | ⟨h2, rfl, rfl, rfl⟩ | ⟨h2, hps, hnp, rfl, rfl, rfl⟩ | ⟨h2, he2, hps, hbp⟩
    · refine skip (fun k => ?_)
      rcases k.2 with q | q
      · omega
      · exact q hps
    · obtain ⟨z0, hLf⟩ := hL3.floor (t := t) (y := y) h2
      have hnp : ¬ psP X m := fun q => by
        rcases q with q | q <;> (rw [h2] at q; exact absurd q (by decide))
      refine nopush J4 y (g.1, meetF X t g.2.1 m y, g.2.2) (fun _ _ => rfl) w32 hy0 hy MFr.rf rfl rfl hLf ?_
      rw [hR, lnL_keep (g := g) hmb2 hypos hhd (Or.inr hnp) (fun q => hnp q.1), z0, Int64.sub_zero]
    · refine nopush _ (y - tkF X g.2.1 m y) (g.1, meetF X t g.2.1 m y, g.2.2) (fun e' he' => by rw [jm_32, pk_uLn he']) (by rw [jm_32, pk_uLs]) (by omega) (by omega) (jm_fr (by omega) ht) (by rw [jm_o (by omega) (by omega) (by omega) (by omega)]) rfl (hL3.meet hB hb hmb2 ht hy0 hy) ?_
      rw [hR, lnL_keep (g := g) hmb2 hypos hhd ?_ hnp]
      by_cases gp : psP X m
      · exact Or.inl (hps gp)
      · exact Or.inr gp
    · obtain ⟨f1, f2, f3⟩ := hbp.fr
      have hbp2 := hbp
      obtain ⟨b1, b2, b3, b4, b5, b6, b7, b8, b9, b10⟩ := hbp2
      have hLm := hL3.meet (t := t) (d := e) (y := y) hB hb hmb2 ht hy0 hy
      have hmu4 : mu b (I4 30) (e + 2) = mu b (I3 30) (e + 1) + wt (e + 1) * (b - m) := by
        rw [mu_succ, b3, pk_us, nI_1, clN (by omega)]
        rw [mu_cong (fun i hi => pk_un (show i ≠ e + 1 by omega)), show b + 1 - (m + 1) = b - m by omega]
      have hle : wt (e + 1) * (b - m) ≤ 24 * wt (e + 1) := by
        rw [Nat.mul_comm 24]
        exact Nat.mul_le_mul_left _ (by omega)
      have hlt := wt_lt he2
      refine ⟨mu b (I4 30) (e + 2), by omega, rfl, e + 2, fun k => if k = e + 1 then (X 13 m, g.2.2, m + 1, tkF X g.2.1 m y) else if k = e then (h, i, m + 1, y - tkF X g.2.1 m y) else F k, bgF r p2 (X 13 m) (nI m) (tkF X g.2.1 m y) (g.1, meetF X t g.2.1 m y, g.2.2), by omega, b8, fun e' he' => ?_, ?_, ?_, hI3.tr f1, (hJ.tr (jm_fr (by omega) ht)).tr f2, hS.tr f3, ?_, rfl, ?_⟩
      · dsimp only
        by_cases g1 : e' = e + 1
        · rw [if_pos g1, g1]
          exact ⟨by rw [b2, pk_us], (hB m hmb2).2.2 hps.1, by rw [b3, pk_us, nI_1], by show m + 1 ≤ b; omega, by rw [b4, pk_us], by rw [b6, pk_uLs], htk.1, by show (tkF X g.2.1 m y).toInt ≤ 1000000000000; omega⟩
        · rw [if_neg g1]
          by_cases g2 : e' = e
          · rw [if_pos g2, g2]
            exact ⟨by rw [b2, pk_un (by omega), eI3 29 (by omega)]; exact w29, hwh, by rw [b3, pk_un (by omega), e30, pk_us, nI_1], by show m + 1 ≤ b; omega, by rw [b4, pk_un (by omega), eI3 31 (by omega)]; exact w31, by rw [b6, pk_uLn (by omega), jm_32, pk_uLs], by show 0 ≤ (y - tkF X g.2.1 m y).toInt; omega, by show (y - tkF X g.2.1 m y).toInt ≤ 1000000000000; omega⟩
          · rw [if_neg g2]
            obtain ⟨z1, z2, z3, z4, z5, z6, z7, z8⟩ := hF e' (by omega)
            exact ⟨by rw [b2, pk_un g1, eI3 29 (by omega)]; exact z1, z2, by rw [b3, pk_un g1, e30, pk_un g2]; exact z3, z4, by rw [b4, pk_un g1, eI3 31 (by omega)]; exact z5, by rw [b6, pk_uLn g1, jm_32, pk_uLn g2]; exact z6, z7, z8⟩
      · refine hLm.begin hr hbp (fun k hk => ?_) ⟨e + 1, by omega, by dsimp only; rw [if_pos rfl]⟩
        obtain ⟨e', he', ee⟩ := hk
        refine ⟨e', by omega, ?_⟩
        dsimp only
        rw [if_neg (by omega)]
        by_cases ge : e' = e
        · rw [if_pos ge]
          rw [ge, hfe] at ee
          exact ee
        · rw [if_neg ge]
          exact ee
      · rw [hR, lnL_pass (g := g) hmb2 hypos hhd he2 hps, fin_s, fin_s, if_pos rfl, if_neg (by omega), if_pos rfl]
        exact fin_cong (fun k hk => by rw [if_neg (by omega), if_neg (by omega)])
      · rw [b5 28 (by omega) (by omega) (by omega), jm_o (by omega) (by omega) (by omega) (by omega)]
        exact h28
      · rw [bgF_p.1]
        show g.2.2 + 1 + mu b (I4 30) (e + 2) ≤ g0.2.2 + 15626
        omega
  · rw [w32] at hyz
    exact lgc_le.mpr (by have := lgc_eq.mp hyz; rw [vx_0] at this ⊢; omega)
end
