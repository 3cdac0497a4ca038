/-- the reference's SHARES are X's -/
def SMx (X Im : TI) : Prop := Im 1 = X 1 ∧ Im 2 = X 2 ∧ Im 3 = X 3 ∧ Im 4 = X 4
/-- the reference's REPORTS are X's -/
def RM (X Im : TI) : Prop := Im 16 = X 16 ∧ Im 17 = X 18 ∧ Im 18 = X 19 ∧ (∀ i, i < 480 → Im 13 i = X 15 (i * 3) ∧ Im 14 i = X 15 (i * 3 + 1) ∧ Im 15 i = X 15 (i * 3 + 2)) ∧ (∀ t w, t < 40 → w < 12 → ((¬ nI w < Im 19 t ∧ Im 20 (12 * t + w) = 0) ↔ opP X t (nI w)))
theorem BM.fr {X I I' : TI} (h : BM X I) (e : ∀ n, n < 29 ∨ 36 ≤ n → I' n = I n) : BM X I' := by
  unfold BM
  rw [e 5 (by omega), e 6 (by omega), e 7 (by omega), e 8 (by omega), e 9 (by omega), e 10 (by omega), e 11 (by omega), e 12 (by omega)]
  exact h
theorem SMx.fr {X I I' : TI} (h : SMx X I) (e : ∀ n, n < 29 ∨ 36 ≤ n → I' n = I n) : SMx X I' := by
  unfold SMx
  rw [e 1 (by omega), e 2 (by omega), e 3 (by omega), e 4 (by omega)]
  exact h
theorem RM.fr {X I I' : TI} (h : RM X I) (e : ∀ n, n < 29 ∨ 36 ≤ n → I' n = I n) : RM X I' := by
  unfold RM
  rw [e 13 (by omega), e 14 (by omega), e 15 (by omega), e 16 (by omega), e 17 (by omega), e 18 (by omega), e 19 (by omega), e 20 (by omega)]
  exact h
def psF (X : TI) (s : Nat) (y : Int64) : Nat → Int64
  | 0 => 0
  | m + 1 => psF X s y m + y * (X 4 (s * 3 + m)).toInt64 * 1000
theorem ps_3 {X : TI} {s : Nat} {y : Int64} (h : (X 4 (s * 3)).toInt + (X 4 (s * 3 + 1)).toInt + (X 4 (s * 3 + 2)).toInt = 1000) : psF X s y 3 = y * 1000000 := by
  have hs : (X 4 (s * 3)).toInt64 + (X 4 (s * 3 + 1)).toInt64 + (X 4 (s * 3 + 2)).toInt64 = 1000 := by
    refine vx_eq ?_
    have a := vx_i (X 4 (s * 3))
    have b := vx_i (X 4 (s * 3 + 1))
    have c := vx_i (X 4 (s * 3 + 2))
    have e1 : ((X 4 (s * 3)).toInt64 + (X 4 (s * 3 + 1)).toInt64).toInt = (X 4 (s * 3)).toInt + (X 4 (s * 3 + 1)).toInt := by
      rw [vx_ad, Int32.toInt_toInt64, Int32.toInt_toInt64]
      · rw [Int32.toInt_toInt64, Int32.toInt_toInt64]; omega
      · rw [Int32.toInt_toInt64, Int32.toInt_toInt64]; omega
    rw [vx_ad, e1, Int32.toInt_toInt64, h]
    · decide
    · rw [e1, Int32.toInt_toInt64]; omega
    · rw [e1, Int32.toInt_toInt64]; omega
  show 0 + y * (X 4 (s * 3 + 0)).toInt64 * 1000 + y * (X 4 (s * 3 + 1)).toInt64 * 1000 + y * (X 4 (s * 3 + 2)).toInt64 * 1000 = y * 1000000
  rw [show s * 3 + 0 = s * 3 from rfl]
  generalize (X 4 (s * 3)).toInt64 = a at hs
  generalize (X 4 (s * 3 + 1)).toInt64 = b at hs
  generalize (X 4 (s * 3 + 2)).toInt64 = c at hs
  have : (0 : Int64) + y * a * 1000 + y * b * 1000 + y * c * 1000 = y * ((a + b + c) * 1000) := by grind
  rw [this, hs]
  rfl
section
variable {X I : TI} {J : TJ} {S : TS} {L : TL}
theorem n2_setOn {j kk : Nat} {p1 : Int32} {Φ : Int32 → TI → TJ → TS → TL → Prop} (hM : SMx X I) (hj : j < 12) (hs : X 1 j = nI kk) (hkk : kk ≤ 6) (hf : Φ (nI (stN X j p1)) I J S L) : wp_X8_setOn I J S L (nI j) p1 Φ := by
  unfold wp_X8_setOn
  intro x ex
  rw [show (6 : Int32) = nI 6 from rfl, pk_mul, Nat.mul_comm] at ex
  subst ex
  have e0 : stN X j p1 = stS X j p1 (kk - 1) 1 (j * 6) := by
    unfold stN
    rw [hs, clN (by omega)]
  generalize stN X j p1 = R at e0 hf
  refine ⟨fun n I' J' S' L' f x => I' = I ∧ J' = J ∧ S' = S ∧ L' = L ∧ ∃ s m, f = nI s ∧ m ≤ 7 ∧ x = nI m ∧ n = 7 - m ∧ ((m = 0 ∧ s = j * 6) ∨ (1 ≤ m ∧ R = stS X j p1 (kk - m) m s)), ⟨7, rfl, rfl, rfl, rfl, j * 6, 0, rfl, by omega, rfl, rfl, Or.inl ⟨rfl, rfl⟩⟩, ?_⟩
  rintro n I' J' S' L' f x ⟨rfl, rfl, rfl, rfl, s, m, rfl, hm, rfl, rfl, hR⟩
  rw [clN (by omega), hM.1, hs, hM.2.1]
  refine ⟨vp_in_nI hj (by omega), fun hc => ?_, fun hc => ?_⟩
  · have hkm : kk ≤ m := (nI_leI (by omega) (by omega)).mp hc
    have : R = s := by
      rcases hR with ⟨q1, q2⟩ | ⟨q1, q2⟩
      · rw [e0, q2, show kk - 1 = 0 by omega]
        rfl
      · rw [q2, show kk - m = 0 by omega]
        rfl
    rw [← this]
    exact hf
  have hm2 : m < kk := by
    rcases Nat.lt_or_ge m kk with q | q
    · exact q
    · exact absurd (nI_le q (by omega)) hc
  rw [show (6 : Int32) = nI 6 from rfl, pk_mul, nI_add, Nat.mul_comm, clN (show j * 6 + m < 2 ^ 31 by omega)]
  have nx : ∀ s2, s2 = (if p1 < X 2 (j * 6 + m) then s else j * 6 + m) → (m + 1 = 0 ∧ s2 = j * 6) ∨ (1 ≤ m + 1 ∧ R = stS X j p1 (kk - (m + 1)) (m + 1) s2) := by
    intro s2 e2
    refine Or.inr ⟨by omega, ?_⟩
    rcases hR with ⟨q1, q2⟩ | ⟨q1, q2⟩
    · subst q1
      have : s2 = j * 6 := by
        rw [e2, q2]
        split <;> rfl
      rw [this, e0]
    · rw [q2, show kk - m = (kk - (m + 1)) + 1 by omega, e2]
      rfl
  refine ⟨vp_in_nI (by omega) (by omega), fun I2 J2 S2 L2 f x => I2 = I' ∧ J2 = J' ∧ S2 = S' ∧ L2 = L' ∧ ∃ s2, f = nI s2 ∧ x = nI m ∧ s2 = (if p1 < X 2 (j * 6 + m) then s else j * 6 + m), ?_, fun hd => ⟨rfl, rfl, rfl, rfl, s, rfl, rfl, by rw [if_pos hd]⟩, fun hd => fun x ex => ⟨rfl, rfl, rfl, rfl, j * 6 + m, ex, rfl, by rw [if_neg hd]⟩⟩
  rintro I2 J2 S2 L2 f x ⟨rfl, rfl, rfl, rfl, s2, rfl, rfl, e2⟩ x2 ex2
  exact ⟨7 - (m + 1), by omega, rfl, rfl, rfl, rfl, s2, m + 1, rfl, by omega, by rw [ex2]; exact nI_1 m, rfl, nx s2 e2⟩
set_option maxRecDepth 100000 in
set_option maxHeartbeats 2000000 in
theorem n2_comes {b l t r w kk N : Nat} {p3 p4 : Int32} {g : TG} {Φ : TI → TJ → TS → TL → Prop} (hM : BM X I) (hSM : SMx X I) (hB : BgX b X) (hS : StX X) (hb : b ≤ 24) (s1 : S 1 = nI b) (hl : l < 2) (ht : t < 40) (hr : l = 0 → r = 600) (hw : w < 12) (hk : X 1 w = nI kk) (h1 : 1 ≤ kk) (h6 : kk ≤ 6) (hp0 : 0 ≤ p3.toInt) (hp1 : p3.toInt ≤ 1000000) (hL0 : LR l b X (fun _ => False) g I J S) (hN : g.2.2 ≤ N) (hN2 : N + 46878 < 2 ^ 31) (hf : ∀ (I' : TI) (J' : TJ) (S' : TS), LR l b X (fun _ => False) (shF X r t b w (stN X w p4) p3.toInt64 3 0 g) I' J' S' → MFi l I I' → MFr l J J' → MFs l S S' → J' 28 l = J 28 l + p3.toInt64 * 1000000 → (shF X r t b w (stN X w p4) p3.toInt64 3 0 g).2.2 ≤ N + 46878 → Φ I' J' S' L) : wp_X8_comes I J S L (nI l) (nI t) (nI w) p3 p4 Φ := by
  unfold wp_X8_comes
  refine n2_setOn hSM hw hk h6 ?_
  obtain ⟨k0, hk0, es⟩ := stN_k (d := p4) hk h1 h6
  have h1000 := hS.2.2 w kk k0 hw h6 hk hk0
  rw [← es] at h1000
  have hs72 : stN X w p4 < 72 := by rw [es]; omega
  generalize stN X w p4 = s at h1000 hs72 hf
  have e3 := ps_3 (y := p3.toInt64) h1000
  generalize hR0 : shF X r t b w s p3.toInt64 3 0 g = R at hf
  have y0 : 0 ≤ p3.toInt64.toInt := by rw [Int32.toInt_toInt64]; exact hp0
  have y1 : p3.toInt64.toInt ≤ 1000000 := by rw [Int32.toInt_toInt64]; exact hp1
  refine ⟨fun n I' J' S' L' a x => a = nI s ∧ L' = L ∧ ∃ (m : Nat) (g' : TG), m ≤ 3 ∧ x = nI m ∧ n = 3 - m ∧ LR l b X (fun _ => False) g' I' J' S' ∧ R = shF X r t b w s p3.toInt64 (3 - m) m g' ∧ MFi l I I' ∧ MFr l J J' ∧ MFs l S S' ∧ J' 28 l = J 28 l + psF X s p3.toInt64 m ∧ g'.2.2 ≤ N + m * 15626, ⟨3, rfl, rfl, 0, g, by omega, rfl, rfl, hL0, hR0.symm, MFi.rf, MFr.rf, ⟨fun _ _ _ => rfl, fun _ => rfl⟩, (Int64.add_zero _).symm, by omega⟩, ?_⟩
  rintro n I' J' S' L' a x ⟨rfl, rfl, m, g', hm, rfl, rfl, hL, hR, hI, hJ, hSs, h28, hcnt⟩
  refine ⟨fun hc => ?_, fun hc => ?_⟩
  · have hm3 : m = 3 := by
      have := (nI_leI (a := 3) (by omega) (by omega)).mp hc
      omega
    subst hm3
    have hR : R = g' := hR
    subst hR
    exact hf I' J' S' hL hI hJ hSs (by rw [h28, e3]) (by omega)
  have hm2 : m < 3 := nI_nleN (N := 3) (by omega) hm hc
  have ei : (3 : Int32) * nI s + nI m = nI (s * 3 + m) := by rw [show (3 : Int32) = nI 3 from rfl, pk_mul, nI_add, Nat.mul_comm]
  rw [ei, clN (show s * 3 + m < 2 ^ 31 by omega)]
  have hv : vp_in (nI (s * 3 + m)) 216 := vp_in_nI (by omega) (by omega)
  have x3 : I' 3 = X 3 := by rw [hI.1 3 (by omega)]; exact hSM.2.2.1
  have x4 : I' 4 = X 4 := by rw [hI.1 4 (by omega)]; exact hSM.2.2.2
  rw [x3, x4]
  rw [show 3 - m = (3 - (m + 1)) + 1 by omega, shF_s] at hR
  refine ⟨hv, fun x15 e15 => ?_⟩
  subst e15
  have hp := hS.par (i := s * 3 + m) (by omega)
  obtain ⟨v1, v2, v3⟩ := mit_v y0 y1 hp.1 hp.2
  refine ⟨fun I2 J2 S2 L2 a x => a = nI s ∧ x = nI m ∧ L2 = L' ∧ ∃ g2 : TG, LR l b X (fun _ => False) g2 I2 J2 S2 ∧ R = shF X r t b w s p3.toInt64 (3 - (m + 1)) (m + 1) g2 ∧ MFi l I I2 ∧ MFr l J J2 ∧ MFs l S S2 ∧ J2 28 l = J 28 l + psF X s p3.toInt64 (m + 1) ∧ g2.2.2 ≤ N + (m + 1) * 15626, ?_, fun hn1 => ⟨rfl, rfl, rfl, g', hL, ?_, hI, hJ, hSs, ?_, by omega⟩, fun hn1 => ⟨hv, ?_⟩⟩
  · rintro I2 J2 S2 L2 a x ⟨rfl, rfl, rfl, g2, q1, q2, q3, q4, q5, q6, q7⟩ x2 ex2
    exact ⟨3 - (m + 1), by omega, rfl, rfl, m + 1, g2, by omega, by rw [ex2]; exact nI_1 m, rfl, q1, q2, q3, q4, q5, q6, q7⟩
  · have h40 : X 4 (s * 3 + m) = 0 := by
      rcases hS.2.1 (s * 3 + m) (by omega) with q | q
      · exact q.2
      · exfalso
        have := q.1.1
        rw [hn1] at this
        exact this (by decide)
    rw [h40, m0, if_pos (by decide)] at hR
    exact hR
  · have h40 : X 4 (s * 3 + m) = 0 := by
      rcases hS.2.1 (s * 3 + m) (by omega) with q | q
      · exact q.2
      · exfalso
        have := q.1.1
        rw [hn1] at this
        exact this (by decide)
    show J' 28 l = J 28 l + (psF X s p3.toInt64 m + p3.toInt64 * (X 4 (s * 3 + m)).toInt64 * 1000)
    rw [h40, m0, Int64.add_zero]
    exact h28
  · have hwh : W12 (X 3 (s * 3 + m)) := by
      rcases hS.2.1 (s * 3 + m) (by omega) with q | q
      · exact absurd q.1 hn1
      · exact q.1
    refine n2_goes (r := r) (g0 := g') (N := g'.2.2) (hM.fr hI.1) hB hb ((hSs.1 1 (by omega) (by omega)).trans s1) hl ht hr hwh (by omega) (by omega) hL rfl (by omega) (fun I3 J3 S3 a1 a2 a3 a4 a5 a6 => ⟨rfl, rfl, rfl, _, a1, hR, hI.tr a2, hJ.tr a3, hSs.tr a4, ?_, by omega⟩)
    rw [a5, h28, Int64.add_assoc]
    rfl
theorem n2_isOpen {t w : Nat} {Φ : Int32 → TI → TJ → TS → TL → Prop} (hM : RM X I) (ht : t < 40) (hw : w < 12) (h1 : opP X t (nI w) → Φ 1 I J S L) (h0 : ¬ opP X t (nI w) → Φ 0 I J S L) : wp_X8_isOpen I J S L (nI t) (nI w) Φ := by
  unfold wp_X8_isOpen
  have ho := hM.2.2.2.2 t w ht hw
  rw [e12, clN (show t < 2 ^ 31 by omega), clN (show 12 * t + w < 2 ^ 31 by omega)]
  exact ⟨vp_in_nI ht (by omega), _, fun _ _ _ _ _ hB => hB, _, fun _ _ _ _ hB => hB, fun q => ⟨Or.inl rfl, h0 (fun k => (ho.mpr k).1 q)⟩, fun q1 => ⟨vp_in_nI (by omega) (by omega), fun q => ⟨Or.inl rfl, h0 (fun k => q (ho.mpr k).2)⟩, fun q2 => ⟨Or.inr rfl, h1 (ho.mp ⟨q1, q2⟩)⟩⟩⟩
end
