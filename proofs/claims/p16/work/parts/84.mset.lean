section
variable {X I : TI} {J : TJ} {S : TS} {L : TL}
theorem n2_worthP {l h : Nat} {D : Nat → Int32} {Ja : TJ} {Φ : Int64 → TI → TJ → TS → TL → Prop} (hl : l < 2) (hh : h < 12) (hD : ∀ h t, h < 12 → t < 40 → I 26 ((l * 12 + h) * 40 + t) = D (h * 40 + t)) (h1 : J 21 (12 * l + h) = Ja 26 h) (h2 : J 22 (12 * l + h) = Ja 27 h) (hf : Φ (wF D Ja h) I J S L) : wp_X8_worth I J S L (nI l) (nI h) Φ := by
  unfold wp_X8_worth
  refine n2_duesOf hl hh hD ?_
  rw [e12, clN (show 12 * l + h < 2 ^ 31 by omega), h1, h2]
  have hv : vp_in (nI (12 * l + h)) 24 := vp_in_nI (by omega) (by omega)
  exact ⟨hv, hv, hf⟩
/-- what SETTLE makes of the standing ledger -/
def SL (D1 : Nat → Int32) (J1 : TJ) (D : Nat → Int32) (Ja Jn : TJ) : Prop := (∀ h, h < 12 → Jn 26 h = Ja 26 h + ((wF D1 J1 h - wF D Ja h + J1 27 h) - Ja 27 h) ∧ Jn 27 h = J1 27 h ∧ Jn 28 h = J1 28 h) ∧ (∀ n, n < 24 → Jn 30 n = J1 30 n ∧ Jn 31 n = J1 31 n) ∧ (∀ i, i < 960 → Jn 32 i = J1 32 i)
theorem lg_swap (a y d e : Int64) : a + y - d + e = a + ((y + e) - d) := by
  rw [Int64.sub_eq_add_neg, Int64.sub_eq_add_neg, Int64.add_assoc, Int64.add_assoc, Int64.add_assoc, Int64.add_comm (-d) e]
theorem ocF_0 {f : Nat → Int64} {h : Nat} {x : Int32} : ocF f 0 h x = x := rfl
theorem ocF_s {f : Nat → Int64} {j h : Nat} {x : Int32} : ocF f (j + 1) h x = ocF f j (h + 1) (if f h = 0 then x else x + 1) := rfl
set_option maxHeartbeats 1000000 in
theorem n2_settle {Z : TK} {b q c : Nat} {D : Nat → Int32} {Ja : TJ} {Φ : Int32 → TI → TJ → TS → TL → Prop} (hZ : ZOK Z) (hM : BM X I) (hSM : SMx X I) (hRM : RM X I) (hQM : QM X I) (hB : BgX b X) (hSt : StX X) (hRp : RpX X) (hQ : SX q c X) (hb : b ≤ 24) (hq : q ≤ 60) (hc : c ≤ 40) (s0 : S 0 = nI c) (s1 : S 1 = nI b) (s4 : S 4 = nI q) (hP : MP 0 X D Ja I J) (hf : ∀ (I' : TI) (J' : TJ) (S' : TS), (∀ Jn, SL ((anT Z X 0 b q c).1 29) (anT Z X 0 b q c).2.1 D Ja Jn → MP 0 X D Jn I' J') → J' 28 0 = (anT Z X 0 b q c).2.2.2.1 → (∀ n, n < 26 ∨ 36 ≤ n → I' n = I n) → (I' 33 = I 33 ∧ I' 34 = I 34 ∧ I' 35 = I 35 ∧ J' 36 = J 36 ∧ J' 37 = J 37) → (∀ j, j ≠ 2 → j ≠ 5 → S' j = S j) → S' 5 = S 5 + 1 → Φ (ocF (fun h => wF ((anT Z X 0 b q c).1 29) (anT Z X 0 b q c).2.1 h - wF D Ja h) 12 0 0) I' J' S' L) : wp_X8_settle I J S L Φ := by
  unfold wp_X8_settle
  refine n2_anew hZ hM hSM hRM hQM hB hSt hRp hQ hb hq hc s0 s1 s4 (fun I1 J1 S1 a1 a2 a3 a4 => ?_)
  have hP' := hP.g0 a3
  generalize anT Z X 0 b q c = g at a1 a2 hf
  generalize hfe : (fun h => wF (g.1 29) g.2.1 h - wF D Ja h) = f at hf
  have hfv : ∀ h, wF (g.1 29) g.2.1 h - wF D Ja h = f h := fun h => congrFun hfe h
  clear hfe
  generalize hR0 : ocF f 12 0 0 = R at hf
  refine ⟨fun n I2 J2 S2 L2 y x => S2 = S1 ∧ L2 = L ∧ ∃ k, k ≤ 12 ∧ x = nI k ∧ n = 12 - k ∧ R = ocF f (12 - k) k y ∧ (∀ n, n ≠ 27 → I2 n = I1 n) ∧ (∀ n, n ≠ 21 → n ≠ 22 → J2 n = J1 n) ∧ (∀ h, h < k → J2 21 h = J1 21 h + f h - J1 22 h + J1 22 (12 + h) ∧ J2 22 h = J1 22 (12 + h) ∧ I2 27 h = I1 27 (12 + h)) ∧ (∀ i, k ≤ i → J2 21 i = J1 21 i ∧ J2 22 i = J1 22 i ∧ I2 27 i = I1 27 i), ⟨12, rfl, rfl, 0, by omega, rfl, rfl, hR0.symm, fun _ _ => rfl, fun _ _ _ => rfl, fun h hh => absurd hh (Nat.not_lt_zero _), fun _ _ => ⟨rfl, rfl, rfl⟩⟩, ?_⟩
  rintro n I2 J2 S2 L2 y x ⟨rfl, rfl, k, hk, rfl, rfl, hR, p1, p2, p3, p4⟩
  refine ⟨fun hc1 => ?_, fun hc1 => ?_⟩
  · have hk12 : k = 12 := by
      have := (nI_leI (a := 12) (by omega) (by omega)).mp hc1
      omega
    subst hk12
    rw [Nat.sub_self, ocF_0] at hR
    subst hR
    refine ⟨fun n I' J' S' L' y x => I' = I2 ∧ S' = S2 ∧ L' = L2 ∧ y = R ∧ ∃ k, k ≤ 24 ∧ x = nI k ∧ n = 24 - k ∧ (∀ n, n ≠ 23 → n ≠ 24 → J' n = J2 n) ∧ (∀ i, i < k → J' 23 i = J2 23 (24 + i) ∧ J' 24 i = J2 24 (24 + i)) ∧ (∀ i, k ≤ i → J' 23 i = J2 23 i ∧ J' 24 i = J2 24 i), ⟨24, rfl, rfl, rfl, rfl, 0, by omega, rfl, rfl, fun _ _ _ => rfl, fun h hh => absurd hh (Nat.not_lt_zero _), fun _ _ => ⟨rfl, rfl⟩⟩, ?_⟩
    rintro n I3 J3 S3 L3 y x ⟨rfl, rfl, rfl, rfl, k2, hk2, rfl, rfl, q1, q2, q3⟩
    refine ⟨fun hc2 => ?_, fun hc2 => ?_⟩
    · have hk24 : k2 = 24 := by
        have := (nI_leI (a := 24) (by omega) (by omega)).mp hc2
        omega
      subst hk24
      refine ⟨fun n I' J' S' L' z x => I' = I3 ∧ S' = S3 ∧ L' = L3 ∧ z = y ∧ ∃ k, k ≤ 960 ∧ x = nI k ∧ n = 960 - k ∧ (∀ n, n ≠ 25 → J' n = J3 n) ∧ (∀ i, i < k → J' 25 i = J3 25 (960 + i)) ∧ (∀ i, k ≤ i → J' 25 i = J3 25 i), ⟨960, rfl, rfl, rfl, rfl, 0, by omega, rfl, rfl, fun _ _ => rfl, fun h hh => absurd hh (Nat.not_lt_zero _), fun _ _ => rfl⟩, ?_⟩
      rintro n I4 J4 S4 L4 z x ⟨rfl, rfl, rfl, rfl, k3, hk3, rfl, rfl, r1, r2, r3⟩
      refine ⟨fun hc3 => ⟨vp_in_nI (n := 1) (by omega) (by omega), vp_in_nI (n := 0) (by omega) (by omega), fun J5 e5 S5 eS5 => ?_⟩, fun hc3 => ?_⟩
      · have hk96 : k3 = 960 := by
          have := (nI_leI (a := 960) (by omega) (by omega)).mp hc3
          omega
        subst hk96
        have e5' : J5 = va_up J4 28 (vp_updL (J4 28) 0 (J4 28 1)) := e5
        have o5 : ∀ n, n ≠ 28 → J5 n = J4 n := fun n hn => by rw [e5', va_up_ne _ _ hn]
        obtain ⟨⟨m1, m2, m3, m4⟩, m5, m6, m7⟩ := id a1
        obtain ⟨⟨l1, l2, l3, l4⟩, l5, l6, l7⟩ := id hP'
        obtain ⟨g1, g2, g3, g4, g5, g6, g7, g8⟩ := a3
        obtain ⟨w1, w2, w3, w4, w5⟩ := g4 (by omega)
        refine hf I4 J5 S5 (fun Jn hJ => ⟨⟨fun h hh => ?_, fun n hn => ?_, fun n hn h2 => ?_, fun n t hn ht => ?_⟩, fun h hh => ?_, fun h t hh ht => ?_, fun h hh => ?_⟩) ?_ (fun n hn => (p1 n (by omega)).trans (g1 n hn)) ⟨(p1 33 (by omega)).trans w1, (p1 34 (by omega)).trans w2, (p1 35 (by omega)).trans w3, ?_, ?_⟩ (fun j h2 h5 => ?_) ?_
        · rw [o5 21 (by omega), r1 21 (by omega), q1 21 (by omega) (by omega), (hJ.1 h hh).1, show 12 * 0 + h = h by omega, (p3 h hh).1, lg_swap]
          have := l1 h hh
          rw [show 12 * 0 + h = h by omega] at this
          rw [this]
          have := l5 h hh
          rw [show 12 * 0 + h = h by omega] at this
          rw [this, show 12 + h = 12 * 1 + h by omega, m5 h hh, hfv]
        · rw [o5 23 (by omega), r1 23 (by omega), show 24 * 0 + n = n by omega, (q2 n hn).1, p2 23 (by omega) (by omega), show 24 + n = 24 * 1 + n by omega, m2 n hn, (hJ.2.1 n hn).1]
        · rw [o5 24 (by omega), r1 24 (by omega), show 24 * 0 + n = n by omega, (q2 n hn).2, p2 24 (by omega) (by omega), show 24 + n = 24 * 1 + n by omega, m3 n hn h2, (hJ.2.1 n hn).2]
        · rw [o5 25 (by omega), show (0 * 24 + n) * 40 + t = n * 40 + t by omega, r2 _ (by omega), q1 25 (by omega) (by omega), p2 25 (by omega) (by omega), show 960 + (n * 40 + t) = (1 * 24 + n) * 40 + t by omega, m4 n t hn ht, hJ.2.2 _ (by omega)]
        · rw [o5 22 (by omega), r1 22 (by omega), q1 22 (by omega) (by omega), show 12 * 0 + h = h by omega, (p3 h hh).2.1, show 12 + h = 12 * 1 + h by omega, m5 h hh, (hJ.1 h hh).2.1]
        · rw [p1 26 (by omega)]
          exact l6 h t hh ht
        · rw [show 12 * 0 + h = h by omega, (p3 h hh).2.2, show 12 + h = 12 * 1 + h by omega, m7 h hh, (hJ.1 h hh).2.2]
        · rw [e5', va_up_self, pk_uLs, r1 28 (by omega), q1 28 (by omega) (by omega), p2 28 (by omega) (by omega)]
          exact a2
        · rw [o5 36 (by omega), r1 36 (by omega), q1 36 (by omega) (by omega), p2 36 (by omega) (by omega)]
          exact w4
        · rw [o5 37 (by omega), r1 37 (by omega), q1 37 (by omega) (by omega), p2 37 (by omega) (by omega)]
          exact w5
        · rw [eS5, va_up_ne _ _ h5]
          by_cases g3 : j = 3
          · rw [g3]
            exact a4.2 (by omega)
          · exact a4.1 j h2 g3
        · rw [eS5, va_up_self, a4.1 5 (by omega) (by omega)]
      · have hk4 : k3 < 960 := nI_nleN (N := 960) (by omega) hk3 hc3
        have e9 : (960 : Int32) + nI k3 = nI (960 + k3) := by rw [show (960 : Int32) = nI 960 from rfl, nI_add]
        rw [e9, clN (show k3 < 2 ^ 31 by omega), clN (show 960 + k3 < 2 ^ 31 by omega)]
        refine ⟨vp_in_nI (by omega) (by omega), vp_in_nI (by omega) (by omega), fun J5 e5 x ex => ⟨960 - (k3 + 1), by omega, rfl, rfl, rfl, rfl, k3 + 1, by omega, by rw [ex]; exact nI_1 k3, rfl, fun n hn => by rw [e5, va_up_ne _ _ hn]; exact r1 n hn, fun i hi => ?_, fun i hi => ?_⟩⟩
        · rw [e5, va_up_self]
          by_cases g0 : i = k3
          · rw [g0, pk_uLs, r3 _ (by omega)]
          · rw [pk_uLn g0]
            exact r2 i (by omega)
        · rw [e5, va_up_self, pk_uLn (by omega)]
          exact r3 i (by omega)
    · have hk4 : k2 < 24 := nI_nleN (N := 24) (by omega) hk2 hc2
      have e9 : (24 : Int32) + nI k2 = nI (24 + k2) := by rw [show (24 : Int32) = nI 24 from rfl, nI_add]
      rw [e9, clN (show k2 < 2 ^ 31 by omega), clN (show 24 + k2 < 2 ^ 31 by omega)]
      have w1 : vp_in (nI (24 + k2)) 48 := vp_in_nI (by omega) (by omega)
      have w2 : vp_in (nI k2) 48 := vp_in_nI (by omega) (by omega)
      refine ⟨w1, w2, fun J5 e5 => ⟨w1, w2, fun J6 e6 x ex => ⟨24 - (k2 + 1), by omega, rfl, rfl, rfl, rfl, k2 + 1, by omega, by rw [ex]; exact nI_1 k2, rfl, fun n h3 h4 => by rw [e6, va_up_ne _ _ h4, e5, va_up_ne _ _ h3]; exact q1 n h3 h4, fun i hi => ?_, fun i hi => ?_⟩⟩⟩
      · rw [e6, va_up_ne _ _ (by omega), va_up_self, e5, va_up_self, va_up_ne _ _ (by omega)]
        by_cases g0 : i = k2
        · rw [g0, pk_uLs, pk_uLs, (q3 _ (by omega)).1, (q3 _ (by omega)).2]
          exact ⟨rfl, rfl⟩
        · rw [pk_uLn g0, pk_uLn g0]
          exact q2 i (by omega)
      · rw [e6, va_up_ne _ _ (by omega), va_up_self, e5, va_up_self, va_up_ne _ _ (by omega), pk_uLn (by omega), pk_uLn (by omega)]
        exact q3 i (by omega)
  have hk2 : k < 12 := nI_nleN (N := 12) (by omega) hk hc1
  unfold wp_X8_owed
  refine n2_worthP (l := 1) (D := g.1 29) (Ja := g.2.1) (by omega) hk2 (fun h t hh ht => by rw [p1 26 (by omega)]; exact a1.2.2.1 h t hh ht) (by rw [(p4 (12 * 1 + k) (by omega)).1]; exact a1.1.1 k hk2) (by rw [(p4 (12 * 1 + k) (by omega)).2.1]; exact a1.2.1 k hk2) ?_
  refine n2_worthP (l := 0) (D := D) (Ja := Ja) (by omega) hk2 (fun h t hh ht => by rw [p1 26 (by omega)]; exact hP'.2.2.1 h t hh ht) (by rw [(p4 (12 * 0 + k) (by omega)).1]; exact hP'.1.1 k hk2) (by rw [(p4 (12 * 0 + k) (by omega)).2.1]; exact hP'.2.1 k hk2) ?_
  rw [hfv]
  rw [show 12 - k = (12 - (k + 1)) + 1 by omega] at hR
  rw [ocF_s] at hR
  refine ⟨fun I3 J3 S3 L3 x v s s2 => I3 = I2 ∧ J3 = J2 ∧ S3 = S2 ∧ L3 = L2 ∧ x = nI k ∧ v = f k ∧ s + s2 = (if f k = 0 then y else y + 1), ?_, fun e => ⟨rfl, rfl, rfl, rfl, rfl, rfl, ?_⟩, fun e => ⟨rfl, rfl, rfl, rfl, rfl, rfl, ?_⟩⟩
  · rintro I3 J3 S3 L3 x v s s2 ⟨rfl, rfl, rfl, rfl, rfl, rfl, hs⟩ x2 ex2
    have e9 : (12 : Int32) + nI k = nI (12 + k) := by rw [show (12 : Int32) = nI 12 from rfl, nI_add]
    rw [e9, clN (show k < 2 ^ 31 by omega), clN (show 12 + k < 2 ^ 31 by omega)]
    have w1 : vp_in (nI (12 + k)) 24 := vp_in_nI (by omega) (by omega)
    have w2 : vp_in (nI k) 24 := vp_in_nI (by omega) (by omega)
    refine ⟨w2, w2, w1, w2, fun J5 e5 => ⟨w1, w2, fun J6 e6 => ⟨w1, w2, fun I7 e7 x ex => ⟨12 - (k + 1), by omega, rfl, rfl, k + 1, by omega, by rw [ex]; exact nI_1 k, rfl, by rw [ex2, hs]; exact hR, fun n hn => by rw [e7, va_up_ne _ _ hn]; exact p1 n hn, fun n h1 h2 => by rw [e6, va_up_ne _ _ h2, e5, va_up_ne _ _ h1]; exact p2 n h1 h2, fun h hh => ?_, fun i hi => ?_⟩⟩⟩⟩
    · rw [e7, va_up_self, e6, va_up_ne _ _ (by omega), va_up_self, e5, va_up_self, va_up_ne _ _ (by omega)]
      by_cases g0 : h = k
      · rw [g0, pk_uLs, pk_uLs, pk_us, (p4 k (Nat.le_refl _)).1, (p4 k (Nat.le_refl _)).2.1, (p4 (12 + k) (by omega)).2.1, (p4 (12 + k) (by omega)).2.2]
        exact ⟨rfl, rfl, rfl⟩
      · rw [pk_uLn g0, pk_uLn g0, pk_un g0]
        exact p3 h (by omega)
    · rw [e7, va_up_self, e6, va_up_ne _ _ (by omega), va_up_self, e5, va_up_self, va_up_ne _ _ (by omega), pk_uLn (by omega), pk_uLn (by omega), pk_un (by omega)]
      exact p4 i (by omega)
  · have : f k = 0 := vx_eq (lgc_eq.mp e)
    rw [if_pos this, Int32.add_zero]
  · have : ¬ f k = 0 := fun z => e (lgc_eq.mpr (by rw [z]))
    rw [if_neg this]
end
