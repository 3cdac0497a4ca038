/-- ledger l of the reference is (D, J) -/
def MP (l : Nat) (X : TI) (D : Nat → Int32) (J : TJ) (Im : TI) (Jm : TJ) : Prop := MV l X J Jm ∧ (∀ h, h < 12 → Jm 22 (12 * l + h) = J 27 h) ∧ (∀ h t, h < 12 → t < 40 → Im 26 ((l * 12 + h) * 40 + t) = D (h * 40 + t)) ∧ (∀ h, h < 12 → (Im 27 (12 * l + h)).toInt64 = J 28 h)
/-- what the other ledger keeps -/
def MG (l : Nat) (Im Im' : TI) (Jm Jm' : TJ) : Prop := (∀ n, n < 26 ∨ 36 ≤ n → Im' n = Im n) ∧ (∀ i, ¬ (480 * l ≤ i ∧ i < 480 * l + 480) → Im' 26 i = Im 26 i) ∧ (∀ i, ¬ (12 * l ≤ i ∧ i < 12 * l + 12) → Im' 27 i = Im 27 i ∧ Jm' 21 i = Jm 21 i ∧ Jm' 22 i = Jm 22 i) ∧ (l ≠ 0 → Im' 33 = Im 33 ∧ Im' 34 = Im 34 ∧ Im' 35 = Im 35 ∧ Jm' 36 = Jm 36 ∧ Jm' 37 = Jm 37) ∧ (∀ k, k ≠ 21 → k ≠ 22 → k ≠ 23 → k ≠ 24 → k ≠ 25 → k ≠ 28 → k ≠ 32 → k ≠ 36 → k ≠ 37 → Jm' k = Jm k) ∧ (∀ i, ¬ (24 * l ≤ i ∧ i < 24 * l + 24) → Jm' 23 i = Jm 23 i ∧ Jm' 24 i = Jm 24 i) ∧ (∀ i, ¬ (960 * l ≤ i ∧ i < 960 * l + 960) → Jm' 25 i = Jm 25 i) ∧ (∀ i, i ≠ l → Jm' 28 i = Jm 28 i)
theorem MG.rf {l : Nat} {I : TI} {J : TJ} : MG l I I J J := ⟨fun _ _ => rfl, fun _ _ => rfl, fun _ _ => ⟨rfl, rfl, rfl⟩, fun _ => ⟨rfl, rfl, rfl, rfl, rfl⟩, fun _ _ _ _ _ _ _ _ _ _ => rfl, fun _ _ => ⟨rfl, rfl⟩, fun _ _ => rfl, fun _ _ => rfl⟩
theorem MG.tr {l : Nat} {I I1 I2 : TI} {J J1 J2 : TJ} (a : MG l I I1 J J1) (b : MG l I1 I2 J1 J2) : MG l I I2 J J2 := by
  obtain ⟨a1, a2, a3, a4, a5, a6, a7, a8⟩ := a
  obtain ⟨b1, b2, b3, b4, b5, b6, b7, b8⟩ := b
  exact ⟨fun n h => (b1 n h).trans (a1 n h), fun i h => (b2 i h).trans (a2 i h), fun i h => ⟨(b3 i h).1.trans (a3 i h).1, (b3 i h).2.1.trans (a3 i h).2.1, (b3 i h).2.2.trans (a3 i h).2.2⟩, fun h => ⟨(b4 h).1.trans (a4 h).1, (b4 h).2.1.trans (a4 h).2.1, (b4 h).2.2.1.trans (a4 h).2.2.1, (b4 h).2.2.2.1.trans (a4 h).2.2.2.1, (b4 h).2.2.2.2.trans (a4 h).2.2.2.2⟩, fun k h1 h2 h3 h4 h5 h6 h7 h8 h9 => (b5 k h1 h2 h3 h4 h5 h6 h7 h8 h9).trans (a5 k h1 h2 h3 h4 h5 h6 h7 h8 h9), fun i h => ⟨(b6 i h).1.trans (a6 i h).1, (b6 i h).2.trans (a6 i h).2⟩, fun i h => (b7 i h).trans (a7 i h), fun i h => (b8 i h).trans (a8 i h)⟩
theorem MG.of {l : Nat} {I I' : TI} {J J' : TJ} (a : MFi l I I') (b : MFr l J J') : MG l I I' J J' := ⟨fun n h => a.1 n (by omega), fun i _ => by rw [a.1 26 (by omega)], fun i h => ⟨by rw [a.1 27 (by omega)], b.2.1 i h, by rw [b.1 22 (by omega) (by omega) (by omega) (by omega) (by omega) (by omega) (by omega) (by omega)]⟩, fun h => ⟨(a.2 h).1, (a.2 h).2.1, (a.2 h).2.2, (b.2.2.2.2.2 h).1, (b.2.2.2.2.2 h).2⟩, fun k h1 _ h3 h4 h5 h6 h7 h8 h9 => b.1 k h1 h3 h4 h5 h6 h7 h8 h9, b.2.2.1, b.2.2.2.1, b.2.2.2.2.1⟩
section
variable {X I : TI} {J : TJ} {S : TS} {L : TL}
theorem pyC_0 {Ja : TJ} {h : Nat} (q : (Ja 26 h).toInt < 1000000) : pyC Ja h = 0 := by
  refine vx_eq ?_
  have hc := pyC_v (J := Ja) (h := h)
  rw [vx_0]
  rcases Int.lt_or_le (Ja 26 h).toInt 0 with z | z
  · exact hc.2 z
  · rw [hc.1 z]; omega
theorem pyC_1 {Ja : TJ} {h : Nat} (q : 1000000 ≤ (Ja 26 h).toInt) : pyC Ja h = Ja 26 h / 1000000 := by
  have h0 := vx_0
  have e := (vx_d6 (x := Ja 26 h)).1 (by omega)
  unfold pyC
  rw [if_neg (fun g => by have := vx_lt.mp g; omega)]
set_option maxHeartbeats 1000000 in
theorem n2_pays {l t h : Nat} {D : Nat → Int32} {Ja : TJ} {Lo U : Int} {κ : Bool} {Φ : TI → TJ → TS → TL → Prop} (hl : l < 2) (ht : t < 40) (hh : h < 12) (hA : AB Lo κ U D Ja) (hU : U ≤ 2000000000000000) (h0 : D (h * 40 + t) = 0) (hP : MP l X D Ja I J) (hf : ∀ (I' : TI) (J' : TJ), MP l X (upd D (h * 40 + t) (pyC (pyA Ja h) h).toInt32) (pyJ (pyA Ja h) h) I' J' → MG l I I' J J' → (∀ k, k ≠ 26 → I' k = I k) → (∀ k, k ≠ 21 → k ≠ 22 → J' k = J k) → Φ I' J' S L) : wp_X8_pays I J S L (nI l) (nI t) (nI h) Φ := by
  obtain ⟨-, c0, c1, c2, c3, c4⟩ := AB_py1 hA hU hh ht h0
  obtain ⟨hV, hDb, hDu, hFi⟩ := hP
  have e21 := hV.1 h hh
  have e22 := hDb h hh
  have z0 := vx_0
  unfold wp_X8_pays
  rw [e12]
  intro x hx
  subst hx
  have hv : vp_in (nI (12 * l + h)) 24 := vp_in_nI (by omega) (by omega)
  rw [clN (show 12 * l + h < 2 ^ 31 by omega), e21, e22]
  refine ⟨hv, fun I2 J2 S2 L2 x => I2 = I ∧ S2 = S ∧ L2 = L ∧ x = nI (12 * l + h) ∧ J2 21 (12 * l + h) = pyA Ja h 26 h ∧ J2 22 (12 * l + h) = pyA Ja h 27 h ∧ (∀ k, k ≠ 21 → k ≠ 22 → J2 k = J k) ∧ (∀ i, i ≠ 12 * l + h → J2 21 i = J 21 i ∧ J2 22 i = J 22 i), ?_, fun hd => ⟨rfl, rfl, rfl, rfl, ?_, ?_, fun _ _ _ => rfl, fun _ _ => ⟨rfl, rfl⟩⟩, fun hd => ⟨hv, fun hp => ⟨rfl, rfl, rfl, rfl, ?_, ?_, fun _ _ _ => rfl, fun _ _ => ⟨rfl, rfl⟩⟩, fun hp => ⟨hv, hv, ?_⟩⟩⟩
  · rintro I2 J2 S2 L2 x ⟨rfl, rfl, rfl, rfl, q1, q2, q3, q4⟩
    rw [clN (show 12 * l + h < 2 ^ 31 by omega), q1]
    refine ⟨hv, fun I3 J3 S3 L3 x s => I3 = I2 ∧ J3 = J2 ∧ S3 = S2 ∧ L3 = L2 ∧ x = nI (12 * l + h) ∧ s = (pyC (pyA Ja h) h).toInt32, ?_, fun hc => ⟨hv, rfl, rfl, rfl, rfl, rfl, ?_⟩, fun hc => ⟨rfl, rfl, rfl, rfl, rfl, ?_⟩⟩
    · rintro I3 J3 S3 L3 x s ⟨rfl, rfl, rfl, rfl, rfl, rfl⟩
      unfold wp_X8_dueAt
      rw [edue]
      dsimp only
      rw [clN (show 12 * l + h < 2 ^ 31 by omega), clN (show (l * 12 + h) * 40 + t < 2 ^ 31 by omega), q1]
      refine ⟨vp_in_nI (by omega) (by omega), fun I4 e4 => ⟨hv, hv, fun J4 e5 => ?_⟩⟩
      have ec : (pyC (pyA Ja h) h).toInt32.toInt64 = pyC (pyA Ja h) h := vx_eq (by rw [Int32.toInt_toInt64, c2])
      rw [ec] at e5
      have f21 : ∀ i, J4 21 i = if i = 12 * l + h then pyA Ja h 26 h - pyC (pyA Ja h) h * 1000000 else J 21 i := by
        intro i
        rw [e5, va_up_self]
        by_cases g : i = 12 * l + h
        · rw [if_pos g, g, pk_uLs]
        · rw [if_neg g, pk_uLn g, (q4 i g).1]
      have f22 : ∀ i, J4 22 i = if i = 12 * l + h then pyA Ja h 27 h else J 22 i := by
        intro i
        rw [e5, va_up_ne _ _ (by omega)]
        by_cases g : i = 12 * l + h
        · rw [if_pos g, g, q2]
        · rw [if_neg g, (q4 i g).2]
      have fo : ∀ k, k ≠ 21 → k ≠ 22 → J4 k = J k := fun k a b => by rw [e5, va_up_ne _ _ a, q3 k a b]
      have fI : ∀ k, k ≠ 26 → I4 k = I3 k := fun k a => by rw [e4, va_up_ne _ _ a]
      have f26 : I4 26 = upd (I3 26) ((l * 12 + h) * 40 + t) (pyC (pyA Ja h) h).toInt32 := by rw [e4, va_up_self]
      refine hf I4 J4 ⟨⟨fun k hk => ?_, fun k hk => ?_, fun k hk h2 => ?_, fun k u hk hu => ?_⟩, fun k hk => ?_, fun k u hk hu => ?_, fun k hk => ?_⟩ ⟨fun n hn => fI n (by omega), fun i hi => by rw [f26, pk_un (by omega)], fun i hi => ⟨by rw [fI 27 (by omega)], by rw [f21 i, if_neg (by omega)], by rw [f22 i, if_neg (by omega)]⟩, fun _ => ⟨fI 33 (by omega), fI 34 (by omega), fI 35 (by omega), fo 36 (by omega) (by omega), fo 37 (by omega) (by omega)⟩, fun k h1 h2 _ _ _ _ _ _ _ => fo k h1 h2, fun i _ => ⟨by rw [fo 23 (by omega) (by omega)], by rw [fo 24 (by omega) (by omega)]⟩, fun i _ => by rw [fo 25 (by omega) (by omega)], fun i _ => by rw [fo 28 (by omega) (by omega)]⟩ fI fo
      · rw [f21]
        unfold pyJ
        rw [va_up_self]
        by_cases g : k = h
        · rw [if_pos (by omega), g, pk_uLs]
        · rw [if_neg (by omega), pk_uLn g, (pyA_n g).1]
          exact hV.1 k hk
      · rw [fo 23 (by omega) (by omega)]
        unfold pyJ
        rw [va_up_ne _ _ (by omega), pyA_o (by omega) (by omega)]
        exact hV.2.1 k hk
      · rw [fo 24 (by omega) (by omega)]
        unfold pyJ
        rw [va_up_ne _ _ (by omega), pyA_o (by omega) (by omega)]
        exact hV.2.2.1 k hk h2
      · rw [fo 25 (by omega) (by omega)]
        unfold pyJ
        rw [va_up_ne _ _ (by omega), pyA_o (by omega) (by omega)]
        exact hV.2.2.2 k u hk hu
      · rw [f22]
        unfold pyJ
        rw [va_up_ne _ _ (by omega)]
        by_cases g : k = h
        · rw [if_pos (by omega), g]
        · rw [if_neg (by omega), (pyA_n g).2]
          exact hDb k hk
      · rw [f26]
        by_cases g : k * 40 + u = h * 40 + t
        · have g1 : k = h := by omega
          have g2 : u = t := by omega
          subst g1 g2
          rw [pk_us, pk_us]
        · rw [pk_un g, pk_un (by omega)]
          exact hDu k u hk hu
      · rw [fI 27 (by omega)]
        unfold pyJ
        rw [va_up_ne _ _ (by omega), pyA_o (by omega) (by omega)]
        exact hFi k hk
    · have hc := lgc_ge.mp hc
      rw [show ((1000000 : Int64)).toInt = 1000000 by decide] at hc
      rw [pyC_1 hc]
    · have hc : ¬ ((1000000 : Int64)).toInt ≤ (pyA Ja h 26 h).toInt := fun q => hc (lgc_ge.mpr q)
      rw [show ((1000000 : Int64)).toInt = 1000000 by decide] at hc
      rw [pyC_0 (by omega)]
      decide
  · rw [e21]; unfold pyA; rw [if_pos hd]
  · rw [e22]; unfold pyA; rw [if_pos hd]
  · rw [e21]; unfold pyA; rw [if_neg hd, if_pos hp]
  · rw [e22]; unfold pyA; rw [if_neg hd, if_pos hp]
  · have eA : pyA Ja h = pyB Ja h (if Ja 26 h < Ja 27 h then Ja 26 h else Ja 27 h) := by unfold pyA; rw [if_neg hd, if_neg hp]
    refine ⟨fun I3 J3 S3 L3 x s => I3 = I ∧ J3 = J ∧ S3 = S ∧ L3 = L ∧ x = nI (12 * l + h) ∧ s = (if Ja 26 h < Ja 27 h then Ja 26 h else Ja 27 h), ?_, fun hc => ⟨hv, rfl, rfl, rfl, rfl, rfl, ?_⟩, fun hc => ⟨hv, rfl, rfl, rfl, rfl, rfl, ?_⟩⟩
    · rintro I3 J3 S3 L3 x s ⟨rfl, rfl, rfl, rfl, rfl, rfl⟩
      rw [clN (show 12 * l + h < 2 ^ 31 by omega), e21]
      refine ⟨hv, hv, fun J4 e4 => ⟨hv, hv, fun J5 e5 => ⟨rfl, rfl, rfl, rfl, ?_, ?_, fun k a b => by rw [e5, va_up_ne _ _ b, e4, va_up_ne _ _ a], fun i hi => ⟨by rw [e5, va_up_ne _ _ (by omega), e4, va_up_self, pk_uLn hi], by rw [e5, va_up_self, pk_uLn hi, e4, va_up_ne _ _ (by omega)]⟩⟩⟩⟩
      · rw [eA, e5, va_up_ne _ _ (by omega), e4, va_up_self, pk_uLs]
        unfold pyB
        rw [va_up_ne _ _ (by omega), va_up_self, pk_uLs]
      · rw [eA, e5, va_up_self, pk_uLs, e4, va_up_ne _ _ (by omega), e22]
        unfold pyB
        rw [va_up_self, pk_uLs, va_up_ne _ _ (by omega)]
    · have hc := lgc_ge.mp hc
      by_cases g : Ja 26 h < Ja 27 h
      · have := vx_lt.mp g
        omega
      · rw [if_neg g]
    · have hc : ¬ (Ja 27 h).toInt ≤ (Ja 26 h).toInt := fun q => hc (lgc_ge.mpr q)
      rw [if_pos (vx_lt.mpr (by omega))]
set_option maxHeartbeats 1000000 in
theorem n2_fills {l t n b : Nat} {D : Nat → Int32} {Ja : TJ} {F : Int} {g : TI × TJ} {Φ : TI → TJ → TS → TL → Prop} (hM : BM X I) (hB : BgX b X) (hb : b ≤ 24) (hn : n < b) (h2 : X 6 n = 2) (hl : l < 2) (ht : t < 40) (h3 : 3 ≤ t) (hF : F ≤ 1000000000) (hfl : FL F g.2) (hD : ∀ h u, h < 12 → u < 40 → 0 ≤ (g.1 29 (h * 40 + u)).toInt) (hP : MP l X (g.1 29) g.2 I J) (hf : ∀ (I' : TI), MP l X ((flS X t g n).1 29) (flS X t g n).2 I' J → MG l I I' J J → (∀ k, k ≠ 26 → k ≠ 27 → I' k = I k) → Φ I' J S L) : wp_X8_fills I J S L (nI l) (nI t) (nI n) Φ := by
  obtain ⟨hV, hDb, hDu, hFi⟩ := hP
  have hs := fl_sm hB hn h2
  have hw := (hB n hn).1
  obtain ⟨q0, q1, q2⟩ := flL_r (D := g.1 29) hs hw ht h3 hD
  obtain ⟨hN, hhN, ehN⟩ := W12_cases hw
  have hx := Sm_r hs
  have z0 := vx_0
  unfold wp_X8_fills
  rw [clN (show n < 2 ^ 31 by omega), hM.2.1, ehN]
  have hvn : vp_in (nI n) 24 := vp_in_nI (by omega) (by omega)
  refine ⟨hvn, fun x1 ex1 x2 ex2 => ?_⟩
  rw [show (3 : Int32) = nI 3 from rfl, pk_sub h3] at ex2
  subst ex1 ex2
  have hy := ds_r (D := g.1 29) (h := hN) (fun u hu => hD hN u hhN hu) 4 (t - 3) 0 (by omega) (by omega) (by omega)
  have eL : flL X (g.1 29) t n = if (X 10 n).toInt64 - dsF (g.1 29) hN 4 (t - 3) 0 < 0 then 0 else (X 10 n).toInt64 - dsF (g.1 29) hN 4 (t - 3) 0 := by
    unfold flL
    rw [ehN, clN (show hN < 2 ^ 31 by omega)]
  generalize hR0 : dsF (g.1 29) hN 4 (t - 3) 0 = R at eL hy
  have e29 : (flS X t g n).1 29 = upd (g.1 29) (hN * 40 + t) (g.1 29 (hN * 40 + t) + (flL X (g.1 29) t n).toInt32) := by
    unfold flS
    rw [ehN, clN (show hN < 2 ^ 31 by omega)]
    dsimp only
    rw [va_up_self]
  have e28 : (flS X t g n).2 28 = vp_updL (g.2 28) hN (g.2 28 hN + flL X (g.1 29) t n) := by
    unfold flS
    rw [ehN, clN (show hN < 2 ^ 31 by omega)]
    dsimp only
    rw [va_up_self]
  have eo : ∀ k, k ≠ 28 → (flS X t g n).2 k = g.2 k := fun k hk => va_up_ne _ _ hk
  have eR : ((X 10 n).toInt64 - R).toInt = (X 10 n).toInt - R.toInt := by
    rw [vx_sb, Int32.toInt_toInt64]
    · rw [Int32.toInt_toInt64]; omega
    · rw [Int32.toInt_toInt64]; omega
  refine ⟨fun m I' J' S' L' a y x => I' = I ∧ J' = J ∧ S' = S ∧ L' = L ∧ a = nI hN ∧ ∃ k, t - 3 ≤ k ∧ k ≤ t + 1 ∧ x = nI k ∧ m = t + 1 - k ∧ R = dsF (g.1 29) hN (t + 1 - k) k y, ⟨4, rfl, rfl, rfl, rfl, rfl, t - 3, by omega, by omega, rfl, by omega, by rw [show t + 1 - (t - 3) = 4 by omega]; exact hR0.symm⟩, ?_⟩
  rintro m I' J' S' L' a y x ⟨rfl, rfl, rfl, rfl, rfl, k, hk1, hk2, rfl, rfl, hR⟩
  rw [hM.2.2.2.2.1]
  refine ⟨fun hc => ⟨hvn, fun hlt => ⟨hvn, fun x13 e13 => ?_⟩, fun hlt => ?_⟩, fun hc => ?_⟩
  · have hkt : k = t + 1 := by
      have := (nI_ltI (by omega) (by omega)).mp hc
      omega
    rw [hkt, Nat.sub_self] at hR
    have hR : R = y := hR
    subst hR
    have hlt : R.toInt < (X 10 n).toInt := by
      rcases Int.lt_or_le R.toInt (X 10 n).toInt with q | q
      · exact q
      · exfalso
        have : 0 ≤ lg_cmp R (X 10 n).toInt64 := lgc_ge.mpr (by rw [Int32.toInt_toInt64]; exact q)
        exact absurd hlt (Int32.not_lt.mpr this)
    rw [if_neg (fun z => by have := vx_lt.mp z; omega)] at eL
    rw [← eL] at e13
    subst e13
    unfold wp_X8_dueAt
    rw [edue]
    dsimp only
    rw [clN (show (l * 12 + hN) * 40 + t < 2 ^ 31 by omega), e12, clN (show 12 * l + hN < 2 ^ 31 by omega)]
    have hv9 : vp_in (nI ((l * 12 + hN) * 40 + t)) 960 := vp_in_nI (by omega) (by omega)
    have hv2 : vp_in (nI (12 * l + hN)) 24 := vp_in_nI (by omega) (by omega)
    refine ⟨hv9, hv9, fun I2 e2 => ⟨hv2, hv2, fun I3 e3 => ?_⟩⟩
    have fI : ∀ k, k ≠ 26 → k ≠ 27 → I3 k = I' k := fun k a b => by rw [e3, va_up_ne _ _ b, e2, va_up_ne _ _ a]
    have f26 : I3 26 = upd (I' 26) ((l * 12 + hN) * 40 + t) (I' 26 ((l * 12 + hN) * 40 + t) + (flL X (g.1 29) t n).toInt32) := by rw [e3, va_up_ne _ _ (by omega), e2, va_up_self]
    have f27 : I3 27 = upd (I' 27) (12 * l + hN) (I' 27 (12 * l + hN) + (flL X (g.1 29) t n).toInt32) := by rw [e3, va_up_self, e2, va_up_ne _ _ (by omega)]
    refine hf I3 ⟨hV.same (eo 26 (by omega)) (eo 30 (by omega)) (eo 31 (by omega)) (eo 32 (by omega)) rfl rfl rfl rfl, fun k hk => by rw [eo 27 (by omega)]; exact hDb k hk, fun k u hk hu => ?_, fun k hk => ?_⟩ ⟨fun n hn => fI n (by omega) (by omega), fun i hi => by rw [f26, pk_un (by omega)], fun i hi => ⟨by rw [f27, pk_un (by omega)], rfl, rfl⟩, fun _ => ⟨fI 33 (by omega) (by omega), fI 34 (by omega) (by omega), fI 35 (by omega) (by omega), rfl, rfl⟩, fun _ _ _ _ _ _ _ _ _ _ => rfl, fun _ _ => ⟨rfl, rfl⟩, fun _ _ => rfl, fun _ _ => rfl⟩ fI
    · rw [f26, e29]
      by_cases gk : k * 40 + u = hN * 40 + t
      · have g1 : k = hN := by omega
        have g2 : u = t := by omega
        subst g1 g2
        rw [pk_us, pk_us, hDu k u hk hu]
      · rw [pk_un gk, pk_un (by omega)]
        exact hDu k u hk hu
    · rw [f27, e28]
      by_cases gk : k = hN
      · subst gk
        rw [pk_us, pk_uLs]
        have e := hFi k hk
        have b1 := hfl k hk
        have e' : (I' 27 (12 * l + k)).toInt = (g.2 28 k).toInt := by rw [← e, Int32.toInt_toInt64]
        refine vx_eq ?_
        rw [Int32.toInt_toInt64, Int32.toInt_add, q2, e', Int.bmod_eq_of_le (by omega) (by omega), vx_ad (by omega) (by omega)]
      · rw [pk_un (by omega), pk_uLn gk]
        exact hFi k hk
  · have hkt : k = t + 1 := by
      have := (nI_ltI (by omega) (by omega)).mp hc
      omega
    rw [hkt, Nat.sub_self] at hR
    have hR : R = y := hR
    subst hR
    have hge : (X 10 n).toInt ≤ R.toInt := by
      rcases Int.lt_or_le R.toInt (X 10 n).toInt with q | q
      · exfalso
        refine hlt (Int32.not_le.mp (fun z => ?_))
        have := lgc_ge.mp z
        rw [Int32.toInt_toInt64] at this
        omega
      · exact q
    have eL0 : flL X (g.1 29) t n = 0 := by
      rw [eL]
      by_cases z : (X 10 n).toInt64 - R < 0
      · rw [if_pos z]
      · rw [if_neg z]
        have : ¬ ((X 10 n).toInt64 - R).toInt < (0 : Int64).toInt := fun q => z (vx_lt.mpr q)
        exact vx_eq (by omega)
    have d29 : (flS X t g n).1 29 = g.1 29 := by
      rw [e29, eL0]
      funext i
      by_cases gi : i = hN * 40 + t
      · rw [gi, pk_us, show ((0 : Int64)).toInt32 = 0 by decide, Int32.add_zero]
      · rw [pk_un gi]
    have d28 : (flS X t g n).2 28 = g.2 28 := by
      rw [e28, eL0]
      funext i
      by_cases gi : i = hN
      · rw [gi, pk_uLs, Int64.add_zero]
      · rw [pk_uLn gi]
    refine hf I' ⟨hV.same (eo 26 (by omega)) (eo 30 (by omega)) (eo 31 (by omega)) (eo 32 (by omega)) rfl rfl rfl rfl, fun k hk => by rw [eo 27 (by omega)]; exact hDb k hk, fun k u hk hu => by rw [d29]; exact hDu k u hk hu, fun k hk => by rw [d28]; exact hFi k hk⟩ MG.rf (fun _ _ _ => rfl)
  · have hk : k ≤ t := by
      rcases Nat.lt_or_ge t k with q | q
      · exact absurd (nI_lt q (by omega)) hc
      · exact q
    unfold wp_X8_dueAt
    rw [edue]
    dsimp only
    rw [clN (show (l * 12 + hN) * 40 + k < 2 ^ 31 by omega), hDu hN k hhN (by omega)]
    refine ⟨vp_in_nI (by omega) (by omega), fun y2 ey2 x2 ex2 => ⟨t + 1 - (k + 1), by omega, rfl, rfl, rfl, rfl, rfl, k + 1, by omega, by omega, by rw [ex2]; exact nI_1 k, rfl, ?_⟩⟩
    rw [hR, show t + 1 - k = (t + 1 - (k + 1)) + 1 by omega, ey2]
    rfl
end
