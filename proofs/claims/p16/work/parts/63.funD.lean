def rpG (X : TI) (r t b : Nat) (I : TI) (J : TJ) (ci : Int64) : TC := rpF X r t b (X 19 t).toNatClampNeg 0 ((I, J, 0), ci)
def L2 (L L' : TL) : Prop := ∀ j, j ≠ 2 → L' j = L j
def L12 (L L' : TL) : Prop := ∀ j, j ≠ 1 → j ≠ 2 → L' j = L j
def tsM (X : TI) (t n : Nat) (g : TJ × Int64) : Int64 := if g.1 32 (n * 40 + t) < g.2 then g.1 32 (n * 40 + t) else g.2
def tsS (t n : Nat) (m : Int64) (g : TJ × Int64) : TJ × Int64 := (va_up g.1 32 (vp_updL (g.1 32) (n * 40 + t) (g.1 32 (n * 40 + t) - m)), g.2 - m)
/-- of the BAGS of TERM t -/
def tsN (X : TI) (hd : Int32) (t : Nat) : Nat → Nat → TJ × Int64 → TJ × Int64
  | 0, _, g => g
  | j + 1, n, g => tsN X hd t j (n + 1) (if X 6 n = 4 ∧ X 7 n = hd then tsS t n (tsM X t n g) g else g)
def tsT (X : TI) (hd : Int32) (b : Nat) : Nat → Nat → TJ × Int64 → TJ × Int64
  | 0, _, g => g
  | j + 1, t, g => if lg_cmp g.2 0 ≤ 0 then g else tsT X hd b j (t + 1) (tsN X hd t b 0 g)
def dbF (J : TJ) (h : Nat) (y : Int64) : TJ := va_up J 27 (vp_updL (J 27) h (J 27 h + y))
/-- m MITES are SENT BACK by hd -/
def tsF (X : TI) (b c : Nat) (hd : Int32) (m : Int64) (J : TJ) : TJ × Int64 := (dbF (tsT X hd b c 0 (J, m)).1 hd.toNatClampNeg (tsT X hd b c 0 (J, m)).2, (tsT X hd b c 0 (J, m)).2)
/-- what was SENT BACK at a TERM, from number k on -/
def toF (X : TI) (b c : Nat) (p : Int32) : Nat → Nat → TJ × Int64 → TJ × Int64 × Nat
  | 0, k, g => (g.1, g.2, k)
  | j + 1, k, g => if X 24 k = p then toF X b c p j (k + 1) (tsF X b c (X 22 k) ((X 23 k).toInt64 * 1000000) g.1) else (g.1, g.2, k)
/-- books apart, a ledger: dues (29 of the first), the longs, lines, what came in, what lacked, how many SENT were taken -/
abbrev TK : Type := TI × TJ × Nat × Int64 × Int64 × Nat
def toK (X : TI) (b q c : Nat) (p : Int32) (g : TK) : TK := (g.1, (toF X b c p (q - g.2.2.2.2.2) g.2.2.2.2.2 (g.2.1, g.2.2.2.2.1)).1, g.2.2.1, g.2.2.2.1, (toF X b c p (q - g.2.2.2.2.2) g.2.2.2.2.2 (g.2.1, g.2.2.2.2.1)).2.1, (toF X b c p (q - g.2.2.2.2.2) g.2.2.2.2.2 (g.2.1, g.2.2.2.2.1)).2.2)
def clK (X : TI) (r b t : Nat) (g : TK) : TK := ((clQ X t b (clP X t b (rpG X r t b g.1 g.2.1 g.2.2.2.1))).1, (clQ X t b (clP X t b (rpG X r t b g.1 g.2.1 g.2.2.2.1))).2, (rpG X r t b g.1 g.2.1 g.2.2.2.1).1.2.2, (rpG X r t b g.1 g.2.1 g.2.2.2.1).2, g.2.2.2.2)
def rkF (X : TI) (r b q : Nat) : Nat → Nat → TK → TK
  | 0, t, g => toK X b q t (nI t) g
  | j + 1, t, g => rkF X r b q j (t + 1) (clK X r b t (toK X b q t (nI t) g))
section
variable {n0 n1 : Nat} {X I : TI} {J : TJ} {S : TS} {L : TL}
set_option maxRecDepth 100000 in
set_option maxHeartbeats 4000000 in
theorem e_closeTerm {c b : Nat} {Φ : TI → TJ → TS → TL → Prop} (hX : ∀ j, j < 25 → I j = X j) (hB : Bk X S) (hb : b ≤ 24) (h1 : S 1 = nI b) (h3 : S 3 = nI c) (hc : c < 40) (h6 : S 6 = nI n0) (hn0 : n0 < 2 ^ 31) (hf : ∀ (I' : TI) (J' : TJ) (S' : TS) (L' : TL), (∀ j, j < 25 → I' j = X j) → (∀ j, j ≠ 3 → j ≠ 5 → S' j = S j) → S' 3 = nI (c + 1) → S' 5 = nI (rpG X n0 c b I J (L 1)).1.2.2 → (rpG X n0 c b I J (L 1)).1.2.2 ≤ 64908 → Lm L L' → L' 1 = (rpG X n0 c b I J (L 1)).2 → clQ X c b (clP X c b (rpG X n0 c b I J (L 1))) = (I', J') → Φ I' J' S' L') : wp_X2_closeTerm n0 n1 I J S L Φ := by
  obtain ⟨⟨b', hb', h1', hBg⟩, hSt, hQ, hZ⟩ := id hB
  have eb : b' = b := (nI_eq (by omega) (by omega)).mp (h1'.symm.trans h1)
  subst eb
  obtain ⟨z, hz12, ez, hzo⟩ := hZ c hc
  unfold wp_X2_closeTerm
  intro S1 eS1
  have s5 : S1 5 = nI 0 := by rw [eS1]; rfl
  have sj : ∀ j, j ≠ 5 → S1 j = S j := fun j hj => by rw [eS1]; exact va_up_ne _ _ hj
  have hZ0 : ∀ {k : Nat} {I' : TI} {S' : TS}, Zm X S1 k I' S' → (∀ j, j ≠ 5 → S' j = S j) := fun h j hj => (h.2.1 j hj).trans (sj j hj)
  have eR0 : rpG X n0 c b' I J (L 1) = rpF X n0 c b' z 0 ((I, J, 0), L 1) := by
    unfold rpG
    rw [ez, clN (by omega)]
  generalize rpG X n0 c b' I J (L 1) = R at eR0 hf
  refine ⟨fun n I' J' S' L' x => ∃ m N', m ≤ z ∧ x = nI m ∧ n = z - m ∧ Zm X S1 N' I' S' ∧ N' ≤ m * 5409 ∧ Lm L L' ∧ R = rpF X n0 c b' (z - m) m ((I', J', N'), L' 1), ⟨z, 0, 0, by omega, rfl, rfl, ⟨hX, fun _ _ => rfl, s5⟩, by omega, fun _ _ => rfl, eR0⟩, ?_⟩
  rintro n I' J' S' L' x ⟨m, N1, hm, rfl, rfl, hz, hN1, hL, hR⟩
  unfold wp_X4_sizeOf
  have e3 : S' 3 = nI c := (hZ0 hz 3 (by omega)).trans h3
  rw [e3, clN (by omega), hz.1 19 (by omega), ez]
  refine ⟨vp_in_nI hc (by omega), fun hc1 => ?_, fun hc1 => ?_⟩
  · have hm0 : z - m = 0 := by
      have := (nI_leI (by omega) (by omega)).mp hc1
      omega
    rw [hm0] at hR
    have hR : R = ((I', J', N1), L' 1) := hR
    subst hR
    refine e_emptyOldBags hz.1 hb ((hZ0 hz 1 (by omega)).trans h1) hBg e3 hc ?_
    refine e_payHands hz.1 e3 hc (fun I2 J3 hI2 hpy => ?_)
    have hcl : clP X c b' ((I', J', N1), L' 1) = (I2, J3) := hpy
    rw [hcl] at hf
    have hrem : S' 3 - S' 3 / 4 * 4 = nI (c % 4) := by
      rw [e3]
      exact pk_rem (d := 4) (by omega) (by omega) (by omega)
    refine ⟨fun I3 J4 S3 L3 => (∀ j, j < 25 → I3 j = X j) ∧ S3 = S' ∧ L3 = L' ∧ clQ X c b' (I2, J3) = (I3, J4), ?_, fun h4 => ⟨hI2, rfl, rfl, ?_⟩, fun h4 => ?_⟩
    · rintro I3 J4 S3 L3 ⟨hI3, rfl, rfl, hq⟩ S4 e4
      exact hf I3 J4 S4 L3 hI3 (fun j hj1 hj2 => by rw [e4, va_up_ne _ _ hj1]; exact hZ0 hz j hj2) (by rw [e4]; show S3 3 + 1 = nI (c + 1); rw [e3]; exact nI_1 c) (by rw [e4, va_up_ne _ _ (by omega)]; exact hz.2.2) (by show N1 ≤ 64908; omega) hL rfl hq
    · rw [hrem] at h4
      have : ¬ c % 4 = 3 := fun q => h4 (by rw [q]; rfl)
      unfold clQ
      rw [if_neg this]
    · rw [hrem] at h4
      have h43 : c % 4 = 3 := (nI_eq (b := 3) (by omega) (by omega)).mp h4
      refine e_fillFloors hI2 hb ((hZ0 hz 1 (by omega)).trans h1) hBg e3 hc (by omega) (fun I3 J4 hI3 hfl => ⟨hI3, rfl, rfl, ?_⟩)
      unfold clQ
      rw [if_pos h43]
      exact hfl
  · have hm2 : m < z := nI_nleN (by omega) hm hc1
    unfold wp_X4_workAt
    have e9 : nI c * (12 : Int32) + nI m = nI (c * 12 + m) := by rw [show (12 : Int32) = nI 12 from rfl, pk_mul, nI_add]
    rw [e3, e9, clN (by omega), hz.1 18 (by omega)]
    refine ⟨vp_in_nI (by omega) (by omega), ?_⟩
    obtain ⟨w, hw, ew⟩ := W12_cases (hzo m hm2)
    rw [show z - m = (z - (m + 1)) + 1 by omega] at hR
    have hR : R = rpF X n0 c b' (z - (m + 1)) (m + 1) (if opP X c (X 18 (c * 12 + m)) then ((I', J', N1), L' 1) else biF X n0 c b' (X 18 (c * 12 + m)).toNatClampNeg ((I', J', N1), L' 1)) := hR
    rw [ew, clN (show w < 2 ^ 31 by omega)] at hR
    rw [ew]
    unfold wp_X4_isOpen
    rw [e3, clN (by omega), hz.1 20 (by omega)]
    refine ⟨vp_in_nI hc (by omega), ?_⟩
    have go : ∀ r : Int32, ((r = 0) ↔ ¬ opP X c (nI w)) → (∃ B_43 : TI → TJ → TS → TL → Int32 → Prop, (∀ (I_44 : TI) (J_45 : TJ) (S_46 : TS) (L_47 : TL) (x_48 : Int32), B_43 I_44 J_45 S_46 L_47 x_48 → (∀ x_49 : Int32, x_49 = x_48 + 1 → (∃ n_50, n_50 < z - m ∧ ∃ m N', m ≤ z ∧ x_49 = nI m ∧ n_50 = z - m ∧ Zm X S1 N' I_44 S_46 ∧ N' ≤ m * 5409 ∧ Lm L L_47 ∧ R = rpF X n0 c b' (z - m) m ((I_44, J_45, N'), L_47 1)))) ∧ (((¬ r = 0) → (B_43 I' J' S' L' (nI m))) ∧ ((r = 0) → (wp_X2_bringIn n0 n1 I' J' S' L' (nI w) (fun (I_51 : TI) (J_52 : TJ) (S_53 : TS) (L_54 : TL) => (B_43 I_51 J_52 S_53 L_54 (nI m))))))) := by
      intro r hr
      refine ⟨fun I2 J2 S2 L2 x => x = nI m ∧ ∃ N', Zm X S1 N' I2 S2 ∧ N' ≤ (m + 1) * 5409 ∧ Lm L L2 ∧ R = rpF X n0 c b' (z - (m + 1)) (m + 1) ((I2, J2, N'), L2 1), ?_, fun h0 => ⟨rfl, N1, hz, by omega, hL, ?_⟩, fun h0 => ?_⟩
      · rintro I2 J2 S2 L2 x ⟨rfl, N2, hz2, hN2, hL2, hR2⟩ x2 ex2
        exact ⟨z - (m + 1), by omega, m + 1, N2, by omega, by rw [ex2]; exact nI_1 m, rfl, hz2, hN2, hL2, hR2⟩
      · have hop : opP X c (nI w) := Classical.byContradiction (fun q => h0 (hr.mpr q))
        rw [if_pos hop] at hR
        exact hR
      · rw [if_neg (hr.mp h0)] at hR
        refine e_bringIn (b := b') (c := c) (k := N1) hz.1 hb ((hZ0 hz 1 (by omega)).trans h1) hBg hSt e3 hc ((hZ0 hz 6 (by omega)).trans h6) hn0 hz.2.2 (by omega) hw (fun I3 J3 S3 L3 N3 hz3 hN3 hL3 hR3 => ⟨rfl, N3, ⟨hz3.1, fun j hj => (hz3.2.1 j hj).trans (hz.2.1 j hj), hz3.2.2⟩, by omega, fun j hj => (hL3 j hj).trans (hL j hj), ?_⟩)
        rw [hR3] at hR
        exact hR
    exact ⟨_, fun _ _ _ _ _ hB => hB, fun h0 => ⟨Or.inl rfl, go 0 ⟨fun _ => h0, fun _ => rfl⟩⟩, fun h0 => ⟨Or.inr rfl, go 1 ⟨fun q => absurd q (by decide), fun q => absurd h0 q⟩⟩⟩
theorem e_isReserveOf {n : Nat} {p1 : Int32} {Φ : Int32 → TI → TJ → TS → TL → Prop} (hX : ∀ j, j < 25 → I j = X j) (hn : n < 24) (h1 : (X 6 n = 4 ∧ X 7 n = p1) → Φ 1 I J S L) (h0 : ¬ (X 6 n = 4 ∧ X 7 n = p1) → Φ 0 I J S L) : wp_X0_isReserveOf n0 n1 I J S L (nI n) p1 Φ := by
  unfold wp_X0_isReserveOf
  have hv : vp_in (nI n) 24 := vp_in_nI hn (by omega)
  rw [clN (by omega), hX 6 (by omega), hX 7 (by omega)]
  exact ⟨hv, _, fun _ _ _ _ _ hB => hB, _, fun _ _ _ _ hB => hB, fun q => ⟨Or.inl rfl, h0 (fun k => q k.1)⟩, fun q1 => ⟨hv, fun q => ⟨Or.inl rfl, h0 (fun k => q k.2)⟩, fun q2 => ⟨Or.inr rfl, h1 ⟨q1, q2⟩⟩⟩⟩
theorem e_takeSent {b c : Nat} {p0 : Int32} {p1 : Int64} {Φ : TI → TJ → TS → TL → Prop} (hX : ∀ j, j < 25 → I j = X j) (hb : b ≤ 24) (h1 : S 1 = nI b) (h3 : S 3 = nI c) (hc : c ≤ 40) (hw : W12 p0) (hf : ∀ L' : TL, L2 L L' → L' 2 = (tsF X b c p0 p1 J).2 → Φ I (tsF X b c p0 p1 J).1 S L') : wp_X2_takeSent n0 n1 I J S L p0 p1 Φ := by
  unfold wp_X2_takeSent
  have hi := W12_in hw
  have hR0 : tsF X b c p0 p1 J = (dbF (tsT X p0 b c 0 (J, p1)).1 p0.toNatClampNeg (tsT X p0 b c 0 (J, p1)).2, (tsT X p0 b c 0 (J, p1)).2) := rfl
  rw [hR0] at hf
  generalize hR1 : tsT X p0 b c 0 (J, p1) = R at hf
  refine ⟨fun n I' J' S' L' y x => I' = I ∧ S' = S ∧ L' = L ∧ ∃ m, m ≤ c ∧ x = nI m ∧ n = c - m ∧ R = tsT X p0 b (c - m) m (J', y), ⟨c, rfl, rfl, rfl, 0, by omega, rfl, rfl, hR1.symm⟩, ?_⟩
  rintro n I' J' S' L' y x ⟨rfl, rfl, rfl, m, hm, rfl, rfl, hR⟩
  rw [h3]
  refine ⟨fun I2 J2 S2 L2 y => I2 = I' ∧ S2 = S' ∧ L2 = L' ∧ R = (J2, y), ?_, fun hc1 => ⟨rfl, rfl, rfl, ?_⟩, fun hc1 => ⟨fun hy => ⟨rfl, rfl, rfl, ?_⟩, fun hy => ?_⟩⟩
  · rintro I2 J2 S2 L3 y ⟨rfl, rfl, rfl, rfl⟩
    refine ⟨hi, hi, fun J3 e3 L4 e4 => ?_⟩
    rw [show J3 = dbF J2 p0.toNatClampNeg y from e3]
    exact hf L4 (fun j hj => by rw [e4, va_up_ne _ _ hj]) (by rw [e4, va_up_self])
  · have : c - m = 0 := by
      have := (nI_leI (by omega) (by omega)).mp hc1
      omega
    rw [hR, this]
    rfl
  · have hm2 : m < c := nI_nleN (by omega) hm hc1
    rw [hR, show c - m = (c - (m + 1)) + 1 by omega]
    unfold tsT
    rw [if_pos hy]
  have hm2 : m < c := nI_nleN (by omega) hm hc1
  have hR2 : R = tsT X p0 b (c - (m + 1)) (m + 1) (tsN X p0 m b 0 (J', y)) := by
    rw [hR, show c - m = (c - (m + 1)) + 1 by omega]
    conv => lhs; unfold tsT
    rw [if_neg hy]
  refine ⟨fun n2 I2 J2 S2 L2 y x z => I2 = I' ∧ S2 = S' ∧ L2 = L' ∧ x = nI m ∧ ∃ e, e ≤ b ∧ z = nI e ∧ n2 = b - e ∧ R = tsT X p0 b (c - (m + 1)) (m + 1) (tsN X p0 m (b - e) e (J2, y)), ⟨b, rfl, rfl, rfl, rfl, 0, by omega, rfl, rfl, hR2⟩, ?_⟩
  rintro n2 I2 J2 S2 L3 y x z ⟨rfl, rfl, rfl, rfl, e, he, rfl, rfl, hR3⟩
  rw [h1]
  refine ⟨fun hc2 => fun x2 ex2 => ⟨c - (m + 1), by omega, rfl, rfl, rfl, m + 1, by omega, by rw [ex2]; exact nI_1 m, rfl, ?_⟩, fun hc2 => ?_⟩
  · have : b - e = 0 := by
      have := (nI_leI (by omega) (by omega)).mp hc2
      omega
    rw [hR3, this]
    rfl
  have he2 : e < b := nI_nleN (by omega) he hc2
  have e9 : nI e * (40 : Int32) + nI m = nI (e * 40 + m) := by rw [show (40 : Int32) = nI 40 from rfl, pk_mul, nI_add]
  have h96 : vp_in (nI (e * 40 + m)) 960 := vp_in_nI (by omega) (by omega)
  have hR4 : R = tsT X p0 b (c - (m + 1)) (m + 1) (tsN X p0 m (b - (e + 1)) (e + 1) (if X 6 e = 4 ∧ X 7 e = p0 then tsS m e (tsM X m e (J2, y)) (J2, y) else (J2, y))) := by
    rw [hR3, show b - e = (b - (e + 1)) + 1 by omega]
    rfl
  rw [e9, clN (show e * 40 + m < 2 ^ 31 by omega)]
  refine e_isReserveOf hX (by omega) (fun hr => ?_) (fun hr => ?_)
  · rw [if_pos hr] at hR4
    refine ⟨fun I3 J3 S3 L4 y x z => I3 = I2 ∧ S3 = S2 ∧ L4 = L3 ∧ x = nI m ∧ z = nI e ∧ R = tsT X p0 b (c - (m + 1)) (m + 1) (tsN X p0 m (b - (e + 1)) (e + 1) (J3, y)), ?_, fun hc => absurd hc (by decide), fun _ => ⟨h96, fun y2 ey2 => ⟨h96, h96, fun J3 e3 y3 ey3 => ⟨rfl, rfl, rfl, rfl, rfl, ?_⟩⟩⟩⟩
    · rintro I3 J3 S3 L4 y x z ⟨rfl, rfl, rfl, rfl, rfl, hR5⟩ x2 ex2
      exact ⟨b - (e + 1), by omega, rfl, rfl, rfl, rfl, e + 1, by omega, by rw [ex2]; exact nI_1 e, rfl, hR5⟩
    · rw [hR4, e3, ey3, ey2]
      rfl
  · rw [if_neg hr] at hR4
    refine ⟨fun I3 J3 S3 L4 y x z => I3 = I2 ∧ S3 = S2 ∧ L4 = L3 ∧ x = nI m ∧ z = nI e ∧ R = tsT X p0 b (c - (m + 1)) (m + 1) (tsN X p0 m (b - (e + 1)) (e + 1) (J3, y)), ?_, fun _ => ⟨rfl, rfl, rfl, rfl, rfl, hR4⟩, fun hc => absurd rfl hc⟩
    rintro I3 J3 S3 L4 y x z ⟨rfl, rfl, rfl, rfl, rfl, hR5⟩ x2 ex2
    exact ⟨b - (e + 1), by omega, rfl, rfl, rfl, rfl, e + 1, by omega, by rw [ex2]; exact nI_1 e, rfl, hR5⟩
theorem toF_s {X : TI} {b c j k : Nat} {p : Int32} {g : TJ × Int64} : toF X b c p (j + 1) k g = if X 24 k = p then toF X b c p j (k + 1) (tsF X b c (X 22 k) ((X 23 k).toInt64 * 1000000) g.1) else (g.1, g.2, k) := rfl
theorem e_takeSentOf {b c q t : Nat} {p0 : Int32} {Φ : TI → TJ → TS → TL → Prop} (hX : ∀ j, j < 25 → I j = X j) (hb : b ≤ 24) (h1 : S 1 = nI b) (h3 : S 3 = nI c) (hc : c ≤ 40) (hq : q ≤ 60) (h2 : S 2 = nI q) (hQ : ∀ k, k < q → W12 (X 22 k)) (h4 : S 4 = nI t) (ht : t ≤ q) (hf : ∀ (J' : TJ) (S' : TS) (L' : TL) (k' : Nat), (∀ j, j ≠ 4 → S' j = S j) → k' ≤ q → S' 4 = nI k' → L2 L L' → toF X b c p0 (q - t) t (J, L 2) = (J', L' 2, k') → Φ I J' S' L') : wp_X2_takeSentOf n0 n1 I J S L p0 Φ := by
  unfold wp_X2_takeSentOf
  generalize hR0 : toF X b c p0 (q - t) t (J, L 2) = R at hf
  refine ⟨fun n I' J' S' L' => I' = I ∧ (∀ j, j ≠ 4 → S' j = S j) ∧ L2 L L' ∧ ∃ t : Nat, t ≤ q ∧ S' 4 = nI t ∧ n = q - t ∧ R = toF X b c p0 (q - t) t (J', L' 2), ⟨q - t, rfl, fun _ _ => rfl, fun _ _ => rfl, t, ht, h4, rfl, hR0.symm⟩, ?_⟩
  rintro n I' J' S' L' ⟨rfl, hS, hL, t1, ht1, e4, rfl, hR⟩
  rw [hS 2 (by omega), h2, e4, clN (show t1 < 2 ^ 31 by omega), hX 24 (by omega), hX 22 (by omega), hX 23 (by omega)]
  refine ⟨fun I2 J2 S2 L3 => I2 = I' ∧ (∀ j, j ≠ 4 → S2 j = S j) ∧ L2 L L3 ∧ ∃ t : Nat, t ≤ q ∧ S2 4 = nI t ∧ R = (J2, L3 2, t), ?_, fun hc1 => ⟨rfl, hS, hL, t1, ht1, e4, ?_⟩, fun hc1 => ?_⟩
  · rintro I2 J2 S2 L3 ⟨rfl, hS2, hL2, t2, ht2, e42, hR2⟩
    exact hf J2 S2 L3 t2 hS2 ht2 e42 hL2 hR2
  · have : q - t1 = 0 := by
      have := (nI_leI (by omega) (by omega)).mp hc1
      omega
    rw [hR, this]
    rfl
  have ht3 : t1 < q := nI_nleN (by omega) ht1 hc1
  have hv : vp_in (nI t1) 60 := vp_in_nI (by omega) (by omega)
  rw [show q - t1 = (q - (t1 + 1)) + 1 by omega, toF_s] at hR
  refine ⟨hv, fun hne => ⟨rfl, hS, hL, t1, ht1, e4, ?_⟩, fun he => ⟨hv, hv, ?_⟩⟩
  · rw [if_neg hne] at hR; exact hR
  rw [if_pos he] at hR
  refine e_takeSent hX hb ((hS 1 (by omega)).trans h1) ((hS 3 (by omega)).trans h3) hc (hQ t1 ht3) (fun L3 hL3 eL3 S3 e3 => ?_)
  refine ⟨q - (t1 + 1), by omega, rfl, fun j hj => by rw [e3, va_up_ne _ _ hj]; exact hS j hj, fun j hj => (hL3 j hj).trans (hL j hj), t1 + 1, by omega, by rw [e3, va_up_self, e4]; exact nI_1 t1, rfl, ?_⟩
  rw [hR, eL3]
/-- behind a reckoning: the fields -/
def Rx (X : TI) (S : TS) (m : Nat) (L : TL) (g : TK) (I' : TI) (J' : TJ) (S' : TS) (L' : TL) : Prop := (∀ j, j < 25 → I' j = X j) ∧ (∀ j, j ≠ 3 → j ≠ 4 → j ≠ 5 → S' j = S j) ∧ S' 3 = nI m ∧ S' 4 = nI g.2.2.2.2.2 ∧ S' 5 = nI g.2.2.1 ∧ L12 L L' ∧ g = (I', J', g.2.2.1, L' 1, L' 2, g.2.2.2.2.2)
theorem e_reckonTo {b c q t e N : Nat} {Φ : TI → TJ → TS → TL → Prop} (hX : ∀ j, j < 25 → I j = X j) (hB : Bk X S) (hb : b ≤ 24) (h1 : S 1 = nI b) (h3 : S 3 = nI c) (hce : c ≤ e) (he : e ≤ 40) (hq : q ≤ 60) (h2 : S 2 = nI q) (h4 : S 4 = nI t) (ht : t ≤ q) (h5 : S 5 = nI N) (h6 : S 6 = nI n0) (hn0 : n0 < 2 ^ 31) (hf : ∀ (I' : TI) (J' : TJ) (S' : TS) (L' : TL), Rx X S e L (rkF X n0 b q (e - c) c (I, J, N, L 1, L 2, t)) I' J' S' L' → (rkF X n0 b q (e - c) c (I, J, N, L 1, L 2, t)).2.2.2.2.2 ≤ q → Φ I' J' S' L') : wp_X2_reckonTo n0 n1 I J S L (nI e) Φ := by
  obtain ⟨⟨b', hb', h1', hBg⟩, hSt, ⟨q', hq', h2', hQ⟩, hZ⟩ := id hB
  have eq : q' = q := (nI_eq (by omega) (by omega)).mp (h2'.symm.trans h2)
  subst eq
  have eb : b' = b := (nI_eq (by omega) (by omega)).mp (h1'.symm.trans h1)
  subst eb
  unfold wp_X2_reckonTo
  intro x1 e1 x2 e2
  rw [if_neg (by rw [show (40 : Int32) = nI 40 from rfl]; exact nI_nlt he (by omega))] at e1
  rw [h3] at e2
  generalize hR0 : rkF X n0 b' q' (e - c) c (I, J, N, L 1, L 2, t) = R at hf
  refine ⟨fun n I' J' S' L' a x => a = nI e ∧ ∃ m N1 k1, c ≤ m ∧ m ≤ e ∧ x = nI m ∧ n = e - m ∧ k1 ≤ q' ∧ (∀ j, j < 25 → I' j = X j) ∧ (∀ j, j ≠ 3 → j ≠ 4 → j ≠ 5 → S' j = S j) ∧ S' 3 = nI m ∧ S' 4 = nI k1 ∧ S' 5 = nI N1 ∧ L12 L L' ∧ R = rkF X n0 b' q' (e - m) m (I', J', N1, L' 1, L' 2, k1), ⟨e - c, e1, c, N, t, Nat.le_refl _, hce, e2, rfl, ht, hX, fun _ _ _ _ => rfl, h3, h4, h5, fun _ _ _ => rfl, hR0.symm⟩, ?_⟩
  rintro n I' J' S' L' a x ⟨rfl, m, N1, k1, hm1, hm2, rfl, rfl, hk1, hI, hS, s3, s4, s5, hL, hR⟩
  have s1 : S' 1 = nI b' := (hS 1 (by omega) (by omega) (by omega)).trans h1
  have s2 : S' 2 = nI q' := (hS 2 (by omega) (by omega) (by omega)).trans h2
  refine ⟨fun hc1 => ?_, fun hc1 => ?_⟩
  · have hem : m = e := by
      have := (nI_leI (by omega) (by omega)).mp hc1
      omega
    subst hem
    refine e_takeSentOf hI hb s1 s3 (by omega) hq s2 hQ s4 hk1 (fun J2 S2 L3 k2 hS2 hk2 e42 hL2 hto => ?_)
    rw [Nat.sub_self] at hR
    have hR : R = toK X b' q' m (nI m) (I', J', N1, L' 1, L' 2, k1) := hR
    have hR : R = (I', (toF X b' m (nI m) (q' - k1) k1 (J', L' 2)).1, N1, L' 1, (toF X b' m (nI m) (q' - k1) k1 (J', L' 2)).2.1, (toF X b' m (nI m) (q' - k1) k1 (J', L' 2)).2.2) := hR
    rw [hto] at hR
    subst hR
    exact hf I' J2 S2 L3 ⟨hI, fun j a b c => (hS2 j b).trans (hS j a b c), by rw [hS2 3 (by omega), s3], e42, by rw [hS2 5 (by omega)]; exact s5, fun j a b => (hL2 j b).trans (hL j a b), by rw [hL2 1 (by omega)]⟩ hk2
  · have hme : m < e := by
      rcases Nat.lt_or_ge m e with g | g
      · exact g
      · exact absurd (nI_le g (by omega)) hc1
    refine e_takeSentOf hI hb s1 s3 (by omega) hq s2 hQ s4 hk1 (fun J2 S2 L3 k2 hS2 hk2 e42 hL2 hto => ?_)
    rw [show e - m = (e - (m + 1)) + 1 by omega] at hR
    have hR : R = rkF X n0 b' q' (e - (m + 1)) (m + 1) (clK X n0 b' m (I', (toF X b' m (nI m) (q' - k1) k1 (J', L' 2)).1, N1, L' 1, (toF X b' m (nI m) (q' - k1) k1 (J', L' 2)).2.1, (toF X b' m (nI m) (q' - k1) k1 (J', L' 2)).2.2)) := hR
    rw [hto] at hR
    have eL1 : L3 1 = L' 1 := hL2 1 (by omega)
    have hR : R = rkF X n0 b' q' (e - (m + 1)) (m + 1) ((clQ X m b' (clP X m b' (rpG X n0 m b' I' J2 (L' 1)))).1, (clQ X m b' (clP X m b' (rpG X n0 m b' I' J2 (L' 1)))).2, (rpG X n0 m b' I' J2 (L' 1)).1.2.2, (rpG X n0 m b' I' J2 (L' 1)).2, L3 2, k2) := hR
    rw [← eL1] at hR
    have hB2 : Bk X S2 := hB.same (fun _ _ => rfl) ((hS2 1 (by omega)).trans (hS 1 (by omega) (by omega) (by omega))) ((hS2 2 (by omega)).trans (hS 2 (by omega) (by omega) (by omega)))
    refine e_closeTerm (c := m) (b := b') hI hB2 hb ((hS2 1 (by omega)).trans s1) ((hS2 3 (by omega)).trans s3) (by omega) ((hS2 6 (by omega)).trans ((hS 6 (by omega) (by omega) (by omega)).trans h6)) hn0 (fun I3 J3 S3 L4 hI3 hS3 s33 s35 hN hL4 eL4 hcl => ?_)
    intro x3 ex3
    refine ⟨e - (m + 1), by omega, rfl, m + 1, (rpG X n0 m b' I' J2 (L3 1)).1.2.2, k2, by omega, by omega, by rw [ex3]; exact nI_1 m, rfl, hk2, hI3, fun j a b c => ((hS3 j a c).trans (hS2 j b)).trans (hS j a b c), s33, by rw [hS3 4 (by omega) (by omega)]; exact e42, s35, fun j a b => ((hL4 j a).trans (hL2 j b)).trans (hL j a b), ?_⟩
    rw [hR, hcl, eL4, hL4 2 (by omega)]
end
