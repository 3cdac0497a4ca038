def eoS (X : TI) (t : Nat) (J : TJ) (n : Nat) : TJ := va_up (prF J (X 7 n).toNatClampNeg (J 32 (n * 40 + (t - (X 11 n).toNatClampNeg)))) 32 (vp_updL ((prF J (X 7 n).toNatClampNeg (J 32 (n * 40 + (t - (X 11 n).toNatClampNeg)))) 32) (n * 40 + (t - (X 11 n).toNatClampNeg)) 0)
/-- the old BAGS -/
def eoF (X : TI) (t : Nat) : Nat → Nat → TJ → TJ
  | 0, _, J => J
  | j + 1, n, J => eoF X t j (n + 1) (if X 6 n = 4 ∧ ¬ nI t < X 11 n then eoS X t J n else J)
def pyB (J : TJ) (h : Nat) (p : Int64) : TJ := va_up (va_up J 26 (vp_updL (J 26) h (J 26 h - p))) 27 (vp_updL ((va_up J 26 (vp_updL (J 26) h (J 26 h - p))) 27) h ((va_up J 26 (vp_updL (J 26) h (J 26 h - p))) 27 h - p))
def pyA (J : TJ) (h : Nat) : TJ := if lg_cmp (J 27 h) 0 ≤ 0 then J else if lg_cmp (J 26 h) 0 ≤ 0 then J else pyB J h (if J 26 h < J 27 h then J 26 h else J 27 h)
def pyC (J : TJ) (h : Nat) : Int64 := if J 26 h / 1000000 < 0 then 0 else J 26 h / 1000000
def pyJ (J : TJ) (h : Nat) : TJ := va_up J 26 (vp_updL (J 26) h (J 26 h - pyC J h * 1000000))
/-- HANDS are paid -/
def pyF (t : Nat) : Nat → Nat → TI × TJ → TI × TJ
  | 0, _, g => g
  | j + 1, h, g => pyF t j (h + 1) (va_up g.1 29 (upd (g.1 29) (h * 40 + t) (pyC (pyA g.2 h) h).toInt32), pyJ (pyA g.2 h) h)
def dsF (D : Nat → Int32) (h : Nat) : Nat → Nat → Int64 → Int64
  | 0, _, y => y
  | j + 1, t, y => dsF D h j (t + 1) (y + (D (h * 40 + t)).toInt64)
def flL (X : TI) (D : Nat → Int32) (t n : Nat) : Int64 := if (X 10 n).toInt64 - dsF D (X 7 n).toNatClampNeg 4 (t - 3) 0 < 0 then 0 else (X 10 n).toInt64 - dsF D (X 7 n).toNatClampNeg 4 (t - 3) 0
def flS (X : TI) (t : Nat) (g : TI × TJ) (n : Nat) : TI × TJ :=
  (va_up g.1 29 (upd (g.1 29) ((X 7 n).toNatClampNeg * 40 + t) (g.1 29 ((X 7 n).toNatClampNeg * 40 + t) + (flL X (g.1 29) t n).toInt32)), va_up g.2 28 (vp_updL (g.2 28) (X 7 n).toNatClampNeg (g.2 28 (X 7 n).toNatClampNeg + flL X (g.1 29) t n)))
/-- FLOORS are filled -/
def flF (X : TI) (t : Nat) : Nat → Nat → TI × TJ → TI × TJ
  | 0, _, g => g
  | j + 1, n, g => flF X t j (n + 1) (if X 6 n = 2 ∧ ¬ nI (t * 90 + 89) < X 9 n then flS X t g n else g)
abbrev opP (X : TI) (t : Nat) (w : Int32) : Prop := ((X 20 t >>> (w &&& 31)) &&& 1) = 1
def rpF (X : TI) (r t b : Nat) : Nat → Nat → TC → TC
  | 0, _, g => g
  | j + 1, i, g => rpF X r t b j (i + 1) (if opP X t (X 18 (t * 12 + i)) then g else biF X r t b (X 18 (t * 12 + i)).toNatClampNeg g)
def clP (X : TI) (t b : Nat) (g : TC) : TI × TJ := pyF t 12 0 (g.1.1, eoF X t b 0 g.1.2.1)
def clQ (X : TI) (t b : Nat) (g : TI × TJ) : TI × TJ := if t % 4 = 3 then flF X t b 0 g else g
section
variable {n0 n1 : Nat} {X I : TI} {J : TJ} {S : TS} {L : TL}
theorem e_emptyOldBags {b c : Nat} {Φ : TI → TJ → TS → TL → Prop} (hX : ∀ j, j < 25 → I j = X j) (hb : b ≤ 24) (h1 : S 1 = nI b) (hBg : Bgs b X) (h3 : S 3 = nI c) (hc : c < 40) (hf : Φ I (eoF X c b 0 J) S L) : wp_X2_emptyOldBags n0 n1 I J S L Φ := by
  unfold wp_X2_emptyOldBags
  generalize hR0 : eoF X c b 0 J = R at hf
  refine ⟨fun n I' J' S' L' x => I' = I ∧ S' = S ∧ L' = L ∧ ∃ m, m ≤ b ∧ x = nI m ∧ n = b - m ∧ R = eoF X c (b - m) m J', ⟨b, rfl, rfl, rfl, 0, by omega, rfl, rfl, hR0.symm⟩, ?_⟩
  rintro n I' J' S' L' x ⟨rfl, rfl, rfl, m, hm, rfl, rfl, hR⟩
  rw [h1]
  refine ⟨fun hc1 => ?_, fun hc1 => ?_⟩
  · have : b - m = 0 := by
      have := (nI_leI (by omega) (by omega)).mp hc1
      omega
    rw [this] at hR
    have hR : R = J' := hR
    rw [← hR]
    exact hf
  have hm2 : m < b := nI_nleN (by omega) hm hc1
  have hv : vp_in (nI m) 24 := vp_in_nI (by omega) (by omega)
  rw [clN (show m < 2 ^ 31 by omega), hX 6 (by omega), hX 11 (by omega), hX 7 (by omega)]
  have hR2 : R = eoF X c (b - (m + 1)) (m + 1) (if X 6 m = 4 ∧ ¬ nI c < X 11 m then eoS X c J' m else J') := by
    rw [hR, show b - m = (b - (m + 1)) + 1 by omega]
    rfl
  refine ⟨hv, fun I2 J2 S2 L2 x => I2 = I' ∧ S2 = S' ∧ L2 = L' ∧ x = nI m ∧ R = eoF X c (b - (m + 1)) (m + 1) J2, ?_, fun hk => ⟨rfl, rfl, rfl, rfl, ?_⟩, fun hk => ⟨hv, fun hy => ⟨rfl, rfl, rfl, rfl, ?_⟩, fun hy => ⟨hv, ?_⟩⟩⟩
  · rintro I2 J2 S2 L2 x ⟨rfl, rfl, rfl, rfl, hR3⟩ x2 ex2
    exact ⟨b - (m + 1), by omega, rfl, rfl, rfl, m + 1, by omega, by rw [ex2]; exact nI_1 m, rfl, hR3⟩
  · rw [if_neg (fun q => hk q.1)] at hR2; exact hR2
  · rw [h3] at hy
    rw [if_neg (fun q => q.2 hy)] at hR2; exact hR2
  · obtain ⟨y, hy1, hy8, ey⟩ := (hBg m hm2).2.2 hk
    rw [h3] at hy
    rw [if_pos ⟨hk, hy⟩] at hR2
    rw [ey] at hy
    have hyc : y ≤ c := by
      rcases Nat.lt_or_ge c y with q | q
      · exact absurd (nI_lt q (by omega)) hy
      · exact q
    have e9 : nI m * (40 : Int32) + S' 3 - X 11 m = nI (m * 40 + (c - y)) := by
      rw [h3, ey, show (40 : Int32) = nI 40 from rfl, pk_mul, nI_add, pk_sub (by omega), show m * 40 + c - y = m * 40 + (c - y) by omega]
    have h12 := W12_in (hBg m hm2).1
    intro x2 ex2
    rw [e9] at ex2
    subst ex2
    have h96 : vp_in (nI (m * 40 + (c - y))) 960 := vp_in_nI (by omega) (by omega)
    rw [clN (show m * 40 + (c - y) < 2 ^ 31 by omega)]
    refine ⟨hv, h12, h96, h12, fun J3 e3 => ⟨h96, fun J4 e4 => ⟨rfl, rfl, rfl, rfl, ?_⟩⟩⟩
    rw [hR2, e4, e3]
    unfold eoS
    rw [ey, clN (by omega)]
    rfl
theorem e_payHands {c : Nat} {Φ : TI → TJ → TS → TL → Prop} (hX : ∀ j, j < 25 → I j = X j) (h3 : S 3 = nI c) (hc : c < 40) (hf : ∀ (I' : TI) (J' : TJ), (∀ j, j < 25 → I' j = X j) → pyF c 12 0 (I, J) = (I', J') → Φ I' J' S L) : wp_X2_payHands n0 n1 I J S L Φ := by
  unfold wp_X2_payHands
  generalize hR0 : pyF c 12 0 (I, J) = R at hf
  refine ⟨fun n I' J' S' L' x => (∀ j, j < 25 → I' j = X j) ∧ S' = S ∧ L' = L ∧ ∃ m, m ≤ 12 ∧ x = nI m ∧ n = 12 - m ∧ R = pyF c (12 - m) m (I', J'), ⟨12, hX, rfl, rfl, 0, by omega, rfl, rfl, hR0.symm⟩, ?_⟩
  rintro n I' J' S' L' x ⟨hI, rfl, rfl, m, hm, rfl, rfl, hR⟩
  refine ⟨fun hc1 => hf I' J' hI ?_, fun hc1 => ?_⟩
  · have : m = 12 := by
      have := (nI_leI (a := 12) (by omega) (by omega)).mp hc1
      omega
    rw [hR, this]
    rfl
  have hm2 : m < 12 := nI_nleN (N := 12) (by omega) hm hc1
  have hv : vp_in (nI m) 12 := vp_in_nI (by omega) (by omega)
  rw [clN (show m < 2 ^ 31 by omega)]
  have hR2 : R = pyF c (12 - (m + 1)) (m + 1) (va_up I' 29 (upd (I' 29) (m * 40 + c) (pyC (pyA J' m) m).toInt32), pyJ (pyA J' m) m) := by
    rw [hR, show 12 - m = (12 - (m + 1)) + 1 by omega]
    rfl
  refine ⟨hv, fun I2 J2 S2 L2 x => I2 = I' ∧ J2 = pyA J' m ∧ S2 = S' ∧ L2 = L' ∧ x = nI m, ?_, fun hd => ⟨rfl, ?_, rfl, rfl, rfl⟩, fun hd => ⟨hv, fun hp => ⟨rfl, ?_, rfl, rfl, rfl⟩, fun hp => ⟨hv, hv, fun y ey => ⟨hv, hv, fun J3 e3 => ⟨hv, hv, fun J4 e4 => ⟨rfl, ?_, rfl, rfl, rfl⟩⟩⟩⟩⟩⟩
  · rintro I2 J2 S2 L2 x ⟨rfl, rfl, rfl, rfl, rfl⟩
    rw [clN (show m < 2 ^ 31 by omega)]
    refine ⟨hv, fun y ey => ⟨hv, hv, fun J3 e3 => ?_⟩⟩
    have e9 : nI m * (40 : Int32) + S2 3 = nI (m * 40 + c) := by
      rw [h3, show (40 : Int32) = nI 40 from rfl, pk_mul, nI_add]
    rw [e9, clN (show m * 40 + c < 2 ^ 31 by omega)]
    have ey : y = pyC (pyA J' m) m := ey
    refine ⟨vp_in_nI (by omega) (by omega), fun I3 eI3 x2 ex2 => ⟨12 - (m + 1), by omega, fun j hj => by rw [eI3, va_up_ne _ _ (by omega)]; exact hI j hj, rfl, rfl, m + 1, by omega, by rw [ex2]; exact nI_1 m, rfl, ?_⟩⟩
    rw [hR2, eI3, e3, ey]
    rfl
  · unfold pyA; rw [if_pos hd]
  · unfold pyA; rw [if_neg hd, if_pos hp]
  · unfold pyA; rw [if_neg hd, if_neg hp, e4, e3, ey]; rfl
theorem e_duesOf {h f e : Nat} {D : Nat → Int32} {Φ : Int64 → TI → TJ → TS → TL → Prop} (hD : I 29 = D) (hh : h < 12) (hfe : f ≤ e) (he : e ≤ 40) (hf : Φ (dsF D h (e - f) f 0) I J S L) : wp_X2_duesOf n0 n1 I J S L (nI h) (nI f) (nI e) Φ := by
  unfold wp_X2_duesOf
  generalize hR0 : dsF D h (e - f) f 0 = R at hf
  refine ⟨fun n I' J' S' L' y x => I' = I ∧ J' = J ∧ S' = S ∧ L' = L ∧ ∃ m, m ≤ e ∧ x = nI m ∧ n = e - m ∧ R = dsF D h (e - m) m y, ⟨e - f, rfl, rfl, rfl, rfl, f, hfe, rfl, rfl, hR0.symm⟩, ?_⟩
  rintro n I' J' S' L' y x ⟨rfl, rfl, rfl, rfl, m, hm, rfl, rfl, hR⟩
  refine ⟨fun hc => ?_, fun hc => ?_⟩
  · have : e - m = 0 := by
      have := (nI_leI (by omega) (by omega)).mp hc
      omega
    rw [this] at hR
    have hR : R = y := hR
    rw [← hR]
    exact hf
  have hm2 : m < e := nI_nleN (by omega) hm hc
  rw [show (40 : Int32) = nI 40 from rfl, pk_mul, nI_add, clN (show h * 40 + m < 2 ^ 31 by omega), hD]
  refine ⟨vp_in_nI (by omega) (by omega), fun y2 ey2 x2 ex2 => ?_⟩
  refine ⟨e - (m + 1), by omega, rfl, rfl, rfl, rfl, m + 1, by omega, by rw [ex2]; exact nI_1 m, rfl, ?_⟩
  rw [hR, show e - m = (e - (m + 1)) + 1 by omega, ey2]
  rfl
theorem e_fillFloors {b c : Nat} {Φ : TI → TJ → TS → TL → Prop} (hX : ∀ j, j < 25 → I j = X j) (hb : b ≤ 24) (h1 : S 1 = nI b) (hBg : Bgs b X) (h3 : S 3 = nI c) (hc : c < 40) (hc3 : 3 ≤ c) (hf : ∀ (I' : TI) (J' : TJ), (∀ j, j < 25 → I' j = X j) → flF X c b 0 (I, J) = (I', J') → Φ I' J' S L) : wp_X2_fillFloors n0 n1 I J S L Φ := by
  unfold wp_X2_fillFloors
  generalize hR0 : flF X c b 0 (I, J) = R at hf
  refine ⟨fun n I' J' S' L' x => (∀ j, j < 25 → I' j = X j) ∧ S' = S ∧ L' = L ∧ ∃ m, m ≤ b ∧ x = nI m ∧ n = b - m ∧ R = flF X c (b - m) m (I', J'), ⟨b, hX, rfl, rfl, 0, by omega, rfl, rfl, hR0.symm⟩, ?_⟩
  rintro n I' J' S' L' x ⟨hI, rfl, rfl, m, hm, rfl, rfl, hR⟩
  rw [h1]
  refine ⟨fun hc1 => hf I' J' hI ?_, fun hc1 => ?_⟩
  · have : b - m = 0 := by
      have := (nI_leI (by omega) (by omega)).mp hc1
      omega
    rw [hR, this]
    rfl
  have hm2 : m < b := nI_nleN (by omega) hm hc1
  have hv : vp_in (nI m) 24 := vp_in_nI (by omega) (by omega)
  rw [clN (show m < 2 ^ 31 by omega), hI 6 (by omega), hI 9 (by omega)]
  have hR2 : R = flF X c (b - (m + 1)) (m + 1) (if X 6 m = 2 ∧ ¬ nI (c * 90 + 89) < X 9 m then flS X c (I', J') m else (I', J')) := by
    rw [hR, show b - m = (b - (m + 1)) + 1 by omega]
    rfl
  refine ⟨hv, fun I2 J2 S2 L2 x => (∀ j, j < 25 → I2 j = X j) ∧ S2 = S' ∧ L2 = L' ∧ x = nI m ∧ R = flF X c (b - (m + 1)) (m + 1) (I2, J2), ?_, fun hk => ⟨hI, rfl, rfl, rfl, ?_⟩, fun hk => ⟨hv, ?_⟩⟩
  · rintro I2 J2 S2 L2 x ⟨hI2, rfl, rfl, rfl, hR3⟩ x2 ex2
    exact ⟨b - (m + 1), by omega, hI2, rfl, rfl, m + 1, by omega, by rw [ex2]; exact nI_1 m, rfl, hR3⟩
  · rw [if_neg (fun q => hk q.1)] at hR2; exact hR2
  unfold wp_X2_lastDay
  rw [h3, ld_eq]
  refine ⟨fun hd => ⟨hI, rfl, rfl, rfl, ?_⟩, fun hd => ⟨hv, fun x2 ex2 => ?_⟩⟩
  · rw [if_neg (fun q => q.2 hd)] at hR2; exact hR2
  rw [if_pos ⟨hk, hd⟩] at hR2
  rw [hI 7 (by omega)] at ex2
  obtain ⟨h, hh, eh⟩ := W12_cases (hBg m hm2).1
  rw [eh] at ex2
  subst ex2
  have f1 : nI c - (4 : Int32) + 1 = nI (c - 3) := by
    obtain ⟨d, rfl⟩ : ∃ d, c = d + 3 := ⟨c - 3, by omega⟩
    rw [show d + 3 - 3 = d by omega, show nI (d + 3) = nI d + nI 3 from (nI_add d 3).symm]
    have : nI d + nI 3 - (4 : Int32) + 1 = nI d := by
      rw [show nI 3 = (3 : Int32) from rfl]
      grind
    exact this
  rw [h3, f1, nI_1]
  refine e_duesOf (D := I' 29) rfl hh (by omega) (by omega) ?_
  dsimp only
  rw [show c + 1 - (c - 3) = 4 by omega, hI 10 (by omega), h3]
  refine ⟨hv, fun y ey => ?_⟩
  have e9 : nI h * (40 : Int32) + nI c = nI (h * 40 + c) := by
    rw [show (40 : Int32) = nI 40 from rfl, pk_mul, nI_add]
  rw [e9, clN (show h * 40 + c < 2 ^ 31 by omega), clN (show h < 2 ^ 31 by omega)]
  have h48 : vp_in (nI (h * 40 + c)) 480 := vp_in_nI (by omega) (by omega)
  have h12 : vp_in (nI h) 12 := vp_in_nI hh (by omega)
  refine ⟨h48, h48, fun I3 e3 => ⟨h12, h12, fun J3 e4 => ⟨fun j hj => by rw [e3, va_up_ne _ _ (by omega)]; exact hI j hj, rfl, rfl, rfl, ?_⟩⟩⟩
  have ey : y = flL X (I' 29) c m := by
    rw [ey]
    unfold flL
    rw [eh, clN (show h < 2 ^ 31 by omega)]
  rw [hR2, e3, e4, ey]
  unfold flS
  rw [eh, clN (show h < 2 ^ 31 by omega)]
end
