section
variable {X I : TI} {J : TJ} {S : TS} {L : TL}
/-- ANEW with what was SENT BACK in THE TERM -/
def anT (Z : TK) (X : TI) (r b q c : Nat) : TK := toK X b q c (nI c) (anK Z X r b q c)
theorem MP.z {Z : TK} {l : Nat} (hZ : ZOK Z) (h : MP l X (fun _ => 0) (fun _ _ => 0) I J) : MP l X (Z.1 29) Z.2.1 I J := by
  obtain ⟨z1, z2, z3, z4, -, -⟩ := hZ
  obtain ⟨⟨a1, a2, a3, a4⟩, b, c, d⟩ := h
  exact ⟨⟨fun k hk => (a1 k hk).trans (z2 k hk).1.symm, fun k hk => (a2 k hk).trans (z3 k hk).1.symm, fun k hk h2 => (a3 k hk h2).trans (z3 k hk).2.symm, fun k u hk hu => (a4 k u hk hu).trans (z4 _ (by omega)).symm⟩, fun k hk => (b k hk).trans (z2 k hk).2.1.symm, fun k u hk hu => (c k u hk hu).trans (z1 k u hk hu).symm, fun k hk => (d k hk).trans (z2 k hk).2.2.symm⟩
theorem QM.fr {X I I' : TI} (h : QM X I) (e : ∀ n, n < 26 ∨ 36 ≤ n → I' n = I n) : QM X I' := by
  unfold QM
  rw [e 38 (by omega), e 39 (by omega), e 40 (by omega)]
  exact h
theorem BM.f6 {X I I' : TI} (h : BM X I) (e : ∀ n, n < 26 ∨ 36 ≤ n → I' n = I n) : BM X I' := by
  unfold BM
  rw [e 5 (by omega), e 6 (by omega), e 7 (by omega), e 8 (by omega), e 9 (by omega), e 10 (by omega), e 11 (by omega), e 12 (by omega)]
  exact h
theorem SMx.f6 {X I I' : TI} (h : SMx X I) (e : ∀ n, n < 26 ∨ 36 ≤ n → I' n = I n) : SMx X I' := by
  unfold SMx
  rw [e 1 (by omega), e 2 (by omega), e 3 (by omega), e 4 (by omega)]
  exact h
theorem RM.f6 {X I I' : TI} (h : RM X I) (e : ∀ n, n < 26 ∨ 36 ≤ n → I' n = I n) : RM X I' := by
  unfold RM
  rw [e 13 (by omega), e 14 (by omega), e 15 (by omega), e 16 (by omega), e 17 (by omega), e 18 (by omega), e 19 (by omega), e 20 (by omega)]
  exact h
set_option maxHeartbeats 2000000 in
theorem n2_anew {Z : TK} {b q c : Nat} {Φ : TI → TJ → TS → TL → Prop} (hZ : ZOK Z) (hM : BM X I) (hSM : SMx X I) (hRM : RM X I) (hQM : QM X I) (hB : BgX b X) (hSt : StX X) (hRp : RpX X) (hQ : SX q c X) (hb : b ≤ 24) (hq : q ≤ 60) (hc : c ≤ 40) (s0 : S 0 = nI c) (s1 : S 1 = nI b) (s4 : S 4 = nI q) (hf : ∀ (I' : TI) (J' : TJ) (S' : TS), MP 1 X ((anT Z X 0 b q c).1 29) (anT Z X 0 b q c).2.1 I' J' → J' 28 1 = (anT Z X 0 b q c).2.2.2.1 → MG 1 I I' J J' → MFs 1 S S' → Φ I' J' S' L) : wp_X8_anew I J S L Φ := by
  unfold wp_X8_anew
  refine n2_empties (X := X) (fun I1 J1 a1 a2 a3 a4 a5 => ?_)
  refine ⟨fun n I' J' S' L' x => L' = L ∧ ∃ t, t ≤ c ∧ x = nI t ∧ n = c - t ∧ MP 1 X ((anK Z X 0 b q t).1 29) (anK Z X 0 b q t).2.1 I' J' ∧ J' 28 1 = (anK Z X 0 b q t).2.2.2.1 ∧ MG 1 I I' J J' ∧ MFs 1 S S', ⟨c, rfl, 0, by omega, rfl, rfl, a1.z hZ, a2.trans hZ.2.2.2.2.1.symm, a3, ⟨fun _ _ _ => rfl, fun _ => rfl⟩⟩, ?_⟩
  rintro n I' J' S' L' x ⟨rfl, t, ht, rfl, rfl, hP, h28, hG, hS⟩
  have hI := hG.1
  have s1' : S' 1 = nI b := (hS.1 1 (by omega) (by omega)).trans s1
  have s4' : S' 4 = nI q := (hS.1 4 (by omega) (by omega)).trans s4
  rw [hS.1 0 (by omega) (by omega), s0]
  obtain ⟨hA, hK⟩ := AI_an (r := 0) hZ hB hb hSt hRp hc hQ t (by omega)
  have eanT : anT Z X 0 b q t = toK X b q t (nI t) (anK Z X 0 b q t) := rfl
  have eanS : anK Z X 0 b q (t + 1) = clK X 0 b t (toK X b q t (nI t) (anK Z X 0 b q t)) := rfl
  have hU := UB_le (c := t) (by omega)
  have hFB := FB_le (c := t) (by omega)
  generalize anK Z X 0 b q t = g at hP h28 hA hK eanT eanS
  obtain ⟨Ia, Ja, N, ci, lk, k⟩ := g
  have hP : MP 1 X (Ia 29) Ja I' J' := hP
  have h28 : J' 28 1 = ci := h28
  have hA : AI 0 true t b X (Ia 29) Ja := hA
  have hK : K0 X q t k := hK
  have esi : siF X b t (nI t) q 0 Ja = (toF X b t (nI t) (q - k) k (Ja, lk)).1 := siF_K hQ hc (by omega) hK
  have hA2 := AI_to (p := nI t) hb (by omega : t ≤ 40) hQ (q - k) k (Ja, lk) (by have := hK.1; omega) hA
  refine ⟨fun hc1 => ?_, fun hc1 => ?_⟩
  · have htc : t = c := by
      have := (nI_leI (by omega) (by omega)).mp hc1
      omega
    subst htc
    refine n2_sentIn (hM.f6 hI) (hQM.fr hI) hQ hc hq s4' hb (by omega) s1' hA hP (fun J2 b1 b2 b3 => ?_)
    rw [esi] at b1
    refine hf I' J2 S' ?_ ?_ (hG.tr b2) hS
    · rw [eanT]
      exact b1
    · rw [eanT, b3 28 (by omega) (by omega)]
      exact h28
  · have htc : t < c := nI_nleN (by omega) ht hc1
    refine n2_sentIn (hM.f6 hI) (hQM.fr hI) hQ hc hq s4' hb (by omega) s1' hA hP (fun J2 b1 b2 b3 => ?_)
    rw [esi] at b1
    refine n2_closes (l := 1) (r := 0) (ci := ci) (Ia := Ia) (hM.f6 hI) (hSM.f6 hI) (hRM.f6 hI) hB hSt hRp hb s1' (by omega) (by omega) (fun h => absurd h (by omega)) ⟨b1.1, fun h => absurd h (by omega), hA2.1⟩ b1 (by rw [b3 28 (by omega) (by omega)]; exact h28) hA2.2.1 (by omega) hA2.2.2.1 (by omega) hA2.2.2.2.1 (fun I3 J3 S3 d => ?_)
    obtain ⟨d1, d2, d3, d4, d5⟩ := d
    intro x2 ex2
    refine ⟨c - (t + 1), by omega, rfl, t + 1, by omega, by rw [ex2]; exact nI_1 t, rfl, ?_, ?_, (hG.tr b2).tr d4, hS.tr d5⟩
    · rw [eanS]
      exact d1
    · rw [eanS]
      exact d3
/-- what a HAND's DUES, PURSE, less DEBT come to -/
def wF (D : Nat → Int32) (J : TJ) (h : Nat) : Int64 := dsF D h 40 0 0 * 1000000 + J 26 h - J 27 h
theorem n2_duesOf {l h : Nat} {D : Nat → Int32} {Φ : Int64 → TI → TJ → TS → TL → Prop} (hl : l < 2) (hh : h < 12) (hD : ∀ h t, h < 12 → t < 40 → I 26 ((l * 12 + h) * 40 + t) = D (h * 40 + t)) (hf : Φ (dsF D h 40 0 0) I J S L) : wp_X8_duesOf I J S L (nI l) (nI h) Φ := by
  unfold wp_X8_duesOf
  generalize hR0 : dsF D h 40 0 0 = R at hf
  refine ⟨fun n I' J' S' L' y x => I' = I ∧ J' = J ∧ S' = S ∧ L' = L ∧ ∃ m, m ≤ 40 ∧ x = nI m ∧ n = 40 - m ∧ R = dsF D h (40 - m) m y, ⟨40, rfl, rfl, rfl, rfl, 0, by omega, rfl, rfl, hR0.symm⟩, ?_⟩
  rintro n I' J' S' L' y x ⟨rfl, rfl, rfl, rfl, m, hm, rfl, rfl, hR⟩
  refine ⟨fun hc => ?_, fun hc => ?_⟩
  · have : 40 - m = 0 := by
      have := (nI_leI (a := 40) (by omega) (by omega)).mp hc
      omega
    rw [this] at hR
    have hR : R = y := hR
    rw [← hR]
    exact hf
  have hm2 : m < 40 := nI_nleN (N := 40) (by omega) hm hc
  unfold wp_X8_dueAt
  rw [edue]
  dsimp only
  rw [clN (show (l * 12 + h) * 40 + m < 2 ^ 31 by omega), hD h m hh hm2]
  refine ⟨vp_in_nI (by omega) (by omega), fun y2 ey2 x2 ex2 => ⟨40 - (m + 1), by omega, rfl, rfl, rfl, rfl, m + 1, by omega, by rw [ex2]; exact nI_1 m, rfl, ?_⟩⟩
  rw [hR, show 40 - m = (40 - (m + 1)) + 1 by omega, ey2]
  rfl
theorem n2_worth {l h : Nat} {D : Nat → Int32} {Ja : TJ} {Φ : Int64 → TI → TJ → TS → TL → Prop} (hl : l < 2) (hh : h < 12) (hP : MP l X D Ja I J) (hf : Φ (wF D Ja h) I J S L) : wp_X8_worth I J S L (nI l) (nI h) Φ := by
  unfold wp_X8_worth
  refine n2_duesOf hl hh hP.2.2.1 ?_
  rw [e12, clN (show 12 * l + h < 2 ^ 31 by omega), hP.1.1 h hh, hP.2.1 h hh]
  have hv : vp_in (nI (12 * l + h)) 24 := vp_in_nI (by omega) (by omega)
  exact ⟨hv, hv, hf⟩
theorem n2_owed {h : Nat} {D D1 : Nat → Int32} {Ja J1 : TJ} {Φ : Int64 → TI → TJ → TS → TL → Prop} (hh : h < 12) (hP : MP 0 X D Ja I J) (hP1 : MP 1 X D1 J1 I J) (hf : Φ (wF D1 J1 h - wF D Ja h) I J S L) : wp_X8_owed I J S L (nI h) Φ := by
  unfold wp_X8_owed
  exact n2_worth (l := 1) (by omega) hh hP1 (n2_worth (l := 0) (by omega) hh hP hf)
/-- a reckoning ANEW leaves the standing ledger -/
theorem MP.g0 {D : Nat → Int32} {Ja : TJ} {I I' : TI} {J J' : TJ} (h : MP 0 X D Ja I J) (g : MG 1 I I' J J') : MP 0 X D Ja I' J' := by
  obtain ⟨⟨a1, a2, a3, a4⟩, b, c, d⟩ := h
  obtain ⟨g1, g2, g3, g4, g5, g6, g7, g8⟩ := g
  refine ⟨⟨fun k hk => by rw [(g3 _ (by omega)).2.1]; exact a1 k hk, fun k hk => by rw [(g6 _ (by omega)).1]; exact a2 k hk, fun k hk h2 => by rw [(g6 _ (by omega)).2]; exact a3 k hk h2, fun k u hk hu => by rw [g7 _ (by omega)]; exact a4 k u hk hu⟩, fun k hk => by rw [(g3 _ (by omega)).2.2]; exact b k hk, fun k u hk hu => by rw [g2 _ (by omega)]; exact c k u hk hu, fun k hk => by rw [(g3 _ (by omega)).1]; exact d k hk⟩
theorem MRc.g0 {N : Nat} {Ia : TI} {Ja : TJ} {I I' : TI} {J J' : TJ} {S S' : TS} (h : MRc (fun _ => False) Ia Ja N I J S) (g : MG 1 I I' J J') (hS : MFs 1 S S') : MRc (fun _ => False) Ia Ja N I' J' S' := by
  obtain ⟨g1, g2, g3, g4, g5, g6, g7, g8⟩ := g
  obtain ⟨e1, e2, e3, e4, e5⟩ := g4 (by omega)
  unfold MRc
  rw [e1, e2, e3, e4, e5, hS.2 (by omega)]
  exact h
/-- a sum over HANDS -/
def osF (f : Nat → Int64) : Nat → Nat → Int64 → Int64
  | 0, _, y => y
  | j + 1, h, y => osF f j (h + 1) (y + f h)
def ocF (f : Nat → Int64) : Nat → Nat → Int32 → Int32
  | 0, _, x => x
  | j + 1, h, x => ocF f j (h + 1) (if f h = 0 then x else x + 1)
theorem dsF_z {D : Nat → Int32} {h : Nat} : ∀ (j t : Nat) (y : Int64), (∀ u, t ≤ u → u < t + j → D (h * 40 + u) = 0) → dsF D h j t y = y
  | 0, _, _, _ => rfl
  | j + 1, t, y, hz => by
    show dsF D h j (t + 1) (y + (D (h * 40 + t)).toInt64) = y
    rw [hz t (Nat.le_refl _) (by omega), show ((0 : Int32)).toInt64 = 0 by decide, Int64.add_zero]
    exact dsF_z j (t + 1) y (fun u h1 h2 => hz u (by omega) (by omega))
theorem dsF_add {D : Nat → Int32} {h : Nat} : ∀ (i j t : Nat) (y : Int64), dsF D h (i + j) t y = dsF D h j (t + i) (dsF D h i t y)
  | 0, j, t, y => by rw [Nat.zero_add]; rfl
  | i + 1, j, t, y => by
    rw [show i + 1 + j = (i + j) + 1 by omega]
    show dsF D h (i + j) (t + 1) (y + (D (h * 40 + t)).toInt64) = dsF D h j (t + (i + 1)) (dsF D h i (t + 1) (y + (D (h * 40 + t)).toInt64))
    rw [dsF_add i j (t + 1), show t + 1 + i = t + (i + 1) by omega]
/-- DUES of TERMS that are not CLOSED add nothing -/
theorem ds_c {D : Nat → Int32} {h c : Nat} (hD : DI c D) (hh : h < 12) (hc : c ≤ 40) : dsF D h 40 0 0 = dsF D h c 0 0 := by
  have := dsF_add (D := D) (h := h) c (40 - c) 0 0
  rw [show c + (40 - c) = 40 by omega] at this
  rw [this]
  exact dsF_z (40 - c) (0 + c) _ (fun u h1 h2 => (hD h u hh (by omega)).2 (by omega))
end
