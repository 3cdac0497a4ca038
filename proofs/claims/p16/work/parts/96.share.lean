theorem P1_r {x : Int32} (h : P1k x) : 0 ≤ x.toInt ∧ x.toInt ≤ 1000 := by
  obtain ⟨h0, h1⟩ := h
  have a : ¬ x.toInt < (1 : Int32).toInt := fun k => h0 (vi_lt.mpr k)
  have b : ¬ (1000 : Int32).toInt < x.toInt := fun k => h1 (vi_lt.mpr k)
  have e0 : (1 : Int32).toInt = 1 := by decide
  have e1 : (1000 : Int32).toInt = 1000 := by decide
  omega
theorem Sh_r {h p : Int32} (g : Sh h p) : ((h = -1 ∧ p = 0) ∨ (W12 h ∧ 0 ≤ p.toInt ∧ p.toInt ≤ 1000)) ∧ 0 ≤ p.toInt ∧ p.toInt ≤ 1000 := by
  rcases g with ⟨a, e⟩ | ⟨-, a, e⟩
  · have : p.toInt = 0 := by rw [e]; decide
    exact ⟨Or.inl ⟨a, e⟩, by omega, by omega⟩
  · have := P1_r e
    exact ⟨Or.inr ⟨a, this⟩, this⟩
theorem sum_r {x y z : Int32} (hx : 0 ≤ x.toInt ∧ x.toInt ≤ 1000) (hy : 0 ≤ y.toInt ∧ y.toInt ≤ 1000) (hz : 0 ≤ z.toInt ∧ z.toInt ≤ 1000) (h : x + y + z = 1000) : x.toInt + y.toInt + z.toInt = 1000 := by
  have e := congrArg Int32.toInt h
  rw [Int32.toInt_add, Int32.toInt_add, Int.bmod_eq_of_le (n := x.toInt + y.toInt) (by omega) (by omega), Int.bmod_eq_of_le (by omega) (by omega), show (1000 : Int32).toInt = 1000 by decide] at e
  exact e
theorem dc_t {x : Int32} {t c : Nat} (h : t ≤ c) (hc : c ≤ 40) (g : ¬ x < nI (c * 90)) : ¬ x < nI (t * 90) := by
  intro k
  refine g (vi_lt.mpr ?_)
  have k := vi_lt.mp k
  rw [nI_toInt (by omega)] at k ⊢
  omega
/-- one more set of SHARES -/
def ShX (I I1 : TI) (j k : Nat) (p1 p2 p3 p4 p5 p6 p7 : Int32) : Prop := (∀ n, n ≠ 1 → n ≠ 2 → n ≠ 3 → n ≠ 4 → I1 n = I n) ∧ I1 1 = upd (I 1) j (nI (k + 1)) ∧ I1 2 = upd (I 2) (j * 6 + k) p1 ∧ I1 3 = upd (upd (upd (I 3) ((j * 6 + k) * 3) p2) ((j * 6 + k) * 3 + 1) p4) ((j * 6 + k) * 3 + 2) p6 ∧ I1 4 = upd (upd (upd (I 4) ((j * 6 + k) * 3) p3) ((j * 6 + k) * 3 + 1) p5) ((j * 6 + k) * 3 + 2) p7
theorem StX.set {I I1 : TI} {j k : Nat} {p1 p2 p3 p4 p5 p6 p7 : Int32} (h : StX I) (hj : j < 12) (hk : k < 6) (ek : I 1 j = nI k) (ha : W12 p2) (hpa : P1k p3) (hb : Sh p4 p5) (hc : Sh p6 p7) (hs : p3 + p5 + p7 = 1000) (f : ShX I I1 j k p1 p2 p3 p4 p5 p6 p7) : StX I1 := by
  obtain ⟨-, f1, -, f3, f4⟩ := f
  refine ⟨fun w hw => ?_, fun i hi => ?_, fun w kk k' hw h6 e1 hk' => ?_⟩
  · rw [f1]
    by_cases g : w = j
    · rw [g, pk_us]; exact ⟨k + 1, by omega, rfl⟩
    · rw [pk_un g]; exact h.1 w hw
  · rw [f3, f4]
    by_cases i2 : i = (j * 6 + k) * 3 + 2
    · rw [i2, pk_us, pk_us]; exact (Sh_r hc).1
    · rw [pk_un i2, pk_un i2]
      by_cases i1 : i = (j * 6 + k) * 3 + 1
      · rw [i1, pk_us, pk_us]; exact (Sh_r hb).1
      · rw [pk_un i1, pk_un i1]
        by_cases i0 : i = (j * 6 + k) * 3
        · rw [i0, pk_us, pk_us]; exact Or.inr ⟨ha, P1_r hpa⟩
        · rw [pk_un i0, pk_un i0]; exact h.2.1 i hi
  · rw [f1] at e1
    rw [f4]
    by_cases g : w = j
    · subst g
      rw [pk_us] at e1
      have ekk : k + 1 = kk := (nI_eq (by omega) (by omega)).mp e1
      by_cases g2 : k' = k
      · subst g2
        rw [pk_un (show (w * 6 + k') * 3 ≠ (w * 6 + k') * 3 + 2 by omega), pk_un (show (w * 6 + k') * 3 ≠ (w * 6 + k') * 3 + 1 by omega), pk_us, pk_un (show (w * 6 + k') * 3 + 1 ≠ (w * 6 + k') * 3 + 2 by omega), pk_us, pk_us]
        exact sum_r (P1_r hpa) (Sh_r hb).2 (Sh_r hc).2 hs
      · rw [pk_un (by omega), pk_un (by omega), pk_un (by omega), pk_un (by omega), pk_un (by omega), pk_un (by omega), pk_un (by omega), pk_un (by omega), pk_un (by omega)]
        exact h.2.2 w k k' hw (by omega) ek (by omega)
    · rw [pk_un g] at e1
      rw [pk_un (by omega), pk_un (by omega), pk_un (by omega), pk_un (by omega), pk_un (by omega), pk_un (by omega), pk_un (by omega), pk_un (by omega), pk_un (by omega)]
      exact h.2.2 w kk k' hw h6 e1 hk'
theorem RpX.set {I I1 : TI} {j k : Nat} {p1 p2 p3 p4 p5 p6 p7 : Int32} (h : RpX I) (hj : j < 12) (hk : k < 6) (f : ShX I I1 j k p1 p2 p3 p4 p5 p6 p7) : RpX I1 := by
  obtain ⟨fN, f1, -⟩ := f
  refine ⟨fun i hi => by rw [fN 15 (by omega) (by omega) (by omega) (by omega)]; exact h.1 i hi, fun t ht => ?_⟩
  obtain ⟨z, hz, ez, ho⟩ := h.2 t ht
  refine ⟨z, hz, by rw [fN 19 (by omega) (by omega) (by omega) (by omega)]; exact ez, fun i hi => ?_⟩
  obtain ⟨w, kk, hw, e18, h1, h6, e1⟩ := ho i hi
  rw [fN 18 (by omega) (by omega) (by omega) (by omega), f1]
  by_cases g : w = j
  · exact ⟨w, k + 1, hw, e18, by omega, by omega, by rw [g, pk_us]⟩
  · exact ⟨w, kk, hw, e18, h1, h6, by rw [pk_un g]; exact e1⟩
theorem XE.set {I I1 : TI} {j k t c b : Nat} {p1 p2 p3 p4 p5 p6 p7 : Int32} (h : StX I) (hb : b ≤ 24) (hj : j < 12) (hk : k < 6) (ek : I 1 j = nI k) (ht : t ≤ c) (hc : c ≤ 40) (hd : Dc c p1) (f : ShX I I1 j k p1 p2 p3 p4 p5 p6 p7) : XE t b b I I1 := by
  obtain ⟨fN, f1, f2, f3, f4⟩ := f
  have e : ∀ n, 5 ≤ n → I1 n = I n := fun n hn => fN n (by omega) (by omega) (by omega) (by omega)
  refine ⟨⟨Nat.le_refl _, hb⟩, fun k _ g1 g2 _ => by rw [e k (by omega)], fun n g1 g2 => absurd g2 (by omega), fun w hw => ?_, fun u hu => ⟨by rw [e 19 (by omega)], by rw [e 20 (by omega)], fun i hi => ⟨by rw [e 18 (by omega)], by rw [e 16 (by omega)], fun m hm => by rw [e 15 (by omega)]⟩⟩⟩
  rw [f1, f2, f3, f4]
  by_cases g : w = j
  · subst g
    refine ⟨k, k + 1, by omega, by omega, ek, pk_us, fun k' hk' => by rw [pk_un (by omega)], fun k' e hk' he => ⟨by rw [pk_un (by omega), pk_un (by omega), pk_un (by omega)], by rw [pk_un (by omega), pk_un (by omega), pk_un (by omega)]⟩, fun k' h1 h2 => ?_⟩
    have : k' = k := by omega
    subst this
    rw [pk_us]
    exact dc_t ht hc hd.1
  · obtain ⟨kk, h6, e1⟩ := h.1 w hw
    exact ⟨kk, kk, Nat.le_refl _, h6, e1, by rw [pk_un g]; exact e1, fun k' hk' => by rw [pk_un (by omega)], fun k' e hk' he => ⟨by rw [pk_un (by omega), pk_un (by omega), pk_un (by omega)], by rw [pk_un (by omega), pk_un (by omega), pk_un (by omega)]⟩, fun k' h1 h2 => absurd h2 (by omega)⟩
section
variable {n0 n1 : Nat} {I I1 I2 Im Im1 Im2 : TI} {J J1 Jm Jm1 : TJ} {S S1 Sm Sm1 : TS} {L L1 Lm Lm1 : TL} {c b q t w j k : Nat} {Z : TK} {p0 p1 p2 p3 p4 p5 p6 p7 : Int32}
theorem ShX.fo (hF : FO c b q Z I J S L) (hj : j < 12) (hk : k < 6) (ek : I 1 j = nI k) (hd : Dc c p1) (ha : W12 p2) (hpa : P1k p3) (hb : Sh p4 p5) (hc3 : Sh p6 p7) (hs : p3 + p5 + p7 = 1000) (f : ShX I I1 j k p1 p2 p3 p4 p5 p6 p7) : FO c b q Z I1 J S L := by
  obtain ⟨hO, hX, hss, hA, k2, t, hV, hk2, ht, hge⟩ := hF
  obtain ⟨hB, hC, hc, h3, h7, hq, h6, h10⟩ := id hO
  obtain ⟨⟨hbb, hBg, hNB⟩, hS, hRp, hPX, hq6, hQ⟩ := id hX
  have e : ∀ n, 5 ≤ n → I1 n = I n := fun n hn => f.1 n (by omega) (by omega) (by omega) (by omega)
  have hS1 := hS.set hj hk ek ha hpa hb hc3 hs f
  refine ⟨⟨hB.keep hS1.sts e rfl rfl, hC.same (e 19 (by omega)) (e 16 (by omega)), hc, h3, h7, hq, h6, h10⟩, ⟨⟨hbb, ?_, ?_⟩, hS1, hRp.set hj hk f, hPX.fr (fun k _ _ => e k (by omega)), hq6, hQ.fr2 (e 22 (by omega)) (e 23 (by omega)) (e 24 (by omega))⟩, hss, ?_, k2, t, ?_, hk2, ht, fun i g1 g2 => ?_⟩
  · unfold BgX at hBg ⊢
    rw [e 7 (by omega), e 6 (by omega), e 10 (by omega), e 11 (by omega), e 12 (by omega), e 13 (by omega)]
    exact hBg
  · unfold NB at hNB ⊢
    rw [e 6 (by omega)]
    exact hNB
  · rw [e 29 (by omega)]
    exact hA.fr (e 6 (by omega)) (e 10 (by omega)) rfl rfl rfl rfl
  · exact hV.ext (XE.set hS hbb hj hk ek ht hc hd f) (by omega) hBg hS hRp (fun k _ => ⟨by rw [e 22 (by omega)], by rw [e 23 (by omega)], by rw [e 24 (by omega)]⟩) (fun k h1 h2 => ⟨e k (by omega), rfl⟩) rfl rfl rfl rfl rfl
  · have : tmF I1 i = tmF I i := by unfold tmF; rw [e 24 (by omega)]
    rw [this]
    exact hge i g1 g2
def ShO (c b q : Nat) (Z : TK) (p0 p1 p2 p3 p4 p5 p6 p7 : Int32) (I : TI) (J : TJ) (S : TS) (L : TL) (I1 : TI) (J1 : TJ) (S1 : TS) (L1 : TL) : Prop := ∃ j k : Nat, j < 12 ∧ p0 = nI j ∧ k < 6 ∧ I 1 j = nI k ∧ ShX I I1 j k p1 p2 p3 p4 p5 p6 p7 ∧ (J1 = J ∧ S1 = S ∧ L1 = L) ∧ FO c b q Z I1 J1 S1 L1
def ShM (c b : Nat) (p0 p1 p2 p3 p4 p5 p6 p7 : Int32) (Im : TI) (Jm : TJ) (Sm : TS) (Lm : TL) (Im1 : TI) (Jm1 : TJ) (Sm1 : TS) (Lm1 : TL) : Prop := ∃ j k : Nat, j < 12 ∧ p0 = nI j ∧ k < 6 ∧ Im 1 j = nI k ∧ ShX Im Im1 j k p1 p2 p3 p4 p5 p6 p7 ∧ (Jm1 = Jm ∧ Sm1 = Sm ∧ Lm1 = Lm) ∧ InvM c b Im1 Sm1
theorem u_shareTail {Φ : Int32 → TI → TJ → TS → TL → Prop} (hj : j < 12) (hk : k < 6) (ek : I 1 j = nI k) (hf : ∀ I' : TI, ShX I I' j k p1 p2 p3 p4 p5 p6 p7 → Φ (nI k + 1) I' J S L) : wp_X6_addSet_O 600 0 I J S L (nI j) p1 (fun r I J S L => wp_X6_put_O 600 0 I J S L r 0 p2 p3 (fun I J S L => wp_X6_put_O 600 0 I J S L r 1 p4 p5 (fun I J S L => wp_X6_put_O 600 0 I J S L r 2 p6 p7 (fun I J S L => vp_in (nI j) 12 ∧ Φ (I 1 (nI j).toNatClampNeg) I J S L)))) := by
  have hi : vp_in (nI j) 12 := vp_in_nI hj (by omega)
  unfold wp_X6_addSet_O wp_X6_addSet
  rw [clN (by omega), ek, show (6 : Int32) = nI 6 from rfl, pk_mul, nI_add]
  refine ⟨hi, fun x hx => ?_⟩
  subst hx
  rw [clN (by omega)]
  refine ⟨vp_in_nI (by omega) (by omega), fun I1 e1 => ⟨hi, hi, fun I2 e2 => ?_⟩⟩
  have a1 : I2 1 = upd (I 1) j (nI k + 1) := by
    rw [e2, va_up_self, e1, va_up_ne _ _ (by omega), ek]
  have a2 : I2 2 = upd (I 2) (j * 6 + k) p1 := by rw [e2, va_up_ne _ _ (by omega), e1, va_up_self]
  have aN : ∀ n, n ≠ 1 → n ≠ 2 → I2 n = I n := fun n g1 g2 => by rw [e2, va_up_ne _ _ g1, e1, va_up_ne _ _ g2]
  have e3 : ∀ d : Nat, nI (j * 6 + k) * (3 : Int32) + nI d = nI ((j * 6 + k) * 3 + d) := fun d => by rw [show (3 : Int32) = nI 3 from rfl, pk_mul, nI_add]
  show wp_X6_put_O 600 0 I2 J (va_up S 0 (S 0)) L _ _ _ _ _
  rw [up_same]
  refine s_put2 (e3 0) (by omega) (fun I3 b b3 b4 => ?_)
  refine s_put2 (e3 1) (by omega) (fun I4 d d3 d4 => ?_)
  refine s_put2 (e3 2) (by omega) (fun I5 f f3 f4 => ?_)
  refine ⟨hi, ?_⟩
  have z1 : I5 1 = upd (I 1) j (nI k + 1) := by rw [f 1 (by omega) (by omega), d 1 (by omega) (by omega), b 1 (by omega) (by omega), a1]
  rw [show I5 1 j = nI k + 1 by rw [z1]; exact pk_us]
  refine hf I5 ⟨fun n g1 g2 g3 g4 => by rw [f n g3 g4, d n g3 g4, b n g3 g4, aN n g1 g2], by rw [z1, nI_1], by rw [f 2 (by omega) (by omega), d 2 (by omega) (by omega), b 2 (by omega) (by omega), a2], ?_, ?_⟩
  · rw [f3, d3, b3, aN 3 (by omega) (by omega), Nat.add_zero]
  · rw [f4, d4, b4, aN 4 (by omega) (by omega), Nat.add_zero]
set_option maxHeartbeats 1000000 in
theorem u_X7_share (p0 p1 p2 p3 p4 p5 p6 p7 : Int32) (hR : R2 c b q Z I J S L Im Jm Sm Lm) : wp_X7_share 600 0 I J S L p0 p1 p2 p3 p4 p5 p6 p7 (fun _ I1 J1 S1 L1 => (OKx c (I 1) (I 2) p0 p1 p2 p3 p4 p5 p6 p7 ∧ ShO c b q Z p0 p1 p2 p3 p4 p5 p6 p7 I J S L I1 J1 S1 L1) ∨ (¬ OKx c (I 1) (I 2) p0 p1 p2 p3 p4 p5 p6 p7 ∧ E4 I J S L I1 J1 S1 L1)) := by
  have hF := hR.1
  have h := hF.1
  clear hR
  obtain ⟨hB, hC, hc, h3, h7, hq, h6, h10⟩ := id h
  have hSt := hB.2.1
  have N : ¬ OKx c (I 1) (I 2) p0 p1 p2 p3 p4 p5 p6 p7 → (OKx c (I 1) (I 2) p0 p1 p2 p3 p4 p5 p6 p7 ∧ ShO c b q Z p0 p1 p2 p3 p4 p5 p6 p7 I J S L I J S L) ∨ (¬ OKx c (I 1) (I 2) p0 p1 p2 p3 p4 p5 p6 p7 ∧ E4 I J S L I J S L) := fun hn => Or.inr ⟨hn, rfl, rfl, rfl, rfl⟩
  unfold wp_X7_share
  refine s_X7_isWork (fun hw => ?_) (fun hw => ⟨_, fun _ _ _ _ hB => hB, fun _ => N (fun k => hw k.1), fun hc => absurd rfl hc⟩)
  refine ⟨_, fun _ _ _ _ hB => hB, fun hc => absurd hc (by decide), fun _ => ?_⟩
  refine t_dayAhead h3 (fun hd => ⟨fun hc => absurd hc (by decide), fun _ => ?_⟩) (fun hd => ⟨fun _ => N (fun k => hd k.2.1), fun hc => absurd rfl hc⟩)
  obtain ⟨j, hj, ej⟩ := W12_cases hw
  subst ej
  have ecl : (nI j).toNatClampNeg = j := clN (by omega)
  refine t_hasRoom_O hj (hSt.1 j hj) (fun hr => ⟨fun _ => ?_, fun hc => absurd hc (by decide)⟩) (fun hr => ⟨fun hc => absurd rfl hc, fun _ => N (fun k => hr (by have := k.2.2.1; rw [ecl] at this; exact this))⟩)
  refine s_X7_isHand (fun ha => ?_) (fun ha => ⟨_, fun _ _ _ _ hB => hB, fun _ => N (fun k => ha k.2.2.2.1), fun hc => absurd rfl hc⟩)
  refine ⟨_, fun _ _ _ _ hB => hB, fun hc => absurd hc (by decide), fun _ => ?_⟩
  refine s_X7_isPart (fun hpa => ⟨fun hc => absurd hc (by decide), fun _ => ?_⟩) (fun hpa => ⟨fun _ => N (fun k => hpa k.2.2.2.2.1), fun hc => absurd rfl hc⟩)
  refine s_X7_isSharer (fun hb => ⟨fun hc => absurd hc (by decide), fun _ => ?_⟩) (fun hb => ⟨fun _ => N (fun k => hb k.2.2.2.2.2.1), fun hc => absurd rfl hc⟩)
  refine s_X7_isSharer (fun hc3 => ⟨fun _ => ?_, fun hc => absurd hc (by decide)⟩) (fun hc3 => ⟨fun hc => absurd rfl hc, fun _ => N (fun k => hc3 k.2.2.2.2.2.2.1)⟩)
  refine ⟨fun I' J' S' L' s => I' = I ∧ J' = J ∧ S' = S ∧ L' = L ∧ ((s = 0 ∧ ¬ (p4 = -1 ∧ ¬ p6 = -1)) ∨ (s = 1 ∧ (p4 = -1 ∧ ¬ p6 = -1))), ?_, fun I' J' S' L' => I' = I ∧ J' = J ∧ S' = S ∧ L' = L ∧ ¬ (p4 = -1 ∧ ¬ p6 = -1), ?_, fun h4 => ⟨rfl, rfl, rfl, rfl, fun k => h4 k.1⟩, fun h4 => ⟨fun h6 => ⟨rfl, rfl, rfl, rfl, fun k => k.2 h6⟩, fun h6 => ⟨rfl, rfl, rfl, rfl, Or.inr ⟨rfl, h4, h6⟩⟩⟩⟩
  · rintro I' J' S' L' s ⟨rfl, rfl, rfl, rfl, hg⟩
    have st : I' = I' ∧ J' = J' ∧ S' = S' ∧ L' = L' := ⟨rfl, rfl, rfl, rfl⟩
    refine ⟨fun I2 J2 S2 L2 x s2 => (I2 = I' ∧ J2 = J' ∧ S2 = S' ∧ L2 = L') ∧ x = s ∧ ((s2 = 0 ∧ ¬ p2 = p4 ∧ ¬ p2 = p6 ∧ ¬ (¬ p4 = -1 ∧ p4 = p6)) ∨ (s2 = 1 ∧ ¬ (¬ p2 = p4 ∧ ¬ p2 = p6 ∧ ¬ (¬ p4 = -1 ∧ p4 = p6)))), ?_, fun I2 J2 S2 L2 x => (I2 = I' ∧ J2 = J' ∧ S2 = S' ∧ L2 = L') ∧ x = s ∧ ¬ (¬ p2 = p4 ∧ ¬ p2 = p6 ∧ ¬ (¬ p4 = -1 ∧ p4 = p6)), ?_, fun e => ⟨st, rfl, fun k => k.1 e⟩, fun e24 => ⟨fun e => ⟨st, rfl, fun k => k.2.1 e⟩, fun e26 => ⟨fun I2 J2 S2 L2 x => (I2 = I' ∧ J2 = J' ∧ S2 = S' ∧ L2 = L') ∧ x = s ∧ (¬ p2 = p4 ∧ ¬ p2 = p6 ∧ ¬ (¬ p4 = -1 ∧ p4 = p6)), ?_, fun e4 => ⟨st, rfl, e24, e26, fun k => k.1 e4⟩, fun e4 => ⟨fun e46 => ⟨st, rfl, e24, e26, fun k => e46 k.2⟩, fun e46 => ⟨st, rfl, fun k => k.2.2 ⟨e4, e46⟩⟩⟩⟩⟩⟩
    · rintro I2 J2 S2 L2 x s2 ⟨⟨rfl, rfl, rfl, rfl⟩, rfl, hal⟩
      refine ⟨_, fun _ _ _ _ hB => hB, fun hx => N (fun k => ?_), fun hx => ⟨fun hs => N (fun k => ?_), fun hs => ⟨fun hsum => ?_, fun hsum => N (fun k => hsum k.2.2.2.2.2.2.2.2.2.2.2)⟩⟩⟩
      · rcases hg with ⟨g, _⟩ | ⟨_, g⟩
        · exact hx g
        · exact k.2.2.2.2.2.2.2.1 g
      · rcases hal with ⟨g, _⟩ | ⟨_, g⟩
        · exact hs g
        · exact g ⟨k.2.2.2.2.2.2.2.2.1, k.2.2.2.2.2.2.2.2.2.1, k.2.2.2.2.2.2.2.2.2.2.1⟩
      · have hG : ¬ (p4 = -1 ∧ ¬ p6 = -1) := by
          rcases hg with ⟨_, g⟩ | ⟨g, _⟩
          · exact g
          · rw [hx] at g; exact absurd g (by decide)
        have hA : ¬ p2 = p4 ∧ ¬ p2 = p6 ∧ ¬ (¬ p4 = -1 ∧ p4 = p6) := by
          rcases hal with ⟨_, g⟩ | ⟨g, _⟩
          · exact g
          · rw [hs] at g; exact absurd g (by decide)
        obtain ⟨k, ek, hk, hor⟩ := id hr
        refine u_shareTail (Φ := fun _ I1 J1 S1 L1 => (OKx c (I2 1) (I2 2) (nI j) p1 p2 p3 p4 p5 p6 p7 ∧ ShO c b q Z (nI j) p1 p2 p3 p4 p5 p6 p7 I2 J2 S2 L2 I1 J1 S1 L1) ∨ (¬ OKx c (I2 1) (I2 2) (nI j) p1 p2 p3 p4 p5 p6 p7 ∧ E4 I2 J2 S2 L2 I1 J1 S1 L1)) hj hk ek (fun I3 f => ?_)
        exact Or.inl ⟨⟨hw, hd, by rw [ecl]; exact hr, ha, hpa, hb, hc3, hG, hA.1, hA.2.1, hA.2.2, hsum⟩, j, k, hj, rfl, hk, ek, f, ⟨rfl, rfl, rfl⟩, f.fo hF hj hk ek hd ha hpa hb hc3 hsum⟩
    · rintro I2 J2 S2 L2 x ⟨g, rfl, hn⟩
      exact ⟨g, rfl, Or.inr ⟨rfl, hn⟩⟩
    · rintro I2 J2 S2 L2 x ⟨g, rfl, hn⟩
      exact ⟨g, rfl, Or.inl ⟨rfl, hn⟩⟩
  · rintro I' J' S' L' ⟨rfl, rfl, rfl, rfl, hg⟩
    exact ⟨rfl, rfl, rfl, rfl, Or.inl ⟨rfl, hg⟩⟩
set_option maxHeartbeats 2000000 in
theorem v_X8_share (p0 p1 p2 p3 p4 p5 p6 p7 : Int32) (h : InvM c b I S) : wp_X8_share I J S L p0 p1 p2 p3 p4 p5 p6 p7 (fun _ I1 J1 S1 L1 => (OKx c (I 1) (I 2) p0 p1 p2 p3 p4 p5 p6 p7 ∧ ShM c b p0 p1 p2 p3 p4 p5 p6 p7 I J S L I1 J1 S1 L1) ∨ (¬ OKx c (I 1) (I 2) p0 p1 p2 p3 p4 p5 p6 p7 ∧ E4 I J S L I1 J1 S1 L1)) := by
  obtain ⟨⟨hc, s0⟩, ⟨hb, s1, hB⟩, hSt, hOr, hCt, hQ⟩ := id h
  have N : ¬ OKx c (I 1) (I 2) p0 p1 p2 p3 p4 p5 p6 p7 → (OKx c (I 1) (I 2) p0 p1 p2 p3 p4 p5 p6 p7 ∧ ShM c b p0 p1 p2 p3 p4 p5 p6 p7 I J S L I J S L) ∨ (¬ OKx c (I 1) (I 2) p0 p1 p2 p3 p4 p5 p6 p7 ∧ E4 I J S L I J S L) := fun hn => Or.inr ⟨hn, rfl, rfl, rfl, rfl⟩
  unfold wp_X8_share
  refine s_X8_isWork (fun hw => ?_) (fun hw => ⟨_, fun _ _ _ _ hB => hB, fun _ => N (fun k => hw k.1), fun hc => absurd rfl hc⟩)
  refine ⟨_, fun _ _ _ _ hB => hB, fun hc => absurd hc (by decide), fun _ => ?_⟩
  refine s_X8_isHand (fun ha => ⟨fun hc => absurd hc (by decide), fun _ => ?_⟩) (fun ha => ⟨fun _ => N (fun k => ha k.2.2.2.1), fun hc => absurd rfl hc⟩)
  refine s_X8_isPartW ha (fun hpa => ⟨fun hc => absurd hc (by decide), fun _ => ?_⟩) (fun hpa => ⟨fun _ => N (fun k => hpa k.2.2.2.2.1), fun hc => absurd rfl hc⟩)
  refine s_X8_isPart (fun hb4 => ⟨fun hc => absurd hc (by decide), fun _ => ?_⟩) (fun hb4 => ⟨fun _ => N (fun k => hb4 k.2.2.2.2.2.1), fun hc => absurd rfl hc⟩)
  refine s_X8_isPart (fun hc6 => ⟨fun hc => absurd hc (by decide), fun _ => ?_⟩) (fun hc6 => ⟨fun _ => N (fun k => hc6 k.2.2.2.2.2.2.1), fun hc => absurd rfl hc⟩)
  refine ⟨fun I' J' S' L' => I' = I ∧ J' = J ∧ S' = S ∧ L' = L ∧ ¬ (p4 = -1 ∧ ¬ p6 = -1), ?_, fun h4 => ⟨rfl, rfl, rfl, rfl, fun k => h4 k.1⟩, fun h4 => ⟨fun h6 => ⟨rfl, rfl, rfl, rfl, fun k => k.2 h6⟩, fun h6 => N (fun k => k.2.2.2.2.2.2.2.1 ⟨h4, h6⟩)⟩⟩
  rintro I' J' S' L' ⟨rfl, rfl, rfl, rfl, hG⟩
  refine ⟨_, fun _ _ _ _ hB => hB, fun e => N (fun k => k.2.2.2.2.2.2.2.2.1 e), fun e24 => ⟨fun e => N (fun k => k.2.2.2.2.2.2.2.2.2.1 e), fun e26 => ?_⟩⟩
  refine ⟨fun I2 J2 S2 L2 => I2 = I' ∧ J2 = J' ∧ S2 = S' ∧ L2 = L' ∧ ¬ (¬ p4 = -1 ∧ p4 = p6), ?_, fun e46 => ⟨rfl, rfl, rfl, rfl, fun k => e46 k.2⟩, fun e46 => ⟨fun e4 => N (fun k => k.2.2.2.2.2.2.2.2.2.2.1 ⟨e4, e46⟩), fun e4 => ⟨rfl, rfl, rfl, rfl, fun k => k.1 e4⟩⟩⟩
  rintro I2 J2 S2 L2 ⟨rfl, rfl, rfl, rfl, hA⟩
  refine ⟨fun hsum => N (fun k => hsum k.2.2.2.2.2.2.2.2.2.2.2), fun hsum => ?_⟩
  refine m_isDay s0 (fun hd => ⟨fun _ => ?_, fun hc => absurd hc (by decide)⟩) (fun hd => ⟨fun hc => absurd rfl hc, fun _ => N (fun k => hd k.2.1)⟩)
  obtain ⟨j, hj, ej⟩ := W12_cases hw
  subst ej
  obtain ⟨k, hk6, ek⟩ := hSt.1 j hj
  have ecl : (nI j).toNatClampNeg = j := clN (by omega)
  have hi : vp_in (nI j) 12 := vp_in_nI hj (by omega)
  have u : ∀ {k' : Nat}, k' < 6 → I2 1 j = nI k' → k' = k := fun h e => (nI_eq (by omega) (by omega)).mp (e.symm.trans ek)
  have e6 : (6 : Int32) * nI j + nI k = nI (j * 6 + k) := by rw [show (6 : Int32) = nI 6 from rfl, pk_mul, nI_add, Nat.mul_comm]
  rw [ecl, ek]
  refine ⟨hi, fun x ex => ?_⟩
  subst ex
  refine ⟨_, fun _ _ _ _ hB => hB, fun h6 => N (fun kk => ?_), fun h6 => ?_⟩
  · obtain ⟨k', e', hk', -⟩ := kk.2.2.1
    rw [ecl] at e'
    have := u hk' e'
    have : k = 6 := (nI_eq (b := 6) (by omega) (by omega)).mp h6
    omega
  have hk5 : k < 6 := by
    rcases Nat.lt_or_ge k 6 with g | g
    · exact g
    · exact absurd (by rw [show k = 6 by omega]; rfl) h6
  refine ⟨fun I3 J3 S3 L3 x => I3 = I2 ∧ J3 = J2 ∧ S3 = S2 ∧ L3 = L2 ∧ x = nI k ∧ Rm (I2 1) (I2 2) j p1, ?_, fun h0 => ⟨rfl, rfl, rfl, rfl, rfl, ⟨k, ek, hk5, Or.inl ?_⟩⟩, fun h0 => ?_⟩
  · rintro I3 J3 S3 L3 x ⟨rfl, rfl, rfl, rfl, rfl, hr⟩ x63 e63
    rw [e6] at e63
    subst e63
    have e3 : (3 : Int32) * nI (j * 6 + k) = nI (3 * (j * 6 + k)) := by rw [show (3 : Int32) = nI 3 from rfl, pk_mul]
    rw [e3, show (1 : Int32) = nI 1 from rfl, show (2 : Int32) = nI 2 from rfl, nI_add, nI_add, nI_add, clN (show j * 6 + k < 2 ^ 31 by omega), clN (show 3 * (j * 6 + k) < 2 ^ 31 by omega), clN (show 3 * (j * 6 + k) + 1 < 2 ^ 31 by omega), clN (show 3 * (j * 6 + k) + 2 < 2 ^ 31 by omega)]
    have v0 : vp_in (nI (3 * (j * 6 + k))) 216 := vp_in_nI (by omega) (by omega)
    have v1 : vp_in (nI (3 * (j * 6 + k) + 1)) 216 := vp_in_nI (by omega) (by omega)
    have v2 : vp_in (nI (3 * (j * 6 + k) + 2)) 216 := vp_in_nI (by omega) (by omega)
    refine ⟨vp_in_nI (by omega) (by omega), fun I4 e4 => ⟨v0, fun I5 e5 => ⟨v1, fun I6 e6 => ⟨v2, fun I7 e7 => ⟨v0, fun I8 e8 => ⟨v1, fun I9 e9 => ⟨v2, fun I10 e10 => ⟨hi, fun I11 e11 => ?_⟩⟩⟩⟩⟩⟩⟩⟩
    have g4 : ∀ n, n ≠ 2 → I4 n = I3 n := fun n h => by rw [e4, va_up_ne _ _ h]
    have g5 : ∀ n, n ≠ 3 → I5 n = I4 n := fun n h => by rw [e5, va_up_ne _ _ h]
    have g6 : ∀ n, n ≠ 3 → I6 n = I5 n := fun n h => by rw [e6, va_up_ne _ _ h]
    have g7 : ∀ n, n ≠ 3 → I7 n = I6 n := fun n h => by rw [e7, va_up_ne _ _ h]
    have g8 : ∀ n, n ≠ 4 → I8 n = I7 n := fun n h => by rw [e8, va_up_ne _ _ h]
    have g9 : ∀ n, n ≠ 4 → I9 n = I8 n := fun n h => by rw [e9, va_up_ne _ _ h]
    have g10 : ∀ n, n ≠ 4 → I10 n = I9 n := fun n h => by rw [e10, va_up_ne _ _ h]
    have g11 : ∀ n, n ≠ 1 → I11 n = I10 n := fun n h => by rw [e11, va_up_ne _ _ h]
    have eN : ∀ n, n ≠ 1 → n ≠ 2 → n ≠ 3 → n ≠ 4 → I11 n = I3 n := fun n a1 a2 a3 a4 => by rw [g11 n a1, g10 n a4, g9 n a4, g8 n a4, g7 n a3, g6 n a3, g5 n a3, g4 n a2]
    have r1 : I11 1 = upd (I3 1) j (nI (k + 1)) := by rw [e11, va_up_self, g10 1 (by omega), g9 1 (by omega), g8 1 (by omega), g7 1 (by omega), g6 1 (by omega), g5 1 (by omega), g4 1 (by omega)]
    have r2 : I11 2 = upd (I3 2) (j * 6 + k) p1 := by rw [g11 2 (by omega), g10 2 (by omega), g9 2 (by omega), g8 2 (by omega), g7 2 (by omega), g6 2 (by omega), g5 2 (by omega), e4, va_up_self]
    have r3 : I11 3 = upd (upd (upd (I3 3) (3 * (j * 6 + k)) p2) (3 * (j * 6 + k) + 1) p4) (3 * (j * 6 + k) + 2) p6 := by rw [g11 3 (by omega), g10 3 (by omega), g9 3 (by omega), g8 3 (by omega), e7, va_up_self, e6, va_up_self, e5, va_up_self, g4 3 (by omega)]
    have sw : ∀ {x y : Int32}, Sh x y → x = -1 ∨ W12 x := fun g => by
      rcases Sh_or g with g | g
      · exact Or.inl g.1
      · exact Or.inr g
    have r4 : I11 4 = upd (upd (upd (I3 4) (3 * (j * 6 + k)) p3) (3 * (j * 6 + k) + 1) p5) (3 * (j * 6 + k) + 2) p7 := by rw [g11 4 (by omega), e10, va_up_self, e9, va_up_self, e8, va_up_self, g7 4 (by omega), g6 4 (by omega), g5 4 (by omega), g4 4 (by omega)]
    refine Or.inl ⟨⟨hw, hd, by rw [ecl]; exact hr, ha, hpa, hb4, hc6, hG, e24, e26, hA, hsum⟩, j, k, hj, rfl, hk5, ek, ⟨eN, r1, r2, by rw [Nat.mul_comm (j * 6 + k) 3]; exact r3, by rw [Nat.mul_comm (j * 6 + k) 3]; exact r4⟩, ⟨rfl, rfl, rfl⟩, ⟨hc, s0⟩, ⟨hb, s1, ?_⟩, ⟨fun w hw => ?_, fun i hi => ?_⟩, ?_, ?_, ?_⟩
    · unfold MBg
      rw [eN 6 (by omega) (by omega) (by omega) (by omega), eN 5 (by omega) (by omega) (by omega) (by omega), eN 12 (by omega) (by omega) (by omega) (by omega), eN 10 (by omega) (by omega) (by omega) (by omega)]
      exact hB
    · rw [r1]
      by_cases g : w = j
      · rw [g, pk_us]; exact ⟨k + 1, by omega, rfl⟩
      · rw [pk_un g]; exact hSt.1 w hw
    · rw [r3]
      by_cases i2 : i = 3 * (j * 6 + k) + 2
      · rw [i2, pk_us]; exact sw hc6
      · rw [pk_un i2]
        by_cases i1 : i = 3 * (j * 6 + k) + 1
        · rw [i1, pk_us]; exact sw hb4
        · rw [pk_un i1]
          by_cases i0 : i = 3 * (j * 6 + k)
          · rw [i0, pk_us]; exact Or.inr ha
          · rw [pk_un i0]; exact hSt.2 i hi
    · unfold MOr
      rw [eN 18 (by omega) (by omega) (by omega) (by omega), eN 17 (by omega) (by omega) (by omega) (by omega)]
      exact hOr
    · unfold MCt
      rw [eN 18 (by omega) (by omega) (by omega) (by omega), eN 16 (by omega) (by omega) (by omega) (by omega)]
      exact hCt
    · rw [eN 38 (by omega) (by omega) (by omega) (by omega)]
      exact hQ
  · rcases Nat.eq_zero_or_pos k with g | g
    · exact g
    · exact absurd h0 (nI_nle g (by omega))
  · have hk0 : k ≠ 0 := fun e => h0 (by rw [e]; decide)
    have ei : (6 : Int32) * nI j + nI k - 1 = nI (j * 6 + k - 1) := by rw [e6, show (1 : Int32) = nI 1 from rfl, pk_sub (by omega)]
    rw [ei, clN (by omega)]
    refine ⟨vp_in_nI (by omega) (by omega), fun hlt => ⟨rfl, rfl, rfl, rfl, rfl, ⟨k, ek, hk5, Or.inr hlt⟩⟩, fun hlt => N (fun kk => ?_)⟩
    obtain ⟨k', e', hk', hor⟩ := kk.2.2.1
    rw [ecl] at e' hor
    have := u hk' e'
    subst this
    rcases hor with g | g
    · exact hk0 g
    · exact hlt g
theorem u_X8_share (p0 p1 p2 p3 p4 p5 p6 p7 : Int32) (hR : R2 c b q Z I J S L Im Jm Sm Lm) : wp_X8_share Im Jm Sm Lm p0 p1 p2 p3 p4 p5 p6 p7 (fun _ I1 J1 S1 L1 => (OKx c (I 1) (I 2) p0 p1 p2 p3 p4 p5 p6 p7 ∧ ShM c b p0 p1 p2 p3 p4 p5 p6 p7 Im Jm Sm Lm I1 J1 S1 L1) ∨ (¬ OKx c (I 1) (I 2) p0 p1 p2 p3 p4 p5 p6 p7 ∧ E4 Im Jm Sm Lm I1 J1 S1 L1)) := by
  have e := hR.2.2.1.2.1
  rw [← e.1, ← e.2.1]
  exact v_X8_share p0 p1 p2 p3 p4 p5 p6 p7 hR.2.1
theorem rr_share (hR : R2 c b q Z I J S L Im Jm Sm Lm) (h1 : (OKx c (I 1) (I 2) p0 p1 p2 p3 p4 p5 p6 p7 ∧ ShO c b q Z p0 p1 p2 p3 p4 p5 p6 p7 I J S L I1 J1 S1 L1) ∨ (¬ OKx c (I 1) (I 2) p0 p1 p2 p3 p4 p5 p6 p7 ∧ E4 I J S L I1 J1 S1 L1)) (h2 : (OKx c (I 1) (I 2) p0 p1 p2 p3 p4 p5 p6 p7 ∧ ShM c b p0 p1 p2 p3 p4 p5 p6 p7 Im Jm Sm Lm Im1 Jm1 Sm1 Lm1) ∨ (¬ OKx c (I 1) (I 2) p0 p1 p2 p3 p4 p5 p6 p7 ∧ E4 Im Jm Sm Lm Im1 Jm1 Sm1 Lm1)) : RR I1 J1 S1 L1 Im1 Jm1 Sm1 Lm1 := by
  rcases h1 with ⟨ha, h1⟩ | ⟨ha, rfl, rfl, rfl, rfl⟩ <;> rcases h2 with ⟨hb, h2⟩ | ⟨hb, rfl, rfl, rfl, rfl⟩
  · obtain ⟨j, k, hj, e0, hk, ek, f, ⟨rfl, rfl, rfl⟩, hF⟩ := h1
    obtain ⟨j', k', hj', e0', hk', ek', g, ⟨rfl, rfl, rfl⟩, hM1⟩ := h2
    have ew : j' = j := (nI_eq (by omega) (by omega)).mp (e0'.symm.trans e0)
    subst ew
    obtain ⟨-, hM, ⟨m1, m2, m3, m4⟩, ⟨hZ, hT⟩, s4, hP, h28, ⟨N, hN, n5, hRc⟩, s5, l0⟩ := hR
    rw [m2.1] at ek'
    have ew : k' = k := (nI_eq (by omega) (by omega)).mp (ek'.symm.trans ek)
    subst ew
    have ef : ∀ n, 5 ≤ n → I1 n = I n := fun n hn => f.1 n (by omega) (by omega) (by omega) (by omega)
    have eg : ∀ n, 5 ≤ n → Im1 n = Im n := fun n hn => g.1 n (by omega) (by omega) (by omega) (by omega)
    refine ⟨c, b, q, Z, hF, hM1, ⟨?_, ⟨?_, ?_, ?_, ?_⟩, ?_, ?_⟩, ⟨?_, ?_⟩, s4, ?_, h28, ⟨N, hN, n5, ?_⟩, s5, l0⟩
    · unfold BM at m1 ⊢
      rw [eg 5 (by omega), eg 6 (by omega), eg 7 (by omega), eg 8 (by omega), eg 9 (by omega), eg 10 (by omega), eg 11 (by omega), eg 12 (by omega), ef 6 (by omega), ef 7 (by omega), ef 8 (by omega), ef 9 (by omega), ef 10 (by omega), ef 11 (by omega), ef 12 (by omega), ef 13 (by omega)]
      exact m1
    · rw [f.2.1, g.2.1, m2.1]
    · rw [f.2.2.1, g.2.2.1, m2.2.1]
    · rw [f.2.2.2.1, g.2.2.2.1, m2.2.2.1]
    · rw [f.2.2.2.2, g.2.2.2.2, m2.2.2.2]
    · unfold RM opP at m3 ⊢
      rw [eg 13 (by omega), eg 14 (by omega), eg 15 (by omega), eg 16 (by omega), eg 17 (by omega), eg 18 (by omega), eg 19 (by omega), eg 20 (by omega), ef 15 (by omega), ef 16 (by omega), ef 18 (by omega), ef 19 (by omega), ef 20 (by omega)]
      exact m3
    · unfold QM at m4 ⊢
      rw [eg 38 (by omega), eg 39 (by omega), eg 40 (by omega), ef 22 (by omega), ef 23 (by omega), ef 24 (by omega)]
      exact m4
    · unfold MZ at hZ ⊢
      rw [eg 20 (by omega)]
      exact hZ
    · unfold TN at hT ⊢
      rw [eg 19 (by omega), ef 20 (by omega)]
      exact hT
    · rw [ef 29 (by omega)]
      exact (hP.x (ef 6 (by omega)) rfl rfl rfl rfl rfl rfl).im (eg 26 (by omega)) (eg 27 (by omega))
    · unfold MRc at hRc ⊢
      rw [eg 33 (by omega), eg 34 (by omega), eg 35 (by omega), ef 34 (by omega), ef 35 (by omega), ef 36 (by omega)]
      exact hRc
  · exact absurd ha hb
  · exact absurd hb ha
  · exact ⟨c, b, q, Z, hR⟩
end
