section
variable {n0 n1 : Nat} {I : TI} {J : TJ} {S : TS} {L : TL} {c : Nat}
theorem Bk.keep {I I' : TI} {S S' : TS} (h : Bk I S) (hs : Sts I') (e : ∀ n, 5 ≤ n → I' n = I n) (e1 : S' 1 = S 1) (e2 : S' 2 = S 2) : Bk I' S' := by
  obtain ⟨⟨b, hb, h1, hB⟩, -, ⟨q, hq, h2, hQ⟩, hz⟩ := h
  refine ⟨⟨b, hb, by rw [e1]; exact h1, ?_⟩, hs, ⟨q, hq, by rw [e2]; exact h2, by rw [e 22 (by omega)]; exact hQ⟩, by rw [e 19 (by omega), e 18 (by omega)]; exact hz⟩
  unfold Bgs
  rw [e 7 (by omega), e 6 (by omega), e 13 (by omega), e 11 (by omega)]
  exact hB
theorem s_put2 {x : Nat} {k p2 p3 : Int32} {r : Int32} {Φ : TI → TJ → TS → TL → Prop} (ex : r * 3 + k = nI x) (hx : x < 216) (hf : ∀ I' : TI, (∀ n, n ≠ 3 → n ≠ 4 → I' n = I n) → I' 3 = upd (I 3) x p2 → I' 4 = upd (I 4) x p3 → Φ I' J S L) : wp_X6_put_O n0 n1 I J S L r k p2 p3 Φ := by
  unfold wp_X6_put_O wp_X6_put
  rw [ex, clN (by omega)]
  have hv : vp_in (nI x) 216 := vp_in_nI hx (by omega)
  refine ⟨hv, fun I1 e1 => ⟨hv, fun I2 e2 => ?_⟩⟩
  show Φ I2 J (va_up S 0 (S 0)) L
  rw [up_same]
  refine hf I2 (fun n a b => by rw [e2, va_up_ne _ _ b, e1, va_up_ne _ _ a]) (by rw [e2, va_up_ne _ _ (by omega), e1, va_up_self]) (by rw [e2, va_up_self, e1, va_up_ne _ _ (by omega)])
def E34 (I I' : TI) : Prop := ∀ i, i < 216 → (I' 3 i = I 3 i ∧ I' 4 i = I 4 i) ∨ ((I' 3 i = -1 ∧ I' 4 i = 0) ∨ W12 (I' 3 i))
theorem Sh_or {h p : Int32} (g : Sh h p) : (h = -1 ∧ p = 0) ∨ W12 h := by
  rcases g with g | g
  · exact Or.inl g
  · exact Or.inr g.2.1
theorem t_shareTail {j k : Nat} {p1 p2 p3 p4 p5 p6 p7 : Int32} {Φ : Int32 → TI → TJ → TS → TL → Prop} (hj : j < 12) (hk : k < 6) (ek : I 1 j = nI k) (w2 : W12 p2) (w4 : Sh p4 p5) (w6 : Sh p6 p7) (hf : ∀ I' : TI, (∀ n, n ≠ 1 → n ≠ 2 → n ≠ 3 → n ≠ 4 → I' n = I n) → I' 1 = upd (I 1) j (nI k + 1) → I' 2 = upd (I 2) (j * 6 + k) p1 → E34 I I' → Φ (nI k + 1) I' J S L) : wp_X6_addSet_O 600 0 I J S L (nI j) p1 (fun r I J S L => wp_X6_put_O 600 0 I J S L r 0 p2 p3 (fun I J S L => wp_X6_put_O 600 0 I J S L r 1 p4 p5 (fun I J S L => wp_X6_put_O 600 0 I J S L r 2 p6 p7 (fun I J S L => vp_in (nI j) 12 ∧ Φ (I 1 (nI j).toNatClampNeg) I J S L)))) := by
  have hi : vp_in (nI j) 12 := vp_in_nI hj (by omega)
  unfold wp_X6_addSet_O wp_X6_addSet
  rw [clN (by omega), ek, show (6 : Int32) = nI 6 from rfl, pk_mul, nI_add]
  refine ⟨hi, fun x hx => ?_⟩
  subst hx
  rw [clN (by omega)]
  refine ⟨vp_in_nI (by omega) (by omega), fun I1 e1 => ⟨hi, hi, fun I2 e2 => ?_⟩⟩
  have a1 : I2 1 = upd (I 1) j (nI k + 1) := by
    rw [e2, va_up_self, e1, va_up_ne _ _ (by omega), ek]
  have a2 : I2 2 = upd (I 2) (j * 6 + k) p1 := by rw [e2, va_up_ne _ _ (by omega), e1, va_up_self]
  have aN : ∀ n, n ≠ 1 → n ≠ 2 → I2 n = I n := fun n g1 g2 => by rw [e2, va_up_ne _ _ g1, e1, va_up_ne _ _ g2]
  have e3 : ∀ d : Nat, nI (j * 6 + k) * (3 : Int32) + nI d = nI ((j * 6 + k) * 3 + d) := fun d => by rw [show (3 : Int32) = nI 3 from rfl, pk_mul, nI_add]
  show wp_X6_put_O 600 0 I2 J (va_up S 0 (S 0)) L _ _ _ _ _
  rw [up_same]
  refine s_put2 (e3 0) (by omega) (fun I3 b b3 b4 => ?_)
  refine s_put2 (e3 1) (by omega) (fun I4 d d3 d4 => ?_)
  refine s_put2 (e3 2) (by omega) (fun I5 f f3 f4 => ?_)
  refine ⟨hi, ?_⟩
  have z1 : I5 1 = upd (I 1) j (nI k + 1) := by rw [f 1 (by omega) (by omega), d 1 (by omega) (by omega), b 1 (by omega) (by omega), a1]
  rw [show I5 1 j = nI k + 1 by rw [z1]; exact pk_us]
  refine hf I5 (fun n g1 g2 g3 g4 => by rw [f n g3 g4, d n g3 g4, b n g3 g4, aN n g1 g2]) z1 (by rw [f 2 (by omega) (by omega), d 2 (by omega) (by omega), b 2 (by omega) (by omega), a2]) ?_
  intro i hi2
  rw [f3, f4, d3, d4, b3, b4, aN 3 (by omega) (by omega), aN 4 (by omega) (by omega)]
  unfold upd
  by_cases i2 : i = (j * 6 + k) * 3 + 2
  · rw [if_pos i2, if_pos i2]; exact Or.inr (Sh_or w6)
  · rw [if_neg i2, if_neg i2]
    by_cases i1 : i = (j * 6 + k) * 3 + 1
    · rw [if_pos i1, if_pos i1]; exact Or.inr (Sh_or w4)
    · rw [if_neg i1, if_neg i1]
      by_cases i0 : i = (j * 6 + k) * 3 + 0
      · rw [if_pos i0, if_pos i0]; exact Or.inr (Or.inr w2)
      · rw [if_neg i0, if_neg i0]; exact Or.inl ⟨rfl, rfl⟩
set_option maxHeartbeats 1000000 in
theorem t_X7_share (p0 p1 p2 p3 p4 p5 p6 p7 : Int32) (h : InvO c I S) : wp_X7_share 600 0 I J S L p0 p1 p2 p3 p4 p5 p6 p7 (fun r I' _ S' _ => (InvO c I' S' ∧ S' 1 = S 1) ∧ ShSpec c (I 1) (I 2) p0 p1 p2 p3 p4 p5 p6 p7 r (I' 1) (I' 2)) := by
  obtain ⟨hB, hC, hc, h3, h7, hq, h6, h10⟩ := id h
  have hSt := hB.2.1
  have N : ¬ OKx c (I 1) (I 2) p0 p1 p2 p3 p4 p5 p6 p7 → (InvO c I S ∧ S 1 = S 1) ∧ ShSpec c (I 1) (I 2) p0 p1 p2 p3 p4 p5 p6 p7 (-1) (I 1) (I 2) := fun hn => ⟨⟨h, rfl⟩, Or.inr ⟨hn, rfl, rfl, rfl⟩⟩
  unfold wp_X7_share
  refine s_X7_isWork (fun hw => ?_) (fun hw => ⟨_, fun _ _ _ _ hB => hB, fun _ => N (fun k => hw k.1), fun hc => absurd rfl hc⟩)
  refine ⟨_, fun _ _ _ _ hB => hB, fun hc => absurd hc (by decide), fun _ => ?_⟩
  refine t_dayAhead h3 (fun hd => ⟨fun hc => absurd hc (by decide), fun _ => ?_⟩) (fun hd => ⟨fun _ => N (fun k => hd k.2.1), fun hc => absurd rfl hc⟩)
  obtain ⟨j, hj, ej⟩ := W12_cases hw
  subst ej
  have ecl : (nI j).toNatClampNeg = j := clN (by omega)
  refine t_hasRoom_O hj (hSt.1 j hj) (fun hr => ⟨fun _ => ?_, fun hc => absurd hc (by decide)⟩) (fun hr => ⟨fun hc => absurd rfl hc, fun _ => N (fun k => hr (by have := k.2.2.1; rw [ecl] at this; exact this))⟩)
  refine s_X7_isHand (fun ha => ?_) (fun ha => ⟨_, fun _ _ _ _ hB => hB, fun _ => N (fun k => ha k.2.2.2.1), fun hc => absurd rfl hc⟩)
  refine ⟨_, fun _ _ _ _ hB => hB, fun hc => absurd hc (by decide), fun _ => ?_⟩
  refine s_X7_isPart (fun hpa => ⟨fun hc => absurd hc (by decide), fun _ => ?_⟩) (fun hpa => ⟨fun _ => N (fun k => hpa k.2.2.2.2.1), fun hc => absurd rfl hc⟩)
  refine s_X7_isSharer (fun hb => ⟨fun hc => absurd hc (by decide), fun _ => ?_⟩) (fun hb => ⟨fun _ => N (fun k => hb k.2.2.2.2.2.1), fun hc => absurd rfl hc⟩)
  refine s_X7_isSharer (fun hc3 => ⟨fun _ => ?_, fun hc => absurd hc (by decide)⟩) (fun hc3 => ⟨fun hc => absurd rfl hc, fun _ => N (fun k => hc3 k.2.2.2.2.2.2.1)⟩)
  refine ⟨fun I' J' S' L' s => I' = I ∧ J' = J ∧ S' = S ∧ L' = L ∧ ((s = 0 ∧ ¬ (p4 = -1 ∧ ¬ p6 = -1)) ∨ (s = 1 ∧ (p4 = -1 ∧ ¬ p6 = -1))), ?_, fun I' J' S' L' => I' = I ∧ J' = J ∧ S' = S ∧ L' = L ∧ ¬ (p4 = -1 ∧ ¬ p6 = -1), ?_, fun h4 => ⟨rfl, rfl, rfl, rfl, fun k => h4 k.1⟩, fun h4 => ⟨fun h6 => ⟨rfl, rfl, rfl, rfl, fun k => k.2 h6⟩, fun h6 => ⟨rfl, rfl, rfl, rfl, Or.inr ⟨rfl, h4, h6⟩⟩⟩⟩
  · rintro I' J' S' L' s ⟨rfl, rfl, rfl, rfl, hg⟩
    have st : I' = I' ∧ J' = J' ∧ S' = S' ∧ L' = L' := ⟨rfl, rfl, rfl, rfl⟩
    refine ⟨fun I2 J2 S2 L2 x s2 => (I2 = I' ∧ J2 = J' ∧ S2 = S' ∧ L2 = L') ∧ x = s ∧ ((s2 = 0 ∧ ¬ p2 = p4 ∧ ¬ p2 = p6 ∧ ¬ (¬ p4 = -1 ∧ p4 = p6)) ∨ (s2 = 1 ∧ ¬ (¬ p2 = p4 ∧ ¬ p2 = p6 ∧ ¬ (¬ p4 = -1 ∧ p4 = p6)))), ?_, fun I2 J2 S2 L2 x => (I2 = I' ∧ J2 = J' ∧ S2 = S' ∧ L2 = L') ∧ x = s ∧ ¬ (¬ p2 = p4 ∧ ¬ p2 = p6 ∧ ¬ (¬ p4 = -1 ∧ p4 = p6)), ?_, fun e => ⟨st, rfl, fun k => k.1 e⟩, fun e24 => ⟨fun e => ⟨st, rfl, fun k => k.2.1 e⟩, fun e26 => ⟨fun I2 J2 S2 L2 x => (I2 = I' ∧ J2 = J' ∧ S2 = S' ∧ L2 = L') ∧ x = s ∧ (¬ p2 = p4 ∧ ¬ p2 = p6 ∧ ¬ (¬ p4 = -1 ∧ p4 = p6)), ?_, fun e4 => ⟨st, rfl, e24, e26, fun k => k.1 e4⟩, fun e4 => ⟨fun e46 => ⟨st, rfl, e24, e26, fun k => e46 k.2⟩, fun e46 => ⟨st, rfl, fun k => k.2.2 ⟨e4, e46⟩⟩⟩⟩⟩⟩
    · rintro I2 J2 S2 L2 x s2 ⟨⟨rfl, rfl, rfl, rfl⟩, rfl, hal⟩
      refine ⟨_, fun _ _ _ _ hB => hB, fun hx => N (fun k => ?_), fun hx => ⟨fun hs => N (fun k => ?_), fun hs => ⟨fun hsum => ?_, fun hsum => N (fun k => hsum k.2.2.2.2.2.2.2.2.2.2.2)⟩⟩⟩
      · rcases hg with ⟨g, _⟩ | ⟨_, g⟩
        · exact hx g
        · exact k.2.2.2.2.2.2.2.1 g
      · rcases hal with ⟨g, _⟩ | ⟨_, g⟩
        · exact hs g
        · exact g ⟨k.2.2.2.2.2.2.2.2.1, k.2.2.2.2.2.2.2.2.2.1, k.2.2.2.2.2.2.2.2.2.2.1⟩
      · have hG : ¬ (p4 = -1 ∧ ¬ p6 = -1) := by
          rcases hg with ⟨_, g⟩ | ⟨g, _⟩
          · exact g
          · rw [hx] at g; exact absurd g (by decide)
        have hA : ¬ p2 = p4 ∧ ¬ p2 = p6 ∧ ¬ (¬ p4 = -1 ∧ p4 = p6) := by
          rcases hal with ⟨_, g⟩ | ⟨g, _⟩
          · exact g
          · rw [hs] at g; exact absurd g (by decide)
        obtain ⟨k, ek, hk, hor⟩ := id hr
        refine t_shareTail (Φ := fun r I' _ S' _ => (InvO c I' S' ∧ S' 1 = S2 1) ∧ ShSpec c (I2 1) (I2 2) (nI j) p1 p2 p3 p4 p5 p6 p7 r (I' 1) (I' 2)) hj hk ek ha hb hc3 (fun I3 eN e1 e2 e34 => ?_)
        refine ⟨⟨⟨hB.keep (hSt.set hj hk (by rw [e1, nI_1]) e34) (fun n hn => eN n (by omega) (by omega) (by omega) (by omega)) rfl rfl, hC.same (eN 19 (by omega) (by omega) (by omega) (by omega)) (eN 16 (by omega) (by omega) (by omega) (by omega)), hc, h3, h7, hq, h6, h10⟩, rfl⟩, Or.inl ⟨⟨hw, hd, by rw [ecl]; exact hr, ha, hpa, hb, hc3, hG, hA.1, hA.2.1, hA.2.2, hsum⟩, by rw [ecl, ek], by rw [ecl, ek]; exact e1, by rw [ecl, ek, clN (by omega)]; exact e2⟩⟩
    · rintro I2 J2 S2 L2 x ⟨g, rfl, hn⟩
      exact ⟨g, rfl, Or.inr ⟨rfl, hn⟩⟩
    · rintro I2 J2 S2 L2 x ⟨g, rfl, hn⟩
      exact ⟨g, rfl, Or.inl ⟨rfl, hn⟩⟩
  · rintro I' J' S' L' ⟨rfl, rfl, rfl, rfl, hg⟩
    exact ⟨rfl, rfl, rfl, rfl, Or.inl ⟨rfl, hg⟩⟩
end
