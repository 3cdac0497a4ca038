def stS (X : TI) (w : Nat) (d : Int32) : Nat → Nat → Nat → Nat
  | 0, _, f => f
  | j + 1, s, f => stS X w d j (s + 1) (if d < X 2 (w * 6 + s) then f else w * 6 + s)
/-- the set of SHARES of WORK w that counts at DAY d -/
def stN (X : TI) (w : Nat) (d : Int32) : Nat := stS X w d ((X 1 w).toNatClampNeg - 1) 1 (w * 6)
def shF (X : TI) (r t b w s : Nat) (y : Int64) : Nat → Nat → TG → TG
  | 0, _, g => g
  | j + 1, e, g => shF X r t b w s y j (e + 1) (if lg_cmp (y * (X 4 (s * 3 + e)).toInt64 * 1000) 0 ≤ 0 then g else rl0 X r t b (nI w) (X 3 (s * 3 + e)) (-1) 0 (y * (X 4 (s * 3 + e)).toInt64 * 1000) g)
abbrev TC : Type := TG × Int64
def cnF (X : TI) (t w m : Nat) : Int64 := (X 15 ((t * 12 + w) * 3 + m)).toInt64
def dyF (t P m : Nat) : Int32 := nI (t * 90 + 89 - (P - 1 - m) * 30)
def ptF (X : TI) (r t b w P : Nat) : Nat → Nat → TC → TC
  | 0, _, g => g
  | j + 1, m, g => ptF X r t b w P j (m + 1) (shF X r t b w (stN X w (dyF t P m)) (cnF X t w m) 3 0 g.1, g.2 + cnF X t w m * 1000000)
def biF (X : TI) (r t b w : Nat) (g : TC) : TC := if X 16 (t * 12 + w) = 2 then ptF X r t b w 3 3 0 g else ptF X r t b w 1 1 0 g
theorem shF_s {X : TI} {r t b w s j e : Nat} {y : Int64} {g : TG} : shF X r t b w s y (j + 1) e g = shF X r t b w s y j (e + 1) (if lg_cmp (y * (X 4 (s * 3 + e)).toInt64 * 1000) 0 ≤ 0 then g else rl0 X r t b (nI w) (X 3 (s * 3 + e)) (-1) 0 (y * (X 4 (s * 3 + e)).toInt64 * 1000) g) := rfl
theorem ptF_s {X : TI} {r t b w P j m : Nat} {g : TC} : ptF X r t b w P (j + 1) m g = ptF X r t b w P j (m + 1) (shF X r t b w (stN X w (dyF t P m)) (cnF X t w m) 3 0 g.1, g.2 + cnF X t w m * 1000000) := rfl
theorem stS_lt {X : TI} {w : Nat} {d : Int32} (hw : w < 12) : ∀ {j s f : Nat}, s + j ≤ 6 → f < 72 → stS X w d j s f < 72
  | 0, _, _, _, hf => hf
  | j + 1, s, f, hs, hf => by
    show stS X w d j (s + 1) (if d < X 2 (w * 6 + s) then f else w * 6 + s) < 72
    refine stS_lt hw (by omega) ?_
    split
    · exact hf
    · omega
theorem dy_eq {c P m : Nat} (hm : m < P) (hP : P ≤ 3) : nI (c * 90 + 89) - (nI P - (1 : Int32) - nI m) * (30 : Int32) = dyF c P m := by
  rw [show (1 : Int32) = nI 1 from rfl, pk_sub (by omega), pk_sub (by omega), show (30 : Int32) = nI 30 from rfl, pk_mul, pk_sub (by omega)]
  rfl
def Lm (L L' : TL) : Prop := ∀ j, j ≠ 1 → L' j = L j
section
variable {n0 n1 : Nat} {X I : TI} {J : TJ} {S : TS} {L : TL}
theorem e_setAt {j kk : Nat} {p1 : Int32} {Φ : Int32 → TI → TJ → TS → TL → Prop} (hX : ∀ j, j < 25 → I j = X j) (hj : j < 12) (hs : X 1 j = nI kk) (hkk : kk ≤ 6) (hf : stN X j p1 < 72 → Φ (nI (stN X j p1)) I J S L) : wp_X6_setAt n0 n1 I J S L (nI j) p1 Φ := by
  unfold wp_X6_setAt
  intro x ex
  rw [show (6 : Int32) = nI 6 from rfl, pk_mul] at ex
  subst ex
  have e0 : stN X j p1 = stS X j p1 (kk - 1) 1 (j * 6) := by
    unfold stN
    rw [hs, clN (by omega)]
  have hlt : stN X j p1 < 72 := by
    rw [e0]
    rcases Nat.eq_zero_or_pos kk with g | g
    · rw [g]
      show j * 6 < 72
      omega
    · exact stS_lt hj (by omega) (by omega)
  have hf := hf hlt
  generalize stN X j p1 = R at e0 hf hlt
  refine ⟨fun n I' J' S' L' f x => I' = I ∧ J' = J ∧ S' = S ∧ L' = L ∧ ∃ s m, s < 72 ∧ f = nI s ∧ 1 ≤ m ∧ m ≤ 7 ∧ x = nI m ∧ n = 7 - m ∧ R = stS X j p1 (kk - m) m s, ⟨6, rfl, rfl, rfl, rfl, j * 6, 1, by omega, rfl, by omega, by omega, rfl, rfl, e0⟩, ?_⟩
  rintro n I' J' S' L' f x ⟨rfl, rfl, rfl, rfl, s, m, hs1, rfl, hm1, hm, rfl, rfl, hR⟩
  rw [clN (by omega), hX 1 (by omega), hs, hX 2 (by omega)]
  refine ⟨vp_in_nI hj (by omega), fun hc => ?_, fun hc => ?_⟩
  · have : kk - m = 0 := by
      have := (nI_leI (by omega) (by omega)).mp hc
      omega
    rw [this] at hR
    have hR : R = s := hR
    rw [← hR]
    exact hf
  have hm2 : m < kk := by
    rcases Nat.lt_or_ge m kk with q | q
    · exact q
    · exact absurd (nI_le q (by omega)) hc
  rw [show (6 : Int32) = nI 6 from rfl, pk_mul, nI_add, clN (show j * 6 + m < 2 ^ 31 by omega)]
  have hR2 : R = stS X j p1 (kk - (m + 1)) (m + 1) (if p1 < X 2 (j * 6 + m) then s else j * 6 + m) := by
    rw [hR, show kk - m = (kk - (m + 1)) + 1 by omega]
    rfl
  refine ⟨vp_in_nI (by omega) (by omega), fun I2 J2 S2 L2 f x => I2 = I' ∧ J2 = J' ∧ S2 = S' ∧ L2 = L' ∧ ∃ s, s < 72 ∧ f = nI s ∧ x = nI m ∧ R = stS X j p1 (kk - (m + 1)) (m + 1) s, ?_, fun hd => ⟨rfl, rfl, rfl, rfl, s, hs1, rfl, rfl, ?_⟩, fun hd => fun x ex => ⟨rfl, rfl, rfl, rfl, j * 6 + m, by omega, ex, rfl, ?_⟩⟩
  · rintro I2 J2 S2 L2 f x ⟨rfl, rfl, rfl, rfl, s2, hs3, rfl, rfl, hR3⟩ x2 ex2
    exact ⟨7 - (m + 1), by omega, rfl, rfl, rfl, rfl, s2, m + 1, hs3, rfl, by omega, by omega, by rw [ex2]; exact nI_1 m, rfl, hR3⟩
  · rw [if_pos hd] at hR2; exact hR2
  · rw [if_neg hd] at hR2; exact hR2
set_option maxRecDepth 100000 in
set_option maxHeartbeats 4000000 in
theorem e_bringIn {b c k j : Nat} {Φ : TI → TJ → TS → TL → Prop} (hX : ∀ j, j < 25 → I j = X j) (hb : b ≤ 24) (h1 : S 1 = nI b) (hBg : Bgs b X) (hSt : Sts X) (h3 : S 3 = nI c) (hc : c < 40) (h6 : S 6 = nI n0) (hn0 : n0 < 2 ^ 31) (h5 : S 5 = nI k) (hk : k + 5409 < 2 ^ 31) (hj : j < 12) (hf : ∀ (I' : TI) (J' : TJ) (S' : TS) (L' : TL) (N' : Nat), Zm X S N' I' S' → N' ≤ k + 5409 → Lm L L' → biF X n0 c b j ((I, J, k), L 1) = ((I', J', N'), L' 1) → Φ I' J' S' L') : wp_X2_bringIn n0 n1 I J S L (nI j) Φ := by
  unfold wp_X2_bringIn wp_X4_wayOf
  rw [h3, show (12 : Int32) = nI 12 from rfl, pk_mul, nI_add, clN (by omega), hX 16 (by omega)]
  refine ⟨vp_in_nI (by omega) (by omega), ?_⟩
  refine ⟨fun I' J' S' L' s => I' = I ∧ J' = J ∧ S' = S ∧ L' = L ∧ ∃ P : Nat, 1 ≤ P ∧ P ≤ 3 ∧ s = nI P ∧ biF X n0 c b j ((I, J, k), L 1) = ptF X n0 c b j P P 0 ((I, J, k), L 1), ?_, fun h2 => ⟨rfl, rfl, rfl, rfl, 1, by omega, by omega, rfl, ?_⟩, fun h2 => ⟨rfl, rfl, rfl, rfl, 3, by omega, by omega, rfl, ?_⟩⟩
  rotate_left
  · unfold biF
    rw [if_neg h2]
  · unfold biF
    rw [if_pos h2]
  rintro I1 J1 S1 L1 s ⟨rfl, rfl, rfl, rfl, P, hP1, hP, rfl, hR0⟩
  generalize biF X n0 c b j ((I1, J1, k), L1 1) = R at hR0 hf
  refine ⟨fun n I' J' S' L' a x => a = nI P ∧ ∃ m N', m ≤ P ∧ x = nI m ∧ n = P - m ∧ Zm X S1 N' I' S' ∧ N' ≤ k + m * 1803 ∧ Lm L1 L' ∧ R = ptF X n0 c b j P (P - m) m ((I', J', N'), L' 1), ⟨P, rfl, 0, k, by omega, rfl, rfl, ⟨hX, fun _ _ => rfl, h5⟩, by omega, fun _ _ => rfl, hR0⟩, ?_⟩
  rintro n I' J' S' L' a x ⟨rfl, m, N1, hm, rfl, rfl, hz, hN1, hL, hR⟩
  refine ⟨fun hc1 => hf I' J' S' L' N1 hz (by omega) hL ?_, fun hc1 => ?_⟩
  · have : P - m = 0 := by
      have := (nI_leI (by omega) (by omega)).mp hc1
      omega
    rw [hR, this]
    rfl
  have hm2 : m < P := nI_nleN (by omega) hm hc1
  unfold wp_X4_coinsOf
  rw [hz.2.1 3 (by omega), h3, show (12 : Int32) = nI 12 from rfl, pk_mul, nI_add, show (3 : Int32) = nI 3 from rfl, pk_mul, nI_add, clN (by omega), hz.1 15 (by omega)]
  refine ⟨vp_in_nI (by omega) (by omega), fun y ey => ?_⟩
  have ey : y = cnF X c j m := ey
  subst ey
  unfold wp_X2_lastDay
  rw [hz.2.1 3 (by omega), h3, ld_eq]
  dsimp only
  rw [dy_eq hm2 hP]
  obtain ⟨kk, hkk, ekk⟩ := hSt.1 j hj
  refine e_setAt hz.1 hj ekk hkk (fun hs => ?_)
  have hR2 : R = ptF X n0 c b j P (P - (m + 1)) (m + 1) (shF X n0 c b j (stN X j (dyF c P m)) (cnF X c j m) 3 0 (I', J', N1), L' 1 + cnF X c j m * 1000000) := by
    rw [hR, show P - m = (P - (m + 1)) + 1 by omega, ptF_s]
  generalize stN X j (dyF c P m) = s at hs hR2
  intro L2 eL2 x2 ex2
  rw [pk_mul] at ex2
  subst ex2
  have eL21 : L2 1 = L' 1 + cnF X c j m * 1000000 := by rw [eL2, va_up_self]
  have hL2 : Lm L1 L2 := fun j hj => by rw [eL2, va_up_ne _ _ hj]; exact hL j hj
  rw [← eL21] at hR2
  refine ⟨fun n' I2 J2 S2 L3 a x y f g => a = nI P ∧ x = nI m ∧ y = cnF X c j m ∧ f = nI s ∧ L3 = L2 ∧ ∃ e N', e ≤ 3 ∧ g = nI (s * 3 + e) ∧ n' = 3 - e ∧ Zm X S1 N' I2 S2 ∧ N' ≤ k + m * 1803 + e * 601 ∧ R = ptF X n0 c b j P (P - (m + 1)) (m + 1) (shF X n0 c b j s (cnF X c j m) (3 - e) e (I2, J2, N'), L2 1), ⟨3, rfl, rfl, rfl, rfl, rfl, 0, N1, by omega, rfl, rfl, hz, by omega, hR2⟩, ?_⟩
  rintro n' I2 J2 S2 L3 a x y f g ⟨rfl, rfl, rfl, rfl, rfl, e, N2, he, rfl, rfl, hz2, hN2, hR3⟩
  have e3 : (nI s + (1 : Int32)) * (nI 3) = nI ((s + 1) * 3) := by rw [nI_1, pk_mul]
  rw [e3]
  refine ⟨fun hc3 => fun x3 ex3 => ?_, fun hc3 => ?_⟩
  · have he3 : e = 3 := by
      have := (nI_leI (by omega) (by omega)).mp hc3
      omega
    refine ⟨P - (m + 1), by omega, rfl, m + 1, N2, by omega, by rw [ex3]; exact nI_1 m, rfl, hz2, by omega, hL2, ?_⟩
    rw [hR3, he3]
    rfl
  have he2 : e < 3 := by
    rcases Nat.lt_or_ge e 3 with q | q
    · exact q
    · exact absurd (nI_le (by omega) (by omega)) hc3
  have hv : vp_in (nI (s * 3 + e)) 216 := vp_in_nI (by omega) (by omega)
  rw [clN (show s * 3 + e < 2 ^ 31 by omega), hz2.1 4 (by omega), hz2.1 3 (by omega)]
  refine ⟨hv, fun y2 ey2 => ?_⟩
  rw [show 3 - e = (3 - (e + 1)) + 1 by omega, shF_s] at hR3
  refine ⟨fun I3 J3 S3 L4 a x y f g => a = nI P ∧ x = nI m ∧ y = cnF X c j m ∧ f = nI s ∧ L4 = L3 ∧ g = nI (s * 3 + e) ∧ ∃ N', Zm X S1 N' I3 S3 ∧ N' ≤ k + m * 1803 + (e + 1) * 601 ∧ R = ptF X n0 c b j P (P - (m + 1)) (m + 1) (shF X n0 c b j s (cnF X c j m) (3 - (e + 1)) (e + 1) (I3, J3, N'), L3 1), ?_, fun hy => ⟨rfl, rfl, rfl, rfl, rfl, rfl, N2, hz2, by omega, ?_⟩, fun hy => ⟨hv, ?_⟩⟩
  · rintro I3 J3 S3 L4 a x y f g ⟨rfl, rfl, rfl, rfl, rfl, rfl, N3, hz3, hN3, hR4⟩ x3 ex3
    exact ⟨3 - (e + 1), by omega, rfl, rfl, rfl, rfl, rfl, e + 1, N3, by omega, by rw [ex3]; exact nI_1 _, rfl, hz3, hN3, hR4⟩
  · rw [ey2] at hy
    rw [if_pos hy] at hR3
    exact hR3
  rw [ey2] at hy
  rw [if_neg hy, ← ey2] at hR3
  have hw : W12 (X 3 (s * 3 + e)) := by
    rcases hSt.2 (s * 3 + e) (by omega) with ⟨_, h4⟩ | h
    · rw [h4, m0] at hy
      exact absurd (by decide) hy
    · exact h
  refine e_runLine_0 (b := b) (t := c) (k := N2) (m := 0) hz2.1 hb (by rw [hz2.2.1 1 (by omega)]; exact h1) hBg (by rw [hz2.2.1 3 (by omega)]; exact h3) hc (by rw [hz2.2.1 6 (by omega)]; exact h6) hn0 hz2.2.2 (by omega) hw (by decide) (by omega) (fun I3 J3 S3 N3 hz3 hN3 hR4 => ⟨rfl, rfl, rfl, rfl, rfl, rfl, N3, ⟨hz3.1, fun j hj => (hz3.2.1 j hj).trans (hz2.2.1 j hj), hz3.2.2⟩, by omega, ?_⟩)
  rw [hR4] at hR3
  exact hR3
end
