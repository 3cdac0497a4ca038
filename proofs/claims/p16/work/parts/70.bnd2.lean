/-- what LINES leave alone -/
def GF (g g' : TG) : Prop := (∀ k, k ≠ 34 → k ≠ 35 → k ≠ 36 → g'.1 k = g.1 k) ∧ (∀ k, k ≠ 26 → k ≠ 30 → k ≠ 31 → k ≠ 32 → k ≠ 37 → k ≠ 38 → g'.2.1 k = g.2.1 k)
theorem GF.rf {g : TG} : GF g g := ⟨fun _ _ _ _ => rfl, fun _ _ _ _ _ _ _ => rfl⟩
theorem GF.tr {g g1 g2 : TG} (a : GF g g1) (b : GF g1 g2) : GF g g2 := ⟨fun k h1 h2 h3 => (b.1 k h1 h2 h3).trans (a.1 k h1 h2 h3), fun k h1 h2 h3 h4 h5 h6 => (b.2 k h1 h2 h3 h4 h5 h6).trans (a.2 k h1 h2 h3 h4 h5 h6)⟩
section
variable {X : TI} {r t b i : Nat} {w h f : Int32} {y m : Int64} {g : TG}
theorem bgF_gf : GF g (bgF r w h f m g) := by
  unfold bgF
  split
  · refine ⟨fun k h1 h2 h3 => ?_, fun k _ _ _ _ h5 _ => va_up_ne _ _ h5⟩
    show bgI g.1 g.2.2 w h f k = g.1 k
    unfold bgI
    rw [va_up_ne _ _ h3, va_up_ne _ _ h2, va_up_ne _ _ h1]
  · exact GF.rf
theorem enF_gf {hN : Nat} : GF g (enF r i hN y g) := by
  obtain ⟨q1, q2, q3, q4⟩ := enF_p (r := r) (i := i) (h := hN) (y := y) (g := g)
  refine ⟨fun k _ _ _ => by rw [q1], fun k h1 _ _ _ _ h6 => ?_⟩
  rw [q3 k h6]
  unfold prF
  rw [va_up_ne _ _ h1]
theorem meet_gf {n : Nat} : GF g (g.1, meetF X t g.2.1 n y, g.2.2) := ⟨fun _ _ _ _ => rfl, fun k _ h2 h3 h4 _ _ => meet_o h2 h3 h4⟩
theorem lnF_gf {ps : Bool} {rec : Nat → Int64 → TG → TG} (hrec : ∀ n y g, GF g (rec n y g)) : ∀ (j n : Nat) (y : Int64) (g : TG), GF g (lnF X r t w ps rec h i j n y g)
  | 0, n, y, g => by rw [lnF_0]; exact enF_gf
  | j + 1, n, y, g => by
    by_cases hz : lg_cmp y 0 ≤ 0
    · rw [lnF_z hz]; exact enF_gf
    · by_cases hh : hdP X w h t n ∧ (ps = true ∨ ¬ psP X n)
      · by_cases hp : psP X n ∧ ¬ lg_cmp (tkF X g.2.1 n y) 0 ≤ 0
        · rw [lnF_pass (g := g) hz hh hp]
          exact (meet_gf.tr (hrec _ _ _)).tr (lnF_gf hrec j _ _ _)
        · rw [lnF_keep (g := g) hz hh hp]
          exact meet_gf.tr (lnF_gf hrec j _ _ _)
      · rw [lnF_skip hz hh]
        exact lnF_gf hrec j _ _ _
theorem rlF_gf {ps : Bool} {rec : Nat → Int64 → TG → TG} {n : Nat} (hrec : ∀ n y g, GF g (rec n y g)) : GF g (rlF X r t b w ps rec h f n m g) := by
  unfold rlF
  exact bgF_gf.tr (lnF_gf hrec _ _ _ _)
theorem rl2_gf {n : Nat} : GF g (rl2 X r t b w h f n m g) := rlF_gf (fun _ _ _ => GF.rf)
theorem rl1_gf {n : Nat} : GF g (rl1 X r t b w h f n m g) := rlF_gf (fun _ _ _ => rl2_gf)
theorem rl0_gf {n : Nat} : GF g (rl0 X r t b w h f n m g) := rlF_gf (fun _ _ _ => rl1_gf)
end
section
variable {X : TI} {r t b w s : Nat} {y : Int64}
theorem shF_gf : ∀ (j e : Nat) (g : TG), GF g (shF X r t b w s y j e g)
  | 0, _, _ => GF.rf
  | j + 1, e, g => by
    rw [shF_s]
    refine GF.tr ?_ (shF_gf j (e + 1) _)
    split
    · exact GF.rf
    · exact rl0_gf
theorem ptF_gf {P : Nat} : ∀ (j e : Nat) (g : TC), GF g.1 (ptF X r t b w P j e g).1
  | 0, _, _ => GF.rf
  | j + 1, e, g => by
    rw [ptF_s]
    exact GF.tr (shF_gf 3 0 g.1) (ptF_gf j (e + 1) (_, _))
theorem biF_gf (g : TC) : GF g.1 (biF X r t b w g).1 := by
  unfold biF
  split
  · exact ptF_gf _ _ _
  · exact ptF_gf _ _ _
theorem rpF_s {j i : Nat} {g : TC} : rpF X r t b (j + 1) i g = rpF X r t b j (i + 1) (if opP X t (X 18 (t * 12 + i)) then g else biF X r t b (X 18 (t * 12 + i)).toNatClampNeg g) := rfl
theorem rpF_gf : ∀ (j i : Nat) (g : TC), GF g.1 (rpF X r t b j i g).1
  | 0, _, _ => GF.rf
  | j + 1, i, g => by
    rw [rpF_s]
    refine GF.tr ?_ (rpF_gf j (i + 1) _)
    split
    · exact GF.rf
    · exact biF_gf g
end
/-- SHARES as they were told -/
def StX (X : TI) : Prop := (∀ w, w < 12 → ∃ kk : Nat, kk ≤ 6 ∧ X 1 w = nI kk) ∧ (∀ i, i < 216 → (X 3 i = -1 ∧ X 4 i = 0) ∨ (W12 (X 3 i) ∧ 0 ≤ (X 4 i).toInt ∧ (X 4 i).toInt ≤ 1000)) ∧ (∀ w kk k, w < 12 → kk ≤ 6 → X 1 w = nI kk → k < kk → (X 4 ((w * 6 + k) * 3)).toInt + (X 4 ((w * 6 + k) * 3 + 1)).toInt + (X 4 ((w * 6 + k) * 3 + 2)).toInt = 1000)
theorem StX.sts {X : TI} (h : StX X) : Sts X := ⟨h.1, fun i hi => by rcases h.2.1 i hi with q | q; exact Or.inl q; exact Or.inr q.1⟩
theorem StX.par {X : TI} (h : StX X) {i : Nat} (hi : i < 216) : 0 ≤ (X 4 i).toInt ∧ (X 4 i).toInt ≤ 1000 := by
  rcases h.2.1 i hi with q | q
  · rw [q.2]; decide
  · exact q.2
theorem stS_k {X : TI} {w kk : Nat} {d : Int32} : ∀ {j s f : Nat}, s + j ≤ kk → (∃ k, k < kk ∧ f = w * 6 + k) → ∃ k, k < kk ∧ stS X w d j s f = w * 6 + k
  | 0, _, _, _, hf => hf
  | j + 1, s, f, hs, hf => by
    show ∃ k, k < kk ∧ stS X w d j (s + 1) (if d < X 2 (w * 6 + s) then f else w * 6 + s) = w * 6 + k
    refine stS_k (by omega) ?_
    split
    · exact hf
    · exact ⟨s, by omega, rfl⟩
theorem stN_k {X : TI} {w kk : Nat} {d : Int32} (hk : X 1 w = nI kk) (h1 : 1 ≤ kk) (h6 : kk ≤ 6) : ∃ k, k < kk ∧ stN X w d = w * 6 + k := by
  unfold stN
  rw [hk, clN (by omega)]
  exact stS_k (by omega) ⟨0, by omega, rfl⟩
theorem mit_v {y : Int64} {p : Int32} (y0 : 0 ≤ y.toInt) (y1 : y.toInt ≤ 1000000) (p0 : 0 ≤ p.toInt) (p1 : p.toInt ≤ 1000) : (y * p.toInt64 * 1000).toInt = y.toInt * p.toInt * 1000 ∧ 0 ≤ y.toInt * p.toInt ∧ y.toInt * p.toInt ≤ 1000000000 := by
  have h1 : 0 ≤ y.toInt * p.toInt := Int.mul_nonneg y0 p0
  have h2 : y.toInt * p.toInt ≤ y.toInt * 1000 := Int.mul_le_mul_of_nonneg_left p1 y0
  have e1 : (y * p.toInt64).toInt = y.toInt * p.toInt := by
    rw [vx_ml, Int32.toInt_toInt64]
    · rw [Int32.toInt_toInt64]; omega
    · rw [Int32.toInt_toInt64]; omega
  refine ⟨?_, h1, by omega⟩
  rw [vx_ml, e1, show ((1000 : Int64)).toInt = 1000 by decide]
  · rw [e1, show ((1000 : Int64)).toInt = 1000 by decide]; omega
  · rw [e1, show ((1000 : Int64)).toInt = 1000 by decide]; omega
def sh1 (X : TI) (r t b w s : Nat) (y : Int64) (e : Nat) (g : TG) : TG := if lg_cmp (y * (X 4 (s * 3 + e)).toInt64 * 1000) 0 ≤ 0 then g else rl0 X r t b (nI w) (X 3 (s * 3 + e)) (-1) 0 (y * (X 4 (s * 3 + e)).toInt64 * 1000) g
theorem shF_3 {X : TI} {r t b w s : Nat} {y : Int64} {g : TG} : shF X r t b w s y 3 0 g = sh1 X r t b w s y 2 (sh1 X r t b w s y 1 (sh1 X r t b w s y 0 g)) := rfl
section
variable {X : TI} {Lo U : Int} {κ : Bool} {D : Nat → Int32} {b r t w : Nat}
theorem AB_sh1 {s e : Nat} {y : Int64} {g : TG} (hB : BgX b X) (hb : b ≤ 24) (ht : t < 40) (hS : StX X) (hi : s * 3 + e < 216) (y0 : 0 ≤ y.toInt) (y1 : y.toInt ≤ 1000000) (hK : KIn b X g.2.1) (hA : AB Lo κ U D g.2.1) (hU : U + y.toInt * (X 4 (s * 3 + e)).toInt * 1000 ≤ 10000000000000000) : AB Lo κ (U + y.toInt * (X 4 (s * 3 + e)).toInt * 1000) D (sh1 X r t b w s y e g).2.1 ∧ KIn b X (sh1 X r t b w s y e g).2.1 := by
  have hp := hS.par hi
  obtain ⟨e1, e2, e3⟩ := mit_v y0 y1 hp.1 hp.2
  unfold sh1
  by_cases hz : lg_cmp (y * (X 4 (s * 3 + e)).toInt64 * 1000) 0 ≤ 0
  · rw [if_pos hz]
    exact ⟨hA.mono (by omega), hK⟩
  · rw [if_neg hz]
    have hw : W12 (X 3 (s * 3 + e)) := by
      rcases hS.2.1 (s * 3 + e) hi with ⟨_, q⟩ | q
      · rw [q, m0] at hz
        exact absurd (by decide) hz
      · exact q.1
    have := AB_rl0 (r := r) (w := nI w) (f := -1) (n := 0) (U := U) (g := g) hB hb ht hw (by omega) (m := y * (X 4 (s * 3 + e)).toInt64 * 1000) (by omega) (by omega) hK hA (by omega)
    rw [e1] at this
    exact this
theorem AB_sh {s : Nat} {y : Int64} {g : TG} (hB : BgX b X) (hb : b ≤ 24) (ht : t < 40) (hS : StX X) (hs : s < 72) (h1000 : (X 4 (s * 3)).toInt + (X 4 (s * 3 + 1)).toInt + (X 4 (s * 3 + 2)).toInt = 1000) (y0 : 0 ≤ y.toInt) (y1 : y.toInt ≤ 1000000) (hK : KIn b X g.2.1) (hA : AB Lo κ U D g.2.1) (hU : U + 1000000000000 ≤ 10000000000000000) : AB Lo κ (U + 1000000000000) D (shF X r t b w s y 3 0 g).2.1 ∧ KIn b X (shF X r t b w s y 3 0 g).2.1 := by
  have p0 := hS.par (i := s * 3 + 0) (by omega)
  have p1 := hS.par (i := s * 3 + 1) (by omega)
  have p2 := hS.par (i := s * 3 + 2) (by omega)
  have q0 := (mit_v y0 y1 p0.1 p0.2).2
  have q1 := (mit_v y0 y1 p1.1 p1.2).2
  have q2 := (mit_v y0 y1 p2.1 p2.2).2
  have tot : y.toInt * (X 4 (s * 3 + 0)).toInt + y.toInt * (X 4 (s * 3 + 1)).toInt + y.toInt * (X 4 (s * 3 + 2)).toInt = y.toInt * 1000 := by
    rw [← Int.mul_add, ← Int.mul_add]
    exact congrArg _ h1000
  rw [shF_3]
  obtain ⟨a1, a2⟩ := AB_sh1 (r := r) (w := w) (s := s) (y := y) (U := U) (e := 0) hB hb ht hS (by omega) y0 y1 hK hA (by omega)
  obtain ⟨b1, b2⟩ := AB_sh1 (r := r) (w := w) (s := s) (y := y) (e := 1) hB hb ht hS (by omega) y0 y1 a2 a1 (by omega)
  obtain ⟨c1, c2⟩ := AB_sh1 (r := r) (w := w) (s := s) (y := y) (e := 2) hB hb ht hS (by omega) y0 y1 b2 b1 (by omega)
  exact ⟨c1.mono (by omega), c2⟩
/-- REPORTS as they were told -/
def RpX (X : TI) : Prop := (∀ i, i < 1440 → 0 ≤ (X 15 i).toInt ∧ (X 15 i).toInt ≤ 1000000) ∧ (∀ t, t < 40 → ∃ z : Nat, z ≤ 12 ∧ X 19 t = nI z ∧ ∀ i, i < z → ∃ w kk : Nat, w < 12 ∧ X 18 (t * 12 + i) = nI w ∧ 1 ≤ kk ∧ kk ≤ 6 ∧ X 1 w = nI kk)
theorem cn_r {m : Nat} (hR : RpX X) (ht : t < 40) (hw : w < 12) (hm : m < 3) : 0 ≤ (cnF X t w m).toInt ∧ (cnF X t w m).toInt ≤ 1000000 := by
  unfold cnF
  rw [Int32.toInt_toInt64]
  exact hR.1 _ (by omega)
theorem AB_pt {P kk : Nat} (hB : BgX b X) (hb : b ≤ 24) (ht : t < 40) (hS : StX X) (hR : RpX X) (hw : w < 12) (hk : X 1 w = nI kk) (h1 : 1 ≤ kk) (h6 : kk ≤ 6) (hP : P ≤ 3) : ∀ (j m : Nat) (g : TC) (U : Int), m + j = P → KIn b X g.1.2.1 → AB Lo κ U D g.1.2.1 → U + j * 1000000000000 ≤ 10000000000000000 → AB Lo κ (U + j * 1000000000000) D (ptF X r t b w P j m g).1.2.1 ∧ KIn b X (ptF X r t b w P j m g).1.2.1
  | 0, m, g, U, _, hK, hA, hU => ⟨hA.mono (by omega), hK⟩
  | j + 1, m, g, U, hm, hK, hA, hU => by
    rw [ptF_s]
    obtain ⟨k, hkk, es⟩ := stN_k (d := dyF t P m) hk h1 h6
    have hc := cn_r hR ht hw (m := m) (by omega)
    obtain ⟨a1, a2⟩ := AB_sh (r := r) (w := w) (s := stN X w (dyF t P m)) hB hb ht hS (by rw [es]; omega) (by rw [es]; exact hS.2.2 w kk k hw h6 hk hkk) hc.1 hc.2 hK hA (by omega)
    obtain ⟨b1, b2⟩ := AB_pt hB hb ht hS hR hw hk h1 h6 hP j (m + 1) (shF X r t b w (stN X w (dyF t P m)) (cnF X t w m) 3 0 g.1, g.2 + cnF X t w m * 1000000) (U + 1000000000000) (by omega) a2 a1 (by omega)
    exact ⟨b1.mono (by omega), b2⟩
theorem AB_bi {kk : Nat} {g : TC} (hB : BgX b X) (hb : b ≤ 24) (ht : t < 40) (hS : StX X) (hR : RpX X) (hw : w < 12) (hk : X 1 w = nI kk) (h1 : 1 ≤ kk) (h6 : kk ≤ 6) (hK : KIn b X g.1.2.1) (hA : AB Lo κ U D g.1.2.1) (hU : U + 3000000000000 ≤ 10000000000000000) : AB Lo κ (U + 3000000000000) D (biF X r t b w g).1.2.1 ∧ KIn b X (biF X r t b w g).1.2.1 := by
  unfold biF
  split
  · have := AB_pt (r := r) (P := 3) hB hb ht hS hR hw hk h1 h6 (by omega) 3 0 g U (by omega) hK hA (by omega)
    exact ⟨this.1.mono (by omega), this.2⟩
  · have := AB_pt (r := r) (P := 1) hB hb ht hS hR hw hk h1 h6 (by omega) 1 0 g U (by omega) hK hA (by omega)
    exact ⟨this.1.mono (by omega), this.2⟩
theorem AB_rp {z : Nat} (hB : BgX b X) (hb : b ≤ 24) (ht : t < 40) (hS : StX X) (hR : RpX X) (hz : X 19 t = nI z) (hz12 : z ≤ 12) : ∀ (j i : Nat) (g : TC) (U : Int), i + j = z → KIn b X g.1.2.1 → AB Lo κ U D g.1.2.1 → U + j * 3000000000000 ≤ 10000000000000000 → AB Lo κ (U + j * 3000000000000) D (rpF X r t b j i g).1.2.1 ∧ KIn b X (rpF X r t b j i g).1.2.1
  | 0, m, g, U, _, hK, hA, hU => ⟨hA.mono (by omega), hK⟩
  | j + 1, i, g, U, hi, hK, hA, hU => by
    rw [rpF_s]
    obtain ⟨z', hz', ez, ho⟩ := hR.2 t ht
    have ezz : z' = z := (nI_eq (by omega) (by omega)).mp (ez.symm.trans hz)
    subst ezz
    obtain ⟨w, kk, hw, ew, h1, h6, hk⟩ := ho i (by omega)
    by_cases hop : opP X t (X 18 (t * 12 + i))
    · rw [if_pos hop]
      obtain ⟨b1, b2⟩ := AB_rp hB hb ht hS hR hz hz12 j (i + 1) g U (by omega) hK hA (by omega)
      exact ⟨b1.mono (by omega), b2⟩
    · rw [if_neg hop, ew, clN (by omega)]
      obtain ⟨a1, a2⟩ := AB_bi (r := r) hB hb ht hS hR hw hk h1 h6 hK hA (by omega)
      obtain ⟨b1, b2⟩ := AB_rp hB hb ht hS hR hz hz12 j (i + 1) (biF X r t b w g) (U + 3000000000000) (by omega) a2 a1 (by omega)
      exact ⟨b1.mono (by omega), b2⟩
theorem AB_rpG {I : TI} {J : TJ} {ci : Int64} (hB : BgX b X) (hb : b ≤ 24) (ht : t < 40) (hS : StX X) (hR : RpX X) (hK : KIn b X J) (hA : AB Lo κ U D J) (hU : U + 36000000000000 ≤ 10000000000000000) : AB Lo κ (U + 36000000000000) D (rpG X r t b I J ci).1.2.1 ∧ KIn b X (rpG X r t b I J ci).1.2.1 := by
  obtain ⟨z, hz, ez, _⟩ := hR.2 t ht
  unfold rpG
  rw [ez, clN (by omega)]
  obtain ⟨a, b⟩ := AB_rp (r := r) hB hb ht hS hR ez hz z 0 ((I, J, 0), ci) U (by omega) hK hA (by omega)
  exact ⟨a.mono (by omega), b⟩
end
