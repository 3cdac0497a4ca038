def UB (c : Nat) : Int := 36000000000000 * (c : Int) + 24000000000000 * ((c / 4 : Nat) : Int)
def FB (c : Nat) : Int := 24000000 * ((c / 4 : Nat) : Int)
theorem UB_le {c : Nat} (h : c ≤ 40) : 0 ≤ UB c ∧ UB c ≤ 1680000000000000 := by unfold UB; omega
theorem FB_le {c : Nat} (h : c ≤ 40) : 0 ≤ FB c ∧ FB c ≤ 240000000 := by unfold FB; omega
/-- BAGS of TERMS from c on, and of BARGAINS that are not there, are empty, and these have kept nothing -/
def BZ (c b : Nat) (J : TJ) : Prop := (∀ n t, n < 24 → t < 40 → (c ≤ t ∨ b ≤ n) → J 32 (n * 40 + t) = 0) ∧ ∀ n, b ≤ n → n < 24 → J 30 n = 0
/-- what a ledger keeps when c TERMS are CLOSED -/
def AI (Lo : Int) (κ : Bool) (c b : Nat) (X : TI) (D : Nat → Int32) (J : TJ) : Prop := KIn b X J ∧ AB Lo κ (UB c) D J ∧ DI c D ∧ FL (FB c) J ∧ BZ c b J
/-- LINES of TERM t put into BAGS of that TERM alone -/
def BF (b t : Nat) (J J' : TJ) : Prop := (∀ n u, n < 24 → u < 40 → ¬ (n < b ∧ u = t) → J' 32 (n * 40 + u) = J 32 (n * 40 + u)) ∧ ∀ n, b ≤ n → J' 30 n = J 30 n
theorem BF.rf {b t : Nat} {J : TJ} : BF b t J J := ⟨fun _ _ _ _ _ => rfl, fun _ _ => rfl⟩
theorem BF.tr {b t : Nat} {J J1 J2 : TJ} (a : BF b t J J1) (c : BF b t J1 J2) : BF b t J J2 := ⟨fun n u h1 h2 h3 => (c.1 n u h1 h2 h3).trans (a.1 n u h1 h2 h3), fun n h => (c.2 n h).trans (a.2 n h)⟩
theorem BF.of {b t : Nat} {J J' : TJ} (e : J' 32 = J 32) (e30 : J' 30 = J 30) : BF b t J J' := ⟨fun _ _ _ _ _ => by rw [e], fun _ _ => by rw [e30]⟩
section
variable {X : TI} {r t b i : Nat} {w h f : Int32}
theorem meet_bf {n : Nat} {y : Int64} {J : TJ} (hn : n < b) (hb : b ≤ 24) (ht : t < 40) : BF b t J (meetF X t J n y) := by
  refine ⟨fun k u hk hu hne => ?_, fun k hk => by rw [meet_30, pk_uLn (by omega)]⟩
  rw [meet_32]
  split
  · rw [pk_uLn (by omega)]
  · rfl
theorem enF_bf {hN : Nat} {y : Int64} {g : TG} : BF b t g.2.1 (enF r i hN y g).2.1 := by
  obtain ⟨q1, q2, q3, q4⟩ := enF_p (r := r) (i := i) (h := hN) (y := y) (g := g)
  refine BF.of ?_ ?_
  · rw [q3 32 (by omega)]
    unfold prF
    rw [va_up_ne _ _ (by omega)]
  · rw [q3 30 (by omega)]
    unfold prF
    rw [va_up_ne _ _ (by omega)]
theorem lnF_bf {ps : Bool} {rec : Nat → Int64 → TG → TG} (hb : b ≤ 24) (ht : t < 40) (hrec : ∀ n y g, n < b → BF b t g.2.1 (rec n y g).2.1) : ∀ (j n : Nat) (y : Int64) (g : TG), n + j = b → BF b t g.2.1 (lnF X r t w ps rec h i j n y g).2.1
  | 0, n, y, g, _ => by rw [lnF_0]; exact enF_bf
  | j + 1, n, y, g, hn => by
    by_cases hz : lg_cmp y 0 ≤ 0
    · rw [lnF_z hz]; exact enF_bf
    · by_cases hh : hdP X w h t n ∧ (ps = true ∨ ¬ psP X n)
      · have hm : BF b t g.2.1 (meetF X t g.2.1 n y) := meet_bf (by omega) hb ht
        by_cases hp : psP X n ∧ ¬ lg_cmp (tkF X g.2.1 n y) 0 ≤ 0
        · rw [lnF_pass (g := g) hz hh hp]
          exact (hm.tr (hrec n _ (g.1, meetF X t g.2.1 n y, g.2.2) (by omega))).tr (lnF_bf hb ht hrec j _ _ _ (by omega))
        · rw [lnF_keep (g := g) hz hh hp]
          exact hm.tr (lnF_bf hb ht hrec j _ _ (g.1, meetF X t g.2.1 n y, g.2.2) (by omega))
      · rw [lnF_skip hz hh]
        exact lnF_bf hb ht hrec j _ _ _ (by omega)
theorem rlF_bf {ps : Bool} {rec : Nat → Int64 → TG → TG} {n : Nat} {m : Int64} {g : TG} (hb : b ≤ 24) (ht : t < 40) (hn : n ≤ b) (hrec : ∀ n y g, n < b → BF b t g.2.1 (rec n y g).2.1) : BF b t g.2.1 (rlF X r t b w ps rec h f n m g).2.1 := by
  unfold rlF
  exact BF.tr (BF.of ((bgF_p (r := r) (w := w) (h := h) (f := f) (m := m) (g := g)).2.1 32 (by omega)) ((bgF_p (r := r) (w := w) (h := h) (f := f) (m := m) (g := g)).2.1 30 (by omega))) (lnF_bf hb ht hrec (b - n) n m _ (by omega))
theorem rl2_bf {n : Nat} {m : Int64} {g : TG} (hb : b ≤ 24) (ht : t < 40) (hn : n ≤ b) : BF b t g.2.1 (rl2 X r t b w h f n m g).2.1 := rlF_bf hb ht hn (fun _ _ _ _ => BF.rf)
theorem rl1_bf {n : Nat} {m : Int64} {g : TG} (hb : b ≤ 24) (ht : t < 40) (hn : n ≤ b) : BF b t g.2.1 (rl1 X r t b w h f n m g).2.1 := rlF_bf hb ht hn (fun _ _ _ h => rl2_bf hb ht (by omega))
theorem rl0_bf {n : Nat} {m : Int64} {g : TG} (hb : b ≤ 24) (ht : t < 40) (hn : n ≤ b) : BF b t g.2.1 (rl0 X r t b w h f n m g).2.1 := rlF_bf hb ht hn (fun _ _ _ h => rl1_bf hb ht (by omega))
end
section
variable {X : TI} {r t b w s : Nat} {y : Int64}
theorem shF_bf (hb : b ≤ 24) (ht : t < 40) : ∀ (j e : Nat) (g : TG), BF b t g.2.1 (shF X r t b w s y j e g).2.1
  | 0, _, _ => BF.rf
  | j + 1, e, g => by
    rw [shF_s]
    refine BF.tr ?_ (shF_bf hb ht j (e + 1) _)
    split
    · exact BF.rf
    · exact rl0_bf hb ht (by omega)
theorem ptF_bf {P : Nat} (hb : b ≤ 24) (ht : t < 40) : ∀ (j e : Nat) (g : TC), BF b t g.1.2.1 (ptF X r t b w P j e g).1.2.1
  | 0, _, _ => BF.rf
  | j + 1, e, g => by
    rw [ptF_s]
    exact BF.tr (shF_bf hb ht 3 0 g.1) (ptF_bf hb ht j (e + 1) (_, _))
theorem biF_bf (hb : b ≤ 24) (ht : t < 40) (g : TC) : BF b t g.1.2.1 (biF X r t b w g).1.2.1 := by
  unfold biF
  split
  · exact ptF_bf hb ht _ _ _
  · exact ptF_bf hb ht _ _ _
theorem rpF_bf (hb : b ≤ 24) (ht : t < 40) : ∀ (j i : Nat) (g : TC), BF b t g.1.2.1 (rpF X r t b j i g).1.2.1
  | 0, _, _ => BF.rf
  | j + 1, i, g => by
    rw [rpF_s]
    refine BF.tr ?_ (rpF_bf hb ht j (i + 1) _)
    split
    · exact BF.rf
    · exact biF_bf hb ht g
end
section
variable {X : TI} {t b : Nat}
/-- an empty BAG stays empty when the old ones are emptied -/
theorem eoF_bz (ht : t < 40) : ∀ (j n : Nat) (J : TJ) (i : Nat), J 32 i = 0 → eoF X t j n J 32 i = 0
  | 0, _, _, _, h => h
  | j + 1, n, J, i, h => by
    rw [eoF_s]
    refine eoF_bz ht j (n + 1) _ i ?_
    split
    · rw [eoS_32]
      by_cases g : i = n * 40 + (t - (X 11 n).toNatClampNeg)
      · rw [g, pk_uLs]
      · rw [pk_uLn g]
        exact h
    · exact h
theorem pyF_o {k : Nat} (h1 : k ≠ 26) (h2 : k ≠ 27) : ∀ (j h : Nat) (g : TI × TJ), (pyF t j h g).2 k = g.2 k
  | 0, _, _ => rfl
  | j + 1, h, g => by
    rw [pyF_s, pyF_o h1 h2 j (h + 1)]
    dsimp only
    unfold pyJ
    rw [va_up_ne _ _ h1, pyA_o h1 h2]
theorem pyF_i {k : Nat} (h1 : k ≠ 29) : ∀ (j h : Nat) (g : TI × TJ), (pyF t j h g).1 k = g.1 k
  | 0, _, _ => rfl
  | j + 1, h, g => by
    rw [pyF_s, pyF_i h1 j (h + 1)]
    dsimp only
    rw [va_up_ne _ _ h1]
theorem flF_o {k : Nat} (h1 : k ≠ 28) : ∀ (j n : Nat) (g : TI × TJ), (flF X t j n g).2 k = g.2 k
  | 0, _, _ => rfl
  | j + 1, n, g => by
    rw [flF_s, flF_o h1 j (n + 1)]
    split
    · unfold flS
      dsimp only
      rw [va_up_ne _ _ h1]
    · rfl
theorem flF_i {k : Nat} (h1 : k ≠ 29) : ∀ (j n : Nat) (g : TI × TJ), (flF X t j n g).1 k = g.1 k
  | 0, _, _ => rfl
  | j + 1, n, g => by
    rw [flF_s, flF_i h1 j (n + 1)]
    split
    · unfold flS
      dsimp only
      rw [va_up_ne _ _ h1]
    · rfl
theorem clQ_o {k : Nat} {g : TI × TJ} (h1 : k ≠ 28) : (clQ X t b g).2 k = g.2 k := by
  unfold clQ
  split
  · exact flF_o h1 _ _ _
  · rfl
theorem clQ_i {k : Nat} {g : TI × TJ} (h1 : k ≠ 29) : (clQ X t b g).1 k = g.1 k := by
  unfold clQ
  split
  · exact flF_i h1 _ _ _
  · rfl
/-- a CLOSE keeps all -/
theorem AI_cl {Lo : Int} {κ : Bool} {r c : Nat} {I : TI} {J : TJ} {ci : Int64} (hB : BgX b X) (hb : b ≤ 24) (hc : c < 40) (hS : StX X) (hR : RpX X) (h : AI Lo κ c b X (I 29) J) : AI Lo κ (c + 1) b X ((clQ X c b (clP X c b (rpG X r c b I J ci))).1 29) (clQ X c b (clP X c b (rpG X r c b I J ci))).2 := by
  obtain ⟨hK, hA, hD, hF, hZ⟩ := h
  have hU := UB_le (c := c) (by omega)
  have hFB := FB_le (c := c) (by omega)
  obtain ⟨a1, a2⟩ := AB_rpG (r := r) (I := I) (ci := ci) hB hb hc hS hR hK hA (by omega)
  have gf : GF (I, J, 0) (rpG X r c b I J ci).1 := rpF_gf _ _ _
  have bf : BF b c J (rpG X r c b I J ci).1.2.1 := rpF_bf hb hc _ _ ((I, J, 0), ci)
  have e29 : (rpG X r c b I J ci).1.1 29 = I 29 := gf.1 29 (by omega) (by omega) (by omega)
  have e28 : (rpG X r c b I J ci).1.2.1 28 = J 28 := gf.2 28 (by omega) (by omega) (by omega) (by omega) (by omega) (by omega)
  generalize rpG X r c b I J ci = G at a1 a2 e29 e28 bf
  have hE : AB Lo κ (UB c + 36000000000000) (I 29) (eoF X c b 0 G.1.2.1) := AB_eo hB hb (by omega) hc b 0 _ (by omega) a1
  have e30 : eoF X c b 0 G.1.2.1 30 = G.1.2.1 30 := eoF_o (by omega) (by omega) _ _ _
  have e28' : eoF X c b 0 G.1.2.1 28 = J 28 := (eoF_o (by omega) (by omega) _ _ _).trans e28
  have hz : ∀ n t, n < 24 → t < 40 → (c + 1 ≤ t ∨ b ≤ n) → eoF X c b 0 G.1.2.1 32 (n * 40 + t) = 0 := fun n t hn ht hor => by
    refine eoF_bz hc _ _ _ _ ?_
    rw [bf.1 n t hn ht (by omega)]
    exact hZ.1 n t hn ht (by omega)
  have hpy := AB_py (Lo := Lo) (κ := κ) (t := c) (U := UB c + 36000000000000) (by omega) hc 12 0 (G.1.1, eoF X c b 0 G.1.2.1) (by omega) (by dsimp only; rw [e29]; exact hE) (fun k u hk hu => by
    dsimp only
    rw [e29]
    have q := hD k u hk hu
    refine ⟨q.1, fun z => q.2 (by omega), fun z => ?_⟩
    rw [q.2 (by omega)]
    decide)
  have p30 : ∀ k, k ≠ 26 → k ≠ 27 → (clP X c b G).2 k = eoF X c b 0 G.1.2.1 k := fun k h1 h2 => pyF_o h1 h2 _ _ _
  have hcp : clP X c b G = pyF c 12 0 (G.1.1, eoF X c b 0 G.1.2.1) := rfl
  rw [← hcp] at hpy
  generalize clP X c b G = P at hpy p30
  refine ⟨fun k hk h1 => ?_, ?_, ?_, ?_, fun n t hn ht hor => ?_, fun n hn h24 => ?_⟩
  · rw [clQ_o (by omega), p30 30 (by omega) (by omega), e30]
    exact a2 k hk h1
  · unfold clQ
    split
    · have := (AB_fl (Lo := Lo) (κ := κ) hB hc (by omega) b 0 (UB c + 36000000000000) 2000000000 (FB c) P (by omega) (by omega) (by omega) hpy.1 (fun k hk => by rw [p30 28 (by omega) (by omega), e28']; exact hF k hk) hpy.2).1
      refine this.mono ?_
      unfold UB
      omega
    · refine hpy.1.mono ?_
      unfold UB
      omega
  · intro k u hk hu
    unfold clQ
    split
    · have := (AB_fl (Lo := Lo) (κ := κ) hB hc (by omega) b 0 (UB c + 36000000000000) 2000000000 (FB c) P (by omega) (by omega) (by omega) hpy.1 (fun k hk => by rw [p30 28 (by omega) (by omega), e28']; exact hF k hk) hpy.2).2.2 k u hk hu
      exact ⟨this.1, fun z => this.2 (by omega)⟩
    · have := hpy.2 k u hk hu
      exact ⟨this.1, fun z => this.2.1 (by omega)⟩
  · unfold clQ
    split
    · have := (AB_fl (Lo := Lo) (κ := κ) hB hc (by omega) b 0 (UB c + 36000000000000) 2000000000 (FB c) P (by omega) (by omega) (by omega) hpy.1 (fun k hk => by rw [p30 28 (by omega) (by omega), e28']; exact hF k hk) hpy.2).2.1
      intro k hk
      have q := this k hk
      unfold FB at q ⊢
      omega
    · intro k hk
      rw [p30 28 (by omega) (by omega), e28']
      have q := hF k hk
      unfold FB at q ⊢
      omega
  · rw [clQ_o (by omega), p30 32 (by omega) (by omega)]
    exact hz n t hn ht hor
  · rw [clQ_o (by omega), p30 30 (by omega) (by omega), e30, bf.2 n hn]
    exact hZ.2 n hn h24
/-- what is SENT BACK keeps all -/
theorem tsN_bz {hd : Int32} : ∀ (j n : Nat) (g : TJ × Int64) (i : Nat), 0 ≤ g.2.toInt → n + j ≤ 24 → (∀ k, k < 960 → 0 ≤ (g.1 32 k).toInt) → t < 40 → g.1 32 i = 0 → (tsN X hd t j n g).1 32 i = 0
  | 0, _, _, _, _, _, _, _, h => h
  | j + 1, n, g, i, h0, hn, hnn, ht, h => by
    rw [tsN_s]
    have hb := hnn (n * 40 + t) (by omega)
    have hm : 0 ≤ (tsM X t n g).toInt ∧ (tsM X t n g).toInt ≤ g.2.toInt ∧ (tsM X t n g).toInt ≤ (g.1 32 (n * 40 + t)).toInt := by
      unfold tsM
      by_cases q : g.1 32 (n * 40 + t) < g.2
      · rw [if_pos q]
        have := vx_lt.mp q
        omega
      · rw [if_neg q]
        have : ¬ (g.1 32 (n * 40 + t)).toInt < g.2.toInt := fun z => q (vx_lt.mpr z)
        omega
    have r1 := vx_rg g.2
    have r2 := vx_rg (g.1 32 (n * 40 + t))
    split
    · refine tsN_bz j (n + 1) _ i ?_ (by omega) (fun k hk => ?_) ht ?_
      · show 0 ≤ (g.2 - tsM X t n g).toInt
        rw [vx_sb (by omega) (by omega)]
        omega
      · unfold tsS
        dsimp only
        rw [va_up_self]
        by_cases gk : k = n * 40 + t
        · rw [gk, pk_uLs, vx_sb (by omega) (by omega)]
          omega
        · rw [pk_uLn gk]
          exact hnn k hk
      · unfold tsS
        dsimp only
        rw [va_up_self]
        by_cases gk : i = n * 40 + t
        · rw [gk, pk_uLs]
          rw [gk] at h
          have z0 := vx_0
          refine vx_eq ?_
          rw [h] at hm hb ⊢
          rw [vx_sb (by omega) (by omega)]
          omega
        · rw [pk_uLn gk]
          exact h
    · exact tsN_bz j (n + 1) g i h0 (by omega) hnn ht h
end
