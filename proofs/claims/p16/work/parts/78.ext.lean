/-- books X' go on from X: for TERMS below c nothing is new -/
def XE (c b b' : Nat) (X X' : TI) : Prop :=
  (b ≤ b' ∧ b' ≤ 24) ∧ (∀ k n, 6 ≤ k → k ≤ 13 → n < b → X' k n = X k n) ∧ (∀ n, b ≤ n → n < b' → ¬ X' 9 n < nI (c * 90)) ∧
  (∀ w, w < 12 → ∃ kk kk' : Nat, kk ≤ kk' ∧ kk' ≤ 6 ∧ X 1 w = nI kk ∧ X' 1 w = nI kk' ∧ (∀ k, k < kk → X' 2 (w * 6 + k) = X 2 (w * 6 + k)) ∧ (∀ k e, k < kk → e < 3 → X' 3 ((w * 6 + k) * 3 + e) = X 3 ((w * 6 + k) * 3 + e) ∧ X' 4 ((w * 6 + k) * 3 + e) = X 4 ((w * 6 + k) * 3 + e)) ∧ (∀ k, kk ≤ k → k < kk' → ¬ X' 2 (w * 6 + k) < nI (c * 90))) ∧
  (∀ t, t < c → X' 19 t = X 19 t ∧ X' 20 t = X 20 t ∧ ∀ i, i < 12 → X' 18 (t * 12 + i) = X 18 (t * 12 + i) ∧ X' 16 (t * 12 + i) = X 16 (t * 12 + i) ∧ ∀ m, m < 3 → X' 15 ((t * 12 + i) * 3 + m) = X 15 ((t * 12 + i) * 3 + m))
theorem day_lt {t c : Nat} {x : Int32} (htc : t < c) (hc : c ≤ 40) (h : ¬ x < nI (c * 90)) : nI (t * 90 + 89) < x := by
  refine vi_lt.mpr ?_
  have : ¬ x.toInt < (nI (c * 90)).toInt := fun q => h (vi_lt.mpr q)
  rw [nI_toInt (by omega)] at this ⊢
  omega
section
variable {X X' : TI} {r t b b' ex i c : Nat} {w h : Int32}
theorem tkF_ex {J : TJ} {n : Nat} {y : Int64} (h6 : X' 6 n = X 6 n) (h10 : X' 10 n = X 10 n) (h11 : X' 11 n = X 11 n) (h12 : X' 12 n = X 12 n) : tkF X' J n y = tkF X J n y := by
  unfold tkF
  rw [h6, h10, h11, h12]
theorem meet_ex {J : TJ} {n : Nat} {y : Int64} (h6 : X' 6 n = X 6 n) (h10 : X' 10 n = X 10 n) (h11 : X' 11 n = X 11 n) (h12 : X' 12 n = X 12 n) : meetF X' t J n y = meetF X t J n y := by
  unfold meetF
  rw [tkF_ex h6 h10 h11 h12, h6]
theorem lnF_ex0 {ps : Bool} {rec : Nat → Int64 → TG → TG} : ∀ (ex n : Nat) (y : Int64) (g : TG), (∀ k, n ≤ k → k < n + ex → ¬ hdP X' w h t k) → lnF X' r t w ps rec h i ex n y g = enF r i h.toNatClampNeg y g
  | 0, n, y, g, _ => lnF_0
  | ex + 1, n, y, g, hno => by
    by_cases hz : lg_cmp y 0 ≤ 0
    · exact lnF_z hz
    · rw [lnF_skip hz (fun q => hno n (Nat.le_refl _) (by omega) q.1)]
      exact lnF_ex0 ex (n + 1) y g (fun k h1 h2 => hno k (by omega) (by omega))
theorem lnF_ext {ps : Bool} {rec rec' : Nat → Int64 → TG → TG} (hrec : ∀ n y g, n < b → rec' n y g = rec n y g) (hx : ∀ k n, 6 ≤ k → k ≤ 13 → n < b → X' k n = X k n) (hno : ∀ k, b ≤ k → k < b + ex → ¬ hdP X' w h t k) : ∀ (j n : Nat) (y : Int64) (g : TG), n + j = b → lnF X' r t w ps rec' h i (j + ex) n y g = lnF X r t w ps rec h i j n y g
  | 0, n, y, g, hn => by
    rw [lnF_0, Nat.zero_add]
    exact lnF_ex0 ex n y g (fun k h1 h2 => hno k (by omega) (by omega))
  | j + 1, n, y, g, hn => by
    rw [show j + 1 + ex = (j + ex) + 1 by omega]
    have e6 := hx 6 n (by omega) (by omega) (by omega)
    have e7 := hx 7 n (by omega) (by omega) (by omega)
    have e8 := hx 8 n (by omega) (by omega) (by omega)
    have e9 := hx 9 n (by omega) (by omega) (by omega)
    have e10 := hx 10 n (by omega) (by omega) (by omega)
    have e11 := hx 11 n (by omega) (by omega) (by omega)
    have e12 := hx 12 n (by omega) (by omega) (by omega)
    have eh : (hdP X' w h t n ∧ (ps = true ∨ ¬ psP X' n)) ↔ (hdP X w h t n ∧ (ps = true ∨ ¬ psP X n)) := by
      unfold hdP psP
      rw [e6, e7, e8, e9]
    have et : tkF X' g.2.1 n y = tkF X g.2.1 n y := tkF_ex e6 e10 e11 e12
    have em : meetF X' t g.2.1 n y = meetF X t g.2.1 n y := meet_ex e6 e10 e11 e12
    have ep : (psP X' n ∧ ¬ lg_cmp (tkF X' g.2.1 n y) 0 ≤ 0) ↔ (psP X n ∧ ¬ lg_cmp (tkF X g.2.1 n y) 0 ≤ 0) := by
      rw [et]
      unfold psP
      rw [e6]
    by_cases hz : lg_cmp y 0 ≤ 0
    · rw [lnF_z hz, lnF_z hz]
    · by_cases hh : hdP X w h t n ∧ (ps = true ∨ ¬ psP X n)
      · by_cases hp : psP X n ∧ ¬ lg_cmp (tkF X g.2.1 n y) 0 ≤ 0
        · rw [lnF_pass (g := g) hz (eh.mpr hh) (ep.mpr hp), lnF_pass (g := g) hz hh hp, et, em, hrec n _ _ (by omega)]
          exact lnF_ext hrec hx hno j (n + 1) _ _ (by omega)
        · rw [lnF_keep (g := g) hz (eh.mpr hh) (fun q => hp (ep.mp q)), lnF_keep (g := g) hz hh hp, et, em]
          exact lnF_ext hrec hx hno j (n + 1) _ _ (by omega)
      · rw [lnF_skip hz (fun q => hh (eh.mp q)), lnF_skip hz hh]
        exact lnF_ext hrec hx hno j (n + 1) _ _ (by omega)
end
section
variable {X X' : TI} {r t b b' c : Nat}
theorem XE.no (hE : XE c b b' X X') (htc : t < c) (hc : c ≤ 40) (w h : Int32) : ∀ k, b ≤ k → k < b + (b' - b) → ¬ hdP X' w h t k := fun k h1 h2 q => q.2.2 (day_lt htc hc (hE.2.2.1 k h1 (by have := hE.1.1; omega)))
theorem rlF_ext {w h f : Int32} {ps : Bool} {rec rec' : Nat → Int64 → TG → TG} {n : Nat} {m : Int64} {g : TG} (hE : XE c b b' X X') (htc : t < c) (hc : c ≤ 40) (hrec : ∀ n y g, n < b → rec' n y g = rec n y g) (hn : n ≤ b) : rlF X' r t b' w ps rec' h f n m g = rlF X r t b w ps rec h f n m g := by
  unfold rlF
  rw [show b' - n = (b - n) + (b' - b) by have := hE.1.1; omega]
  exact lnF_ext hrec hE.2.1 (hE.no htc hc w h) (b - n) n m _ (by omega)
theorem rl2_ext {w h f : Int32} {n : Nat} {m : Int64} {g : TG} (hE : XE c b b' X X') (htc : t < c) (hc : c ≤ 40) (hn : n ≤ b) : rl2 X' r t b' w h f n m g = rl2 X r t b w h f n m g := rlF_ext hE htc hc (fun _ _ _ _ => rfl) hn
theorem rl1_ext {w h f : Int32} {n : Nat} {m : Int64} {g : TG} (hE : XE c b b' X X') (htc : t < c) (hc : c ≤ 40) (hn : n ≤ b) : rl1 X' r t b' w h f n m g = rl1 X r t b w h f n m g := rlF_ext hE htc hc (fun k y g hk => by rw [hE.2.1 13 k (by omega) (by omega) hk]; exact rl2_ext hE htc hc (by omega)) hn
theorem rl0_ext {w h f : Int32} {n : Nat} {m : Int64} {g : TG} (hE : XE c b b' X X') (htc : t < c) (hc : c ≤ 40) (hn : n ≤ b) : rl0 X' r t b' w h f n m g = rl0 X r t b w h f n m g := rlF_ext hE htc hc (fun k y g hk => by rw [hE.2.1 13 k (by omega) (by omega) hk]; exact rl1_ext hE htc hc (by omega)) hn
theorem shF_ext {w s : Nat} {y : Int64} (hE : XE c b b' X X') (htc : t < c) (hc : c ≤ 40) (hs : ∀ e, e < 3 → X' 3 (s * 3 + e) = X 3 (s * 3 + e) ∧ X' 4 (s * 3 + e) = X 4 (s * 3 + e)) : ∀ (j e : Nat) (g : TG), e + j ≤ 3 → shF X' r t b' w s y j e g = shF X r t b w s y j e g
  | 0, _, _, _ => rfl
  | j + 1, e, g, he => by
    rw [shF_s, shF_s, (hs e (by omega)).1, (hs e (by omega)).2, rl0_ext hE htc hc (by omega)]
    exact shF_ext hE htc hc hs j (e + 1) _ (by omega)
theorem stS_ex {w : Nat} {d : Int32} {kk : Nat} : ∀ (ex s f : Nat), (∀ k, s ≤ k → k < s + ex → d < X' 2 (w * 6 + k)) → stS X' w d ex s f = f
  | 0, _, _, _ => rfl
  | ex + 1, s, f, h => by
    show stS X' w d ex (s + 1) (if d < X' 2 (w * 6 + s) then f else w * 6 + s) = f
    rw [if_pos (h s (Nat.le_refl _) (by omega))]
    exact stS_ex (kk := kk) ex (s + 1) f (fun k h1 h2 => h k (by omega) (by omega))
theorem stS_ext {w : Nat} {d : Int32} {kk ex : Nat} (h2 : ∀ k, k < kk → X' 2 (w * 6 + k) = X 2 (w * 6 + k)) (hno : ∀ k, kk ≤ k → k < kk + ex → d < X' 2 (w * 6 + k)) : ∀ (j s f : Nat), s + j = kk → stS X' w d (j + ex) s f = stS X w d j s f
  | 0, s, f, hs => by
    rw [Nat.zero_add]
    exact stS_ex (kk := kk) ex s f (fun k h1 h3 => hno k (by omega) (by omega))
  | j + 1, s, f, hs => by
    rw [show j + 1 + ex = (j + ex) + 1 by omega]
    show stS X' w d (j + ex) (s + 1) (if d < X' 2 (w * 6 + s) then f else w * 6 + s) = stS X w d j (s + 1) (if d < X 2 (w * 6 + s) then f else w * 6 + s)
    rw [h2 s (by omega)]
    exact stS_ext h2 hno j (s + 1) _ (by omega)
theorem stN_ext {w kk : Nat} {d : Int32} (hE : XE c b b' X X') (hw : w < 12) (hk : X 1 w = nI kk) (h1 : 1 ≤ kk) (h6 : kk ≤ 6) (hd : d < nI (c * 90)) : stN X' w d = stN X w d := by
  obtain ⟨k1, k2, a1, a2, a3, a4, a5, a6, a7⟩ := hE.2.2.2.1 w hw
  have : k1 = kk := (nI_eq (by omega) (by omega)).mp (a3.symm.trans hk)
  subst this
  unfold stN
  rw [a3, a4, clN (by omega), clN (by omega), show k2 - 1 = (k1 - 1) + (k2 - k1) by omega]
  refine stS_ext a5 (fun k q1 q2 => ?_) (k1 - 1) 1 _ (by omega)
  have := a7 k q1 (by omega)
  refine vi_lt.mpr ?_
  have z1 := vi_lt.mp hd
  have z2 : ¬ (X' 2 (w * 6 + k)).toInt < (nI (c * 90)).toInt := fun q => this (vi_lt.mpr q)
  omega
theorem dy_lt {P m : Nat} (htc : t < c) (hc : c ≤ 40) : dyF t P m < nI (c * 90) := by
  unfold dyF
  exact nI_lt (by omega) (by omega)
theorem ptF_ext {w kk P : Nat} (hE : XE c b b' X X') (htc : t < c) (hc : c ≤ 40) (hw : w < 12) (hk : X 1 w = nI kk) (h1 : 1 ≤ kk) (h6 : kk ≤ 6) (hP : P ≤ 3) : ∀ (j m : Nat) (g : TC), m + j = P → ptF X' r t b' w P j m g = ptF X r t b w P j m g
  | 0, _, _, _ => rfl
  | j + 1, m, g, hm => by
    obtain ⟨k, hkk, es⟩ := stN_k (d := dyF t P m) hk h1 h6
    obtain ⟨k1, k2, a1, a2, a3, a4, a5, a6, a7⟩ := hE.2.2.2.1 w hw
    have : k1 = kk := (nI_eq (by omega) (by omega)).mp (a3.symm.trans hk)
    subst this
    have ec : cnF X' t w m = cnF X t w m := by
      unfold cnF
      rw [((hE.2.2.2.2 t htc).2.2 w hw).2.2 m (by omega)]
    rw [ptF_s, ptF_s, stN_ext hE hw hk h1 h6 (dy_lt htc hc), ec, shF_ext hE htc hc (fun e he => by rw [es]; exact a6 k e hkk he) 3 0 _ (by omega)]
    exact ptF_ext hE htc hc hw hk h1 h6 hP j (m + 1) _ (by omega)
theorem biF_ext {w kk : Nat} {g : TC} (hE : XE c b b' X X') (htc : t < c) (hc : c ≤ 40) (hw : w < 12) (hk : X 1 w = nI kk) (h1 : 1 ≤ kk) (h6 : kk ≤ 6) : biF X' r t b' w g = biF X r t b w g := by
  unfold biF
  rw [((hE.2.2.2.2 t htc).2.2 w hw).2.1]
  split
  · exact ptF_ext hE htc hc hw hk h1 h6 (by omega) 3 0 g (by omega)
  · exact ptF_ext hE htc hc hw hk h1 h6 (by omega) 1 0 g (by omega)
theorem rpF_ext {z : Nat} (hE : XE c b b' X X') (htc : t < c) (hc : c ≤ 40) (hR : RpX X) (hz : X 19 t = nI z) (hz12 : z ≤ 12) : ∀ (j i : Nat) (g : TC), i + j = z → rpF X' r t b' j i g = rpF X r t b j i g
  | 0, _, _, _ => rfl
  | j + 1, i, g, hi => by
    obtain ⟨z', hz', ez, ho⟩ := hR.2 t (by omega)
    have ezz : z' = z := (nI_eq (by omega) (by omega)).mp (ez.symm.trans hz)
    subst ezz
    obtain ⟨w, kk, hw, ew, h1, h6, hk⟩ := ho i (by omega)
    have e18 := ((hE.2.2.2.2 t htc).2.2 i (by omega)).1
    have eo : opP X' t (nI w) ↔ opP X t (nI w) := by
      unfold opP
      rw [(hE.2.2.2.2 t htc).2.1]
    rw [rpF_s, rpF_s, e18, ew, clN (by omega)]
    by_cases hop : opP X t (nI w)
    · rw [if_pos hop, if_pos (eo.mpr hop)]
      exact rpF_ext hE htc hc hR hz hz12 j (i + 1) g (by omega)
    · rw [if_neg hop, if_neg (fun q => hop (eo.mp q)), biF_ext hE htc hc hw hk h1 h6]
      exact rpF_ext hE htc hc hR hz hz12 j (i + 1) _ (by omega)
theorem rpG_ext {I : TI} {J : TJ} {ci : Int64} (hE : XE c b b' X X') (htc : t < c) (hc : c ≤ 40) (hR : RpX X) : rpG X' r t b' I J ci = rpG X r t b I J ci := by
  obtain ⟨z, hz, ez, _⟩ := hR.2 t (by omega)
  unfold rpG
  rw [(hE.2.2.2.2 t htc).1, ez, clN (by omega)]
  exact rpF_ext hE htc hc hR ez hz z 0 _ (by omega)
theorem eoF_id {J : TJ} : ∀ (ex n : Nat), (∀ k u, n ≤ k → k < n + ex → u ≤ t → J 32 (k * 40 + u) = 0) → eoF X' t ex n J = J
  | 0, _, _ => rfl
  | ex + 1, n, h => by
    have e : eoS X' t J n = J := by
      have e0 := h n (t - (X' 11 n).toNatClampNeg) (Nat.le_refl _) (by omega) (by omega)
      unfold eoS
      rw [e0]
      have ep : prF J (X' 7 n).toNatClampNeg 0 = J := by
        unfold prF
        rw [Int64.add_zero]
        exact upJ_same rfl
      rw [ep]
      exact upJ_same e0.symm
    rw [eoF_s, e]
    split
    · exact eoF_id ex (n + 1) (fun k u h1 h2 h3 => h k u (by omega) (by omega) h3)
    · exact eoF_id ex (n + 1) (fun k u h1 h2 h3 => h k u (by omega) (by omega) h3)
theorem eoF_ext {ex : Nat} (ht : t < 40) (hx : ∀ k n, 6 ≤ k → k ≤ 13 → n < b → X' k n = X k n) : ∀ (j n : Nat) (J : TJ), n + j = b → (∀ k u, b ≤ k → k < b + ex → u ≤ t → J 32 (k * 40 + u) = 0) → eoF X' t (j + ex) n J = eoF X t j n J
  | 0, n, J, hn, hz => by
    rw [Nat.zero_add]
    exact eoF_id ex n (fun k u h1 h2 h3 => hz k u (by omega) (by omega) h3)
  | j + 1, n, J, hn, hz => by
    rw [show j + 1 + ex = (j + ex) + 1 by omega, eoF_s, eoF_s]
    have e : eoS X' t J n = eoS X t J n := by
      unfold eoS
      rw [hx 7 n (by omega) (by omega) (by omega), hx 11 n (by omega) (by omega) (by omega)]
    rw [hx 6 n (by omega) (by omega) (by omega), hx 11 n (by omega) (by omega) (by omega), e]
    refine eoF_ext ht hx j (n + 1) _ (by omega) (fun k u h1 h2 h3 => ?_)
    split
    · rw [eoS_32]
      by_cases g : k * 40 + u = n * 40 + (t - (X 11 n).toNatClampNeg)
      · rw [g, pk_uLs]
      · rw [pk_uLn g]
        exact hz k u h1 h2 h3
    · exact hz k u h1 h2 h3
theorem flF_ext {ex : Nat} (hx : ∀ k n, 6 ≤ k → k ≤ 13 → n < b → X' k n = X k n) (hno : ∀ n, b ≤ n → n < b + ex → nI (t * 90 + 89) < X' 9 n) : ∀ (j n : Nat) (g : TI × TJ), n + j = b → flF X' t (j + ex) n g = flF X t j n g
  | 0, n, g, hn => by
    rw [Nat.zero_add]
    have : ∀ (ex n : Nat), (∀ k, n ≤ k → k < n + ex → nI (t * 90 + 89) < X' 9 k) → flF X' t ex n g = g := by
      intro ex
      induction ex with
      | zero => intro n _; rfl
      | succ ex ih =>
        intro n h
        rw [flF_s, if_neg (fun q => q.2 (h n (Nat.le_refl _) (by omega)))]
        exact ih (n + 1) (fun k h1 h2 => h k (by omega) (by omega))
    exact this ex n (fun k h1 h2 => hno k (by omega) (by omega))
  | j + 1, n, g, hn => by
    rw [show j + 1 + ex = (j + ex) + 1 by omega, flF_s, flF_s]
    have e : flS X' t g n = flS X t g n := by
      unfold flS flL
      rw [hx 7 n (by omega) (by omega) (by omega), hx 10 n (by omega) (by omega) (by omega)]
    rw [hx 6 n (by omega) (by omega) (by omega), hx 9 n (by omega) (by omega) (by omega), e]
    exact flF_ext hx hno j (n + 1) _ (by omega)
theorem clK_ext {g : TK} (hE : XE c b b' X X') (htc : t < c) (hc : c ≤ 40) (hb : b ≤ 24) (hR : RpX X) (hz : BZ t b g.2.1) : clK X' r b' t g = clK X r b t g := by
  have e1 : rpG X' r t b' g.1 g.2.1 g.2.2.2.1 = rpG X r t b g.1 g.2.1 g.2.2.2.1 := rpG_ext hE htc hc hR
  have bf : BF b t g.2.1 (rpG X r t b g.1 g.2.1 g.2.2.2.1).1.2.1 := rpF_bf hb (by omega) _ _ ((g.1, g.2.1, 0), g.2.2.2.1)
  have hbb := hE.1
  have e2 : clP X' t b' (rpG X r t b g.1 g.2.1 g.2.2.2.1) = clP X t b (rpG X r t b g.1 g.2.1 g.2.2.2.1) := by
    unfold clP
    have := eoF_ext (X := X) (X' := X') (ex := b' - b) (t := t) (by omega) hE.2.1 b 0 (rpG X r t b g.1 g.2.1 g.2.2.2.1).1.2.1 (by omega) (fun k u h1 h2 h3 => by
      rw [bf.1 k u (by omega) (by omega) (by omega)]
      exact hz.1 k u (by omega) (by omega) (Or.inr h1))
    rw [show b + (b' - b) = b' by omega] at this
    rw [this]
  have e3 : ∀ q : TI × TJ, clQ X' t b' q = clQ X t b q := fun q => by
    unfold clQ
    have := flF_ext (X := X) (X' := X') (ex := b' - b) (t := t) hE.2.1 (fun n h1 h2 => day_lt htc hc (hE.2.2.1 n h1 (by omega))) b 0 q (by omega)
    rw [show b + (b' - b) = b' by omega] at this
    rw [this]
  unfold clK
  rw [e1, e2, e3]
theorem tsN_idx {hd : Int32} {g : TJ × Int64} (ht : t < 40) (h0 : 0 ≤ g.2.toInt) : ∀ (ex n : Nat), (∀ k, n ≤ k → k < n + ex → g.1 32 (k * 40 + t) = 0) → tsN X' hd t ex n g = g
  | 0, _, _ => rfl
  | ex + 1, n, h => by
    have e0 := h n (Nat.le_refl _) (by omega)
    have hm : tsM X' t n g = 0 := by
      have z0 := vx_0
      unfold tsM
      rw [e0]
      by_cases z : (0 : Int64) < g.2
      · rw [if_pos z]
      · rw [if_neg z]
        exact vx_eq (by have : ¬ (0 : Int64).toInt < g.2.toInt := fun y => z (vx_lt.mpr y); omega)
    have e : tsS t n (tsM X' t n g) g = g := by
      rw [hm]
      unfold tsS
      rw [Int64.sub_zero, Int64.sub_zero, upJ_same rfl]
    rw [tsN_s, e]
    split
    · exact tsN_idx ht h0 ex (n + 1) (fun k h1 h2 => h k (by omega) (by omega))
    · exact tsN_idx ht h0 ex (n + 1) (fun k h1 h2 => h k (by omega) (by omega))
theorem tsN_ext {hd : Int32} {Lo U : Int} {κ : Bool} {D : Nat → Int32} {ex : Nat} (ht : t < 40) (hb : b ≤ 24) (hU : U ≤ 10000000000000000) (hx : ∀ k n, 6 ≤ k → k ≤ 13 → n < b → X' k n = X k n) : ∀ (j n : Nat) (g : TJ × Int64), n + j = b → 0 ≤ g.2.toInt → AB Lo κ U D g.1 → (∀ k, b ≤ k → k < b + ex → g.1 32 (k * 40 + t) = 0) → tsN X' hd t (j + ex) n g = tsN X hd t j n g
  | 0, n, g, hn, h0, hA, hz => by
    rw [Nat.zero_add]
    exact tsN_idx ht h0 ex n (fun k h1 h2 => hz k (by omega) (by omega))
  | j + 1, n, g, hn, h0, hA, hz => by
    rw [show j + 1 + ex = (j + ex) + 1 by omega, tsN_s, tsN_s, hx 6 n (by omega) (by omega) (by omega), hx 7 n (by omega) (by omega) (by omega)]
    have em : tsM X' t n g = tsM X t n g := rfl
    rw [em]
    by_cases q : X 6 n = 4 ∧ X 7 n = hd
    · rw [if_pos q]
      obtain ⟨a1, a2, -⟩ := AB_ts1 (X := X) hA h0 (by omega : n < 24) ht hU
      refine tsN_ext ht hb hU hx j (n + 1) _ (by omega) a2 a1 (fun k h1 h2 => ?_)
      unfold tsS
      dsimp only
      rw [va_up_self, pk_uLn (by omega)]
      exact hz k h1 h2
    · rw [if_neg q]
      exact tsN_ext ht hb hU hx j (n + 1) g (by omega) h0 hA hz
theorem tsT_ext {hd : Int32} {Lo U : Int} {κ : Bool} {D : Nat → Int32} (hb' : b ≤ b') (hb : b' ≤ 24) (hU : U ≤ 10000000000000000) (hx : ∀ k n, 6 ≤ k → k ≤ 13 → n < b → X' k n = X k n) : ∀ (j t : Nat) (g : TJ × Int64), t + j ≤ 40 → 0 ≤ g.2.toInt → AB Lo κ U D g.1 → (∀ k u, b ≤ k → k < 24 → u < 40 → g.1 32 (k * 40 + u) = 0) → tsT X' hd b' j t g = tsT X hd b j t g
  | 0, _, _, _, _, _, _ => rfl
  | j + 1, t, g, ht, h0, hA, hz => by
    have e := tsN_ext (X := X) (X' := X') (hd := hd) (ex := b' - b) (t := t) (by omega) (by omega) hU hx b 0 g (by omega) h0 hA (fun k h1 h2 => hz k t h1 (by omega) (by omega))
    rw [show b + (b' - b) = b' by omega] at e
    rw [tsT_s, tsT_s, e]
    split
    · rfl
    · obtain ⟨a1, a2, -⟩ := AB_tsN (X := X) (hd := hd) (b := b) (by omega) (by omega : t < 40) hU b 0 g (by omega) h0 hA
      exact tsT_ext hb' hb hU hx j (t + 1) _ (by omega) a2 a1 (fun k u h1 h2 h3 => tsN_bz b 0 g _ h0 (by omega) hA.1 (by omega) (hz k u h1 h2 h3))
theorem tsF_ext {hd : Int32} {Lo : Int} {κ : Bool} {D : Nat → Int32} {m : Int64} {J : TJ} {cc : Nat} (hb' : b ≤ b') (hb : b' ≤ 24) (hcc : cc ≤ 40) (hx : ∀ k n, 6 ≤ k → k ≤ 13 → n < b → X' k n = X k n) (h0 : 0 ≤ m.toInt) (hA : AI Lo κ cc b X D J) : tsF X' b' cc hd m J = tsF X b cc hd m J := by
  have hU := UB_le hcc
  unfold tsF
  rw [tsT_ext hb' hb (by omega : UB cc ≤ 10000000000000000) hx cc 0 (J, m) (by omega) h0 hA.2.1 (fun k u h1 h2 h3 => hA.2.2.2.2.1 k u h2 h3 (Or.inr h1))]
end
