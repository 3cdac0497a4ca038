def tmF (X : TI) (k : Nat) : Nat := (X 24 k).toNatClampNeg
/-- what was SENT BACK, in the order of TERMS -/
def SX (q c : Nat) (X : TI) : Prop := (∀ k, k < q → W12 (X 22 k) ∧ Sm (X 23 k) ∧ X 24 k = nI (tmF X k) ∧ tmF X k ≤ c) ∧ ∀ i j, i < j → j < q → tmF X i ≤ tmF X j
/-- the first k of them are those of TERMS below t -/
def K0 (X : TI) (q t k : Nat) : Prop := k ≤ q ∧ (∀ i, i < k → tmF X i < t) ∧ (∀ i, k ≤ i → i < q → t ≤ tmF X i)
theorem sm_m {x : Int32} (h : Sm x) : 0 ≤ (x.toInt64 * 1000000).toInt := by
  have := Sm_r h
  rw [vx_ml, Int32.toInt_toInt64, show ((1000000 : Int64)).toInt = 1000000 by decide]
  · omega
  · rw [Int32.toInt_toInt64, show ((1000000 : Int64)).toInt = 1000000 by decide]; omega
  · rw [Int32.toInt_toInt64, show ((1000000 : Int64)).toInt = 1000000 by decide]; omega
section
variable {X : TI} {b q c t r : Nat} {Lo : Int} {κ : Bool} {D : Nat → Int32}
theorem toF_K {cc : Nat} (hS : SX q cc X) (hcc : cc ≤ 40) (ht : t ≤ 40) : ∀ (j k : Nat) (g : TJ × Int64), k + j = q → (∀ i, i < k → tmF X i < t + 1) → (∀ i, k ≤ i → i < q → t ≤ tmF X i) → K0 X q (t + 1) (toF X b c (nI t) j k g).2.2
  | 0, k, g, hk, h1, h2 => ⟨by show k ≤ q; omega, h1, fun i hi hq => by have hi : k ≤ i := hi; omega⟩
  | j + 1, k, g, hk, h1, h2 => by
    rw [toF_s]
    have a := hS.1 k (by omega)
    have tk := h2 k (Nat.le_refl _) (by omega)
    by_cases e : X 24 k = nI t
    · rw [if_pos e]
      have : tmF X k = t := (nI_eq (by omega) (by omega)).mp (a.2.2.1.symm.trans e)
      refine toF_K hS hcc ht j (k + 1) _ (by omega) (fun i hi => ?_) (fun i hi hq => h2 i (by omega) hq)
      by_cases g1 : i = k
      · rw [g1]; omega
      · exact h1 i (by omega)
    · rw [if_neg e]
      have hne : tmF X k ≠ t := fun z => e (by rw [a.2.2.1, z])
      refine ⟨by show k ≤ q; omega, h1, fun i hi hq => ?_⟩
      have hi : k ≤ i := hi
      by_cases g1 : i = k
      · rw [g1]; omega
      · have := hS.2 k i (by omega) hq
        omega
theorem AI_to {cc : Nat} {p : Int32} (hb : b ≤ 24) (hc : c ≤ 40) (hS : SX q cc X) : ∀ (j k : Nat) (g : TJ × Int64), k + j ≤ q → AI Lo κ c b X D g.1 → AI Lo κ c b X D (toF X b c p j k g).1
  | 0, _, _, _, h => h
  | j + 1, k, g, hk, h => by
    rw [toF_s]
    split
    · have a := hS.1 k (by omega)
      exact AI_to hb hc hS j (k + 1) _ (by omega) (AI_ts hb hc a.1 (sm_m a.2.1) h).1
    · exact h
/-- a ledger with nothing in it -/
def ZOK (Z : TK) : Prop := (∀ h t, h < 12 → t < 40 → Z.1 29 (h * 40 + t) = 0) ∧ (∀ h, h < 12 → Z.2.1 26 h = 0 ∧ Z.2.1 27 h = 0 ∧ Z.2.1 28 h = 0) ∧ (∀ n, n < 24 → Z.2.1 30 n = 0 ∧ Z.2.1 31 n = 0) ∧ (∀ i, i < 960 → Z.2.1 32 i = 0) ∧ Z.2.2.2.1 = 0 ∧ Z.2.2.2.2.2 = 0
/-- ANEW: c TERMS reckoned from nothing -/
def anK (Z : TK) (X : TI) (r b q : Nat) : Nat → TK
  | 0 => Z
  | c + 1 => clK X r b c (toK X b q c (nI c) (anK Z X r b q c))
theorem anK_s {Z : TK} : anK Z X r b q (c + 1) = clK X r b c (toK X b q c (nI c) (anK Z X r b q c)) := rfl
theorem adv_sm {n : Nat} (hB : BgX b X) (hn : n < b) (h1 : X 6 n = nI 1) : Sm (X 10 n) := by
  rcases (hB n hn).2.1 with ⟨a, _⟩ | ⟨_, a⟩ | ⟨a, _⟩ | ⟨a, _⟩ | ⟨a, _⟩
  · rw [h1] at a; exact absurd a (by decide)
  · exact a
  · rw [h1] at a; exact absurd a (by decide)
  · rw [h1] at a; exact absurd a (by decide)
  · rw [h1] at a; exact absurd a (by decide)
theorem AI_0 {Z : TK} (hB : BgX b X) (hb : b ≤ 24) (hZ : ZOK Z) : AI 0 κ 0 b X (Z.1 29) Z.2.1 := by
  obtain ⟨z1, z2, z3, z4, z5, z6⟩ := hZ
  have z0 := vx_0
  have hs0 : ∀ n, sm (fun _ => (0 : Int64)) n = 0 := fun n => by
    induction n with
    | zero => rfl
    | succ n ih => rw [sm_s, ih, z0]; rfl
  have hs : sm (Z.2.1 32) 960 = 0 := (sm_cong (g := fun _ => 0) (fun i hi => z4 i hi)).trans (hs0 960)
  have hd0 : ∀ h n, dS (fun _ => (0 : Int32)) h n = 0 := fun h n => by
    induction n with
    | zero => rfl
    | succ n ih => rw [dS_s, ih]; rfl
  have hd : ∀ h, h < 12 → dS (Z.1 29) h 40 = 0 := fun h hh => (dS_cong (E := fun _ => 0) (fun t ht => z1 h t hh ht)).trans (hd0 h 40)
  have hk : ∀ h, h < 12 → kq κ (Z.1 29) h = 0 := fun h hh => by
    unfold kq
    rw [hd h hh]
    split <;> rfl
  refine ⟨fun n hn h1 => ?_, ⟨fun i hi => by rw [z4 i hi, z0]; exact Int.le_refl _, fun h hh => ?_, fun h hh => by rw [hk h hh]; exact Int.le_refl _, by omega, by omega⟩, fun h t hh ht => ⟨by rw [z1 h t hh ht]; decide, fun _ => z1 h t hh ht⟩, fun h hh => ?_, fun n t hn ht _ => z4 _ (by omega), fun n _ hn => (z3 n hn).1⟩
  · have := Sm_r (adv_sm hB hn h1)
    rw [(z3 n (by omega)).1, z0]
    omega
  · rw [(z2 h hh).1, z0, hk h hh, hs]
    unfold UB
    omega
  · rw [(z2 h hh).2.2, z0]
    unfold FB
    omega
end
section
variable {X X' : TI} {b b' q q' c t r : Nat}
/-- ANEW keeps all, and what was SENT BACK before a TERM is taken when it is CLOSED -/
theorem AI_an {Z : TK} (hZ : ZOK Z) (hB : BgX b X) (hb : b ≤ 24) (hS : StX X) (hR : RpX X) {cc : Nat} (hcc : cc ≤ 40) (hQ : SX q cc X) : ∀ c, c ≤ 40 → AI 0 true c b X ((anK Z X r b q c).1 29) (anK Z X r b q c).2.1 ∧ K0 X q c (anK Z X r b q c).2.2.2.2.2
  | 0, _ => ⟨AI_0 hB hb hZ, by show Z.2.2.2.2.2 ≤ q; rw [hZ.2.2.2.2.2]; exact Nat.zero_le _, fun i hi => by have hi : i < Z.2.2.2.2.2 := hi; rw [hZ.2.2.2.2.2] at hi; exact absurd hi (Nat.not_lt_zero _), fun i _ _ => Nat.zero_le _⟩
  | c + 1, hc => by
    obtain ⟨a1, a2⟩ := AI_an hZ hB hb hS hR hcc hQ c (by omega)
    rw [anK_s]
    generalize anK Z X r b q c = g at a1 a2
    obtain ⟨I, J, N, ci, lk, k⟩ := g
    have a1 : AI 0 true c b X (I 29) J := a1
    have a2 : K0 X q c k := a2
    have b1 := AI_to (p := nI c) hb (by omega : c ≤ 40) hQ (q - k) k (J, lk) (by have := a2.1; omega) a1
    have b2 := toF_K (b := b) (c := c) (t := c) hQ hcc (by omega) (q - k) k (J, lk) (by have := a2.1; omega) (fun i hi => by have := a2.2.1 i hi; omega) a2.2.2
    exact ⟨AI_cl (r := r) hB hb (by omega) hS hR b1, b2⟩
theorem toK_1 {p : Int32} {g : TK} : (toK X b q c p g).1 = g.1 := rfl
theorem toF_ext {Lo : Int} {κ : Bool} {D : Nat → Int32} {cc tt : Nat} (hb' : b ≤ b') (hb : b' ≤ 24) (hcc : cc ≤ 40) (htt : tt ≤ 40) (hqq : q ≤ q') (hx : ∀ k n, 6 ≤ k → k ≤ 13 → n < b → X' k n = X k n) (hQ : SX q cc X) (hxs : ∀ k, k < q → X' 22 k = X 22 k ∧ X' 23 k = X 23 k ∧ X' 24 k = X 24 k) (hno : ∀ k, q ≤ k → k < q' → ¬ X' 24 k = nI tt) (hc : c ≤ 40) : ∀ (j k : Nat) (g : TJ × Int64), k + j = q → AI Lo κ c b X D g.1 → toF X' b' c (nI tt) (j + (q' - q)) k g = toF X b c (nI tt) j k g
  | 0, k, g, hk, hA => by
    rw [Nat.zero_add]
    rcases Nat.eq_zero_or_pos (q' - q) with z | z
    · rw [z]
      rfl
    · rw [show q' - q = (q' - q - 1) + 1 by omega, toF_s, if_neg (hno k (by omega) (by omega))]
      rfl
  | j + 1, k, g, hk, hA => by
    rw [show j + 1 + (q' - q) = (j + (q' - q)) + 1 by omega, toF_s, toF_s]
    obtain ⟨e1, e2, e3⟩ := hxs k (by omega)
    have a := hQ.1 k (by omega)
    rw [e1, e2, e3, tsF_ext hb' hb hc hx (sm_m a.2.1) hA]
    by_cases e : X 24 k = nI tt
    · rw [if_pos e, if_pos e]
      exact toF_ext hb' hb hcc htt hqq hx hQ hxs hno hc j (k + 1) _ (by omega) (AI_ts (by omega) hc a.1 (sm_m a.2.1) hA).1
    · rw [if_neg e, if_neg e]
/-- new books do not change what is ANEW of TERMS that are CLOSED -/
theorem anK_ext {Z : TK} {cc : Nat} (hZ : ZOK Z) (hE : XE c b b' X X') (hc : c ≤ 40) (hB : BgX b X) (hS : StX X) (hR : RpX X) (hcc : cc ≤ 40) (hQ : SX q cc X) (hqq : q ≤ q') (hxs : ∀ k, k < q → X' 22 k = X 22 k ∧ X' 23 k = X 23 k ∧ X' 24 k = X 24 k) (hno : ∀ k t, q ≤ k → k < q' → t < c → ¬ X' 24 k = nI t) : ∀ t, t ≤ c → anK Z X' r b' q' t = anK Z X r b q t
  | 0, _ => rfl
  | t + 1, ht => by
    have hb : b ≤ 24 := by have := hE.1; omega
    obtain ⟨a1, a2⟩ := AI_an (r := r) hZ hB hb hS hR hcc hQ t (by omega)
    rw [anK_s, anK_s, anK_ext hZ hE hc hB hS hR hcc hQ hqq hxs hno t (by omega)]
    generalize anK Z X r b q t = g at a1 a2
    obtain ⟨I, J, N, ci, lk, k⟩ := g
    have a1 : AI 0 true t b X (I 29) J := a1
    have a2 : K0 X q t k := a2
    have b1 := AI_to (p := nI t) hb (by omega : t ≤ 40) hQ (q - k) k (J, lk) (by have := a2.1; omega) a1
    have e := toF_ext (c := t) (tt := t) hE.1.1 hE.1.2 hcc (by omega) hqq hE.2.1 hQ hxs (fun k h1 h2 => hno k t h1 h2 (by omega)) (by omega) (q - k) k (J, lk) (by have := a2.1; omega) a1
    rw [show q - k + (q' - q) = q' - k by have := a2.1; omega] at e
    have e2 : toK X' b' q' t (nI t) (I, J, N, ci, lk, k) = toK X b q t (nI t) (I, J, N, ci, lk, k) := by
      unfold toK
      dsimp only
      rw [e]
    rw [e2]
    exact clK_ext hE (by omega) hc hb hR b1.2.2.2.2
/-- a reckoning goes on from ANEW to ANEW -/
theorem rkF_an {Z : TK} : ∀ (j t : Nat), rkF X r b q j t (anK Z X r b q t) = toK X b q (t + j) (nI (t + j)) (anK Z X r b q (t + j))
  | 0, t => rfl
  | j + 1, t => by
    show rkF X r b q j (t + 1) (clK X r b t (toK X b q t (nI t) (anK Z X r b q t))) = _
    rw [← anK_s, rkF_an j (t + 1), show t + 1 + j = t + (j + 1) by omega]
end
