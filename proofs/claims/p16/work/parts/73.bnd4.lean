section
variable {X : TI} {Lo U : Int} {κ : Bool} {D : Nat → Int32} {J : TJ} {b t h n : Nat}
theorem kq_u2 {v : Int32} (ht : t < 40) : kq κ (upd D (h * 40 + t) v) h = kq κ D h + (if κ = true then 1000000 * (v.toInt - (D (h * 40 + t)).toInt) else 0) := by
  unfold kq
  split
  · rw [dS_upd ht]
    omega
  · rfl
theorem ds_r (hd : ∀ u, u < 40 → 0 ≤ (D (h * 40 + u)).toInt) : ∀ (j u : Nat) (y : Int64), u + j ≤ 40 → 0 ≤ y.toInt → y.toInt + j * 2147483648 ≤ 1000000000000 → 0 ≤ (dsF D h j u y).toInt ∧ (dsF D h j u y).toInt ≤ y.toInt + j * 2147483648
  | 0, _, y, _, h0, _ => ⟨h0, by show y.toInt ≤ y.toInt + 0 * 2147483648; omega⟩
  | j + 1, u, y, hu, h0, h1 => by
    show 0 ≤ (dsF D h j (u + 1) (y + (D (h * 40 + u)).toInt64)).toInt ∧ (dsF D h j (u + 1) (y + (D (h * 40 + u)).toInt64)).toInt ≤ y.toInt + (j + 1 : Nat) * 2147483648
    have q := hd u (by omega)
    have r := vx_i (D (h * 40 + u))
    have e : (y + (D (h * 40 + u)).toInt64).toInt = y.toInt + (D (h * 40 + u)).toInt := by
      rw [vx_ad, Int32.toInt_toInt64]
      · rw [Int32.toInt_toInt64]; omega
      · rw [Int32.toInt_toInt64]; omega
    have := ds_r hd j (u + 1) (y + (D (h * 40 + u)).toInt64) (by omega) (by omega) (by omega)
    omega
theorem flL_r (hs : Sm (X 10 n)) (hw : W12 (X 7 n)) (ht : t < 40) (h3 : 3 ≤ t) (hd : ∀ h u, h < 12 → u < 40 → 0 ≤ (D (h * 40 + u)).toInt) : 0 ≤ (flL X D t n).toInt ∧ (flL X D t n).toInt ≤ 1000000 ∧ (flL X D t n).toInt32.toInt = (flL X D t n).toInt := by
  obtain ⟨hN, hhN, ehN⟩ := W12_cases hw
  have hx := Sm_r hs
  have h0 := vx_0
  have hy := ds_r (D := D) (h := hN) (fun u hu => hd hN u hhN hu) 4 (t - 3) 0 (by omega) (by omega) (by omega)
  have key : 0 ≤ (flL X D t n).toInt ∧ (flL X D t n).toInt ≤ 1000000 := by
    unfold flL
    rw [ehN, clN (show hN < 2 ^ 31 by omega)]
    generalize dsF D hN 4 (t - 3) 0 = y at hy
    have e : ((X 10 n).toInt64 - y).toInt = (X 10 n).toInt - y.toInt := by
      rw [vx_sb, Int32.toInt_toInt64]
      · rw [Int32.toInt_toInt64]; omega
      · rw [Int32.toInt_toInt64]; omega
    by_cases g : (X 10 n).toInt64 - y < 0
    · rw [if_pos g]
      omega
    · rw [if_neg g]
      have : ¬ ((X 10 n).toInt64 - y).toInt < (0 : Int64).toInt := fun z => g (vx_lt.mpr z)
      omega
  exact ⟨key.1, key.2, c32 key.1 (by omega)⟩
theorem flF_s {j : Nat} {g : TI × TJ} : flF X t (j + 1) n g = flF X t j (n + 1) (if X 6 n = 2 ∧ ¬ nI (t * 90 + 89) < X 9 n then flS X t g n else g) := rfl
theorem fl_sm (hB : BgX b X) (hn : n < b) (h2 : X 6 n = 2) : Sm (X 10 n) := by
  rcases (hB n hn).2.1 with ⟨a, _⟩ | ⟨a, _⟩ | ⟨_, a⟩ | ⟨a, _⟩ | ⟨a, _⟩
  · rw [h2] at a; exact absurd a (by decide)
  · rw [h2] at a; exact absurd a (by decide)
  · exact a
  · rw [h2] at a; exact absurd a (by decide)
  · rw [h2] at a; exact absurd a (by decide)
def FL (M : Int) (J : TJ) : Prop := ∀ h, h < 12 → 0 ≤ (J 28 h).toInt ∧ (J 28 h).toInt ≤ M
/-- a FLOOR is filled -/
theorem AB_fl1 {M F : Int} {g : TI × TJ} (hA : AB Lo κ U (g.1 29) g.2) (hs : Sm (X 10 n)) (hw : W12 (X 7 n)) (ht : t < 40) (h3 : 3 ≤ t) (hM : M ≤ 2100000000) (hF : F ≤ 1000000000) (hf : FL F g.2) (hD : ∀ k u, k < 12 → u < 40 → 0 ≤ (g.1 29 (k * 40 + u)).toInt ∧ (t < u → g.1 29 (k * 40 + u) = 0) ∧ (u = t → (g.1 29 (k * 40 + u)).toInt ≤ M)) : AB Lo κ (U + 1000000000000) ((flS X t g n).1 29) (flS X t g n).2 ∧ FL (F + 1000000) (flS X t g n).2 ∧ (∀ k u, k < 12 → u < 40 → 0 ≤ ((flS X t g n).1 29 (k * 40 + u)).toInt ∧ (t < u → (flS X t g n).1 29 (k * 40 + u) = 0) ∧ (u = t → ((flS X t g n).1 29 (k * 40 + u)).toInt ≤ M + 1000000)) := by
  obtain ⟨q0, q1, q2⟩ := flL_r (D := g.1 29) hs hw ht h3 (fun h u hh hu => (hD h u hh hu).1)
  obtain ⟨hN, hhN, ehN⟩ := W12_cases hw
  have hd := hD hN t hhN ht
  have e29 : (flS X t g n).1 29 = upd (g.1 29) (hN * 40 + t) (g.1 29 (hN * 40 + t) + (flL X (g.1 29) t n).toInt32) := by
    unfold flS
    rw [ehN, clN (show hN < 2 ^ 31 by omega)]
    dsimp only
    rw [va_up_self]
  have e28 : (flS X t g n).2 28 = vp_updL (g.2 28) hN (g.2 28 hN + flL X (g.1 29) t n) := by
    unfold flS
    rw [ehN, clN (show hN < 2 ^ 31 by omega)]
    dsimp only
    rw [va_up_self]
  have eo : ∀ k, k ≠ 28 → (flS X t g n).2 k = g.2 k := fun k hk => va_up_ne _ _ hk
  have es : (g.1 29 (hN * 40 + t) + (flL X (g.1 29) t n).toInt32).toInt = (g.1 29 (hN * 40 + t)).toInt + (flL X (g.1 29) t n).toInt := by
    rw [Int32.toInt_add, q2, Int.bmod_eq_of_le (by have := hd.2.2 rfl; omega) (by have := hd.2.2 rfl; omega)]
  have ekq : ∀ k, k < 12 → kq κ (g.1 29) k ≤ kq κ ((flS X t g n).1 29) k ∧ kq κ ((flS X t g n).1 29) k ≤ kq κ (g.1 29) k + 1000000000000 := by
    intro k hk
    rw [e29]
    by_cases gk : k = hN
    · subst gk
      rw [kq_u2 ht, es]
      split <;> omega
    · rw [kq_ne gk ht]
      omega
  refine ⟨?_, fun k hk => ?_, fun k u hk hu => ?_⟩
  · obtain ⟨h1, h2, h3, h4⟩ := hA
    unfold AB
    rw [eo 32 (by omega), eo 26 (by omega)]
    refine ⟨h1, fun k hk => ?_, fun k hk => ?_, h4⟩
    · have a := h2 k hk
      have c := ekq k hk
      omega
    · have a := h3 k hk
      have c := ekq k hk
      omega
  · rw [e28]
    have a := hf k hk
    by_cases gk : k = hN
    · subst gk
      rw [pk_uLs, vx_ad (by omega) (by omega)]
      omega
    · rw [pk_uLn gk]
      omega
  · rw [e29]
    have a := hD k u hk hu
    by_cases gk : k * 40 + u = hN * 40 + t
    · have g1 : k = hN := by omega
      have g2 : u = t := by omega
      subst g1 g2
      rw [pk_us, es]
      have := a.2.2 rfl
      exact ⟨by omega, fun z => by omega, fun _ => by omega⟩
    · rw [pk_un gk]
      exact ⟨a.1, a.2.1, fun z => by have := a.2.2 z; omega⟩
theorem AB_fl (hB : BgX b X) (ht : t < 40) (h3 : 3 ≤ t) : ∀ (j n : Nat) (U M F : Int) (g : TI × TJ), n + j = b → M + j * 1000000 ≤ 2100000000 → F + j * 1000000 ≤ 1000000000 → AB Lo κ U (g.1 29) g.2 → FL F g.2 → (∀ k u, k < 12 → u < 40 → 0 ≤ (g.1 29 (k * 40 + u)).toInt ∧ (t < u → g.1 29 (k * 40 + u) = 0) ∧ (u = t → (g.1 29 (k * 40 + u)).toInt ≤ M)) → AB Lo κ (U + j * 1000000000000) ((flF X t j n g).1 29) (flF X t j n g).2 ∧ FL (F + j * 1000000) (flF X t j n g).2 ∧ (∀ k u, k < 12 → u < 40 → 0 ≤ ((flF X t j n g).1 29 (k * 40 + u)).toInt ∧ (t < u → (flF X t j n g).1 29 (k * 40 + u) = 0))
  | 0, n, U, M, F, g, _, _, _, hA, hf, hD => ⟨hA.mono (by omega), fun k hk => by have := hf k hk; show 0 ≤ (g.2 28 k).toInt ∧ (g.2 28 k).toInt ≤ F + (0 : Nat) * 1000000; omega, fun k u hk hu => ⟨(hD k u hk hu).1, (hD k u hk hu).2.1⟩⟩
  | j + 1, n, U, M, F, g, hn, hM, hF, hA, hf, hD => by
    rw [flF_s]
    by_cases q : X 6 n = 2 ∧ ¬ nI (t * 90 + 89) < X 9 n
    · rw [if_pos q]
      obtain ⟨a1, a2, a3⟩ := AB_fl1 hA (fl_sm hB (by omega) q.1) (hB n (by omega)).1 ht h3 (by omega) (by omega) hf hD
      obtain ⟨b1, b2, b3⟩ := AB_fl hB ht h3 j (n + 1) (U + 1000000000000) (M + 1000000) (F + 1000000) (flS X t g n) (by omega) (by omega) (by omega) a1 a2 a3
      exact ⟨b1.mono (by omega), fun k hk => by have := b2 k hk; omega, b3⟩
    · rw [if_neg q]
      obtain ⟨b1, b2, b3⟩ := AB_fl hB ht h3 j (n + 1) U M F g (by omega) (by omega) (by omega) hA hf hD
      exact ⟨b1.mono (by omega), fun k hk => by have := b2 k hk; omega, b3⟩
theorem tsM_r {g : TJ × Int64} (hA : AB Lo κ U D g.1) (h0 : 0 ≤ g.2.toInt) (hn : n < 24) (ht : t < 40) : 0 ≤ (tsM X t n g).toInt ∧ (tsM X t n g).toInt ≤ g.2.toInt ∧ (tsM X t n g).toInt ≤ (g.1 32 (n * 40 + t)).toInt := by
  have hb := hA.1 (n * 40 + t) (by omega)
  unfold tsM
  by_cases q : g.1 32 (n * 40 + t) < g.2
  · rw [if_pos q]
    have := vx_lt.mp q
    omega
  · rw [if_neg q]
    have : ¬ (g.1 32 (n * 40 + t)).toInt < g.2.toInt := fun z => q (vx_lt.mpr z)
    omega
theorem AB_ts1 {g : TJ × Int64} (hA : AB Lo κ U D g.1) (h0 : 0 ≤ g.2.toInt) (hn : n < 24) (ht : t < 40) (hU : U ≤ 10000000000000000) : AB Lo κ U D (tsS t n (tsM X t n g) g).1 ∧ 0 ≤ (tsS t n (tsM X t n g) g).2.toInt ∧ (tsS t n (tsM X t n g) g).2.toInt ≤ g.2.toInt := by
  obtain ⟨m0, m1, m2⟩ := tsM_r (X := X) hA h0 hn ht
  have hb := hA.bag (i := n * 40 + t) (by omega)
  have r := vx_rg g.2
  have e1 : (g.2 - tsM X t n g).toInt = g.2.toInt - (tsM X t n g).toInt := vx_sb (by omega) (by omega)
  have e2 : (g.1 32 (n * 40 + t) - tsM X t n g).toInt = (g.1 32 (n * 40 + t)).toInt - (tsM X t n g).toInt := vx_sb (by omega) (by omega)
  refine ⟨?_, ?_, ?_⟩
  · obtain ⟨h1, h2, h3, h4⟩ := hA
    show AB Lo κ U D (va_up g.1 32 (vp_updL (g.1 32) (n * 40 + t) (g.1 32 (n * 40 + t) - tsM X t n g)))
    unfold AB
    rw [va_up_self, va_up_ne _ _ (by omega), sm_upd (by omega), e2]
    refine ⟨fun i hi => ?_, fun k hk => ?_, h3, h4⟩
    · by_cases gi : i = n * 40 + t
      · rw [gi, pk_uLs, e2]
        omega
      · rw [pk_uLn gi]
        exact h1 i hi
    · have := h2 k hk
      omega
  · show 0 ≤ (g.2 - tsM X t n g).toInt
    omega
  · show (g.2 - tsM X t n g).toInt ≤ g.2.toInt
    omega
theorem tsN_s {hd : Int32} {j : Nat} {g : TJ × Int64} : tsN X hd t (j + 1) n g = tsN X hd t j (n + 1) (if X 6 n = 4 ∧ X 7 n = hd then tsS t n (tsM X t n g) g else g) := rfl
theorem AB_tsN {hd : Int32} (hb : b ≤ 24) (ht : t < 40) (hU : U ≤ 10000000000000000) : ∀ (j n : Nat) (g : TJ × Int64), n + j = b → 0 ≤ g.2.toInt → AB Lo κ U D g.1 → AB Lo κ U D (tsN X hd t j n g).1 ∧ 0 ≤ (tsN X hd t j n g).2.toInt ∧ (tsN X hd t j n g).2.toInt ≤ g.2.toInt
  | 0, _, g, _, h0, hA => ⟨hA, h0, Int.le_refl _⟩
  | j + 1, n, g, hn, h0, hA => by
    rw [tsN_s]
    split
    · obtain ⟨a1, a2, a3⟩ := AB_ts1 (X := X) hA h0 (by omega : n < 24) ht hU
      obtain ⟨b1, b2, b3⟩ := AB_tsN hb ht hU j (n + 1) _ (by omega) a2 a1
      exact ⟨b1, b2, by omega⟩
    · exact AB_tsN hb ht hU j (n + 1) g (by omega) h0 hA
theorem tsT_s {hd : Int32} {j : Nat} {g : TJ × Int64} : tsT X hd b (j + 1) t g = if lg_cmp g.2 0 ≤ 0 then g else tsT X hd b j (t + 1) (tsN X hd t b 0 g) := rfl
theorem AB_tsT {hd : Int32} (hb : b ≤ 24) (hU : U ≤ 10000000000000000) : ∀ (j t : Nat) (g : TJ × Int64), t + j ≤ 40 → 0 ≤ g.2.toInt → AB Lo κ U D g.1 → AB Lo κ U D (tsT X hd b j t g).1 ∧ 0 ≤ (tsT X hd b j t g).2.toInt ∧ (tsT X hd b j t g).2.toInt ≤ g.2.toInt
  | 0, _, g, _, h0, hA => ⟨hA, h0, Int.le_refl _⟩
  | j + 1, t, g, ht, h0, hA => by
    rw [tsT_s]
    split
    · exact ⟨hA, h0, Int.le_refl _⟩
    · obtain ⟨a1, a2, a3⟩ := AB_tsN (X := X) (hd := hd) (b := b) hb (by omega : t < 40) hU b 0 g (by omega) h0 hA
      obtain ⟨b1, b2, b3⟩ := AB_tsT hb hU j (t + 1) _ (by omega) a2 a1
      exact ⟨b1, b2, by omega⟩
theorem tsN_o {hd : Int32} {k : Nat} (hk : k ≠ 32) : ∀ (j n : Nat) (g : TJ × Int64), (tsN X hd t j n g).1 k = g.1 k
  | 0, _, _ => rfl
  | j + 1, n, g => by
    rw [tsN_s, tsN_o hk j (n + 1)]
    split
    · exact va_up_ne _ _ hk
    · rfl
theorem tsT_o {hd : Int32} {k : Nat} (hk : k ≠ 32) : ∀ (j t : Nat) (g : TJ × Int64), (tsT X hd b j t g).1 k = g.1 k
  | 0, _, _ => rfl
  | j + 1, t, g => by
    rw [tsT_s]
    split
    · rfl
    · rw [tsT_o hk j (t + 1), tsN_o hk]
end
