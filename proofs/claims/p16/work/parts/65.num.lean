theorem vx_rg (x : Int64) : -9223372036854775808 ≤ x.toInt ∧ x.toInt < 9223372036854775808 := by
  have h1 := Int64.le_toInt x
  have h2 := Int64.toInt_lt x
  omega
theorem vx_bm {z : Int} (h1 : -9223372036854775808 ≤ z) (h2 : z < 9223372036854775808) : z.bmod (2 ^ 64) = z := by
  rw [Int.bmod_eq_of_le (by omega) (by omega)]
theorem vx_ad {x y : Int64} (h1 : -9223372036854775808 ≤ x.toInt + y.toInt) (h2 : x.toInt + y.toInt < 9223372036854775808) : (x + y).toInt = x.toInt + y.toInt := by
  rw [Int64.toInt_add, vx_bm h1 h2]
theorem vx_sb {x y : Int64} (h1 : -9223372036854775808 ≤ x.toInt - y.toInt) (h2 : x.toInt - y.toInt < 9223372036854775808) : (x - y).toInt = x.toInt - y.toInt := by
  rw [Int64.toInt_sub, vx_bm h1 h2]
theorem vx_ml {x y : Int64} (h1 : -9223372036854775808 ≤ x.toInt * y.toInt) (h2 : x.toInt * y.toInt < 9223372036854775808) : (x * y).toInt = x.toInt * y.toInt := by
  rw [Int64.toInt_mul, vx_bm h1 h2]
theorem vx_lt {a b : Int64} : a < b ↔ a.toInt < b.toInt := Int64.lt_iff_toInt_lt
theorem vx_le {a b : Int64} : a ≤ b ↔ a.toInt ≤ b.toInt := Int64.le_iff_toInt_le
theorem vx_eq {a b : Int64} (h : a.toInt = b.toInt) : a = b := Int64.toInt_inj.mp h
theorem vx_0 : (0 : Int64).toInt = 0 := by decide
theorem vx_dv {x : Int64} (h : 0 ≤ x.toInt) : (x / 1000).toInt = x.toInt / 1000 := by
  rw [Int64.toInt_div, show ((1000 : Int64)).toInt = 1000 by decide, Int.tdiv_eq_ediv_of_nonneg h]
  have := vx_rg x
  exact vx_bm (by omega) (by omega)
theorem vx_i (x : Int32) : -2147483648 ≤ x.toInt ∧ x.toInt < 2147483648 := by
  have h1 := Int32.le_toInt x
  have h2 := Int32.toInt_lt x
  omega
theorem vi_lt {a b : Int32} : a < b ↔ a.toInt < b.toInt := Int32.lt_iff_toInt_lt
theorem lgc_le {x y : Int64} : lg_cmp x y ≤ 0 ↔ x.toInt ≤ y.toInt := by
  unfold lg_cmp
  by_cases h : x > y
  · rw [if_pos h]
    have := vx_lt.mp h
    exact ⟨fun q => absurd q (by decide), fun q => by omega⟩
  · rw [if_neg h]
    have : ¬ y.toInt < x.toInt := fun q => h (vx_lt.mpr q)
    refine ⟨fun _ => by omega, fun _ => ?_⟩
    split <;> decide
theorem lgc_eq {x y : Int64} : lg_cmp x y = 0 ↔ x.toInt = y.toInt := by
  unfold lg_cmp
  by_cases h : x > y
  · rw [if_pos h]
    have := vx_lt.mp h
    exact ⟨fun q => absurd q (by decide), fun q => by omega⟩
  · rw [if_neg h]
    by_cases e : x = y
    · rw [if_pos e, e]
      exact ⟨fun _ => rfl, fun _ => rfl⟩
    · rw [if_neg e]
      exact ⟨fun q => absurd q (by decide), fun q => absurd (vx_eq q) e⟩
theorem lgc_ge {x y : Int64} : 0 ≤ lg_cmp x y ↔ y.toInt ≤ x.toInt := by
  unfold lg_cmp
  by_cases h : x > y
  · rw [if_pos h]
    have := vx_lt.mp h
    exact ⟨fun q => by omega, fun q => by decide⟩
  · rw [if_neg h]
    have h' : ¬ y.toInt < x.toInt := fun q => h (vx_lt.mpr q)
    by_cases e : x = y
    · rw [if_pos e, e]
      exact ⟨fun _ => Int.le_refl _, fun _ => by decide⟩
    · rw [if_neg e]
      refine ⟨fun q => absurd q (by decide), fun q => absurd (vx_eq (by omega)) e⟩
theorem vx_cut {y x : Int64} (hy0 : 0 ≤ y.toInt) (hy : y.toInt ≤ 1000000000000) (hx0 : 0 ≤ x.toInt) (hx : x.toInt ≤ 1000) : 0 ≤ ((y * x) / 1000).toInt ∧ ((y * x) / 1000).toInt ≤ y.toInt := by
  have h1 : 0 ≤ y.toInt * x.toInt := Int.mul_nonneg hy0 hx0
  have h2 : y.toInt * x.toInt ≤ y.toInt * 1000 := Int.mul_le_mul_of_nonneg_left hx hy0
  have e : (y * x).toInt = y.toInt * x.toInt := vx_ml (by omega) (by omega)
  rw [vx_dv (by rw [e]; exact h1), e]
  generalize y.toInt * x.toInt = p at h1 h2
  omega
/-- BARGAINS as they were agreed -/
def BgX (b : Nat) (X : TI) : Prop := ∀ n, n < b → W12 (X 7 n) ∧ Tf (X 6 n) (X 10 n) (X 11 n) (X 12 n) ∧ (Ps (X 6 n) → W12 (X 13 n))
theorem BgX.bgs {b : Nat} {X : TI} (h : BgX b X) : Bgs b X := fun n hn => ⟨(h n hn).1, (h n hn).2.2, fun e => Tf_y (h n hn).2.1 e⟩
theorem P1k_r {x : Int32} (h : P1k x) : 1 ≤ x.toInt ∧ x.toInt ≤ 1000 := by
  have h1 : ¬ x.toInt < 1 := fun q => h.1 (vi_lt.mpr q)
  have h2 : ¬ 1000 < x.toInt := fun q => h.2 (vi_lt.mpr q)
  omega
theorem Sm_r {x : Int32} (h : Sm x) : 1 ≤ x.toInt ∧ x.toInt ≤ 1000000 := by
  have h1 : ¬ x.toInt < 1 := fun q => h.1 (vi_lt.mpr q)
  have h2 : ¬ 1000000 < x.toInt := fun q => h.2 (vi_lt.mpr q)
  omega
theorem Tl_r {x : Int32} (h : Tl x) : 0 ≤ x.toInt ∧ x.toInt ≤ 1000000 := by
  have h1 : ¬ x.toInt < 0 := fun q => h.1 (vi_lt.mpr q)
  have h2 : ¬ 1000000 < x.toInt := fun q => h.2 (vi_lt.mpr q)
  omega
/-- what an ADVANCE has kept -/
def KIn (b : Nat) (X : TI) (J : TJ) : Prop := ∀ n, n < b → X 6 n = nI 1 → 0 ≤ (J 30 n).toInt ∧ (J 30 n).toInt ≤ (X 10 n).toInt * 1000000
theorem adv_v {b n : Nat} {X : TI} {J : TJ} (hB : BgX b X) (hn : n < b) (hK : KIn b X J) (h1 : X 6 n = nI 1) : ((X 10 n).toInt64 * 1000000 - J 30 n).toInt = (X 10 n).toInt * 1000000 - (J 30 n).toInt ∧ 0 ≤ (X 10 n).toInt * 1000000 - (J 30 n).toInt := by
  have hk := hK n hn h1
  have hs : Sm (X 10 n) := by
    rcases (hB n hn).2.1 with ⟨a, _⟩ | ⟨_, a⟩ | ⟨a, _⟩ | ⟨a, _⟩ | ⟨a, _⟩
    · rw [h1] at a; exact absurd a (by decide)
    · exact a
    · rw [h1] at a; exact absurd a (by decide)
    · rw [h1] at a; exact absurd a (by decide)
    · rw [h1] at a; exact absurd a (by decide)
  have hx := Sm_r hs
  have e1 : ((X 10 n).toInt64 * 1000000).toInt = (X 10 n).toInt * 1000000 := by
    rw [vx_ml, Int32.toInt_toInt64, show ((1000000 : Int64)).toInt = 1000000 by decide]
    · rw [Int32.toInt_toInt64, show ((1000000 : Int64)).toInt = 1000000 by decide]; omega
    · rw [Int32.toInt_toInt64, show ((1000000 : Int64)).toInt = 1000000 by decide]; omega
  refine ⟨?_, by omega⟩
  rw [vx_sb, e1]
  · rw [e1]; omega
  · rw [e1]; omega
theorem stA_r (v : Int64) {m : Int64} (hm : 0 ≤ m.toInt) : 0 ≤ (stA v m).toInt ∧ (stA v m).toInt ≤ m.toInt := by
  unfold stA
  have h0 := vx_0
  by_cases hv : v < 0
  · rw [if_pos hv]
    by_cases h2 : (0 : Int64) < m
    · rw [if_pos h2]
      omega
    · rw [if_neg h2]
      omega
  · rw [if_neg hv]
    have hv' : ¬ v.toInt < 0 := fun q => hv (vx_lt.mpr (by rw [h0]; exact q))
    by_cases h2 : v < m
    · rw [if_pos h2]
      have := vx_lt.mp h2
      omega
    · rw [if_neg h2]
      omega
theorem tk_rng {b n : Nat} {X : TI} {J : TJ} {y : Int64} (hB : BgX b X) (hn : n < b) (hK : KIn b X J) (hy0 : 0 ≤ y.toInt) (hy : y.toInt ≤ 1000000000000) : 0 ≤ (tkF X J n y).toInt ∧ (tkF X J n y).toInt ≤ y.toInt := by
  have h0 := vx_0
  unfold tkF
  rcases id (hB n hn).2.1 with ⟨k, hx⟩ | ⟨k, hx⟩ | ⟨k, hx⟩ | ⟨k, hx, hs, hz0, hz⟩ | ⟨k, hx, _⟩
  · rw [if_neg (by rw [k]; decide), if_neg (by rw [k]; decide), if_pos (Or.inl k)]
    have := P1k_r hx
    exact vx_cut hy0 hy (by rw [Int32.toInt_toInt64]; omega) (by rw [Int32.toInt_toInt64]; omega)
  · rw [if_pos k]
    have hv := adv_v hB hn hK k
    by_cases hlt : (X 10 n).toInt64 * 1000000 - J 30 n < y
    · rw [if_pos hlt]
      have := vx_lt.mp hlt
      omega
    · rw [if_neg hlt]
      omega
  · rw [if_neg (by rw [k]; decide), if_neg (by rw [k]; decide), if_neg (by rw [k]; decide)]
    omega
  · rw [if_neg (by rw [k]; decide), if_pos k]
    have hx := P1k_r hx
    have hz0 : ¬ (X 12 n).toInt < 0 := fun q => hz0 (vi_lt.mpr q)
    have hz : ¬ 1000 < (X 12 n).toInt := fun q => hz (vi_lt.mpr q)
    unfold stF
    have ha := stA_r ((X 11 n).toInt64 * 1000000 - J 31 n) hy0
    generalize stA ((X 11 n).toInt64 * 1000000 - J 31 n) y = a at ha
    have e1 : (y - a).toInt = y.toInt - a.toInt := vx_sb (by omega) (by omega)
    have c1 := vx_cut (y := a) (x := (X 10 n).toInt64) ha.1 (by omega) (by rw [Int32.toInt_toInt64]; omega) (by rw [Int32.toInt_toInt64]; omega)
    have c2 := vx_cut (y := y - a) (x := (X 12 n).toInt64) (by omega) (by omega) (by rw [Int32.toInt_toInt64]; omega) (by rw [Int32.toInt_toInt64]; omega)
    rw [vx_ad (by omega) (by omega)]
    omega
  · rw [if_neg (by rw [k]; decide), if_neg (by rw [k]; decide), if_pos (Or.inr k)]
    have := P1k_r hx
    exact vx_cut hy0 hy (by rw [Int32.toInt_toInt64]; omega) (by rw [Int32.toInt_toInt64]; omega)
section
variable {X : TI} {t n : Nat} {J : TJ} {m : Int64}
theorem meet_30 : meetF X t J n m 30 = vp_updL (J 30) n (J 30 n + tkF X J n m) := by
  unfold meetF
  split
  · unfold mtC mtB mtA
    rw [va_up_ne _ _ (by omega), va_up_self, va_up_ne _ _ (by omega)]
  · unfold mtB mtA
    rw [va_up_self, va_up_ne _ _ (by omega)]
theorem meet_31 : meetF X t J n m 31 = vp_updL (J 31) n (J 31 n + m) := by
  unfold meetF
  split
  · unfold mtC mtB mtA
    rw [va_up_ne _ _ (by omega), va_up_ne _ _ (by omega), va_up_self]
  · unfold mtB mtA
    rw [va_up_ne _ _ (by omega), va_up_self]
theorem meet_32 : meetF X t J n m 32 = if X 6 n = 4 then vp_updL (J 32) (n * 40 + t) (J 32 (n * 40 + t) + tkF X J n m) else J 32 := by
  unfold meetF
  split
  · unfold mtC mtB mtA
    rw [va_up_self, va_up_ne _ _ (by omega), va_up_ne _ _ (by omega)]
  · unfold mtB mtA
    rw [va_up_ne _ _ (by omega), va_up_ne _ _ (by omega)]
theorem meet_o {k : Nat} (h0 : k ≠ 30) (h1 : k ≠ 31) (h2 : k ≠ 32) : meetF X t J n m k = J k := by
  unfold meetF
  split
  · unfold mtC mtB mtA
    rw [va_up_ne _ _ h2, va_up_ne _ _ h0, va_up_ne _ _ h1]
  · unfold mtB mtA
    rw [va_up_ne _ _ h0, va_up_ne _ _ h1]
end
theorem KIn.meet {b n t : Nat} {X : TI} {J : TJ} {y : Int64} (hB : BgX b X) (hn : n < b) (hK : KIn b X J) (hy0 : 0 ≤ y.toInt) (hy : y.toInt ≤ 1000000000000) : KIn b X (meetF X t J n y) := by
  intro k hk h1
  rw [meet_30]
  by_cases g : k = n
  · subst g
    rw [pk_uLs]
    have hr := tk_rng hB hn hK hy0 hy
    have hv := adv_v hB hn hK h1
    have hle : (tkF X J k y).toInt ≤ (X 10 k).toInt * 1000000 - (J 30 k).toInt := by
      unfold tkF
      rw [if_pos h1]
      by_cases hlt : (X 10 k).toInt64 * 1000000 - J 30 k < y
      · rw [if_pos hlt]
        omega
      · rw [if_neg hlt]
        have : ¬ ((X 10 k).toInt64 * 1000000 - J 30 k).toInt < y.toInt := fun q => hlt (vx_lt.mpr q)
        omega
    have hk2 := hK k hk h1
    have hx := (vx_i (X 10 k))
    rw [vx_ad (by omega) (by omega)]
    omega
  · rw [pk_uLn g]
    exact hK k hk h1
