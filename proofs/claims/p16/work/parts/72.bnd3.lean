section
variable {X : TI} {Lo U : Int} {κ : Bool} {D : Nat → Int32} {J : TJ} {b t h n : Nat}
theorem kq_nn (hd : ∀ t, t < 40 → 0 ≤ (D (h * 40 + t)).toInt) : 0 ≤ kq κ D h := by
  unfold kq
  split
  · have := dS_nn (n := 40) hd
    omega
  · omega
theorem eoS_26 : eoS X t J n 26 = vp_updL (J 26) (X 7 n).toNatClampNeg (J 26 (X 7 n).toNatClampNeg + J 32 (n * 40 + (t - (X 11 n).toNatClampNeg))) := by
  unfold eoS prF
  rw [va_up_ne _ _ (by omega), va_up_self]
theorem eoS_32 : eoS X t J n 32 = vp_updL (J 32) (n * 40 + (t - (X 11 n).toNatClampNeg)) 0 := by
  unfold eoS prF
  rw [va_up_self, va_up_ne _ _ (by omega)]
theorem eoS_o {k : Nat} (h1 : k ≠ 26) (h2 : k ≠ 32) : eoS X t J n k = J k := by
  unfold eoS prF
  rw [va_up_ne _ _ h2, va_up_ne _ _ h1]
theorem AB_eo1 (hA : AB Lo κ U D J) (hU : U ≤ 10000000000000000) (hw : W12 (X 7 n)) (hn : n < 24) (ht : t < 40) : AB Lo κ U D (eoS X t J n) := by
  obtain ⟨hN, hhN, ehN⟩ := W12_cases hw
  have hi : n * 40 + (t - (X 11 n).toNatClampNeg) < 960 := by omega
  have hb := hA.bag hi
  obtain ⟨h1, h2, h3, h4, h5⟩ := hA
  have h0 := vx_0
  refine ⟨fun i hi => ?_, fun k hk => ?_, h3, h4, h5⟩
  · rw [eoS_32]
    by_cases g : i = n * 40 + (t - (X 11 n).toNatClampNeg)
    · rw [g, pk_uLs]
      omega
    · rw [pk_uLn g]
      exact h1 i hi
  · rw [eoS_26, eoS_32, sm_upd hi, ehN, clN (by omega)]
    have a := h2 k hk
    have c := h3 k hk
    by_cases g : k = hN
    · subst g
      rw [pk_uLs, vx_ad (by omega) (by omega)]
      omega
    · rw [pk_uLn g]
      omega
theorem eoF_s {j : Nat} : eoF X t (j + 1) n J = eoF X t j (n + 1) (if X 6 n = 4 ∧ ¬ nI t < X 11 n then eoS X t J n else J) := rfl
theorem AB_eo (hB : BgX b X) (hb : b ≤ 24) (hU : U ≤ 10000000000000000) (ht : t < 40) : ∀ (j n : Nat) (J : TJ), n + j = b → AB Lo κ U D J → AB Lo κ U D (eoF X t j n J)
  | 0, _, _, _, hA => hA
  | j + 1, n, J, hn, hA => by
    rw [eoF_s]
    refine AB_eo hB hb hU ht j (n + 1) _ (by omega) ?_
    split
    · exact AB_eo1 hA hU (hB n (by omega)).1 (by omega) ht
    · exact hA
theorem eoF_o {k : Nat} (h1 : k ≠ 26) (h2 : k ≠ 32) : ∀ (j n : Nat) (J : TJ), eoF X t j n J k = J k
  | 0, _, _ => rfl
  | j + 1, n, J => by
    rw [eoF_s, eoF_o h1 h2 j (n + 1)]
    split
    · exact eoS_o h1 h2
    · rfl
/-- a HAND is paid: its PURSE behind the DEBT -/
theorem pyA_26 : (pyA J h 26 h).toInt = (J 26 h).toInt ∨ (0 ≤ (pyA J h 26 h).toInt ∧ (pyA J h 26 h).toInt ≤ (J 26 h).toInt) := by
  unfold pyA
  have h0 := vx_0
  by_cases hd : lg_cmp (J 27 h) 0 ≤ 0
  · rw [if_pos hd]
    exact Or.inl rfl
  · rw [if_neg hd]
    by_cases hp : lg_cmp (J 26 h) 0 ≤ 0
    · rw [if_pos hp]
      exact Or.inl rfl
    · rw [if_neg hp]
      right
      have hd : ¬ (J 27 h).toInt ≤ 0 := fun q => hd (lgc_le.mpr (by omega))
      have hp : ¬ (J 26 h).toInt ≤ 0 := fun q => hp (lgc_le.mpr (by omega))
      have e : pyB J h (if J 26 h < J 27 h then J 26 h else J 27 h) 26 h = J 26 h - (if J 26 h < J 27 h then J 26 h else J 27 h) := by
        unfold pyB
        rw [va_up_ne _ _ (by omega), va_up_self, pk_uLs]
      rw [e]
      have r1 := vx_rg (J 26 h)
      by_cases hlt : J 26 h < J 27 h
      · rw [if_pos hlt, vx_sb (by omega) (by omega)]
        omega
      · rw [if_neg hlt]
        have : ¬ (J 26 h).toInt < (J 27 h).toInt := fun q => hlt (vx_lt.mpr q)
        rw [vx_sb (by omega) (by omega)]
        omega
theorem pyA_n {k : Nat} (hk : k ≠ h) : pyA J h 26 k = J 26 k ∧ pyA J h 27 k = J 27 k := by
  unfold pyA
  split
  · exact ⟨rfl, rfl⟩
  · split
    · exact ⟨rfl, rfl⟩
    · unfold pyB
      constructor
      · rw [va_up_ne _ _ (by omega), va_up_self, pk_uLn hk]
      · rw [va_up_self, pk_uLn hk, va_up_ne _ _ (by omega)]
theorem pyA_o {k : Nat} (h1 : k ≠ 26) (h2 : k ≠ 27) : pyA J h k = J k := by
  unfold pyA
  split
  · rfl
  · split
    · rfl
    · unfold pyB
      rw [va_up_ne _ _ h2, va_up_ne _ _ h1]
theorem vx_d6 {x : Int64} : (0 ≤ x.toInt → (x / 1000000).toInt = x.toInt / 1000000) ∧ (x.toInt < 0 → (x / 1000000).toInt ≤ 0) := by
  have r := vx_rg x
  have e : (x / 1000000).toInt = x.toInt.tdiv 1000000 := by
    rw [Int64.toInt_div, show ((1000000 : Int64)).toInt = 1000000 by decide]
    refine vx_bm ?_ ?_
    · rcases Int.le_total 0 x.toInt with q | q
      · rw [Int.tdiv_eq_ediv_of_nonneg q]; omega
      · have e2 : x.toInt.tdiv 1000000 = -((-x.toInt) / 1000000) := by
          rw [← Int.tdiv_eq_ediv_of_nonneg (by omega), Int.neg_tdiv, Int.neg_neg]
        rw [e2]; omega
    · rcases Int.le_total 0 x.toInt with q | q
      · rw [Int.tdiv_eq_ediv_of_nonneg q]; omega
      · have e2 : x.toInt.tdiv 1000000 = -((-x.toInt) / 1000000) := by
          rw [← Int.tdiv_eq_ediv_of_nonneg (by omega), Int.neg_tdiv, Int.neg_neg]
        rw [e2]; omega
  constructor
  · intro q
    rw [e, Int.tdiv_eq_ediv_of_nonneg q]
  · intro q
    rw [e]
    have e2 : x.toInt.tdiv 1000000 = -((-x.toInt) / 1000000) := by
      rw [← Int.tdiv_eq_ediv_of_nonneg (by omega), Int.neg_tdiv, Int.neg_neg]
    rw [e2]
    omega
/-- its whole COINS -/
theorem pyC_v : (0 ≤ (J 26 h).toInt → (pyC J h).toInt = (J 26 h).toInt / 1000000) ∧ ((J 26 h).toInt < 0 → (pyC J h).toInt = 0) := by
  unfold pyC
  have h0 := vx_0
  have hd := vx_d6 (x := J 26 h)
  constructor
  · intro q
    have e := hd.1 q
    rw [if_neg (fun g => by have := vx_lt.mp g; omega)]
    exact e
  · intro q
    have e := hd.2 q
    by_cases g : J 26 h / 1000000 < 0
    · rw [if_pos g]
      exact h0
    · rw [if_neg g]
      have : ¬ (J 26 h / 1000000).toInt < (0 : Int64).toInt := fun z => g (vx_lt.mpr z)
      omega
theorem c32 {x : Int64} (h0 : 0 ≤ x.toInt) (h1 : x.toInt < 2147483648) : (x.toInt32).toInt = x.toInt := by
  rw [Int64.toInt_toInt32, Int.bmod_eq_of_le (by omega) (by omega)]
theorem kq_up {v : Int32} (hh : h < 12) (ht : t < 40) (h0 : D (h * 40 + t) = 0) : kq κ (upd D (h * 40 + t) v) h = kq κ D h + (if κ = true then 1000000 * v.toInt else 0) := by
  unfold kq
  split
  · rw [dS_upd ht, h0, show ((0 : Int32)).toInt = 0 by decide]
    omega
  · rfl
theorem kq_ne {v : Int32} {k : Nat} (hk : k ≠ h) (ht : t < 40) : kq κ (upd D (h * 40 + t) v) k = kq κ D k := by
  unfold kq
  rw [dS_ne hk ht]
theorem AB_py1 (hA : AB Lo κ U D J) (hU : U ≤ 2000000000000000) (hh : h < 12) (ht : t < 40) (h0 : D (h * 40 + t) = 0) : AB Lo κ U (upd D (h * 40 + t) (pyC (pyA J h) h).toInt32) (pyJ (pyA J h) h) ∧ 0 ≤ (pyC (pyA J h) h).toInt ∧ (pyC (pyA J h) h).toInt ≤ 2000000000 ∧ (pyC (pyA J h) h).toInt32.toInt = (pyC (pyA J h) h).toInt ∧ (pyA J h 26 h).toInt ≤ 2000000000000000 ∧ -100000000000000000 ≤ (pyA J h 26 h).toInt := by
  obtain ⟨h1, h2, h3, h4, h5⟩ := hA
  have hs := sm_nn h1
  have a := h2 h hh
  have c := h3 h hh
  have hpA := pyA_26 (J := J) (h := h)
  have hle : (pyA J h 26 h).toInt ≤ (J 26 h).toInt := by omega
  have hge : Lo ≤ (pyA J h 26 h).toInt := by omega
  have hc := pyC_v (J := pyA J h) (h := h)
  have hcv : 0 ≤ (pyC (pyA J h) h).toInt ∧ (pyC (pyA J h) h).toInt ≤ 2000000000 ∧ ((pyA J h 26 h).toInt < 0 → (pyC (pyA J h) h).toInt = 0) ∧ (0 ≤ (pyA J h 26 h).toInt → (pyC (pyA J h) h).toInt * 1000000 ≤ (pyA J h 26 h).toInt) := by
    refine ⟨?_, ?_, hc.2, fun q => ?_⟩
    · rcases Int.lt_or_le (pyA J h 26 h).toInt 0 with q | q
      · rw [hc.2 q]; omega
      · rw [hc.1 q]; omega
    · rcases Int.lt_or_le (pyA J h 26 h).toInt 0 with q | q
      · rw [hc.2 q]; omega
      · rw [hc.1 q]; omega
    · rw [hc.1 q]; omega
  have ec := c32 (x := pyC (pyA J h) h) hcv.1 (by omega)
  refine ⟨?_, hcv.1, hcv.2.1, ec, by omega, by omega⟩
  have em : (pyC (pyA J h) h * 1000000).toInt = (pyC (pyA J h) h).toInt * 1000000 := by
    rw [vx_ml, show ((1000000 : Int64)).toInt = 1000000 by decide]
    · rw [show ((1000000 : Int64)).toInt = 1000000 by decide]; omega
    · rw [show ((1000000 : Int64)).toInt = 1000000 by decide]; omega
  have e32 : pyJ (pyA J h) h 32 = J 32 := by
    unfold pyJ
    rw [va_up_ne _ _ (by omega), pyA_o (by omega) (by omega)]
  have e26 : ∀ k, pyJ (pyA J h) h 26 k = if k = h then pyA J h 26 h - pyC (pyA J h) h * 1000000 else J 26 k := by
    intro k
    unfold pyJ
    rw [va_up_self]
    by_cases g : k = h
    · rw [if_pos g, g, pk_uLs]
    · rw [if_neg g, pk_uLn g, (pyA_n g).1]
  unfold AB
  rw [e32]
  refine ⟨h1, fun k hk => ?_, fun k hk => ?_, h4, h5⟩
  · rw [e26 k]
    by_cases g : k = h
    · subst g
      rw [if_pos rfl, vx_sb (by omega) (by omega), em, kq_up hk ht h0, ec]
      rcases Int.lt_or_le (pyA J k 26 k).toInt 0 with q | q
      · have := hcv.2.2.1 q
        split <;> omega
      · have := hcv.2.2.2 q
        split <;> omega
    · rw [if_neg g, kq_ne g ht]
      exact h2 k hk
  · by_cases g : k = h
    · subst g
      rw [kq_up hk ht h0, ec]
      have := h3 k hk
      split <;> omega
    · rw [kq_ne g ht]
      exact h3 k hk
/-- DUES: none below 0, none of TERMS that are not CLOSED, those of TERM t at most M -/
def DI (c : Nat) (D : Nat → Int32) : Prop := ∀ h t, h < 12 → t < 40 → 0 ≤ (D (h * 40 + t)).toInt ∧ (c ≤ t → D (h * 40 + t) = 0)
theorem pyF_s {j : Nat} {g : TI × TJ} : pyF t (j + 1) h g = pyF t j (h + 1) (va_up g.1 29 (upd (g.1 29) (h * 40 + t) (pyC (pyA g.2 h) h).toInt32), pyJ (pyA g.2 h) h) := rfl
/-- all HANDS are paid -/
theorem AB_py (hU : U ≤ 2000000000000000) (ht : t < 40) : ∀ (j h : Nat) (g : TI × TJ), h + j = 12 → AB Lo κ U (g.1 29) g.2 → (∀ k u, k < 12 → u < 40 → 0 ≤ (g.1 29 (k * 40 + u)).toInt ∧ ((t < u ∨ (u = t ∧ h ≤ k)) → g.1 29 (k * 40 + u) = 0) ∧ (u = t → (g.1 29 (k * 40 + u)).toInt ≤ 2000000000)) → AB Lo κ U ((pyF t j h g).1 29) (pyF t j h g).2 ∧ (∀ k u, k < 12 → u < 40 → 0 ≤ ((pyF t j h g).1 29 (k * 40 + u)).toInt ∧ (t < u → (pyF t j h g).1 29 (k * 40 + u) = 0) ∧ (u = t → ((pyF t j h g).1 29 (k * 40 + u)).toInt ≤ 2000000000))
  | 0, h, g, _, hA, hD => ⟨hA, fun k u hk hu => ⟨(hD k u hk hu).1, fun q => (hD k u hk hu).2.1 (Or.inl q), (hD k u hk hu).2.2⟩⟩
  | j + 1, h, g, hj, hA, hD => by
    rw [pyF_s]
    have h0 := (hD h t (by omega) ht).2.1 (Or.inr ⟨rfl, Nat.le_refl _⟩)
    obtain ⟨a1, a2, a3, a4, -, -⟩ := AB_py1 hA hU (by omega) ht h0
    refine AB_py hU ht j (h + 1) _ (by omega) ?_ (fun k u hk hu => ?_)
    · show AB Lo κ U (va_up g.1 29 _ 29) _
      rw [va_up_self]
      exact a1
    · show 0 ≤ (va_up g.1 29 (upd (g.1 29) (h * 40 + t) (pyC (pyA g.2 h) h).toInt32) 29 (k * 40 + u)).toInt ∧ ((t < u ∨ (u = t ∧ h + 1 ≤ k)) → va_up g.1 29 (upd (g.1 29) (h * 40 + t) (pyC (pyA g.2 h) h).toInt32) 29 (k * 40 + u) = 0) ∧ (u = t → (va_up g.1 29 (upd (g.1 29) (h * 40 + t) (pyC (pyA g.2 h) h).toInt32) 29 (k * 40 + u)).toInt ≤ 2000000000)
      rw [va_up_self]
      have q := hD k u hk hu
      by_cases gk : k * 40 + u = h * 40 + t
      · have e1 : k = h := by omega
        have e2 : u = t := by omega
        subst e1 e2
        rw [pk_us, a4]
        exact ⟨a2, fun z => by omega, fun _ => a3⟩
      · rw [pk_un gk]
        exact ⟨q.1, fun z => q.2.1 (by omega), q.2.2⟩
end
