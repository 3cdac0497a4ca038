section
variable {n0 n1 : Nat} {X I : TI} {J : TJ} {S : TS} {L : TL}
theorem e_fill_26 {p0 : Int64} {Φ : TI → TJ → TS → TL → Prop} (hf : ∀ J' : TJ, (∀ i, i < 12 → J' 26 i = p0) → (∀ n, n ≠ 26 → J' n = J n) → Φ I J' S L) : wp_J7_fill_d0a16_26 n0 n1 I J S L p0 Φ := by
  unfold wp_J7_fill_d0a16_26
  refine ⟨fun n I' J' S' L' x a => I' = I ∧ S' = S ∧ L' = L ∧ a = nI 12 ∧ ∃ k, k ≤ 12 ∧ x = nI k ∧ n = 12 - k ∧ (∀ i, i < k → J' 26 i = p0) ∧ (∀ n, n ≠ 26 → J' n = J n), ⟨12, rfl, rfl, rfl, rfl, 0, by omega, rfl, rfl, fun i hi => absurd hi (Nat.not_lt_zero _), fun _ _ => rfl⟩, ?_⟩
  rintro n I' J' S' L' x a ⟨rfl, rfl, rfl, rfl, k, hk, rfl, rfl, a1, a2⟩
  refine ⟨fun hc => hf J' (fun i hi => a1 i (by have := (nI_leI (by omega) (by omega)).mp hc; omega)) a2, fun hc1 => ?_⟩
  have hk2 : k < 12 := nI_nleN (by omega) hk hc1
  rw [clN (show k < 2 ^ 31 by omega)]
  refine ⟨vp_in_nI (by omega) (by omega), fun J2 e2 x2 ex2 => ⟨12 - (k + 1), by omega, rfl, rfl, rfl, rfl, k + 1, by omega, by rw [ex2]; exact nI_1 k, rfl, fun i hi => ?_, fun n hn => by rw [e2, va_up_ne _ _ hn]; exact a2 n hn⟩⟩
  rw [e2, va_up_self]
  by_cases g : i = k
  · rw [g, pk_uLs]
  · rw [pk_uLn g]
    exact a1 i (by omega)
theorem e_fill_27 {p0 : Int64} {Φ : TI → TJ → TS → TL → Prop} (hf : ∀ J' : TJ, (∀ i, i < 12 → J' 27 i = p0) → (∀ n, n ≠ 27 → J' n = J n) → Φ I J' S L) : wp_J7_fill_d0a16_27 n0 n1 I J S L p0 Φ := by
  unfold wp_J7_fill_d0a16_27
  refine ⟨fun n I' J' S' L' x a => I' = I ∧ S' = S ∧ L' = L ∧ a = nI 12 ∧ ∃ k, k ≤ 12 ∧ x = nI k ∧ n = 12 - k ∧ (∀ i, i < k → J' 27 i = p0) ∧ (∀ n, n ≠ 27 → J' n = J n), ⟨12, rfl, rfl, rfl, rfl, 0, by omega, rfl, rfl, fun i hi => absurd hi (Nat.not_lt_zero _), fun _ _ => rfl⟩, ?_⟩
  rintro n I' J' S' L' x a ⟨rfl, rfl, rfl, rfl, k, hk, rfl, rfl, a1, a2⟩
  refine ⟨fun hc => hf J' (fun i hi => a1 i (by have := (nI_leI (by omega) (by omega)).mp hc; omega)) a2, fun hc1 => ?_⟩
  have hk2 : k < 12 := nI_nleN (by omega) hk hc1
  rw [clN (show k < 2 ^ 31 by omega)]
  refine ⟨vp_in_nI (by omega) (by omega), fun J2 e2 x2 ex2 => ⟨12 - (k + 1), by omega, rfl, rfl, rfl, rfl, k + 1, by omega, by rw [ex2]; exact nI_1 k, rfl, fun i hi => ?_, fun n hn => by rw [e2, va_up_ne _ _ hn]; exact a2 n hn⟩⟩
  rw [e2, va_up_self]
  by_cases g : i = k
  · rw [g, pk_uLs]
  · rw [pk_uLn g]
    exact a1 i (by omega)
theorem e_fill_28 {p0 : Int64} {Φ : TI → TJ → TS → TL → Prop} (hf : ∀ J' : TJ, (∀ i, i < 12 → J' 28 i = p0) → (∀ n, n ≠ 28 → J' n = J n) → Φ I J' S L) : wp_J7_fill_d0a16_28 n0 n1 I J S L p0 Φ := by
  unfold wp_J7_fill_d0a16_28
  refine ⟨fun n I' J' S' L' x a => I' = I ∧ S' = S ∧ L' = L ∧ a = nI 12 ∧ ∃ k, k ≤ 12 ∧ x = nI k ∧ n = 12 - k ∧ (∀ i, i < k → J' 28 i = p0) ∧ (∀ n, n ≠ 28 → J' n = J n), ⟨12, rfl, rfl, rfl, rfl, 0, by omega, rfl, rfl, fun i hi => absurd hi (Nat.not_lt_zero _), fun _ _ => rfl⟩, ?_⟩
  rintro n I' J' S' L' x a ⟨rfl, rfl, rfl, rfl, k, hk, rfl, rfl, a1, a2⟩
  refine ⟨fun hc => hf J' (fun i hi => a1 i (by have := (nI_leI (by omega) (by omega)).mp hc; omega)) a2, fun hc1 => ?_⟩
  have hk2 : k < 12 := nI_nleN (by omega) hk hc1
  rw [clN (show k < 2 ^ 31 by omega)]
  refine ⟨vp_in_nI (by omega) (by omega), fun J2 e2 x2 ex2 => ⟨12 - (k + 1), by omega, rfl, rfl, rfl, rfl, k + 1, by omega, by rw [ex2]; exact nI_1 k, rfl, fun i hi => ?_, fun n hn => by rw [e2, va_up_ne _ _ hn]; exact a2 n hn⟩⟩
  rw [e2, va_up_self]
  by_cases g : i = k
  · rw [g, pk_uLs]
  · rw [pk_uLn g]
    exact a1 i (by omega)
theorem e_fill_30 {p0 : Int64} {Φ : TI → TJ → TS → TL → Prop} (hf : ∀ J' : TJ, (∀ i, i < 24 → J' 30 i = p0) → (∀ n, n ≠ 30 → J' n = J n) → Φ I J' S L) : wp_J7_fill_d0a16_30 n0 n1 I J S L p0 Φ := by
  unfold wp_J7_fill_d0a16_30
  refine ⟨fun n I' J' S' L' x a => I' = I ∧ S' = S ∧ L' = L ∧ a = nI 24 ∧ ∃ k, k ≤ 24 ∧ x = nI k ∧ n = 24 - k ∧ (∀ i, i < k → J' 30 i = p0) ∧ (∀ n, n ≠ 30 → J' n = J n), ⟨24, rfl, rfl, rfl, rfl, 0, by omega, rfl, rfl, fun i hi => absurd hi (Nat.not_lt_zero _), fun _ _ => rfl⟩, ?_⟩
  rintro n I' J' S' L' x a ⟨rfl, rfl, rfl, rfl, k, hk, rfl, rfl, a1, a2⟩
  refine ⟨fun hc => hf J' (fun i hi => a1 i (by have := (nI_leI (by omega) (by omega)).mp hc; omega)) a2, fun hc1 => ?_⟩
  have hk2 : k < 24 := nI_nleN (by omega) hk hc1
  rw [clN (show k < 2 ^ 31 by omega)]
  refine ⟨vp_in_nI (by omega) (by omega), fun J2 e2 x2 ex2 => ⟨24 - (k + 1), by omega, rfl, rfl, rfl, rfl, k + 1, by omega, by rw [ex2]; exact nI_1 k, rfl, fun i hi => ?_, fun n hn => by rw [e2, va_up_ne _ _ hn]; exact a2 n hn⟩⟩
  rw [e2, va_up_self]
  by_cases g : i = k
  · rw [g, pk_uLs]
  · rw [pk_uLn g]
    exact a1 i (by omega)
theorem e_fill_31 {p0 : Int64} {Φ : TI → TJ → TS → TL → Prop} (hf : ∀ J' : TJ, (∀ i, i < 24 → J' 31 i = p0) → (∀ n, n ≠ 31 → J' n = J n) → Φ I J' S L) : wp_J7_fill_d0a16_31 n0 n1 I J S L p0 Φ := by
  unfold wp_J7_fill_d0a16_31
  refine ⟨fun n I' J' S' L' x a => I' = I ∧ S' = S ∧ L' = L ∧ a = nI 24 ∧ ∃ k, k ≤ 24 ∧ x = nI k ∧ n = 24 - k ∧ (∀ i, i < k → J' 31 i = p0) ∧ (∀ n, n ≠ 31 → J' n = J n), ⟨24, rfl, rfl, rfl, rfl, 0, by omega, rfl, rfl, fun i hi => absurd hi (Nat.not_lt_zero _), fun _ _ => rfl⟩, ?_⟩
  rintro n I' J' S' L' x a ⟨rfl, rfl, rfl, rfl, k, hk, rfl, rfl, a1, a2⟩
  refine ⟨fun hc => hf J' (fun i hi => a1 i (by have := (nI_leI (by omega) (by omega)).mp hc; omega)) a2, fun hc1 => ?_⟩
  have hk2 : k < 24 := nI_nleN (by omega) hk hc1
  rw [clN (show k < 2 ^ 31 by omega)]
  refine ⟨vp_in_nI (by omega) (by omega), fun J2 e2 x2 ex2 => ⟨24 - (k + 1), by omega, rfl, rfl, rfl, rfl, k + 1, by omega, by rw [ex2]; exact nI_1 k, rfl, fun i hi => ?_, fun n hn => by rw [e2, va_up_ne _ _ hn]; exact a2 n hn⟩⟩
  rw [e2, va_up_self]
  by_cases g : i = k
  · rw [g, pk_uLs]
  · rw [pk_uLn g]
    exact a1 i (by omega)
theorem e_fill_32 {p0 : Int64} {Φ : TI → TJ → TS → TL → Prop} (hf : ∀ J' : TJ, (∀ i, i < 960 → J' 32 i = p0) → (∀ n, n ≠ 32 → J' n = J n) → Φ I J' S L) : wp_J7_fill_d0a16_32 n0 n1 I J S L p0 Φ := by
  unfold wp_J7_fill_d0a16_32
  refine ⟨fun n I' J' S' L' x a => I' = I ∧ S' = S ∧ L' = L ∧ a = nI 960 ∧ ∃ k, k ≤ 960 ∧ x = nI k ∧ n = 960 - k ∧ (∀ i, i < k → J' 32 i = p0) ∧ (∀ n, n ≠ 32 → J' n = J n), ⟨960, rfl, rfl, rfl, rfl, 0, by omega, rfl, rfl, fun i hi => absurd hi (Nat.not_lt_zero _), fun _ _ => rfl⟩, ?_⟩
  rintro n I' J' S' L' x a ⟨rfl, rfl, rfl, rfl, k, hk, rfl, rfl, a1, a2⟩
  refine ⟨fun hc => hf J' (fun i hi => a1 i (by have := (nI_leI (by omega) (by omega)).mp hc; omega)) a2, fun hc1 => ?_⟩
  have hk2 : k < 960 := nI_nleN (by omega) hk hc1
  rw [clN (show k < 2 ^ 31 by omega)]
  refine ⟨vp_in_nI (by omega) (by omega), fun J2 e2 x2 ex2 => ⟨960 - (k + 1), by omega, rfl, rfl, rfl, rfl, k + 1, by omega, by rw [ex2]; exact nI_1 k, rfl, fun i hi => ?_, fun n hn => by rw [e2, va_up_ne _ _ hn]; exact a2 n hn⟩⟩
  rw [e2, va_up_self]
  by_cases g : i = k
  · rw [g, pk_uLs]
  · rw [pk_uLn g]
    exact a1 i (by omega)
theorem e_fill_29 {p0 : Int32} {Φ : TI → TJ → TS → TL → Prop} (hf : ∀ I' : TI, (∀ i, i < 480 → I' 29 i = p0) → (∀ n, n ≠ 29 → I' n = I n) → Φ I' J S L) : wp_J7_fill_53178_29 n0 n1 I J S L p0 Φ := by
  unfold wp_J7_fill_53178_29
  refine ⟨fun n I' J' S' L' x a => J' = J ∧ S' = S ∧ L' = L ∧ a = nI 480 ∧ ∃ k, k ≤ 480 ∧ x = nI k ∧ n = 480 - k ∧ (∀ i, i < k → I' 29 i = p0) ∧ (∀ n, n ≠ 29 → I' n = I n), ⟨480, rfl, rfl, rfl, rfl, 0, by omega, rfl, rfl, fun i hi => absurd hi (Nat.not_lt_zero _), fun _ _ => rfl⟩, ?_⟩
  rintro n I' J' S' L' x a ⟨rfl, rfl, rfl, rfl, k, hk, rfl, rfl, a1, a2⟩
  refine ⟨fun hc => hf I' (fun i hi => a1 i (by have := (nI_leI (by omega) (by omega)).mp hc; omega)) a2, fun hc1 => ?_⟩
  have hk2 : k < 480 := nI_nleN (by omega) hk hc1
  rw [clN (show k < 2 ^ 31 by omega)]
  refine ⟨vp_in_nI (by omega) (by omega), fun I2 e2 x2 ex2 => ⟨480 - (k + 1), by omega, rfl, rfl, rfl, rfl, k + 1, by omega, by rw [ex2]; exact nI_1 k, rfl, fun i hi => ?_, fun n hn => by rw [e2, va_up_ne _ _ hn]; exact a2 n hn⟩⟩
  rw [e2, va_up_self]
  by_cases g : i = k
  · rw [g, pk_us]
  · rw [pk_un g]
    exact a1 i (by omega)
theorem e_clear_Op {Φ : TI → TJ → TS → TL → Prop} (hf : ∀ (I' : TI) (J' : TJ) (S' : TS) (L' : TL), (∀ n, n ≠ 43 → I' n = I n) → (∀ n, n < 40 ∨ 47 ≤ n → J' n = J n) → (∀ N : Nat, ZOK (fun k => I' (pO k), fun k => J' (pO k), N, L' 3, L' 4, 0)) → (∀ j, j ≠ 7 → j ≠ 8 → S' j = S j) → S' 7 = nI 0 → S' 8 = nI 0 → (∀ j, j ≠ 3 → L' j = L j) → Φ I' J' S' L') : wp_X2_clear_Op n0 n1 I J S L Φ := by
  unfold wp_X2_clear_Op wp_X2_clear_p wp_X2_clear
  refine e_fill_26 (fun J1 z1 o1 => e_fill_27 (fun J2 z2 o2 => e_fill_28 (fun J3 z3 o3 => e_fill_29 (fun I4 z4 o4 => e_fill_30 (fun J5 z5 o5 => e_fill_31 (fun J6 z6 o6 => e_fill_32 (fun J7 z7 o7 => ?_)))))))
  intro L1 eL S1 e1 S2 e2
  have eS : ∀ j, j ≠ 7 → j ≠ 8 → S2 (pS j) = S j := fun j a b => by
    have g : pS j ≠ 3 ∧ pS j ≠ 4 := by unfold pS; (repeat' split) <;> omega
    rw [e2, va_up_ne _ _ g.2, e1, va_up_ne _ _ g.1]
    exact congrArg S (ppS j)
  have e0 : va_up (fun k => S2 (pS k)) 0 (S 0) = fun k => S2 (pS k) := upS_same (eS 0 (by omega) (by omega)).symm
  show Φ (fun k => I4 (pO k)) (fun k => J7 (pO k)) (va_up (fun k => S2 (pS k)) 0 (S 0)) (fun k => L1 (pL k))
  rw [e0]
  refine hf _ _ _ _ (fun n hn => ?_) (fun n hn => ?_) (fun N => ⟨fun h t hh ht => ?_, fun h hh => ⟨?_, ?_, ?_⟩, fun n hn => ⟨?_, ?_⟩, fun i hi => ?_, ?_, rfl⟩) eS ?_ ?_ (fun j hj => ?_)
  · have g : pO n ≠ 29 := by unfold pO; (repeat' split) <;> omega
    show I4 (pO n) = I n
    rw [o4 _ g]
    exact congrArg I (ppO n)
  · have g : pO n ≠ 26 ∧ pO n ≠ 27 ∧ pO n ≠ 28 ∧ pO n ≠ 30 ∧ pO n ≠ 31 ∧ pO n ≠ 32 := by unfold pO; (repeat' split) <;> omega
    show J7 (pO n) = J n
    rw [o7 _ g.2.2.2.2.2, o6 _ g.2.2.2.2.1, o5 _ g.2.2.2.1, o3 _ g.2.2.1, o2 _ g.2.1, o1 _ g.1]
    exact congrArg J (ppO n)
  · show I4 (pO (pO 29)) (h * 40 + t) = 0
    rw [ppO]
    exact z4 _ (by omega)
  · show J7 (pO (pO 26)) h = 0
    rw [ppO, o7 26 (by omega), o6 26 (by omega), o5 26 (by omega), o3 26 (by omega), o2 26 (by omega)]
    exact z1 h hh
  · show J7 (pO (pO 27)) h = 0
    rw [ppO, o7 27 (by omega), o6 27 (by omega), o5 27 (by omega), o3 27 (by omega)]
    exact z2 h hh
  · show J7 (pO (pO 28)) h = 0
    rw [ppO, o7 28 (by omega), o6 28 (by omega), o5 28 (by omega)]
    exact z3 h hh
  · show J7 (pO (pO 30)) n = 0
    rw [ppO, o7 30 (by omega), o6 30 (by omega)]
    exact z5 n hn
  · show J7 (pO (pO 31)) n = 0
    rw [ppO, o7 31 (by omega)]
    exact z6 n hn
  · show J7 (pO (pO 32)) i = 0
    rw [ppO]
    exact z7 i hi
  · show L1 1 = 0
    rw [eL, va_up_self]
  · show S2 3 = nI 0
    rw [e2, va_up_ne _ _ (by omega), e1, va_up_self]
    rfl
  · show S2 4 = nI 0
    rw [e2, va_up_self]
    rfl
  · have g : pL j ≠ 1 := by unfold pL; (repeat' split) <;> omega
    show L1 (pL j) = L j
    rw [eL, va_up_ne _ _ g]
    exact congrArg L (ppL j)
theorem osF_0 {f : Nat → Int64} {h : Nat} {y : Int64} : osF f 0 h y = y := rfl
theorem osF_s {f : Nat → Int64} {j h : Nat} {y : Int64} : osF f (j + 1) h y = osF f j (h + 1) (y + f h) := rfl
theorem n2_owe {Z : TK} {b q c : Nat} {D : Nat → Int32} {Ja : TJ} {Φ : Int64 → TI → TJ → TS → TL → Prop} (hZ : ZOK Z) (hM : BM X I) (hSM : SMx X I) (hRM : RM X I) (hQM : QM X I) (hB : BgX b X) (hSt : StX X) (hRp : RpX X) (hQ : SX q c X) (hb : b ≤ 24) (hq : q ≤ 60) (hc : c ≤ 40) (s0 : S 0 = nI c) (s1 : S 1 = nI b) (s4 : S 4 = nI q) (hP : MP 0 X D Ja I J) (hf : ∀ (I' : TI) (J' : TJ) (S' : TS), MP 1 X ((anT Z X 0 b q c).1 29) (anT Z X 0 b q c).2.1 I' J' → J' 28 1 = (anT Z X 0 b q c).2.2.2.1 → MG 1 I I' J J' → MFs 1 S S' → Φ (osF (fun h => wF ((anT Z X 0 b q c).1 29) (anT Z X 0 b q c).2.1 h - wF D Ja h) 12 0 0) I' J' S' L) : wp_X8_owe I J S L Φ := by
  unfold wp_X8_owe
  refine n2_anew hZ hM hSM hRM hQM hB hSt hRp hQ hb hq hc s0 s1 s4 (fun I' J' S' a1 a2 a3 a4 => ?_)
  have hP' := hP.g0 a3
  have hf := hf I' J' S' a1 a2 a3 a4
  generalize anT Z X 0 b q c = g at a1 a2 hf
  generalize hfe : (fun h => wF (g.1 29) g.2.1 h - wF D Ja h) = f at hf
  have hfv : ∀ h, wF (g.1 29) g.2.1 h - wF D Ja h = f h := fun h => congrFun hfe h
  clear hfe
  generalize hR0 : osF f 12 0 0 = R at hf
  refine ⟨fun n I2 J2 S2 L2 y x => I2 = I' ∧ J2 = J' ∧ S2 = S' ∧ L2 = L ∧ ∃ m, m ≤ 12 ∧ x = nI m ∧ n = 12 - m ∧ R = osF f (12 - m) m y, ⟨12, rfl, rfl, rfl, rfl, 0, by omega, rfl, rfl, hR0.symm⟩, ?_⟩
  rintro n I2 J2 S2 L2 y x ⟨rfl, rfl, rfl, rfl, m, hm, rfl, rfl, hR⟩
  refine ⟨fun hc1 => ?_, fun hc1 => ?_⟩
  · have : 12 - m = 0 := by
      have := (nI_leI (a := 12) (by omega) (by omega)).mp hc1
      omega
    rw [this, osF_0] at hR
    rw [← hR]
    exact hf
  have hm2 : m < 12 := nI_nleN (N := 12) (by omega) hm hc1
  refine n2_owed hm2 hP' a1 ?_
  rw [hfv]
  intro y2 ey2 x2 ex2
  refine ⟨12 - (m + 1), by omega, rfl, rfl, rfl, rfl, m + 1, by omega, by rw [ex2]; exact nI_1 m, rfl, ?_⟩
  rw [hR, show 12 - m = (12 - (m + 1)) + 1 by omega, ey2, osF_s]
end
