theorem nI_any (x : Int32) : ∃ N : Nat, x = nI N := ⟨x.toBitVec.toNat, by
  apply Int32.toBitVec_inj.mp
  show x.toBitVec = BitVec.ofNat 32 x.toBitVec.toNat
  simp⟩
/-- behind a reckoning of the second ledger -/
def Ry (S : TS) (e : Nat) (L : TL) (g : TK) (I : TI) (J : TJ) (I' : TI) (J' : TJ) (S' : TS) (L' : TL) : Prop := (∀ k, I' (pO k) = g.1 k) ∧ (∀ k, J' (pO k) = g.2.1 k) ∧ (∀ j, j < 39 ∨ 53 ≤ j → I' j = I j ∧ J' j = J j) ∧ (∀ j, j ≠ 7 → j ≠ 8 → j ≠ 9 → S' j = S j) ∧ S' 7 = nI e ∧ S' 8 = nI g.2.2.2.2.2 ∧ S' 9 = nI g.2.2.1 ∧ (∀ j, j ≠ 3 → j ≠ 4 → L' j = L j) ∧ L' 3 = g.2.2.2.1 ∧ L' 4 = g.2.2.2.2.1
theorem rkF_ot {X : TI} {r b q j t k : Nat} {g : TK} (hk : ¬ (25 ≤ k ∧ k < 39)) : (rkF X r b q j t g).1 k = g.1 k ∧ (rkF X r b q j t g).2.1 k = g.2.1 k := by
  have e : mk g.1 g.2.1 g = g := by
    unfold mk
    rw [mrg_self, mrg_self]
  have := rkF_m (X := X) (B := g.1) (C := g.2.1) (r := r) (b := b) (q := q) j t g
  rw [e] at this
  constructor
  · rw [this]
    exact mrg_ot hk
  · rw [this]
    exact mrg_ot hk
theorem pL_3 {k : Nat} (h3 : k ≠ 3) (h4 : k ≠ 4) : pL k ≠ 1 ∧ pL k ≠ 2 := by unfold pL; (repeat' split) <;> omega
section
variable {n0 n1 : Nat} {X I : TI} {J : TJ} {S : TS} {L : TL}
theorem e_reckonTo_O {b c q t e N : Nat} {Φ : TI → TJ → TS → TL → Prop} (hX : ∀ j, j < 25 → I j = X j) (hB : Bk X S) (hb : b ≤ 24) (h1 : S 1 = nI b) (h3 : S 3 = nI c) (hce : c ≤ e) (he : e ≤ 40) (hq : q ≤ 60) (h2 : S 2 = nI q) (h4 : S 4 = nI t) (ht : t ≤ q) (h5 : S 5 = nI N) (h6 : S 6 = nI n0) (hn0 : n0 < 2 ^ 31) (hf : ∀ (I' : TI) (J' : TJ) (S' : TS) (L' : TL), Rx X S e L (rkF X n0 b q (e - c) c (I, J, N, L 1, L 2, t)) I' J' S' L' → (rkF X n0 b q (e - c) c (I, J, N, L 1, L 2, t)).2.2.2.2.2 ≤ q → Φ I' J' S' L') : wp_X2_reckonTo_O n0 n1 I J S L (nI e) Φ := by
  unfold wp_X2_reckonTo_O
  refine e_reckonTo hX hB hb h1 h3 hce he hq h2 h4 ht h5 h6 hn0 (fun I' J' S' L' hR hk => ?_)
  rw [upS_same (hR.2.1 0 (by omega) (by omega) (by omega)).symm]
  exact hf I' J' S' L' hR hk
theorem e_reckonTo_Op {b c q t e N : Nat} {Φ : TI → TJ → TS → TL → Prop} (hX : ∀ j, j < 25 → I j = X j) (hB : Bk X S) (hb : b ≤ 24) (h1 : S 1 = nI b) (h7 : S 7 = nI c) (hce : c ≤ e) (he : e ≤ 40) (hq : q ≤ 60) (h2 : S 2 = nI q) (h8 : S 8 = nI t) (ht : t ≤ q) (h9 : S 9 = nI N) (h10 : S 10 = nI n1) (hn1 : n1 < 2 ^ 31) (hf : ∀ (I' : TI) (J' : TJ) (S' : TS) (L' : TL), Ry S e L (rkF X n1 b q (e - c) c (fun k => I (pO k), fun k => J (pO k), N, L 3, L 4, t)) I J I' J' S' L' → (rkF X n1 b q (e - c) c (fun k => I (pO k), fun k => J (pO k), N, L 3, L 4, t)).2.2.2.2.2 ≤ q → Φ I' J' S' L') : wp_X2_reckonTo_Op n0 n1 I J S L (nI e) Φ := by
  unfold wp_X2_reckonTo_Op wp_X2_reckonTo_p
  have hX2 : ∀ j, j < 25 → (fun k => I (pO k)) j = X j := fun j hj => by
    show I (pO j) = X j
    rw [pO_lt hj]
    exact hX j hj
  refine e_reckonTo (X := X) (b := b) (c := c) (q := q) (t := t) (N := N) hX2 (hB.same (fun _ _ => rfl) rfl rfl) hb h1 h7 hce he hq h2 h8 ht h9 h10 hn1 (fun I1 J1 S1 L1 hR hk => ?_)
  have hot : ∀ k, ¬ (25 ≤ k ∧ k < 39) → (rkF X n1 b q (e - c) c (fun k => I (pO k), fun k => J (pO k), N, L 3, L 4, t)).1 k = I (pO k) ∧ (rkF X n1 b q (e - c) c (fun k => I (pO k), fun k => J (pO k), N, L 3, L 4, t)).2.1 k = J (pO k) := fun k hk => rkF_ot hk
  have hf2 := hf
  have hR : Rx X (fun k => S (pS k)) e (fun k => L (pL k)) (rkF X n1 b q (e - c) c (fun k => I (pO k), fun k => J (pO k), N, L 3, L 4, t)) I1 J1 S1 L1 := hR
  have hk : (rkF X n1 b q (e - c) c (fun k => I (pO k), fun k => J (pO k), N, L 3, L 4, t)).2.2.2.2.2 ≤ q := hk
  generalize rkF X n1 b q (e - c) c (fun k => I (pO k), fun k => J (pO k), N, L 3, L 4, t) = G at hR hk hot hf2
  obtain ⟨a1, a2, a3, a4, a5, a6, a7⟩ := hR
  have g1 : G.1 = I1 := by rw [a7]
  have g2 : G.2.1 = J1 := by rw [a7]
  have g3 : G.2.2.2.1 = L1 1 := by rw [a7]
  have g4 : G.2.2.2.2.1 = L1 2 := by rw [a7]
  have hy : Ry S e L G I J (fun k => I1 (pO k)) (fun k => J1 (pO k)) (fun k => S1 (pS k)) (fun k => L1 (pL k)) := by
    refine ⟨fun k => ?_, fun k => ?_, fun j hj => ?_, fun j b1 b2 b3 => ?_, a3, a4, a5, fun j b1 b2 => ?_, g3.symm, g4.symm⟩
    · show I1 (pO (pO k)) = G.1 k
      rw [ppO, g1]
    · show J1 (pO (pO k)) = G.2.1 k
      rw [ppO, g2]
    · have hpo : ¬ (25 ≤ pO j ∧ pO j < 39) := by
        unfold pO
        (repeat' split) <;> omega
      have := hot (pO j) hpo
      rw [ppO] at this
      refine ⟨?_, ?_⟩
      · show I1 (pO j) = I j
        rw [← g1]
        exact this.1
      · show J1 (pO j) = J j
        rw [← g2]
        exact this.2
    · obtain ⟨c3, c4, c5⟩ := pS_3 b1 b2 b3
      show S1 (pS j) = S j
      rw [a2 (pS j) c3 c4 c5]
      exact congrArg S (ppS j)
    · obtain ⟨c1, c2⟩ := pL_3 b1 b2
      show L1 (pL j) = L j
      rw [a6 (pL j) c1 c2]
      exact congrArg L (ppL j)
  have e0 : va_up (fun k => S1 (pS k)) 0 (S 0) = fun k => S1 (pS k) := upS_same (hy.2.2.2.1 0 (by omega) (by omega) (by omega)).symm
  show Φ (fun k => I1 (pO k)) (fun k => J1 (pO k)) (va_up (fun k => S1 (pS k)) 0 (S 0)) (fun k => L1 (pL k))
  rw [e0]
  exact hf2 _ _ _ _ hy hk
/-- what a HAND has by the first ledger, c TERMS CLOSED -/
def w1F (I : TI) (J : TJ) (c h : Nat) : Int64 := dsF (I 29) h c 0 0 * 1000000 + J 26 h - J 27 h
def w2F (I : TI) (J : TJ) (c h : Nat) : Int64 := dsF (I 43) h c 0 0 * 1000000 + J 40 h - J 41 h
theorem e_worth {h c : Nat} {Φ : Int64 → TI → TJ → TS → TL → Prop} (hh : h < 12) (h3 : S 3 = nI c) (hc : c ≤ 40) (hf : Φ (w1F I J c h) I J S L) : wp_X2_worth n0 n1 I J S L (nI h) Φ := by
  unfold wp_X2_worth wp_X2_allDues
  rw [h3]
  refine e_duesOf (f := 0) (D := I 29) rfl hh (by omega) hc ?_
  rw [clN (show h < 2 ^ 31 by omega)]
  have hv : vp_in (nI h) 12 := vp_in_nI hh (by omega)
  exact ⟨hv, hv, hf⟩
theorem e_worth_O {h c : Nat} {Φ : Int64 → TI → TJ → TS → TL → Prop} (hh : h < 12) (h3 : S 3 = nI c) (hc : c ≤ 40) (hf : Φ (w1F I J c h) I J S L) : wp_X2_worth_O n0 n1 I J S L (nI h) Φ := by
  unfold wp_X2_worth_O
  refine e_worth hh h3 hc ?_
  rw [up_same]
  exact hf
theorem e_worth_p {h c : Nat} {Φ : Int64 → TI → TJ → TS → TL → Prop} (hh : h < 12) (h7 : S 7 = nI c) (hc : c ≤ 40) (hf : Φ (w2F I J c h) I J S L) : wp_X2_worth_p n0 n1 I J S L (nI h) Φ := by
  unfold wp_X2_worth_p
  refine e_worth (c := c) hh h7 hc ?_
  show Φ (w2F I J c h) (fun k => (fun k => I (pO k)) (pO k)) (fun k => (fun k => J (pO k)) (pO k)) (fun k => (fun k => S (pS k)) (pS k)) (fun k => (fun k => L (pL k)) (pL k))
  rw [fpO, fpO, fpS, fpL]
  exact hf
theorem e_worth_Op {h c : Nat} {Φ : Int64 → TI → TJ → TS → TL → Prop} (hh : h < 12) (h7 : S 7 = nI c) (hc : c ≤ 40) (hf : Φ (w2F I J c h) I J S L) : wp_X2_worth_Op n0 n1 I J S L (nI h) Φ := by
  unfold wp_X2_worth_Op
  refine e_worth_p hh h7 hc ?_
  rw [up_same]
  exact hf
theorem e_owedTo {h c c2 : Nat} {Φ : Int64 → TI → TJ → TS → TL → Prop} (hh : h < 12) (h3 : S 3 = nI c) (hc : c ≤ 40) (h7 : S 7 = nI c2) (hc2 : c2 ≤ 40) (hf : Φ (w2F I J c2 h - w1F I J c h) I J S L) : wp_X7_owedTo n0 n1 I J S L (nI h) Φ := by
  unfold wp_X7_owedTo
  exact e_worth_Op hh h7 hc2 (e_worth_O hh h3 hc hf)
/-- what SETTLE does to the longs -/
def BL (c c2 : Nat) (I : TI) (J J' : TJ) : Prop := (∀ h, h < 12 → J' 26 h = J 26 h + ((w2F I J c2 h - w1F I J c h + J 41 h) - J 27 h) ∧ J' 27 h = J 41 h ∧ J' 28 h = J 42 h) ∧ (∀ n, n < 24 → J' 30 n = J 44 n ∧ J' 31 n = J 45 n) ∧ (∀ i, i < 960 → J' 32 i = J 46 i) ∧ (∀ k, k ≠ 26 → k ≠ 27 → k ≠ 28 → k ≠ 30 → k ≠ 31 → k ≠ 32 → J' k = J k)
theorem e_becomeLike_O {c c2 : Nat} {Φ : TI → TJ → TS → TL → Prop} (h3 : S 3 = nI c) (hc : c ≤ 40) (h7 : S 7 = nI c2) (hc2 : c2 ≤ 40) (hf : ∀ (J' : TJ) (L' : TL), BL c c2 I J J' → L' = va_up L 1 (L 3) → Φ I J' S L') : wp_X2_becomeLike_O n0 n1 I J S L Φ := by
  unfold wp_X2_becomeLike_O wp_X2_becomeLike
  refine ⟨fun n I' J' S' L' x => I' = I ∧ S' = S ∧ L' = L ∧ ∃ k, k ≤ 12 ∧ x = nI k ∧ n = 12 - k ∧ (∀ h, h < k → J' 26 h = J 26 h + ((w2F I J c2 h - w1F I J c h + J 41 h) - J 27 h) ∧ J' 27 h = J 41 h ∧ J' 28 h = J 42 h) ∧ (∀ h, k ≤ h → J' 26 h = J 26 h ∧ J' 27 h = J 27 h ∧ J' 28 h = J 28 h) ∧ (∀ k, k ≠ 26 → k ≠ 27 → k ≠ 28 → J' k = J k), ⟨12, rfl, rfl, rfl, 0, by omega, rfl, rfl, fun h hh => absurd hh (Nat.not_lt_zero _), fun _ _ => ⟨rfl, rfl, rfl⟩, fun _ _ _ _ => rfl⟩, ?_⟩
  rintro n I' J' S' L' x ⟨rfl, rfl, rfl, k, hk, rfl, rfl, q1, q2, q3⟩
  refine ⟨fun hc1 J1 e1 J2 e2 J3 e3 L1 eL => ?_, fun hc1 => ?_⟩
  · have hk12 : k = 12 := by
      have := (nI_leI (a := 12) (by omega) (by omega)).mp hc1
      omega
    subst hk12
    show Φ I' J3 (va_up S' 0 (S' 0)) L1
    rw [up_same]
    have e1' : J1 = va_up J' 30 (va_cpy (J' 44) (J' 30) 0 0 24) := e1
    have e2' : J2 = va_up J1 31 (va_cpy (J1 45) (J1 31) 0 0 24) := e2
    have e3' : J3 = va_up J2 32 (va_cpy (J2 46) (J2 32) 0 0 960) := e3
    have o1 : ∀ k, k ≠ 30 → J1 k = J' k := fun k hk => by rw [e1', va_up_ne _ _ hk]
    have o2 : ∀ k, k ≠ 31 → J2 k = J1 k := fun k hk => by rw [e2', va_up_ne _ _ hk]
    have o3 : ∀ k, k ≠ 32 → J3 k = J2 k := fun k hk => by rw [e3', va_up_ne _ _ hk]
    refine hf J3 L1 ⟨fun h hh => ?_, fun n hn => ⟨?_, ?_⟩, fun i hi => ?_, fun k a1 a2 a3 a4 a5 a6 => ?_⟩ eL
    · rw [o3 26 (by omega), o2 26 (by omega), o1 26 (by omega), o3 27 (by omega), o2 27 (by omega), o1 27 (by omega), o3 28 (by omega), o2 28 (by omega), o1 28 (by omega)]
      exact q1 h hh
    · rw [o3 30 (by omega), o2 30 (by omega), e1', va_up_self, pk_cpy_in (by omega) (by omega), q3 44 (by omega) (by omega) (by omega), show 0 + (n - 0) = n by omega]
    · rw [o3 31 (by omega), e2', va_up_self, pk_cpy_in (by omega) (by omega), o1 45 (by omega), q3 45 (by omega) (by omega) (by omega), show 0 + (n - 0) = n by omega]
    · rw [e3', va_up_self, pk_cpy_in (by omega) (by omega), o2 46 (by omega), o1 46 (by omega), q3 46 (by omega) (by omega) (by omega), show 0 + (i - 0) = i by omega]
    · rw [o3 k a6, o2 k a5, o1 k a4, q3 k a1 a2 a3]
  have hk2 : k < 12 := nI_nleN (N := 12) (by omega) hk hc1
  have hi : vp_in (nI k) 12 := vp_in_nI hk2 (by omega)
  refine e_worth_p hk2 h7 hc2 ?_
  refine e_worth hk2 h3 hc ?_
  rw [clN (show k < 2 ^ 31 by omega)]
  intro y ey
  have ew2 : w2F I' J' c2 k = w2F I' J c2 k := by
    unfold w2F
    rw [q3 40 (by omega) (by omega) (by omega), q3 41 (by omega) (by omega) (by omega)]
  have ew1 : w1F I' J' c k = w1F I' J c k := by
    unfold w1F
    rw [(q2 k (Nat.le_refl _)).1, (q2 k (Nat.le_refl _)).2.1]
  rw [ew2, ew1] at ey
  subst ey
  refine ⟨hi, hi, hi, hi, fun J1 e1 => ⟨hi, hi, fun J2 e2 => ⟨hi, hi, fun J3 e3 x ex => ?_⟩⟩⟩
  have o1 : ∀ k, k ≠ 26 → J1 k = J' k := fun k hk => by rw [e1, va_up_ne _ _ hk]
  have o2 : ∀ k, k ≠ 27 → J2 k = J1 k := fun k hk => by rw [e2, va_up_ne _ _ hk]
  have o3 : ∀ k, k ≠ 28 → J3 k = J2 k := fun k hk => by rw [e3, va_up_ne _ _ hk]
  have v26 : J3 26 = vp_updL (J' 26) k (J 26 k + ((w2F I' J c2 k - w1F I' J c k + J 41 k) - J 27 k)) := by
    rw [o3 26 (by omega), o2 26 (by omega), e1, va_up_self, (q2 k (Nat.le_refl _)).1, (q2 k (Nat.le_refl _)).2.1, q3 41 (by omega) (by omega) (by omega)]
  have v27 : J3 27 = vp_updL (J' 27) k (J 41 k) := by
    rw [o3 27 (by omega), e2, va_up_self, o1 27 (by omega), o1 41 (by omega), q3 41 (by omega) (by omega) (by omega)]
  have v28 : J3 28 = vp_updL (J' 28) k (J 42 k) := by
    rw [e3, va_up_self, o2 28 (by omega), o1 28 (by omega), o2 42 (by omega), o1 42 (by omega), q3 42 (by omega) (by omega) (by omega)]
  refine ⟨12 - (k + 1), by omega, rfl, rfl, rfl, k + 1, by omega, by rw [ex]; exact nI_1 k, rfl, fun h hh => ?_, fun h hh => ?_, fun j a1 a2 a3 => by rw [o3 j a3, o2 j a2, o1 j a1]; exact q3 j a1 a2 a3⟩
  · rw [v26, v27, v28]
    by_cases g : h = k
    · subst g
      rw [pk_uLs, pk_uLs, pk_uLs]
      exact ⟨rfl, rfl, rfl⟩
    · rw [pk_uLn g, pk_uLn g, pk_uLn g]
      exact q1 h (by omega)
  · rw [v26, v27, v28, pk_uLn (by omega), pk_uLn (by omega), pk_uLn (by omega)]
    exact q2 h (by omega)
end
