def fb_ct (p : Nat → Bool) : Nat → Nat
  | 0 => 0
  | n + 1 => fb_ct p n + (if p n then 1 else 0)
theorem fb_ct_succ (p : Nat → Bool) (n : Nat) : fb_ct p (n + 1) = fb_ct p n + (if p n then 1 else 0) := rfl
theorem fb_ct_le (p : Nat → Bool) : ∀ n, fb_ct p n ≤ n
  | 0 => Nat.le_refl _
  | n + 1 => by
    have h := fb_ct_le p n
    rw [fb_ct_succ]
    split <;> omega
theorem fb_ct_step (p : Nat → Bool) (m : Nat) : ∀ n, fb_ct p m ≤ fb_ct p (m + n)
  | 0 => Nat.le_refl _
  | n + 1 => by
    have h := fb_ct_step p m n
    show fb_ct p m ≤ fb_ct p (m + n + 1)
    rw [fb_ct_succ]
    omega
theorem fb_ct_mono (p : Nat → Bool) {m n : Nat} (h : m ≤ n) : fb_ct p m ≤ fb_ct p n := by
  have := fb_ct_step p m (n - m)
  rwa [Nat.add_sub_cancel' h] at this
theorem fb_ct_cong {p q : Nat → Bool} : ∀ {n : Nat}, (∀ k, k < n → p k = q k) → fb_ct p n = fb_ct q n
  | 0, _ => rfl
  | n + 1, h => by
    rw [fb_ct_succ, fb_ct_succ, fb_ct_cong (fun k hk => h k (by omega)), h n (by omega)]
/-- one place changed -/
theorem fb_ct_out (p : Nat → Bool) (b : Bool) {i n : Nat} (h : n ≤ i) : fb_ct (fun k => if k = i then b else p k) n = fb_ct p n :=
  fb_ct_cong fun k hk => if_neg (by omega)
theorem fb_ct_upd (p : Nat → Bool) (b : Bool) {i : Nat} : ∀ {n : Nat}, i < n → fb_ct (fun k => if k = i then b else p k) n + (if p i then 1 else 0) = fb_ct p n + (if b then 1 else 0)
  | 0, h => absurd h (Nat.not_lt_zero i)
  | n + 1, h => by
    rw [fb_ct_succ, fb_ct_succ]
    rcases Nat.lt_or_ge i n with q | q
    · have := fb_ct_upd p b q
      have e : (if n = i then b else p n) = p n := if_neg (by omega)
      rw [e]
      omega
    · have e : i = n := by omega
      subst e
      rw [fb_ct_out p b (Nat.le_refl _)]
      simp only [if_true]
      omega
def Ct (I : TI) : Prop := ∀ t, t < 40 → I 19 t = nI (fb_ct (fun w => decide (¬ I 16 (t * 12 + w) = 0)) 12)
theorem Ct.same {I I' : TI} (h : Ct I) (e1 : I' 19 = I 19) (e2 : I' 16 = I 16) : Ct I' := by
  unfold Ct
  rw [e1, e2]
  exact h
def InvO (c : Nat) (I : TI) (S : TS) : Prop := Bk I S ∧ Ct I ∧ c ≤ 40 ∧ S 3 = nI c ∧ (∃ c2 : Nat, c2 ≤ c ∧ S 7 = nI c2) ∧ (∃ q t t2 : Nat, q ≤ 60 ∧ S 2 = nI q ∧ t ≤ q ∧ S 4 = nI t ∧ t2 ≤ q ∧ S 8 = nI t2) ∧ S 6 = nI 600 ∧ S 10 = nI 0
/-- the books stand and the fields but lines.size, the reckoned terms and what was taken -/
theorem pO_lt {k : Nat} (h : k < 25) : pO k = k := by unfold pO; rw [if_pos h]
section
variable {n0 n1 : Nat} {I : TI} {J : TJ} {S : TS} {L : TL}
theorem r_reckonTo_O {c q t e : Nat} {Φ : TI → TJ → TS → TL → Prop} (hB : Bk I S) (h3 : S 3 = nI c) (hc : c ≤ 40) (hq : q ≤ 60) (h2 : S 2 = nI q) (h4 : S 4 = nI t) (ht : t ≤ q) (h6 : S 6 = nI n0) (hn0 : n0 < 2 ^ 31) (he : e ≤ 40) (hf : ∀ (I' : TI) (J' : TJ) (S' : TS) (L' : TL), Rk I S (max c e) q I' S' → Φ I' J' S' L') : wp_X2_reckonTo_O n0 n1 I J S L (nI e) Φ := by
  unfold wp_X2_reckonTo_O
  refine r_reckonTo hB h3 hc hq h2 h4 ht h6 hn0 he (fun I' J' S' L' hR => ?_)
  rw [upS_same (hR.2.1 0 (by omega) (by omega) (by omega)).symm]
  exact hf I' J' S' L' hR
/-- the same of the second ledger: closed 7, taken 8, lines 9 -/
def Rk2 (I : TI) (S : TS) (m q : Nat) (I' : TI) (S' : TS) : Prop := (∀ j, j < 25 → I' j = I j) ∧ (∀ j, j ≠ 7 → j ≠ 8 → j ≠ 9 → S' j = S j) ∧ S' 7 = nI m ∧ ∃ t : Nat, t ≤ q ∧ S' 8 = nI t
theorem pS_3 {k : Nat} (h7 : k ≠ 7) (h8 : k ≠ 8) (h9 : k ≠ 9) : pS k ≠ 3 ∧ pS k ≠ 4 ∧ pS k ≠ 5 := by unfold pS; (repeat' split) <;> omega
theorem r_reckonTo_Op {c q t e : Nat} {Φ : TI → TJ → TS → TL → Prop} (hB : Bk I S) (h3 : S 7 = nI c) (hc : c ≤ 40) (hq : q ≤ 60) (h2 : S 2 = nI q) (h4 : S 8 = nI t) (ht : t ≤ q) (h6 : S 10 = nI n1) (hn1 : n1 < 2 ^ 31) (he : e ≤ 40) (hf : ∀ (I' : TI) (J' : TJ) (S' : TS) (L' : TL), Rk2 I S (max c e) q I' S' → Φ I' J' S' L') : wp_X2_reckonTo_Op n0 n1 I J S L (nI e) Φ := by
  unfold wp_X2_reckonTo_Op wp_X2_reckonTo_p
  refine r_reckonTo (c := c) (q := q) (t := t) (hB.same (fun j hj => by show I (pO j) = I j; rw [pO_lt hj]) rfl rfl) h3 hc hq h2 h4 ht h6 hn1 he (fun I' J' S' L' hR => ?_)
  have hR2 : Rk2 I S (max c e) q (fun k => I' (pO k)) (fun k => S' (pS k)) := by
    refine ⟨fun j hj => ?_, fun j a b d => ?_, hR.2.2.1, hR.2.2.2⟩
    · show I' (pO j) = I j
      rw [pO_lt hj, hR.1 j hj]
      show I (pO j) = I j
      rw [pO_lt hj]
    · obtain ⟨g3, g4, g5⟩ := pS_3 a b d
      show S' (pS j) = S j
      rw [hR.2.1 (pS j) g3 g4 g5]
      exact congrArg S (ppS j)
  have e0 : va_up (fun k => S' (pS k)) 0 (S 0) = fun k => S' (pS k) := upS_same (hR2.2.1 0 (by omega) (by omega) (by omega)).symm
  show Φ (fun k => I' (pO k)) (fun k => J' (pO k)) (va_up (fun k => S' (pS k)) 0 (S 0)) (fun k => L' (pL k))
  rw [e0]
  exact hf _ _ _ _ hR2
theorem r_worth {h c : Nat} {Φ : Int64 → TI → TJ → TS → TL → Prop} (hh : h < 12) (h3 : S 3 = nI c) (hc : c ≤ 40) (hf : ∀ r : Int64, Φ r I J S L) : wp_X2_worth n0 n1 I J S L (nI h) Φ := by
  unfold wp_X2_worth wp_X2_allDues
  rw [h3]
  refine r_duesOf (f := 0) hh (by omega) hc (fun r => ?_)
  have hv : vp_in (nI h) 12 := vp_in_nI hh (by omega)
  exact ⟨hv, hv, hf _⟩
theorem r_worth_O {h c : Nat} {Φ : Int64 → TI → TJ → TS → TL → Prop} (hh : h < 12) (h3 : S 3 = nI c) (hc : c ≤ 40) (hf : ∀ r : Int64, Φ r I J S L) : wp_X2_worth_O n0 n1 I J S L (nI h) Φ := by
  unfold wp_X2_worth_O
  refine r_worth hh h3 hc (fun r => ?_)
  rw [up_same]
  exact hf r
theorem r_worth_p {h c : Nat} {Φ : Int64 → TI → TJ → TS → TL → Prop} (hh : h < 12) (h3 : S 7 = nI c) (hc : c ≤ 40) (hf : ∀ r : Int64, Φ r I J S L) : wp_X2_worth_p n0 n1 I J S L (nI h) Φ := by
  unfold wp_X2_worth_p
  refine r_worth hh h3 hc (fun r => ?_)
  show Φ r (fun k => (fun k => I (pO k)) (pO k)) (fun k => (fun k => J (pO k)) (pO k)) (fun k => (fun k => S (pS k)) (pS k)) (fun k => (fun k => L (pL k)) (pL k))
  rw [fpO, fpO, fpS, fpL]
  exact hf r
theorem r_worth_Op {h c : Nat} {Φ : Int64 → TI → TJ → TS → TL → Prop} (hh : h < 12) (h3 : S 7 = nI c) (hc : c ≤ 40) (hf : ∀ r : Int64, Φ r I J S L) : wp_X2_worth_Op n0 n1 I J S L (nI h) Φ := by
  unfold wp_X2_worth_Op
  refine r_worth_p hh h3 hc (fun r => ?_)
  rw [up_same]
  exact hf r
theorem r_owedTo {h c c2 : Nat} {Φ : Int64 → TI → TJ → TS → TL → Prop} (hh : h < 12) (h3 : S 3 = nI c) (hc : c ≤ 40) (h7 : S 7 = nI c2) (hc2 : c2 ≤ 40) (hf : ∀ r : Int64, Φ r I J S L) : wp_X7_owedTo n0 n1 I J S L (nI h) Φ := by
  unfold wp_X7_owedTo
  exact r_worth_Op hh h7 hc2 (fun r => r_worth_O hh h3 hc (fun r2 => hf _))
theorem r_becomeLike_O {c c2 : Nat} {Φ : TI → TJ → TS → TL → Prop} (h3 : S 3 = nI c) (hc : c ≤ 40) (h7 : S 7 = nI c2) (hc2 : c2 ≤ 40) (hf : ∀ (J' : TJ) (L' : TL), Φ I J' S L') : wp_X2_becomeLike_O n0 n1 I J S L Φ := by
  unfold wp_X2_becomeLike_O wp_X2_becomeLike
  refine ⟨fun n I' J' S' L' x => I' = I ∧ S' = S ∧ ∃ k, k ≤ 12 ∧ x = nI k ∧ n = 12 - k, ⟨12, rfl, rfl, 0, by omega, rfl, rfl⟩, ?_⟩
  rintro n I' J' S' L' x ⟨rfl, rfl, k, hk, rfl, rfl⟩
  refine ⟨fun _ => fun J1 _ J2 _ J3 _ L1 _ => by show Φ I' J3 (va_up S' 0 (S' 0)) L1; rw [up_same]; exact hf J3 L1, fun hc1 => ?_⟩
  have hk2 : k < 12 := nI_nleN (by omega) hk hc1
  have hi : vp_in (nI k) 12 := vp_in_nI hk2 (by omega)
  refine r_worth_p hk2 h7 hc2 (fun r => ?_)
  refine r_worth hk2 h3 hc (fun r2 => ?_)
  intro y _
  refine ⟨hi, hi, hi, hi, fun J1 _ => ⟨hi, hi, fun J2 _ => ⟨hi, hi, fun J3 _ x ex => ?_⟩⟩⟩
  exact ⟨12 - (k + 1), by omega, rfl, rfl, k + 1, by omega, by rw [ex]; exact nI_1 k, rfl⟩
end
/-- what every call of the office but share leaves of the sets -/
def Same2 (I I' : TI) (S S' : TS) : Prop := I' 1 = I 1 ∧ I' 2 = I 2 ∧ S' 1 = S 1
section
variable {I : TI} {J : TJ} {S : TS} {L : TL} {c : Nat}
/-- a reckoning of the standing ledger keeps the office in order -/
theorem InvO.rk {q e : Nat} {I' : TI} {S' : TS} (h : InvO c I S) (hq : S 2 = nI q) (hq6 : q ≤ 60) (hm : c ≤ e) (he : e ≤ 40) (hR : Rk I S e q I' S') : InvO e I' S' := by
  obtain ⟨hB, hC, hc, h3, ⟨c2, hc2, h7⟩, ⟨q1, t, t2, hq1, h2, ht, h4, ht2, h8⟩, h6, h10⟩ := h
  have eq : q1 = q := (nI_eq (by omega) (by omega)).mp (h2.symm.trans hq)
  subst eq
  obtain ⟨hI, hS, s3, t3, ht3, s4⟩ := hR
  refine ⟨hB.same hI (hS 1 (by omega) (by omega) (by omega)) (hS 2 (by omega) (by omega) (by omega)), hC.same (hI 19 (by omega)) (hI 16 (by omega)), he, s3, ⟨c2, by omega, by rw [hS 7 (by omega) (by omega) (by omega)]; exact h7⟩, ⟨q1, t3, t2, hq1, by rw [hS 2 (by omega) (by omega) (by omega)]; exact h2, ht3, s4, ht2, by rw [hS 8 (by omega) (by omega) (by omega)]; exact h8⟩, by rw [hS 6 (by omega) (by omega) (by omega)]; exact h6, by rw [hS 10 (by omega) (by omega) (by omega)]; exact h10⟩
theorem InvO.rk2 {q : Nat} {I' : TI} {S' : TS} (h : InvO c I S) (hq : S 2 = nI q) (hq6 : q ≤ 60) (hR : Rk2 I S c q I' S') : InvO c I' S' := by
  obtain ⟨hB, hC, hc, h3, ⟨c2, hc2, h7⟩, ⟨q1, t, t2, hq1, h2, ht, h4, ht2, h8⟩, h6, h10⟩ := h
  have eq : q1 = q := (nI_eq (by omega) (by omega)).mp (h2.symm.trans hq)
  subst eq
  obtain ⟨hI, hS, s7, t3, ht3, s8⟩ := hR
  refine ⟨hB.same hI (hS 1 (by omega) (by omega) (by omega)) (hS 2 (by omega) (by omega) (by omega)), hC.same (hI 19 (by omega)) (hI 16 (by omega)), hc, by rw [hS 3 (by omega) (by omega) (by omega)]; exact h3, ⟨c, by omega, s7⟩, ⟨q1, t, t3, hq1, by rw [hS 2 (by omega) (by omega) (by omega)]; exact h2, ht, by rw [hS 4 (by omega) (by omega) (by omega)]; exact h4, ht3, s8⟩, by rw [hS 6 (by omega) (by omega) (by omega)]; exact h6, by rw [hS 10 (by omega) (by omega) (by omega)]; exact h10⟩
theorem InvO.s0 {S' : TS} (h : InvO c I S) (e : ∀ j, j ≠ 0 → S' j = S j) : InvO c I S' := by
  obtain ⟨hB, hC, hc, h3, h7, hq, h6, h10⟩ := h
  refine ⟨hB.same (fun _ _ => rfl) (e 1 (by omega)) (e 2 (by omega)), hC, hc, by rw [e 3 (by omega)]; exact h3, by rw [e 7 (by omega)]; exact h7, by rw [e 2 (by omega), e 4 (by omega), e 8 (by omega)]; exact hq, by rw [e 6 (by omega)]; exact h6, by rw [e 10 (by omega)]; exact h10⟩
theorem Rk_2 {q m : Nat} {I' : TI} {S' : TS} (hR : Rk I S m q I' S') : Same2 I I' S S' := ⟨hR.1 1 (by omega), hR.1 2 (by omega), hR.2.1 1 (by omega) (by omega) (by omega)⟩
theorem Rk2_2 {q m : Nat} {I' : TI} {S' : TS} (hR : Rk2 I S m q I' S') : Same2 I I' S S' := ⟨hR.1 1 (by omega), hR.1 2 (by omega), hR.2.1 1 (by omega) (by omega) (by omega)⟩
/-- anew.reckonTo(standing.closed) -/
theorem t_anew {Φ : TI → TJ → TS → TL → Prop} (h : InvO c I S) (hf : ∀ (I' : TI) (J' : TJ) (S' : TS) (L' : TL), InvO c I' S' → Same2 I I' S S' → Φ I' J' S' L') : wp_X2_reckonTo_Op 600 0 I J S L (S 3) Φ := by
  obtain ⟨hB, hC, hc, h3, ⟨c2, hc2, h7⟩, ⟨q1, t, t2, hq1, h2, ht, h4, ht2, h8⟩, h6, h10⟩ := id h
  rw [h3]
  refine r_reckonTo_Op hB h7 (by omega) hq1 h2 h8 ht2 h10 (by omega) hc (fun I' J' S' L' hR => ?_)
  rw [Nat.max_eq_right hc2] at hR
  exact hf I' J' S' L' (h.rk2 h2 hq1 hR) (Rk2_2 hR)
theorem t_X7_close (h : InvO c I S) : wp_X7_close 600 0 I J S L (fun r I' _ S' _ => Same2 I I' S S' ∧ ((c < 40 ∧ r = nI c ∧ InvO (c + 1) I' S') ∨ (c = 40 ∧ r = -1 ∧ InvO c I' S'))) := by
  obtain ⟨hB, hC, hc, h3, ⟨c2, hc2, h7⟩, ⟨q1, t, t2, hq1, h2, ht, h4, ht2, h8⟩, h6, h10⟩ := id h
  unfold wp_X7_close
  intro x ex
  rw [h3] at ex
  subst ex
  refine ⟨fun hlt => ?_, fun hlt => ⟨⟨rfl, rfl, rfl⟩, Or.inr ⟨?_, rfl, h⟩⟩⟩
  · have hc4 : c < 40 := (nI_ltI (b := 40) (by omega) (by omega)).mp hlt
    rw [nI_1]
    refine r_reckonTo_O hB h3 hc hq1 h2 h4 ht h6 (by omega) (by omega) (fun I' J' S' L' hR => ?_)
    rw [Nat.max_eq_right (by omega)] at hR
    exact ⟨Rk_2 hR, Or.inl ⟨hc4, rfl, h.rk h2 hq1 (by omega) (by omega) hR⟩⟩
  · rcases Nat.lt_or_ge c 40 with g | g
    · exact absurd (nI_lt (b := 40) g (by omega)) hlt
    · omega
theorem t_X7_owe (h : InvO c I S) : wp_X7_owe 600 0 I J S L (fun _ I' _ S' _ => Same2 I I' S S' ∧ InvO c I' S') := by
  unfold wp_X7_owe
  refine t_anew h (fun I1 J1 S1 L1 h1 hs1 => ?_)
  obtain ⟨-, -, hc, h3, ⟨c2, hc2, h7⟩, -, -, -⟩ := id h1
  refine ⟨fun n I' J' S' L' y x => I' = I1 ∧ S' = S1 ∧ ∃ k, k ≤ 12 ∧ x = nI k ∧ n = 12 - k, ⟨12, rfl, rfl, 0, by omega, rfl, rfl⟩, ?_⟩
  rintro n I' J' S' L' y x ⟨rfl, rfl, k, hk, rfl, rfl⟩
  refine ⟨fun _ => ⟨hs1, h1⟩, fun hc1 => ?_⟩
  have hk2 : k < 12 := nI_nleN (by omega) hk hc1
  refine r_owedTo hk2 h3 hc h7 (by omega) (fun r y2 _ x2 ex2 => ?_)
  exact ⟨12 - (k + 1), by omega, rfl, rfl, k + 1, by omega, by rw [ex2]; exact nI_1 k, rfl⟩
theorem t_X7_settle (h : InvO c I S) : wp_X7_settle 600 0 I J S L (fun _ I' _ S' _ => Same2 I I' S S' ∧ InvO c I' S') := by
  unfold wp_X7_settle
  refine t_anew h (fun I1 J1 S1 L1 h1 hs1 => ?_)
  obtain ⟨-, -, hc, h3, ⟨c2, hc2, h7⟩, -, -, -⟩ := id h1
  refine ⟨fun n I' J' S' L' y x => I' = I1 ∧ S' = S1 ∧ ∃ k, k ≤ 12 ∧ x = nI k ∧ n = 12 - k, ⟨12, rfl, rfl, 0, by omega, rfl, rfl⟩, ?_⟩
  rintro n I' J' S' L' y x ⟨rfl, rfl, k, hk, rfl, rfl⟩
  refine ⟨fun _ => ?_, fun hc1 => ?_⟩
  · refine r_becomeLike_O h3 hc h7 (by omega) (fun J2 L2 S2 e2 => ?_)
    exact ⟨⟨hs1.1, hs1.2.1, by rw [e2, va_up_ne _ _ (by omega)]; exact hs1.2.2⟩, h1.s0 (fun j hj => by rw [e2, va_up_ne _ _ hj])⟩
  have hk2 : k < 12 := nI_nleN (by omega) hk hc1
  refine r_owedTo hk2 h3 hc h7 (by omega) (fun r => ?_)
  refine ⟨fun I2 J2 S2 L2 y x => I2 = I' ∧ S2 = S' ∧ x = nI k, ?_, fun _ => ⟨rfl, rfl, rfl⟩, fun _ => fun _ _ => ⟨rfl, rfl, rfl⟩⟩
  rintro I2 J2 S2 L2 y x ⟨rfl, rfl, rfl⟩ x2 ex2
  exact ⟨12 - (k + 1), by omega, rfl, rfl, k + 1, by omega, by rw [ex2]; exact nI_1 k, rfl⟩
theorem t_X7_hand (p0 p1 : Int32) (h : InvO c I S) : wp_X7_hand 600 0 I J S L p0 p1 (fun _ I' _ S' _ => Same2 I I' S S' ∧ InvO c I' S') := by
  obtain ⟨-, -, hc, h3, ⟨c2, hc2, h7⟩, -, -, -⟩ := id h
  unfold wp_X7_hand
  have ok : Same2 I I S S ∧ InvO c I S := ⟨⟨rfl, rfl, rfl⟩, h⟩
  refine s_X7_isHand (fun hw => ⟨fun _ => ?_, fun _ => ok⟩) (fun _ => ⟨fun hc => absurd rfl hc, fun _ => ok⟩)
  have hi := W12_in hw
  obtain ⟨k, hk, ek⟩ := W12_cases hw
  refine ⟨fun _ => ⟨hi, ok⟩, fun _ => ⟨hi, ok⟩, fun _ => ?_, fun _ => ⟨hi, ok⟩, fun _ => ?_, fun _ => ok⟩
  · unfold wp_X2_allDues_O wp_X2_allDues
    rw [h3, ek]
    refine r_duesOf (f := 0) hk (by omega) hc (fun r => ?_)
    show Same2 I I S (va_up S 0 (S 0)) ∧ InvO c I (va_up S 0 (S 0))
    rw [up_same]
    exact ok
  · refine t_anew h (fun I1 J1 S1 L1 h1 hs1 => ?_)
    obtain ⟨-, -, hc, h3, ⟨c2, hc2, h7⟩, -, -, -⟩ := id h1
    rw [ek]
    exact r_owedTo hk h3 hc h7 (by omega) (fun r => ⟨hs1, h1⟩)
end
