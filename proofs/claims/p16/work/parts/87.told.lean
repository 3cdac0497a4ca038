def TdA (c : Nat) (p0 p1 : Int32) : Prop := ∃ t w : Nat, (t ≤ c ∧ t < 40 ∧ p0 = nI t) ∧ w < 12 ∧ p1 = nI w
/-- what told answers -/
def TdS (c : Nat) (X : TI) (p0 p1 p2 r : Int32) : Prop := (∃ t w : Nat, (t ≤ c ∧ t < 40 ∧ p0 = nI t) ∧ (w < 12 ∧ p1 = nI w) ∧ TdF X t w p2 r) ∨ (¬ TdA c p0 p1 ∧ r = -1)
theorem TdS.fn {c : Nat} {X : TI} {p0 p1 p2 r r' : Int32} (a : TdS c X p0 p1 p2 r) (b : TdS c X p0 p1 p2 r') : r = r' := by
  rcases a with ⟨t, w, ⟨a1, a2, a3⟩, ⟨a4, a5⟩, a6⟩ | ⟨a1, a2⟩ <;> rcases b with ⟨t', w', ⟨b1, b2, b3⟩, ⟨b4, b5⟩, b6⟩ | ⟨b1, b2⟩
  · have e1 : t' = t := (nI_eq (by omega) (by omega)).mp (b3.symm.trans a3)
    have e2 : w' = w := (nI_eq (by omega) (by omega)).mp (b5.symm.trans a5)
    subst e1
    subst e2
    exact a6.fn b6
  · exact absurd ⟨t, w, ⟨a1, a2, a3⟩, a4, a5⟩ b1
  · exact absurd ⟨t', w', ⟨b1, b2, b3⟩, b4, b5⟩ a1
  · exact a2.trans b2.symm
section
variable {X : TI} {t w : Nat} {r : Int32}
theorem TdF.m0 (hr : r = X 15 ((t * 12 + w) * 3)) : TdF X t w (nI 0) r := ⟨fun _ => hr, fun e => absurd e (by decide), fun e => absurd e (by decide), fun e => absurd e (by decide), fun e => absurd e (by decide), fun k => absurd rfl (k 0 (by omega))⟩
theorem TdF.m1 (hr : r = X 15 ((t * 12 + w) * 3 + 1)) : TdF X t w (nI 1) r := ⟨fun e => absurd e (by decide), fun _ => hr, fun e => absurd e (by decide), fun e => absurd e (by decide), fun e => absurd e (by decide), fun k => absurd rfl (k 1 (by omega))⟩
theorem TdF.m2 (hr : r = X 15 ((t * 12 + w) * 3 + 2)) : TdF X t w (nI 2) r := ⟨fun e => absurd e (by decide), fun e => absurd e (by decide), fun _ => hr, fun e => absurd e (by decide), fun e => absurd e (by decide), fun k => absurd rfl (k 2 (by omega))⟩
theorem TdF.m3 (hr : r = X 16 (t * 12 + w) + (if opP X t (nI w) then 4 else 0)) : TdF X t w (nI 3) r := ⟨fun e => absurd e (by decide), fun e => absurd e (by decide), fun e => absurd e (by decide), fun _ => hr, fun e => absurd e (by decide), fun k => absurd rfl (k 3 (by omega))⟩
theorem TdF.m4 (hr : r = if X 16 (t * 12 + w) = 0 then -1 else X 17 (t * 12 + w)) : TdF X t w (nI 4) r := ⟨fun e => absurd e (by decide), fun e => absurd e (by decide), fun e => absurd e (by decide), fun e => absurd e (by decide), fun _ => hr, fun k => absurd rfl (k 4 (by omega))⟩
theorem TdF.m5 {p2 : Int32} (h : ∀ k, k < 5 → ¬ p2 = nI k) : TdF X t w p2 (-1) := ⟨fun e => absurd e (h 0 (by omega)), fun e => absurd e (h 1 (by omega)), fun e => absurd e (h 2 (by omega)), fun e => absurd e (h 3 (by omega)), fun e => absurd e (h 4 (by omega)), fun _ => rfl⟩
end
section
variable {X I : TI} {J : TJ} {S : TS} {L : TL} {c : Nat}
set_option maxHeartbeats 1000000 in
theorem n2_told {p0 p1 p2 : Int32} {Φ : Int32 → TI → TJ → TS → TL → Prop} (hM : RM X I) (hPX : PX X) (hc : c ≤ 40) (s0 : S 0 = nI c) (hf : ∀ r, TdS c X p0 p1 p2 r → Φ r I J S L) : wp_X8_told I J S L p0 p1 p2 Φ := by
  have N : ¬ TdA c p0 p1 → Φ (-1) I J S L := fun hn => hf _ (Or.inr ⟨hn, rfl⟩)
  unfold wp_X8_told
  rw [s0]
  refine ⟨_, fun _ _ _ _ hB => hB, fun e => N (fun k => ?_), fun e0 => ⟨fun e => N (fun k => ?_), fun e1 => ⟨fun e => N (fun k => ?_), fun e4 => ?_⟩⟩⟩
  · obtain ⟨t, w, ⟨k1, k2, rfl⟩, -⟩ := k
    exact absurd e (nI_pos (by omega))
  · obtain ⟨t, w, ⟨k1, k2, rfl⟩, -⟩ := k
    have := (nI_ltI (by omega) (by omega)).mp e
    omega
  · obtain ⟨t, w, ⟨k1, k2, rfl⟩, -⟩ := k
    have := (nI_leI (a := 40) (by omega) (by omega)).mp e
    omega
  refine s_X8_isWork (fun hw => ⟨fun _ x ex => ?_, fun hc => absurd hc (by decide)⟩) (fun hw => ⟨fun hc => absurd rfl hc, fun _ => N (fun k => ?_)⟩)
  · obtain ⟨t, ht, rfl⟩ := nI_case (t := 0) (x := p0) 40 (by omega) e0 e4
    obtain ⟨w, hw2, rfl⟩ := W12_cases hw
    have htc : t ≤ c := by
      rcases Nat.lt_or_ge c t with g | g
      · exact absurd ((nI_ltI (by omega) (by omega)).mpr g) e1
      · exact g
    have Y : ∀ r, TdF X t w p2 r → Φ r I J S L := fun r h => hf r (Or.inl ⟨t, w, ⟨htc, ht, rfl⟩, ⟨hw2, rfl⟩, h⟩)
    rw [e12] at ex
    subst ex
    have hv : vp_in (nI (12 * t + w)) 480 := vp_in_nI (by omega) (by omega)
    rw [clN (show 12 * t + w < 2 ^ 31 by omega)]
    obtain ⟨h16, h17, h18, hcn, -⟩ := id hM
    obtain ⟨c1, c2, c3⟩ := hcn (12 * t + w) (by omega)
    have er : 12 * t + w = t * 12 + w := by omega
    rw [er] at c1 c2 c3
    refine ⟨fun e => ⟨hv, Y _ ?_⟩, fun e => ⟨hv, Y _ ?_⟩, fun e => ⟨hv, Y _ ?_⟩, fun e => ⟨hv, ?_⟩, fun e => ?_, fun e => Y _ (TdF.m5 e)⟩
    · subst e; rw [er]; exact TdF.m0 c1
    · subst e; rw [er]; exact TdF.m1 c2
    · subst e; rw [er]; exact TdF.m2 c3
    · subst e
      rw [er, h16]
      refine n2_isOpen hM ht hw2 (fun hop => ⟨_, fun _ _ _ _ _ _ hB => hB, fun hc => absurd hc (by decide), fun _ => Y _ (TdF.m3 ?_)⟩) (fun hop => ⟨_, fun _ _ _ _ _ _ hB => hB, fun _ => Y _ (TdF.m3 ?_), fun hc => absurd rfl hc⟩)
      · rw [if_pos hop]
      · rw [if_neg hop]
    · subst e
      obtain ⟨z, hz, ez, ho, hs⟩ := hPX t ht
      rw [clN (show t < 2 ^ 31 by omega)]
      refine ⟨fun n I' J' S' L' x => I' = I ∧ J' = J ∧ S' = S ∧ L' = L ∧ ∃ k, k ≤ z ∧ x = nI k ∧ n = z - k ∧ ∀ i, i < k → ¬ X 18 (t * 12 + i) = nI w, ⟨z, rfl, rfl, rfl, rfl, 0, by omega, rfl, rfl, fun i hi => absurd hi (Nat.not_lt_zero _)⟩, ?_⟩
      rintro n I' J' S' L' x ⟨rfl, rfl, rfl, rfl, k, hk, rfl, rfl, hno⟩
      rw [h18, h17, ez, e12, clN (show 12 * t + k < 2 ^ 31 by omega)]
      have ek : 12 * t + k = t * 12 + k := by omega
      refine ⟨vp_in_nI ht (by omega), fun hc1 => Y _ (TdF.m4 ?_), fun hc1 => ⟨?_, fun hne x ex => ?_, fun heq => Y _ (TdF.m4 ?_)⟩⟩
      · have hkz : z ≤ k := (nI_leI (by omega) (by omega)).mp hc1
        by_cases g : X 16 (t * 12 + w) = 0
        · rw [if_pos g]
        · obtain ⟨i, i1, i2⟩ := hs w hw2 g
          exact absurd i2 (hno i (by omega))
      · have hk2 : k < z := nI_nleN (by omega) hk hc1
        exact vp_in_nI (by omega) (by omega)
      · have hk2 : k < z := nI_nleN (by omega) hk hc1
        refine ⟨z - (k + 1), by omega, rfl, rfl, rfl, rfl, k + 1, by omega, by rw [ex]; exact nI_1 k, rfl, fun i hi => ?_⟩
        by_cases g : i = k
        · rw [g, ← ek]
          exact hne
        · exact hno i (by omega)
      · have hk2 : k < z := nI_nleN (by omega) hk hc1
        obtain ⟨w', a1, a2, a3, a4⟩ := ho k hk2
        rw [ek] at heq
        have : w' = w := (nI_eq (by omega) (by omega)).mp (a2.symm.trans heq)
        subst this
        rw [if_neg a3, a4]
  · obtain ⟨t, w, -, k1, rfl⟩ := k
    exact hw (W12_nI k1)
theorem t_isTheTermR {n0 n1 : Nat} {p0 : Int32} {Φ : Int32 → TI → TJ → TS → TL → Prop} (h3 : S 3 = nI c) (hc : c ≤ 40) (h1 : c < 40 → p0 = nI c → Φ 1 I J S L) (h0 : ¬ (c < 40 ∧ p0 = nI c) → Φ 0 I J S L) : wp_X7_isTheTerm n0 n1 I J S L p0 Φ := by
  unfold wp_X7_isTheTerm
  rw [h3]
  refine ⟨_, fun _ _ _ _ _ hB => hB, _, fun _ _ _ _ hB => hB, fun e => ⟨Or.inl rfl, h0 (fun k => e k.2)⟩, fun e => ⟨fun h4 => ⟨Or.inl rfl, h0 (fun k => ?_)⟩, fun h4 => ⟨Or.inr rfl, ?_⟩⟩⟩
  · rw [e] at h4
    have := (nI_leI (a := 40) (by omega) (by omega)).mp h4
    omega
  · subst e
    refine h1 ?_ rfl
    rcases Nat.lt_or_ge c 40 with g | g
    · exact g
    · exact absurd (nI_le (a := 40) g (by omega)) h4
set_option maxHeartbeats 1000000 in
theorem e_told {p0 p1 p2 : Int32} {Φ : Int32 → TI → TJ → TS → TL → Prop} (hc : c ≤ 40) (h3 : S 3 = nI c) (hf : ∀ r, TdS c I p0 p1 p2 r → Φ r I J S L) : wp_X7_told 600 0 I J S L p0 p1 p2 Φ := by
  have N : ¬ TdA c p0 p1 → Φ (-1) I J S L := fun hn => hf _ (Or.inr ⟨hn, rfl⟩)
  unfold wp_X7_told
  have hB6 : ∀ (I' : TI) (J' : TJ) (S' : TS) (L' : TL), True := fun _ _ _ _ => trivial
  refine t_isClosedR h3 hc (fun t ht et => ?_) (fun hn => ?_)
  all_goals refine ⟨fun I' J' S' L' s => (I' = I ∧ J' = J ∧ S' = S ∧ L' = L) ∧ ((s = 1 ∧ ∃ t : Nat, t ≤ c ∧ t < 40 ∧ p0 = nI t) ∨ (s = 0 ∧ ¬ ∃ t : Nat, t ≤ c ∧ t < 40 ∧ p0 = nI t)), ?_, fun I' J' S' L' => (I' = I ∧ J' = J ∧ S' = S ∧ L' = L) ∧ ∃ t : Nat, t ≤ c ∧ t < 40 ∧ p0 = nI t, fun _ _ _ _ g => ⟨g.1, Or.inl ⟨rfl, g.2⟩⟩, ?_⟩
  case refine_1.refine_2 => exact ⟨fun _ => ⟨⟨rfl, rfl, rfl, rfl⟩, t, by omega, by omega, et⟩, fun hc => absurd hc (by decide)⟩
  case refine_2.refine_2 =>
    refine ⟨fun hc => absurd rfl hc, fun _ => t_isTheTermR h3 hc (fun a b => ⟨fun hc => absurd hc (by decide), fun _ => ⟨⟨rfl, rfl, rfl, rfl⟩, c, Nat.le_refl _, a, b⟩⟩) (fun hn2 => ⟨fun _ => ⟨⟨rfl, rfl, rfl, rfl⟩, Or.inr ⟨rfl, fun k => ?_⟩⟩, fun hc => absurd rfl hc⟩)⟩
    obtain ⟨t, k1, k2, k3⟩ := k
    rcases Nat.lt_or_ge t c with g | g
    · exact hn ⟨t, g, k3⟩
    · have : t = c := by omega
      subst this
      exact hn2 ⟨k2, k3⟩
  all_goals
    rintro I' J' S' L' s ⟨⟨rfl, rfl, rfl, rfl⟩, hs⟩
    refine ⟨_, fun _ _ _ _ hB => hB, fun h0 => N (fun k => ?_), fun h0 => ?_⟩
    · rcases hs with ⟨g, -⟩ | ⟨-, g⟩
      · rw [g] at h0
        exact absurd h0 (by decide)
      · obtain ⟨t, w, k1, -⟩ := k
        exact g ⟨t, k1⟩
    rcases hs with ⟨-, t, htc, ht, rfl⟩ | ⟨g, -⟩
    rotate_left
    · exact absurd g h0
    refine s_X7_isWork (fun hw => ⟨fun _ => ?_, fun hc => absurd hc (by decide)⟩) (fun hw => ⟨fun hc => absurd rfl hc, fun _ => N (fun k => ?_)⟩)
    rotate_left
    · obtain ⟨t, w, -, k1, rfl⟩ := k
      exact hw (W12_nI k1)
    obtain ⟨w, hw2, rfl⟩ := W12_cases hw
    have Y : ∀ r, TdF I' t w p2 r → Φ r I' J' (va_up S' 0 (S' 0)) L' := fun r h => by
      rw [up_same]
      exact hf r (Or.inl ⟨t, w, ⟨htc, ht, rfl⟩, ⟨hw2, rfl⟩, h⟩)
    have er : nI t * (12 : Int32) + nI w = nI (t * 12 + w) := by rw [show (12 : Int32) = nI 12 from rfl, pk_mul, nI_add]
    have ec : ∀ d : Nat, (nI t * (12 : Int32) + nI w) * (3 : Int32) + nI d = nI ((t * 12 + w) * 3 + d) := fun d => by rw [er, show (3 : Int32) = nI 3 from rfl, pk_mul, nI_add]
    have cl : ∀ d : Nat, d < 3 → (nI ((t * 12 + w) * 3 + d)).toNatClampNeg = (t * 12 + w) * 3 + d := fun d hd => clN (by omega)
    have hv : vp_in (nI (t * 12 + w)) 480 := vp_in_nI (by omega) (by omega)
    have cw : (nI (t * 12 + w)).toNatClampNeg = t * 12 + w := clN (by omega)
    refine ⟨fun e => ?_, fun e => ?_, fun e => ?_, fun e => ?_, fun e => ?_, fun e => ?_⟩
    · subst e; unfold wp_X4_coinsOf_O wp_X4_coinsOf; rw [ec, cl 0 (by omega)]; exact ⟨vp_in_nI (by omega) (by omega), Y _ (TdF.m0 rfl)⟩
    · subst e; unfold wp_X4_coinsOf_O wp_X4_coinsOf; rw [ec, cl 1 (by omega)]; exact ⟨vp_in_nI (by omega) (by omega), Y _ (TdF.m1 rfl)⟩
    · subst e; unfold wp_X4_coinsOf_O wp_X4_coinsOf; rw [ec, cl 2 (by omega)]; exact ⟨vp_in_nI (by omega) (by omega), Y _ (TdF.m2 rfl)⟩
    · subst e
      unfold wp_X4_wayOf_O wp_X4_wayOf
      rw [er, cw]
      refine ⟨hv, ?_⟩
      unfold wp_X4_isOpen_O wp_X4_isOpen
      dsimp only
      rw [up_same, clN (show t < 2 ^ 31 by omega)]
      refine ⟨vp_in_nI ht (by omega), _, fun _ _ _ _ _ hB => hB, fun ho => ⟨Or.inl rfl, ?_⟩, fun ho => ⟨Or.inr rfl, ?_⟩⟩
      · exact ⟨_, fun _ _ _ _ _ _ hB => hB, fun _ => Y _ (TdF.m3 (by rw [if_neg ho])), fun hc => absurd rfl hc⟩
      · exact ⟨_, fun _ _ _ _ _ _ hB => hB, fun hc => absurd hc (by decide), fun _ => Y _ (TdF.m3 (by rw [if_pos ho]))⟩
    · subst e
      unfold wp_X4_placeOf_O wp_X4_placeOf
      rw [er]
      intro x hx
      subst hx
      rw [cw]
      exact ⟨hv, _, fun _ _ _ _ _ hB => hB, fun h => ⟨hv, Y _ (TdF.m4 (by rw [if_neg h]))⟩, fun h => Y _ (TdF.m4 (by rw [if_pos h]))⟩
    · have := Y _ (TdF.m5 (X := I') (t := t) (w := w) e)
      rw [up_same] at this
      exact this
end
