def FI (I I' : TI) : Prop := ∀ n, n < 26 ∨ 36 ≤ n → I' n = I n
def FS (S S' : TS) : Prop := ∀ j, j ≠ 2 → j ≠ 3 → S' j = S j
def Tld (x : Int32) : Prop := x = -1 ∨ ∃ a : Nat, a < 600 ∧ x = nI a
def Stk (b d : Nat) (I : TI) : Prop := ∀ i, i < d → W12 (I 29 i) ∧ (∃ m : Nat, m ≤ b ∧ I 30 i = nI m) ∧ Tld (I 31 i)
def wt (i : Nat) : Nat := if i = 0 then 625 else if i = 1 then 25 else 1
def mu (b : Nat) (f : Nat → Int32) : Nat → Nat
  | 0 => 0
  | d + 1 => mu b f d + wt d * (b + 1 - (f d).toNatClampNeg)
theorem mu_succ (b : Nat) (f : Nat → Int32) (d : Nat) : mu b f (d + 1) = mu b f d + wt d * (b + 1 - (f d).toNatClampNeg) := rfl
theorem mu_cong {b : Nat} {f g : Nat → Int32} : ∀ {d : Nat}, (∀ i, i < d → f i = g i) → mu b f d = mu b g d
  | 0, _ => rfl
  | d + 1, h => by rw [mu_succ, mu_succ, mu_cong (fun i hi => h i (by omega)), h d (by omega)]
theorem FI.rf {I : TI} : FI I I := fun _ _ => rfl
theorem FI.tr {I I1 I2 : TI} (a : FI I I1) (b : FI I1 I2) : FI I I2 := fun n hn => (b n hn).trans (a n hn)
theorem FS.tr {S S1 S2 : TS} (a : FS S S1) (b : FS S1 S2) : FS S S2 := fun n h2 h3 => (b n h2 h3).trans (a n h2 h3)
theorem FI.up {I I' : TI} {j : Nat} (h : FI I I') (hj : 26 ≤ j ∧ j < 36) (f : Nat → Int32) : FI I (va_up I' j f) := fun n hn => by rw [va_up_ne _ _ (by omega)]; exact h n hn
def MBg (b : Nat) (I : TI) : Prop := ∀ n, n < b → W12 (I 6 n) ∧ (Ps (I 5 n) → W12 (I 12 n)) ∧ (I 5 n = 4 → ∃ y : Nat, 1 ≤ y ∧ y ≤ 8 ∧ I 10 n = nI y)
theorem MBg.same {b : Nat} {I I' : TI} (h : MBg b I) (e : FI I I') : MBg b I' := by
  unfold MBg
  rw [e 6 (by omega), e 5 (by omega), e 12 (by omega), e 10 (by omega)]
  exact h
section
variable {I : TI} {J : TJ} {S : TS} {L : TL}
theorem m_begins {d k : Nat} {p0 p1 p2 p3 : Int32} {p4 : Int64} {Φ : TI → TJ → TS → TL → Prop} (hd : d < 3) (s2 : S 2 = nI d) (hln : p0 = 0 → ∃ k' : Nat, k' ≤ k ∧ S 3 = nI k') (hk : k < 2 ^ 31) (hf : ∀ (I' : TI) (J' : TJ) (S' : TS), FI I I' → I' 29 = upd (I 29) d p2 → I' 30 = upd (I 30) d (p3 + 1) → (∃ x, Tld x ∧ I' 31 = upd (I 31) d x) → FS S S' → S' 2 = nI (d + 1) → (p0 = 0 → ∃ k' : Nat, k' ≤ k + 1 ∧ S' 3 = nI k') → Φ I' J' S' L) : wp_X8_begins I J S L p0 p1 p2 p3 p4 Φ := by
  unfold wp_X8_begins
  refine ⟨fun I' J' S' L' x => FI I I' ∧ I' 29 = I 29 ∧ I' 30 = I 30 ∧ I' 31 = I 31 ∧ L' = L ∧ (∀ j, j ≠ 3 → S' j = S j) ∧ Tld x ∧ (p0 = 0 → ∃ k' : Nat, k' ≤ k + 1 ∧ S' 3 = nI k'), ?_, fun h0 => ⟨FI.rf, rfl, rfl, rfl, rfl, fun _ _ => rfl, Or.inl rfl, fun h => absurd h h0⟩, fun h0 => ?_⟩
  · rintro I' J' S' L' x ⟨hI, e29, e30, e31, rfl, hS, hx, hl⟩
    rw [hS 2 (by omega), s2, clN (by omega)]
    have hv : vp_in (nI d) 3 := vp_in_nI hd (by omega)
    refine ⟨hv, fun I1 e1 => ⟨hv, fun I2 e2 => ⟨hv, fun J3 _ => ⟨hv, fun I4 e4 => fun S5 e5 => ?_⟩⟩⟩⟩
    refine hf I4 J3 S5 (fun n hn => by rw [e4, va_up_ne _ _ (by omega), e2, va_up_ne _ _ (by omega), e1, va_up_ne _ _ (by omega)]; exact hI n hn) (by rw [e4, va_up_ne _ _ (by omega), e2, va_up_ne _ _ (by omega), e1, va_up_self, e29]) (by rw [e4, va_up_ne _ _ (by omega), e2, va_up_self, e1, va_up_ne _ _ (by omega), e30]) ⟨x, hx, by rw [e4, va_up_self, e2, va_up_ne _ _ (by omega), e1, va_up_ne _ _ (by omega), e31]⟩ (fun j h2 h3 => by rw [e5, va_up_ne _ _ h2]; exact hS j h3) (by rw [e5, va_up_self]; exact nI_1 d) (fun h => by rw [e5, va_up_ne _ _ (by omega)]; exact hl h)
  · obtain ⟨k', hk', e3⟩ := hln h0
    refine ⟨fun I' J' S' L' x => FI I I' ∧ I' 29 = I 29 ∧ I' 30 = I 30 ∧ I' 31 = I 31 ∧ L' = L ∧ S' = S ∧ Tld x, ?_, fun _ => ⟨FI.rf, rfl, rfl, rfl, rfl, rfl, Or.inl rfl⟩, fun h6 => ?_⟩
    · rintro I' J' S' L' x ⟨hI, e29, e30, e31, rfl, rfl, hx⟩ S1 e1
      exact ⟨hI, e29, e30, e31, rfl, fun j hj => by rw [e1, va_up_ne _ _ hj], hx, fun _ => ⟨k' + 1, by omega, by rw [e1, va_up_self, e3]; exact nI_1 k'⟩⟩
    · intro x hx
      rw [e3] at h6 hx
      subst hx
      have hk6 : k' < 600 := by
        rcases Nat.lt_or_ge k' 600 with g | g
        · exact g
        · exact absurd (nI_le (a := 600) g (by omega)) h6
      have hv : vp_in (nI k') 600 := vp_in_nI hk6 (by omega)
      refine ⟨hv, fun I1 e1 => ⟨hv, fun I2 e2 => ⟨hv, fun I3 e3' => ⟨hv, fun J1 _ => ⟨hv, fun J2 _ => ?_⟩⟩⟩⟩⟩
      exact ⟨fun n hn => by rw [e3', va_up_ne _ _ (by omega), e2, va_up_ne _ _ (by omega), e1, va_up_ne _ _ (by omega)], by rw [e3', va_up_ne _ _ (by omega), e2, va_up_ne _ _ (by omega), e1, va_up_ne _ _ (by omega)], by rw [e3', va_up_ne _ _ (by omega), e2, va_up_ne _ _ (by omega), e1, va_up_ne _ _ (by omega)], by rw [e3', va_up_ne _ _ (by omega), e2, va_up_ne _ _ (by omega), e1, va_up_ne _ _ (by omega)], rfl, rfl, Or.inr ⟨k', hk6, rfl⟩⟩
/-- what meets leaves: nothing of ours changed, or one line more on the stack -/
def Mt (I : TI) (S : TS) (d n k : Nat) (p0 : Int32) (I' : TI) (S' : TS) : Prop := (I' = I ∧ S' = S) ∨ (d < 2 ∧ FI I I' ∧ (∃ h, W12 h ∧ I' 29 = upd (I 29) (d + 1) h) ∧ I' 30 = upd (I 30) (d + 1) (nI (n + 1)) ∧ (∃ x, Tld x ∧ I' 31 = upd (I 31) (d + 1) x) ∧ FS S S' ∧ S' 2 = nI (d + 2) ∧ (p0 = 0 → ∃ k' : Nat, k' ≤ k + 1 ∧ S' 3 = nI k'))
set_option maxHeartbeats 1000000 in
theorem m_meets {b d k l t n : Nat} {p2 : Int32} {Φ : TI → TJ → TS → TL → Prop} (hB : MBg b I) (hb : b ≤ 24) (hn : n < b) (hl : l < 2) (ht : t < 40) (hd : d < 3) (s2 : S 2 = nI (d + 1)) (hln : nI l = 0 → ∃ k' : Nat, k' ≤ k ∧ S 3 = nI k') (hk : k < 2 ^ 31) (hf : ∀ (I' : TI) (J' : TJ) (S' : TS) (L' : TL), Mt I S d n k (nI l) I' S' → Φ I' J' S' L') : wp_X8_meets I J S L (nI l) (nI t) p2 (nI n) (nI d) Φ := by
  unfold wp_X8_meets
  intro x hx
  rw [show (24 : Int32) = nI 24 from rfl, pk_mul, nI_add] at hx
  subst hx
  have hv4 : vp_in (nI (24 * l + n)) 48 := vp_in_nI (by omega) (by omega)
  have hv3 : vp_in (nI d) 3 := vp_in_nI hd (by omega)
  have hvn : vp_in (nI n) 24 := vp_in_nI (by omega) (by omega)
  have Z : ∀ J' L', Φ I J' S L' := fun J' L' => hf I J' S L' (Or.inl ⟨rfl, rfl⟩)
  rw [clN (show n < 2 ^ 31 by omega)]
  refine ⟨hv3, fun y _ => ⟨hvn, ?_⟩⟩
  have d2 : ¬ nI d = (2 : Int32) → d < 2 := fun h => by
    rcases Nat.lt_or_ge d 2 with g | g
    · exact g
    · exact absurd (by rw [show d = 2 by omega]; rfl) h
  refine ⟨fun I' J' S' L' x y z => I' = I ∧ S' = S ∧ x = nI (24 * l + n) ∧ (Ps (I 5 n) → d < 2), ?_, fun hk0 => ⟨fun h2 => ⟨hvn, fun y2 _ => ⟨rfl, rfl, rfl, fun _ => d2 h2⟩⟩, fun _ => Z _ _⟩, fun hk1 => ⟨hvn, hv4, fun y2 _ => ?_⟩, fun _ => Z _ _, fun hk3 => ⟨fun h2 => ⟨hvn, hv4, fun y2 _ => ?_⟩, fun _ => Z _ _⟩, fun hk4 => ⟨hvn, fun y2 _ => ?_⟩, fun _ => Z _ _⟩
  · rintro I' J' S' L' x y z ⟨rfl, rfl, rfl, hps⟩
    refine ⟨hv4, hv4, fun J1 _ => ⟨hv4, hv4, fun J2 _ => ⟨hv3, fun J3 _ => ⟨hvn, ?_⟩⟩⟩⟩
    refine ⟨fun I2 J2 S2 L2 => Mt I' S' d n k (nI l) I2 S2, fun I2 J2 S2 L2 h => hf I2 J2 S2 L2 h, fun I2 J2 S2 L2 y => I2 = I' ∧ S2 = S' ∧ Ps (I' 5 n), ?_, fun h0 => ⟨rfl, rfl, Or.inl h0⟩, fun _ => ⟨hvn, fun _ => Or.inl ⟨rfl, rfl⟩, fun h3 => ⟨rfl, rfl, Or.inr h3⟩⟩⟩
    rintro I2 J2 S2 L2 y ⟨rfl, rfl, hp⟩
    refine ⟨fun _ => Or.inl ⟨rfl, rfl⟩, fun _ => ⟨hvn, ?_⟩⟩
    have hd2 := hps hp
    refine m_begins (d := d + 1) (k := k) (by omega) s2 hln hk (fun I3 J3 S3 a1 a2 a3 a4 a5 a6 a7 => Or.inr ⟨hd2, a1, ⟨_, (hB n hn).2.1 hp, a2⟩, by rw [a3, nI_1], a4, a5, a6, a7⟩)
  · have hnp : Ps (I 5 n) → d < 2 := fun hp => by
      rw [hk1] at hp
      rcases hp with g | g <;> exact absurd g (by decide)
    exact ⟨fun I' J' S' L' x y z => I' = I ∧ S' = S ∧ x = nI (24 * l + n) ∧ (Ps (I 5 n) → d < 2), fun _ _ _ _ _ _ _ g => g, fun _ => ⟨rfl, rfl, rfl, hnp⟩, fun _ => ⟨rfl, rfl, rfl, hnp⟩⟩
  · refine ⟨fun I' J' S' L' x y z => I' = I ∧ S' = S ∧ x = nI (24 * l + n), ?_, fun _ => ⟨rfl, rfl, rfl⟩, fun _ => ⟨rfl, rfl, rfl⟩⟩
    rintro I' J' S' L' x y z ⟨rfl, rfl, rfl⟩
    refine ⟨fun I2 J2 S2 L2 x y z => I2 = I' ∧ S2 = S' ∧ x = nI (24 * l + n), ?_, fun _ => ⟨rfl, rfl, rfl⟩, fun _ => ⟨rfl, rfl, rfl⟩⟩
    rintro I2 J2 S2 L2 x y z ⟨rfl, rfl, rfl⟩
    exact ⟨hvn, hvn, fun y3 _ => ⟨rfl, rfl, rfl, fun _ => d2 h2⟩⟩
  · have hnp : Ps (I 5 n) → d < 2 := fun hp => by
      rw [hk4] at hp
      rcases hp with g | g <;> exact absurd g (by decide)
    unfold wp_X8_bag
    have eb : (nI l * (24 : Int32) + nI n) * (40 : Int32) + nI t = nI ((l * 24 + n) * 40 + t) := by
      rw [show (24 : Int32) = nI 24 from rfl, pk_mul, nI_add, show (40 : Int32) = nI 40 from rfl, pk_mul, nI_add]
    rw [eb]
    have hv9 : vp_in (nI ((l * 24 + n) * 40 + t)) 1920 := vp_in_nI (by omega) (by omega)
    exact ⟨hv9, hv9, fun J3 _ => ⟨rfl, rfl, rfl, hnp⟩⟩
end
