theorem Tf0 {x y z : Int32} : Tf (nI 0) x y z ↔ P1k x := by unfold Tf; simp [show ¬ nI 0 = nI 1 by decide, show ¬ nI 0 = nI 2 by decide, show ¬ nI 0 = nI 3 by decide, show ¬ nI 0 = nI 4 by decide]
theorem Tf1 {x y z : Int32} : Tf (nI 1) x y z ↔ Sm x := by unfold Tf; simp [show ¬ nI 1 = nI 0 by decide, show ¬ nI 1 = nI 2 by decide, show ¬ nI 1 = nI 3 by decide, show ¬ nI 1 = nI 4 by decide]
theorem Tf2 {x y z : Int32} : Tf (nI 2) x y z ↔ Sm x := by unfold Tf; simp [show ¬ nI 2 = nI 0 by decide, show ¬ nI 2 = nI 1 by decide, show ¬ nI 2 = nI 3 by decide, show ¬ nI 2 = nI 4 by decide]
theorem Tf3 {x y z : Int32} : Tf (nI 3) x y z ↔ (P1k x ∧ Sm y ∧ ¬ z < 0 ∧ ¬ (1000 : Int32) < z) := by unfold Tf; simp [show ¬ nI 3 = nI 0 by decide, show ¬ nI 3 = nI 1 by decide, show ¬ nI 3 = nI 2 by decide, show ¬ nI 3 = nI 4 by decide]
theorem Tf4 {x y z : Int32} : Tf (nI 4) x y z ↔ (P1k x ∧ ¬ y < 1 ∧ ¬ (8 : Int32) < y) := by unfold Tf; simp [show ¬ nI 4 = nI 0 by decide, show ¬ nI 4 = nI 1 by decide, show ¬ nI 4 = nI 2 by decide, show ¬ nI 4 = nI 3 by decide]
theorem Ps0 : Ps (nI 0) := Or.inl rfl
theorem Ps1 : ¬ Ps (nI 1) := by unfold Ps; decide
theorem Ps2 : ¬ Ps (nI 2) := by unfold Ps; decide
theorem Ps3 : Ps (nI 3) := Or.inr rfl
theorem Ps4 : ¬ Ps (nI 4) := by unfold Ps; decide
section
variable {I : TI} {J : TJ} {S : TS} {L : TL}
set_option maxHeartbeats 2000000 in
theorem s_X8_areGood {p0 p1 p2 p3 p4 p5 : Int32} {Φ : Int32 → TI → TJ → TS → TL → Prop} (h1 : Gd p0 p1 p2 p3 p4 p5 → Φ 1 I J S L) (h2 : ¬ Gd p0 p1 p2 p3 p4 p5 → Φ 0 I J S L) : wp_X8_areGood I J S L p0 p1 p2 p3 p4 p5 Φ := by
  unfold wp_X8_areGood
  unfold Gd at h1 h2
  repeat' (first
    | (intro hc; exact absurd hc (by decide))
    | (refine s_X8_isThousandth ?_ ?_)
    | (refine s_X8_isSum ?_ ?_)
    | (refine s_X8_isHand ?_ ?_)
    | (refine ⟨_, fun _ _ _ _ hB => hB, ?_⟩)
    | (refine ⟨_, fun _ _ _ _ _ hB => hB, ?_⟩)
    | (refine ⟨_, fun _ _ _ _ _ _ hB => hB, ?_⟩)
    | (refine ⟨_, fun _ _ _ _ _ _ _ hB => hB, ?_⟩)
    | (refine ⟨_, fun _ _ _ _ _ _ _ _ hB => hB, ?_⟩)
    | (refine ⟨_, fun _ _ _ _ _ _ _ _ _ hB => hB, ?_⟩)
    | (refine ⟨_, fun _ _ _ _ _ _ _ _ _ _ hB => hB, ?_⟩)
    | (refine ⟨_, fun _ _ _ _ _ _ _ _ _ _ _ hB => hB, ?_⟩)
    | (refine ⟨_, fun _ _ _ _ _ _ _ _ _ _ _ _ hB => hB, ?_⟩)
    | (refine ⟨_, fun _ _ _ _ _ _ _ _ _ _ _ _ _ hB => hB, ?_⟩)
    | (refine ⟨_, fun _ _ _ _ _ _ _ _ _ _ _ _ _ _ hB => hB, ?_⟩)
    | (refine ⟨_, fun _ _ _ _ _ _ _ _ _ _ _ _ _ _ _ hB => hB, ?_⟩)
    | (intro (hc : _ = nI _); subst hc)
    | (refine ⟨?_, ?_⟩)
    | (intro x hx; subst hx)
    | (intro hc)
    | (dsimp only))
  all_goals first
    | exact Or.inl rfl
    | exact Or.inr rfl
    | exact h1 ⟨Tf0.mpr ‹_›, fun _ => ⟨‹_›, ‹_›⟩⟩
    | exact h1 ⟨Tf1.mpr ‹_›, fun h => absurd h Ps1⟩
    | exact h1 ⟨Tf2.mpr ‹_›, fun h => absurd h Ps2⟩
    | exact h1 ⟨Tf3.mpr ⟨‹_›, ‹_›, ‹_›, ‹_›⟩, fun _ => ⟨‹_›, ‹_›⟩⟩
    | exact h1 ⟨Tf4.mpr ⟨‹_›, ‹_›, ‹_›⟩, fun h => absurd h Ps4⟩
    | exact h2 (fun h => absurd (Tf0.mp h.1) ‹_›)
    | exact h2 (fun h => absurd (Tf1.mp h.1) ‹_›)
    | exact h2 (fun h => absurd (Tf2.mp h.1) ‹_›)
    | exact h2 (fun h => absurd (Tf3.mp h.1).1 ‹_›)
    | exact h2 (fun h => absurd (Tf3.mp h.1).2.1 ‹_›)
    | exact h2 (fun h => (Tf3.mp h.1).2.2.1 ‹_›)
    | exact h2 (fun h => (Tf3.mp h.1).2.2.2 ‹_›)
    | exact h2 (fun h => absurd (Tf4.mp h.1).1 ‹_›)
    | exact h2 (fun h => (Tf4.mp h.1).2.1 ‹_›)
    | exact h2 (fun h => (Tf4.mp h.1).2.2 ‹_›)
    | exact h2 (fun h => absurd (h.2 Ps0).1 ‹_›)
    | exact h2 (fun h => (h.2 Ps0).2 ‹_›)
    | exact h2 (fun h => absurd (h.2 Ps3).1 ‹_›)
    | exact h2 (fun h => (h.2 Ps3).2 ‹_›)
    | exact h2 (fun h => by
        have hk : ∀ k : Nat, k < 5 → ¬ p0 = nI k := by assumption
        rcases h.1 with ⟨ha, _⟩ | ⟨ha, _⟩ | ⟨ha, _⟩ | ⟨ha, _⟩ | ⟨ha, _⟩
        · exact hk 0 (by decide) ha
        · exact hk 1 (by decide) ha
        · exact hk 2 (by decide) ha
        · exact hk 3 (by decide) ha
        · exact hk 4 (by decide) ha)
theorem Sh_W {h p : Int32} (hw : W12 h) : Sh h p ↔ P1k p := by
  have hne : ¬ h = -1 := fun e => hw.1 (by rw [e]; decide)
  constructor
  · rintro (⟨ha, _⟩ | ⟨_, _, hp⟩)
    · exact absurd ha hne
    · exact hp
  · intro hp
    exact Or.inr ⟨hne, hw, hp⟩
theorem s_X8_isPartW {p0 p1 : Int32} {Φ : Int32 → TI → TJ → TS → TL → Prop} (hw : W12 p0) (h1 : P1k p1 → Φ 1 I J S L) (h2 : ¬ P1k p1 → Φ 0 I J S L) : wp_X8_isPart I J S L p0 p1 Φ := s_X8_isPart (fun h => h1 ((Sh_W hw).mp h)) (fun h => h2 (fun h' => h ((Sh_W hw).mpr h')))
end
def MCt (I : TI) : Prop := ∀ t, t < 40 → I 18 t = nI (fb_ct (fun w => decide (¬ I 16 (12 * t + w) = 0)) 12)
def InvM (c b : Nat) (I : TI) (S : TS) : Prop := (c ≤ 40 ∧ S 0 = nI c) ∧ (b ≤ 24 ∧ S 1 = nI b ∧ MBg b I) ∧ MSt I ∧ MOr I ∧ MCt I ∧ ∃ q : Nat, q ≤ 60 ∧ S 4 = nI q ∧ ∀ k, k < q → W12 (I 38 k)
theorem InvM.keep {c b : Nat} {I I' : TI} {S S' : TS} (h : InvM c b I S) (e : ∀ n, n < 19 ∨ n = 38 → I' n = I n) (f : ∀ j, j = 0 ∨ j = 1 ∨ j = 4 → S' j = S j) : InvM c b I' S' := by
  unfold InvM MBg MSt MOr MCt at h ⊢
  rw [e 1 (by omega), e 3 (by omega), e 5 (by omega), e 6 (by omega), e 10 (by omega), e 12 (by omega), e 16 (by omega), e 17 (by omega), e 18 (by omega), e 38 (by omega), f 0 (by omega), f 1 (by omega), f 4 (by omega)]
  exact h
theorem InvM.same {c b : Nat} {I I' : TI} {S S' : TS} (h : InvM c b I S) (e : FI I I') (f : FS S S') : InvM c b I' S' := h.keep (fun n hn => e n (by omega)) (fun j hj => f j (by omega) (by omega))
def Sam2 (I I' : TI) : Prop := I' 1 = I 1 ∧ I' 2 = I 2
theorem FI_2 {I I' : TI} (e : FI I I') : Sam2 I I' := ⟨e 1 (by omega), e 2 (by omega)⟩
def MRp (I I' : TI) : Prop := ∀ n, n < 13 ∨ 19 ≤ n → I' n = I n
def MOd (I I' : TI) (t w : Nat) : Prop := (¬ I 16 (12 * t + w) = 0 ∧ I' 17 = I 17 ∧ I' 18 = I 18) ∨ (I 16 (12 * t + w) = 0 ∧ ∃ z : Nat, z < 12 ∧ I 18 t = nI z ∧ I' 17 = upd (I 17) (12 * t + z) (nI w) ∧ I' 18 = upd (I 18) t (nI (z + 1)))
def MFin (I I' : TI) (t w : Nat) (p2 p3 p4 p5 : Int32) : Prop := MRp I I' ∧ I' 16 = upd (I 16) (12 * t + w) (if p5 = 0 then 1 else 2) ∧ I' 13 = upd (I 13) (12 * t + w) p2 ∧ I' 14 = upd (I 14) (12 * t + w) (if p5 = 0 then 0 else p3) ∧ I' 15 = upd (I 15) (12 * t + w) (if p5 = 0 then 0 else p4) ∧ MOd I I' t w
theorem MCt_lt {I : TI} {t w : Nat} (h : MCt I) (ht : t < 40) (hw : w < 12) (h0 : I 16 (12 * t + w) = 0) : ∃ z : Nat, z < 12 ∧ I 18 t = nI z := by
  refine ⟨_, ?_, h t ht⟩
  have hu := fb_ct_upd (fun w => decide (¬ I 16 (12 * t + w) = 0)) true (i := w) (n := 12) hw
  have hl := fb_ct_le (fun k => if k = w then true else decide (¬ I 16 (12 * t + k) = 0)) 12
  rw [if_neg (by simp [h0]), if_pos rfl] at hu
  omega
theorem MFin.ct {I I' : TI} {t w : Nat} {p2 p3 p4 p5 : Int32} (h : MCt I) (ht : t < 40) (hw : w < 12) (f : MFin I I' t w p2 p3 p4 p5) : MCt I' := by
  obtain ⟨-, e16, -, -, -, f⟩ := f
  have hs : ¬ (if p5 = 0 then (1 : Int32) else 2) = 0 := by split <;> decide
  generalize (if p5 = 0 then (1 : Int32) else 2) = s at e16 hs
  have hcnt : ∀ t', t' < 40 → t' ≠ t → fb_ct (fun w' => decide (¬ I' 16 (12 * t' + w') = 0)) 12 = fb_ct (fun w' => decide (¬ I 16 (12 * t' + w') = 0)) 12 := by
    intro t' h1 h2
    refine fb_ct_cong (fun w' hw' => ?_)
    rw [e16]
    unfold upd
    rw [if_neg (by omega)]
  intro t' ht'
  by_cases g : t' = t
  · subst g
    rcases f with ⟨h0, -, e18⟩ | ⟨h0, z, hz, ez, -, e18⟩
    · rw [e18, h t' ht']
      refine congrArg nI (fb_ct_cong (fun w' hw' => ?_))
      rw [e16]
      unfold upd
      by_cases g2 : w' = w
      · subst g2
        rw [if_pos rfl]
        simp [h0, hs]
      · rw [if_neg (by omega)]
    · have hu := fb_ct_upd (fun w => decide (¬ I 16 (12 * t' + w) = 0)) true (i := w) (n := 12) hw
      rw [if_neg (by simp [h0]), if_pos rfl] at hu
      have e1 : fb_ct (fun w' => decide (¬ I' 16 (12 * t' + w') = 0)) 12 = fb_ct (fun k => if k = w then true else decide (¬ I 16 (12 * t' + k) = 0)) 12 := by
        refine fb_ct_cong (fun w' hw' => ?_)
        rw [e16]
        unfold upd
        by_cases g2 : w' = w
        · subst g2
          rw [if_pos rfl, if_pos rfl]
          simp [hs]
        · rw [if_neg (by omega), if_neg g2]
      have e2 : fb_ct (fun w => decide (¬ I 16 (12 * t' + w) = 0)) 12 = z := by
        have := h t' ht'
        rw [ez] at this
        exact ((nI_eq (by omega) (by have := fb_ct_le (fun w => decide (¬ I 16 (12 * t' + w) = 0)) 12; omega)).mp this).symm
      rw [e18, pk_us, e1]
      refine congrArg nI ?_
      omega
  · rw [hcnt t' ht' g, ← h t' ht']
    rcases f with ⟨-, -, e18⟩ | ⟨-, z, -, -, -, e18⟩
    · rw [e18]
    · rw [e18, pk_un g]
theorem MFin.or {I I' : TI} {t w : Nat} {p2 p3 p4 p5 : Int32} (hZ : MOr I) (ht : t < 40) (hw : w < 12) (f : MFin I I' t w p2 p3 p4 p5) : MOr I' := by
  obtain ⟨-, -, -, -, -, f⟩ := f
  rcases f with ⟨-, e17, e18⟩ | ⟨-, z, hz, ez, e17, e18⟩
  · unfold MOr
    rw [e17, e18]
    exact hZ
  · intro t' ht'
    obtain ⟨z', hz', ez', ho⟩ := hZ t' ht'
    rw [e17, e18]
    by_cases g : t' = t
    · subst g
      have ezz : z' = z := (nI_eq (by omega) (by omega)).mp (ez'.symm.trans ez)
      subst ezz
      refine ⟨z' + 1, by omega, pk_us, fun i hi => ?_⟩
      by_cases g2 : i = z'
      · subst g2
        rw [pk_us]
        exact W12_nI hw
      · rw [pk_un (by omega)]
        exact ho i (by omega)
    · refine ⟨z', hz', by rw [pk_un g]; exact ez', fun i hi => ?_⟩
      rw [pk_un (by omega)]
      exact ho i hi
theorem MFin.inv {c b : Nat} {I I' : TI} {S : TS} {t w : Nat} {p2 p3 p4 p5 : Int32} (h : InvM c b I S) (ht : t < 40) (hw : w < 12) (f : MFin I I' t w p2 p3 p4 p5) : InvM c b I' S := by
  obtain ⟨h1, ⟨hb, s1, hB⟩, hSt, hOr, hCt, hQ⟩ := h
  have e := f.1
  refine ⟨h1, ⟨hb, s1, ?_⟩, ?_, f.or hOr ht hw, f.ct hCt ht hw, by rw [e 38 (by omega)]; exact hQ⟩
  · unfold MBg
    rw [e 6 (by omega), e 5 (by omega), e 12 (by omega), e 10 (by omega)]
    exact hB
  · unfold MSt
    rw [e 1 (by omega), e 3 (by omega)]
    exact hSt
theorem RSpec.one {P : Prop} {r r' : Int32} (a : RSpec P r) (b : RSpec P r') : r = r' := by
  rcases a with ⟨a0, a1⟩ | ⟨a0, a1⟩ <;> rcases b with ⟨b0, b1⟩ | ⟨b0, b1⟩
  · exact a1.trans b1.symm
  · exact absurd a0 b0
  · exact absurd b0 a0
  · exact a1.trans b1.symm
section
variable {I : TI} {J : TJ} {S : TS} {L : TL} {c b : Nat}
set_option maxHeartbeats 1000000 in
theorem m_puts {t w : Nat} {p2 p3 p4 p5 : Int32} {Φ : TI → TJ → TS → TL → Prop} (hC : MCt I) (ht : t < 40) (hw : w < 12) (hf : ∀ I' : TI, MFin I I' t w p2 p3 p4 p5 → Φ I' J S L) : wp_X8_puts I J S L (nI t) (nI w) p2 p3 p4 p5 Φ := by
  unfold wp_X8_puts
  rw [e12]
  intro x hx
  subst hx
  have hv : vp_in (nI (12 * t + w)) 480 := vp_in_nI (by omega) (by omega)
  have hvt : vp_in (nI t) 40 := vp_in_nI ht (by omega)
  rw [clN (show 12 * t + w < 2 ^ 31 by omega), clN (show t < 2 ^ 31 by omega)]
  refine ⟨hv, fun I' J' S' L' x => J' = J ∧ S' = S ∧ L' = L ∧ x = nI (12 * t + w) ∧ (∀ n, n ≠ 17 → n ≠ 18 → I' n = I n) ∧ MOd I I' t w, ?_, fun h0 => ⟨rfl, rfl, rfl, rfl, fun _ _ _ => rfl, Or.inl ⟨h0, rfl, rfl⟩⟩, fun h0 => ?_⟩
  · rintro I1 J' S' L' x ⟨rfl, rfl, rfl, rfl, hN, hO⟩
    refine ⟨fun I2 J2 S2 L2 x a s => I2 = I1 ∧ J2 = J' ∧ S2 = S' ∧ L2 = L' ∧ x = nI (12 * t + w) ∧ a = nI (12 * t + w) ∧ s = (if p5 = 0 then 1 else 2), ?_, fun h => ⟨rfl, rfl, rfl, rfl, rfl, rfl, (if_pos h).symm⟩, fun h => ⟨rfl, rfl, rfl, rfl, rfl, rfl, (if_neg h).symm⟩⟩
    rintro I2 J2 S2 L2 x a s ⟨rfl, rfl, rfl, rfl, rfl, rfl, rfl⟩
    rw [clN (show 12 * t + w < 2 ^ 31 by omega)]
    refine ⟨hv, fun I3 e3 => ⟨hv, fun I4 e4 => ?_⟩⟩
    refine ⟨fun I5 J5 S5 L5 x a s => I5 = I4 ∧ J5 = J2 ∧ S5 = S2 ∧ L5 = L2 ∧ x = nI (12 * t + w) ∧ a = nI (12 * t + w) ∧ s = (if p5 = 0 then 0 else p3), ?_, fun h => ⟨rfl, rfl, rfl, rfl, rfl, rfl, (if_pos h).symm⟩, fun h => ⟨rfl, rfl, rfl, rfl, rfl, rfl, (if_neg h).symm⟩⟩
    rintro I5 J5 S5 L5 x a s ⟨rfl, rfl, rfl, rfl, rfl, rfl, rfl⟩
    rw [clN (show 12 * t + w < 2 ^ 31 by omega)]
    refine ⟨hv, fun I6 e6 => ?_⟩
    refine ⟨fun I7 J7 S7 L7 a s => I7 = I6 ∧ J7 = J5 ∧ S7 = S5 ∧ L7 = L5 ∧ a = nI (12 * t + w) ∧ s = (if p5 = 0 then 0 else p4), ?_, fun h => ⟨rfl, rfl, rfl, rfl, rfl, (if_pos h).symm⟩, fun h => ⟨rfl, rfl, rfl, rfl, rfl, (if_neg h).symm⟩⟩
    rintro I7 J7 S7 L7 a s ⟨rfl, rfl, rfl, rfl, rfl, rfl⟩
    rw [clN (show 12 * t + w < 2 ^ 31 by omega)]
    refine ⟨hv, fun I8 e8 => hf I8 ?_⟩
    have f3 : ∀ n, n ≠ 16 → I3 n = I2 n := fun n h => by rw [e3, va_up_ne _ _ h]
    have f5 : ∀ n, n ≠ 13 → I5 n = I3 n := fun n h => by rw [e4, va_up_ne _ _ h]
    have f7 : ∀ n, n ≠ 14 → I7 n = I5 n := fun n h => by rw [e6, va_up_ne _ _ h]
    have f8 : ∀ n, n ≠ 15 → I8 n = I7 n := fun n h => by rw [e8, va_up_ne _ _ h]
    refine ⟨fun n hn => ?_, ?_, ?_, ?_, ?_, ?_⟩
    · rw [f8 n (by omega), f7 n (by omega), f5 n (by omega), f3 n (by omega), hN n (by omega) (by omega)]
    · rw [f8 16 (by omega), f7 16 (by omega), f5 16 (by omega), e3, va_up_self, hN 16 (by omega) (by omega)]
    · rw [f8 13 (by omega), f7 13 (by omega), e4, va_up_self, f3 13 (by omega), hN 13 (by omega) (by omega)]
    · rw [f8 14 (by omega), e6, va_up_self, f5 14 (by omega), f3 14 (by omega), hN 14 (by omega) (by omega)]
    · rw [e8, va_up_self, f7 15 (by omega), f5 15 (by omega), f3 15 (by omega), hN 15 (by omega) (by omega)]
    · unfold MOd at hO ⊢
      rw [f8 17 (by omega), f7 17 (by omega), f5 17 (by omega), f3 17 (by omega), f8 18 (by omega), f7 18 (by omega), f5 18 (by omega), f3 18 (by omega)]
      exact hO
  · obtain ⟨z, hz, ez⟩ := MCt_lt hC ht hw h0
    rw [ez, e12, clN (show 12 * t + z < 2 ^ 31 by omega)]
    refine ⟨hvt, vp_in_nI (by omega) (by omega), fun I2 e2 => ⟨hvt, hvt, fun I3 e3 => ⟨rfl, rfl, rfl, rfl, fun n a b => by rw [e3, va_up_ne _ _ b, e2, va_up_ne _ _ a], Or.inr ⟨h0, z, hz, ez, by rw [e3, va_up_ne _ _ (by omega), e2, va_up_self], ?_⟩⟩⟩⟩
    have f : I2 18 = I 18 := by rw [e2, va_up_ne _ _ (by omega)]
    rw [e3, va_up_self, f, ez, nI_1]
theorem m_isReport {p0 p1 p2 p3 p4 : Int32} {Φ : Int32 → TI → TJ → TS → TL → Prop} (hSt : MSt I) (h1 : RpOK (I 1) p0 p1 p2 p3 p4 → Φ 1 I J S L) (h0 : ¬ RpOK (I 1) p0 p1 p2 p3 p4 → Φ 0 I J S L) : wp_X8_isReport I J S L p0 p1 p2 p3 p4 Φ := by
  unfold wp_X8_isReport
  refine s_X8_isWork (fun hw => ?_) (fun hw => ⟨_, fun _ _ _ _ _ hB => hB, _, fun _ _ _ _ hB => hB, fun _ => ⟨Or.inl rfl, h0 (fun k => hw k.1)⟩, fun hc => absurd rfl hc⟩)
  refine ⟨_, fun _ _ _ _ _ hB => hB, _, fun _ _ _ _ hB => hB, fun hc => absurd hc (by decide), fun _ => ⟨W12_in hw, fun hle => ⟨Or.inl rfl, h0 (fun k => ?_)⟩, fun hle => ?_⟩⟩
  · obtain ⟨j, hj, ej⟩ := W12_cases hw
    obtain ⟨kk, hk, ek⟩ := hSt.1 j hj
    have k2 := k.2.1
    rw [ej, clN (by omega), ek] at hle k2
    exact nI_nle (Nat.pos_of_ne_zero (fun e => k2 (by rw [e]; rfl))) (by omega) hle
  · have hne : ¬ I 1 p0.toNatClampNeg = 0 := fun e => hle (by rw [e]; decide)
    refine s_X8_areCoins (fun hc1 => ⟨fun hc => absurd hc (by decide), fun _ => ?_⟩) (fun hc1 => ⟨fun _ => ⟨Or.inl rfl, h0 (fun k => hc1 k.2.2.1)⟩, fun hc => absurd rfl hc⟩)
    refine ⟨_, fun _ _ _ _ hB => hB, fun h4 => ⟨Or.inr rfl, h1 ⟨hw, hne, hc1, Or.inl h4⟩⟩, fun h4 => ?_⟩
    have nb : ¬ (Tl p2 ∧ Tl p3) → ¬ RpOK (I 1) p0 p1 p2 p3 p4 := fun hn k => by
      rcases k.2.2.2 with g | g
      · exact h4 g
      · exact hn g
    refine s_X8_areCoins (fun hc2 => ⟨fun hc => absurd hc (by decide), fun _ => ?_⟩) (fun hc2 => ⟨fun _ => ⟨Or.inl rfl, h0 (nb (fun g => hc2 g.1))⟩, fun hc => absurd rfl hc⟩)
    exact s_X8_areCoins (fun hc3 => ⟨fun hc => absurd hc (by decide), fun _ => ⟨Or.inr rfl, h1 ⟨hw, hne, hc1, Or.inr ⟨hc2, hc3⟩⟩⟩⟩) (fun hc3 => ⟨fun _ => ⟨Or.inl rfl, h0 (nb (fun g => hc3 g.2))⟩, fun hc => absurd rfl hc⟩)
theorem m_isDay {p0 : Int32} {Φ : Int32 → TI → TJ → TS → TL → Prop} (s0 : S 0 = nI c) (h1 : Dc c p0 → Φ 1 I J S L) (h2 : ¬ Dc c p0 → Φ 0 I J S L) : wp_X8_isDay I J S L p0 Φ := by
  have e : 90 * S 0 = nI (c * 90) := by rw [s0, show (90 : Int32) = nI 90 from rfl, pk_mul, Nat.mul_comm]
  refine s_X8_isDay ?_ ?_
  · rw [e]; exact h1
  · rw [e]; exact h2
end
