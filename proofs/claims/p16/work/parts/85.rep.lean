/-- what a REPORT does to the class's book -/
def XOd (I I' : TI) (t w : Nat) : Prop := (¬ I 16 (t * 12 + w) = 0 ∧ I' 17 = I 17 ∧ I' 18 = I 18 ∧ I' 19 = I 19) ∨ (I 16 (t * 12 + w) = 0 ∧ ∃ z : Nat, z < 12 ∧ I 19 t = nI z ∧ I' 17 = upd (I 17) (t * 12 + w) (nI z) ∧ I' 18 = upd (I 18) (t * 12 + z) (nI w) ∧ I' 19 = upd (I 19) t (nI (z + 1)))
def XFin (I I' : TI) (t w : Nat) (p2 p3 p4 p5 : Int32) : Prop := RpN I I' ∧ I' 16 = upd (I 16) (t * 12 + w) (if p5 = 0 then 1 else 2) ∧ I' 15 = upd (upd (upd (I 15) ((t * 12 + w) * 3) p2) ((t * 12 + w) * 3 + 1) (if p5 = 0 then 0 else p3)) ((t * 12 + w) * 3 + 2) (if p5 = 0 then 0 else p4) ∧ XOd I I' t w
theorem XFin.fin {I I' : TI} {t w : Nat} {p2 p3 p4 p5 : Int32} (h : XFin I I' t w p2 p3 p4 p5) : Fin I I' t w := by
  obtain ⟨a, b, -, d⟩ := h
  refine ⟨a, ⟨_, ?_, b⟩, ?_⟩
  · split <;> decide
  · rcases d with ⟨d1, -, d3, d4⟩ | ⟨d1, z, hz, d2, -, d4, d5⟩
    · exact Or.inl ⟨d1, d3, d4⟩
    · exact Or.inr ⟨d1, z, hz, d2, d4, d5⟩
section
variable {n0 n1 : Nat} {I : TI} {J : TJ} {S : TS} {L : TL} {c : Nat}
set_option maxHeartbeats 1000000 in
theorem e_put_O {t w : Nat} {p2 p3 p4 p5 : Int32} {Φ : TI → TJ → TS → TL → Prop} (hC : Ct I) (ht : t < 40) (hw : w < 12) (hf : ∀ I' : TI, XFin I I' t w p2 p3 p4 p5 → Φ I' J S L) : wp_X4_put_O n0 n1 I J S L (nI t) (nI w) p2 p3 p4 p5 Φ := by
  unfold wp_X4_put_O wp_X4_put
  have er : nI t * (12 : Int32) + nI w = nI (t * 12 + w) := by rw [show (12 : Int32) = nI 12 from rfl, pk_mul, nI_add]
  rw [er]
  intro x hx
  subst hx
  have hv : vp_in (nI (t * 12 + w)) 480 := vp_in_nI (by omega) (by omega)
  have hvt : vp_in (nI t) 40 := vp_in_nI ht (by omega)
  have e3 : nI (t * 12 + w) * (3 : Int32) = nI ((t * 12 + w) * 3) := by rw [show (3 : Int32) = nI 3 from rfl, pk_mul]
  have e31 : nI (t * 12 + w) * (3 : Int32) + (1 : Int32) = nI ((t * 12 + w) * 3 + 1) := by rw [e3, show (1 : Int32) = nI 1 from rfl, nI_add]
  have e32 : nI (t * 12 + w) * (3 : Int32) + (2 : Int32) = nI ((t * 12 + w) * 3 + 2) := by rw [e3, show (2 : Int32) = nI 2 from rfl, nI_add]
  rw [clN (show t * 12 + w < 2 ^ 31 by omega), clN (show t < 2 ^ 31 by omega)]
  refine ⟨hv, fun I' J' S' L' x => J' = J ∧ S' = S ∧ L' = L ∧ x = nI (t * 12 + w) ∧ (∀ n, n ≠ 17 → n ≠ 18 → n ≠ 19 → I' n = I n) ∧ XOd I I' t w, ?_, fun h0 => ⟨rfl, rfl, rfl, rfl, fun _ _ _ _ => rfl, Or.inl ⟨h0, rfl, rfl, rfl⟩⟩, fun h0 => ⟨hvt, hv, fun I1 e1 => ?_⟩⟩
  · rintro I1 J' S' L' x ⟨rfl, rfl, rfl, rfl, hN, hO⟩
    refine ⟨fun I2 J2 S2 L2 x a s => I2 = I1 ∧ J2 = J' ∧ S2 = S' ∧ L2 = L' ∧ x = nI (t * 12 + w) ∧ a = nI (t * 12 + w) ∧ s = (if p5 = 0 then 1 else 2), ?_, fun h => ⟨rfl, rfl, rfl, rfl, rfl, rfl, (if_pos h).symm⟩, fun h => ⟨rfl, rfl, rfl, rfl, rfl, rfl, (if_neg h).symm⟩⟩
    rintro I2 J2 S2 L2 x a s ⟨rfl, rfl, rfl, rfl, rfl, rfl, rfl⟩
    rw [e31, e3, clN (show t * 12 + w < 2 ^ 31 by omega), clN (show (t * 12 + w) * 3 < 2 ^ 31 by omega)]
    refine ⟨hv, fun I3 e3' => ⟨vp_in_nI (by omega) (by omega), fun I4 e4 => ?_⟩⟩
    refine ⟨fun I5 J5 S5 L5 x a s => I5 = I4 ∧ J5 = J2 ∧ S5 = S2 ∧ L5 = L2 ∧ x = nI (t * 12 + w) ∧ a = nI ((t * 12 + w) * 3 + 1) ∧ s = (if p5 = 0 then 0 else p3), ?_, fun h => ⟨rfl, rfl, rfl, rfl, rfl, rfl, (if_pos h).symm⟩, fun h => ⟨rfl, rfl, rfl, rfl, rfl, rfl, (if_neg h).symm⟩⟩
    rintro I5 J5 S5 L5 x a s ⟨rfl, rfl, rfl, rfl, rfl, rfl, rfl⟩
    rw [e32, clN (show (t * 12 + w) * 3 + 1 < 2 ^ 31 by omega)]
    refine ⟨vp_in_nI (by omega) (by omega), fun I6 e6 => ?_⟩
    refine ⟨fun I7 J7 S7 L7 a s => I7 = I6 ∧ J7 = J5 ∧ S7 = S5 ∧ L7 = L5 ∧ a = nI ((t * 12 + w) * 3 + 2) ∧ s = (if p5 = 0 then 0 else p4), ?_, fun h => ⟨rfl, rfl, rfl, rfl, rfl, (if_pos h).symm⟩, fun h => ⟨rfl, rfl, rfl, rfl, rfl, (if_neg h).symm⟩⟩
    rintro I7 J7 S7 L7 a s ⟨rfl, rfl, rfl, rfl, rfl, rfl⟩
    rw [clN (show (t * 12 + w) * 3 + 2 < 2 ^ 31 by omega)]
    refine ⟨vp_in_nI (by omega) (by omega), fun I8 e8 => ?_⟩
    show Φ I8 J7 (va_up S7 0 (S7 0)) L7
    rw [up_same]
    have f3 : ∀ n, n ≠ 16 → I3 n = I2 n := fun n h => by rw [e3', va_up_ne _ _ h]
    have f5 : ∀ n, n ≠ 15 → I5 n = I3 n := fun n h => by rw [e4, va_up_ne _ _ h]
    have f7 : ∀ n, n ≠ 15 → I7 n = I5 n := fun n h => by rw [e6, va_up_ne _ _ h]
    have f8 : ∀ n, n ≠ 15 → I8 n = I7 n := fun n h => by rw [e8, va_up_ne _ _ h]
    refine hf I8 ⟨fun n hn => ?_, ?_, ?_, ?_⟩
    · rw [f8 n (by omega), f7 n (by omega), f5 n (by omega), f3 n (by omega), hN n (by omega) (by omega) (by omega)]
    · rw [f8 16 (by omega), f7 16 (by omega), f5 16 (by omega), e3', va_up_self, hN 16 (by omega) (by omega) (by omega)]
    · rw [e8, va_up_self, e6, va_up_self, e4, va_up_self, f3 15 (by omega), hN 15 (by omega) (by omega) (by omega)]
    · unfold XOd at hO ⊢
      rw [f8 17 (by omega), f7 17 (by omega), f5 17 (by omega), f3 17 (by omega), f8 18 (by omega), f7 18 (by omega), f5 18 (by omega), f3 18 (by omega), f8 19 (by omega), f7 19 (by omega), f5 19 (by omega), f3 19 (by omega)]
      exact hO
  · obtain ⟨z, hz, ez⟩ := Ct_lt hC ht hw h0
    have e19 : I1 19 = I 19 := by rw [e1, va_up_ne _ _ (by omega)]
    rw [e19, ez]
    rw [ez] at e1
    have eo : nI t * (12 : Int32) + nI z = nI (t * 12 + z) := by rw [show (12 : Int32) = nI 12 from rfl, pk_mul, nI_add]
    rw [eo, clN (show t * 12 + z < 2 ^ 31 by omega)]
    refine ⟨hvt, vp_in_nI (by omega) (by omega), fun I2 e2 => ⟨hvt, hvt, fun I3 e3' => ⟨rfl, rfl, rfl, rfl, fun n a b d => by rw [e3', va_up_ne _ _ d, e2, va_up_ne _ _ b, e1, va_up_ne _ _ a], Or.inr ⟨h0, z, hz, ez, ?_, ?_, ?_⟩⟩⟩⟩
    · rw [e3', va_up_ne _ _ (by omega), e2, va_up_ne _ _ (by omega), e1, va_up_self]
    · rw [e3', va_up_ne _ _ (by omega), e2, va_up_self, e1, va_up_ne _ _ (by omega)]
    · have f19 : I2 19 = I 19 := by rw [e2, va_up_ne _ _ (by omega), e19]
      rw [e3', va_up_self, f19, ez, nI_1]
end
/-- places and order agree -/
def PX (X : TI) : Prop := ∀ t, t < 40 → ∃ z : Nat, z ≤ 12 ∧ X 19 t = nI z ∧ (∀ i, i < z → ∃ w : Nat, w < 12 ∧ X 18 (t * 12 + i) = nI w ∧ ¬ X 16 (t * 12 + w) = 0 ∧ X 17 (t * 12 + w) = nI i) ∧ (∀ w, w < 12 → ¬ X 16 (t * 12 + w) = 0 → ∃ i : Nat, i < z ∧ X 18 (t * 12 + i) = nI w)
theorem XFin.px {I I' : TI} {t w : Nat} {p2 p3 p4 p5 : Int32} (h : PX I) (ht : t < 40) (hw : w < 12) (f : XFin I I' t w p2 p3 p4 p5) : PX I' := by
  obtain ⟨-, e16, -, f⟩ := f
  have hs : ¬ (if p5 = 0 then (1 : Int32) else 2) = 0 := by split <;> decide
  generalize (if p5 = 0 then (1 : Int32) else 2) = s at e16 hs
  have n16 : ∀ i, i ≠ t * 12 + w → I' 16 i = I 16 i := fun i hi => by rw [e16, pk_un hi]
  have y16 : ¬ I' 16 (t * 12 + w) = 0 := by rw [e16, pk_us]; exact hs
  intro t' ht'
  obtain ⟨z, hz, ez, h1, h2⟩ := h t' ht'
  rcases f with ⟨h0, e17, e18, e19⟩ | ⟨h0, z', hz', ez', e17, e18, e19⟩
  · have nz : ∀ w', w' < 12 → (¬ I' 16 (t' * 12 + w') = 0 ↔ ¬ I 16 (t' * 12 + w') = 0) := fun w' hw' => by
      by_cases g : t' * 12 + w' = t * 12 + w
      · rw [g]
        exact ⟨fun _ => h0, fun _ => y16⟩
      · rw [n16 _ g]
    refine ⟨z, hz, by rw [e19]; exact ez, fun i hi => ?_, fun w' hw' hn => ?_⟩
    · obtain ⟨w', a1, a2, a3, a4⟩ := h1 i hi
      exact ⟨w', a1, by rw [e18]; exact a2, (nz w' a1).mpr a3, by rw [e17]; exact a4⟩
    · rw [e18]
      exact h2 w' hw' ((nz w' hw').mp hn)
  · by_cases g : t' = t
    · subst g
      have ezz : z = z' := (nI_eq (by omega) (by omega)).mp (ez.symm.trans ez')
      subst ezz
      refine ⟨z + 1, by omega, by rw [e19, pk_us], fun i hi => ?_, fun w' hw' hn => ?_⟩
      · by_cases gi : i = z
        · subst gi
          exact ⟨w, hw, by rw [e18, pk_us], y16, by rw [e17, pk_us]⟩
        · obtain ⟨w', a1, a2, a3, a4⟩ := h1 i (by omega)
          have gw : w' ≠ w := fun e => a3 (by rw [e]; exact h0)
          exact ⟨w', a1, by rw [e18, pk_un (by omega)]; exact a2, by rw [n16 _ (by omega)]; exact a3, by rw [e17, pk_un (by omega)]; exact a4⟩
      · by_cases gw : w' = w
        · subst gw
          exact ⟨z, by omega, by rw [e18, pk_us]⟩
        · rw [n16 _ (by omega)] at hn
          obtain ⟨i, a1, a2⟩ := h2 w' hw' hn
          exact ⟨i, by omega, by rw [e18, pk_un (by omega)]; exact a2⟩
    · refine ⟨z, hz, by rw [e19, pk_un g]; exact ez, fun i hi => ?_, fun w' hw' hn => ?_⟩
      · obtain ⟨w', a1, a2, a3, a4⟩ := h1 i hi
        exact ⟨w', a1, by rw [e18, pk_un (by omega)]; exact a2, by rw [n16 _ (by omega)]; exact a3, by rw [e17, pk_un (by omega)]; exact a4⟩
      · rw [n16 _ (by omega)] at hn
        obtain ⟨i, a1, a2⟩ := h2 w' hw' hn
        exact ⟨i, a1, by rw [e18, pk_un (by omega)]; exact a2⟩
/-- the reference's REPORTS stay the class's -/
theorem RM.put {X X' I I' : TI} {t w : Nat} {p2 p3 p4 p5 : Int32} (h : RM X I) (ht : t < 40) (hw : w < 12) (f : XFin X X' t w p2 p3 p4 p5) (g : MFin I I' t w p2 p3 p4 p5) : RM X' I' := by
  obtain ⟨h16, h17, h18, hc, ho⟩ := h
  obtain ⟨fN, f16, f15, fO⟩ := f
  obtain ⟨gN, g16, g13, g14, g15, gO⟩ := g
  have er : 12 * t + w = t * 12 + w := by omega
  rw [er] at g16 g13 g14 g15
  have hod : I' 17 = X' 18 ∧ I' 18 = X' 19 := by
    unfold MOd at gO
    rw [er, h16, h17, h18] at gO
    rcases fO with ⟨a0, -, a1, a2⟩ | ⟨a0, z, hz, ez, -, a1, a2⟩ <;> rcases gO with ⟨b0, b1, b2⟩ | ⟨b0, z', hz', ez', b1, b2⟩
    · exact ⟨b1.trans a1.symm, b2.trans a2.symm⟩
    · exact absurd b0 a0
    · exact absurd a0 b0
    · have : z' = z := (nI_eq (by omega) (by omega)).mp (ez'.symm.trans ez)
      subst this
      rw [show 12 * t + z' = t * 12 + z' by omega] at b1
      exact ⟨b1.trans a1.symm, b2.trans a2.symm⟩
  refine ⟨by rw [g16, f16, h16], hod.1, hod.2, fun i hi => ?_, fun t' w' ht' hw' => ?_⟩
  · obtain ⟨c1, c2, c3⟩ := hc i hi
    rw [g13, g14, g15, f15]
    unfold upd
    by_cases q : i = t * 12 + w
    · subst q
      refine ⟨?_, ?_, ?_⟩
      · rw [if_pos rfl, if_neg (show ¬ (t * 12 + w) * 3 = (t * 12 + w) * 3 + 2 by omega), if_neg (show ¬ (t * 12 + w) * 3 = (t * 12 + w) * 3 + 1 by omega), if_pos rfl]
      · rw [if_pos rfl, if_neg (show ¬ (t * 12 + w) * 3 + 1 = (t * 12 + w) * 3 + 2 by omega), if_pos (show (t * 12 + w) * 3 + 1 = (t * 12 + w) * 3 + 1 from rfl)]
      · rw [if_pos rfl, if_pos (show (t * 12 + w) * 3 + 2 = (t * 12 + w) * 3 + 2 from rfl)]
    · rw [if_neg q, if_neg q, if_neg q, if_neg (by omega), if_neg (by omega), if_neg (by omega), if_neg (by omega), if_neg (by omega), if_neg (by omega), if_neg (by omega), if_neg (by omega), if_neg (by omega)]
      exact ⟨c1, c2, c3⟩
  · rw [gN 19 (by omega), gN 20 (by omega)]
    unfold opP
    rw [fN 20 (by omega)]
    exact ho t' w' ht' hw'
