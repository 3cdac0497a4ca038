section
variable {n0 n1 : Nat} {I : TI} {J : TJ} {S : TS} {L : TL} {c : Nat}
/-- what a report keeps: all but the books of reports -/
def RpN (I I' : TI) : Prop := ∀ n, n < 15 ∨ 20 ≤ n → I' n = I n
/-- registering: order and sizes grow by one where the row was empty -/
def Mid (I I' : TI) (t w : Nat) : Prop := RpN I I' ∧ I' 16 = I 16 ∧ ((¬ I 16 (t * 12 + w) = 0 ∧ I' 18 = I 18 ∧ I' 19 = I 19) ∨ (I 16 (t * 12 + w) = 0 ∧ ∃ z : Nat, z < 12 ∧ I 19 t = nI z ∧ I' 18 = upd (I 18) (t * 12 + z) (nI w) ∧ I' 19 = upd (I 19) t (nI (z + 1))))
def Fin (I I' : TI) (t w : Nat) : Prop := RpN I I' ∧ (∃ s : Int32, ¬ s = 0 ∧ I' 16 = upd (I 16) (t * 12 + w) s) ∧ ((¬ I 16 (t * 12 + w) = 0 ∧ I' 18 = I 18 ∧ I' 19 = I 19) ∨ (I 16 (t * 12 + w) = 0 ∧ ∃ z : Nat, z < 12 ∧ I 19 t = nI z ∧ I' 18 = upd (I 18) (t * 12 + z) (nI w) ∧ I' 19 = upd (I 19) t (nI (z + 1))))
theorem Ct_lt {I : TI} {t w : Nat} (h : Ct I) (ht : t < 40) (hw : w < 12) (h0 : I 16 (t * 12 + w) = 0) : ∃ z : Nat, z < 12 ∧ I 19 t = nI z := by
  refine ⟨_, ?_, h t ht⟩
  have hu := fb_ct_upd (fun w => decide (¬ I 16 (t * 12 + w) = 0)) true (i := w) (n := 12) hw
  have hl := fb_ct_le (fun k => if k = w then true else decide (¬ I 16 (t * 12 + k) = 0)) 12
  rw [if_neg (by simp [h0]), if_pos rfl] at hu
  omega
theorem Fin.ct {I I' : TI} {t w : Nat} (h : Ct I) (ht : t < 40) (hw : w < 12) (f : Fin I I' t w) : Ct I' := by
  obtain ⟨-, ⟨s, hs, e16⟩, f⟩ := f
  have hrow : ∀ t' w', t' < 40 → w' < 12 → (t' * 12 + w' = t * 12 + w ↔ (t' = t ∧ w' = w)) := fun t' w' h1 h2 => by omega
  have hcnt : ∀ t', t' < 40 → t' ≠ t → fb_ct (fun w' => decide (¬ I' 16 (t' * 12 + w') = 0)) 12 = fb_ct (fun w' => decide (¬ I 16 (t' * 12 + w') = 0)) 12 := by
    intro t' h1 h2
    refine fb_ct_cong (fun w' hw' => ?_)
    rw [e16]
    unfold upd
    rw [if_neg (by omega)]
  intro t' ht'
  by_cases g : t' = t
  · subst g
    rcases f with ⟨h0, -, e19⟩ | ⟨h0, z, hz, ez, -, e19⟩
    · rw [e19, h t' ht']
      refine congrArg nI (fb_ct_cong (fun w' hw' => ?_))
      rw [e16]
      unfold upd
      by_cases g2 : w' = w
      · subst g2
        rw [if_pos rfl]
        simp [h0, hs]
      · rw [if_neg (by omega)]
    · have hu := fb_ct_upd (fun w => decide (¬ I 16 (t' * 12 + w) = 0)) true (i := w) (n := 12) hw
      rw [if_neg (by simp [h0]), if_pos rfl] at hu
      have e1 : fb_ct (fun w' => decide (¬ I' 16 (t' * 12 + w') = 0)) 12 = fb_ct (fun k => if k = w then true else decide (¬ I 16 (t' * 12 + k) = 0)) 12 := by
        refine fb_ct_cong (fun w' hw' => ?_)
        rw [e16]
        unfold upd
        by_cases g2 : w' = w
        · subst g2
          rw [if_pos rfl, if_pos rfl]
          simp [hs]
        · rw [if_neg (by omega), if_neg g2]
      have e2 : fb_ct (fun w => decide (¬ I 16 (t' * 12 + w) = 0)) 12 = z := by
        have := h t' ht'
        rw [ez] at this
        exact ((nI_eq (by omega) (by have := fb_ct_le (fun w => decide (¬ I 16 (t' * 12 + w) = 0)) 12; omega)).mp this).symm
      rw [e19, pk_us, e1]
      refine congrArg nI ?_
      omega
  · rw [hcnt t' ht' g, ← h t' ht']
    rcases f with ⟨-, -, e19⟩ | ⟨-, z, -, -, -, e19⟩
    · rw [e19]
    · rw [e19, pk_un g]
theorem Fin.bk {I I' : TI} {S : TS} {t w : Nat} (hB : Bk I S) (ht : t < 40) (hw : w < 12) (f : Fin I I' t w) : Bk I' S := by
  obtain ⟨hN, -, f⟩ := f
  obtain ⟨⟨b, hb, h1, hBg⟩, hSt, hQ, hZ⟩ := id hB
  refine ⟨⟨b, hb, h1, ?_⟩, ?_, by rw [hN 22 (by omega)]; exact hQ, ?_⟩
  · unfold Bgs
    rw [hN 7 (by omega), hN 6 (by omega), hN 13 (by omega), hN 11 (by omega)]
    exact hBg
  · unfold Sts
    rw [hN 1 (by omega), hN 3 (by omega), hN 4 (by omega)]
    exact hSt
  · rcases f with ⟨-, e18, e19⟩ | ⟨-, z, hz, ez, e18, e19⟩
    · rw [e18, e19]
      exact hZ
    · intro t' ht'
      obtain ⟨z', hz', ez', ho⟩ := hZ t' ht'
      rw [e18, e19]
      by_cases g : t' = t
      · subst g
        have ezz : z' = z := (nI_eq (by omega) (by omega)).mp (ez'.symm.trans ez)
        subst ezz
        refine ⟨z' + 1, by omega, pk_us, fun i hi => ?_⟩
        by_cases g2 : i = z'
        · subst g2
          rw [pk_us]
          exact W12_nI hw
        · rw [pk_un (by omega)]
          exact ho i (by omega)
      · refine ⟨z', hz', by rw [pk_un g]; exact ez', fun i hi => ?_⟩
        rw [pk_un (by omega)]
        exact ho i hi
theorem RpN.up {I I' : TI} {j : Nat} (h : RpN I I') (hj : 15 ≤ j ∧ j < 20) (f : Nat → Int32) : RpN I (va_up I' j f) := fun n hn => by rw [va_up_ne _ _ (by omega)]; exact h n hn
set_option maxHeartbeats 1000000 in
theorem t_put_O {t w : Nat} {p2 p3 p4 p5 : Int32} {Φ : TI → TJ → TS → TL → Prop} (hC : Ct I) (ht : t < 40) (hw : w < 12) (hf : ∀ I' : TI, Fin I I' t w → Φ I' J S L) : wp_X4_put_O n0 n1 I J S L (nI t) (nI w) p2 p3 p4 p5 Φ := by
  unfold wp_X4_put_O wp_X4_put
  have er : nI t * (12 : Int32) + nI w = nI (t * 12 + w) := by rw [show (12 : Int32) = nI 12 from rfl, pk_mul, nI_add]
  rw [er]
  intro x hx
  subst hx
  have hv : vp_in (nI (t * 12 + w)) 480 := vp_in_nI (by omega) (by omega)
  have hvt : vp_in (nI t) 40 := vp_in_nI ht (by omega)
  have e3 : nI (t * 12 + w) * (3 : Int32) = nI ((t * 12 + w) * 3) := by rw [show (3 : Int32) = nI 3 from rfl, pk_mul]
  rw [clN (by omega), clN (by omega)]
  refine ⟨hv, fun I' J' S' L' x => J' = J ∧ S' = S ∧ L' = L ∧ x = nI (t * 12 + w) ∧ Mid I I' t w, ?_, fun h0 => ⟨rfl, rfl, rfl, rfl, fun _ _ => rfl, rfl, Or.inl ⟨h0, rfl, rfl⟩⟩, fun h0 => ⟨hvt, hv, fun I1 e1 => ?_⟩⟩
  · rintro I' J' S' L' x ⟨rfl, rfl, rfl, rfl, hM⟩
    have go : ∀ (P : Int32 → Prop), P 1 → P 2 → ((p5 = 0 → P 1) ∧ (¬ p5 = 0 → P 2)) := fun P a b => ⟨fun _ => a, fun _ => b⟩
    refine ⟨fun I2 J2 S2 L2 x a s => I2 = I' ∧ J2 = J' ∧ S2 = S' ∧ L2 = L' ∧ x = nI (t * 12 + w) ∧ a = nI (t * 12 + w) ∧ ¬ s = 0, ?_, fun _ => ⟨rfl, rfl, rfl, rfl, rfl, rfl, by decide⟩, fun _ => ⟨rfl, rfl, rfl, rfl, rfl, rfl, by decide⟩⟩
    rintro I2 J2 S2 L2 x a s ⟨rfl, rfl, rfl, rfl, rfl, rfl, hs⟩
    rw [e3, clN (by omega), clN (by omega)]
    have h14 : ∀ d : Nat, d < 3 → vp_in (nI ((t * 12 + w) * 3) + nI d) 1440 := fun d hd => by rw [nI_add]; exact vp_in_nI (by omega) (by omega)
    refine ⟨hv, fun I3 e3' => ⟨vp_in_nI (by omega) (by omega), fun I4 e4 => ?_⟩⟩
    have hF : ∀ I9 : TI, I9 16 = I4 16 → (∀ n, n ≠ 15 → I9 n = I4 n) → Fin I I9 t w := by
      intro I9 _ h9
      have e16 : I4 16 = upd (I 16) (t * 12 + w) s := by rw [e4, va_up_ne _ _ (by omega), e3', va_up_self, hM.2.1]
      have eO : ∀ n, n ≠ 15 → n ≠ 16 → I9 n = I2 n := fun n a b => by rw [h9 n a, e4, va_up_ne _ _ a, e3', va_up_ne _ _ b]
      refine ⟨fun n hn => (eO n (by omega) (by omega)).trans (hM.1 n hn), ⟨s, hs, by rw [h9 16 (by omega)]; exact e16⟩, ?_⟩
      rw [eO 18 (by omega) (by omega), eO 19 (by omega) (by omega)]
      exact hM.2.2
    refine ⟨fun I5 J5 S5 L5 x a s => I5 = I4 ∧ J5 = J2 ∧ S5 = S2 ∧ L5 = L2 ∧ x = nI (t * 12 + w) ∧ a = nI ((t * 12 + w) * 3) + nI 1, ?_, fun _ => ⟨rfl, rfl, rfl, rfl, rfl, rfl⟩, fun _ => ⟨rfl, rfl, rfl, rfl, rfl, rfl⟩⟩
    rintro I5 J5 S5 L5 x a s2 ⟨rfl, rfl, rfl, rfl, rfl, rfl⟩
    rw [e3]
    refine ⟨h14 1 (by omega), fun I6 e6 => ?_⟩
    refine ⟨fun I7 J7 S7 L7 a s => I7 = I6 ∧ J7 = J5 ∧ S7 = S5 ∧ L7 = L5 ∧ a = nI ((t * 12 + w) * 3) + nI 2, ?_, fun _ => ⟨rfl, rfl, rfl, rfl, rfl⟩, fun _ => ⟨rfl, rfl, rfl, rfl, rfl⟩⟩
    rintro I7 J7 S7 L7 a s3 ⟨rfl, rfl, rfl, rfl, rfl⟩
    refine ⟨h14 2 (by omega), fun I8 e8 => ?_⟩
    show Φ I8 J7 (va_up S7 0 (S7 0)) L7
    rw [up_same]
    exact hf I8 (hF I8 (by rw [e8, va_up_ne _ _ (by omega), e6, va_up_ne _ _ (by omega)]) (fun n hn => by rw [e8, va_up_ne _ _ hn, e6, va_up_ne _ _ hn]))
  · obtain ⟨z, hz, ez⟩ := Ct_lt hC ht hw h0
    have e19 : I1 19 = I 19 := by rw [e1, va_up_ne _ _ (by omega)]
    rw [e19, ez]
    have eo : nI t * (12 : Int32) + nI z = nI (t * 12 + z) := by rw [show (12 : Int32) = nI 12 from rfl, pk_mul, nI_add]
    rw [eo, clN (by omega)]
    refine ⟨hvt, vp_in_nI (by omega) (by omega), fun I2 e2 => ⟨hvt, hvt, fun I3 e3' => ⟨rfl, rfl, rfl, rfl, ?_⟩⟩⟩
    have f19 : I2 19 = I 19 := by rw [e2, va_up_ne _ _ (by omega), e19]
    refine ⟨fun n hn => by rw [e3', va_up_ne _ _ (by omega), e2, va_up_ne _ _ (by omega), e1, va_up_ne _ _ (by omega)], by rw [e3', va_up_ne _ _ (by omega), e2, va_up_ne _ _ (by omega), e1, va_up_ne _ _ (by omega)], Or.inr ⟨h0, z, hz, ez, ?_, ?_⟩⟩
    · rw [e3', va_up_ne _ _ (by omega), e2, va_up_self, e1, va_up_ne _ _ (by omega)]
    · rw [e3', va_up_self, f19, ez]
      rw [nI_1]
theorem t_X7_report (p0 p1 p2 p3 p4 : Int32) (h : InvO c I S) : wp_X7_report 600 0 I J S L p0 p1 p2 p3 p4 (fun r I' _ S' _ => Same2 I I' S S' ∧ InvO c I' S' ∧ RSpec (c < 40 ∧ RpOK (I 1) p0 p1 p2 p3 p4) r) := by
  obtain ⟨hB, hC, hc, h3, h7, hq, h6, h10⟩ := id h
  have N : ¬ (c < 40 ∧ RpOK (I 1) p0 p1 p2 p3 p4) → Same2 I I S S ∧ InvO c I S ∧ RSpec (c < 40 ∧ RpOK (I 1) p0 p1 p2 p3 p4) 0 := fun hn => ⟨⟨rfl, rfl, rfl⟩, h, Or.inr ⟨hn, rfl⟩⟩
  unfold wp_X7_report
  intro x ex
  rw [h3] at ex
  subst ex
  refine ⟨_, fun _ _ _ _ hB => hB, fun e4 => N (fun k => absurd e4 (nI_ge (b := 40) k.1 (by omega))), fun h4 => ?_⟩
  have hc4 : c < 40 := by
    rcases Nat.lt_or_ge c 40 with g | g
    · exact g
    · exact absurd (nI_le (a := 40) g (by omega)) h4
  refine t_reportFits (fun hr => ⟨fun _ => ?_, fun hc => absurd hc (by decide)⟩) (fun hr => ⟨fun hc => absurd rfl hc, fun _ => N (fun k => hr k.2)⟩)
  obtain ⟨w, hw2, rfl⟩ := W12_cases hr.1
  refine t_put_O hC hc4 hw2 (fun I' hF => ?_)
  exact ⟨⟨hF.1 1 (by omega), hF.1 2 (by omega), rfl⟩, ⟨hF.bk hB hc4 hw2, hF.ct hC hc4 hw2, hc, h3, h7, hq, h6, h10⟩, Or.inl ⟨⟨hc4, hr⟩, rfl⟩⟩
end
