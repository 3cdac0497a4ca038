def D0 (x : Int32) : Prop := ¬ x < 0 ∧ ¬ (3599 : Int32) < x
theorem q_isDayAhead {p0 : Int32} {Φ : Int32 → TI → TJ → TS → TL → Prop} (h1 : D0 p0 → Φ 1 IO JO SO LO) (h2 : ¬ D0 p0 → Φ 0 IO JO SO LO) : wp_X7_isDayAhead 600 0 IO JO SO LO p0 Φ := s_X7_isDayAhead h1 h2
theorem q_isDay {p0 : Int32} {Φ : Int32 → TI → TJ → TS → TL → Prop} (h1 : D0 p0 → Φ 1 IM JM SM LM) (h2 : ¬ D0 p0 → Φ 0 IM JM SM LM) : wp_X8_isDay IM JM SM LM p0 Φ := s_X8_isDay h1 h2
theorem q_hasRoom_O {p0 p1 : Int32} {Φ : Int32 → TI → TJ → TS → TL → Prop} (hw : W12 p0) (hf : Φ 1 IO JO SO LO) : wp_X6_hasRoom_O 600 0 IO JO SO LO p0 p1 Φ := by
  unfold wp_X6_hasRoom_O wp_X6_hasRoom
  refine ⟨W12_in hw, fun x hx => ⟨fun hc => absurd hx hc, fun _ => ?_⟩⟩
  try dsimp only
  rw [up_same]
  exact hf
theorem s_put_O {n0 n1 : Nat} {I : TI} {J : TJ} {S : TS} {L : TL} {p0 p1 p2 p3 : Int32} {Φ : TI → TJ → TS → TL → Prop} (hv : vp_in (p0 * 3 + p1) 216) (hf : ∀ I' : TI, I' 1 = I 1 → Φ I' J S L) : wp_X6_put_O n0 n1 I J S L p0 p1 p2 p3 Φ := by
  unfold wp_X6_put_O wp_X6_put
  refine ⟨hv, fun I1 e1 => ⟨hv, fun I2 e2 => ?_⟩⟩
  try dsimp only
  rw [up_same]
  exact hf I2 (by rw [e2, e1]; rfl)
theorem q_shareTail {p0 p1 p2 p3 p4 p5 p6 p7 : Int32} {Φ : Int32 → TI → TJ → TS → TL → Prop} (hw : W12 p0) (hf : ∀ I' : TI, Φ 1 I' JO SO LO) : wp_X6_addSet_O 600 0 IO JO SO LO p0 p1 (fun r I J S L => wp_X6_put_O 600 0 I J S L r 0 p2 p3 (fun I J S L => wp_X6_put_O 600 0 I J S L r 1 p4 p5 (fun I J S L => wp_X6_put_O 600 0 I J S L r 2 p6 p7 (fun I J S L => vp_in p0 12 ∧ Φ (I 1 p0.toNatClampNeg) I J S L)))) := by
  obtain ⟨j, hj, rfl⟩ := W12_cases hw
  have e6 : nI j * (6 : Int32) + IO 1 (nI j).toNatClampNeg = nI (j * 6) := by
    show nI j * nI 6 + nI 0 = nI (j * 6)
    rw [pk_mul, nI_add, Nat.add_zero]
  have e3 : ∀ k : Nat, nI (j * 6) * (3 : Int32) + nI k = nI (j * 6 * 3 + k) := by
    intro k
    show nI (j * 6) * nI 3 + nI k = _
    rw [pk_mul, nI_add]
  unfold wp_X6_addSet_O wp_X6_addSet
  refine ⟨W12_in hw, fun x hx => ?_⟩
  rw [e6] at hx
  subst hx
  refine ⟨vp_in_nI (by omega) (by omega), fun I1 e1 => ⟨W12_in hw, W12_in hw, fun I2 e2 => ?_⟩⟩
  have h1 : I2 1 (nI j).toNatClampNeg = 1 := by
    rw [e2, e1]
    show (if (nI j).toNatClampNeg = (nI j).toNatClampNeg then (IO 1 (nI j).toNatClampNeg + 1 : Int32) else _) = 1
    rw [if_pos rfl]
    rfl
  try dsimp only
  rw [up_same]
  refine s_put_O (by rw [show (0 : Int32) = nI 0 from rfl, e3]; exact vp_in_nI (by omega) (by omega)) (fun I3 e3' => ?_)
  refine s_put_O (by rw [show (1 : Int32) = nI 1 from rfl, e3]; exact vp_in_nI (by omega) (by omega)) (fun I4 e4' => ?_)
  refine s_put_O (by rw [show (2 : Int32) = nI 2 from rfl, e3]; exact vp_in_nI (by omega) (by omega)) (fun I5 e5' => ?_)
  refine ⟨W12_in hw, ?_⟩
  rw [e5', e4', e3', h1]
  exact hf I5
def ShOK (p0 p1 p2 p3 p4 p5 p6 p7 : Int32) : Prop := W12 p0 ∧ D0 p1 ∧ W12 p2 ∧ P1k p3 ∧ Sh p4 p5 ∧ Sh p6 p7 ∧ ¬ (p4 = -1 ∧ ¬ p6 = -1) ∧ ¬ p2 = p4 ∧ ¬ p2 = p6 ∧ ¬ (¬ p4 = -1 ∧ p4 = p6) ∧ p3 + p5 + p7 = 1000
noncomputable def vShare (p0 p1 p2 p3 p4 p5 p6 p7 : Int32) : Int32 := @ite _ (ShOK p0 p1 p2 p3 p4 p5 p6 p7) (Classical.propDecidable _) 1 (-1)
theorem vShare_y {p0 p1 p2 p3 p4 p5 p6 p7 : Int32} (h : ShOK p0 p1 p2 p3 p4 p5 p6 p7) : (1 : Int32) = vShare p0 p1 p2 p3 p4 p5 p6 p7 := by unfold vShare; rw [if_pos h]
theorem vShare_n {p0 p1 p2 p3 p4 p5 p6 p7 : Int32} (h : ¬ ShOK p0 p1 p2 p3 p4 p5 p6 p7) : (-1 : Int32) = vShare p0 p1 p2 p3 p4 p5 p6 p7 := by unfold vShare; rw [if_neg h]
set_option maxHeartbeats 4000000 in
theorem q_X7_share (p0 p1 p2 p3 p4 p5 p6 p7 : Int32) : wp_X7_share 600 0 IO JO SO LO p0 p1 p2 p3 p4 p5 p6 p7 (fun r _ _ _ _ => r = vShare p0 p1 p2 p3 p4 p5 p6 p7) := by
  unfold wp_X7_share
  repeat' (first
    | (intro hc; exact absurd hc (by decide))
    | (refine s_X7_isWork ?_ ?_)
    | (refine q_isDayAhead ?_ ?_)
    | (refine q_hasRoom_O ‹_› ?_)
    | (refine s_X7_isHand ?_ ?_)
    | (refine s_X7_isPart ?_ ?_)
    | (refine s_X7_isSharer ?_ ?_)
    | (refine q_shareTail (Φ := fun r _ _ _ _ => r = vShare p0 p1 p2 p3 p4 p5 p6 p7) ‹_› (fun _ => ?_))
    | (refine ⟨_, fun _ _ _ _ hB => hB, ?_⟩)
    | (refine ⟨_, fun _ _ _ _ _ hB => hB, ?_⟩)
    | (refine ⟨_, fun _ _ _ _ _ _ hB => hB, ?_⟩)
    | (refine ⟨_, fun _ _ _ _ _ _ _ hB => hB, ?_⟩)
    | (refine ⟨_, fun _ _ _ _ _ _ _ _ hB => hB, ?_⟩)
    | (refine ⟨_, fun _ _ _ _ _ _ _ _ _ hB => hB, ?_⟩)
    | (refine ⟨_, fun _ _ _ _ _ _ _ _ _ _ hB => hB, ?_⟩)
    | (refine ⟨_, fun _ _ _ _ _ _ _ _ _ _ _ hB => hB, ?_⟩)
    | (refine ⟨_, fun _ _ _ _ _ _ _ _ _ _ _ _ hB => hB, ?_⟩)
    | (refine ⟨_, fun _ _ _ _ _ _ _ _ _ _ _ _ _ hB => hB, ?_⟩)
    | (refine ⟨_, fun _ _ _ _ _ _ _ _ _ _ _ _ _ _ hB => hB, ?_⟩)
    | (refine ⟨_, fun _ _ _ _ _ _ _ _ _ _ _ _ _ _ _ hB => hB, ?_⟩)
    | (refine ⟨?_, ?_⟩)
    | (intro x hx; subst hx)
    | (intro hc)
    | (dsimp only))
  all_goals first
    | (show False; first | contradiction | grind)
    | exact vShare_n (by intro h; unfold ShOK at h; simp_all)
    | exact vShare_y (by unfold ShOK; simp_all)
    | exact vShare_n (by intro h; unfold ShOK at h; grind)
    | exact vShare_y (by unfold ShOK; grind)
def BgOK (p0 p1 p2 p3 p4 p5 p6 p7 : Int32) : Prop := W12 p1 ∧ (¬ p2 < 1 ∧ ¬ (4095 : Int32) < p2) ∧ D0 p3 ∧ Tf p0 p4 p5 p6 ∧ (Ps p0 → W12 p7 ∧ ¬ p7 = p1)
noncomputable def vBarg (p0 p1 p2 p3 p4 p5 p6 p7 : Int32) : Int32 := @ite _ (BgOK p0 p1 p2 p3 p4 p5 p6 p7) (Classical.propDecidable _) 0 (-1)
theorem vBarg_y {p0 p1 p2 p3 p4 p5 p6 p7 : Int32} (h : BgOK p0 p1 p2 p3 p4 p5 p6 p7) : (0 : Int32) = vBarg p0 p1 p2 p3 p4 p5 p6 p7 := by unfold vBarg; rw [if_pos h]
theorem vBarg_n {p0 p1 p2 p3 p4 p5 p6 p7 : Int32} (h : ¬ BgOK p0 p1 p2 p3 p4 p5 p6 p7) : (-1 : Int32) = vBarg p0 p1 p2 p3 p4 p5 p6 p7 := by unfold vBarg; rw [if_neg h]
theorem Tf_lo {k x y z : Int32} (h : Tf k x y z) : ¬ k < 0 ∧ ¬ (4 : Int32) < k := by
  rcases h with ⟨rfl, _⟩ | ⟨rfl, _⟩ | ⟨rfl, _⟩ | ⟨rfl, _⟩ | ⟨rfl, _⟩ <;> decide
theorem q_bargTail {p0 p1 p2 p3 p4 p5 p6 p7 : Int32} {Φ : Int32 → TI → TJ → TS → TL → Prop} (hf : ∀ (I' : TI) (S' : TS), Φ 0 I' JO S' LO) : wp_X0_add_O 600 0 IO JO SO LO p0 p1 p2 p3 (fun r I J S L => wp_X0_agree_O 600 0 I J S L r p4 p5 p6 p7 (fun I J S L => Φ r I J S L)) := by
  have hv : vp_in (0 : Int32) 24 := by unfold vp_in; decide
  unfold wp_X0_add_O wp_X0_add
  intro x hx
  have hx : x = 0 := hx
  subst hx
  refine ⟨hv, fun I1 _ => ⟨hv, fun I2 _ => ⟨hv, fun I3 _ => ⟨hv, fun I4 _ => fun S1 _ => ?_⟩⟩⟩⟩
  unfold wp_X0_agree_O wp_X0_agree
  exact ⟨hv, fun I1 _ => ⟨hv, fun I2 _ => ⟨hv, fun I3 _ => ⟨hv, fun I4 _ => hf _ _⟩⟩⟩⟩
set_option maxHeartbeats 4000000 in
theorem q_X7_bargain (p0 p1 p2 p3 p4 p5 p6 p7 : Int32) : wp_X7_bargain 600 0 IO JO SO LO p0 p1 p2 p3 p4 p5 p6 p7 (fun r _ _ _ _ => r = vBarg p0 p1 p2 p3 p4 p5 p6 p7) := by
  unfold wp_X7_bargain
  repeat' (first
    | (intro hc; exact absurd hc (by decide))
    | (refine q_isDayAhead ?_ ?_)
    | (refine s_X7_isHand ?_ ?_)
    | (refine s_X7_termsFit ?_ ?_)
    | (refine s_X7_passesOn ?_ ?_)
    | (refine q_bargTail (fun _ _ => ?_))
    | (refine ⟨_, fun _ _ _ _ hB => hB, ?_⟩)
    | (refine ⟨_, fun _ _ _ _ _ hB => hB, ?_⟩)
    | (refine ⟨_, fun _ _ _ _ _ _ hB => hB, ?_⟩)
    | (refine ⟨_, fun _ _ _ _ _ _ _ hB => hB, ?_⟩)
    | (refine ⟨_, fun _ _ _ _ _ _ _ _ hB => hB, ?_⟩)
    | (refine ⟨_, fun _ _ _ _ _ _ _ _ _ hB => hB, ?_⟩)
    | (refine ⟨_, fun _ _ _ _ _ _ _ _ _ _ hB => hB, ?_⟩)
    | (refine ⟨_, fun _ _ _ _ _ _ _ _ _ _ _ hB => hB, ?_⟩)
    | (refine ⟨_, fun _ _ _ _ _ _ _ _ _ _ _ _ hB => hB, ?_⟩)
    | (refine ⟨_, fun _ _ _ _ _ _ _ _ _ _ _ _ _ hB => hB, ?_⟩)
    | (refine ⟨_, fun _ _ _ _ _ _ _ _ _ _ _ _ _ _ hB => hB, ?_⟩)
    | (refine ⟨_, fun _ _ _ _ _ _ _ _ _ _ _ _ _ _ _ hB => hB, ?_⟩)
    | (refine ⟨?_, ?_⟩)
    | (intro x hx; subst hx)
    | (intro hc)
    | (dsimp only))
  all_goals first
    | exact vBarg_n (by intro h; have := Tf_lo h.2.2.2.1; unfold BgOK at h; simp_all)
    | exact vBarg_y (by unfold BgOK; simp_all)
    | exact vBarg_n (by intro h; have := Tf_lo h.2.2.2.1; unfold BgOK at h; grind)
    | exact vBarg_y (by unfold BgOK; grind)
    | exact absurd ‹(24 : Int32) ≤ SO 1› (by show ¬ (24 : Int32) ≤ 0; decide)
set_option maxHeartbeats 1000000 in
theorem q_X7_report (p0 p1 p2 p3 p4 : Int32) : wp_X7_report 600 0 IO JO SO LO p0 p1 p2 p3 p4 (fun r _ _ _ _ => r = 0) := by
  unfold wp_X7_report
  intro x hx
  have hx : x = 0 := hx
  subst hx
  refine ⟨_, fun _ _ _ _ hB => hB, fun hc => absurd hc (by decide), fun _ => ?_⟩
  unfold wp_X7_reportFits
  refine s_X7_isWork (fun hw => ?_) (fun hw => ?_)
  · refine ⟨_, fun _ _ _ _ hB => hB, fun hc => absurd hc (by decide), fun _ => ⟨W12_in hw, fun _ => ?_, fun hc => absurd rfl hc⟩⟩
    exact ⟨fun hc => absurd rfl hc, fun _ => rfl⟩
  · refine ⟨_, fun _ _ _ _ hB => hB, fun _ => ?_, fun hc => absurd rfl hc⟩
    exact ⟨fun hc => absurd rfl hc, fun _ => rfl⟩
noncomputable def vTear (p0 : Int32) : Int32 := @ite _ (¬ p0 < -1 ∧ ¬ (12 : Int32) < p0) (Classical.propDecidable _) 1 0
theorem vTear_y {p0 : Int32} (h : ¬ p0 < -1 ∧ ¬ (12 : Int32) < p0) : (1 : Int32) = vTear p0 := by unfold vTear; rw [if_pos h]
theorem vTear_n {p0 : Int32} (h : ¬ (¬ p0 < -1 ∧ ¬ (12 : Int32) < p0)) : (0 : Int32) = vTear p0 := by unfold vTear; rw [if_neg h]
theorem q_X7_tear (p0 : Int32) : wp_X7_tear 600 0 IO JO SO LO p0 (fun r _ _ _ _ => r = vTear p0) := by
  unfold wp_X7_tear
  intro x hx
  have hx : x = 0 := hx
  subst hx
  repeat' (first
    | (intro hc; exact absurd hc (by decide))
    | (refine ⟨_, fun _ _ _ _ hB => hB, ?_⟩)
    | (refine ⟨_, fun _ _ _ _ _ hB => hB, ?_⟩)
    | (refine ⟨_, fun _ _ _ _ _ _ hB => hB, ?_⟩)
    | (refine ⟨_, fun _ _ _ _ _ _ _ hB => hB, ?_⟩)
    | (refine ⟨_, fun _ _ _ _ _ _ _ _ hB => hB, ?_⟩)
    | (refine ⟨_, fun _ _ _ _ _ _ _ _ _ hB => hB, ?_⟩)
    | (refine ⟨_, fun _ _ _ _ _ _ _ _ _ _ hB => hB, ?_⟩)
    | (refine ⟨_, fun _ _ _ _ _ _ _ _ _ _ _ hB => hB, ?_⟩)
    | (refine ⟨_, fun _ _ _ _ _ _ _ _ _ _ _ _ hB => hB, ?_⟩)
    | (refine ⟨_, fun _ _ _ _ _ _ _ _ _ _ _ _ _ hB => hB, ?_⟩)
    | (refine ⟨_, fun _ _ _ _ _ _ _ _ _ _ _ _ _ _ hB => hB, ?_⟩)
    | (refine ⟨_, fun _ _ _ _ _ _ _ _ _ _ _ _ _ _ _ hB => hB, ?_⟩)
    | (unfold wp_X4_tearAt_O wp_X4_tearAt; refine ⟨by unfold vp_in; decide, fun _ _ => ?_⟩)
    | (refine ⟨?_, ?_⟩)
    | (intro x hx; subst hx)
    | (intro hc)
    | (dsimp only))
  all_goals first
    | exact vTear_n (fun h => h.1 ‹_›)
    | exact vTear_n (fun h => h.2 ‹_›)
    | exact vTear_y ⟨‹_›, ‹_›⟩
    | exact vTear_y (by simp_all)
    | exact vTear_n (by simp_all)
theorem q_X7_close : wp_X7_close 600 0 IO JO SO LO (fun r _ _ _ _ => r = 0) := by
  unfold wp_X7_close
  intro x hx
  have hx : x = 0 := hx
  subst hx
  refine ⟨fun _ => ?_, fun hc => absurd (by decide) hc⟩
  unfold wp_X2_reckonTo_O wp_X2_reckonTo
  intro x1 e1 x2 e2
  have e1 : x1 = 1 := by rw [e1]; decide
  have e2 : x2 = 0 := e2
  refine ⟨fun n I' J' S' L' a b => I' = IO ∧ J' = JO ∧ L' = LO ∧ a = 1 ∧ ((n = 1 ∧ S' = SO ∧ b = 0) ∨ (n = 0 ∧ S' = va_up SO 3 1 ∧ b = 1)), ⟨1, rfl, rfl, rfl, e1, Or.inl ⟨rfl, rfl, e2⟩⟩, ?_⟩
  rintro n I' J' S' L' a b ⟨rfl, rfl, rfl, rfl, (⟨rfl, rfl, rfl⟩ | ⟨rfl, rfl, rfl⟩)⟩
  · refine ⟨fun hc => absurd hc (by decide), fun _ => ?_⟩
    refine s_takeSentOf0 (by show (0 : Int32) ≤ 0; decide) ?_
    refine q_closeTerm ?_
    intro x ex
    exact ⟨0, by omega, rfl, rfl, rfl, rfl, Or.inr ⟨rfl, rfl, by rw [ex]; decide⟩⟩
  · refine ⟨fun _ => ?_, fun hc => absurd (by decide) hc⟩
    exact s_takeSentOf0 (by show (0 : Int32) ≤ 0; decide) rfl
theorem q_isClosed {p0 : Int32} {Φ : Int32 → TI → TJ → TS → TL → Prop} (hf : Φ 0 IO JO SO LO) : wp_X7_isClosed 600 0 IO JO SO LO p0 Φ := by
  unfold wp_X7_isClosed
  refine ⟨_, fun _ _ _ _ _ hB => hB, _, fun _ _ _ _ hB => hB, fun _ => ⟨Or.inl rfl, hf⟩, fun h0 => ⟨fun _ => ⟨Or.inl rfl, hf⟩, fun hc => absurd (Int32.not_lt.mp h0) hc⟩⟩
theorem q_X7_due (p0 p1 : Int32) : wp_X7_due 600 0 IO JO SO LO p0 p1 (fun r _ _ _ _ => r = -1) := by
  unfold wp_X7_due
  repeat' (first
    | (intro hc; exact absurd hc (by decide))
    | (refine s_X7_isHand ?_ ?_)
    | (refine q_isClosed ?_)
    | (refine ⟨_, fun _ _ _ _ hB => hB, ?_⟩)
    | (refine ⟨_, fun _ _ _ _ _ hB => hB, ?_⟩)
    | (refine ⟨_, fun _ _ _ _ _ _ hB => hB, ?_⟩)
    | (refine ⟨_, fun _ _ _ _ _ _ _ hB => hB, ?_⟩)
    | (refine ⟨_, fun _ _ _ _ _ _ _ _ hB => hB, ?_⟩)
    | (refine ⟨_, fun _ _ _ _ _ _ _ _ _ hB => hB, ?_⟩)
    | (refine ⟨_, fun _ _ _ _ _ _ _ _ _ _ hB => hB, ?_⟩)
    | (refine ⟨_, fun _ _ _ _ _ _ _ _ _ _ _ hB => hB, ?_⟩)
    | (refine ⟨_, fun _ _ _ _ _ _ _ _ _ _ _ _ hB => hB, ?_⟩)
    | (refine ⟨_, fun _ _ _ _ _ _ _ _ _ _ _ _ _ hB => hB, ?_⟩)
    | (refine ⟨_, fun _ _ _ _ _ _ _ _ _ _ _ _ _ _ hB => hB, ?_⟩)
    | (refine ⟨_, fun _ _ _ _ _ _ _ _ _ _ _ _ _ _ _ hB => hB, ?_⟩)
    | (refine ⟨?_, ?_⟩)
    | (intro x hx; subst hx)
    | (intro hc)
    | (dsimp only))
  all_goals first
    | rfl
theorem q_X7_has (p0 p1 : Int32) : wp_X7_has 600 0 IO JO SO LO p0 p1 (fun r _ _ _ _ => r = -1) := by
  unfold wp_X7_has
  exact ⟨_, fun _ _ _ _ hB => hB, fun _ => rfl, fun h0 => ⟨fun hc => absurd hc h0, fun _ => rfl⟩⟩
theorem q_X7_mend (p0 p1 p2 p3 p4 p5 : Int32) : wp_X7_mend 600 0 IO JO SO LO p0 p1 p2 p3 p4 p5 (fun r _ _ _ _ => r = 0) := by
  unfold wp_X7_mend
  refine q_isClosed ?_
  exact ⟨_, fun _ _ _ _ hB => hB, fun _ => rfl, fun hc => absurd rfl hc⟩
theorem q_X7_line (p0 p1 : Int32) : wp_X7_line 600 0 IO JO SO LO p0 p1 (fun r _ _ _ _ => r = -1) := by
  unfold wp_X7_line
  refine ⟨_, fun _ _ _ _ hB => hB, fun _ => rfl, fun h0 => ?_⟩
  unfold wp_X3_kept_O wp_X3_kept
  intro x hx
  have hx : x = 0 := by rw [hx]; decide
  subst hx
  exact ⟨fun hc => absurd hc h0, fun _ => rfl⟩
noncomputable def vHand (p0 p1 : Int32) : Int64 := @ite _ (W12 p0 ∧ ¬ ∀ k, k < 5 → ¬ p1 = nI k) (Classical.propDecidable _) 0 (-1)
theorem vHand_y {p0 p1 : Int32} (h : W12 p0) {k : Nat} (hk : k < 5) (e : p1 = nI k) : (0 : Int64) = vHand p0 p1 := by unfold vHand; rw [if_pos ⟨h, fun h2 => h2 k hk e⟩]
theorem vHand_n {p0 p1 : Int32} (h : ¬ (W12 p0 ∧ ¬ ∀ k, k < 5 → ¬ p1 = nI k)) : (-1 : Int64) = vHand p0 p1 := by unfold vHand; rw [if_neg h]
theorem q_X7_hand (p0 p1 : Int32) : wp_X7_hand 600 0 IO JO SO LO p0 p1 (fun r _ _ _ _ => r = vHand p0 p1) := by
  unfold wp_X7_hand
  refine s_X7_isHand (fun hw => ⟨fun _ => ?_, fun hc => absurd hc (by decide)⟩) (fun hw => ⟨fun hc => absurd rfl hc, fun _ => vHand_n (fun h => hw h.1)⟩)
  refine ⟨fun e => ⟨W12_in hw, vHand_y hw (k := 0) (by omega) e⟩, fun e => ⟨W12_in hw, vHand_y hw (k := 1) (by omega) e⟩, fun e => ?_, fun e => ⟨W12_in hw, vHand_y hw (k := 3) (by omega) e⟩, fun e => ?_, fun e => vHand_n (fun h => h.2 e)⟩
  · unfold wp_X2_allDues_O wp_X2_allDues
    exact s_duesOf0 rfl (vHand_y hw (k := 2) (by omega) e)
  · refine s_reckonTo0_Op rfl rfl (by show (0 : Int32) ≤ 0; decide) ?_
    exact q_owedTo hw (vHand_y hw (k := 4) (by omega) e)
theorem q_X7_owe : wp_X7_owe 600 0 IO JO SO LO (fun r _ _ _ _ => r = 0) := by
  unfold wp_X7_owe
  refine s_reckonTo0_Op rfl rfl (by show (0 : Int32) ≤ 0; decide) ?_
  refine ⟨fun n I' J' S' L' y x => I' = IO ∧ J' = JO ∧ S' = SO ∧ L' = LO ∧ y = 0 ∧ ∃ k, k ≤ 12 ∧ x = nI k ∧ n = 12 - k, ⟨12, rfl, rfl, rfl, rfl, rfl, 0, by omega, rfl, rfl⟩, ?_⟩
  rintro n I' J' S' L' y x ⟨rfl, rfl, rfl, rfl, rfl, k, hk, rfl, rfl⟩
  refine ⟨fun _ => rfl, fun hc => ?_⟩
  have hk2 : k < 12 := nI_nleN (by omega) hk hc
  refine q_owedTo (W12_nI hk2) ?_
  intro y ey x ex
  exact ⟨12 - (k + 1), by omega, rfl, rfl, rfl, rfl, by rw [ey]; decide, k + 1, by omega, by rw [ex]; exact nI_1 k, rfl⟩
theorem q_becomeLike_O {Φ : TI → TJ → TS → TL → Prop} (hf : ∀ (I : TI) (J : TJ) (S : TS) (L : TL), Φ I J S L) : wp_X2_becomeLike_O 600 0 IO JO SO LO Φ := by
  unfold wp_X2_becomeLike_O wp_X2_becomeLike
  refine ⟨fun n I' J' S' L' x => I' = IO ∧ J' = JO ∧ S' = SO ∧ L' = LO ∧ ∃ k, k ≤ 12 ∧ x = nI k ∧ n = 12 - k, ⟨12, rfl, rfl, rfl, rfl, 0, by omega, rfl, rfl⟩, ?_⟩
  rintro n I' J' S' L' x ⟨rfl, rfl, rfl, rfl, k, hk, rfl, rfl⟩
  refine ⟨fun _ => fun J1 _ J2 _ J3 _ L1 _ => hf _ _ _ _, fun hc => ?_⟩
  have hk2 : k < 12 := nI_nleN (by omega) hk hc
  have hw := W12_nI hk2
  have hi : vp_in (nI k) 12 := W12_in hw
  refine s_worth0_p hw rfl rfl rfl ?_
  refine s_worth0 hw rfl rfl rfl ?_
  intro y ey
  have ey : y = 0 := by rw [ey]; decide
  subst ey
  refine ⟨hi, hi, hi, hi, fun J1 e1 => ?_⟩
  have e1 : J1 = JO := by rw [e1]; exact upJ_same (by show (0 : Int64) + (0 + 0 - 0) = 0; decide)
  subst e1
  refine ⟨hi, hi, fun J1 e1 => ?_⟩
  have e1 : J1 = JO := by rw [e1]; exact upJ_same rfl
  subst e1
  refine ⟨hi, hi, fun J1 e1 => ?_⟩
  have e1 : J1 = JO := by rw [e1]; exact upJ_same rfl
  subst e1
  intro x ex
  exact ⟨12 - (k + 1), by omega, rfl, rfl, rfl, rfl, k + 1, by omega, by rw [ex]; exact nI_1 k, rfl⟩
theorem q_X7_settle : wp_X7_settle 600 0 IO JO SO LO (fun r _ _ _ _ => r = 0) := by
  unfold wp_X7_settle
  refine s_reckonTo0_Op rfl rfl (by show (0 : Int32) ≤ 0; decide) ?_
  refine ⟨fun n I' J' S' L' y x => I' = IO ∧ J' = JO ∧ S' = SO ∧ L' = LO ∧ y = 0 ∧ ∃ k, k ≤ 12 ∧ x = nI k ∧ n = 12 - k, ⟨12, rfl, rfl, rfl, rfl, rfl, 0, by omega, rfl, rfl⟩, ?_⟩
  rintro n I' J' S' L' y x ⟨rfl, rfl, rfl, rfl, rfl, k, hk, rfl, rfl⟩
  refine ⟨fun _ => q_becomeLike_O (fun _ _ _ _ => fun S1 _ => rfl), fun hc => ?_⟩
  have hk2 : k < 12 := nI_nleN (by omega) hk hc
  refine q_owedTo (W12_nI hk2) ?_
  refine ⟨_, fun _ _ _ _ _ _ hB => hB, fun _ => ?_, fun hc => absurd lg0 hc⟩
  intro x ex
  exact ⟨12 - (k + 1), by omega, rfl, rfl, rfl, rfl, rfl, k + 1, by omega, by rw [ex]; exact nI_1 k, rfl⟩
noncomputable def vSent (p0 p1 : Int32) : Int64 := @ite _ (W12 p0 ∧ Sm p1) (Classical.propDecidable _) (p1.toInt64 * 1000000) (-1)
theorem vSent_y {p0 p1 : Int32} (h : W12 p0 ∧ Sm p1) : p1.toInt64 * 1000000 = vSent p0 p1 := by unfold vSent; rw [if_pos h]
theorem vSent_n {p0 p1 : Int32} (h : ¬ (W12 p0 ∧ Sm p1)) : (-1 : Int64) = vSent p0 p1 := by unfold vSent; rw [if_neg h]
theorem s_takeSent0 {n0 n1 : Nat} {I : TI} {J : TJ} {S : TS} {L : TL} {p0 : Int32} {p1 : Int64} {Φ : TI → TJ → TS → TL → Prop} (hw : W12 p0) (h3 : S 3 = 0) (hf : ∀ J' : TJ, Φ I J' S (va_up L 2 p1)) : wp_X2_takeSent n0 n1 I J S L p0 p1 Φ := by
  unfold wp_X2_takeSent
  refine ⟨fun n I' J' S' L' y x => I' = I ∧ J' = J ∧ S' = S ∧ L' = L ∧ y = p1 ∧ x = 0, ⟨0, rfl, rfl, rfl, rfl, rfl, rfl⟩, ?_⟩
  rintro n I' J' S' L' y x ⟨rfl, rfl, rfl, rfl, rfl, rfl⟩
  refine ⟨_, fun _ _ _ _ _ hB => hB, fun _ => ?_, fun hc => absurd (by rw [h3]; decide) hc⟩
  refine ⟨W12_in hw, W12_in hw, fun J1 _ L1 e1 => ?_⟩
  rw [e1]
  exact hf J1
theorem q_X7_sent (p0 p1 : Int32) : wp_X7_sent 600 0 IO JO SO LO p0 p1 (fun r _ _ _ _ => r = vSent p0 p1) := by
  unfold wp_X7_sent
  have hv : vp_in (0 : Int32) 60 := by unfold vp_in; decide
  refine s_X7_isHand (fun hw => ⟨_, fun _ _ _ _ hB => hB, fun hc => absurd hc (by decide), fun _ => ?_⟩) (fun hw => ⟨_, fun _ _ _ _ hB => hB, fun _ => vSent_n (fun h => hw h.1), fun hc => absurd rfl hc⟩)
  refine s_X7_isSum (fun hm => ⟨fun hc => absurd hc (by decide), fun _ => ⟨fun _ => ?_, fun hc => absurd (by show (0 : Int32) < 60; decide) hc⟩⟩) (fun hm => ⟨fun _ => vSent_n (fun h => hm h.2), fun hc => absurd rfl hc⟩)
  intro x hx
  have hx : x = 0 := hx
  subst hx
  unfold wp_X5_add_O wp_X5_add
  refine ⟨hv, fun I1 e1 => ⟨hv, fun I2 e2 => ⟨hv, fun I3 e3 => fun S1 eS L1 eL => ?_⟩⟩⟩
  try dsimp only
  have a1 : I3 22 0 = p0 := by rw [e3, e2, e1]; rfl
  have a2 : I3 23 0 = p1 := by rw [e3, e2]; rfl
  have a3 : I3 24 0 = 0 := by rw [e3]; rfl
  obtain ⟨S2, eS2⟩ : ∃ z : TS, z = va_up S1 0 (SO 0) := ⟨_, rfl⟩
  rw [← eS2]
  have s2 : S2 2 = 1 := by rw [eS2, eS]; decide
  have s3 : S2 3 = 0 := by rw [eS2, eS]; decide
  have s4 : S2 4 = 0 := by rw [eS2, eS]; decide
  unfold wp_X2_reckonTo_O wp_X2_reckonTo
  intro x1 f1 x2 f2
  have f1 : x1 = 0 := by rw [f1]; decide
  rw [s3] at f2
  refine ⟨fun n I' J' S' L' a b => I' = I3 ∧ J' = JO ∧ S' = S2 ∧ L' = L1 ∧ a = 0 ∧ b = 0, ⟨0, rfl, rfl, rfl, rfl, f1, f2⟩, ?_⟩
  rintro n I' J' S' L' a b ⟨rfl, rfl, rfl, rfl, rfl, rfl⟩
  refine ⟨fun _ => ?_, fun hc => absurd (by decide) hc⟩
  unfold wp_X2_takeSentOf
  refine ⟨fun n I5 J5 S5 L5 => (n = 1 ∧ I5 = I' ∧ S5 = S') ∨ (n = 0 ∧ S5 2 ≤ S5 4 ∧ L5 2 = p1.toInt64 * 1000000), ⟨1, Or.inl ⟨rfl, rfl, rfl⟩⟩, ?_⟩
  rintro n I5 J5 S5 L5 (⟨rfl, rfl, rfl⟩ | ⟨rfl, h5, h6⟩)
  · refine ⟨_, fun _ _ _ _ hB => hB, fun hc => absurd hc (by rw [s2, s4]; decide), fun _ => ?_⟩
    rw [s4]
    refine ⟨hv, fun hc => absurd a3 hc, fun _ => ⟨hv, hv, ?_⟩⟩
    have b1 : I5 22 (0 : Int32).toNatClampNeg = p0 := a1
    have b2 : I5 23 (0 : Int32).toNatClampNeg = p1 := a2
    rw [b1, b2]
    refine s_takeSent0 hw s3 (fun J' => ?_)
    intro S6 e6
    exact ⟨0, by omega, Or.inr ⟨rfl, by rw [e6]; show S5 2 ≤ S5 4 + 1; rw [s2, s4]; decide, rfl⟩⟩
  · refine ⟨_, fun _ _ _ _ hB => hB, fun _ => ?_, fun hc => absurd h5 hc⟩
    show L5 2 = vSent p0 p1
    rw [h6]
    exact vSent_y ⟨hw, hm⟩
