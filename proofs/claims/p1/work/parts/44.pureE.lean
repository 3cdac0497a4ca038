theorem Tf0 {x y z : Int32} : Tf (nI 0) x y z ↔ P1k x := by unfold Tf; simp [show ¬ nI 0 = nI 1 by decide, show ¬ nI 0 = nI 2 by decide, show ¬ nI 0 = nI 3 by decide, show ¬ nI 0 = nI 4 by decide]
theorem Tf1 {x y z : Int32} : Tf (nI 1) x y z ↔ Sm x := by unfold Tf; simp [show ¬ nI 1 = nI 0 by decide, show ¬ nI 1 = nI 2 by decide, show ¬ nI 1 = nI 3 by decide, show ¬ nI 1 = nI 4 by decide]
theorem Tf2 {x y z : Int32} : Tf (nI 2) x y z ↔ Sm x := by unfold Tf; simp [show ¬ nI 2 = nI 0 by decide, show ¬ nI 2 = nI 1 by decide, show ¬ nI 2 = nI 3 by decide, show ¬ nI 2 = nI 4 by decide]
theorem Tf3 {x y z : Int32} : Tf (nI 3) x y z ↔ (P1k x ∧ Sm y ∧ ¬ z < 0 ∧ ¬ (1000 : Int32) < z) := by unfold Tf; simp [show ¬ nI 3 = nI 0 by decide, show ¬ nI 3 = nI 1 by decide, show ¬ nI 3 = nI 2 by decide, show ¬ nI 3 = nI 4 by decide]
theorem Tf4 {x y z : Int32} : Tf (nI 4) x y z ↔ (P1k x ∧ ¬ y < 1 ∧ ¬ (8 : Int32) < y) := by unfold Tf; simp [show ¬ nI 4 = nI 0 by decide, show ¬ nI 4 = nI 1 by decide, show ¬ nI 4 = nI 2 by decide, show ¬ nI 4 = nI 3 by decide]
theorem Ps0 : Ps (nI 0) := Or.inl rfl
theorem Ps1 : ¬ Ps (nI 1) := by unfold Ps; decide
theorem Ps2 : ¬ Ps (nI 2) := by unfold Ps; decide
theorem Ps3 : Ps (nI 3) := Or.inr rfl
theorem Ps4 : ¬ Ps (nI 4) := by unfold Ps; decide
def Gd (p0 p1 p2 p3 p4 p5 : Int32) : Prop := Tf p0 p2 p3 p4 ∧ (Ps p0 → W12 p5 ∧ ¬ p5 = p1)
section
variable {I : TI} {J : TJ} {S : TS} {L : TL}
set_option maxHeartbeats 2000000 in
theorem s_X8_areGood {p0 p1 p2 p3 p4 p5 : Int32} {Φ : Int32 → TI → TJ → TS → TL → Prop} (h1 : Gd p0 p1 p2 p3 p4 p5 → Φ 1 I J S L) (h2 : ¬ Gd p0 p1 p2 p3 p4 p5 → Φ 0 I J S L) : wp_X8_areGood I J S L p0 p1 p2 p3 p4 p5 Φ := by
  unfold wp_X8_areGood
  unfold Gd at h1 h2
  repeat' (first
    | (intro hc; exact absurd hc (by decide))
    | (refine s_X8_isThousandth ?_ ?_)
    | (refine s_X8_isSum ?_ ?_)
    | (refine s_X8_isHand ?_ ?_)
    | (refine ⟨_, fun _ _ _ _ hB => hB, ?_⟩)
    | (refine ⟨_, fun _ _ _ _ _ hB => hB, ?_⟩)
    | (refine ⟨_, fun _ _ _ _ _ _ hB => hB, ?_⟩)
    | (refine ⟨_, fun _ _ _ _ _ _ _ hB => hB, ?_⟩)
    | (refine ⟨_, fun _ _ _ _ _ _ _ _ hB => hB, ?_⟩)
    | (refine ⟨_, fun _ _ _ _ _ _ _ _ _ hB => hB, ?_⟩)
    | (refine ⟨_, fun _ _ _ _ _ _ _ _ _ _ hB => hB, ?_⟩)
    | (refine ⟨_, fun _ _ _ _ _ _ _ _ _ _ _ hB => hB, ?_⟩)
    | (refine ⟨_, fun _ _ _ _ _ _ _ _ _ _ _ _ hB => hB, ?_⟩)
    | (refine ⟨_, fun _ _ _ _ _ _ _ _ _ _ _ _ _ hB => hB, ?_⟩)
    | (refine ⟨_, fun _ _ _ _ _ _ _ _ _ _ _ _ _ _ hB => hB, ?_⟩)
    | (refine ⟨_, fun _ _ _ _ _ _ _ _ _ _ _ _ _ _ _ hB => hB, ?_⟩)
    | (intro (hc : _ = nI _); subst hc)
    | (refine ⟨?_, ?_⟩)
    | (intro x hx; subst hx)
    | (intro hc)
    | (dsimp only))
  all_goals first
    | exact Or.inl rfl
    | exact Or.inr rfl
    | exact h1 ⟨Tf0.mpr ‹_›, fun _ => ⟨‹_›, ‹_›⟩⟩
    | exact h1 ⟨Tf1.mpr ‹_›, fun h => absurd h Ps1⟩
    | exact h1 ⟨Tf2.mpr ‹_›, fun h => absurd h Ps2⟩
    | exact h1 ⟨Tf3.mpr ⟨‹_›, ‹_›, ‹_›, ‹_›⟩, fun _ => ⟨‹_›, ‹_›⟩⟩
    | exact h1 ⟨Tf4.mpr ⟨‹_›, ‹_›, ‹_›⟩, fun h => absurd h Ps4⟩
    | exact h2 (fun h => absurd (Tf0.mp h.1) ‹_›)
    | exact h2 (fun h => absurd (Tf1.mp h.1) ‹_›)
    | exact h2 (fun h => absurd (Tf2.mp h.1) ‹_›)
    | exact h2 (fun h => absurd (Tf3.mp h.1).1 ‹_›)
    | exact h2 (fun h => absurd (Tf3.mp h.1).2.1 ‹_›)
    | exact h2 (fun h => (Tf3.mp h.1).2.2.1 ‹_›)
    | exact h2 (fun h => (Tf3.mp h.1).2.2.2 ‹_›)
    | exact h2 (fun h => absurd (Tf4.mp h.1).1 ‹_›)
    | exact h2 (fun h => (Tf4.mp h.1).2.1 ‹_›)
    | exact h2 (fun h => (Tf4.mp h.1).2.2 ‹_›)
    | exact h2 (fun h => absurd (h.2 Ps0).1 ‹_›)
    | exact h2 (fun h => (h.2 Ps0).2 ‹_›)
    | exact h2 (fun h => absurd (h.2 Ps3).1 ‹_›)
    | exact h2 (fun h => (h.2 Ps3).2 ‹_›)
    | exact h2 (fun h => by
        have hk : ∀ k : Nat, k < 5 → ¬ p0 = nI k := by assumption
        rcases h.1 with ⟨ha, _⟩ | ⟨ha, _⟩ | ⟨ha, _⟩ | ⟨ha, _⟩ | ⟨ha, _⟩
        · exact hk 0 (by decide) ha
        · exact hk 1 (by decide) ha
        · exact hk 2 (by decide) ha
        · exact hk 3 (by decide) ha
        · exact hk 4 (by decide) ha)
theorem Sh_W {h p : Int32} (hw : W12 h) : Sh h p ↔ P1k p := by
  have hne : ¬ h = -1 := fun e => hw.1 (by rw [e]; decide)
  constructor
  · rintro (⟨ha, _⟩ | ⟨_, _, hp⟩)
    · exact absurd ha hne
    · exact hp
  · intro hp
    exact Or.inr ⟨hne, hw, hp⟩
theorem s_X8_isPartW {p0 p1 : Int32} {Φ : Int32 → TI → TJ → TS → TL → Prop} (hw : W12 p0) (h1 : P1k p1 → Φ 1 I J S L) (h2 : ¬ P1k p1 → Φ 0 I J S L) : wp_X8_isPart I J S L p0 p1 Φ := s_X8_isPart (fun h => h1 ((Sh_W hw).mp h)) (fun h => h2 (fun h' => h ((Sh_W hw).mpr h')))
end
theorem mIn72 {p0 : Int32} (hw : W12 p0) : vp_in ((6 : Int32) * p0 + IM 1 p0.toNatClampNeg) 72 := by
  obtain ⟨j, hj, rfl⟩ := W12_cases hw
  have e : (6 : Int32) * nI j + IM 1 (nI j).toNatClampNeg = nI (6 * j) := by
    show nI 6 * nI j + nI 0 = _
    rw [pk_mul, nI_add, Nat.add_zero]
  rw [e]
  exact vp_in_nI (by omega) (by omega)
theorem mIn216 {p0 : Int32} (k : Nat) (hk : k < 3) (hw : W12 p0) : vp_in ((3 : Int32) * ((6 : Int32) * p0 + IM 1 p0.toNatClampNeg) + nI k) 216 := by
  obtain ⟨j, hj, rfl⟩ := W12_cases hw
  have e : (3 : Int32) * ((6 : Int32) * nI j + IM 1 (nI j).toNatClampNeg) + nI k = nI (3 * (6 * j) + k) := by
    show nI 3 * (nI 6 * nI j + nI 0) + nI k = _
    rw [pk_mul, nI_add, Nat.add_zero, pk_mul, nI_add]
  rw [e]
  exact vp_in_nI (by omega) (by omega)
theorem mIn216z {p0 : Int32} (hw : W12 p0) : vp_in ((3 : Int32) * ((6 : Int32) * p0 + IM 1 p0.toNatClampNeg)) 216 := by
  obtain ⟨j, hj, rfl⟩ := W12_cases hw
  have e : (3 : Int32) * ((6 : Int32) * nI j + IM 1 (nI j).toNatClampNeg) = nI (3 * (6 * j)) := by
    show nI 3 * (nI 6 * nI j + nI 0) = _
    rw [pk_mul, nI_add, Nat.add_zero, pk_mul]
  rw [e]
  exact vp_in_nI (by omega) (by omega)
set_option maxHeartbeats 1000000 in
theorem q_X8_share (p0 p1 p2 p3 p4 p5 p6 p7 : Int32) : wp_X8_share IM JM SM LM p0 p1 p2 p3 p4 p5 p6 p7 (fun r _ _ _ _ => r = vShare p0 p1 p2 p3 p4 p5 p6 p7) := by
  unfold wp_X8_share
  refine s_X8_isWork (fun hw => ?_) (fun hw => ⟨_, fun _ _ _ _ hB => hB, fun _ => vShare_n (fun h => hw h.1), fun hc => absurd rfl hc⟩)
  refine ⟨_, fun _ _ _ _ hB => hB, fun hc => absurd hc (by decide), fun _ => ?_⟩
  refine s_X8_isHand (fun ha => ⟨fun hc => absurd hc (by decide), fun _ => ?_⟩) (fun ha => ⟨fun _ => vShare_n (fun h => ha h.2.2.1), fun hc => absurd rfl hc⟩)
  refine s_X8_isPartW ha (fun hpa => ⟨fun hc => absurd hc (by decide), fun _ => ?_⟩) (fun hpa => ⟨fun _ => vShare_n (fun h => hpa h.2.2.2.1), fun hc => absurd rfl hc⟩)
  refine s_X8_isPart (fun hb => ⟨fun hc => absurd hc (by decide), fun _ => ?_⟩) (fun hb => ⟨fun _ => vShare_n (fun h => hb h.2.2.2.2.1), fun hc => absurd rfl hc⟩)
  refine s_X8_isPart (fun hc3 => ⟨fun hc => absurd hc (by decide), fun _ => ?_⟩) (fun hc3 => ⟨fun _ => vShare_n (fun h => hc3 h.2.2.2.2.2.1), fun hc => absurd rfl hc⟩)
  have hg9 : ∀ k : ShOK p0 p1 p2 p3 p4 p5 p6 p7, ¬ (p4 = -1 ∧ ¬ p6 = -1) := fun k => k.2.2.2.2.2.2.1
  by_cases hg : p4 = -1 ∧ ¬ p6 = -1
  · exact ⟨_, fun _ _ _ _ hB => hB, fun h4 => absurd hg.1 h4, fun h4 => ⟨fun h6 => absurd h6 hg.2, fun h6 => vShare_n (fun k => hg9 k hg)⟩⟩
  have main : ∀ (P : Prop), P → ((¬ p4 = -1 → P) ∧ (p4 = -1 → ((p6 = -1 → P) ∧ (¬ p6 = -1 → ((-1 : Int32) = vShare p0 p1 p2 p3 p4 p5 p6 p7))))) := fun P hP => ⟨fun _ => hP, fun h4 => ⟨fun _ => hP, fun h6 => absurd ⟨h4, h6⟩ hg⟩⟩
  refine ⟨_, fun _ _ _ _ hB => hB, main _ ?_⟩
  refine ⟨_, fun _ _ _ _ hB => hB, fun h => vShare_n (fun k => k.2.2.2.2.2.2.2.1 h), fun h24 => ⟨fun h => vShare_n (fun k => k.2.2.2.2.2.2.2.2.1 h), fun h26 => ?_⟩⟩
  by_cases hal : ¬ p4 = -1 ∧ p4 = p6
  · exact ⟨_, fun _ _ _ _ hB => hB, fun h => absurd hal.2 h, fun _ => ⟨fun _ => vShare_n (fun k => k.2.2.2.2.2.2.2.2.2.1 hal), fun h => absurd h hal.1⟩⟩
  have main2 : ∀ (P : Prop), P → ((¬ p4 = p6 → P) ∧ (p4 = p6 → ((¬ p4 = -1 → ((-1 : Int32) = vShare p0 p1 p2 p3 p4 p5 p6 p7)) ∧ (p4 = -1 → P)))) := fun P hP => ⟨fun _ => hP, fun h46 => ⟨fun h4 => absurd ⟨h4, h46⟩ hal, fun _ => hP⟩⟩
  refine ⟨_, fun _ _ _ _ hB => hB, main2 _ ?_⟩
  refine ⟨fun hs => vShare_n (fun k => hs k.2.2.2.2.2.2.2.2.2.2), fun hs => ?_⟩
  refine q_isDay (fun hd => ⟨fun _ => ?_, fun hc => absurd hc (by decide)⟩) (fun hd => ⟨fun hc => absurd rfl hc, fun _ => vShare_n (fun k => hd k.2.1)⟩)
  refine ⟨W12_in hw, fun x hx => ?_⟩
  have hx : x = 0 := hx
  subst hx
  refine ⟨_, fun _ _ _ _ hB => hB, fun hc => absurd hc (by decide), fun _ => ?_⟩
  refine ⟨_, fun _ _ _ _ _ hB => hB, fun _ => ?_, fun hc => absurd (by decide) hc⟩
  intro y hy
  have hOK : (0 : Int32) + 1 = vShare p0 p1 p2 p3 p4 p5 p6 p7 := (show (0 : Int32) + 1 = 1 from rfl).trans (vShare_y ⟨hw, hd, ha, hpa, hb, hc3, hg, h24, h26, hal, hs⟩)
  have hi0 := W12_in hw
  obtain ⟨j, hj, ej⟩ := W12_cases hw
  have ey : y = nI (6 * j) := by
    rw [hy, ej, show (6 : Int32) = nI 6 from rfl, show (0 : Int32) = nI 0 from rfl, pk_mul, nI_add, Nat.add_zero]
  have e0 : (3 : Int32) * y = nI (3 * (6 * j)) := by rw [ey, show (3 : Int32) = nI 3 from rfl, pk_mul]
  have h0 : vp_in ((3 : Int32) * y) 216 := by rw [e0]; exact vp_in_nI (by omega) (by omega)
  have h1 : vp_in ((3 : Int32) * y + 1) 216 := by rw [e0, nI_1]; exact vp_in_nI (by omega) (by omega)
  have h2 : vp_in ((3 : Int32) * y + 2) 216 := by rw [e0, show (2 : Int32) = nI 2 from rfl, nI_add]; exact vp_in_nI (by omega) (by omega)
  have h72 : vp_in y 72 := by rw [ey]; exact vp_in_nI (by omega) (by omega)
  exact ⟨h72, fun _ _ => ⟨h0, fun _ _ => ⟨h1, fun _ _ => ⟨h2, fun _ _ => ⟨h0, fun _ _ => ⟨h1, fun _ _ => ⟨h2, fun _ _ => ⟨hi0, fun _ _ => hOK⟩⟩⟩⟩⟩⟩⟩⟩
set_option maxHeartbeats 4000000 in
theorem q_X8_bargain (p0 p1 p2 p3 p4 p5 p6 p7 : Int32) : wp_X8_bargain IM JM SM LM p0 p1 p2 p3 p4 p5 p6 p7 (fun r _ _ _ _ => r = vBarg p0 p1 p2 p3 p4 p5 p6 p7) := by
  unfold wp_X8_bargain
  have hv : vp_in (SM 1) 24 := by unfold vp_in; show ¬ ((0 : Int32) < 0 ∨ 24 ≤ (0 : Int32).toNatClampNeg); decide
  repeat' (first
    | (intro hc; exact absurd hc (by decide))
    | (refine q_isDay ?_ ?_)
    | (refine s_X8_areGood ?_ ?_)
    | (refine s_X8_isHand ?_ ?_)
    | (refine ⟨_, fun _ _ _ _ hB => hB, ?_⟩)
    | (refine ⟨_, fun _ _ _ _ _ hB => hB, ?_⟩)
    | (refine ⟨_, fun _ _ _ _ _ _ hB => hB, ?_⟩)
    | (refine ⟨_, fun _ _ _ _ _ _ _ hB => hB, ?_⟩)
    | (refine ⟨_, fun _ _ _ _ _ _ _ _ hB => hB, ?_⟩)
    | (refine ⟨_, fun _ _ _ _ _ _ _ _ _ hB => hB, ?_⟩)
    | (refine ⟨_, fun _ _ _ _ _ _ _ _ _ _ hB => hB, ?_⟩)
    | (refine ⟨_, fun _ _ _ _ _ _ _ _ _ _ _ hB => hB, ?_⟩)
    | (refine ⟨_, fun _ _ _ _ _ _ _ _ _ _ _ _ hB => hB, ?_⟩)
    | (refine ⟨_, fun _ _ _ _ _ _ _ _ _ _ _ _ _ hB => hB, ?_⟩)
    | (refine ⟨_, fun _ _ _ _ _ _ _ _ _ _ _ _ _ _ hB => hB, ?_⟩)
    | (refine ⟨_, fun _ _ _ _ _ _ _ _ _ _ _ _ _ _ _ hB => hB, ?_⟩)
    | (exact hv)
    | (intro (x : TI) _)
    | (intro (x : TS) _)
    | (intro (hc : SM 1 = 24); exact absurd hc (by show ¬ (0 : Int32) = 24; decide))
    | (refine ⟨?_, ?_⟩)
    | (intro x hx; subst hx)
    | (intro hc)
    | (dsimp only))
  all_goals first
    | exact hv
    | exact (show SM 1 = 0 from rfl).trans (vBarg_y (by have := ‹Gd _ _ _ _ _ _›; unfold Gd at this; unfold BgOK; simp_all))
    | exact vBarg_n (by intro h; unfold BgOK at h; simp_all [Gd])
    | exact vBarg_n (by intro h; unfold BgOK at h; grind [Gd])
theorem q_isReport {p0 p1 p2 p3 p4 : Int32} {Φ : Int32 → TI → TJ → TS → TL → Prop} (hf : Φ 0 IM JM SM LM) : wp_X8_isReport IM JM SM LM p0 p1 p2 p3 p4 Φ := by
  unfold wp_X8_isReport
  refine s_X8_isWork (fun hw => ?_) (fun hw => ?_)
  · refine ⟨_, fun _ _ _ _ _ hB => hB, _, fun _ _ _ _ hB => hB, fun hc => absurd hc (by decide), fun _ => ⟨W12_in hw, fun _ => ⟨Or.inl rfl, hf⟩, fun hc => absurd (by show (0 : Int32) ≤ 0; decide) hc⟩⟩
  · exact ⟨_, fun _ _ _ _ _ hB => hB, _, fun _ _ _ _ hB => hB, fun _ => ⟨Or.inl rfl, hf⟩, fun hc => absurd rfl hc⟩
theorem q_X8_report (p0 p1 p2 p3 p4 : Int32) : wp_X8_report IM JM SM LM p0 p1 p2 p3 p4 (fun r _ _ _ _ => r = 0) := by
  unfold wp_X8_report
  refine ⟨_, fun _ _ _ _ hB => hB, fun _ => rfl, fun _ => ?_⟩
  exact q_isReport ⟨fun hc => absurd rfl hc, fun _ => rfl⟩
theorem q_X8_mend (p0 p1 p2 p3 p4 p5 : Int32) : wp_X8_mend IM JM SM LM p0 p1 p2 p3 p4 p5 (fun r _ _ _ _ => r = 0) := by
  unfold wp_X8_mend
  refine ⟨_, fun _ _ _ _ hB => hB, fun _ => rfl, fun h0 => ⟨fun _ => rfl, fun hc => absurd (Int32.not_lt.mp h0) hc⟩⟩
theorem q_X8_tear (p0 : Int32) : wp_X8_tear IM JM SM LM p0 (fun r _ _ _ _ => r = vTear p0) := by
  unfold wp_X8_tear
  have hv : vp_in (SM 0) 40 := by unfold vp_in; show ¬ ((0 : Int32) < 0 ∨ 40 ≤ (0 : Int32).toNatClampNeg); decide
  refine ⟨_, fun _ _ _ _ hB => hB, fun h => vTear_n (fun h2 => h2.1 h), fun h1 => ⟨fun h => vTear_n (fun h2 => h2.2 h), fun h2 => ⟨fun _ => ?_, fun hc => absurd hc (by show ¬ (0 : Int32) = 40; decide)⟩⟩⟩
  refine ⟨_, fun _ _ _ _ _ _ hB => hB, fun _ => ⟨hv, fun _ _ => vTear_y ⟨h1, h2⟩⟩, fun _ => ⟨hv, fun _ _ => vTear_y ⟨h1, h2⟩⟩⟩
theorem q_X8_due (p0 p1 : Int32) : wp_X8_due IM JM SM LM p0 p1 (fun r _ _ _ _ => r = -1) := by
  unfold wp_X8_due
  refine s_X8_isHand (fun hw => ?_) (fun hw => ?_)
  · refine ⟨_, fun _ _ _ _ _ hB => hB, _, fun _ _ _ _ hB => hB, fun hc => absurd hc (by decide), fun _ => ⟨fun _ => rfl, fun h0 => ⟨fun _ => rfl, fun hc => absurd (Int32.not_lt.mp h0) hc⟩⟩⟩
  · exact ⟨_, fun _ _ _ _ _ hB => hB, _, fun _ _ _ _ hB => hB, fun _ => rfl, fun hc => absurd rfl hc⟩
theorem q_X8_has (p0 p1 : Int32) : wp_X8_has IM JM SM LM p0 p1 (fun r _ _ _ _ => r = -1) := by
  unfold wp_X8_has
  exact ⟨_, fun _ _ _ _ hB => hB, fun _ => rfl, fun h0 => ⟨fun hc => absurd hc h0, fun _ => rfl⟩⟩
theorem q_X8_line (p0 p1 : Int32) : wp_X8_line IM JM SM LM p0 p1 (fun r _ _ _ _ => r = -1) := by
  unfold wp_X8_line
  exact ⟨_, fun _ _ _ _ hB => hB, fun _ => rfl, fun h0 => ⟨fun _ => rfl, fun hc => absurd (Int32.not_lt.mp h0) hc⟩⟩
