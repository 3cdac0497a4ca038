def R2 (cc bb : Nat) (Io : TI) (_ : TJ) (So : TS) (_ : TL) (Im : TI) (_ : TJ) (Sm : TS) (_ : TL) : Prop := InvO cc Io So ∧ InvM cc bb Im Sm ∧ Im 1 = Io 1 ∧ Im 2 = Io 2 ∧ So 1 = nI bb
/-- both sides keep their order, agree on THE TERM, on the sets of SHARES and their DAYS and on the number of BARGAINS -/
def RR (Io : TI) (Jo : TJ) (So : TS) (Lo : TL) (Im : TI) (Jm : TJ) (Sm : TS) (Lm : TL) : Prop := ∃ cc bb : Nat, R2 cc bb Io Jo So Lo Im Jm Sm Lm
theorem fb_ct_0 (p : Nat → Bool) (hp : ∀ w, p w = false) : ∀ n, fb_ct p n = 0
  | 0 => rfl
  | n + 1 => by
    show fb_ct p n + (if p n then 1 else 0) = 0
    rw [fb_ct_0 p hp n, hp n]
    rfl
theorem W12_0 : W12 0 := by unfold W12; decide
theorem InvO_start : InvO 0 IO SO := by
  refine ⟨⟨⟨0, by omega, rfl, fun n hn => absurd hn (by omega)⟩, ⟨fun w _ => ⟨0, by omega, rfl⟩, fun i _ => Or.inr W12_0⟩, ⟨0, by omega, rfl, fun k hk => absurd hk (by omega)⟩, fun t _ => ⟨0, by omega, rfl, fun i hi => absurd hi (by omega)⟩⟩, fun t _ => ?_, by omega, rfl, ⟨0, by omega, rfl⟩, ⟨0, 0, 0, by omega, rfl, by omega, rfl, by omega, rfl⟩, rfl, rfl⟩
  rw [fb_ct_0 _ (fun w => by show decide (¬ (0 : Int32) = 0) = false; decide) 12]
  rfl
theorem InvM_start : InvM 0 0 IM SM := by
  refine ⟨⟨by omega, rfl⟩, ⟨by omega, rfl, fun n hn => absurd hn (by omega)⟩, ⟨fun w _ => ⟨0, by omega, rfl⟩, fun i _ => Or.inr W12_0⟩, fun t _ => ⟨0, by omega, rfl, fun i hi => absurd hi (by omega)⟩, fun t _ => ?_, 0, by omega, rfl, fun k hk => absurd hk (by omega)⟩
  rw [fb_ct_0 _ (fun w => by show decide (¬ (0 : Int32) = 0) = false; decide) 12]
  rfl
theorem rr_start : RR IO JO SO LO IM JM SM LM := ⟨0, 0, InvO_start, InvM_start, rfl, rfl, rfl⟩
theorem ShSpec.fn {c : Nat} {f1 f2 : Nat → Int32} {p0 p1 p2 p3 p4 p5 p6 p7 r r' : Int32} {g1 g2 g1' g2' : Nat → Int32} (a : ShSpec c f1 f2 p0 p1 p2 p3 p4 p5 p6 p7 r g1 g2) (b : ShSpec c f1 f2 p0 p1 p2 p3 p4 p5 p6 p7 r' g1' g2') : r = r' ∧ g1' = g1 ∧ g2' = g2 := by
  rcases a with ⟨ha, a1, a2, a3⟩ | ⟨ha, a1, a2, a3⟩ <;> rcases b with ⟨hb, b1, b2, b3⟩ | ⟨hb, b1, b2, b3⟩
  · exact ⟨a1.trans b1.symm, b2.trans a2.symm, b3.trans a3.symm⟩
  · exact absurd ha hb
  · exact absurd hb ha
  · exact ⟨a1.trans b1.symm, b2.trans a2.symm, b3.trans a3.symm⟩
theorem RSpec.fn {P : Prop} {r r' : Int32} (a : RSpec P r) (b : RSpec P r') : r = r' := by
  rcases a with ⟨ha, a1⟩ | ⟨ha, a1⟩ <;> rcases b with ⟨hb, b1⟩ | ⟨hb, b1⟩
  · exact a1.trans b1.symm
  · exact absurd ha hb
  · exact absurd hb ha
  · exact a1.trans b1.symm
section
variable {cc bb : Nat} {Io Io1 Im Im1 : TI} {Jo Jo1 Jm Jm1 : TJ} {So So1 Sm Sm1 : TS} {Lo Lo1 Lm Lm1 : TL} {r1 r2 p0 p1 p2 p3 p4 p5 p6 p7 : Int32}
theorem re_share (hR : R2 cc bb Io Jo So Lo Im Jm Sm Lm) (h1 : (InvO cc Io1 So1 ∧ So1 1 = So 1) ∧ ShSpec cc (Io 1) (Io 2) p0 p1 p2 p3 p4 p5 p6 p7 r1 (Io1 1) (Io1 2)) (h2 : InvM cc bb Im1 Sm1 ∧ ShSpec cc (Im 1) (Im 2) p0 p1 p2 p3 p4 p5 p6 p7 r2 (Im1 1) (Im1 2)) : r1 = r2 := by
  obtain ⟨-, -, e1, e2, -⟩ := hR
  rw [e1, e2] at h2
  exact (h1.2.fn h2.2).1
theorem rr_share (hR : R2 cc bb Io Jo So Lo Im Jm Sm Lm) (h1 : (InvO cc Io1 So1 ∧ So1 1 = So 1) ∧ ShSpec cc (Io 1) (Io 2) p0 p1 p2 p3 p4 p5 p6 p7 r1 (Io1 1) (Io1 2)) (h2 : InvM cc bb Im1 Sm1 ∧ ShSpec cc (Im 1) (Im 2) p0 p1 p2 p3 p4 p5 p6 p7 r2 (Im1 1) (Im1 2)) : RR Io1 Jo1 So1 Lo1 Im1 Jm1 Sm1 Lm1 := by
  obtain ⟨-, -, e1, e2, e3⟩ := hR
  rw [e1, e2] at h2
  exact ⟨cc, bb, h1.1.1, h2.1, (h1.2.fn h2.2).2.1, (h1.2.fn h2.2).2.2, h1.1.2.trans e3⟩
theorem rr_gen (hR : R2 cc bb Io Jo So Lo Im Jm Sm Lm) (h1 : Same2 Io Io1 So So1) (i1 : InvO cc Io1 So1) (s2 : Sam2 Im Im1) (h2 : InvM cc bb Im1 Sm1) : RR Io1 Jo1 So1 Lo1 Im1 Jm1 Sm1 Lm1 :=
  ⟨cc, bb, i1, h2, by rw [s2.1, h1.1]; exact hR.2.2.1, by rw [s2.2, h1.2.1]; exact hR.2.2.2.1, h1.2.2.trans hR.2.2.2.2⟩
theorem BgS.fn {c b : Nat} {s : Int32} {Q Q' : Prop} (a : BgS c b p0 p1 p2 p3 p4 p5 p6 p7 r1 s) (g : (BgOK c b p0 p1 p2 p3 p4 p5 p6 p7 ∧ r2 = nI b ∧ Q) ∨ (¬ BgOK c b p0 p1 p2 p3 p4 p5 p6 p7 ∧ r2 = -1 ∧ Q')) : r1 = r2 ∧ ((s = nI (b + 1) ∧ Q) ∨ (s = nI b ∧ Q')) := by
  rcases a with ⟨ha, a1, a2⟩ | ⟨ha, a1, a2⟩ <;> rcases g with ⟨hb, b1, b2⟩ | ⟨hb, b1, b2⟩
  · exact ⟨a1.trans b1.symm, Or.inl ⟨a2, b2⟩⟩
  · exact absurd ha hb
  · exact absurd hb ha
  · exact ⟨a1.trans b1.symm, Or.inr ⟨a2, b2⟩⟩
theorem re_bargain (hR : R2 cc bb Io Jo So Lo Im Jm Sm Lm) (h1 : (Io1 1 = Io 1 ∧ Io1 2 = Io 2) ∧ InvO cc Io1 So1 ∧ ∀ b : Nat, b ≤ 24 → So 1 = nI b → BgS cc b p0 p1 p2 p3 p4 p5 p6 p7 r1 (So1 1)) (h2 : Sam2 Im Im1 ∧ ((BgOK cc bb p0 p1 p2 p3 p4 p5 p6 p7 ∧ r2 = nI bb ∧ InvM cc (bb + 1) Im1 Sm1) ∨ (¬ BgOK cc bb p0 p1 p2 p3 p4 p5 p6 p7 ∧ r2 = -1 ∧ InvM cc bb Im1 Sm1))) : r1 = r2 := by
  obtain ⟨-, ⟨-, ⟨hb, -⟩, -⟩, -, -, e3⟩ := hR
  exact ((h1.2.2 bb hb e3).fn h2.2).1
theorem rr_bargain (hR : R2 cc bb Io Jo So Lo Im Jm Sm Lm) (h1 : (Io1 1 = Io 1 ∧ Io1 2 = Io 2) ∧ InvO cc Io1 So1 ∧ ∀ b : Nat, b ≤ 24 → So 1 = nI b → BgS cc b p0 p1 p2 p3 p4 p5 p6 p7 r1 (So1 1)) (h2 : Sam2 Im Im1 ∧ ((BgOK cc bb p0 p1 p2 p3 p4 p5 p6 p7 ∧ r2 = nI bb ∧ InvM cc (bb + 1) Im1 Sm1) ∨ (¬ BgOK cc bb p0 p1 p2 p3 p4 p5 p6 p7 ∧ r2 = -1 ∧ InvM cc bb Im1 Sm1))) : RR Io1 Jo1 So1 Lo1 Im1 Jm1 Sm1 Lm1 := by
  obtain ⟨-, ⟨-, ⟨hb, -⟩, -⟩, e1, e2, e3⟩ := hR
  have q1 : Im1 1 = Io1 1 := by rw [h2.1.1, h1.1.1]; exact e1
  have q2 : Im1 2 = Io1 2 := by rw [h2.1.2, h1.1.2]; exact e2
  rcases ((h1.2.2 bb hb e3).fn h2.2).2 with g | g
  · exact ⟨cc, bb + 1, h1.2.1, g.2, q1, q2, g.1⟩
  · exact ⟨cc, bb, h1.2.1, g.2, q1, q2, g.1⟩
theorem re_report (hR : R2 cc bb Io Jo So Lo Im Jm Sm Lm) (h1 : Same2 Io Io1 So So1 ∧ InvO cc Io1 So1 ∧ RSpec (cc < 40 ∧ RpOK (Io 1) p0 p1 p2 p3 p4) r1) (h2 : Sam2 Im Im1 ∧ InvM cc bb Im1 Sm1 ∧ RSpec (cc < 40 ∧ RpOK (Im 1) p0 p1 p2 p3 p4) r2) : r1 = r2 := by
  rw [hR.2.2.1] at h2
  exact h1.2.2.fn h2.2.2
theorem rr_report (hR : R2 cc bb Io Jo So Lo Im Jm Sm Lm) (h1 : Same2 Io Io1 So So1 ∧ InvO cc Io1 So1 ∧ RSpec (cc < 40 ∧ RpOK (Io 1) p0 p1 p2 p3 p4) r1) (h2 : Sam2 Im Im1 ∧ InvM cc bb Im1 Sm1 ∧ RSpec (cc < 40 ∧ RpOK (Im 1) p0 p1 p2 p3 p4) r2) : RR Io1 Jo1 So1 Lo1 Im1 Jm1 Sm1 Lm1 := rr_gen hR h1.1 h1.2.1 h2.1 h2.2.1
theorem re_mend (hR : R2 cc bb Io Jo So Lo Im Jm Sm Lm) (h1 : Same2 Io Io1 So So1 ∧ InvO cc Io1 So1 ∧ RSpec ((∃ t : Nat, t < cc ∧ p0 = nI t) ∧ RpOK (Io 1) p1 p2 p3 p4 p5) r1) (h2 : Sam2 Im Im1 ∧ InvM cc bb Im1 Sm1 ∧ RSpec ((∃ t : Nat, t < cc ∧ p0 = nI t) ∧ RpOK (Im 1) p1 p2 p3 p4 p5) r2) : r1 = r2 := by
  rw [hR.2.2.1] at h2
  exact h1.2.2.fn h2.2.2
theorem rr_mend (hR : R2 cc bb Io Jo So Lo Im Jm Sm Lm) (h1 : Same2 Io Io1 So So1 ∧ InvO cc Io1 So1 ∧ RSpec ((∃ t : Nat, t < cc ∧ p0 = nI t) ∧ RpOK (Io 1) p1 p2 p3 p4 p5) r1) (h2 : Sam2 Im Im1 ∧ InvM cc bb Im1 Sm1 ∧ RSpec ((∃ t : Nat, t < cc ∧ p0 = nI t) ∧ RpOK (Im 1) p1 p2 p3 p4 p5) r2) : RR Io1 Jo1 So1 Lo1 Im1 Jm1 Sm1 Lm1 := rr_gen hR h1.1 h1.2.1 h2.1 h2.2.1
theorem re_tear (hR : R2 cc bb Io Jo So Lo Im Jm Sm Lm) (h1 : Same2 Io Io1 So So1 ∧ InvO cc Io1 So1 ∧ RSpec (cc < 40 ∧ ¬ p0 < -1 ∧ ¬ (12 : Int32) < p0) r1) (h2 : Sam2 Im Im1 ∧ InvM cc bb Im1 Sm1 ∧ RSpec (cc < 40 ∧ ¬ p0 < -1 ∧ ¬ (12 : Int32) < p0) r2) : r1 = r2 := by
  exact h1.2.2.fn h2.2.2
theorem rr_tear (hR : R2 cc bb Io Jo So Lo Im Jm Sm Lm) (h1 : Same2 Io Io1 So So1 ∧ InvO cc Io1 So1 ∧ RSpec (cc < 40 ∧ ¬ p0 < -1 ∧ ¬ (12 : Int32) < p0) r1) (h2 : Sam2 Im Im1 ∧ InvM cc bb Im1 Sm1 ∧ RSpec (cc < 40 ∧ ¬ p0 < -1 ∧ ¬ (12 : Int32) < p0) r2) : RR Io1 Jo1 So1 Lo1 Im1 Jm1 Sm1 Lm1 := rr_gen hR h1.1 h1.2.1 h2.1 h2.2.1
theorem re_close (hR : R2 cc bb Io Jo So Lo Im Jm Sm Lm) (h1 : Same2 Io Io1 So So1 ∧ ((cc < 40 ∧ r1 = nI cc ∧ InvO (cc + 1) Io1 So1) ∨ (cc = 40 ∧ r1 = -1 ∧ InvO cc Io1 So1))) (h2 : Sam2 Im Im1 ∧ ((cc < 40 ∧ r2 = nI cc ∧ InvM (cc + 1) bb Im1 Sm1) ∨ (cc = 40 ∧ r2 = -1 ∧ InvM cc bb Im1 Sm1))) : r1 = r2 := by
  rcases h1.2 with h | h <;> rcases h2.2 with g | g
  · exact h.2.1.trans g.2.1.symm
  · exact absurd g.1 (by omega)
  · exact absurd g.1 (by omega)
  · exact h.2.1.trans g.2.1.symm
theorem rr_close (hR : R2 cc bb Io Jo So Lo Im Jm Sm Lm) (h1 : Same2 Io Io1 So So1 ∧ ((cc < 40 ∧ r1 = nI cc ∧ InvO (cc + 1) Io1 So1) ∨ (cc = 40 ∧ r1 = -1 ∧ InvO cc Io1 So1))) (h2 : Sam2 Im Im1 ∧ ((cc < 40 ∧ r2 = nI cc ∧ InvM (cc + 1) bb Im1 Sm1) ∨ (cc = 40 ∧ r2 = -1 ∧ InvM cc bb Im1 Sm1))) : RR Io1 Jo1 So1 Lo1 Im1 Jm1 Sm1 Lm1 := by
  obtain ⟨-, -, e1, e2, e3⟩ := hR
  have q1 : Im1 1 = Io1 1 := by rw [h2.1.1, h1.1.1]; exact e1
  have q2 : Im1 2 = Io1 2 := by rw [h2.1.2, h1.1.2.1]; exact e2
  have q3 := h1.1.2.2.trans e3
  rcases h1.2 with h | h <;> rcases h2.2 with g | g
  · exact ⟨cc + 1, bb, h.2.2, g.2.2, q1, q2, q3⟩
  · exact absurd g.1 (by omega)
  · exact absurd g.1 (by omega)
  · exact ⟨cc, bb, h.2.2, g.2.2, q1, q2, q3⟩
theorem rr_sent (hR : R2 cc bb Io Jo So Lo Im Jm Sm Lm) (h1 : Same2 Io Io1 So So1 ∧ InvO cc Io1 So1) (h2 : Sam2 Im Im1 ∧ InvM cc bb Im1 Sm1) : RR Io1 Jo1 So1 Lo1 Im1 Jm1 Sm1 Lm1 := rr_gen hR h1.1 h1.2 h2.1 h2.2
theorem rr_due (hR : R2 cc bb Io Jo So Lo Im Jm Sm Lm) (h1 : Same2 Io Io1 So So1 ∧ InvO cc Io1 So1) (h2 : Sam2 Im Im1 ∧ InvM cc bb Im1 Sm1) : RR Io1 Jo1 So1 Lo1 Im1 Jm1 Sm1 Lm1 := rr_gen hR h1.1 h1.2 h2.1 h2.2
theorem rr_hand (hR : R2 cc bb Io Jo So Lo Im Jm Sm Lm) (h1 : Same2 Io Io1 So So1 ∧ InvO cc Io1 So1) (h2 : Sam2 Im Im1 ∧ InvM cc bb Im1 Sm1) : RR Io1 Jo1 So1 Lo1 Im1 Jm1 Sm1 Lm1 := rr_gen hR h1.1 h1.2 h2.1 h2.2
theorem rr_has (hR : R2 cc bb Io Jo So Lo Im Jm Sm Lm) (h1 : Same2 Io Io1 So So1 ∧ InvO cc Io1 So1) (h2 : Sam2 Im Im1 ∧ InvM cc bb Im1 Sm1) : RR Io1 Jo1 So1 Lo1 Im1 Jm1 Sm1 Lm1 := rr_gen hR h1.1 h1.2 h2.1 h2.2
theorem rr_told (hR : R2 cc bb Io Jo So Lo Im Jm Sm Lm) (h1 : Same2 Io Io1 So So1 ∧ InvO cc Io1 So1) (h2 : Sam2 Im Im1 ∧ InvM cc bb Im1 Sm1) : RR Io1 Jo1 So1 Lo1 Im1 Jm1 Sm1 Lm1 := rr_gen hR h1.1 h1.2 h2.1 h2.2
theorem rr_owe (hR : R2 cc bb Io Jo So Lo Im Jm Sm Lm) (h1 : Same2 Io Io1 So So1 ∧ InvO cc Io1 So1) (h2 : Sam2 Im Im1 ∧ InvM cc bb Im1 Sm1) : RR Io1 Jo1 So1 Lo1 Im1 Jm1 Sm1 Lm1 := rr_gen hR h1.1 h1.2 h2.1 h2.2
theorem rr_settle (hR : R2 cc bb Io Jo So Lo Im Jm Sm Lm) (h1 : Same2 Io Io1 So So1 ∧ InvO cc Io1 So1) (h2 : Sam2 Im Im1 ∧ InvM cc bb Im1 Sm1) : RR Io1 Jo1 So1 Lo1 Im1 Jm1 Sm1 Lm1 := rr_gen hR h1.1 h1.2 h2.1 h2.2
theorem rr_line (hR : R2 cc bb Io Jo So Lo Im Jm Sm Lm) (h1 : Same2 Io Io1 So So1 ∧ InvO cc Io1 So1) (h2 : Sam2 Im Im1 ∧ InvM cc bb Im1 Sm1) : RR Io1 Jo1 So1 Lo1 Im1 Jm1 Sm1 Lm1 := rr_gen hR h1.1 h1.2 h2.1 h2.2
theorem rr_count (hR : R2 cc bb Io Jo So Lo Im Jm Sm Lm) (h1 : Same2 Io Io1 So So1 ∧ InvO cc Io1 So1) (h2 : Sam2 Im Im1 ∧ InvM cc bb Im1 Sm1) : RR Io1 Jo1 So1 Lo1 Im1 Jm1 Sm1 Lm1 := rr_gen hR h1.1 h1.2 h2.1 h2.2
end
