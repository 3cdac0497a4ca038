theorem fb_ct_0 (p : Nat → Bool) (hp : ∀ w, p w = false) : ∀ n, fb_ct p n = 0
  | 0 => rfl
  | n + 1 => by
    show fb_ct p n + (if p n then 1 else 0) = 0
    rw [fb_ct_0 p hp n, hp n]
    rfl
theorem W12_0 : W12 0 := by unfold W12; decide
theorem InvO_start : InvO 0 IO SO := by
  refine ⟨⟨⟨0, by omega, rfl, fun n hn => absurd hn (by omega)⟩, ⟨fun w _ => ⟨0, by omega, rfl⟩, fun i _ => Or.inr W12_0⟩, ⟨0, by omega, rfl, fun k hk => absurd hk (by omega)⟩, fun t _ => ⟨0, by omega, rfl, fun i hi => absurd hi (by omega)⟩⟩, fun t _ => ?_, by omega, rfl, ⟨0, by omega, rfl⟩, ⟨0, 0, 0, by omega, rfl, by omega, rfl, by omega, rfl⟩, rfl, rfl⟩
  rw [fb_ct_0 _ (fun w => by show decide (¬ (0 : Int32) = 0) = false; decide) 12]
  rfl
theorem InvM_start : InvM 0 0 IM SM := by
  refine ⟨⟨by omega, rfl⟩, ⟨by omega, rfl, fun n hn => absurd hn (by omega)⟩, ⟨fun w _ => ⟨0, by omega, rfl⟩, fun i _ => Or.inr W12_0⟩, fun t _ => ⟨0, by omega, rfl, fun i hi => absurd hi (by omega)⟩, fun t _ => ?_, 0, by omega, rfl, fun k hk => absurd hk (by omega)⟩
  rw [fb_ct_0 _ (fun w => by show decide (¬ (0 : Int32) = 0) = false; decide) 12]
  rfl
theorem Z0_ok : ZOK (fun k => IO (pO k), fun k => JO (pO k), 0, LO 3, LO 4, 0) := ⟨fun _ _ _ _ => rfl, fun _ _ => ⟨rfl, rfl, rfl⟩, fun _ _ => ⟨rfl, rfl⟩, fun _ _ => rfl, rfl, rfl⟩
theorem AI_start : AI (-100000000000000000) false 0 0 IO (IO 29) JO := by
  obtain ⟨a1, ⟨b1, b2, b3, b4, b5⟩, a3, a4, a5⟩ := AI_0 (κ := false) (b := 0) (X := IO) (fun n hn => absurd hn (Nat.not_lt_zero _)) (by omega) Z0_ok
  exact ⟨a1, ⟨b1, fun h hh => ⟨by have g : 0 ≤ (JO 26 h).toInt := (b2 h hh).1; omega, (b2 h hh).2⟩, b3, by omega, by omega⟩, a3, a4, a5⟩
theorem i0 : (0 : Int32).toInt = 0 := by decide
theorem BX_start : BX 0 0 0 IO := by
  refine ⟨⟨by omega, fun n hn => absurd hn (Nat.not_lt_zero _), fun n _ _ => ?_⟩, ⟨fun w _ => ⟨0, by omega, rfl⟩, fun i _ => Or.inr ⟨W12_0, ?_, ?_⟩, fun w kk k hw h6 e hk => ?_⟩, ⟨fun i _ => ⟨?_, ?_⟩, fun t _ => ⟨0, by omega, rfl, fun i hi => absurd hi (Nat.not_lt_zero _)⟩⟩, fun t _ => ⟨0, by omega, rfl, fun i hi => absurd hi (Nat.not_lt_zero _), fun w _ h => absurd rfl h⟩, by omega, fun k hk => absurd hk (Nat.not_lt_zero _), fun i j _ h => absurd h (Nat.not_lt_zero _)⟩
  · show ¬ (0 : Int32) = 2
    decide
  · show 0 ≤ (0 : Int32).toInt
    rw [i0]; omega
  · show (0 : Int32).toInt ≤ 1000
    rw [i0]; omega
  · have : 0 = kk := (nI_eq (a := 0) (by omega) (by omega)).mp e
    omega
  · show 0 ≤ (0 : Int32).toInt
    rw [i0]; omega
  · show (0 : Int32).toInt ≤ 1000000
    rw [i0]; omega
theorem FO_start : FO 0 0 0 (fun k => IO (pO k), fun k => JO (pO k), 0, LO 3, LO 4, 0) IO JO SO LO := by
  refine ⟨InvO_start, BX_start, ⟨rfl, rfl, rfl⟩, AI_start, 0, 0, ⟨Z0_ok, rfl, rfl, ⟨fun k hk => absurd hk (Nat.not_lt_zero _), fun i j _ h => absurd h (Nat.not_lt_zero _)⟩, ?_⟩, Nat.zero_le _, Nat.zero_le _, fun i _ _ => Nat.zero_le _⟩
  rw [anT_0 rfl]
  exact ⟨fun k _ _ => ⟨rfl, rfl⟩, rfl, rfl, rfl, rfl⟩
theorem IM_19 {t : Nat} (ht : t < 40) : IM 19 t = 12 := by
  show tornF 40 t = 12
  unfold tornF
  rw [if_pos ht]
theorem FM_start : FM 0 0 0 IO JO SO LO IM JM SM LM := by
  refine ⟨InvM_start, ⟨⟨rfl, rfl, rfl, rfl, rfl, rfl, rfl, rfl⟩, ⟨rfl, rfl, rfl, rfl⟩, ⟨rfl, rfl, rfl, fun i _ => ⟨rfl, rfl, rfl⟩, fun t w ht hw => ?_⟩, ⟨rfl, rfl, rfl⟩⟩, ⟨fun t w _ _ _ => rfl, fun t _ ht => ⟨12, by omega, IM_19 ht, ?_⟩⟩, rfl, ⟨⟨fun h _ => rfl, fun n _ => rfl, fun n _ _ => rfl, fun n t _ _ => rfl⟩, fun h _ => rfl, fun h t _ _ => rfl, fun h _ => ?_⟩, rfl, ⟨0, by omega, rfl, rfl, fun i hi => absurd hi (Nat.not_lt_zero _)⟩, rfl, ?_⟩
  · rw [IM_19 ht]
    refine ⟨fun k => absurd (nI_lt (b := 12) hw (by omega)) k.1, fun k => ?_⟩
    have k := (op_bit hw).mp k
    have e : (IO 20 t).toBitVec.getLsbD w = false := by
      show (0#32).getLsbD w = false
      exact BitVec.getLsbD_zero
    rw [e] at k
    exact absurd k (by decide)
  · show (0 : Int32) = _
    decide +kernel
  · show (0 : Int32).toInt64 = 0
    decide
  · show (0 : Int64) = 0 * 1000000
    decide
theorem rr_start : RR IO JO SO LO IM JM SM LM := ⟨0, 0, 0, _, FO_start, FM_start⟩
section
variable {I I1 Im Im1 : TI} {J J1 Jm Jm1 : TJ} {S S1 Sm Sm1 : TS} {L L1 Lm Lm1 : TL} {c b q : Nat} {Z : TK} {p0 p1 p2 : Int32}
theorem rr_E4 (hR : R2 c b q Z I J S L Im Jm Sm Lm) (h1 : E4 I J S L I1 J1 S1 L1) (h2 : E4 Im Jm Sm Lm Im1 Jm1 Sm1 Lm1) : RR I1 J1 S1 L1 Im1 Jm1 Sm1 Lm1 := by
  obtain ⟨rfl, rfl, rfl, rfl⟩ := h1
  obtain ⟨rfl, rfl, rfl, rfl⟩ := h2
  exact ⟨c, b, q, Z, hR⟩
theorem rr_has (hR : R2 c b q Z I J S L Im Jm Sm Lm) (h1 : E4 I J S L I1 J1 S1 L1) (h2 : E4 Im Jm Sm Lm Im1 Jm1 Sm1 Lm1) : RR I1 J1 S1 L1 Im1 Jm1 Sm1 Lm1 := rr_E4 hR h1 h2
theorem rr_due {r1 r2 : Int32} (hR : R2 c b q Z I J S L Im Jm Sm Lm) (h1 : E4 I J S L I1 J1 S1 L1 ∧ DuS c I p0 p1 r1) (h2 : E4 Im Jm Sm Lm Im1 Jm1 Sm1 Lm1 ∧ DuS c I p0 p1 r2) : RR I1 J1 S1 L1 Im1 Jm1 Sm1 Lm1 := rr_E4 hR h1.1 h2.1
theorem re_due {r1 r2 : Int32} (hR : R2 c b q Z I J S L Im Jm Sm Lm) (h1 : E4 I J S L I1 J1 S1 L1 ∧ DuS c I p0 p1 r1) (h2 : E4 Im Jm Sm Lm Im1 Jm1 Sm1 Lm1 ∧ DuS c I p0 p1 r2) : r1 = r2 := h1.2.fn hR.2.1.1.1 h2.2
theorem rr_told {r1 r2 : Int32} (hR : R2 c b q Z I J S L Im Jm Sm Lm) (h1 : E4 I J S L I1 J1 S1 L1 ∧ TdS c I p0 p1 p2 r1) (h2 : E4 Im Jm Sm Lm Im1 Jm1 Sm1 Lm1 ∧ TdS c I p0 p1 p2 r2) : RR I1 J1 S1 L1 Im1 Jm1 Sm1 Lm1 := rr_E4 hR h1.1 h2.1
theorem re_told {r1 r2 : Int32} (hR : R2 c b q Z I J S L Im Jm Sm Lm) (h1 : E4 I J S L I1 J1 S1 L1 ∧ TdS c I p0 p1 p2 r1) (h2 : E4 Im Jm Sm Lm Im1 Jm1 Sm1 Lm1 ∧ TdS c I p0 p1 p2 r2) : r1 = r2 := h1.2.fn h2.2
theorem rr_line {r1 r2 : Int64} (hR : R2 c b q Z I J S L Im Jm Sm Lm) (h1 : E4 I J S L I1 J1 S1 L1 ∧ LiS (S 5).toNatClampNeg I J p0 p1 r1) (h2 : E4 Im Jm Sm Lm Im1 Jm1 Sm1 Lm1 ∧ LiS (S 5).toNatClampNeg I J p0 p1 r2) : RR I1 J1 S1 L1 Im1 Jm1 Sm1 Lm1 := rr_E4 hR h1.1 h2.1
theorem re_line {r1 r2 : Int64} (hR : R2 c b q Z I J S L Im Jm Sm Lm) (h1 : E4 I J S L I1 J1 S1 L1 ∧ LiS (S 5).toNatClampNeg I J p0 p1 r1) (h2 : E4 Im Jm Sm Lm Im1 Jm1 Sm1 Lm1 ∧ LiS (S 5).toNatClampNeg I J p0 p1 r2) : r1 = r2 := h1.2.fn h2.2
theorem rr_count {r1 r2 : Int64} (hR : R2 c b q Z I J S L Im Jm Sm Lm) (h1 : E4 I J S L I1 J1 S1 L1 ∧ CoS c I J S L p0 r1) (h2 : E4 Im Jm Sm Lm Im1 Jm1 Sm1 Lm1 ∧ CoS c I J S L p0 r2) : RR I1 J1 S1 L1 Im1 Jm1 Sm1 Lm1 := rr_E4 hR h1.1 h2.1
theorem re_count {r1 r2 : Int64} (hR : R2 c b q Z I J S L Im Jm Sm Lm) (h1 : E4 I J S L I1 J1 S1 L1 ∧ CoS c I J S L p0 r1) (h2 : E4 Im Jm Sm Lm Im1 Jm1 Sm1 Lm1 ∧ CoS c I J S L p0 r2) : r1 = r2 := F8.fn h1.2 h2.2
theorem rr_hand {r1 r2 : Int64} (hR : R2 c b q Z I J S L Im Jm Sm Lm) (h1 : SaO Z b q c I J S L I1 J1 S1 L1 ∧ HaS Z b q c I J p0 p1 r1) (h2 : SaM Im Jm Sm Lm Im1 Jm1 Sm1 Lm1 ∧ HaS Z b q c I J p0 p1 r2) : RR I1 J1 S1 L1 Im1 Jm1 Sm1 Lm1 := ⟨c, b, q, Z, h1.1.rr hR h2.1⟩
theorem re_hand {r1 r2 : Int64} (hR : R2 c b q Z I J S L Im Jm Sm Lm) (h1 : SaO Z b q c I J S L I1 J1 S1 L1 ∧ HaS Z b q c I J p0 p1 r1) (h2 : SaM Im Jm Sm Lm Im1 Jm1 Sm1 Lm1 ∧ HaS Z b q c I J p0 p1 r2) : r1 = r2 := h1.2.fn h2.2
theorem rr_owe {r1 r2 : Int64} (hR : R2 c b q Z I J S L Im Jm Sm Lm) (h1 : SaO Z b q c I J S L I1 J1 S1 L1 ∧ r1 = osF (oF Z b q c I J) 12 0 0) (h2 : SaM Im Jm Sm Lm Im1 Jm1 Sm1 Lm1 ∧ r2 = osF (oF Z b q c I J) 12 0 0) : RR I1 J1 S1 L1 Im1 Jm1 Sm1 Lm1 := ⟨c, b, q, Z, h1.1.rr hR h2.1⟩
theorem re_owe {r1 r2 : Int64} (hR : R2 c b q Z I J S L Im Jm Sm Lm) (h1 : SaO Z b q c I J S L I1 J1 S1 L1 ∧ r1 = osF (oF Z b q c I J) 12 0 0) (h2 : SaM Im Jm Sm Lm Im1 Jm1 Sm1 Lm1 ∧ r2 = osF (oF Z b q c I J) 12 0 0) : r1 = r2 := h1.2.trans h2.2.symm
theorem re_settle {r1 r2 : Int32} (hR : R2 c b q Z I J S L Im Jm Sm Lm) (h1 : StO Z b q c I J S L I1 J1 S1 L1 ∧ r1 = ocF (oF Z b q c I J) 12 0 0) (h2 : StM Z b q c I J Im Jm Sm Lm Im1 Jm1 Sm1 Lm1 ∧ r2 = ocF (oF Z b q c I J) 12 0 0) : r1 = r2 := h1.2.trans h2.2.symm
theorem re_sent {r1 r2 : Int64} (hR : R2 c b q Z I J S L Im Jm Sm Lm) (h1 : ((W12 p0 ∧ SumOK p1 ∧ q < 60) ∧ SnO c b q Z p0 p1 I J S L I1 J1 S1 L1 ∧ r1 = (tsF I b c p0 (p1.toInt64 * 1000000) J).2) ∨ (¬ (W12 p0 ∧ SumOK p1 ∧ q < 60) ∧ E4 I J S L I1 J1 S1 L1 ∧ r1 = -1)) (h2 : ((W12 p0 ∧ SumOK p1 ∧ q < 60) ∧ SnM c b q p0 p1 I J Im Jm Sm Lm Im1 Jm1 Sm1 Lm1 ∧ r2 = (tsF I b c p0 (p1.toInt64 * 1000000) J).2) ∨ (¬ (W12 p0 ∧ SumOK p1 ∧ q < 60) ∧ E4 Im Jm Sm Lm Im1 Jm1 Sm1 Lm1 ∧ r2 = -1)) : r1 = r2 := by
  rcases h1 with ⟨ha, -, h1⟩ | ⟨ha, -, h1⟩ <;> rcases h2 with ⟨hb, -, h2⟩ | ⟨hb, -, h2⟩
  · exact h1.trans h2.symm
  · exact absurd ha hb
  · exact absurd hb ha
  · exact h1.trans h2.symm
end
