theorem wt_lt {i : Nat} (h : i < 2) : 24 * wt (i + 1) < wt i := by
  rcases (show i = 0 ∨ i = 1 by omega) with rfl | rfl <;> decide
theorem wt_pos (i : Nat) : 1 ≤ wt i := by unfold wt; (repeat' split) <;> omega
section
variable {I : TI} {J : TJ} {S : TS} {L : TL}
set_option maxHeartbeats 1000000 in
theorem m_goes {b k l t : Nat} {p2 p3 : Int32} {p4 : Int64} {Φ : TI → TJ → TS → TL → Prop} (hB : MBg b I) (hb : b ≤ 24) (s1 : S 1 = nI b) (hl : l < 2) (ht : t < 40) (hw : W12 p3) (hln : nI l = 0 → ∃ k' : Nat, k' ≤ k ∧ S 3 = nI k') (hk : k + 15626 < 2 ^ 31) (hf : ∀ (I' : TI) (J' : TJ) (S' : TS) (L' : TL), FI I I' → FS S S' → (nI l = 0 → ∃ k' : Nat, k' ≤ k + 15626 ∧ S' 3 = nI k') → Φ I' J' S' L') : wp_X8_goes I J S L (nI l) (nI t) p2 p3 p4 Φ := by
  unfold wp_X8_goes
  intro S1 e1
  have sS : ∀ j, j ≠ 2 → S1 j = S j := fun j hj => by rw [e1, va_up_ne _ _ hj]
  have hl1 : nI l = 0 → ∃ k' : Nat, k' ≤ k ∧ S1 3 = nI k' := fun h => by rw [sS 3 (by omega)]; exact hln h
  refine ⟨fun _ => ?_, fun _ => hf I J S1 L FI.rf (fun j h2 _ => sS j h2) (fun h => by obtain ⟨k', a, b⟩ := hl1 h; exact ⟨k', by omega, b⟩)⟩
  have hv2 : vp_in (nI l) 2 := vp_in_nI hl (by omega)
  refine ⟨hv2, hv2, fun J1 _ => ?_⟩
  refine m_begins (d := 0) (k := k) (by omega) (by rw [e1, va_up_self]; rfl) hl1 (by omega) (fun I2 J2 S2 a1 a2 a3 a4 a5 a6 a7 => ?_)
  obtain ⟨x0, hx0, a4⟩ := a4
  have a30 : I2 30 0 = nI 0 := by rw [a3, pk_us]; decide
  refine ⟨fun n I' J' S' L' => ∃ d, d ≤ 3 ∧ S' 2 = nI d ∧ Stk b d I' ∧ FI I I' ∧ FS S S' ∧ n = mu b (I' 30) d ∧ (nI l = 0 → ∃ k' : Nat, k' + mu b (I' 30) d ≤ k + 15626 ∧ S' 3 = nI k'), ⟨mu b (I2 30) 1, 1, by omega, a6, ?_, a1, FS.tr (fun j h2 _ => sS j h2) a5, rfl, fun h => ?_⟩, ?_⟩
  · intro i hi
    rw [show i = 0 by omega, a2, a4, pk_us, pk_us]
    exact ⟨hw, ⟨0, by omega, a30⟩, hx0⟩
  · obtain ⟨k', hk', ek⟩ := a7 h
    refine ⟨k', ?_, ek⟩
    have hm : mu b (I2 30) 1 ≤ 15625 := by
      rw [mu_succ, a30, clN (by omega)]
      show 0 + wt 0 * (b + 1 - 0) ≤ 15625
      have : wt 0 = 625 := rfl
      rw [this]
      omega
    omega
  rintro n I' J' S' L' ⟨d, hd, s2, hst, hI, hS, rfl, hlk⟩
  have s1' : S' 1 = nI b := (hS 1 (by omega) (by omega)).trans s1
  refine ⟨fun _ => hf I' J' S' L' hI hS (fun h => by obtain ⟨k', a, b⟩ := hlk h; exact ⟨k', by omega, b⟩), fun hd0 => ?_⟩
  obtain ⟨e, rfl⟩ : ∃ e, d = e + 1 := by
    refine ⟨d - 1, ?_⟩
    rcases Nat.eq_zero_or_pos d with g | g
    · rw [g] at s2; rw [s2] at hd0; exact absurd (by decide) hd0
    · omega
  intro x14 ex14
  rw [s2, show (1 : Int32) = nI 1 from rfl, pk_sub (by omega), Nat.add_sub_cancel] at ex14
  subst ex14
  rw [clN (show e < 2 ^ 31 by omega)]
  have hve : vp_in (nI e) 3 := vp_in_nI (by omega) (by omega)
  obtain ⟨w29, ⟨m, hm, em⟩, w31⟩ := hst e (by omega)
  refine ⟨hve, fun x15 ex15 => ?_⟩
  rw [em] at ex15
  subst ex15
  have hmu : mu b (I' 30) (e + 1) = mu b (I' 30) e + wt e * (b + 1 - m) := by rw [mu_succ, em, clN (by omega)]
  have hwp := wt_pos e
  refine ⟨_, fun _ _ _ _ hB => hB, fun I2 J2 S2 L2 x => I2 = I' ∧ S2 = S' ∧ x = nI e, ?_, fun _ => ⟨rfl, rfl, rfl⟩, fun hne => ⟨hve, fun _ => ⟨hve, fun I3 e3 => ?_⟩, fun _ => ⟨rfl, rfl, rfl⟩⟩⟩
  · rintro I2 J2 S2 L2 x ⟨rfl, rfl, rfl⟩
    rw [clN (show e < 2 ^ 31 by omega)]
    obtain ⟨h, hh, eh⟩ := W12_cases w29
    refine ⟨hve, fun x28 e28 => ?_⟩
    rw [eh, show (12 : Int32) = nI 12 from rfl, pk_mul, nI_add] at e28
    subst e28
    have hv24 : vp_in (nI (12 * l + h)) 24 := vp_in_nI (by omega) (by omega)
    have pop : ∀ (J9 : TJ) (L9 : TL) (S9 : TS), S9 = va_up S2 2 (nI e) → ∃ n_21, n_21 < mu b (I2 30) (e + 1) ∧ ∃ d, d ≤ 3 ∧ S9 2 = nI d ∧ Stk b d I2 ∧ FI I I2 ∧ FS S S9 ∧ n_21 = mu b (I2 30) d ∧ (nI l = 0 → ∃ k' : Nat, k' + mu b (I2 30) d ≤ k + 15626 ∧ S9 3 = nI k') := by
      intro J9 L9 S9 e9
      have hpos : 1 ≤ wt e * (b + 1 - m) := Nat.mul_pos hwp (by omega)
      refine ⟨mu b (I2 30) e, by omega, e, by omega, by rw [e9, va_up_self], fun i hi => hst i (by omega), hI, FS.tr hS (fun j h2 _ => by rw [e9, va_up_ne _ _ h2]), rfl, fun hh => ?_⟩
      obtain ⟨k', a, b⟩ := hlk hh
      exact ⟨k', by omega, by rw [e9, va_up_ne _ _ (by omega)]; exact b⟩
    refine ⟨hv24, hve, hv24, fun J3 _ => ⟨hve, fun I3 J3 S3 L3 x => I3 = I2 ∧ S3 = S2 ∧ x = nI e, ?_, fun _ => ⟨rfl, rfl, rfl⟩, fun h31 => ⟨hve, hve, ?_, fun J4 _ => ⟨rfl, rfl, rfl⟩⟩⟩⟩
    · rintro I3 J3 S3 L3 x ⟨rfl, rfl, rfl⟩ S9 e9
      exact pop J3 L3 S9 e9
    · rcases w31 with g | ⟨a, ha, g⟩
      · exact absurd g h31
      · rw [g]; exact vp_in_nI ha (by omega)
  · have hmb : m < b := by
      rcases Nat.lt_or_ge m b with g | g
      · exact g
      · exact absurd (by rw [s1', show m = b by omega]) hne
    have hvm : vp_in (nI m) 24 := vp_in_nI (by omega) (by omega)
    have eI3 : ∀ n, n ≠ 30 → I3 n = I' n := fun n hn => by rw [e3, va_up_ne _ _ hn]
    have e30 : I3 30 = upd (I' 30) e (nI m + 1) := by rw [e3, va_up_self]
    have hI3 : FI I I3 := fun n hn => by rw [eI3 n (by omega)]; exact hI n hn
    have hmu3 : mu b (I3 30) (e + 1) = mu b (I' 30) e + wt e * (b - m) := by
      rw [mu_succ, e30, pk_us, nI_1, clN (by omega)]
      rw [mu_cong (fun i hi => pk_un (show i ≠ e by omega)), show b + 1 - (m + 1) = b - m by omega]
    have hdec : mu b (I3 30) (e + 1) + wt e = mu b (I' 30) (e + 1) := by
      rw [hmu3, hmu, show b + 1 - m = (b - m) + 1 by omega, Nat.mul_add, Nat.mul_one]
      omega
    have st3 : Stk b (e + 1) I3 := by
      intro i hi
      rw [eI3 29 (by omega), eI3 31 (by omega), e30]
      obtain ⟨q1, q2, q3⟩ := hst i hi
      refine ⟨q1, ?_, q3⟩
      by_cases g : i = e
      · rw [g, pk_us, nI_1]; exact ⟨m + 1, by omega, rfl⟩
      · rw [pk_un g]; exact q2
    have nopush : ∀ (J9 : TJ) (L9 : TL), ∃ n_21, n_21 < mu b (I' 30) (e + 1) ∧ ∃ d, d ≤ 3 ∧ S' 2 = nI d ∧ Stk b d I3 ∧ FI I I3 ∧ FS S S' ∧ n_21 = mu b (I3 30) d ∧ (nI l = 0 → ∃ k' : Nat, k' + mu b (I3 30) d ≤ k + 15626 ∧ S' 3 = nI k') := by
      intro J9 L9
      refine ⟨mu b (I3 30) (e + 1), by omega, e + 1, hd, s2, st3, hI3, hS, rfl, fun hh => ?_⟩
      obtain ⟨k', a, b⟩ := hlk hh
      exact ⟨k', by omega, b⟩
    refine ⟨hvm, hve, fun _ => nopush J' L', fun _ => ⟨hvm, fun _ => nopush J' L', fun _ => ⟨hvm, fun _ => nopush J' L', fun _ => ?_⟩⟩⟩
    have hk3 : nI l = 0 → ∃ k' : Nat, k' ≤ k + 15626 - mu b (I' 30) (e + 1) ∧ S' 3 = nI k' := fun hh => by
      obtain ⟨k', a, b⟩ := hlk hh
      exact ⟨k', by omega, b⟩
    refine m_meets (b := b) (d := e) (k := k + 15626 - mu b (I' 30) (e + 1)) (hB.same hI3) hb hmb hl ht (by omega) s2 hk3 (by omega) (fun I4 J4 S4 L4 hM => ?_)
    rcases hM with ⟨rfl, rfl⟩ | ⟨he2, b1, ⟨h, hwh, b2⟩, b3, ⟨x, hx, b4⟩, b5, b6, b7⟩
    · exact nopush J4 L4
    · have hmu4 : mu b (I4 30) (e + 2) = mu b (I3 30) (e + 1) + wt (e + 1) * (b - m) := by
        rw [mu_succ, b3, pk_us, clN (by omega)]
        rw [mu_cong (fun i hi => pk_un (show i ≠ e + 1 by omega)), show b + 1 - (m + 1) = b - m by omega]
      have hle : wt (e + 1) * (b - m) ≤ 24 * wt (e + 1) := by
        rw [Nat.mul_comm 24]
        exact Nat.mul_le_mul_left _ (by omega)
      have hlt := wt_lt he2
      refine ⟨mu b (I4 30) (e + 2), by omega, e + 2, by omega, b6, ?_, hI3.tr b1, hS.tr b5, rfl, fun hh => ?_⟩
      · intro i hi
        rw [b2, b3, b4]
        by_cases g : i = e + 1
        · rw [g, pk_us, pk_us, pk_us]
          exact ⟨hwh, ⟨m + 1, by omega, rfl⟩, hx⟩
        · rw [pk_un g, pk_un g, pk_un g]
          exact st3 i (by omega)
      · obtain ⟨k', a, b⟩ := b7 hh
        obtain ⟨k0, a0, -⟩ := hlk hh
        exact ⟨k', by omega, b⟩
end
