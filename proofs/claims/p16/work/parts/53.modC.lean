def MSt (I : TI) : Prop := (∀ w, w < 12 → ∃ kk : Nat, kk ≤ 6 ∧ I 1 w = nI kk) ∧ ∀ i, i < 216 → I 3 i = -1 ∨ W12 (I 3 i)
theorem MSt.same {I I' : TI} (h : MSt I) (e : FI I I') : MSt I' := by
  unfold MSt
  rw [e 1 (by omega), e 3 (by omega)]
  exact h
section
variable {I : TI} {J : TJ} {S : TS} {L : TL}
theorem m_setOn {j kk : Nat} {p1 : Int32} {Φ : Int32 → TI → TJ → TS → TL → Prop} (hj : j < 12) (hs : I 1 j = nI kk) (hkk : kk ≤ 6) (hf : ∀ s, s < 72 → Φ (nI s) I J S L) : wp_X8_setOn I J S L (nI j) p1 Φ := by
  unfold wp_X8_setOn
  intro x ex
  rw [show (6 : Int32) = nI 6 from rfl, pk_mul] at ex
  subst ex
  refine ⟨fun n I' J' S' L' f x => I' = I ∧ J' = J ∧ S' = S ∧ L' = L ∧ (∃ s, s < 72 ∧ f = nI s) ∧ ∃ m, m ≤ 7 ∧ x = nI m ∧ n = 7 - m, ⟨7, rfl, rfl, rfl, rfl, ⟨6 * j, by omega, rfl⟩, 0, by omega, rfl, rfl⟩, ?_⟩
  rintro n I' J' S' L' f x ⟨rfl, rfl, rfl, rfl, ⟨s, hs1, rfl⟩, m, hm, rfl, rfl⟩
  refine ⟨vp_in_nI hj (by omega), fun _ => hf s hs1, fun hc => ?_⟩
  rw [clN (by omega), hs] at hc
  have hm2 : m < kk := by
    rcases Nat.lt_or_ge m kk with q | q
    · exact q
    · exact absurd (nI_le q (by omega)) hc
  rw [show (6 : Int32) = nI 6 from rfl, pk_mul, nI_add]
  refine ⟨vp_in_nI (by omega) (by omega), fun I2 J2 S2 L2 f x => I2 = I' ∧ J2 = J' ∧ S2 = S' ∧ L2 = L' ∧ (∃ s, s < 72 ∧ f = nI s) ∧ x = nI m, ?_, fun _ => ⟨rfl, rfl, rfl, rfl, ⟨s, hs1, rfl⟩, rfl⟩, fun _ => fun x ex => ⟨rfl, rfl, rfl, rfl, ⟨6 * j + m, by omega, ex⟩, rfl⟩⟩
  rintro I2 J2 S2 L2 f x ⟨rfl, rfl, rfl, rfl, hs3, rfl⟩ x2 ex2
  exact ⟨7 - (m + 1), by omega, rfl, rfl, rfl, rfl, hs3, m + 1, by omega, by rw [ex2]; exact nI_1 m, rfl⟩
/-- behind comes and closes: the books stand; the lines of the first ledger are at most k -/
def Cm (I : TI) (S : TS) (k l : Nat) (I' : TI) (S' : TS) : Prop := FI I I' ∧ FS S S' ∧ (nI l = 0 → ∃ k' : Nat, k' ≤ k ∧ S' 3 = nI k')
set_option maxRecDepth 100000 in
theorem m_comes {b k l t j : Nat} {p3 p4 : Int32} {Φ : TI → TJ → TS → TL → Prop} (hB : MBg b I) (hb : b ≤ 24) (s1 : S 1 = nI b) (hSt : MSt I) (hl : l < 2) (ht : t < 40) (hj : j < 12) (hln : nI l = 0 → ∃ k' : Nat, k' ≤ k ∧ S 3 = nI k') (hk : k + 46878 < 2 ^ 31) (hf : ∀ (I' : TI) (J' : TJ) (S' : TS) (L' : TL), Cm I S (k + 46878) l I' S' → Φ I' J' S' L') : wp_X8_comes I J S L (nI l) (nI t) (nI j) p3 p4 Φ := by
  unfold wp_X8_comes
  obtain ⟨kk, hkk, ekk⟩ := hSt.1 j hj
  refine m_setOn hj ekk hkk (fun s hs => ?_)
  refine ⟨fun n I' J' S' L' a x => a = nI s ∧ ∃ m, m ≤ 3 ∧ x = nI m ∧ n = 3 - m ∧ Cm I S (k + m * 15626) l I' S', ⟨3, rfl, 0, by omega, rfl, rfl, FI.rf, fun _ _ _ => rfl, fun h => by obtain ⟨k', a, b⟩ := hln h; exact ⟨k', by omega, b⟩⟩, ?_⟩
  rintro n I' J' S' L' a x ⟨rfl, m, hm, rfl, rfl, hI, hS, hlk⟩
  refine ⟨fun _ => hf I' J' S' L' ⟨hI, hS, fun h => by obtain ⟨k', a, b⟩ := hlk h; exact ⟨k', by omega, b⟩⟩, fun hc => ?_⟩
  have hm2 : m < 3 := nI_nleN (N := 3) (by omega) hm hc
  rw [show (3 : Int32) = nI 3 from rfl, pk_mul, nI_add, clN (by omega)]
  have hv : vp_in (nI (3 * s + m)) 216 := vp_in_nI (by omega) (by omega)
  refine ⟨hv, fun x15 e15 => ?_⟩
  refine ⟨fun I2 J2 S2 L2 a x => a = nI s ∧ x = nI m ∧ Cm I S (k + (m + 1) * 15626) l I2 S2, ?_, fun _ => ⟨rfl, rfl, hI, hS, fun h => by obtain ⟨k', a, b⟩ := hlk h; exact ⟨k', by omega, b⟩⟩, fun hne => ⟨hv, ?_⟩⟩
  · rintro I2 J2 S2 L2 a x ⟨rfl, rfl, hC⟩ x2 ex2
    exact ⟨3 - (m + 1), by omega, rfl, m + 1, by omega, by rw [ex2]; exact nI_1 m, rfl, hC⟩
  have hw : W12 x15 := by
    rw [e15, hI 3 (by omega)] at hne ⊢
    rcases hSt.2 (3 * s + m) (by omega) with g | g
    · exact absurd g hne
    · exact g
  refine m_goes (b := b) (k := k + m * 15626) (hB.same hI) hb ((hS 1 (by omega) (by omega)).trans s1) hl ht hw hlk (by omega) (fun I3 J3 S3 L3 a1 a2 a3 => ⟨rfl, rfl, hI.tr a1, hS.tr a2, fun h => by obtain ⟨k', a, b⟩ := a3 h; exact ⟨k', by omega, b⟩⟩)
theorem m_pays {l t h : Nat} {Φ : TI → TJ → TS → TL → Prop} (hl : l < 2) (ht : t < 40) (hh : h < 12) (hf : ∀ (I' : TI) (J' : TJ), FI I I' → Φ I' J' S L) : wp_X8_pays I J S L (nI l) (nI t) (nI h) Φ := by
  unfold wp_X8_pays
  rw [show (12 : Int32) = nI 12 from rfl, pk_mul, nI_add]
  intro x hx
  subst hx
  have hv : vp_in (nI (12 * l + h)) 24 := vp_in_nI (by omega) (by omega)
  have mid : ∀ (I2 : TI) (J2 : TJ) (S2 : TS) (L2 : TL) (x : Int32), (I2 = I ∧ S2 = S ∧ L2 = L ∧ x = nI (12 * l + h)) → ((vp_in x 24) ∧ (∃ B_8 : TI → TJ → TS → TL → Int32 → Int32 → Prop, (∀ (I_9 : TI) (J_10 : TJ) (S_11 : TS) (L_12 : TL) (x_13 : Int32) (s_14 : Int32), B_8 I_9 J_10 S_11 L_12 x_13 s_14 → (wp_X8_dueAt I_9 J_10 S_11 L_12 (nI l) (nI h) (nI t) (fun (r_19 : Int32) (I_15 : TI) (J_16 : TJ) (S_17 : TS) (L_18 : TL) => ((vp_in r_19 960) ∧ ∀ I_20 : TI, I_20 = va_up I_15 26 (upd (I_15 26) (r_19).toNatClampNeg s_14) → ((vp_in x_13 24) ∧ ((vp_in x_13 24) ∧ ∀ J_21 : TJ, J_21 = va_up J_16 21 (vp_updL (J_16 21) (x_13).toNatClampNeg ((J_16 21 (x_13).toNatClampNeg) - (((s_14).toInt64) * (1000000 : Int64)))) → (Φ I_20 J_21 S_17 L_18))))))) ∧ (((0 ≤ (lg_cmp (J2 21 (x).toNatClampNeg) (1000000 : Int64))) → ((vp_in x 24) ∧ (B_8 I2 J2 S2 L2 x ((((J2 21 (x).toNatClampNeg) / (1000000 : Int64))).toInt32)))) ∧ ((¬ 0 ≤ (lg_cmp (J2 21 (x).toNatClampNeg) (1000000 : Int64))) → (B_8 I2 J2 S2 L2 x (0 : Int32)))))) := by
    rintro I2 J2 S2 L2 x ⟨rfl, rfl, rfl, rfl⟩
    refine ⟨hv, fun I3 J3 S3 L3 x s => I3 = I2 ∧ S3 = S2 ∧ L3 = L2 ∧ x = nI (12 * l + h), ?_, fun _ => ⟨hv, rfl, rfl, rfl, rfl⟩, fun _ => ⟨rfl, rfl, rfl, rfl⟩⟩
    rintro I3 J3 S3 L3 x s ⟨rfl, rfl, rfl, rfl⟩
    unfold wp_X8_dueAt
    have e2 : (nI l * (12 : Int32) + nI h) * (40 : Int32) + nI t = nI ((l * 12 + h) * 40 + t) := by
      rw [show (12 : Int32) = nI 12 from rfl, pk_mul, nI_add, show (40 : Int32) = nI 40 from rfl, pk_mul, nI_add]
    rw [e2]
    exact ⟨vp_in_nI (by omega) (by omega), fun I4 e4 => ⟨hv, hv, fun J4 _ => hf I4 J4 (by rw [e4]; exact FI.rf.up (by omega) _)⟩⟩
  refine ⟨hv, fun I2 J2 S2 L2 x => I2 = I ∧ S2 = S ∧ L2 = L ∧ x = nI (12 * l + h), mid, fun _ => ⟨rfl, rfl, rfl, rfl⟩, fun _ => ⟨hv, fun _ => ⟨rfl, rfl, rfl, rfl⟩, fun _ => ⟨hv, hv, ?_⟩⟩⟩
  refine ⟨fun I3 J3 S3 L3 x s => I3 = I ∧ S3 = S ∧ L3 = L ∧ x = nI (12 * l + h), ?_, fun _ => ⟨hv, rfl, rfl, rfl, rfl⟩, fun _ => ⟨hv, rfl, rfl, rfl, rfl⟩⟩
  rintro I3 J3 S3 L3 x s ⟨rfl, rfl, rfl, rfl⟩
  exact ⟨hv, hv, fun J4 _ => ⟨hv, hv, fun J5 _ => ⟨rfl, rfl, rfl, rfl⟩⟩⟩
end
