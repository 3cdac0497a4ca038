theorem sh_w {w : Nat} (hw : w < 13) : (nI w &&& 31).toBitVec.smod 32 = BitVec.ofNat 32 w := by
  have : ∀ w, w < 13 → (nI w &&& 31).toBitVec.smod 32 = BitVec.ofNat 32 w := by decide
  exact this w hw
theorem op_bit {x : Int32} {w : Nat} (hw : w < 12) : ((x >>> (nI w &&& 31)) &&& 1) = 1 ↔ x.toBitVec.getLsbD w = true := by
  rw [← Int32.toBitVec_inj, Int32.toBitVec_and, Int32.toBitVec_shiftRight, sh_w (by omega), show (1 : Int32).toBitVec = 1#32 from rfl, BitVec.and_one_eq_setWidth_ofBool_getLsbD]
  have e : (x.toBitVec.sshiftRight' (BitVec.ofNat 32 w)).getLsbD 0 = x.toBitVec.getLsbD w := by
    rw [BitVec.sshiftRight_eq', BitVec.getLsbD_sshiftRight, BitVec.toNat_ofNat, Nat.mod_eq_of_lt (by omega), Nat.add_zero, if_pos (by omega)]
    simp
  rw [e]
  cases x.toBitVec.getLsbD w <;> decide
/-- the bits of a TEAR -/
theorem tear_bit {n w : Nat} (hn : n ≤ 12) (hw : w < 12) : (((((4095 : Int32) <<< (nI n &&& 31)) &&& (4095 : Int32)) >>> (nI w &&& 31)) &&& 1) = 1 ↔ n ≤ w := by
  have : ∀ n, n < 13 → ∀ w, w < 12 → ((((((4095 : Int32) <<< (nI n &&& 31)) &&& (4095 : Int32)) >>> (nI w &&& 31)) &&& 1) = 1 ↔ n ≤ w) := by decide +kernel
  exact this n (by omega) w hw
theorem mask_bit {w v : Nat} (hw : w < 12) (hv : v < 12) : (((1 : Int32) <<< (nI w &&& 31)) ^^^ (-1 : Int32)).toBitVec.getLsbD v = true ↔ v ≠ w := by
  have : ∀ w, w < 12 → ∀ v, v < 12 → ((((1 : Int32) <<< (nI w &&& 31)) ^^^ (-1 : Int32)).toBitVec.getLsbD v = true ↔ v ≠ w) := by decide +kernel
  exact this w hw v hv
theorem back_bit {x : Int32} {w v : Nat} (hw : w < 12) (hv : v < 12) : (((x &&& (((1 : Int32) <<< (nI w &&& 31)) ^^^ (-1 : Int32))) >>> (nI v &&& 31)) &&& 1) = 1 ↔ (((x >>> (nI v &&& 31)) &&& 1) = 1 ∧ v ≠ w) := by
  rw [op_bit hv, op_bit hv, Int32.toBitVec_and, BitVec.getLsbD_and, Bool.and_eq_true, mask_bit hw hv]
/-- no WORK was mended in a TERM that is not CLOSED -/
def MZ (c : Nat) (Im : TI) : Prop := ∀ t w, c ≤ t → t < 40 → w < 12 → Im 20 (12 * t + w) = 0
theorem RM.tear {X X' I I' : TI} {c n : Nat} (h : RM X I) (hZ : MZ c I) (hc : c < 40) (hn : n ≤ 12) (eX : ∀ k, k ≠ 20 → X' k = X k) (e20 : X' 20 = upd (X 20) c (((4095 : Int32) <<< (nI n &&& 31)) &&& (4095 : Int32))) (eI : ∀ k, k ≠ 19 → I' k = I k) (e19 : I' 19 = upd (I 19) c (nI n)) : RM X' I' := by
  obtain ⟨h16, h17, h18, hcn, ho⟩ := h
  refine ⟨by rw [eX 16 (by omega), eI 16 (by omega)]; exact h16, by rw [eX 18 (by omega), eI 17 (by omega)]; exact h17, by rw [eX 19 (by omega), eI 18 (by omega)]; exact h18, by rw [eX 15 (by omega), eI 13 (by omega), eI 14 (by omega), eI 15 (by omega)]; exact hcn, fun t w ht hw => ?_⟩
  rw [eI 20 (by omega), e19]
  unfold opP
  rw [e20]
  by_cases g : t = c
  · subst g
    rw [pk_us, pk_us, tear_bit hn hw]
    have z := hZ t w (Nat.le_refl _) ht hw
    refine ⟨fun k => ?_, fun k => ⟨fun q => ?_, z⟩⟩
    · rcases Nat.lt_or_ge w n with q | q
      · exact absurd ((nI_ltI (by omega) (by omega)).mpr q) k.1
      · exact q
    · have := (nI_ltI (by omega) (by omega)).mp q
      omega
  · rw [pk_un g, pk_un g]
    exact ho t w ht hw
theorem RM.back {X X' I I' : TI} {t w : Nat} (h : RM X I) (ht : t < 40) (hw : w < 12) (eX : ∀ k, k ≠ 20 → X' k = X k) (e20 : X' 20 = upd (X 20) t (X 20 t &&& (((1 : Int32) <<< (nI w &&& 31)) ^^^ (-1 : Int32)))) (eI : ∀ k, k ≠ 20 → I' k = I k) (f20 : I' 20 = upd (I 20) (12 * t + w) 1) : RM X' I' := by
  obtain ⟨h16, h17, h18, hcn, ho⟩ := h
  refine ⟨by rw [eX 16 (by omega), eI 16 (by omega)]; exact h16, by rw [eX 18 (by omega), eI 17 (by omega)]; exact h17, by rw [eX 19 (by omega), eI 18 (by omega)]; exact h18, by rw [eX 15 (by omega), eI 13 (by omega), eI 14 (by omega), eI 15 (by omega)]; exact hcn, fun t' w' ht' hw' => ?_⟩
  rw [eI 19 (by omega), f20]
  unfold opP
  rw [e20]
  have hp := ho t' w' ht' hw'
  unfold opP at hp
  by_cases g : t' = t
  · subst g
    rw [pk_us, back_bit hw hw', ← hp]
    by_cases g2 : w' = w
    · subst g2
      rw [pk_us]
      exact ⟨fun k => absurd k.2 (by decide), fun k => absurd rfl k.2⟩
    · rw [pk_un (by omega)]
      exact ⟨fun k => ⟨k, g2⟩, fun k => k.1⟩
  · rw [pk_un g, pk_un (by omega)]
    exact hp
theorem MZ.back {I I' : TI} {c t w : Nat} (h : MZ c I) (ht : t < c) (hw : w < 12) (f20 : I' 20 = upd (I 20) (12 * t + w) 1) : MZ c I' := fun t' w' h1 h2 h3 => by
  rw [f20, pk_un (by omega)]
  exact h t' w' h1 h2 h3
theorem PX.fr {X X' : TI} (h : PX X) (e : ∀ k, 16 ≤ k → k < 20 → X' k = X k) : PX X' := by
  unfold PX
  rw [e 16 (by omega) (by omega), e 17 (by omega) (by omega), e 18 (by omega) (by omega), e 19 (by omega) (by omega)]
  exact h
/-- what told says, by the class's book -/
def TdF (X : TI) (t w : Nat) (p2 r : Int32) : Prop := (p2 = nI 0 → r = X 15 ((t * 12 + w) * 3)) ∧ (p2 = nI 1 → r = X 15 ((t * 12 + w) * 3 + 1)) ∧ (p2 = nI 2 → r = X 15 ((t * 12 + w) * 3 + 2)) ∧ (p2 = nI 3 → r = X 16 (t * 12 + w) + (if opP X t (nI w) then 4 else 0)) ∧ (p2 = nI 4 → r = if X 16 (t * 12 + w) = 0 then -1 else X 17 (t * 12 + w)) ∧ ((∀ k, k < 5 → ¬ p2 = nI k) → r = -1)
theorem TdF.fn {X : TI} {t w : Nat} {p2 r r' : Int32} (a : TdF X t w p2 r) (b : TdF X t w p2 r') : r = r' := by
  obtain ⟨a0, a1, a2, a3, a4, a5⟩ := a
  obtain ⟨b0, b1, b2, b3, b4, b5⟩ := b
  by_cases g0 : p2 = nI 0
  · exact (a0 g0).trans (b0 g0).symm
  by_cases g1 : p2 = nI 1
  · exact (a1 g1).trans (b1 g1).symm
  by_cases g2 : p2 = nI 2
  · exact (a2 g2).trans (b2 g2).symm
  by_cases g3 : p2 = nI 3
  · exact (a3 g3).trans (b3 g3).symm
  by_cases g4 : p2 = nI 4
  · exact (a4 g4).trans (b4 g4).symm
  have : ∀ k, k < 5 → ¬ p2 = nI k := fun k hk => by
    rcases (show k = 0 ∨ k = 1 ∨ k = 2 ∨ k = 3 ∨ k = 4 by omega) with e | e | e | e | e <;> subst e <;> assumption
  exact (a5 this).trans (b5 this).symm
