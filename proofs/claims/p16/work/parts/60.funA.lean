abbrev TG : Type := TI × TJ × Nat
def stA (v m : Int64) : Int64 := if (if v < 0 then 0 else v) < m then (if v < 0 then 0 else v) else m
def stF (x v z m : Int64) : Int64 := ((stA v m * x) / 1000) + (((m - stA v m) * z) / 1000)
/-- what a BARGAIN takes of m MITES -/
def tkF (X : TI) (J : TJ) (n : Nat) (m : Int64) : Int64 :=
  if X 6 n = nI 1 then (if ((X 10 n).toInt64 * 1000000) - J 30 n < m then ((X 10 n).toInt64 * 1000000) - J 30 n else m)
  else if X 6 n = nI 3 then stF (X 10 n).toInt64 (((X 11 n).toInt64 * 1000000) - J 31 n) (X 12 n).toInt64 m
  else if X 6 n = nI 0 ∨ X 6 n = nI 4 then (m * (X 10 n).toInt64) / 1000
  else 0
def mtA (J : TJ) (n : Nat) (m : Int64) : TJ := va_up J 31 (vp_updL (J 31) n (J 31 n + m))
def mtB (J : TJ) (n : Nat) (r : Int64) : TJ := va_up J 30 (vp_updL (J 30) n (J 30 n + r))
def mtC (J : TJ) (i : Nat) (r : Int64) : TJ := va_up J 32 (vp_updL (J 32) i (J 32 i + r))
/-- a LINE of m MITES meets BARGAIN n in TERM t -/
def meetF (X : TI) (t : Nat) (J : TJ) (n : Nat) (m : Int64) : TJ :=
  if X 6 n = 4 then mtC (mtB (mtA J n m) n (tkF X J n m)) (n * 40 + t) (tkF X J n m) else mtB (mtA J n m) n (tkF X J n m)
def bgI (I : TI) (k : Nat) (w h f : Int32) : TI := va_up (va_up (va_up I 34 (upd (I 34) k w)) 35 (upd ((va_up I 34 (upd (I 34) k w)) 35) k h)) 36 (upd ((va_up (va_up I 34 (upd (I 34) k w)) 35 (upd ((va_up I 34 (upd (I 34) k w)) 35) k h)) 36) k f)
/-- a LINE begins: r is the room of the book -/
def bgF (r : Nat) (w h f : Int32) (m : Int64) (g : TG) : TG :=
  if g.2.2 < r then (bgI g.1 g.2.2 w h f, va_up g.2.1 37 (vp_updL (g.2.1 37) g.2.2 m), g.2.2 + 1) else (g.1, g.2.1, g.2.2 + 1)
def prF (J : TJ) (h : Nat) (y : Int64) : TJ := va_up J 26 (vp_updL (J 26) h (J 26 h + y))
/-- a LINE ends: what is left goes into the PURSE -/
def enF (r i h : Nat) (y : Int64) (g : TG) : TG :=
  if i < r then (g.1, va_up (prF g.2.1 h y) 38 (vp_updL ((prF g.2.1 h y) 38) i y), g.2.2) else (g.1, prF g.2.1 h y, g.2.2)
abbrev hdP (X : TI) (w h : Int32) (t n : Nat) : Prop := X 7 n = h ∧ ((X 8 n >>> (w &&& 31)) &&& 1) = 1 ∧ ¬ nI (t * 90 + 89) < X 9 n
abbrev psP (X : TI) (n : Nat) : Prop := X 6 n = 0 ∨ X 6 n = 3
/-- a LINE of HAND h on its way: j BARGAINS are left, n is the next -/
def lnF (X : TI) (r t : Nat) (w : Int32) (ps : Bool) (rec : Nat → Int64 → TG → TG) (h : Int32) (i : Nat) : Nat → Nat → Int64 → TG → TG
  | 0, _, y, g => enF r i h.toNatClampNeg y g
  | j + 1, n, y, g =>
    if lg_cmp y 0 ≤ 0 then enF r i h.toNatClampNeg y g
    else if hdP X w h t n ∧ (ps = true ∨ ¬ psP X n) then
      (if psP X n ∧ ¬ lg_cmp (tkF X g.2.1 n y) 0 ≤ 0 then lnF X r t w ps rec h i j (n + 1) (y - tkF X g.2.1 n y) (rec n (tkF X g.2.1 n y) (g.1, meetF X t g.2.1 n y, g.2.2))
       else lnF X r t w ps rec h i j (n + 1) (y - tkF X g.2.1 n y) (g.1, meetF X t g.2.1 n y, g.2.2))
    else lnF X r t w ps rec h i j (n + 1) y g
/-- the whole of a LINE from BARGAIN f (as a number: n - 1) on -/
def rlF (X : TI) (r t b : Nat) (w : Int32) (ps : Bool) (rec : Nat → Int64 → TG → TG) (h f : Int32) (n : Nat) (m : Int64) (g : TG) : TG :=
  lnF X r t w ps rec h g.2.2 (b - n) n m (bgF r w h f m g)
def rl2 (X : TI) (r t b : Nat) (w h f : Int32) (n : Nat) (m : Int64) (g : TG) : TG := rlF X r t b w false (fun _ _ g => g) h f n m g
def rl1 (X : TI) (r t b : Nat) (w h f : Int32) (n : Nat) (m : Int64) (g : TG) : TG := rlF X r t b w true (fun k y g => rl2 X r t b w (X 13 k) (nI k) (k + 1) y g) h f n m g
def rl0 (X : TI) (r t b : Nat) (w h f : Int32) (n : Nat) (m : Int64) (g : TG) : TG := rlF X r t b w true (fun k y g => rl1 X r t b w (X 13 k) (nI k) (k + 1) y g) h f n m g
section
variable {X : TI} {r t b i j n : Nat} {w h : Int32} {ps : Bool} {rec : Nat → Int64 → TG → TG} {y : Int64} {g : TG}
theorem lnF_0 : lnF X r t w ps rec h i 0 n y g = enF r i h.toNatClampNeg y g := by unfold lnF; rfl
theorem lnF_z (hz : lg_cmp y 0 ≤ 0) : lnF X r t w ps rec h i j n y g = enF r i h.toNatClampNeg y g := by
  cases j with
  | zero => exact lnF_0
  | succ j => unfold lnF; rw [if_pos hz]
theorem lnF_skip (hz : ¬ lg_cmp y 0 ≤ 0) (hh : ¬ (hdP X w h t n ∧ (ps = true ∨ ¬ psP X n))) : lnF X r t w ps rec h i (j + 1) n y g = lnF X r t w ps rec h i j (n + 1) y g := by
  conv => lhs; unfold lnF
  rw [if_neg hz, if_neg hh]
theorem lnF_keep (hz : ¬ lg_cmp y 0 ≤ 0) (hh : hdP X w h t n ∧ (ps = true ∨ ¬ psP X n)) (hp : ¬ (psP X n ∧ ¬ lg_cmp (tkF X g.2.1 n y) 0 ≤ 0)) : lnF X r t w ps rec h i (j + 1) n y g = lnF X r t w ps rec h i j (n + 1) (y - tkF X g.2.1 n y) (g.1, meetF X t g.2.1 n y, g.2.2) := by
  conv => lhs; unfold lnF
  rw [if_neg hz, if_pos hh, if_neg hp]
theorem lnF_pass (hz : ¬ lg_cmp y 0 ≤ 0) (hh : hdP X w h t n ∧ (ps = true ∨ ¬ psP X n)) (hp : psP X n ∧ ¬ lg_cmp (tkF X g.2.1 n y) 0 ≤ 0) : lnF X r t w ps rec h i (j + 1) n y g = lnF X r t w ps rec h i j (n + 1) (y - tkF X g.2.1 n y) (rec n (tkF X g.2.1 n y) (g.1, meetF X t g.2.1 n y, g.2.2)) := by
  conv => lhs; unfold lnF
  rw [if_neg hz, if_pos hh, if_pos hp]
end
theorem tkF_X {X X' : TI} {J : TJ} {n : Nat} {m : Int64} (h6 : X' 6 = X 6) (h10 : X' 10 = X 10) (h11 : X' 11 = X 11) (h12 : X' 12 = X 12) : tkF X' J n m = tkF X J n m := by
  unfold tkF
  rw [h6, h10, h11, h12]
/-- the books stand as X, the fields but lines.size as S, and that is N -/
def Zm (X : TI) (S : TS) (N : Nat) (I' : TI) (S' : TS) : Prop := (∀ j, j < 25 → I' j = X j) ∧ (∀ j, j ≠ 5 → S' j = S j) ∧ S' 5 = nI N
theorem ld_eq (t : Nat) : nI t * (90 : Int32) + 90 - 1 = nI (t * 90 + 89) := by
  rw [show (90 : Int32) = nI 90 from rfl, pk_mul, nI_add, show (1 : Int32) = nI 1 from rfl, pk_sub (by omega)]
  rfl
section
variable {n0 n1 : Nat} {X I : TI} {J : TJ} {S : TS} {L : TL}
theorem e_takenBy {n : Nat} {m : Int64} {Φ : Int64 → TI → TJ → TS → TL → Prop} (hX : ∀ j, j < 25 → I j = X j) (hn : n < 24) (hf : Φ (tkF X J n m) I J S L) : wp_X2_takenBy n0 n1 I J S L (nI n) m Φ := by
  unfold wp_X2_takenBy
  have hv : vp_in (nI n) 24 := vp_in_nI hn (by omega)
  rw [clN (by omega), hX 6 (by omega), hX 10 (by omega), hX 11 (by omega), hX 12 (by omega)]
  refine ⟨hv, fun y ey => ⟨hv, fun h => ?_, fun h => ⟨hv, fun y2 e2 => ?_⟩, fun h => ?_, fun h => ⟨hv, hv, fun y3 e3 y4 e4 => ⟨hv, ?_⟩⟩, fun h => ?_, fun h => ?_⟩⟩
  · have e : tkF X J n m = (m * y) / 1000 := by
      unfold tkF
      rw [if_neg (by rw [h]; decide), if_neg (by rw [h]; decide), if_pos (Or.inl h), ey]
    rw [← e]; exact hf
  · have e : tkF X J n m = y2 := by
      unfold tkF
      rw [if_pos h, e2, ey]
    rw [← e]; exact hf
  · have e : tkF X J n m = 0 := by
      unfold tkF
      rw [if_neg (by rw [h]; decide), if_neg (by rw [h]; decide), if_neg (by rw [h]; decide)]
    rw [← e]; exact hf
  · have e : tkF X J n m = ((y4 * y) / 1000) + (((m - y4) * (X 12 n).toInt64) / 1000) := by
      unfold tkF
      rw [if_neg (by rw [h]; decide), if_pos h, e4, e3, ey]
      rfl
    rw [← e]; exact hf
  · have e : tkF X J n m = (m * y) / 1000 := by
      unfold tkF
      rw [if_neg (by rw [h]; decide), if_neg (by rw [h]; decide), if_pos (Or.inr h), ey]
    rw [← e]; exact hf
  · have e : tkF X J n m = 0 := by
      unfold tkF
      rw [if_neg (h 1 (by omega)), if_neg (h 3 (by omega)), if_neg (fun q => by rcases q with q | q; exact h 0 (by omega) q; exact h 4 (by omega) q)]
    rw [← e]; exact hf
theorem e_holdsFor {n t : Nat} {h w : Int32} {Φ : Int32 → TI → TJ → TS → TL → Prop} (hX : ∀ j, j < 25 → I j = X j) (hn : n < 24) (h1 : hdP X w h t n → Φ 1 I J S L) (h0 : ¬ hdP X w h t n → Φ 0 I J S L) : wp_X0_holdsFor n0 n1 I J S L (nI n) h w (nI (t * 90 + 89)) Φ := by
  unfold wp_X0_holdsFor
  have hv : vp_in (nI n) 24 := vp_in_nI hn (by omega)
  rw [clN (by omega), hX 7 (by omega), hX 8 (by omega), hX 9 (by omega)]
  exact ⟨hv, _, fun _ _ _ _ _ hB => hB, _, fun _ _ _ _ hB => hB, fun q => ⟨Or.inl rfl, h0 (fun k => q k.1)⟩, fun q1 => ⟨hv, fun q => ⟨Or.inl rfl, h0 (fun k => q k.2.1)⟩, fun q2 => ⟨hv, fun q => ⟨Or.inl rfl, h0 (fun k => k.2.2 q)⟩, fun q3 => ⟨Or.inr rfl, h1 ⟨q1, q2, q3⟩⟩⟩⟩⟩
theorem e_begin {k : Nat} {p0 p1 p2 : Int32} {p3 : Int64} {Φ : Int32 → TI → TJ → TS → TL → Prop} (hX : ∀ j, j < 25 → I j = X j) (h5 : S 5 = nI k) (hk : k < 2 ^ 31) (h6 : S 6 = nI n0) (hn0 : n0 < 2 ^ 31) (hf : ∀ (I' : TI) (J' : TJ) (S' : TS), Zm X S (k + 1) I' S' → bgF n0 p0 p1 p2 p3 (I, J, k) = (I', J', k + 1) → Φ (nI k) I' J' S' L) : wp_X3_begin n0 n1 I J S L p0 p1 p2 p3 Φ := by
  unfold wp_X3_begin
  intro x ex
  rw [h5] at ex
  subst ex
  rw [clN hk, h6]
  refine ⟨fun I' J' S' L' x => (∀ j, j < 25 → I' j = X j) ∧ bgF n0 p0 p1 p2 p3 (I, J, k) = (I', J', k + 1) ∧ S' = S ∧ L' = L ∧ x = nI k, ?_, fun hc => ⟨hX, ?_, rfl, rfl, rfl⟩, fun hc => ?_⟩
  · rintro I' J' S' L' x ⟨hI, hg, rfl, rfl, rfl⟩ S1 e1
    have e5 : S1 5 = nI (k + 1) := by
      rw [e1]
      show S' 5 + 1 = nI (k + 1)
      rw [h5]
      exact nI_1 k
    exact hf I' J' S1 ⟨hI, fun j hj => by rw [e1]; exact va_up_ne _ _ hj, e5⟩ hg
  · have : ¬ k < n0 := fun q => absurd hc (nI_ge q hn0)
    unfold bgF
    rw [if_neg this]
  · have hk2 : k < n0 := by
      rcases Nat.lt_or_ge k n0 with q | q
      · exact q
      · exact absurd (nI_le q hk) hc
    have hv : vp_in (nI k) n0 := vp_in_nI hk2 hn0
    refine ⟨hv, fun I1 e1 => ⟨hv, fun I2 e2 => ⟨hv, fun I3 e3 => ⟨hv, fun J1 e4 => ⟨fun j hj => ?_, ?_, rfl, rfl, rfl⟩⟩⟩⟩⟩
    · rw [e3, va_up_ne _ _ (by omega), e2, va_up_ne _ _ (by omega), e1, va_up_ne _ _ (by omega)]
      exact hX j hj
    · unfold bgF
      rw [if_pos hk2, e4, e3, e2, e1]
      rfl
theorem e_end {k h N : Nat} {y : Int64} {Φ : TI → TJ → TS → TL → Prop} (hk : k < 2 ^ 31) (h6 : S 6 = nI n0) (hn0 : n0 < 2 ^ 31) (hf : ∀ J' : TJ, enF n0 k h y (I, J, N) = (I, J', N) → Φ I J' S L) : wp_X3_end n0 n1 I (prF J h y) S L (nI k) y Φ := by
  unfold wp_X3_end
  rw [clN hk, h6]
  have no : ¬ k < n0 → enF n0 k h y (I, J, N) = (I, prF J h y, N) := fun q => by unfold enF; rw [if_neg q]
  refine ⟨_, fun _ _ _ _ hB => hB, fun q => absurd q (nI_pos hk), fun _ => ⟨fun hc => hf _ (no (fun q => absurd hc (nI_ge q hn0))), fun hc => ?_⟩⟩
  have hk2 : k < n0 := by
    rcases Nat.lt_or_ge k n0 with q | q
    · exact q
    · exact absurd (nI_le q hk) hc
  refine ⟨vp_in_nI hk2 hn0, fun J1 e1 => hf J1 ?_⟩
  unfold enF
  rw [if_pos hk2, e1]
end
set_option maxHeartbeats 4000000 in
theorem e_runLine_2 {n0 n1 : Nat} {X I : TI} {J : TJ} {S : TS} {L : TL} {b t k m : Nat} {p0 p1 p2 : Int32} {p4 : Int64} {Φ : TI → TJ → TS → TL → Prop} (hX : ∀ j, j < 25 → I j = X j) (hb : b ≤ 24) (h1 : S 1 = nI b) (hBg : Bgs b X) (h3 : S 3 = nI t) (hc : t < 40) (h6 : S 6 = nI n0) (hn0 : n0 < 2 ^ 31) (h5 : S 5 = nI k) (hk : k + 1 < 2 ^ 31) (hw : W12 p1) (hp2 : p2 + 1 = nI m) (hm : m ≤ b) (hf : ∀ (I' : TI) (J' : TJ) (S' : TS) (N' : Nat), Zm X S N' I' S' → N' ≤ k + 1 → rl2 X n0 t b p0 p1 p2 m p4 (I, J, k) = (I', J', N') → Φ I' J' S' L) : wp_X2_runLine_2 n0 n1 I J S L p0 p1 p2 (nI 2) p4 Φ := by
  unfold wp_X2_runLine_2
  refine e_begin hX h5 (by omega) h6 hn0 (fun I1 J1 S1 hz1 hg1 => ?_)
  intro x ex
  rw [hp2] at ex
  subst ex
  have hR0 : rl2 X n0 t b p0 p1 p2 m p4 (I, J, k) = lnF X n0 t p0 false (fun _ _ g => g) p1 k (b - m) m p4 (I1, J1, k + 1) := by
    unfold rl2 rlF
    rw [hg1]
  generalize rl2 X n0 t b p0 p1 p2 m p4 (I, J, k) = R at hR0 hf
  refine ⟨fun n I' J' S' L' a y x => ∃ m1 N', m ≤ m1 ∧ m1 ≤ b ∧ x = nI m1 ∧ n = b - m1 ∧ a = nI k ∧ L' = L ∧ Zm X S N' I' S' ∧ N' ≤ k + 1 + (m1 - m) * 0 ∧ R = lnF X n0 t p0 false (fun _ _ g => g) p1 k (b - m1) m1 y (I', J', N'), ⟨b - m, m, k + 1, Nat.le_refl _, hm, rfl, rfl, rfl, rfl, hz1, by omega, hR0⟩, ?_⟩
  rintro n I' J' S' L' a y x ⟨m1, N1, hm1, hm2, rfl, rfl, rfl, rfl, hz, hN1, hR⟩
  have hbd : (m1 - m) * 0 ≤ 24 * 0 := Nat.mul_le_mul_right _ (by omega)
  have hi1 : vp_in p1 12 := W12_in hw
  refine ⟨fun I2 J2 S2 L2 a y => a = nI k ∧ L2 = L' ∧ ∃ N', Zm X S N' I2 S2 ∧ N' ≤ k + 1 ∧ R = enF n0 k p1.toNatClampNeg y (I2, J2, N'), ?_, fun hcb => ?_, fun hc1 => ?_⟩
  · rintro I2 J2 S2 L2 a y ⟨rfl, rfl, N', hz, hN, hR⟩
    refine ⟨hi1, hi1, fun J3 e3 => ?_⟩
    rw [show J3 = prF J2 p1.toNatClampNeg y from e3]
    exact e_end (N := N') (by omega) (by rw [hz.2.1 6 (by omega)]; exact h6) hn0 (fun J4 e4 => hf I2 J4 S2 N' hz hN (hR.trans e4))
  · rw [hz.2.1 1 (by omega), h1] at hcb
    have hmb : m1 = b := by
      have := (nI_leI (by omega) (by omega)).mp hcb
      omega
    refine ⟨rfl, rfl, N1, hz, by omega, ?_⟩
    rw [hR, hmb, Nat.sub_self]
    exact lnF_0
  rw [hz.2.1 1 (by omega), h1] at hc1
  have hm3 : m1 < b := nI_nleN (by omega) hm2 hc1
  have hv : vp_in (nI m1) 24 := vp_in_nI (by omega) (by omega)
  have hst : (m1 + 1 - m) * 0 = (m1 - m) * 0 + 0 := by rw [show m1 + 1 - m = (m1 - m) + 1 by omega, Nat.succ_mul]
  have hbd2 : (m1 + 1 - m) * 0 ≤ 24 * 0 := Nat.mul_le_mul_right _ (by omega)
  refine ⟨fun hy => ⟨rfl, rfl, N1, hz, by omega, by rw [hR]; exact lnF_z hy⟩, fun hy => ⟨hv, ?_⟩⟩
  have hj : b - m1 = (b - (m1 + 1)) + 1 := by omega
  rw [hj] at hR
  rw [clN (by omega), hz.1 6 (by omega)]
  have go : ∀ (p s : Int32), ((¬ p = 0) ↔ psP X m1) → ((s = 0) ↔ ¬ (psP X m1)) → (∃ B_44 : TI → TJ → TS → TL → Int32 → Int64 → Int32 → Prop, (∀ (I_45 : TI) (J_46 : TJ) (S_47 : TS) (L_48 : TL) (x_49 : Int32) (y_50 : Int64) (x_51 : Int32), B_44 I_45 J_46 S_47 L_48 x_49 y_50 x_51 → (∀ x_52 : Int32, x_52 = x_51 + 1 → (∃ n_53, n_53 < (b - m1) ∧ (∃ m1 N', m ≤ m1 ∧ m1 ≤ b ∧ x_52 = nI m1 ∧ n_53 = b - m1 ∧ x_49 = nI k ∧ L_48 = L' ∧ Zm X S N' I_45 S_47 ∧ N' ≤ k + 1 + (m1 - m) * 0 ∧ R = lnF X n0 t p0 false (fun _ _ g => g) p1 k (b - m1) m1 y_50 (I_45, J_46, N'))))) ∧ (((¬ s = 0) → (B_44 I' J' S' L' (nI k) y (nI m1))) ∧ ((s = 0) → (wp_X2_lastDay n0 n1 I' J' S' L' (fun (r_58 : Int32) (I_54 : TI) (J_55 : TJ) (S_56 : TS) (L_57 : TL) => (wp_X0_holdsFor n0 n1 I_54 J_55 S_56 L_57 (nI m1) p1 p0 r_58 (fun (r_63 : Int32) (I_59 : TI) (J_60 : TJ) (S_61 : TS) (L_62 : TL) => (((¬ r_63 = 0) → (wp_X2_takenBy n0 n1 I_59 J_60 S_61 L_62 (nI m1) y (fun (r_68 : Int64) (I_64 : TI) (J_65 : TJ) (S_66 : TS) (L_67 : TL) => ((vp_in (nI m1) 24) ∧ ((vp_in (nI m1) 24) ∧ ∀ J_69 : TJ, J_69 = va_up J_65 31 (vp_updL (J_65 31) ((nI m1)).toNatClampNeg ((J_65 31 ((nI m1)).toNatClampNeg) + y)) → ((vp_in (nI m1) 24) ∧ ((vp_in (nI m1) 24) ∧ ∀ J_70 : TJ, J_70 = va_up J_69 30 (vp_updL (J_69 30) ((nI m1)).toNatClampNeg ((J_69 30 ((nI m1)).toNatClampNeg) + r_68)) → (∀ y_71 : Int64, y_71 = (y - r_68) → ((vp_in (nI m1) 24) ∧ (∃ B_72 : TI → TJ → TS → TL → Int32 → Int64 → Int32 → Int32 → Int64 → Prop, (∀ (I_73 : TI) (J_74 : TJ) (S_75 : TS) (L_76 : TL) (x_77 : Int32) (y_78 : Int64) (x_79 : Int32) (x_80 : Int32) (y_81 : Int64), B_72 I_73 J_74 S_75 L_76 x_77 y_78 x_79 x_80 y_81 → (((x_80 = 0) → (B_44 I_73 J_74 S_75 L_76 x_77 y_78 x_79)) ∧ ((¬ x_80 = 0) → ((((lg_cmp y_81 (0 : Int64)) ≤ 0) → (B_44 I_73 J_74 S_75 L_76 x_77 y_78 x_79)) ∧ ((¬ (lg_cmp y_81 (0 : Int64)) ≤ 0) → ((vp_in x_79 24) ∧ (False))))))) ∧ (((¬ (I_64 6 ((nI m1)).toNatClampNeg) = (4 : Int32)) → (B_72 I_64 J_70 S_66 L_67 (nI k) y_71 (nI m1) p r_68)) ∧ (((I_64 6 ((nI m1)).toNatClampNeg) = (4 : Int32)) → ((vp_in (((nI m1) * (40 : Int32)) + (S_66 3)) 960) ∧ ((vp_in (((nI m1) * (40 : Int32)) + (S_66 3)) 960) ∧ ∀ J_82 : TJ, J_82 = va_up J_70 32 (vp_updL (J_70 32) ((((nI m1) * (40 : Int32)) + (S_66 3))).toNatClampNeg ((J_70 32 ((((nI m1) * (40 : Int32)) + (S_66 3))).toNatClampNeg) + r_68)) → (B_72 I_64 J_82 S_66 L_67 (nI k) y_71 (nI m1) p r_68))))))))))))))) ∧ ((r_63 = 0) → (B_44 I_59 J_60 S_61 L_62 (nI k) y (nI m1))))))))))) := by
    intro p s hp hs
    refine ⟨fun I2 J2 S2 L2 a y2 x => a = nI k ∧ x = nI m1 ∧ L2 = L' ∧ ∃ N', Zm X S N' I2 S2 ∧ N' ≤ k + 1 + (m1 + 1 - m) * 0 ∧ R = lnF X n0 t p0 false (fun _ _ g => g) p1 k (b - (m1 + 1)) (m1 + 1) y2 (I2, J2, N'), ?_, fun hs0 => ?_, fun hs0 => ?_⟩
    · rintro I2 J2 S2 L2 a y2 x ⟨rfl, rfl, rfl, N', hz2, hN2, hR2⟩ x2 ex2
      exact ⟨b - (m1 + 1), by omega, m1 + 1, N', by omega, by omega, by rw [ex2]; exact nI_1 m1, rfl, rfl, rfl, hz2, hN2, hR2⟩
    · refine ⟨rfl, rfl, rfl, N1, hz, by omega, ?_⟩
      rw [hR]
      exact lnF_skip hy (fun q => by rcases q.2 with g | g; exact absurd g (by decide); exact hs0 (hs.mpr g))
    unfold wp_X2_lastDay
    rw [hz.2.1 3 (by omega), h3, ld_eq]
    refine e_holdsFor hz.1 (by omega) (fun hh => ⟨fun _ => ?_, fun hc => absurd hc (by decide)⟩) (fun hh => ⟨fun hc => absurd rfl hc, fun _ => ⟨rfl, rfl, rfl, N1, hz, by omega, ?_⟩⟩)
    rotate_left
    · rw [hR]
      exact lnF_skip hy (fun q => hh q.1)
    refine e_takenBy hz.1 (by omega) ?_
    rw [clN (show m1 < 2 ^ 31 by omega)]
    refine ⟨hv, hv, fun J2 e2 => ⟨hv, hv, fun J3 e3 => fun y2 ey2 => ⟨hv, ?_⟩⟩⟩
    have hhp : hdP X p0 p1 t m1 ∧ (false = true ∨ ¬ psP X m1) := ⟨hh, Or.inr (hs.mp hs0)⟩
    have e23 : J3 = mtB (mtA J' m1 y) m1 (tkF X J' m1 y) := by rw [e3, e2]; rfl
    refine ⟨fun I4 J4 S4 L4 a y4 x p4 r4 => I4 = I' ∧ J4 = meetF X t J' m1 y ∧ S4 = S' ∧ L4 = L' ∧ a = nI k ∧ y4 = y - tkF X J' m1 y ∧ x = nI m1 ∧ p4 = p ∧ r4 = tkF X J' m1 y, ?_, fun h4 => ⟨rfl, ?_, rfl, rfl, rfl, ey2, rfl, rfl, rfl⟩, fun h4 => ?_⟩
    · rintro I4 J4 S4 L4 a y4 x p4 r4 ⟨rfl, rfl, rfl, rfl, rfl, rfl, rfl, rfl, rfl⟩
      refine ⟨fun hp0 => ⟨rfl, rfl, rfl, N1, hz, by omega, ?_⟩, fun hp0 => absurd (hp.mp hp0) (hs.mp hs0)⟩
      rw [hR]
      exact lnF_keep hy hhp (fun q => absurd hp0 (hp.mpr q.1))
    · rw [e23]
      unfold meetF
      rw [if_neg (by rw [hz.1 6 (by omega)] at h4; exact h4)]
    · have e9 : nI m1 * (40 : Int32) + S' 3 = nI (m1 * 40 + t) := by
        rw [hz.2.1 3 (by omega), h3, show (40 : Int32) = nI 40 from rfl, pk_mul, nI_add]
      have hv9 : vp_in (nI (m1 * 40 + t)) 960 := vp_in_nI (by omega) (by omega)
      rw [e9, clN (show m1 * 40 + t < 2 ^ 31 by omega)]
      refine ⟨hv9, hv9, fun J4 e4 => ⟨rfl, ?_, rfl, rfl, rfl, ey2, rfl, rfl, rfl⟩⟩
      rw [e4, e23]
      unfold meetF
      rw [if_pos (by rw [hz.1 6 (by omega)] at h4; exact h4)]
      rfl
  refine s_X7_passesOn (fun hps => ?_) (fun hps => ?_)
  · refine ⟨fun I2 J2 S2 L2 a y2 x p s => I2 = I' ∧ J2 = J' ∧ S2 = S' ∧ L2 = L' ∧ a = nI k ∧ y2 = y ∧ x = nI m1 ∧ ((¬ p = 0) ↔ psP X m1) ∧ ((s = 0) ↔ ¬ psP X m1), ?_, fun I2 J2 S2 L2 a y2 x p => False, fun _ _ _ _ _ _ _ _ q => q.elim, fun hc => absurd hc (by decide), fun _ => ⟨fun hc => absurd hc (by decide), fun _ => ⟨rfl, rfl, rfl, rfl, rfl, rfl, rfl, ⟨fun _ => hps, fun _ => by decide⟩, ⟨fun q => absurd q (by decide), fun q => absurd hps q⟩⟩⟩⟩
    rintro I2 J2 S2 L2 a y2 x p s ⟨rfl, rfl, rfl, rfl, rfl, rfl, rfl, hp, hs⟩
    exact go p s hp hs
  · refine ⟨fun I2 J2 S2 L2 a y2 x p s => I2 = I' ∧ J2 = J' ∧ S2 = S' ∧ L2 = L' ∧ a = nI k ∧ y2 = y ∧ x = nI m1 ∧ ((¬ p = 0) ↔ psP X m1) ∧ ((s = 0) ↔ ¬ psP X m1), ?_, fun I2 J2 S2 L2 a y2 x p => I2 = I' ∧ J2 = J' ∧ S2 = S' ∧ L2 = L' ∧ a = nI k ∧ y2 = y ∧ x = nI m1 ∧ p = 0, ?_, fun _ => ⟨rfl, rfl, rfl, rfl, rfl, rfl, rfl, rfl⟩, fun hc => absurd rfl hc⟩
    · rintro I2 J2 S2 L2 a y2 x p s ⟨rfl, rfl, rfl, rfl, rfl, rfl, rfl, hp, hs⟩
      exact go p s hp hs
    · rintro I2 J2 S2 L2 a y2 x p ⟨rfl, rfl, rfl, rfl, rfl, rfl, rfl, rfl⟩
      exact ⟨rfl, rfl, rfl, rfl, rfl, rfl, rfl, ⟨fun q => absurd rfl q, fun q => absurd q hps⟩, ⟨fun _ => hps, fun _ => rfl⟩⟩
set_option maxHeartbeats 4000000 in
theorem e_runLine_1 {n0 n1 : Nat} {X I : TI} {J : TJ} {S : TS} {L : TL} {b t k m : Nat} {p0 p1 p2 : Int32} {p4 : Int64} {Φ : TI → TJ → TS → TL → Prop} (hX : ∀ j, j < 25 → I j = X j) (hb : b ≤ 24) (h1 : S 1 = nI b) (hBg : Bgs b X) (h3 : S 3 = nI t) (hc : t < 40) (h6 : S 6 = nI n0) (hn0 : n0 < 2 ^ 31) (h5 : S 5 = nI k) (hk : k + 25 < 2 ^ 31) (hw : W12 p1) (hp2 : p2 + 1 = nI m) (hm : m ≤ b) (hf : ∀ (I' : TI) (J' : TJ) (S' : TS) (N' : Nat), Zm X S N' I' S' → N' ≤ k + 25 → rl1 X n0 t b p0 p1 p2 m p4 (I, J, k) = (I', J', N') → Φ I' J' S' L) : wp_X2_runLine_1 n0 n1 I J S L p0 p1 p2 (nI 1) p4 Φ := by
  unfold wp_X2_runLine_1
  refine e_begin hX h5 (by omega) h6 hn0 (fun I1 J1 S1 hz1 hg1 => ?_)
  intro x ex
  rw [hp2] at ex
  subst ex
  have hR0 : rl1 X n0 t b p0 p1 p2 m p4 (I, J, k) = lnF X n0 t p0 true (fun k y g => rl2 X n0 t b p0 (X 13 k) (nI k) (k + 1) y g) p1 k (b - m) m p4 (I1, J1, k + 1) := by
    unfold rl1 rlF
    rw [hg1]
  generalize rl1 X n0 t b p0 p1 p2 m p4 (I, J, k) = R at hR0 hf
  refine ⟨fun n I' J' S' L' a y x => ∃ m1 N', m ≤ m1 ∧ m1 ≤ b ∧ x = nI m1 ∧ n = b - m1 ∧ a = nI k ∧ L' = L ∧ Zm X S N' I' S' ∧ N' ≤ k + 1 + (m1 - m) * 1 ∧ R = lnF X n0 t p0 true (fun k y g => rl2 X n0 t b p0 (X 13 k) (nI k) (k + 1) y g) p1 k (b - m1) m1 y (I', J', N'), ⟨b - m, m, k + 1, Nat.le_refl _, hm, rfl, rfl, rfl, rfl, hz1, by omega, hR0⟩, ?_⟩
  rintro n I' J' S' L' a y x ⟨m1, N1, hm1, hm2, rfl, rfl, rfl, rfl, hz, hN1, hR⟩
  have hbd : (m1 - m) * 1 ≤ 24 * 1 := Nat.mul_le_mul_right _ (by omega)
  have hi1 : vp_in p1 12 := W12_in hw
  refine ⟨fun I2 J2 S2 L2 a y => a = nI k ∧ L2 = L' ∧ ∃ N', Zm X S N' I2 S2 ∧ N' ≤ k + 25 ∧ R = enF n0 k p1.toNatClampNeg y (I2, J2, N'), ?_, fun hcb => ?_, fun hc1 => ?_⟩
  · rintro I2 J2 S2 L2 a y ⟨rfl, rfl, N', hz, hN, hR⟩
    refine ⟨hi1, hi1, fun J3 e3 => ?_⟩
    rw [show J3 = prF J2 p1.toNatClampNeg y from e3]
    exact e_end (N := N') (by omega) (by rw [hz.2.1 6 (by omega)]; exact h6) hn0 (fun J4 e4 => hf I2 J4 S2 N' hz hN (hR.trans e4))
  · rw [hz.2.1 1 (by omega), h1] at hcb
    have hmb : m1 = b := by
      have := (nI_leI (by omega) (by omega)).mp hcb
      omega
    refine ⟨rfl, rfl, N1, hz, by omega, ?_⟩
    rw [hR, hmb, Nat.sub_self]
    exact lnF_0
  rw [hz.2.1 1 (by omega), h1] at hc1
  have hm3 : m1 < b := nI_nleN (by omega) hm2 hc1
  have hv : vp_in (nI m1) 24 := vp_in_nI (by omega) (by omega)
  have hst : (m1 + 1 - m) * 1 = (m1 - m) * 1 + 1 := by rw [show m1 + 1 - m = (m1 - m) + 1 by omega, Nat.succ_mul]
  have hbd2 : (m1 + 1 - m) * 1 ≤ 24 * 1 := Nat.mul_le_mul_right _ (by omega)
  refine ⟨fun hy => ⟨rfl, rfl, N1, hz, by omega, by rw [hR]; exact lnF_z hy⟩, fun hy => ⟨hv, ?_⟩⟩
  have hj : b - m1 = (b - (m1 + 1)) + 1 := by omega
  rw [hj] at hR
  rw [clN (by omega), hz.1 6 (by omega)]
  have go : ∀ (p s : Int32), ((¬ p = 0) ↔ psP X m1) → ((s = 0) ↔ ¬ (False)) → (∃ B_44 : TI → TJ → TS → TL → Int32 → Int64 → Int32 → Prop, (∀ (I_45 : TI) (J_46 : TJ) (S_47 : TS) (L_48 : TL) (x_49 : Int32) (y_50 : Int64) (x_51 : Int32), B_44 I_45 J_46 S_47 L_48 x_49 y_50 x_51 → (∀ x_52 : Int32, x_52 = x_51 + 1 → (∃ n_53, n_53 < (b - m1) ∧ (∃ m1 N', m ≤ m1 ∧ m1 ≤ b ∧ x_52 = nI m1 ∧ n_53 = b - m1 ∧ x_49 = nI k ∧ L_48 = L' ∧ Zm X S N' I_45 S_47 ∧ N' ≤ k + 1 + (m1 - m) * 1 ∧ R = lnF X n0 t p0 true (fun k y g => rl2 X n0 t b p0 (X 13 k) (nI k) (k + 1) y g) p1 k (b - m1) m1 y_50 (I_45, J_46, N'))))) ∧ (((¬ s = 0) → (B_44 I' J' S' L' (nI k) y (nI m1))) ∧ ((s = 0) → (wp_X2_lastDay n0 n1 I' J' S' L' (fun (r_58 : Int32) (I_54 : TI) (J_55 : TJ) (S_56 : TS) (L_57 : TL) => (wp_X0_holdsFor n0 n1 I_54 J_55 S_56 L_57 (nI m1) p1 p0 r_58 (fun (r_63 : Int32) (I_59 : TI) (J_60 : TJ) (S_61 : TS) (L_62 : TL) => (((¬ r_63 = 0) → (wp_X2_takenBy n0 n1 I_59 J_60 S_61 L_62 (nI m1) y (fun (r_68 : Int64) (I_64 : TI) (J_65 : TJ) (S_66 : TS) (L_67 : TL) => ((vp_in (nI m1) 24) ∧ ((vp_in (nI m1) 24) ∧ ∀ J_69 : TJ, J_69 = va_up J_65 31 (vp_updL (J_65 31) ((nI m1)).toNatClampNeg ((J_65 31 ((nI m1)).toNatClampNeg) + y)) → ((vp_in (nI m1) 24) ∧ ((vp_in (nI m1) 24) ∧ ∀ J_70 : TJ, J_70 = va_up J_69 30 (vp_updL (J_69 30) ((nI m1)).toNatClampNeg ((J_69 30 ((nI m1)).toNatClampNeg) + r_68)) → (∀ y_71 : Int64, y_71 = (y - r_68) → ((vp_in (nI m1) 24) ∧ (∃ B_72 : TI → TJ → TS → TL → Int32 → Int64 → Int32 → Int32 → Int64 → Prop, (∀ (I_73 : TI) (J_74 : TJ) (S_75 : TS) (L_76 : TL) (x_77 : Int32) (y_78 : Int64) (x_79 : Int32) (x_80 : Int32) (y_81 : Int64), B_72 I_73 J_74 S_75 L_76 x_77 y_78 x_79 x_80 y_81 → (((x_80 = 0) → (B_44 I_73 J_74 S_75 L_76 x_77 y_78 x_79)) ∧ ((¬ x_80 = 0) → ((((lg_cmp y_81 (0 : Int64)) ≤ 0) → (B_44 I_73 J_74 S_75 L_76 x_77 y_78 x_79)) ∧ ((¬ (lg_cmp y_81 (0 : Int64)) ≤ 0) → ((vp_in x_79 24) ∧ (wp_X2_runLine_2 n0 n1 I_73 J_74 S_75 L_76 p0 (I_73 13 (x_79).toNatClampNeg) x_79 ((nI 1) + (1 : Int32)) y_81 (fun (I_82 : TI) (J_83 : TJ) (S_84 : TS) (L_85 : TL) => (B_44 I_82 J_83 S_84 L_85 x_77 y_78 x_79))))))))) ∧ (((¬ (I_64 6 ((nI m1)).toNatClampNeg) = (4 : Int32)) → (B_72 I_64 J_70 S_66 L_67 (nI k) y_71 (nI m1) p r_68)) ∧ (((I_64 6 ((nI m1)).toNatClampNeg) = (4 : Int32)) → ((vp_in (((nI m1) * (40 : Int32)) + (S_66 3)) 960) ∧ ((vp_in (((nI m1) * (40 : Int32)) + (S_66 3)) 960) ∧ ∀ J_86 : TJ, J_86 = va_up J_70 32 (vp_updL (J_70 32) ((((nI m1) * (40 : Int32)) + (S_66 3))).toNatClampNeg ((J_70 32 ((((nI m1) * (40 : Int32)) + (S_66 3))).toNatClampNeg) + r_68)) → (B_72 I_64 J_86 S_66 L_67 (nI k) y_71 (nI m1) p r_68))))))))))))))) ∧ ((r_63 = 0) → (B_44 I_59 J_60 S_61 L_62 (nI k) y (nI m1))))))))))) := by
    intro p s hp hs
    refine ⟨fun I2 J2 S2 L2 a y2 x => a = nI k ∧ x = nI m1 ∧ L2 = L' ∧ ∃ N', Zm X S N' I2 S2 ∧ N' ≤ k + 1 + (m1 + 1 - m) * 1 ∧ R = lnF X n0 t p0 true (fun k y g => rl2 X n0 t b p0 (X 13 k) (nI k) (k + 1) y g) p1 k (b - (m1 + 1)) (m1 + 1) y2 (I2, J2, N'), ?_, fun hs0 => ?_, fun hs0 => ?_⟩
    · rintro I2 J2 S2 L2 a y2 x ⟨rfl, rfl, rfl, N', hz2, hN2, hR2⟩ x2 ex2
      exact ⟨b - (m1 + 1), by omega, m1 + 1, N', by omega, by omega, by rw [ex2]; exact nI_1 m1, rfl, rfl, rfl, hz2, hN2, hR2⟩
    · refine ⟨rfl, rfl, rfl, N1, hz, by omega, ?_⟩
      rw [hR]
      exact lnF_skip hy (fun _ => hs0 (hs.mpr (fun q => q)))
    unfold wp_X2_lastDay
    rw [hz.2.1 3 (by omega), h3, ld_eq]
    refine e_holdsFor hz.1 (by omega) (fun hh => ⟨fun _ => ?_, fun hc => absurd hc (by decide)⟩) (fun hh => ⟨fun hc => absurd rfl hc, fun _ => ⟨rfl, rfl, rfl, N1, hz, by omega, ?_⟩⟩)
    rotate_left
    · rw [hR]
      exact lnF_skip hy (fun q => hh q.1)
    refine e_takenBy hz.1 (by omega) ?_
    rw [clN (show m1 < 2 ^ 31 by omega)]
    refine ⟨hv, hv, fun J2 e2 => ⟨hv, hv, fun J3 e3 => fun y2 ey2 => ⟨hv, ?_⟩⟩⟩
    have hhp : hdP X p0 p1 t m1 ∧ (true = true ∨ ¬ psP X m1) := ⟨hh, Or.inl rfl⟩
    have e23 : J3 = mtB (mtA J' m1 y) m1 (tkF X J' m1 y) := by rw [e3, e2]; rfl
    refine ⟨fun I4 J4 S4 L4 a y4 x p4 r4 => I4 = I' ∧ J4 = meetF X t J' m1 y ∧ S4 = S' ∧ L4 = L' ∧ a = nI k ∧ y4 = y - tkF X J' m1 y ∧ x = nI m1 ∧ p4 = p ∧ r4 = tkF X J' m1 y, ?_, fun h4 => ⟨rfl, ?_, rfl, rfl, rfl, ey2, rfl, rfl, rfl⟩, fun h4 => ?_⟩
    · rintro I4 J4 S4 L4 a y4 x p4 r4 ⟨rfl, rfl, rfl, rfl, rfl, rfl, rfl, rfl, rfl⟩
      refine ⟨fun hp0 => ⟨rfl, rfl, rfl, N1, hz, by omega, ?_⟩, fun hp0 => ⟨fun hr0 => ⟨rfl, rfl, rfl, N1, hz, by omega, ?_⟩, fun hr0 => ⟨hv, ?_⟩⟩⟩
      · rw [hR]
        exact lnF_keep hy hhp (fun q => absurd hp0 (hp.mpr q.1))
      · rw [hR]
        exact lnF_keep (g := (I4, J', N1)) (n := m1) (y := y) hy hhp (fun q => q.2 hr0)
      · have hps := hp.mp hp0
        rw [clN (by omega), show (nI 1 + 1 : Int32) = nI 2 from rfl, hz.1 13 (by omega)]
        refine e_runLine_2 (b := b) (t := t) (k := N1) (m := m1 + 1) hz.1 hb (by rw [hz.2.1 1 (by omega)]; exact h1) hBg (by rw [hz.2.1 3 (by omega)]; exact h3) hc (by rw [hz.2.1 6 (by omega)]; exact h6) hn0 hz.2.2 (by omega) ((hBg m1 hm3).2.1 hps) (nI_1 m1) (by omega) (fun I3 J3 S3 N3 hz3 hN3 hR3 => ⟨rfl, rfl, rfl, N3, ⟨hz3.1, fun j hj => (hz3.2.1 j hj).trans (hz.2.1 j hj), hz3.2.2⟩, by omega, ?_⟩)
        rw [hR, lnF_pass (g := (I4, J', N1)) (n := m1) (y := y) hy hhp ⟨hps, hr0⟩]
        show lnF X n0 t p0 true (fun k y g => rl2 X n0 t b p0 (X 13 k) (nI k) (k + 1) y g) p1 k (b - (m1 + 1)) (m1 + 1) (y - tkF X J' m1 y) (rl2 X n0 t b p0 (X 13 m1) (nI m1) (m1 + 1) (tkF X J' m1 y) (I4, meetF X t J' m1 y, N1)) = _
        rw [hR3]
    · rw [e23]
      unfold meetF
      rw [if_neg (by rw [hz.1 6 (by omega)] at h4; exact h4)]
    · have e9 : nI m1 * (40 : Int32) + S' 3 = nI (m1 * 40 + t) := by
        rw [hz.2.1 3 (by omega), h3, show (40 : Int32) = nI 40 from rfl, pk_mul, nI_add]
      have hv9 : vp_in (nI (m1 * 40 + t)) 960 := vp_in_nI (by omega) (by omega)
      rw [e9, clN (show m1 * 40 + t < 2 ^ 31 by omega)]
      refine ⟨hv9, hv9, fun J4 e4 => ⟨rfl, ?_, rfl, rfl, rfl, ey2, rfl, rfl, rfl⟩⟩
      rw [e4, e23]
      unfold meetF
      rw [if_pos (by rw [hz.1 6 (by omega)] at h4; exact h4)]
      rfl
  refine s_X7_passesOn (fun hps => ?_) (fun hps => ?_)
  · refine ⟨fun I2 J2 S2 L2 a y2 x p s => I2 = I' ∧ J2 = J' ∧ S2 = S' ∧ L2 = L' ∧ a = nI k ∧ y2 = y ∧ x = nI m1 ∧ ((¬ p = 0) ↔ psP X m1) ∧ s = 0, ?_, fun I2 J2 S2 L2 a y2 x p => I2 = I' ∧ J2 = J' ∧ S2 = S' ∧ L2 = L' ∧ a = nI k ∧ y2 = y ∧ x = nI m1 ∧ ((¬ p = 0) ↔ psP X m1), ?_, fun hc => absurd hc (by decide), fun _ => ⟨fun _ => ⟨rfl, rfl, rfl, rfl, rfl, rfl, rfl, ⟨fun _ => hps, fun _ => by decide⟩⟩, fun hc => absurd (by decide) hc⟩⟩
    · rintro I2 J2 S2 L2 a y2 x p s ⟨rfl, rfl, rfl, rfl, rfl, rfl, rfl, hp, hs⟩
      exact go p s hp ⟨fun _ q => q, fun _ => hs⟩
    · rintro I2 J2 S2 L2 a y2 x p ⟨rfl, rfl, rfl, rfl, rfl, rfl, rfl, hp⟩
      exact ⟨rfl, rfl, rfl, rfl, rfl, rfl, rfl, hp, rfl⟩
  · refine ⟨fun I2 J2 S2 L2 a y2 x p s => I2 = I' ∧ J2 = J' ∧ S2 = S' ∧ L2 = L' ∧ a = nI k ∧ y2 = y ∧ x = nI m1 ∧ ((¬ p = 0) ↔ psP X m1) ∧ s = 0, ?_, fun I2 J2 S2 L2 a y2 x p => I2 = I' ∧ J2 = J' ∧ S2 = S' ∧ L2 = L' ∧ a = nI k ∧ y2 = y ∧ x = nI m1 ∧ ((¬ p = 0) ↔ psP X m1), ?_, fun _ => ⟨rfl, rfl, rfl, rfl, rfl, rfl, rfl, ⟨fun q => absurd rfl q, fun q => absurd q hps⟩⟩, fun hc => absurd rfl hc⟩
    · rintro I2 J2 S2 L2 a y2 x p s ⟨rfl, rfl, rfl, rfl, rfl, rfl, rfl, hp, hs⟩
      exact go p s hp ⟨fun _ q => q, fun _ => hs⟩
    · rintro I2 J2 S2 L2 a y2 x p ⟨rfl, rfl, rfl, rfl, rfl, rfl, rfl, hp⟩
      exact ⟨rfl, rfl, rfl, rfl, rfl, rfl, rfl, hp, rfl⟩
set_option maxHeartbeats 4000000 in
theorem e_runLine_0 {n0 n1 : Nat} {X I : TI} {J : TJ} {S : TS} {L : TL} {b t k m : Nat} {p0 p1 p2 : Int32} {p4 : Int64} {Φ : TI → TJ → TS → TL → Prop} (hX : ∀ j, j < 25 → I j = X j) (hb : b ≤ 24) (h1 : S 1 = nI b) (hBg : Bgs b X) (h3 : S 3 = nI t) (hc : t < 40) (h6 : S 6 = nI n0) (hn0 : n0 < 2 ^ 31) (h5 : S 5 = nI k) (hk : k + 601 < 2 ^ 31) (hw : W12 p1) (hp2 : p2 + 1 = nI m) (hm : m ≤ b) (hf : ∀ (I' : TI) (J' : TJ) (S' : TS) (N' : Nat), Zm X S N' I' S' → N' ≤ k + 601 → rl0 X n0 t b p0 p1 p2 m p4 (I, J, k) = (I', J', N') → Φ I' J' S' L) : wp_X2_runLine_0 n0 n1 I J S L p0 p1 p2 (nI 0) p4 Φ := by
  unfold wp_X2_runLine_0
  refine e_begin hX h5 (by omega) h6 hn0 (fun I1 J1 S1 hz1 hg1 => ?_)
  intro x ex
  rw [hp2] at ex
  subst ex
  have hR0 : rl0 X n0 t b p0 p1 p2 m p4 (I, J, k) = lnF X n0 t p0 true (fun k y g => rl1 X n0 t b p0 (X 13 k) (nI k) (k + 1) y g) p1 k (b - m) m p4 (I1, J1, k + 1) := by
    unfold rl0 rlF
    rw [hg1]
  generalize rl0 X n0 t b p0 p1 p2 m p4 (I, J, k) = R at hR0 hf
  refine ⟨fun n I' J' S' L' a y x => ∃ m1 N', m ≤ m1 ∧ m1 ≤ b ∧ x = nI m1 ∧ n = b - m1 ∧ a = nI k ∧ L' = L ∧ Zm X S N' I' S' ∧ N' ≤ k + 1 + (m1 - m) * 25 ∧ R = lnF X n0 t p0 true (fun k y g => rl1 X n0 t b p0 (X 13 k) (nI k) (k + 1) y g) p1 k (b - m1) m1 y (I', J', N'), ⟨b - m, m, k + 1, Nat.le_refl _, hm, rfl, rfl, rfl, rfl, hz1, by omega, hR0⟩, ?_⟩
  rintro n I' J' S' L' a y x ⟨m1, N1, hm1, hm2, rfl, rfl, rfl, rfl, hz, hN1, hR⟩
  have hbd : (m1 - m) * 25 ≤ 24 * 25 := Nat.mul_le_mul_right _ (by omega)
  have hi1 : vp_in p1 12 := W12_in hw
  refine ⟨fun I2 J2 S2 L2 a y => a = nI k ∧ L2 = L' ∧ ∃ N', Zm X S N' I2 S2 ∧ N' ≤ k + 601 ∧ R = enF n0 k p1.toNatClampNeg y (I2, J2, N'), ?_, fun hcb => ?_, fun hc1 => ?_⟩
  · rintro I2 J2 S2 L2 a y ⟨rfl, rfl, N', hz, hN, hR⟩
    refine ⟨hi1, hi1, fun J3 e3 => ?_⟩
    rw [show J3 = prF J2 p1.toNatClampNeg y from e3]
    exact e_end (N := N') (by omega) (by rw [hz.2.1 6 (by omega)]; exact h6) hn0 (fun J4 e4 => hf I2 J4 S2 N' hz hN (hR.trans e4))
  · rw [hz.2.1 1 (by omega), h1] at hcb
    have hmb : m1 = b := by
      have := (nI_leI (by omega) (by omega)).mp hcb
      omega
    refine ⟨rfl, rfl, N1, hz, by omega, ?_⟩
    rw [hR, hmb, Nat.sub_self]
    exact lnF_0
  rw [hz.2.1 1 (by omega), h1] at hc1
  have hm3 : m1 < b := nI_nleN (by omega) hm2 hc1
  have hv : vp_in (nI m1) 24 := vp_in_nI (by omega) (by omega)
  have hst : (m1 + 1 - m) * 25 = (m1 - m) * 25 + 25 := by rw [show m1 + 1 - m = (m1 - m) + 1 by omega, Nat.succ_mul]
  have hbd2 : (m1 + 1 - m) * 25 ≤ 24 * 25 := Nat.mul_le_mul_right _ (by omega)
  refine ⟨fun hy => ⟨rfl, rfl, N1, hz, by omega, by rw [hR]; exact lnF_z hy⟩, fun hy => ⟨hv, ?_⟩⟩
  have hj : b - m1 = (b - (m1 + 1)) + 1 := by omega
  rw [hj] at hR
  rw [clN (by omega), hz.1 6 (by omega)]
  have go : ∀ (p s : Int32), ((¬ p = 0) ↔ psP X m1) → ((s = 0) ↔ ¬ (False)) → (∃ B_44 : TI → TJ → TS → TL → Int32 → Int64 → Int32 → Prop, (∀ (I_45 : TI) (J_46 : TJ) (S_47 : TS) (L_48 : TL) (x_49 : Int32) (y_50 : Int64) (x_51 : Int32), B_44 I_45 J_46 S_47 L_48 x_49 y_50 x_51 → (∀ x_52 : Int32, x_52 = x_51 + 1 → (∃ n_53, n_53 < (b - m1) ∧ (∃ m1 N', m ≤ m1 ∧ m1 ≤ b ∧ x_52 = nI m1 ∧ n_53 = b - m1 ∧ x_49 = nI k ∧ L_48 = L' ∧ Zm X S N' I_45 S_47 ∧ N' ≤ k + 1 + (m1 - m) * 25 ∧ R = lnF X n0 t p0 true (fun k y g => rl1 X n0 t b p0 (X 13 k) (nI k) (k + 1) y g) p1 k (b - m1) m1 y_50 (I_45, J_46, N'))))) ∧ (((¬ s = 0) → (B_44 I' J' S' L' (nI k) y (nI m1))) ∧ ((s = 0) → (wp_X2_lastDay n0 n1 I' J' S' L' (fun (r_58 : Int32) (I_54 : TI) (J_55 : TJ) (S_56 : TS) (L_57 : TL) => (wp_X0_holdsFor n0 n1 I_54 J_55 S_56 L_57 (nI m1) p1 p0 r_58 (fun (r_63 : Int32) (I_59 : TI) (J_60 : TJ) (S_61 : TS) (L_62 : TL) => (((¬ r_63 = 0) → (wp_X2_takenBy n0 n1 I_59 J_60 S_61 L_62 (nI m1) y (fun (r_68 : Int64) (I_64 : TI) (J_65 : TJ) (S_66 : TS) (L_67 : TL) => ((vp_in (nI m1) 24) ∧ ((vp_in (nI m1) 24) ∧ ∀ J_69 : TJ, J_69 = va_up J_65 31 (vp_updL (J_65 31) ((nI m1)).toNatClampNeg ((J_65 31 ((nI m1)).toNatClampNeg) + y)) → ((vp_in (nI m1) 24) ∧ ((vp_in (nI m1) 24) ∧ ∀ J_70 : TJ, J_70 = va_up J_69 30 (vp_updL (J_69 30) ((nI m1)).toNatClampNeg ((J_69 30 ((nI m1)).toNatClampNeg) + r_68)) → (∀ y_71 : Int64, y_71 = (y - r_68) → ((vp_in (nI m1) 24) ∧ (∃ B_72 : TI → TJ → TS → TL → Int32 → Int64 → Int32 → Int32 → Int64 → Prop, (∀ (I_73 : TI) (J_74 : TJ) (S_75 : TS) (L_76 : TL) (x_77 : Int32) (y_78 : Int64) (x_79 : Int32) (x_80 : Int32) (y_81 : Int64), B_72 I_73 J_74 S_75 L_76 x_77 y_78 x_79 x_80 y_81 → (((x_80 = 0) → (B_44 I_73 J_74 S_75 L_76 x_77 y_78 x_79)) ∧ ((¬ x_80 = 0) → ((((lg_cmp y_81 (0 : Int64)) ≤ 0) → (B_44 I_73 J_74 S_75 L_76 x_77 y_78 x_79)) ∧ ((¬ (lg_cmp y_81 (0 : Int64)) ≤ 0) → ((vp_in x_79 24) ∧ (wp_X2_runLine_1 n0 n1 I_73 J_74 S_75 L_76 p0 (I_73 13 (x_79).toNatClampNeg) x_79 ((nI 0) + (1 : Int32)) y_81 (fun (I_82 : TI) (J_83 : TJ) (S_84 : TS) (L_85 : TL) => (B_44 I_82 J_83 S_84 L_85 x_77 y_78 x_79))))))))) ∧ (((¬ (I_64 6 ((nI m1)).toNatClampNeg) = (4 : Int32)) → (B_72 I_64 J_70 S_66 L_67 (nI k) y_71 (nI m1) p r_68)) ∧ (((I_64 6 ((nI m1)).toNatClampNeg) = (4 : Int32)) → ((vp_in (((nI m1) * (40 : Int32)) + (S_66 3)) 960) ∧ ((vp_in (((nI m1) * (40 : Int32)) + (S_66 3)) 960) ∧ ∀ J_86 : TJ, J_86 = va_up J_70 32 (vp_updL (J_70 32) ((((nI m1) * (40 : Int32)) + (S_66 3))).toNatClampNeg ((J_70 32 ((((nI m1) * (40 : Int32)) + (S_66 3))).toNatClampNeg) + r_68)) → (B_72 I_64 J_86 S_66 L_67 (nI k) y_71 (nI m1) p r_68))))))))))))))) ∧ ((r_63 = 0) → (B_44 I_59 J_60 S_61 L_62 (nI k) y (nI m1))))))))))) := by
    intro p s hp hs
    refine ⟨fun I2 J2 S2 L2 a y2 x => a = nI k ∧ x = nI m1 ∧ L2 = L' ∧ ∃ N', Zm X S N' I2 S2 ∧ N' ≤ k + 1 + (m1 + 1 - m) * 25 ∧ R = lnF X n0 t p0 true (fun k y g => rl1 X n0 t b p0 (X 13 k) (nI k) (k + 1) y g) p1 k (b - (m1 + 1)) (m1 + 1) y2 (I2, J2, N'), ?_, fun hs0 => ?_, fun hs0 => ?_⟩
    · rintro I2 J2 S2 L2 a y2 x ⟨rfl, rfl, rfl, N', hz2, hN2, hR2⟩ x2 ex2
      exact ⟨b - (m1 + 1), by omega, m1 + 1, N', by omega, by omega, by rw [ex2]; exact nI_1 m1, rfl, rfl, rfl, hz2, hN2, hR2⟩
    · refine ⟨rfl, rfl, rfl, N1, hz, by omega, ?_⟩
      rw [hR]
      exact lnF_skip hy (fun _ => hs0 (hs.mpr (fun q => q)))
    unfold wp_X2_lastDay
    rw [hz.2.1 3 (by omega), h3, ld_eq]
    refine e_holdsFor hz.1 (by omega) (fun hh => ⟨fun _ => ?_, fun hc => absurd hc (by decide)⟩) (fun hh => ⟨fun hc => absurd rfl hc, fun _ => ⟨rfl, rfl, rfl, N1, hz, by omega, ?_⟩⟩)
    rotate_left
    · rw [hR]
      exact lnF_skip hy (fun q => hh q.1)
    refine e_takenBy hz.1 (by omega) ?_
    rw [clN (show m1 < 2 ^ 31 by omega)]
    refine ⟨hv, hv, fun J2 e2 => ⟨hv, hv, fun J3 e3 => fun y2 ey2 => ⟨hv, ?_⟩⟩⟩
    have hhp : hdP X p0 p1 t m1 ∧ (true = true ∨ ¬ psP X m1) := ⟨hh, Or.inl rfl⟩
    have e23 : J3 = mtB (mtA J' m1 y) m1 (tkF X J' m1 y) := by rw [e3, e2]; rfl
    refine ⟨fun I4 J4 S4 L4 a y4 x p4 r4 => I4 = I' ∧ J4 = meetF X t J' m1 y ∧ S4 = S' ∧ L4 = L' ∧ a = nI k ∧ y4 = y - tkF X J' m1 y ∧ x = nI m1 ∧ p4 = p ∧ r4 = tkF X J' m1 y, ?_, fun h4 => ⟨rfl, ?_, rfl, rfl, rfl, ey2, rfl, rfl, rfl⟩, fun h4 => ?_⟩
    · rintro I4 J4 S4 L4 a y4 x p4 r4 ⟨rfl, rfl, rfl, rfl, rfl, rfl, rfl, rfl, rfl⟩
      refine ⟨fun hp0 => ⟨rfl, rfl, rfl, N1, hz, by omega, ?_⟩, fun hp0 => ⟨fun hr0 => ⟨rfl, rfl, rfl, N1, hz, by omega, ?_⟩, fun hr0 => ⟨hv, ?_⟩⟩⟩
      · rw [hR]
        exact lnF_keep hy hhp (fun q => absurd hp0 (hp.mpr q.1))
      · rw [hR]
        exact lnF_keep (g := (I4, J', N1)) (n := m1) (y := y) hy hhp (fun q => q.2 hr0)
      · have hps := hp.mp hp0
        rw [clN (by omega), show (nI 0 + 1 : Int32) = nI 1 from rfl, hz.1 13 (by omega)]
        refine e_runLine_1 (b := b) (t := t) (k := N1) (m := m1 + 1) hz.1 hb (by rw [hz.2.1 1 (by omega)]; exact h1) hBg (by rw [hz.2.1 3 (by omega)]; exact h3) hc (by rw [hz.2.1 6 (by omega)]; exact h6) hn0 hz.2.2 (by omega) ((hBg m1 hm3).2.1 hps) (nI_1 m1) (by omega) (fun I3 J3 S3 N3 hz3 hN3 hR3 => ⟨rfl, rfl, rfl, N3, ⟨hz3.1, fun j hj => (hz3.2.1 j hj).trans (hz.2.1 j hj), hz3.2.2⟩, by omega, ?_⟩)
        rw [hR, lnF_pass (g := (I4, J', N1)) (n := m1) (y := y) hy hhp ⟨hps, hr0⟩]
        show lnF X n0 t p0 true (fun k y g => rl1 X n0 t b p0 (X 13 k) (nI k) (k + 1) y g) p1 k (b - (m1 + 1)) (m1 + 1) (y - tkF X J' m1 y) (rl1 X n0 t b p0 (X 13 m1) (nI m1) (m1 + 1) (tkF X J' m1 y) (I4, meetF X t J' m1 y, N1)) = _
        rw [hR3]
    · rw [e23]
      unfold meetF
      rw [if_neg (by rw [hz.1 6 (by omega)] at h4; exact h4)]
    · have e9 : nI m1 * (40 : Int32) + S' 3 = nI (m1 * 40 + t) := by
        rw [hz.2.1 3 (by omega), h3, show (40 : Int32) = nI 40 from rfl, pk_mul, nI_add]
      have hv9 : vp_in (nI (m1 * 40 + t)) 960 := vp_in_nI (by omega) (by omega)
      rw [e9, clN (show m1 * 40 + t < 2 ^ 31 by omega)]
      refine ⟨hv9, hv9, fun J4 e4 => ⟨rfl, ?_, rfl, rfl, rfl, ey2, rfl, rfl, rfl⟩⟩
      rw [e4, e23]
      unfold meetF
      rw [if_pos (by rw [hz.1 6 (by omega)] at h4; exact h4)]
      rfl
  refine s_X7_passesOn (fun hps => ?_) (fun hps => ?_)
  · refine ⟨fun I2 J2 S2 L2 a y2 x p s => I2 = I' ∧ J2 = J' ∧ S2 = S' ∧ L2 = L' ∧ a = nI k ∧ y2 = y ∧ x = nI m1 ∧ ((¬ p = 0) ↔ psP X m1) ∧ s = 0, ?_, fun I2 J2 S2 L2 a y2 x p => I2 = I' ∧ J2 = J' ∧ S2 = S' ∧ L2 = L' ∧ a = nI k ∧ y2 = y ∧ x = nI m1 ∧ ((¬ p = 0) ↔ psP X m1), ?_, fun hc => absurd hc (by decide), fun _ => ⟨fun _ => ⟨rfl, rfl, rfl, rfl, rfl, rfl, rfl, ⟨fun _ => hps, fun _ => by decide⟩⟩, fun hc => absurd (by decide) hc⟩⟩
    · rintro I2 J2 S2 L2 a y2 x p s ⟨rfl, rfl, rfl, rfl, rfl, rfl, rfl, hp, hs⟩
      exact go p s hp ⟨fun _ q => q, fun _ => hs⟩
    · rintro I2 J2 S2 L2 a y2 x p ⟨rfl, rfl, rfl, rfl, rfl, rfl, rfl, hp⟩
      exact ⟨rfl, rfl, rfl, rfl, rfl, rfl, rfl, hp, rfl⟩
  · refine ⟨fun I2 J2 S2 L2 a y2 x p s => I2 = I' ∧ J2 = J' ∧ S2 = S' ∧ L2 = L' ∧ a = nI k ∧ y2 = y ∧ x = nI m1 ∧ ((¬ p = 0) ↔ psP X m1) ∧ s = 0, ?_, fun I2 J2 S2 L2 a y2 x p => I2 = I' ∧ J2 = J' ∧ S2 = S' ∧ L2 = L' ∧ a = nI k ∧ y2 = y ∧ x = nI m1 ∧ ((¬ p = 0) ↔ psP X m1), ?_, fun _ => ⟨rfl, rfl, rfl, rfl, rfl, rfl, rfl, ⟨fun q => absurd rfl q, fun q => absurd q hps⟩⟩, fun hc => absurd rfl hc⟩
    · rintro I2 J2 S2 L2 a y2 x p s ⟨rfl, rfl, rfl, rfl, rfl, rfl, rfl, hp, hs⟩
      exact go p s hp ⟨fun _ q => q, fun _ => hs⟩
    · rintro I2 J2 S2 L2 a y2 x p ⟨rfl, rfl, rfl, rfl, rfl, rfl, rfl, hp⟩
      exact ⟨rfl, rfl, rfl, rfl, rfl, rfl, rfl, hp, rfl⟩
