/-- the reference's BARGAINS are X's -/
def BM (X Im : TI) : Prop := Im 5 = X 6 ∧ Im 6 = X 7 ∧ Im 7 = X 8 ∧ Im 8 = X 9 ∧ Im 9 = X 10 ∧ Im 10 = X 11 ∧ Im 11 = X 12 ∧ Im 12 = X 13
/-- ledger l of the reference holds what J does (of what came to a FLOOR nothing is said) -/
def MV (l : Nat) (X : TI) (J Jm : TJ) : Prop := (∀ h, h < 12 → Jm 21 (12 * l + h) = J 26 h) ∧ (∀ n, n < 24 → Jm 23 (24 * l + n) = J 30 n) ∧ (∀ n, n < 24 → ¬ X 6 n = 2 → Jm 24 (24 * l + n) = J 31 n) ∧ (∀ n t, n < 24 → t < 40 → Jm 25 ((l * 24 + n) * 40 + t) = J 32 (n * 40 + t))
/-- the LINES that were told, but the ends of those that are open -/
def MRc (op : Nat → Prop) (I : TI) (J : TJ) (N : Nat) (Im : TI) (Jm : TJ) (Sm : TS) : Prop := Sm 3 = nI N ∧ ∀ i, i < N → i < 600 → Im 33 i = I 34 i ∧ Im 34 i = I 35 i ∧ Im 35 i = I 36 i ∧ Jm 36 i = J 37 i ∧ (¬ op i → Jm 37 i = J 38 i)
def MFr (l : Nat) (Jm Jm' : TJ) : Prop := (∀ k, k ≠ 21 → k ≠ 23 → k ≠ 24 → k ≠ 25 → k ≠ 28 → k ≠ 32 → k ≠ 36 → k ≠ 37 → Jm' k = Jm k) ∧ (∀ i, ¬ (12 * l ≤ i ∧ i < 12 * l + 12) → Jm' 21 i = Jm 21 i) ∧ (∀ i, ¬ (24 * l ≤ i ∧ i < 24 * l + 24) → Jm' 23 i = Jm 23 i ∧ Jm' 24 i = Jm 24 i) ∧ (∀ i, ¬ (960 * l ≤ i ∧ i < 960 * l + 960) → Jm' 25 i = Jm 25 i) ∧ (∀ i, i ≠ l → Jm' 28 i = Jm 28 i) ∧ (l ≠ 0 → Jm' 36 = Jm 36 ∧ Jm' 37 = Jm 37)
theorem MFr.rf {l : Nat} {J : TJ} : MFr l J J := ⟨fun _ _ _ _ _ _ _ _ _ => rfl, fun _ _ => rfl, fun _ _ => ⟨rfl, rfl⟩, fun _ _ => rfl, fun _ _ => rfl, fun _ => ⟨rfl, rfl⟩⟩
theorem MFr.tr {l : Nat} {J J1 J2 : TJ} (a : MFr l J J1) (b : MFr l J1 J2) : MFr l J J2 := by
  obtain ⟨a1, a2, a3, a4, a5, a6⟩ := a
  obtain ⟨b1, b2, b3, b4, b5, b6⟩ := b
  exact ⟨fun k h1 h2 h3 h4 h5 h6 h7 h8 => (b1 k h1 h2 h3 h4 h5 h6 h7 h8).trans (a1 k h1 h2 h3 h4 h5 h6 h7 h8), fun i h => (b2 i h).trans (a2 i h), fun i h => ⟨(b3 i h).1.trans (a3 i h).1, (b3 i h).2.trans (a3 i h).2⟩, fun i h => (b4 i h).trans (a4 i h), fun i h => (b5 i h).trans (a5 i h), fun h => ⟨(b6 h).1.trans (a6 h).1, (b6 h).2.trans (a6 h).2⟩⟩
def MFi (l : Nat) (Im Im' : TI) : Prop := (∀ n, n < 29 ∨ 36 ≤ n → Im' n = Im n) ∧ (l ≠ 0 → Im' 33 = Im 33 ∧ Im' 34 = Im 34 ∧ Im' 35 = Im 35)
theorem MFi.rf {l : Nat} {I : TI} : MFi l I I := ⟨fun _ _ => rfl, fun _ => ⟨rfl, rfl, rfl⟩⟩
theorem MFi.tr {l : Nat} {I I1 I2 : TI} (a : MFi l I I1) (b : MFi l I1 I2) : MFi l I I2 := ⟨fun n h => (b.1 n h).trans (a.1 n h), fun h => ⟨(b.2 h).1.trans (a.2 h).1, (b.2 h).2.1.trans (a.2 h).2.1, (b.2 h).2.2.trans (a.2 h).2.2⟩⟩
def MFs (l : Nat) (S S' : TS) : Prop := (∀ j, j ≠ 2 → j ≠ 3 → S' j = S j) ∧ (l ≠ 0 → S' 3 = S 3)
theorem MFs.tr {l : Nat} {S S1 S2 : TS} (a : MFs l S S1) (b : MFs l S1 S2) : MFs l S S2 := ⟨fun j h2 h3 => (b.1 j h2 h3).trans (a.1 j h2 h3), fun h => (b.2 h).trans (a.2 h)⟩
def tl (l N : Nat) : Int32 := if l = 0 ∧ N < 600 then nI N else -1
/-- what begins does -/
def BP (l N d : Nat) (p1 p2 p3 : Int32) (p4 : Int64) (I : TI) (J : TJ) (S : TS) (I' : TI) (J' : TJ) (S' : TS) : Prop :=
  (∀ k, k ≠ 29 → k ≠ 30 → k ≠ 31 → k ≠ 33 → k ≠ 34 → k ≠ 35 → I' k = I k) ∧ I' 29 = upd (I 29) d p2 ∧ I' 30 = upd (I 30) d (p3 + 1) ∧ I' 31 = upd (I 31) d (tl l N) ∧
  (∀ k, k ≠ 32 → k ≠ 36 → k ≠ 37 → J' k = J k) ∧ J' 32 = vp_updL (J 32) d p4 ∧ (∀ j, j ≠ 2 → j ≠ 3 → S' j = S j) ∧ S' 2 = nI (d + 1) ∧
  (l ≠ 0 → I' 33 = I 33 ∧ I' 34 = I 34 ∧ I' 35 = I 35 ∧ J' 36 = J 36 ∧ J' 37 = J 37 ∧ S' 3 = S 3) ∧
  (l = 0 → S' 3 = nI (N + 1) ∧ (N < 600 → I' 33 = upd (I 33) N p1 ∧ I' 34 = upd (I 34) N p2 ∧ I' 35 = upd (I 35) N p3 ∧ J' 36 = vp_updL (J 36) N p4 ∧ J' 37 = vp_updL (J 37) N 0) ∧ (¬ N < 600 → I' 33 = I 33 ∧ I' 34 = I 34 ∧ I' 35 = I 35 ∧ J' 36 = J 36 ∧ J' 37 = J 37))
section
variable {I : TI} {J : TJ} {S : TS} {L : TL}
theorem n2_begins {d l N : Nat} {p1 p2 p3 : Int32} {p4 : Int64} {Φ : TI → TJ → TS → TL → Prop} (hd : d < 3) (hl : l < 2) (s2 : S 2 = nI d) (hN : l = 0 → S 3 = nI N) (hN2 : N < 2 ^ 31) (hf : ∀ (I' : TI) (J' : TJ) (S' : TS), BP l N d p1 p2 p3 p4 I J S I' J' S' → Φ I' J' S' L) : wp_X8_begins I J S L (nI l) p1 p2 p3 p4 Φ := by
  unfold wp_X8_begins
  have h0 : nI l = 0 ↔ l = 0 := nI_eq (b := 0) (by omega) (by omega)
  refine ⟨fun I' J' S' L' x => L' = L ∧ x = tl l N ∧ I' 29 = I 29 ∧ I' 30 = I 30 ∧ I' 31 = I 31 ∧ J' 32 = J 32 ∧ (∀ k, k ≠ 33 → k ≠ 34 → k ≠ 35 → I' k = I k) ∧ (∀ k, k ≠ 36 → k ≠ 37 → J' k = J k) ∧ (∀ j, j ≠ 3 → S' j = S j) ∧ (l ≠ 0 → I' 33 = I 33 ∧ I' 34 = I 34 ∧ I' 35 = I 35 ∧ J' 36 = J 36 ∧ J' 37 = J 37 ∧ S' 3 = S 3) ∧ (l = 0 → S' 3 = nI (N + 1) ∧ (N < 600 → I' 33 = upd (I 33) N p1 ∧ I' 34 = upd (I 34) N p2 ∧ I' 35 = upd (I 35) N p3 ∧ J' 36 = vp_updL (J 36) N p4 ∧ J' 37 = vp_updL (J 37) N 0) ∧ (¬ N < 600 → I' 33 = I 33 ∧ I' 34 = I 34 ∧ I' 35 = I 35 ∧ J' 36 = J 36 ∧ J' 37 = J 37)), ?_, fun h => ?_, fun h => ?_⟩
  · rintro I' J' S' L' x ⟨rfl, rfl, e29, e30, e31, e32, hI, hJ, hS, hl1, hl0⟩
    rw [hS 2 (by omega), s2, clN (by omega)]
    have hv : vp_in (nI d) 3 := vp_in_nI hd (by omega)
    refine ⟨hv, fun I1 e1 => ⟨hv, fun I2 e2 => ⟨hv, fun J3 e3 => ⟨hv, fun I4 e4 => fun S5 e5 => ?_⟩⟩⟩⟩
    have g1 : ∀ k, k ≠ 29 → I1 k = I' k := fun k hk => by rw [e1, va_up_ne _ _ hk]
    have g2 : ∀ k, k ≠ 30 → I2 k = I1 k := fun k hk => by rw [e2, va_up_ne _ _ hk]
    have g4 : ∀ k, k ≠ 31 → I4 k = I2 k := fun k hk => by rw [e4, va_up_ne _ _ hk]
    have gI : ∀ k, k ≠ 29 → k ≠ 30 → k ≠ 31 → I4 k = I' k := fun k a b c => by rw [g4 k c, g2 k b, g1 k a]
    have gJ : ∀ k, k ≠ 32 → J3 k = J' k := fun k hk => by rw [e3, va_up_ne _ _ hk]
    have gS : ∀ j, j ≠ 2 → S5 j = S' j := fun j hj => by rw [e5, va_up_ne _ _ hj]
    refine hf I4 J3 S5 ⟨fun k a b c d e f => (gI k a b c).trans (hI k d e f), by rw [g4 29 (by omega), g2 29 (by omega), e1, va_up_self, e29], by rw [g4 30 (by omega), e2, va_up_self, g1 30 (by omega), e30], by rw [e4, va_up_self, g2 31 (by omega), g1 31 (by omega), e31], fun k a b c => (gJ k a).trans (hJ k b c), by rw [e3, va_up_self, e32], fun j a b => (gS j a).trans (hS j b), by rw [e5, va_up_self]; exact nI_1 d, fun h => ?_, fun h => ?_⟩
    · rw [gI 33 (by omega) (by omega) (by omega), gI 34 (by omega) (by omega) (by omega), gI 35 (by omega) (by omega) (by omega), gJ 36 (by omega), gJ 37 (by omega), gS 3 (by omega)]
      exact hl1 h
    · rw [gI 33 (by omega) (by omega) (by omega), gI 34 (by omega) (by omega) (by omega), gI 35 (by omega) (by omega) (by omega), gJ 36 (by omega), gJ 37 (by omega), gS 3 (by omega)]
      exact hl0 h
  · have hl1 : l ≠ 0 := fun q => h (h0.mpr q)
    refine ⟨rfl, ?_, rfl, rfl, rfl, rfl, fun _ _ _ _ => rfl, fun _ _ _ => rfl, fun _ _ => rfl, fun _ => ⟨rfl, rfl, rfl, rfl, rfl, rfl⟩, fun q => absurd q hl1⟩
    unfold tl
    rw [if_neg (fun q => hl1 q.1)]
  · have hl0 := h0.mp h
    have s3 := hN hl0
    rw [s3]
    have e6 : nI 600 ≤ nI N ↔ 600 ≤ N := nI_leI (by omega) hN2
    refine ⟨fun I' J' S' L' x => L' = L ∧ x = tl l N ∧ S' = S ∧ (∀ k, k ≠ 33 → k ≠ 34 → k ≠ 35 → I' k = I k) ∧ (∀ k, k ≠ 36 → k ≠ 37 → J' k = J k) ∧ (N < 600 → I' 33 = upd (I 33) N p1 ∧ I' 34 = upd (I 34) N p2 ∧ I' 35 = upd (I 35) N p3 ∧ J' 36 = vp_updL (J 36) N p4 ∧ J' 37 = vp_updL (J 37) N 0) ∧ (¬ N < 600 → I' 33 = I 33 ∧ I' 34 = I 34 ∧ I' 35 = I 35 ∧ J' 36 = J 36 ∧ J' 37 = J 37), ?_, fun h6 => ?_, fun h6 => ?_⟩
    · rintro I' J' S' L' x ⟨rfl, rfl, rfl, hI, hJ, ha, hb⟩ S1 e1
      exact ⟨rfl, rfl, hI 29 (by omega) (by omega) (by omega), hI 30 (by omega) (by omega) (by omega), hI 31 (by omega) (by omega) (by omega), hJ 32 (by omega) (by omega), hI, hJ, fun j hj => by rw [e1, va_up_ne _ _ hj], fun q => absurd hl0 q, fun _ => ⟨by rw [e1, va_up_self, s3]; exact nI_1 N, ha, hb⟩⟩
    · have h6' : 600 ≤ N := e6.mp h6
      refine ⟨rfl, ?_, rfl, fun _ _ _ _ => rfl, fun _ _ _ => rfl, fun q => absurd q (by omega), fun _ => ⟨rfl, rfl, rfl, rfl, rfl⟩⟩
      unfold tl
      rw [if_neg (fun q => absurd q.2 (by omega))]
    · intro x hx
      subst hx
      have h6' : N < 600 := by
        rcases Nat.lt_or_ge N 600 with q | q
        · exact q
        · exact absurd (e6.mpr q) h6
      have hv : vp_in (nI N) 600 := vp_in_nI h6' (by omega)
      rw [clN hN2]
      refine ⟨hv, fun I1 e1 => ⟨hv, fun I2 e2 => ⟨hv, fun I3 e3 => ⟨hv, fun J1 e4 => ⟨hv, fun J2 e5 => ?_⟩⟩⟩⟩⟩
      refine ⟨rfl, ?_, rfl, fun k a b c => by rw [e3, va_up_ne _ _ c, e2, va_up_ne _ _ b, e1, va_up_ne _ _ a], fun k a b => by rw [e5, va_up_ne _ _ b, e4, va_up_ne _ _ a], fun _ => ⟨?_, ?_, ?_, ?_, ?_⟩, fun q => absurd h6' q⟩
      · unfold tl
        rw [if_pos ⟨hl0, h6'⟩]
      · rw [e3, va_up_ne _ _ (by omega), e2, va_up_ne _ _ (by omega), e1, va_up_self]
      · rw [e3, va_up_ne _ _ (by omega), e2, va_up_self, e1, va_up_ne _ _ (by omega)]
      · rw [e3, va_up_self, e2, va_up_ne _ _ (by omega), e1, va_up_ne _ _ (by omega)]
      · rw [e5, va_up_ne _ _ (by omega), e4, va_up_self]
      · rw [e5, va_up_self, e4, va_up_ne _ _ (by omega)]
end
def jmA (l t n : Nat) (J : TJ) (r : Int64) : TJ := va_up J 25 (vp_updL (J 25) ((l * 24 + n) * 40 + t) (J 25 ((l * 24 + n) * 40 + t) + r))
def jmB (l n : Nat) (J : TJ) (y : Int64) : TJ := va_up J 24 (vp_updL (J 24) (24 * l + n) (J 24 (24 * l + n) + y))
def jmC (l n : Nat) (J : TJ) (r : Int64) : TJ := va_up J 23 (vp_updL (J 23) (24 * l + n) (J 23 (24 * l + n) + r))
def jmD (d : Nat) (J : TJ) (v : Int64) : TJ := va_up J 32 (vp_updL (J 32) d v)
/-- what meets does to the longs -/
def jmF (X : TI) (l t n d : Nat) (J : TJ) (y r : Int64) : TJ := jmD d (jmC l n (jmB l n (if X 6 n = 4 then jmA l t n J r else J) y) r) (y - r)
section
variable {X : TI} {l t n d : Nat} {J : TJ} {y r : Int64}
theorem jm_21 : jmF X l t n d J y r 21 = J 21 := by
  unfold jmF jmD jmC jmB
  rw [va_up_ne _ _ (by omega), va_up_ne _ _ (by omega), va_up_ne _ _ (by omega)]
  split
  · unfold jmA
    rw [va_up_ne _ _ (by omega)]
  · rfl
theorem jm_o {k : Nat} (h3 : k ≠ 23) (h4 : k ≠ 24) (h5 : k ≠ 25) (h2 : k ≠ 32) : jmF X l t n d J y r k = J k := by
  unfold jmF jmD jmC jmB
  rw [va_up_ne _ _ h2, va_up_ne _ _ h3, va_up_ne _ _ h4]
  split
  · unfold jmA
    rw [va_up_ne _ _ h5]
  · rfl
theorem jm_23 : jmF X l t n d J y r 23 = vp_updL (J 23) (24 * l + n) (J 23 (24 * l + n) + r) := by
  unfold jmF jmD jmC jmB
  rw [va_up_ne _ _ (by omega), va_up_self, va_up_ne _ _ (by omega)]
  split
  · unfold jmA
    rw [va_up_ne _ _ (by omega)]
  · rfl
theorem jm_24 : jmF X l t n d J y r 24 = vp_updL (J 24) (24 * l + n) (J 24 (24 * l + n) + y) := by
  unfold jmF jmD jmC jmB
  rw [va_up_ne _ _ (by omega), va_up_ne _ _ (by omega), va_up_self]
  split
  · unfold jmA
    rw [va_up_ne _ _ (by omega)]
  · rfl
theorem jm_25 : jmF X l t n d J y r 25 = if X 6 n = 4 then vp_updL (J 25) ((l * 24 + n) * 40 + t) (J 25 ((l * 24 + n) * 40 + t) + r) else J 25 := by
  unfold jmF jmD jmC jmB
  rw [va_up_ne _ _ (by omega), va_up_ne _ _ (by omega), va_up_ne _ _ (by omega)]
  split
  · unfold jmA
    rw [va_up_self]
  · rfl
theorem jm_32 : jmF X l t n d J y r 32 = vp_updL (J 32) d (y - r) := by
  unfold jmF jmD jmC jmB
  rw [va_up_self, va_up_ne _ _ (by omega), va_up_ne _ _ (by omega)]
  split
  · unfold jmA
    rw [va_up_ne _ _ (by omega)]
  · rfl
end
theorem MV.meet {l t n d : Nat} {X : TI} {J Jm : TJ} {y : Int64} (h : MV l X J Jm) (hn : n < 24) (ht : t < 40) : MV l X (meetF X t J n y) (jmF X l t n d Jm y (tkF X J n y)) := by
  obtain ⟨a, b, c, e⟩ := h
  refine ⟨fun h hh => ?_, fun k hk => ?_, fun k hk h2 => ?_, fun k u hk hu => ?_⟩
  · rw [jm_21, meet_o (by omega) (by omega) (by omega)]
    exact a h hh
  · rw [jm_23, meet_30]
    by_cases g : k = n
    · subst g
      rw [pk_uLs, pk_uLs, b k hk]
    · rw [pk_uLn g, pk_uLn (by omega), b k hk]
  · rw [jm_24, meet_31]
    by_cases g : k = n
    · subst g
      rw [pk_uLs, pk_uLs, c k hk h2]
    · rw [pk_uLn g, pk_uLn (by omega), c k hk h2]
  · rw [jm_25, meet_32]
    split
    · by_cases g : k * 40 + u = n * 40 + t
      · have gk : k = n := by omega
        have gu : u = t := by omega
        subst gk gu
        rw [pk_uLs, pk_uLs, e k u hk hu]
      · rw [pk_uLn g, pk_uLn (by omega), e k u hk hu]
    · exact e k u hk hu
theorem jm_fr {X : TI} {l t n d : Nat} {J : TJ} {y r : Int64} (hn : n < 24) (ht : t < 40) : MFr l J (jmF X l t n d J y r) := by
  refine ⟨fun k _ h3 h4 h5 _ h2 _ _ => jm_o h3 h4 h5 h2, fun i _ => by rw [jm_21], fun i hi => ⟨?_, ?_⟩, fun i hi => ?_, fun i _ => by rw [jm_o (by omega) (by omega) (by omega) (by omega)], fun _ => ⟨jm_o (by omega) (by omega) (by omega) (by omega), jm_o (by omega) (by omega) (by omega) (by omega)⟩⟩
  · rw [jm_23, pk_uLn (by omega)]
  · rw [jm_24, pk_uLn (by omega)]
  · rw [jm_25]
    split
    · rw [pk_uLn (by omega)]
    · rfl
/-- what comes of meets -/
def MO (X : TI) (l t n d N : Nat) (p2 : Int32) (Ja : TJ) (y : Int64) (I : TI) (J : TJ) (S : TS) (I' : TI) (J' : TJ) (S' : TS) : Prop :=
  ((psP X n ∧ d = 2) ∧ I' = I ∧ J' = J ∧ S' = S) ∨ (X 6 n = 2 ∧ I' = I ∧ J' = J ∧ S' = S) ∨
  (¬ X 6 n = 2 ∧ (psP X n → d < 2) ∧ ¬ (psP X n ∧ ¬ lg_cmp (tkF X Ja n y) 0 ≤ 0) ∧ I' = I ∧ J' = jmF X l t n d J y (tkF X Ja n y) ∧ S' = S) ∨
  (¬ X 6 n = 2 ∧ d < 2 ∧ (psP X n ∧ ¬ lg_cmp (tkF X Ja n y) 0 ≤ 0) ∧ BP l N (d + 1) p2 (X 13 n) (nI n) (tkF X Ja n y) I (jmF X l t n d J y (tkF X Ja n y)) S I' J' S')
section
variable {X I : TI} {J : TJ} {S : TS} {L : TL}
theorem MV.k3 {l n : Nat} {J Jm : TJ} (h : MV l X J Jm) (hn : n < 24) : Jm 23 (24 * l + n) = J 30 n := h.2.1 n hn
set_option maxHeartbeats 2000000 in
theorem n2_meets {b d l t n N : Nat} {Ja : TJ} {p2 : Int32} {Φ : TI → TJ → TS → TL → Prop} (hM : BM X I) (hB : BgX b X) (hb : b ≤ 24) (hn : n < b) (hl : l < 2) (ht : t < 40) (hd : d < 3) (s2 : S 2 = nI (d + 1)) (hN : l = 0 → S 3 = nI N) (hN2 : N < 2 ^ 31) (hV : MV l X Ja J) (hf : ∀ (I' : TI) (J' : TJ) (S' : TS), MO X l t n d N p2 Ja (J 32 d) I J S I' J' S' → Φ I' J' S' L) : wp_X8_meets I J S L (nI l) (nI t) p2 (nI n) (nI d) Φ := by
  obtain ⟨m5, m6, m7, m8, m9, m10, m11, m12⟩ := hM
  unfold wp_X8_meets
  intro x hx
  rw [show (24 : Int32) = nI 24 from rfl, pk_mul, nI_add] at hx
  subst hx
  have hv4 : vp_in (nI (24 * l + n)) 48 := vp_in_nI (by omega) (by omega)
  have hv3 : vp_in (nI d) 3 := vp_in_nI hd (by omega)
  have hvn : vp_in (nI n) 24 := vp_in_nI (by omega) (by omega)
  rw [clN (show n < 2 ^ 31 by omega), clN (show d < 2 ^ 31 by omega), clN (show 24 * l + n < 2 ^ 31 by omega), m5, m9, m10]
  refine ⟨hv3, fun y ey => ⟨hvn, ?_⟩⟩
  rw [← ey] at hf
  have d2 : ¬ nI d = (2 : Int32) → d < 2 := fun h => by
    rcases Nat.lt_or_ge d 2 with g | g
    · exact g
    · exact absurd (by rw [show d = 2 by omega]; rfl) h
  have d2' : nI d = (2 : Int32) → d = 2 := fun h => (nI_eq (b := 2) (by omega) (by omega)).mp h
  have k30 := hV.2.1 n (by omega)
  have key : ∀ (k2 : ¬ X 6 n = 2) (hps : psP X n → d < 2) (J' : TJ) (z : Int64), z = tkF X Ja n y → J' = (if X 6 n = 4 then jmA l t n J (tkF X Ja n y) else J) → ((vp_in (nI (24 * l + n)) 48) ∧ ((vp_in (nI (24 * l + n)) 48) ∧ ∀ J_11 : TJ, J_11 = va_up J' 24 (vp_updL (J' 24) (nI (24 * l + n)).toNatClampNeg ((J' 24 (nI (24 * l + n)).toNatClampNeg) + y)) → ((vp_in (nI (24 * l + n)) 48) ∧ ((vp_in (nI (24 * l + n)) 48) ∧ ∀ J_12 : TJ, J_12 = va_up J_11 23 (vp_updL (J_11 23) (nI (24 * l + n)).toNatClampNeg ((J_11 23 (nI (24 * l + n)).toNatClampNeg) + z)) → ((vp_in (nI d) 3) ∧ ∀ J_13 : TJ, J_13 = va_up J_12 32 (vp_updL (J_12 32) d (y - z)) → ((vp_in (nI n) 24) ∧ (∃ B_14 : TI → TJ → TS → TL → Prop, (∀ (I_15 : TI) (J_16 : TJ) (S_17 : TS) (L_18 : TL), B_14 I_15 J_16 S_17 L_18 → (Φ I_15 J_16 S_17 L_18)) ∧ (∃ B_19 : TI → TJ → TS → TL → Int64 → Prop, (∀ (I_20 : TI) (J_21 : TJ) (S_22 : TS) (L_23 : TL) (y_24 : Int64), B_19 I_20 J_21 S_22 L_23 y_24 → ((((lg_cmp y_24 (0 : Int64)) ≤ 0) → (B_14 I_20 J_21 S_22 L_23)) ∧ ((¬ (lg_cmp y_24 (0 : Int64)) ≤ 0) → ((vp_in (nI n) 24) ∧ (wp_X8_begins I_20 J_21 S_22 L_23 (nI l) p2 (I_20 12 n) (nI n) y_24 (fun (I_25 : TI) (J_26 : TJ) (S_27 : TS) (L_28 : TL) => (B_14 I_25 J_26 S_27 L_28))))))) ∧ ((((I 5 n) = 0) → (B_19 I J_13 S L z)) ∧ ((¬ (I 5 n) = 0) → ((vp_in (nI n) 24) ∧ (((¬ (I 5 n) = (3 : Int32)) → (B_14 I J_13 S L)) ∧ (((I 5 n) = (3 : Int32)) → (B_19 I J_13 S L z)))))))))))))) := by
    intro k2 hps J' z ez eJ'
    subst ez
    rw [clN (show 24 * l + n < 2 ^ 31 by omega), m5]
    refine ⟨hv4, hv4, fun J1 e1 => ⟨hv4, hv4, fun J2 e2 => ⟨hv3, fun J3 e3 => ⟨hvn, ?_⟩⟩⟩⟩
    have e123 : J3 = jmF X l t n d J y (tkF X Ja n y) := by
      rw [e3, e2, e1, eJ']
      rfl
    subst e123
    refine ⟨_, fun _ _ _ _ h => h, fun I2 J2 S2 L2 z2 => I2 = I ∧ J2 = jmF X l t n d J y (tkF X Ja n y) ∧ S2 = S ∧ L2 = L ∧ z2 = tkF X Ja n y ∧ psP X n, ?_, fun h0 => ⟨rfl, rfl, rfl, rfl, rfl, Or.inl h0⟩, fun h0 => ⟨hvn, fun h3 => ?_, fun h3 => ⟨rfl, rfl, rfl, rfl, rfl, Or.inr h3⟩⟩⟩
    · rintro I2 J2 S2 L2 z2 ⟨rfl, rfl, rfl, rfl, rfl, hp⟩
      refine ⟨fun hz => hf I2 _ S2 (Or.inr (Or.inr (Or.inl ⟨k2, hps, fun q => q.2 hz, rfl, rfl, rfl⟩))), fun hz => ⟨hvn, ?_⟩⟩
      rw [m12]
      exact n2_begins (d := d + 1) (N := N) (by have := hps hp; omega) hl s2 hN hN2 (fun I3 J3 S3 hbp => hf I3 J3 S3 (Or.inr (Or.inr (Or.inr ⟨k2, hps hp, ⟨hp, hz⟩, hbp⟩))))
    · refine hf I _ S (Or.inr (Or.inr (Or.inl ⟨k2, hps, fun q => ?_, rfl, rfl, rfl⟩)))
      rcases q.1 with g | g
      · exact h0 g
      · exact h3 g
  refine ⟨fun I' J' S' L' x y2 z => I' = I ∧ S' = S ∧ L' = L ∧ x = nI (24 * l + n) ∧ y2 = y ∧ z = tkF X Ja n y ∧ ¬ X 6 n = 2 ∧ (psP X n → d < 2) ∧ J' = (if X 6 n = 4 then jmA l t n J (tkF X Ja n y) else J), ?_, fun hk0 => ⟨fun h2 => ⟨hvn, fun y2 ey2 => ⟨rfl, rfl, rfl, rfl, rfl, ?_, by rw [hk0]; decide, fun _ => d2 h2, by rw [if_neg (by rw [hk0]; decide)]⟩⟩, fun h2 => hf I J S (Or.inl ⟨⟨Or.inl hk0, d2' h2⟩, rfl, rfl, rfl⟩)⟩, fun hk1 => ⟨hvn, hv4, fun y2 ey2 => ?_⟩, fun hk2 => hf I J S (Or.inr (Or.inl ⟨hk2, rfl, rfl, rfl⟩)), fun hk3 => ⟨fun h2 => ⟨hvn, hv4, fun y2 ey2 => ?_⟩, fun h2 => hf I J S (Or.inl ⟨⟨Or.inr hk3, d2' h2⟩, rfl, rfl, rfl⟩)⟩, fun hk4 => ⟨hvn, fun y2 ey2 => ?_⟩, fun hno => ?_⟩
  · rintro I' J' S' L' x y2 z ⟨rfl, rfl, rfl, rfl, rfl, rfl, k2, hps, eJ'⟩
    exact key k2 hps J' _ rfl eJ'
  · rw [ey2]
    unfold tkF
    rw [if_neg (by rw [hk0]; decide), if_neg (by rw [hk0]; decide), if_pos (Or.inl hk0)]
  · have hnp : psP X n → d < 2 := fun hp => by
      rcases hp with g | g <;> (rw [hk1] at g; exact absurd g (by decide))
    rw [k30] at ey2
    have hk : ¬ X 6 n = 2 := by rw [hk1]; decide
    have hk4 : ¬ X 6 n = 4 := by rw [hk1]; decide
    refine ⟨fun I' J' S' L' x y3 z => I' = I ∧ S' = S ∧ L' = L ∧ x = nI (24 * l + n) ∧ y3 = y ∧ z = tkF X Ja n y ∧ ¬ X 6 n = 2 ∧ (psP X n → d < 2) ∧ J' = (if X 6 n = 4 then jmA l t n J (tkF X Ja n y) else J), fun _ _ _ _ _ _ _ g => g, fun hc => ⟨rfl, rfl, rfl, rfl, rfl, ?_, hk, hnp, by rw [if_neg hk4]⟩, fun hc => ⟨rfl, rfl, rfl, rfl, rfl, ?_, hk, hnp, by rw [if_neg hk4]⟩⟩
    · have hc := lgc_ge.mp hc
      unfold tkF
      rw [if_pos hk1, ← ey2]
      by_cases g : y2 < y
      · rw [if_pos g]
      · rw [if_neg g]
        exact vx_eq (by have : ¬ y2.toInt < y.toInt := fun q => g (vx_lt.mpr q); omega)
    · have hc : ¬ y2.toInt ≤ y.toInt := fun q => hc (lgc_ge.mpr q)
      unfold tkF
      rw [if_pos hk1, ← ey2, if_neg (fun g => hc (by have := vx_lt.mp g; omega))]
  · have hk : ¬ X 6 n = 2 := by rw [hk3]; decide
    have hk4 : ¬ X 6 n = 4 := by rw [hk3]; decide
    rw [hV.2.2.1 n (by omega) hk] at ey2
    have etk : tkF X Ja n y = stF (X 10 n).toInt64 y2 (X 12 n).toInt64 y := by
      unfold tkF
      rw [if_neg (by rw [hk3]; decide), if_pos hk3, ← ey2]
    refine ⟨fun I' J' S' L' x y3 z => I' = I ∧ J' = J ∧ S' = S ∧ L' = L ∧ x = nI (24 * l + n) ∧ y3 = y ∧ z = (if y2 < 0 then 0 else y2), ?_, fun hc => ⟨rfl, rfl, rfl, rfl, rfl, rfl, ?_⟩, fun hc => ⟨rfl, rfl, rfl, rfl, rfl, rfl, ?_⟩⟩
    · rintro I' J' S' L' x y3 z ⟨rfl, rfl, rfl, rfl, rfl, rfl, rfl⟩
      refine ⟨fun I2 J2 S2 L2 x y4 z => I2 = I' ∧ J2 = J' ∧ S2 = S' ∧ L2 = L' ∧ x = nI (24 * l + n) ∧ y4 = y3 ∧ z = stA y2 y3, ?_, fun hc => ⟨rfl, rfl, rfl, rfl, rfl, rfl, ?_⟩, fun hc => ⟨rfl, rfl, rfl, rfl, rfl, rfl, ?_⟩⟩
      · rintro I2 J2 S2 L2 x y4 z ⟨rfl, rfl, rfl, rfl, rfl, rfl, rfl⟩
        refine ⟨hvn, hvn, fun y5 ey5 => ⟨rfl, rfl, rfl, rfl, rfl, ?_, hk, fun _ => d2 h2, by rw [if_neg hk4]⟩⟩
        rw [ey5, etk, m9, m11]
        rfl
      · have hc := lgc_le.mp hc
        unfold stA
        by_cases g : (if y2 < 0 then 0 else y2) < y3
        · rw [if_pos g]
        · rw [if_neg g]
          exact vx_eq (by have : ¬ (if y2 < 0 then 0 else y2 : Int64).toInt < y3.toInt := fun q => g (vx_lt.mpr q); omega)
      · have hc : ¬ (if y2 < 0 then 0 else y2 : Int64).toInt ≤ y3.toInt := fun q => hc (lgc_le.mpr q)
        unfold stA
        rw [if_neg (fun g => hc (by have := vx_lt.mp g; omega))]
    · have hc := lgc_ge.mp hc
      rw [vx_0] at hc
      rw [if_neg (fun g => by have := vx_lt.mp g; rw [vx_0] at this; omega)]
    · have hc : ¬ (0 : Int64).toInt ≤ y2.toInt := fun q => hc (lgc_ge.mpr q)
      rw [if_pos (vx_lt.mpr (by omega))]
  · have hnp : psP X n → d < 2 := fun hp => by
      rcases hp with g | g <;> (rw [hk4] at g; exact absurd g (by decide))
    have etk : y2 = tkF X Ja n y := by
      rw [ey2]
      unfold tkF
      rw [if_neg (by rw [hk4]; decide), if_neg (by rw [hk4]; decide), if_pos (Or.inr hk4)]
    unfold wp_X8_bag
    rw [ebag]
    dsimp only
    rw [clN (show (l * 24 + n) * 40 + t < 2 ^ 31 by omega)]
    have hv9 : vp_in (nI ((l * 24 + n) * 40 + t)) 1920 := vp_in_nI (by omega) (by omega)
    refine ⟨hv9, hv9, fun J3 e3 => ⟨rfl, rfl, rfl, rfl, rfl, etk, by rw [hk4]; decide, hnp, ?_⟩⟩
    rw [if_pos (show X 6 n = 4 from hk4), e3, etk]
    rfl
  · exfalso
    rcases (hB n hn).2.1 with ⟨a, _⟩ | ⟨a, _⟩ | ⟨a, _⟩ | ⟨a, _⟩ | ⟨a, _⟩
    · exact hno 0 (by omega) a
    · exact hno 1 (by omega) a
    · exact hno 2 (by omega) a
    · exact hno 3 (by omega) a
    · exact hno 4 (by omega) a
end
