section
variable {X : TI} {Lo : Int} {κ : Bool} {D : Nat → Int32} {b c t : Nat}
theorem tsT_bz {hd : Int32} (hb : b ≤ 24) : ∀ (j t : Nat) (g : TJ × Int64) (U : Int) (i : Nat), t + j ≤ 40 → 0 ≤ g.2.toInt → U ≤ 10000000000000000 → AB Lo κ U D g.1 → g.1 32 i = 0 → (tsT X hd b j t g).1 32 i = 0
  | 0, _, _, _, _, _, _, _, _, h => h
  | j + 1, t, g, U, i, ht, h0, hU, hA, h => by
    rw [tsT_s]
    split
    · exact h
    · obtain ⟨a1, a2, -⟩ := AB_tsN (X := X) (hd := hd) (b := b) hb (by omega : t < 40) hU b 0 g (by omega) h0 hA
      exact tsT_bz hb j (t + 1) _ U i (by omega) a2 hU a1 (tsN_bz b 0 g i h0 (by omega) hA.1 (by omega) h)
theorem AI_ts {hd : Int32} {m : Int64} {J : TJ} (hb : b ≤ 24) (hc : c ≤ 40) (hw : W12 hd) (h0 : 0 ≤ m.toInt) (h : AI Lo κ c b X D J) : AI Lo κ c b X D (tsF X b c hd m J).1 ∧ 0 ≤ (tsF X b c hd m J).2.toInt := by
  obtain ⟨hK, hA, hD, hF, hZ⟩ := h
  have hU := UB_le hc
  obtain ⟨a1, a2, -⟩ := AB_tsT (X := X) (hd := hd) (b := b) hb (by omega : UB c ≤ 10000000000000000) c 0 (J, m) (by omega) h0 hA
  have eo : ∀ k, k ≠ 27 → k ≠ 32 → (tsF X b c hd m J).1 k = J k := fun k h1 h2 => by
    unfold tsF dbF
    dsimp only
    rw [va_up_ne _ _ h1, tsT_o h2]
  have e32 : (tsF X b c hd m J).1 32 = (tsT X hd b c 0 (J, m)).1 32 := by
    unfold tsF dbF
    dsimp only
    rw [va_up_ne _ _ (by omega)]
  refine ⟨⟨fun k hk h1 => ?_, ?_, hD, fun k hk => ?_, fun n u hn hu hor => ?_, fun n hn h24 => by rw [eo 30 (by omega) (by omega)]; exact hZ.2 n hn h24⟩, a2⟩
  · rw [eo 30 (by omega) (by omega)]
    exact hK k hk h1
  · refine a1.same ?_ e32
    rw [eo 26 (by omega) (by omega), tsT_o (by omega)]
  · rw [eo 28 (by omega) (by omega)]
    exact hF k hk
  · rw [e32]
    exact tsT_bz hb c 0 (J, m) (UB c) _ (by omega) h0 (by omega) hA (hZ.1 n u hn hu hor)
/-- the reference goes on over all TERMS -/
def tsR (X : TI) (hd : Int32) (b : Nat) : Nat → Nat → TJ × Int64 → TJ × Int64
  | 0, _, g => g
  | j + 1, t, g => tsR X hd b j (t + 1) (tsN X hd t b 0 g)
theorem tsR_s {hd : Int32} {j : Nat} {g : TJ × Int64} : tsR X hd b (j + 1) t g = tsR X hd b j (t + 1) (tsN X hd t b 0 g) := rfl
theorem tsN_id {hd : Int32} {g : TJ × Int64} (ht : t < 40) (h0 : 0 ≤ g.2.toInt) (hnn : ∀ k, k < 960 → 0 ≤ (g.1 32 k).toInt) (hz : g.2 = 0 ∨ ∀ n, n < 24 → g.1 32 (n * 40 + t) = 0) : ∀ (j n : Nat), n + j ≤ 24 → tsN X hd t j n g = g
  | 0, _, _ => rfl
  | j + 1, n, hn => by
    rw [tsN_s]
    have hm : tsM X t n g = 0 := by
      have z0 := vx_0
      have hb := hnn (n * 40 + t) (by omega)
      unfold tsM
      rcases hz with q | q
      · rw [q, if_neg (fun z => by have := vx_lt.mp z; omega)]
      · rw [q n (by omega)]
        by_cases z : (0 : Int64) < g.2
        · rw [if_pos z]
        · rw [if_neg z]
          exact vx_eq (by have : ¬ (0 : Int64).toInt < g.2.toInt := fun y => z (vx_lt.mpr y); omega)
    have e : tsS t n (tsM X t n g) g = g := by
      rw [hm]
      unfold tsS
      rw [Int64.sub_zero, Int64.sub_zero, upJ_same rfl]
    rw [e]
    split
    · exact tsN_id ht h0 hnn hz j (n + 1) (by omega)
    · exact tsN_id ht h0 hnn hz j (n + 1) (by omega)
theorem tsR_id {hd : Int32} {g : TJ × Int64} (hb : b ≤ 24) (h0 : 0 ≤ g.2.toInt) (hnn : ∀ k, k < 960 → 0 ≤ (g.1 32 k).toInt) : ∀ (j t : Nat), t + j ≤ 40 → (g.2 = 0 ∨ ∀ n u, n < 24 → t ≤ u → u < 40 → g.1 32 (n * 40 + u) = 0) → tsR X hd b j t g = g
  | 0, _, _, _ => rfl
  | j + 1, t, ht, hz => by
    rw [tsR_s, tsN_id (by omega) h0 hnn (by rcases hz with q | q; exact Or.inl q; exact Or.inr (fun n hn => q n t hn (Nat.le_refl _) (by omega))) b 0 (by omega)]
    exact tsR_id hb h0 hnn j (t + 1) (by omega) (by rcases hz with q | q; exact Or.inl q; exact Or.inr (fun n u hn hu h4 => q n u hn (by omega) h4))
theorem tsR_T {hd : Int32} (hb : b ≤ 24) (hc : c ≤ 40) : ∀ (j t : Nat) (g : TJ × Int64) (U : Int), t + j = 40 → t ≤ c → 0 ≤ g.2.toInt → U ≤ 10000000000000000 → AB Lo κ U D g.1 → (∀ n u, n < 24 → u < 40 → c ≤ u → g.1 32 (n * 40 + u) = 0) → tsR X hd b j t g = tsT X hd b (c - t) t g
  | 0, t, g, U, ht, htc, h0, hU, hA, hz => by
    rw [show c - t = 0 by omega]
    rfl
  | j + 1, t, g, U, ht, htc, h0, hU, hA, hz => by
    by_cases e : t = c
    · subst e
      rw [Nat.sub_self]
      exact tsR_id hb h0 hA.1 (j + 1) t (by omega) (Or.inr (fun n u hn hu h4 => hz n u hn h4 hu))
    · rw [show c - t = (c - (t + 1)) + 1 by omega, tsT_s]
      by_cases hl : lg_cmp g.2 0 ≤ 0
      · rw [if_pos hl]
        have : g.2 = 0 := vx_eq (by have := lgc_le.mp hl; have := vx_0; omega)
        exact tsR_id hb h0 hA.1 (j + 1) t (by omega) (Or.inl this)
      · rw [if_neg hl, tsR_s]
        obtain ⟨a1, a2, -⟩ := AB_tsN (X := X) (hd := hd) (b := b) hb (by omega : t < 40) hU b 0 g (by omega) h0 hA
        exact tsR_T hb hc j (t + 1) _ U (by omega) (by omega) a2 hU a1 (fun n u hn hu h4 => tsN_bz b 0 g _ h0 (by omega) hA.1 (by omega) (hz n u hn hu h4))
end
section
variable {X I : TI} {J : TJ} {S : TS} {L : TL}
theorem MV.bag1 {l n t : Nat} {Ja Jm : TJ} {m : Int64} (hV : MV l X Ja Jm) (hn : n < 24) (ht : t < 40) : MV l X (va_up Ja 32 (vp_updL (Ja 32) (n * 40 + t) (Ja 32 (n * 40 + t) - m))) (va_up Jm 25 (vp_updL (Jm 25) ((l * 24 + n) * 40 + t) (Jm 25 ((l * 24 + n) * 40 + t) - m))) := by
  obtain ⟨a, c, d, e⟩ := hV
  refine ⟨fun k hk => ?_, fun k hk => ?_, fun k hk h2 => ?_, fun k u hk hu => ?_⟩
  · rw [va_up_ne _ _ (by omega), va_up_ne _ _ (by omega)]; exact a k hk
  · rw [va_up_ne _ _ (by omega), va_up_ne _ _ (by omega)]; exact c k hk
  · rw [va_up_ne _ _ (by omega), va_up_ne _ _ (by omega)]; exact d k hk h2
  · rw [va_up_self, va_up_self]
    by_cases g : k * 40 + u = n * 40 + t
    · have g1 : k = n := by omega
      have g2 : u = t := by omega
      subst g1 g2
      rw [pk_uLs, pk_uLs, e k u hk hu]
    · rw [pk_uLn g, pk_uLn (by omega)]
      exact e k u hk hu
set_option maxHeartbeats 2000000 in
theorem n2_takes {b l c h : Nat} {p2 : Int32} {D : Nat → Int32} {Ja : TJ} {Lo : Int} {κ : Bool} {Φ : Int64 → TI → TJ → TS → TL → Prop} (hM : BM X I) (hb : b ≤ 24) (hc : c ≤ 40) (s1 : S 1 = nI b) (hl : l < 2) (hh : h < 12) (hp : 0 ≤ (p2.toInt64 * 1000000).toInt) (hAI : AI Lo κ c b X D Ja) (hP : MP l X D Ja I J) (hf : ∀ J' : TJ, MP l X D (tsF X b c (nI h) (p2.toInt64 * 1000000) Ja).1 I J' → MG l I I J J' → (∀ k, k ≠ 22 → k ≠ 25 → J' k = J k) → Φ (tsF X b c (nI h) (p2.toInt64 * 1000000) Ja).2 I J' S L) : wp_X8_takes I J S L (nI l) (nI h) p2 Φ := by
  obtain ⟨hV, hDb, hDu, hFi⟩ := hP
  have hU := UB_le hc
  have eT := tsR_T (X := X) (hd := nI h) (Lo := Lo) (κ := κ) (D := D) hb hc 40 0 (Ja, p2.toInt64 * 1000000) (UB c) (by omega) (by omega) hp (by omega) hAI.2.1 (fun n u hn hu h4 => hAI.2.2.2.2.1 n u hn hu (Or.inl h4))
  have eF : tsF X b c (nI h) (p2.toInt64 * 1000000) Ja = (dbF (tsR X (nI h) b 40 0 (Ja, p2.toInt64 * 1000000)).1 h (tsR X (nI h) b 40 0 (Ja, p2.toInt64 * 1000000)).2, (tsR X (nI h) b 40 0 (Ja, p2.toInt64 * 1000000)).2) := by
    rw [eT]
    unfold tsF
    rw [clN (by omega)]
    rfl
  rw [eF] at hf
  unfold wp_X8_takes
  intro y ey
  subst ey
  rw [e12]
  have hv24 : vp_in (nI (12 * l + h)) 24 := vp_in_nI (by omega) (by omega)
  generalize hR0 : tsR X (nI h) b 40 0 (Ja, p2.toInt64 * 1000000) = R at hf
  refine ⟨fun n I' J' S' L' y x => I' = I ∧ S' = S ∧ L' = L ∧ ∃ (k : Nat) (g : TJ × Int64), k ≤ 40 ∧ x = nI k ∧ n = 40 - k ∧ y = g.2 ∧ R = tsR X (nI h) b (40 - k) k g ∧ MV l X g.1 J' ∧ (∀ k, k ≠ 32 → g.1 k = Ja k) ∧ (∀ k, k ≠ 25 → J' k = J k) ∧ (∀ i, ¬ (960 * l ≤ i ∧ i < 960 * l + 960) → J' 25 i = J 25 i), ⟨40, rfl, rfl, rfl, 0, (Ja, p2.toInt64 * 1000000), by omega, rfl, rfl, rfl, hR0.symm, hV, fun _ _ => rfl, fun _ _ => rfl, fun _ _ => rfl⟩, ?_⟩
  rintro n I' J' S' L' y x ⟨rfl, rfl, rfl, k, g, hk, rfl, rfl, rfl, hR, hVg, hga, hJo, hJ25⟩
  rw [clN (show 12 * l + h < 2 ^ 31 by omega)]
  refine ⟨fun hc1 => ⟨hv24, hv24, fun J2 e2 => ?_⟩, fun hc1 => ?_⟩
  · have hk4 : k = 40 := by
      have := (nI_leI (a := 40) (by omega) (by omega)).mp hc1
      omega
    subst hk4
    have hR : R = g := hR
    subst hR
    have j22 : J' 22 = J 22 := hJo 22 (by omega)
    have eo : ∀ k, k ≠ 22 → J2 k = J' k := fun k hk => by rw [e2, va_up_ne _ _ hk]
    have e22 : J2 22 = vp_updL (J 22) (12 * l + h) (J 22 (12 * l + h) + R.2) := by rw [e2, va_up_self, j22]
    refine hf J2 ⟨?_, fun q hq => ?_, hDu, fun q hq => ?_⟩ ⟨fun _ _ => rfl, fun _ _ => rfl, fun i hi => ⟨rfl, by rw [eo 21 (by omega), hJo 21 (by omega)], by rw [e22, pk_uLn (by omega)]⟩, fun _ => ⟨rfl, rfl, rfl, by rw [eo 36 (by omega), hJo 36 (by omega)], by rw [eo 37 (by omega), hJo 37 (by omega)]⟩, fun k _ h2 _ _ h5 _ _ _ _ => by rw [eo k h2, hJo k h5], fun i _ => ⟨by rw [eo 23 (by omega), hJo 23 (by omega)], by rw [eo 24 (by omega), hJo 24 (by omega)]⟩, fun i hi => by rw [eo 25 (by omega)]; exact hJ25 i hi, fun i _ => by rw [eo 28 (by omega), hJo 28 (by omega)]⟩ (fun k a b => (eo k a).trans (hJo k b))
    · have ed : ∀ k, k ≠ 27 → dbF R.1 h R.2 k = R.1 k := fun k hk => va_up_ne _ _ hk
      exact hVg.same (ed 26 (by omega)) (ed 30 (by omega)) (ed 31 (by omega)) (ed 32 (by omega)) (eo 21 (by omega)) (eo 23 (by omega)) (eo 24 (by omega)) (eo 25 (by omega))
    · dsimp only
      unfold dbF
      rw [e22, va_up_self, hga 27 (by omega)]
      by_cases gq : q = h
      · subst gq
        rw [pk_uLs, pk_uLs, hDb q hq]
      · rw [pk_uLn gq, pk_uLn (by omega)]
        exact hDb q hq
    · dsimp only
      unfold dbF
      rw [va_up_ne _ _ (by omega), hga 28 (by omega)]
      exact hFi q hq
  have hk2 : k < 40 := nI_nleN (N := 40) (by omega) hk hc1
  rw [show 40 - k = (40 - (k + 1)) + 1 by omega, tsR_s] at hR
  refine ⟨fun n I2 J2 S2 L2 y a x => I2 = I' ∧ S2 = S' ∧ L2 = L' ∧ a = nI k ∧ ∃ (m : Nat) (g : TJ × Int64), m ≤ b ∧ x = nI m ∧ n = b - m ∧ y = g.2 ∧ R = tsR X (nI h) b (40 - (k + 1)) (k + 1) (tsN X (nI h) k (b - m) m g) ∧ MV l X g.1 J2 ∧ (∀ k, k ≠ 32 → g.1 k = Ja k) ∧ (∀ k, k ≠ 25 → J2 k = J k) ∧ (∀ i, ¬ (960 * l ≤ i ∧ i < 960 * l + 960) → J2 25 i = J 25 i), ⟨b, rfl, rfl, rfl, rfl, 0, g, by omega, rfl, rfl, rfl, hR, hVg, hga, hJo, hJ25⟩, ?_⟩
  rintro n I2 J2 S2 L2 y a x ⟨rfl, rfl, rfl, rfl, m, g2, hm, rfl, rfl, rfl, hR2, hVg2, hga2, hJo2, hJ252⟩
  rw [s1]
  refine ⟨fun hc2 x2 ex2 => ⟨40 - (k + 1), by omega, rfl, rfl, rfl, k + 1, g2, by omega, by rw [ex2]; exact nI_1 k, rfl, rfl, ?_, hVg2, hga2, hJo2, hJ252⟩, fun hc2 => ?_⟩
  · have : b - m = 0 := by
      have := (nI_leI (by omega) (by omega)).mp hc2
      omega
    rw [hR2, this]
    rfl
  have hm2 : m < b := nI_nleN (by omega) hm hc2
  have hvm : vp_in (nI m) 24 := vp_in_nI (by omega) (by omega)
  rw [show b - m = (b - (m + 1)) + 1 by omega, tsN_s] at hR2
  rw [clN (show m < 2 ^ 31 by omega), hM.1, hM.2.1]
  refine ⟨hvm, fun I3 J3 S3 L3 y a x => I3 = I2 ∧ S3 = S2 ∧ L3 = L2 ∧ a = nI k ∧ x = nI m ∧ ∃ g : TJ × Int64, y = g.2 ∧ R = tsR X (nI h) b (40 - (k + 1)) (k + 1) (tsN X (nI h) k (b - (m + 1)) (m + 1) g) ∧ MV l X g.1 J3 ∧ (∀ k, k ≠ 32 → g.1 k = Ja k) ∧ (∀ k, k ≠ 25 → J3 k = J k) ∧ (∀ i, ¬ (960 * l ≤ i ∧ i < 960 * l + 960) → J3 25 i = J 25 i), ?_, fun h4 => ⟨rfl, rfl, rfl, rfl, rfl, g2, rfl, ?_, hVg2, hga2, hJo2, hJ252⟩, fun h4 => ⟨hvm, fun h7 => ?_, fun h7 => ⟨rfl, rfl, rfl, rfl, rfl, g2, rfl, ?_, hVg2, hga2, hJo2, hJ252⟩⟩⟩
  · rintro I3 J3 S3 L3 y a x ⟨rfl, rfl, rfl, rfl, rfl, g3, rfl, a1, a2, a3, a4, a5⟩ x2 ex2
    exact ⟨b - (m + 1), by omega, rfl, rfl, rfl, rfl, m + 1, g3, by omega, by rw [ex2]; exact nI_1 m, rfl, rfl, a1, a2, a3, a4, a5⟩
  · rw [if_neg (fun q => h4 q.1)] at hR2
    exact hR2
  · rw [if_pos ⟨h4, h7⟩] at hR2
    unfold wp_X8_bag
    rw [ebag]
    dsimp only
    rw [clN (show (l * 24 + m) * 40 + k < 2 ^ 31 by omega), hVg2.2.2.2 m k (by omega) hk2]
    have hv9 : vp_in (nI ((l * 24 + m) * 40 + k)) 1920 := vp_in_nI (by omega) (by omega)
    refine ⟨hv9, fun I4 J4 S4 L4 y a x w s => I4 = I2 ∧ J4 = J2 ∧ S4 = S2 ∧ L4 = L2 ∧ y = g2.2 ∧ a = nI k ∧ x = nI m ∧ w = nI ((l * 24 + m) * 40 + k) ∧ s = tsM X k m g2, ?_, fun hge => ⟨rfl, rfl, rfl, rfl, rfl, rfl, rfl, rfl, ?_⟩, fun hge => ⟨hv9, rfl, rfl, rfl, rfl, rfl, rfl, rfl, rfl, ?_⟩⟩
    · rintro I4 J4 S4 L4 y a x w s ⟨rfl, rfl, rfl, rfl, rfl, rfl, rfl, rfl, rfl⟩
      rw [clN (show (l * 24 + m) * 40 + k < 2 ^ 31 by omega)]
      refine ⟨hv9, hv9, fun J5 e5 y2 ey2 => ⟨rfl, rfl, rfl, rfl, rfl, tsS k m (tsM X k m g2) g2, ey2, hR2, ?_, fun q hq => ?_, fun q hq => by rw [e5, va_up_ne _ _ hq]; exact hJo2 q hq, fun i hi => by rw [e5, va_up_self, pk_uLn (by omega)]; exact hJ252 i hi⟩⟩
      · rw [e5]
        exact hVg2.bag1 (by omega) hk2
      · unfold tsS
        dsimp only
        rw [va_up_ne _ _ hq]
        exact hga2 q hq
    · have hge := lgc_ge.mp hge
      unfold tsM
      rw [if_neg (fun z => by have := vx_lt.mp z; omega)]
    · have hge : ¬ g2.2.toInt ≤ (g2.1 32 (m * 40 + k)).toInt := fun q => hge (lgc_ge.mpr q)
      unfold tsM
      rw [if_pos (vx_lt.mpr (by omega))]
  · rw [if_neg (fun q => h7 q.2)] at hR2
    exact hR2
end
