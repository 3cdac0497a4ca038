def pt1 (X : TI) (r t b w P m : Nat) (g : TC) : TC := (shF X r t b w (stN X w (dyF t P m)) (cnF X t w m) 3 0 g.1, g.2 + cnF X t w m * 1000000)
theorem biF_1 {X : TI} {r t b w : Nat} {g : TC} (h : ¬ X 16 (t * 12 + w) = 2) : biF X r t b w g = pt1 X r t b w 1 0 g := by
  unfold biF
  rw [if_neg h]
  rfl
theorem biF_3 {X : TI} {r t b w : Nat} {g : TC} (h : X 16 (t * 12 + w) = 2) : biF X r t b w g = pt1 X r t b w 3 2 (pt1 X r t b w 3 1 (pt1 X r t b w 3 0 g)) := by
  unfold biF
  rw [if_pos h]
  rfl
theorem dy_1 (t : Nat) : (90 : Int32) * nI t + 89 = dyF t 1 0 := lt_e t
theorem dy_3 (t : Nat) : (90 : Int32) * nI t + 89 = dyF t 3 2 := lt_e t
theorem dy_2 (t : Nat) : (90 : Int32) * nI t + 59 = dyF t 3 1 := by
  rw [show (90 : Int32) = nI 90 from rfl, pk_mul, show (59 : Int32) = nI 59 from rfl, nI_add, Nat.mul_comm]
  rfl
theorem dy_0 (t : Nat) : (90 : Int32) * nI t + 29 = dyF t 3 0 := by
  rw [show (90 : Int32) = nI 90 from rfl, pk_mul, show (29 : Int32) = nI 29 from rfl, nI_add, Nat.mul_comm]
  rfl
theorem MV.eo {l t n b : Nat} {X : TI} {J Jm : TJ} (hB : BgX b X) (hb : b ≤ 24) (hn : n < b) (ht : t < 40) {hN y : Nat} (ehN : X 7 n = nI hN) (hhN : hN < 12) (ey : X 11 n = nI y) (hy : y ≤ t) (hV : MV l X J Jm) : MV l X (eoS X t J n) (va_up (va_up Jm 21 (vp_updL (Jm 21) (12 * l + hN) (Jm 21 (12 * l + hN) + Jm 25 ((l * 24 + n) * 40 + (t - y))))) 25 (vp_updL (Jm 25) ((l * 24 + n) * 40 + (t - y)) 0)) := by
  have cy : (X 11 n).toNatClampNeg = y := by rw [ey, clN (by omega)]
  have ch : (X 7 n).toNatClampNeg = hN := by rw [ehN, clN (by omega)]
  obtain ⟨a, c, d, e⟩ := hV
  refine ⟨fun k hk => ?_, fun k hk => ?_, fun k hk h2 => ?_, fun k u hk hu => ?_⟩
  · rw [va_up_ne _ _ (by omega), va_up_self, eoS_26, ch, cy]
    by_cases g : k = hN
    · subst g
      rw [pk_uLs, pk_uLs, a k hk, e n (t - y) (by omega) (by omega)]
    · rw [pk_uLn g, pk_uLn (by omega)]
      exact a k hk
  · rw [va_up_ne _ _ (by omega), va_up_ne _ _ (by omega), eoS_o (by omega) (by omega)]
    exact c k hk
  · rw [va_up_ne _ _ (by omega), va_up_ne _ _ (by omega), eoS_o (by omega) (by omega)]
    exact d k hk h2
  · rw [va_up_self, eoS_32, cy]
    by_cases g : k * 40 + u = n * 40 + (t - y)
    · rw [g, pk_uLs]
      have g1 : k = n := by omega
      have g2 : u = t - y := by omega
      subst g1 g2
      rw [pk_uLs]
    · rw [pk_uLn g, pk_uLn (by omega)]
      exact e k u hk hu
section
variable {X I : TI} {J : TJ} {S : TS} {L : TL}
/-- the LINES of a TERM -/
def CL1 (l r t b : Nat) (X : TI) (G : TC) (I : TI) (J : TJ) (S : TS) (I' : TI) (J' : TJ) (S' : TS) : Prop := LR l b X (fun _ => False) G.1 I' J' S' ∧ J' 28 l = G.2 ∧ MFi l I I' ∧ MFr l J J' ∧ MFs l S S' ∧ G.1.2.2 ≤ 1687608
/-- behind the whole CLOSE -/
def CL2 (l t b : Nat) (X : TI) (G : TC) (I : TI) (J : TJ) (S : TS) (I' : TI) (J' : TJ) (S' : TS) : Prop := MP l X ((clQ X t b (clP X t b G)).1 29) (clQ X t b (clP X t b G)).2 I' J' ∧ (l = 0 → MRc (fun _ => False) G.1.1 G.1.2.1 G.1.2.2 I' J' S') ∧ J' 28 l = G.2 ∧ MG l I I' J J' ∧ MFs l S S'
set_option maxRecDepth 100000 in
set_option maxHeartbeats 4000000 in
theorem n2_closes {b l t r : Nat} {Ia : TI} {Ja : TJ} {ci : Int64} {Lo U F : Int} {κ : Bool} {Φ : TI → TJ → TS → TL → Prop} (hM : BM X I) (hSM : SMx X I) (hRM : RM X I) (hB : BgX b X) (hS : StX X) (hRp : RpX X) (hb : b ≤ 24) (s1 : S 1 = nI b) (hl : l < 2) (ht : t < 40) (hr : l = 0 → r = 600) (hL0 : LR l b X (fun _ => False) (Ia, Ja, 0) I J S) (hP : MP l X (Ia 29) Ja I J) (h28 : J 28 l = ci) (hA : AB Lo κ U (Ia 29) Ja) (hU : U + 36000000000000 ≤ 2000000000000000) (hD : DI t (Ia 29)) (hF : F + 24000000 ≤ 1000000000) (hfl : FL F Ja) (hf : ∀ (I' : TI) (J' : TJ) (S' : TS), CL2 l t b X (rpG X r t b Ia Ja ci) I J S I' J' S' → Φ I' J' S' L) : wp_X8_closes I J S L (nI l) (nI t) Φ := by
  obtain ⟨z, hz, ez, ho⟩ := hRp.2 t ht
  have eG : rpG X r t b Ia Ja ci = rpF X r t b z 0 ((Ia, Ja, 0), ci) := by
    unfold rpG
    rw [ez, clN (by omega)]
  have hKA := AB_rpG (r := r) (I := Ia) (ci := ci) hB hb ht hS hRp hL0.2.2 hA (by omega)
  have hGF : GF (Ia, Ja, 0) (rpG X r t b Ia Ja ci).1 := rpF_gf _ _ _
  generalize rpG X r t b Ia Ja ci = G at eG hKA hGF hf
  unfold wp_X8_closes
  have hvt : vp_in (nI t) 40 := vp_in_nI ht (by omega)
  refine ⟨fun n I' J' S' L' x => L' = L ∧ ∃ (m : Nat) (g : TC), m ≤ z ∧ x = nI m ∧ n = z - m ∧ LR l b X (fun _ => False) g.1 I' J' S' ∧ J' 28 l = g.2 ∧ G = rpF X r t b (z - m) m g ∧ MFi l I I' ∧ MFr l J J' ∧ MFs l S S' ∧ g.1.2.2 ≤ m * 140634, ⟨z, rfl, 0, ((Ia, Ja, 0), ci), by omega, rfl, rfl, hL0, h28, eG, MFi.rf, MFr.rf, ⟨fun _ _ _ => rfl, fun _ => rfl⟩, by show 0 ≤ 0 * 140634; omega⟩, ?_⟩
  rintro n I' J' S' L' x ⟨rfl, m, g, hm, rfl, rfl, hLg, h28g, hG, hI, hJ, hSs, hcnt⟩
  rw [clN (show t < 2 ^ 31 by omega)]
  have x18 : I' 18 = X 19 := by rw [hI.1 18 (by omega)]; exact hRM.2.2.1
  have x17 : I' 17 = X 18 := by rw [hI.1 17 (by omega)]; exact hRM.2.1
  rw [x18, ez]
  refine ⟨hvt, fun hc => ?_, fun hc => ?_⟩
  · have hmz : z - m = 0 := by
      have := (nI_leI (by omega) (by omega)).mp hc
      omega
    rw [hmz] at hG
    have hG : G = g := hG
    subst hG
    -- the other rows of the ledger as before
    have hP1 : MP l X (Ia 29) G.1.2.1 I' J' := by
      obtain ⟨-, p2, p3, p4⟩ := hP
      refine ⟨hLg.1, fun k hk => ?_, fun k u hk hu => ?_, fun k hk => ?_⟩
      · rw [hJ.1 22 (by omega) (by omega) (by omega) (by omega) (by omega) (by omega) (by omega) (by omega), hGF.2 27 (by omega) (by omega) (by omega) (by omega) (by omega) (by omega)]
        exact p2 k hk
      · rw [hI.1 26 (by omega)]
        exact p3 k u hk hu
      · rw [hI.1 27 (by omega), hGF.2 28 (by omega) (by omega) (by omega) (by omega) (by omega) (by omega)]
        exact p4 k hk
    have hD29 : G.1.1 29 = Ia 29 := hGF.1 29 (by omega) (by omega) (by omega)
    have hf1 : FL F G.1.2.1 := fun k hk => by
      rw [hGF.2 28 (by omega) (by omega) (by omega) (by omega) (by omega) (by omega)]
      exact hfl k hk
    have hG0 : MG l I I' J J' := MG.of hI hJ
    -- what the rest leaves of what was told and what came in
    have rest : ∀ (I9 : TI) (J9 : TJ), (∀ k, k ≠ 26 → k ≠ 27 → I9 k = I' k) → (∀ k, k ≠ 21 → k ≠ 22 → k ≠ 25 → J9 k = J' k) → (l = 0 → MRc (fun _ => False) G.1.1 G.1.2.1 G.1.2.2 I9 J9 S') ∧ J9 28 l = G.2 := fun I9 J9 e1 e2 => by
      refine ⟨fun h0 => ?_, by rw [e2 28 (by omega) (by omega) (by omega)]; exact h28g⟩
      unfold MRc
      rw [e1 33 (by omega) (by omega), e1 34 (by omega) (by omega), e1 35 (by omega) (by omega), e2 36 (by omega) (by omega) (by omega), e2 37 (by omega) (by omega) (by omega)]
      exact hLg.2.1 h0
    generalize hE : eoF X t b 0 G.1.2.1 = E at *
    refine ⟨fun n I2 J2 S2 L2 x => I2 = I' ∧ S2 = S' ∧ L2 = L' ∧ ∃ (m : Nat) (Jb : TJ), m ≤ b ∧ x = nI m ∧ n = b - m ∧ E = eoF X t (b - m) m Jb ∧ MP l X (Ia 29) Jb I' J2 ∧ AB Lo κ (U + 36000000000000) (Ia 29) Jb ∧ FL F Jb ∧ MG l I' I' J' J2 ∧ (∀ k, k ≠ 21 → k ≠ 22 → k ≠ 25 → J2 k = J' k), ⟨b, rfl, rfl, rfl, 0, G.1.2.1, by omega, rfl, rfl, hE.symm, hP1, hKA.1, hf1, MG.rf, fun _ _ _ _ => rfl⟩, ?_⟩
    rintro n I2 J2 S2 L2 x ⟨rfl, rfl, rfl, m2, Jb, hm2, rfl, rfl, hEb, hPb, hAb, hfb, hGb, hJb⟩
    have s1' : S2 1 = nI b := (hSs.1 1 (by omega) (by omega)).trans s1
    have hM2 : BM X I2 := hM.fr hI.1
    rw [s1']
    refine ⟨fun hc2 => ?_, fun hc2 => ?_⟩
    · have hmb : b - m2 = 0 := by
        have := (nI_leI (by omega) (by omega)).mp hc2
        omega
      rw [hmb] at hEb
      have hEb : E = Jb := hEb
      subst hEb
      have hcl : clP X t b G = pyF t 12 0 (G.1.1, E) := by
        unfold clP
        rw [hE]
      have hpyI : ∀ (g : TI × TJ), g = (G.1.1, E) → g.1 29 = Ia 29 := fun g e => by rw [e]; exact hD29
      generalize hQ : pyF t 12 0 (G.1.1, E) = Q at hcl
      refine ⟨fun n I3 J3 S3 L3 x => S3 = S2 ∧ L3 = L2 ∧ ∃ (m : Nat) (q : TI × TJ), m ≤ 12 ∧ x = nI m ∧ n = 12 - m ∧ Q = pyF t (12 - m) m q ∧ MP l X (q.1 29) q.2 I3 J3 ∧ AB Lo κ (U + 36000000000000) (q.1 29) q.2 ∧ FL F q.2 ∧ (∀ k u, k < 12 → u < 40 → 0 ≤ (q.1 29 (k * 40 + u)).toInt ∧ ((t < u ∨ (u = t ∧ m ≤ k)) → q.1 29 (k * 40 + u) = 0) ∧ (u = t → (q.1 29 (k * 40 + u)).toInt ≤ 2000000000)) ∧ MG l I2 I3 J2 J3 ∧ (∀ k, k ≠ 26 → I3 k = I2 k) ∧ (∀ k, k ≠ 21 → k ≠ 22 → J3 k = J2 k), ⟨12, rfl, rfl, 0, (G.1.1, E), by omega, rfl, rfl, hQ.symm, by show MP l X (G.1.1 29) E I2 J2; rw [hD29]; exact hPb, by show AB Lo κ (U + 36000000000000) (G.1.1 29) E; rw [hD29]; exact hAb, hfb, fun k u hk hu => ?_, MG.rf, fun _ _ => rfl, fun _ _ _ => rfl⟩, ?_⟩
      · show 0 ≤ (G.1.1 29 (k * 40 + u)).toInt ∧ ((t < u ∨ (u = t ∧ 0 ≤ k)) → G.1.1 29 (k * 40 + u) = 0) ∧ (u = t → (G.1.1 29 (k * 40 + u)).toInt ≤ 2000000000)
        rw [hD29]
        have q := hD k u hk hu
        refine ⟨q.1, fun z => q.2 (by omega), fun z => ?_⟩
        rw [q.2 (by omega)]
        decide
      rintro n I3 J3 S3 L3 x ⟨rfl, rfl, m3, q, hm3, rfl, rfl, hQq, hPq, hAq, hfq, hDq, hGq, hIq, hJq⟩
      refine ⟨fun hc3 => ?_, fun hc3 => ?_⟩
      · have hm12 : m3 = 12 := by
          have := (nI_leI (a := 12) (by omega) (by omega)).mp hc3
          omega
        subst hm12
        have hQq : Q = q := hQq
        subst hQq
        have hrem : nI t - nI t / (4 : Int32) * 4 = nI (t % 4) := pk_rem (d := 4) (by omega) (by omega) (by omega)
        rw [hrem]
        have noF : ¬ t % 4 = 3 → Φ I3 J3 S3 L3 := fun h4 => by
          have eC : clQ X t b (clP X t b G) = Q := by
            rw [hcl]
            unfold clQ
            rw [if_neg h4]
          refine hf I3 J3 S3 ⟨by rw [eC]; exact hPq, (rest I3 J3 (fun k a _ => hIq k a) (fun k a b c => (hJq k a b).trans (hJb k a b c))).1, (rest I3 J3 (fun k a _ => hIq k a) (fun k a b c => (hJq k a b).trans (hJb k a b c))).2, (hG0.tr hGb).tr hGq, hSs⟩
        by_cases h4 : t % 4 = 3
        · have eC : clQ X t b (clP X t b G) = flF X t b 0 Q := by
            rw [hcl]
            unfold clQ
            rw [if_pos h4]
          generalize hW : flF X t b 0 Q = W at eC
          refine ⟨fun n I4 J4 S4 L4 x => J4 = J3 ∧ S4 = S3 ∧ L4 = L3 ∧ ∃ (m : Nat) (q : TI × TJ), m ≤ b ∧ x = nI m ∧ n = b - m ∧ W = flF X t (b - m) m q ∧ MP l X (q.1 29) q.2 I4 J3 ∧ AB Lo κ (U + 36000000000000 + m * 1000000000000) (q.1 29) q.2 ∧ FL (F + m * 1000000) q.2 ∧ (∀ k u, k < 12 → u < 40 → 0 ≤ (q.1 29 (k * 40 + u)).toInt ∧ (t < u → q.1 29 (k * 40 + u) = 0) ∧ (u = t → (q.1 29 (k * 40 + u)).toInt ≤ 2000000000 + m * 1000000)) ∧ MG l I3 I4 J3 J3 ∧ (∀ k, k ≠ 26 → k ≠ 27 → I4 k = I3 k), ⟨b, rfl, rfl, rfl, 0, Q, by omega, rfl, rfl, hW.symm, hPq, hAq.mono (by omega), fun k hk => by have := hfq k hk; omega, fun k u hk hu => ⟨(hDq k u hk hu).1, fun z => (hDq k u hk hu).2.1 (Or.inl z), fun z => by have := (hDq k u hk hu).2.2 z; omega⟩, MG.rf, fun _ _ _ => rfl⟩, ?_⟩
          rintro n I4 J4 S4 L4 x ⟨rfl, rfl, rfl, m4, q4, hm4, rfl, rfl, hWq, hP4, hA4, hf4, hD4, hG4, hI4⟩
          have fin : W = q4 → Φ I4 J4 S4 L4 := fun e => by
            have r4 := rest I4 J4 (fun k a b => (hI4 k a b).trans (hIq k a)) (fun k a b c => (hJq k a b).trans (hJb k a b c))
            refine hf I4 J4 S4 ⟨by rw [eC, e]; exact hP4, r4.1, r4.2, ((hG0.tr hGb).tr hGq).tr hG4, hSs⟩
          rw [s1']
          refine ⟨_, fun _ _ _ _ hB => hB, fun hc4 => ?_, fun hc4 => ⟨fun h43 => absurd (by rw [h4]; rfl) h43, fun _ => ?_⟩⟩
          · have hmb : b - m4 = 0 := by
              have := (nI_leI (by omega) (by omega)).mp hc4
              omega
            rw [hmb] at hWq
            exact fin hWq
          have hm5 : m4 < b := nI_nleN (by omega) hm4 hc4
          have hv : vp_in (nI m4) 24 := vp_in_nI (by omega) (by omega)
          have x5 : I4 5 = X 6 := by rw [hI4 5 (by omega) (by omega), hIq 5 (by omega)]; exact hM2.1
          have x8 : I4 8 = X 9 := by rw [hI4 8 (by omega) (by omega), hIq 8 (by omega)]; exact hM2.2.2.2.1
          rw [clN (show m4 < 2 ^ 31 by omega), x5, x8, lt_e]
          rw [show b - m4 = (b - (m4 + 1)) + 1 by omega, flF_s] at hWq
          refine ⟨hv, fun I5 J5 S5 L5 x => J5 = J4 ∧ S5 = S4 ∧ L5 = L4 ∧ x = nI m4 ∧ ∃ q : TI × TJ, W = flF X t (b - (m4 + 1)) (m4 + 1) q ∧ MP l X (q.1 29) q.2 I5 J4 ∧ AB Lo κ (U + 36000000000000 + (m4 + 1 : Nat) * 1000000000000) (q.1 29) q.2 ∧ FL (F + (m4 + 1 : Nat) * 1000000) q.2 ∧ (∀ k u, k < 12 → u < 40 → 0 ≤ (q.1 29 (k * 40 + u)).toInt ∧ (t < u → q.1 29 (k * 40 + u) = 0) ∧ (u = t → (q.1 29 (k * 40 + u)).toInt ≤ 2000000000 + (m4 + 1 : Nat) * 1000000)) ∧ MG l I3 I5 J4 J4 ∧ (∀ k, k ≠ 26 → k ≠ 27 → I5 k = I3 k), ?_, fun h2 => ⟨rfl, rfl, rfl, rfl, q4, ?_, hP4, hA4.mono (by omega), fun k hk => by have := hf4 k hk; omega, fun k u hk hu => ⟨(hD4 k u hk hu).1, (hD4 k u hk hu).2.1, fun z => by have := (hD4 k u hk hu).2.2 z; omega⟩, hG4, hI4⟩, fun h2 => ⟨hv, fun hd => ⟨rfl, rfl, rfl, rfl, q4, ?_, hP4, hA4.mono (by omega), fun k hk => by have := hf4 k hk; omega, fun k u hk hu => ⟨(hD4 k u hk hu).1, (hD4 k u hk hu).2.1, fun z => by have := (hD4 k u hk hu).2.2 z; omega⟩, hG4, hI4⟩, fun hd => ?_⟩⟩
          · rintro I5 J5 S5 L5 x ⟨rfl, rfl, rfl, rfl, q5, a1, a2, a3, a4, a5, a6, a7⟩ x2 ex2
            exact ⟨b - (m4 + 1), by omega, rfl, rfl, rfl, m4 + 1, q5, by omega, by rw [ex2]; exact nI_1 m4, rfl, a1, a2, a3, a4, a5, a6, a7⟩
          · rw [if_neg (fun z => h2 z.1)] at hWq
            exact hWq
          · rw [if_neg (fun z => z.2 hd)] at hWq
            exact hWq
          · rw [if_pos ⟨h2, hd⟩] at hWq
            have hM4 : BM X I4 := by
              unfold BM
              rw [hI4 5 (by omega) (by omega), hI4 6 (by omega) (by omega), hI4 7 (by omega) (by omega), hI4 8 (by omega) (by omega), hI4 9 (by omega) (by omega), hI4 10 (by omega) (by omega), hI4 11 (by omega) (by omega), hI4 12 (by omega) (by omega), hIq 5 (by omega), hIq 6 (by omega), hIq 7 (by omega), hIq 8 (by omega), hIq 9 (by omega), hIq 10 (by omega), hIq 11 (by omega), hIq 12 (by omega)]
              exact hM2
            obtain ⟨b1, b2, b3⟩ := AB_fl1 (M := 2000000000 + m4 * 1000000) hA4 (fl_sm hB hm5 h2) (hB m4 hm5).1 ht (by omega) (by omega) (by omega) hf4 hD4
            refine n2_fills (D := fun _ => 0) (Ja := J4) (F := F + m4 * 1000000) hM4 hB hb hm5 h2 hl ht (by omega) (by omega) hf4 (fun h u hh hu => (hD4 h u hh hu).1) hP4 (fun I5 c1 c2 c3 => ⟨rfl, rfl, rfl, rfl, flS X t q4 m4, hWq, c1, b1.mono (by omega), fun k hk => by have := b2 k hk; omega, fun k u hk hu => ⟨(b3 k u hk hu).1, (b3 k u hk hu).2.1, fun z => by have := (b3 k u hk hu).2.2 z; omega⟩, hG4.tr c2, fun k a b => (c3 k a b).trans (hI4 k a b)⟩)
        · refine ⟨fun n I4 J4 S4 L4 x => I4 = I3 ∧ J4 = J3 ∧ S4 = S3 ∧ L4 = L3, ⟨0, rfl, rfl, rfl, rfl⟩, ?_⟩
          rintro n I4 J4 S4 L4 x ⟨rfl, rfl, rfl, rfl⟩
          exact ⟨_, fun _ _ _ _ hB => hB, fun _ => noF h4, fun _ => ⟨fun _ => noF h4, fun h43 => absurd ((nI_eq (b := 3) (by omega) (by omega)).mp h43) h4⟩⟩
      · have hm4 : m3 < 12 := nI_nleN (N := 12) (by omega) hm3 hc3
        rw [show 12 - m3 = (12 - (m3 + 1)) + 1 by omega, pyF_s] at hQq
        have h0 := (hDq m3 t hm4 ht).2.1 (Or.inr ⟨rfl, Nat.le_refl _⟩)
        obtain ⟨b1, b2, b3, b4, -, -⟩ := AB_py1 hAq (by omega) hm4 ht h0
        refine n2_pays hl ht hm4 hAq (by omega) h0 hPq (fun I4 J4 c1 c2 c3 c4 => ?_)
        intro x2 ex2
        refine ⟨12 - (m3 + 1), by omega, rfl, rfl, m3 + 1, (va_up q.1 29 (upd (q.1 29) (m3 * 40 + t) (pyC (pyA q.2 m3) m3).toInt32), pyJ (pyA q.2 m3) m3), by omega, by rw [ex2]; exact nI_1 m3, rfl, hQq, ?_, ?_, ?_, fun k u hk hu => ?_, hGq.tr c2, fun k a => (c3 k a).trans (hIq k a), fun k a b => (c4 k a b).trans (hJq k a b)⟩
        · dsimp only
          rw [va_up_self]
          exact c1
        · dsimp only
          rw [va_up_self]
          exact b1
        · intro k hk
          have : pyJ (pyA q.2 m3) m3 28 = q.2 28 := by
            unfold pyJ
            rw [va_up_ne _ _ (by omega), pyA_o (by omega) (by omega)]
          show 0 ≤ (pyJ (pyA q.2 m3) m3 28 k).toInt ∧ (pyJ (pyA q.2 m3) m3 28 k).toInt ≤ F
          rw [this]
          exact hfq k hk
        · dsimp only
          rw [va_up_self]
          have z := hDq k u hk hu
          by_cases gk : k * 40 + u = m3 * 40 + t
          · have g1 : k = m3 := by omega
            have g2 : u = t := by omega
            rw [gk, pk_us, b4]
            exact ⟨b2, fun y => by omega, fun _ => b3⟩
          · rw [pk_un gk]
            exact ⟨z.1, fun y => z.2.1 (by omega), z.2.2⟩
    · have hm3 : m2 < b := nI_nleN (by omega) hm2 hc2
      have hv : vp_in (nI m2) 24 := vp_in_nI (by omega) (by omega)
      rw [clN (show m2 < 2 ^ 31 by omega), hM2.1, hM2.2.2.2.2.2.1]
      rw [show b - m2 = (b - (m2 + 1)) + 1 by omega, eoF_s] at hEb
      refine ⟨hv, fun I3 J3 S3 L3 x => I3 = I2 ∧ S3 = S2 ∧ L3 = L2 ∧ x = nI m2 ∧ ∃ Jc : TJ, E = eoF X t (b - (m2 + 1)) (m2 + 1) Jc ∧ MP l X (Ia 29) Jc I2 J3 ∧ AB Lo κ (U + 36000000000000) (Ia 29) Jc ∧ FL F Jc ∧ MG l I2 I2 J' J3 ∧ (∀ k, k ≠ 21 → k ≠ 22 → k ≠ 25 → J3 k = J' k), ?_, fun h4 => ⟨rfl, rfl, rfl, rfl, Jb, ?_, hPb, hAb, hfb, hGb, hJb⟩, fun h4 => ⟨hv, fun hy => ⟨hv, ?_⟩, fun hy => ⟨rfl, rfl, rfl, rfl, Jb, ?_, hPb, hAb, hfb, hGb, hJb⟩⟩⟩
      · rintro I3 J3 S3 L3 x ⟨rfl, rfl, rfl, rfl, Jc, a1, a2, a3, a4, a5, a6⟩ x2 ex2
        exact ⟨b - (m2 + 1), by omega, rfl, rfl, rfl, m2 + 1, Jc, by omega, by rw [ex2]; exact nI_1 m2, rfl, a1, a2, a3, a4, a5, a6⟩
      · rw [if_neg (fun q => h4 q.1)] at hEb
        exact hEb
      · obtain ⟨y, hy1, hy8, ey⟩ := Tf_y (hB m2 hm3).2.1 h4
        rw [if_pos ⟨h4, Int32.not_lt.mpr hy⟩] at hEb
        rw [ey] at hy
        have hyc : y ≤ t := (nI_leI (by omega) (by omega)).mp hy
        obtain ⟨hN, hhN, ehN⟩ := W12_cases (hB m2 hm3).1
        unfold wp_X8_bag
        rw [ey, pk_sub hyc, ebag]
        dsimp only
        rw [clN (show (l * 24 + m2) * 40 + (t - y) < 2 ^ 31 by omega), hM2.2.1, ehN]
        have hv9 : vp_in (nI ((l * 24 + m2) * 40 + (t - y))) 1920 := vp_in_nI (by omega) (by omega)
        refine ⟨hv, fun x69 e69 => ?_⟩
        rw [e12] at e69
        subst e69
        have hv2 : vp_in (nI (12 * l + hN)) 24 := vp_in_nI (by omega) (by omega)
        rw [clN (show 12 * l + hN < 2 ^ 31 by omega)]
        refine ⟨hv2, hv9, hv2, fun J3 e3 => ⟨hv9, fun J4 e4 => ⟨rfl, rfl, rfl, rfl, eoS X t Jb m2, hEb, ?_, AB_eo1 hAb (by omega) (hB m2 hm3).1 (by omega) ht, ?_, hGb.tr ?_, fun k a b c => ?_⟩⟩⟩
        · obtain ⟨p1, p2, p3, p4⟩ := hPb
          have e5 : J4 = va_up (va_up J2 21 (vp_updL (J2 21) (12 * l + hN) (J2 21 (12 * l + hN) + J2 25 ((l * 24 + m2) * 40 + (t - y))))) 25 (vp_updL (J2 25) ((l * 24 + m2) * 40 + (t - y)) 0) := by
            rw [e4, e3, va_up_ne _ _ (by omega)]
          refine ⟨by rw [e5]; exact p1.eo hB hb hm3 ht ehN hhN ey hyc, fun k hk => ?_, p3, fun k hk => ?_⟩
          · rw [e5, va_up_ne _ _ (by omega), va_up_ne _ _ (by omega), eoS_o (by omega) (by omega)]
            exact p2 k hk
          · rw [eoS_o (by omega) (by omega)]
            exact p4 k hk
        · intro k hk
          rw [eoS_o (by omega) (by omega)]
          exact hfb k hk
        · refine ⟨fun _ _ => rfl, fun _ _ => rfl, fun i hi => ⟨rfl, ?_, ?_⟩, fun _ => ⟨rfl, rfl, rfl, ?_, ?_⟩, fun k h1 _ _ _ h5 _ _ _ _ => ?_, fun i _ => ⟨?_, ?_⟩, fun i hi => ?_, fun i _ => ?_⟩
          · rw [e4, va_up_ne _ _ (by omega), e3, va_up_self, pk_uLn (by omega)]
          · rw [e4, va_up_ne _ _ (by omega), e3, va_up_ne _ _ (by omega)]
          · rw [e4, va_up_ne _ _ (by omega), e3, va_up_ne _ _ (by omega)]
          · rw [e4, va_up_ne _ _ (by omega), e3, va_up_ne _ _ (by omega)]
          · rw [e4, va_up_ne _ _ h5, e3, va_up_ne _ _ h1]
          · rw [e4, va_up_ne _ _ (by omega), e3, va_up_ne _ _ (by omega)]
          · rw [e4, va_up_ne _ _ (by omega), e3, va_up_ne _ _ (by omega)]
          · rw [e4, va_up_self, pk_uLn (by omega), e3, va_up_ne _ _ (by omega)]
          · rw [e4, va_up_ne _ _ (by omega), e3, va_up_ne _ _ (by omega)]
        · rw [e4, va_up_ne _ _ c, e3, va_up_ne _ _ a]
          exact hJb k a b c
      · rw [if_neg (fun q => q.2 (Int32.not_le.mp hy))] at hEb
        exact hEb
  · have hm2 : m < z := nI_nleN (by omega) hm hc
    rw [e12, clN (show 12 * t + m < 2 ^ 31 by omega), x17, Nat.mul_comm 12 t]
    obtain ⟨w, kk, hw, ew, h1, h6, hk⟩ := ho m hm2
    rw [show z - m = (z - (m + 1)) + 1 by omega, rpF_s, ew, clN (show w < 2 ^ 31 by omega)] at hG
    refine ⟨vp_in_nI (by omega) (by omega), fun x72 e72 x73 e73 => ?_⟩
    rw [ew] at e72
    subst e72
    rw [e12, Nat.mul_comm 12 t] at e73
    subst e73
    have hv7 : vp_in (nI (t * 12 + w)) 480 := vp_in_nI (by omega) (by omega)
    have hRM' : RM X I' := hRM.fr hI.1
    have nx : ∀ (I9 : TI) (J9 : TJ) (S9 : TS) (L9 : TL) (x9 : Int32), (x9 = nI m ∧ L9 = L' ∧ ∃ g : TC, LR l b X (fun _ => False) g.1 I9 J9 S9 ∧ J9 28 l = g.2 ∧ G = rpF X r t b (z - (m + 1)) (m + 1) g ∧ MFi l I I9 ∧ MFr l J J9 ∧ MFs l S S9 ∧ g.1.2.2 ≤ (m + 1) * 140634) → ∀ x_85 : Int32, x_85 = x9 + 1 → ∃ n_86, n_86 < z - m ∧ (L9 = L' ∧ ∃ (m : Nat) (g : TC), m ≤ z ∧ x_85 = nI m ∧ n_86 = z - m ∧ LR l b X (fun _ => False) g.1 I9 J9 S9 ∧ J9 28 l = g.2 ∧ G = rpF X r t b (z - m) m g ∧ MFi l I I9 ∧ MFr l J J9 ∧ MFs l S S9 ∧ g.1.2.2 ≤ m * 140634) := by
      rintro I9 J9 S9 L9 x9 ⟨rfl, rfl, g9, a1, a2, a3, a4, a5, a6, a7⟩ x2 ex2
      exact ⟨z - (m + 1), by omega, rfl, m + 1, g9, by omega, by rw [ex2]; exact nI_1 m, rfl, a1, a2, a3, a4, a5, a6, a7⟩
    refine n2_isOpen hRM' ht hw (fun hop => ?_) (fun hop => ?_)
    · rw [if_pos hop] at hG
      have hcnt2 : g.1.2.2 ≤ (m + 1) * 140634 := Nat.le_trans hcnt (Nat.mul_le_mul_right 140634 (Nat.le_succ m))
      exact ⟨fun I9 J9 S9 L9 x9 => x9 = nI m ∧ L9 = L' ∧ ∃ g : TC, LR l b X (fun _ => False) g.1 I9 J9 S9 ∧ J9 28 l = g.2 ∧ G = rpF X r t b (z - (m + 1)) (m + 1) g ∧ MFi l I I9 ∧ MFr l J J9 ∧ MFs l S S9 ∧ g.1.2.2 ≤ (m + 1) * 140634, nx, fun hc => absurd hc (by decide), fun _ => ⟨rfl, rfl, g, hLg, h28g, hG, hI, hJ, hSs, hcnt2⟩⟩
    · rw [if_neg hop] at hG
      refine ⟨fun I9 J9 S9 L9 x9 => x9 = nI m ∧ L9 = L' ∧ ∃ g : TC, LR l b X (fun _ => False) g.1 I9 J9 S9 ∧ J9 28 l = g.2 ∧ G = rpF X r t b (z - (m + 1)) (m + 1) g ∧ MFi l I I9 ∧ MFr l J J9 ∧ MFs l S S9 ∧ g.1.2.2 ≤ (m + 1) * 140634, nx, fun _ => ⟨hv7, ?_⟩, fun hc => absurd rfl hc⟩
      have i13 := hRM'.2.2.2.1 (t * 12 + w) (by omega)
      have c0 := cn_r hRp ht hw (m := 0) (by omega)
      have c1 := cn_r hRp ht hw (m := 1) (by omega)
      have c2 := cn_r hRp ht hw (m := 2) (by omega)
      unfold cnF at c0 c1 c2
      rw [Int32.toInt_toInt64] at c0 c1 c2
      rw [clN (show t * 12 + w < 2 ^ 31 by omega), hRM'.1]
      refine ⟨fun h2 => ⟨hv7, ?_⟩, fun h2 => ⟨hv7, ?_⟩⟩
      · rw [biF_1 h2] at hG
        rw [i13.1, dy_1]
        refine n2_comes (r := r) (g := g.1) (N := m * 140634) (hM.fr hI.1) (hSM.fr hI.1) hB hS hb ((hSs.1 1 (by omega) (by omega)).trans s1) hl ht hr hw hk h1 h6 c0.1 c0.2 hLg hcnt (by omega) (fun I3 J3 S3 a1 a2 a3 a4 a5 a6 => ⟨rfl, rfl, pt1 X r t b w 1 0 g, a1, ?_, hG, hI.tr a2, hJ.tr a3, hSs.tr a4, ?_⟩)
        · rw [a5, h28g]
          rfl
        · show (shF X r t b w (stN X w (dyF t 1 0)) (cnF X t w 0) 3 0 g.1).2.2 ≤ (m + 1) * 140634
          have : (shF X r t b w (stN X w (dyF t 1 0)) (cnF X t w 0) 3 0 g.1).2.2 ≤ m * 140634 + 46878 := a6
          omega
      · rw [biF_3 h2] at hG
        rw [i13.1, dy_0]
        refine n2_comes (r := r) (g := g.1) (N := m * 140634) (hM.fr hI.1) (hSM.fr hI.1) hB hS hb ((hSs.1 1 (by omega) (by omega)).trans s1) hl ht hr hw hk h1 h6 c0.1 c0.2 hLg hcnt (by omega) (fun I3 J3 S3 a1 a2 a3 a4 a5 a6 => ⟨hv7, ?_⟩)
        have hI3 := hI.tr a2
        have hS3 := hSs.tr a4
        have j13 := (hRM.fr hI3.1).2.2.2.1 (t * 12 + w) (by omega)
        rw [j13.2.1, dy_2]
        refine n2_comes (r := r) (g := (pt1 X r t b w 3 0 g).1) (N := m * 140634 + 46878) (hM.fr hI3.1) (hSM.fr hI3.1) hB hS hb ((hS3.1 1 (by omega) (by omega)).trans s1) hl ht hr hw hk h1 h6 c1.1 c1.2 a1 a6 (by omega) (fun I4 J4 S4 b1 b2 b3 b4 b5 b6 => ⟨hv7, ?_⟩)
        have hI4 := hI3.tr b2
        have hS4 := hS3.tr b4
        have k13 := (hRM.fr hI4.1).2.2.2.1 (t * 12 + w) (by omega)
        rw [k13.2.2, dy_3]
        refine n2_comes (r := r) (g := (pt1 X r t b w 3 1 (pt1 X r t b w 3 0 g)).1) (N := m * 140634 + 46878 + 46878) (hM.fr hI4.1) (hSM.fr hI4.1) hB hS hb ((hS4.1 1 (by omega) (by omega)).trans s1) hl ht hr hw hk h1 h6 c2.1 c2.2 b1 b6 (by omega) (fun I5 J5 S5 d1 d2 d3 d4 d5 d6 => ⟨rfl, rfl, pt1 X r t b w 3 2 (pt1 X r t b w 3 1 (pt1 X r t b w 3 0 g)), d1, ?_, hG, hI4.tr d2, ((hJ.tr a3).tr b3).tr d3, hS4.tr d4, ?_⟩)
        · rw [d5, b5, a5, h28g]
          rfl
        · have : (shF X r t b w (stN X w (dyF t 3 2)) (cnF X t w 2) 3 0 (pt1 X r t b w 3 1 (pt1 X r t b w 3 0 g)).1).2.2 ≤ m * 140634 + 46878 + 46878 + 46878 := d6
          show (shF X r t b w (stN X w (dyF t 3 2)) (cnF X t w 2) 3 0 (pt1 X r t b w 3 1 (pt1 X r t b w 3 0 g)).1).2.2 ≤ (m + 1) * 140634
          omega
end
