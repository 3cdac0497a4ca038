def sm (f : Nat → Int64) : Nat → Int
  | 0 => 0
  | n + 1 => sm f n + (f n).toInt
theorem sm_s (f : Nat → Int64) (n : Nat) : sm f (n + 1) = sm f n + (f n).toInt := rfl
theorem sm_cong {f g : Nat → Int64} : ∀ {n : Nat}, (∀ i, i < n → f i = g i) → sm f n = sm g n
  | 0, _ => rfl
  | n + 1, h => by rw [sm_s, sm_s, sm_cong (fun i hi => h i (by omega)), h n (by omega)]
theorem sm_upd {f : Nat → Int64} {k : Nat} {v : Int64} : ∀ {n : Nat}, k < n → sm (vp_updL f k v) n = sm f n - (f k).toInt + v.toInt
  | n + 1, h => by
    by_cases g : k = n
    · subst g
      rw [sm_s, sm_s, pk_uLs, sm_cong (g := f) (fun i hi => pk_uLn (by omega))]
      omega
    · rw [sm_s, sm_s, sm_upd (by omega), pk_uLn (by omega)]
      omega
theorem sm_nn {f : Nat → Int64} : ∀ {n : Nat}, (∀ i, i < n → 0 ≤ (f i).toInt) → 0 ≤ sm f n
  | 0, _ => Int.le_refl _
  | n + 1, h => by
    have h1 := sm_nn (fun i hi => h i (Nat.lt_succ_of_lt hi))
    have h2 := h n (by omega)
    rw [sm_s]
    omega
theorem sm_ge {f : Nat → Int64} {k : Nat} : ∀ {n : Nat}, k < n → (∀ i, i < n → 0 ≤ (f i).toInt) → (f k).toInt ≤ sm f n
  | n + 1, hk, h => by
    have h2 := h n (by omega)
    rw [sm_s]
    by_cases g : k = n
    · subst g
      have h1 := sm_nn (fun i hi => h i (Nat.lt_succ_of_lt hi))
      omega
    · have := sm_ge (k := k) (n := n) (by omega) (fun i hi => h i (by omega))
      omega
/-- the DUES of a HAND together -/
def dS (D : Nat → Int32) (h : Nat) : Nat → Int
  | 0 => 0
  | t + 1 => dS D h t + (D (h * 40 + t)).toInt
theorem dS_s (D : Nat → Int32) (h t : Nat) : dS D h (t + 1) = dS D h t + (D (h * 40 + t)).toInt := rfl
theorem dS_cong {D E : Nat → Int32} {h : Nat} : ∀ {n : Nat}, (∀ t, t < n → D (h * 40 + t) = E (h * 40 + t)) → dS D h n = dS E h n
  | 0, _ => rfl
  | n + 1, q => by rw [dS_s, dS_s, dS_cong (fun i hi => q i (by omega)), q n (by omega)]
theorem dS_upd {D : Nat → Int32} {h t : Nat} {v : Int32} : ∀ {n : Nat}, t < n → dS (upd D (h * 40 + t) v) h n = dS D h n - (D (h * 40 + t)).toInt + v.toInt
  | n + 1, q => by
    by_cases g : t = n
    · subst g
      rw [dS_s, dS_s, pk_us, dS_cong (fun i hi => pk_un (by omega))]
      omega
    · rw [dS_s, dS_s, dS_upd (by omega), pk_un (by omega)]
      omega
theorem dS_ne {D : Nat → Int32} {h h2 t : Nat} {v : Int32} (hh : h2 ≠ h) (ht : t < 40) : dS (upd D (h * 40 + t) v) h2 40 = dS D h2 40 := dS_cong (fun i hi => pk_un (by omega))
theorem dS_nn {D : Nat → Int32} {h : Nat} : ∀ {n : Nat}, (∀ t, t < n → 0 ≤ (D (h * 40 + t)).toInt) → 0 ≤ dS D h n
  | 0, _ => Int.le_refl _
  | n + 1, q => by
    have h1 := dS_nn (fun i hi => q i (Nat.lt_succ_of_lt hi))
    have h2 := q n (by omega)
    rw [dS_s]
    omega
def kq (κ : Bool) (D : Nat → Int32) (h : Nat) : Int := if κ = true then 1000000 * dS D h 40 else 0
/-- what a ledger can hold: Lo below, U above; κ where the DUES count too -/
def AB (Lo : Int) (κ : Bool) (U : Int) (D : Nat → Int32) (J : TJ) : Prop := (∀ i, i < 960 → 0 ≤ (J 32 i).toInt) ∧ (∀ h, h < 12 → Lo ≤ (J 26 h).toInt ∧ (J 26 h).toInt + kq κ D h + sm (J 32) 960 ≤ U) ∧ (∀ h, h < 12 → 0 ≤ kq κ D h) ∧ -100000000000000000 ≤ Lo ∧ Lo ≤ 0
section
variable {X : TI} {Lo U : Int} {κ : Bool} {D : Nat → Int32} {J J' : TJ} {b r t : Nat}
theorem AB.same (h : AB Lo κ U D J) (e26 : J' 26 = J 26) (e32 : J' 32 = J 32) : AB Lo κ U D J' := by
  unfold AB
  rw [e26, e32]
  exact h
theorem AB.mono {U2 : Int} (h : AB Lo κ U D J) (hU : U ≤ U2) : AB Lo κ U2 D J := ⟨h.1, fun k hk => by have := h.2.1 k hk; omega, h.2.2⟩
theorem AB.bag {i : Nat} (h : AB Lo κ U D J) (hi : i < 960) : 0 ≤ (J 32 i).toInt ∧ (J 32 i).toInt ≤ sm (J 32) 960 ∧ sm (J 32) 960 ≤ U + 100000000000000000 := by
  have h0 := h.2.1 0 (by omega)
  have h1 := h.2.2.1 0 (by omega)
  have h2 := h.2.2.2
  exact ⟨h.1 i hi, sm_ge hi h.1, by omega⟩
theorem AB.pur {h : Nat} {y : Int64} (q : AB Lo κ U D J) (hh : h < 12) (hy0 : 0 ≤ y.toInt) (hy : y.toInt ≤ 1000000000000) (hU : U ≤ 10000000000000000) : AB Lo κ (U + y.toInt) D (prF J h y) := by
  obtain ⟨h1, h2, h3, h4⟩ := q
  have hs := sm_nn h1
  unfold prF
  refine ⟨fun i hi => ?_, fun k hk => ?_, h3, h4⟩
  · rw [va_up_ne _ _ (by omega)]; exact h1 i hi
  · rw [va_up_self, va_up_ne _ _ (by omega)]
    have a := h2 k hk
    have c := h3 k hk
    by_cases g : k = h
    · subst g
      rw [pk_uLs, vx_ad (by omega) (by omega)]
      omega
    · rw [pk_uLn g]
      omega
theorem AB.meet {n : Nat} {y : Int64} (q : AB Lo κ U D J) (hr0 : 0 ≤ (tkF X J n y).toInt) (hr : (tkF X J n y).toInt ≤ 1000000000000) (hn : n < 24) (ht : t < 40) (hU : U ≤ 10000000000000000) : AB Lo κ (U + (tkF X J n y).toInt) D (meetF X t J n y) := by
  by_cases h4 : X 6 n = 4
  · have hb := q.bag (i := n * 40 + t) (by omega)
    obtain ⟨h1, h2, h3, hL⟩ := q
    have e32 : meetF X t J n y 32 = vp_updL (J 32) (n * 40 + t) (J 32 (n * 40 + t) + tkF X J n y) := by rw [meet_32, if_pos h4]
    have es : (J 32 (n * 40 + t) + tkF X J n y).toInt = (J 32 (n * 40 + t)).toInt + (tkF X J n y).toInt := vx_ad (by omega) (by omega)
    refine ⟨fun i hi => ?_, fun k hk => ?_, h3, hL⟩
    · rw [e32]
      by_cases g : i = n * 40 + t
      · rw [g, pk_uLs, es]
        omega
      · rw [pk_uLn g]
        exact h1 i hi
    · rw [e32, sm_upd (by omega), es, meet_o (by omega) (by omega) (by omega)]
      have := h2 k hk
      omega
  · refine AB.mono (q.same (meet_o (by omega) (by omega) (by omega)) ?_) (by omega)
    rw [meet_32, if_neg h4]
theorem AB_ln {w h : Int32} {ps : Bool} {rec : Nat → Int64 → TG → TG} {i : Nat} (hB : BgX b X) (hb : b ≤ 24) (ht : t < 40) (hw : W12 h) (HR : ps = true → ∀ (n : Nat) (y : Int64) (g : TG) (U : Int), n < b → psP X n → 0 ≤ y.toInt → y.toInt ≤ 1000000000000 → KIn b X g.2.1 → AB Lo κ U D g.2.1 → U + y.toInt ≤ 10000000000000000 → AB Lo κ (U + y.toInt) D (rec n y g).2.1 ∧ KIn b X (rec n y g).2.1) : ∀ (j n : Nat) (y : Int64) (g : TG) (U : Int), n + j = b → 0 ≤ y.toInt → y.toInt ≤ 1000000000000 → KIn b X g.2.1 → AB Lo κ U D g.2.1 → U + y.toInt ≤ 10000000000000000 → AB Lo κ (U + y.toInt) D (lnF X r t w ps rec h i j n y g).2.1 ∧ KIn b X (lnF X r t w ps rec h i j n y g).2.1 := by
  obtain ⟨hN, hhN, ehN⟩ := W12_cases hw
  have fin : ∀ (y : Int64) (g : TG) (U : Int), 0 ≤ y.toInt → y.toInt ≤ 1000000000000 → KIn b X g.2.1 → AB Lo κ U D g.2.1 → U + y.toInt ≤ 10000000000000000 → AB Lo κ (U + y.toInt) D (enF r i h.toNatClampNeg y g).2.1 ∧ KIn b X (enF r i h.toNatClampNeg y g).2.1 := by
    intro y g U y0 y1 hK hA hU
    obtain ⟨q1, q2, q3, q4⟩ := enF_p (r := r) (i := i) (h := h.toNatClampNeg) (y := y) (g := g)
    refine ⟨(hA.pur (h := h.toNatClampNeg) (by rw [ehN, clN (by omega)]; exact hhN) y0 y1 (by omega)).same (q3 26 (by omega)) (q3 32 (by omega)), fun k hk h1 => ?_⟩
    rw [q3 30 (by omega)]
    unfold prF
    rw [va_up_ne _ _ (by omega)]
    exact hK k hk h1
  intro j
  induction j with
  | zero =>
    intro n y g U hn y0 y1 hK hA hU
    rw [lnF_0]
    exact fin y g U y0 y1 hK hA hU
  | succ j ih =>
    intro n y g U hn y0 y1 hK hA hU
    by_cases hz : lg_cmp y 0 ≤ 0
    · rw [lnF_z hz]
      exact fin y g U y0 y1 hK hA hU
    · by_cases hh : hdP X w h t n ∧ (ps = true ∨ ¬ psP X n)
      · have hr := tk_rng (y := y) hB (by omega) hK y0 y1 (n := n)
        have hA1 := hA.meet (X := X) (t := t) (n := n) (y := y) hr.1 (by omega) (by omega) ht (by omega)
        have hK1 := hK.meet (t := t) hB (by omega : n < b) y0 y1
        have es : (y - tkF X g.2.1 n y).toInt = y.toInt - (tkF X g.2.1 n y).toInt := vx_sb (by omega) (by omega)
        by_cases hp : psP X n ∧ ¬ lg_cmp (tkF X g.2.1 n y) 0 ≤ 0
        · rw [lnF_pass (g := g) hz hh hp]
          have hps : ps = true := by
            rcases hh.2 with q | q
            · exact q
            · exact absurd hp.1 q
          -- nothing is kept by a BARGAIN that passes on
          have hA0 : AB Lo κ U D (meetF X t g.2.1 n y) := by
            refine hA.same (meet_o (by omega) (by omega) (by omega)) ?_
            rw [meet_32, if_neg (fun q => by rcases hp.1 with k | k <;> (rw [k] at q; exact absurd q (by decide)))]
          obtain ⟨a1, a2⟩ := HR hps n (tkF X g.2.1 n y) (g.1, meetF X t g.2.1 n y, g.2.2) U (by omega) hp.1 hr.1 (by omega) hK1 hA0 (by omega)
          obtain ⟨b1, b2⟩ := ih (n + 1) (y - tkF X g.2.1 n y) _ (U + (tkF X g.2.1 n y).toInt) (by omega) (by omega) (by omega) a2 a1 (by omega)
          refine ⟨b1.mono (by omega), b2⟩
        · rw [lnF_keep (g := g) hz hh hp]
          obtain ⟨b1, b2⟩ := ih (n + 1) (y - tkF X g.2.1 n y) (g.1, meetF X t g.2.1 n y, g.2.2) (U + (tkF X g.2.1 n y).toInt) (by omega) (by omega) (by omega) hK1 hA1 (by omega)
          refine ⟨b1.mono (by omega), b2⟩
      · rw [lnF_skip hz hh]
        exact ih (n + 1) y g U (by omega) y0 y1 hK hA hU
theorem AB_rl {w h f : Int32} {ps : Bool} {rec : Nat → Int64 → TG → TG} {n : Nat} {m : Int64} {g : TG} (hB : BgX b X) (hb : b ≤ 24) (ht : t < 40) (hw : W12 h) (HR : ps = true → ∀ (n : Nat) (y : Int64) (g : TG) (U : Int), n < b → psP X n → 0 ≤ y.toInt → y.toInt ≤ 1000000000000 → KIn b X g.2.1 → AB Lo κ U D g.2.1 → U + y.toInt ≤ 10000000000000000 → AB Lo κ (U + y.toInt) D (rec n y g).2.1 ∧ KIn b X (rec n y g).2.1) (hn : n ≤ b) (m0 : 0 ≤ m.toInt) (m1 : m.toInt ≤ 1000000000000) (hK : KIn b X g.2.1) (hA : AB Lo κ U D g.2.1) (hU : U + m.toInt ≤ 10000000000000000) : AB Lo κ (U + m.toInt) D (rlF X r t b w ps rec h f n m g).2.1 ∧ KIn b X (rlF X r t b w ps rec h f n m g).2.1 := by
  unfold rlF
  obtain ⟨q1, q2, q3, q4⟩ := bgF_p (r := r) (w := w) (h := h) (f := f) (m := m) (g := g)
  refine AB_ln hB hb ht hw HR (b - n) n m _ U (by omega) m0 m1 (fun k hk h1 => ?_) (hA.same (q2 26 (by omega)) (q2 32 (by omega))) hU
  rw [q2 30 (by omega)]
  exact hK k hk h1
theorem AB_rl2 {w h f : Int32} {n : Nat} {m : Int64} {g : TG} (hB : BgX b X) (hb : b ≤ 24) (ht : t < 40) (hw : W12 h) (hn : n ≤ b) (m0 : 0 ≤ m.toInt) (m1 : m.toInt ≤ 1000000000000) (hK : KIn b X g.2.1) (hA : AB Lo κ U D g.2.1) (hU : U + m.toInt ≤ 10000000000000000) : AB Lo κ (U + m.toInt) D (rl2 X r t b w h f n m g).2.1 ∧ KIn b X (rl2 X r t b w h f n m g).2.1 := AB_rl hB hb ht hw (fun q => absurd q (by decide)) hn m0 m1 hK hA hU
theorem AB_rl1 {w h f : Int32} {n : Nat} {m : Int64} {g : TG} (hB : BgX b X) (hb : b ≤ 24) (ht : t < 40) (hw : W12 h) (hn : n ≤ b) (m0 : 0 ≤ m.toInt) (m1 : m.toInt ≤ 1000000000000) (hK : KIn b X g.2.1) (hA : AB Lo κ U D g.2.1) (hU : U + m.toInt ≤ 10000000000000000) : AB Lo κ (U + m.toInt) D (rl1 X r t b w h f n m g).2.1 ∧ KIn b X (rl1 X r t b w h f n m g).2.1 := AB_rl hB hb ht hw (fun _ n y g U hn hp y0 y1 hK hA hU => AB_rl2 hB hb ht ((hB n hn).2.2 hp) (by omega) y0 y1 hK hA hU) hn m0 m1 hK hA hU
theorem AB_rl0 {w h f : Int32} {n : Nat} {m : Int64} {g : TG} (hB : BgX b X) (hb : b ≤ 24) (ht : t < 40) (hw : W12 h) (hn : n ≤ b) (m0 : 0 ≤ m.toInt) (m1 : m.toInt ≤ 1000000000000) (hK : KIn b X g.2.1) (hA : AB Lo κ U D g.2.1) (hU : U + m.toInt ≤ 10000000000000000) : AB Lo κ (U + m.toInt) D (rl0 X r t b w h f n m g).2.1 ∧ KIn b X (rl0 X r t b w h f n m g).2.1 := AB_rl hB hb ht hw (fun _ n y g U hn hp y0 y1 hK hA hU => AB_rl1 hB hb ht ((hB n hn).2.2 hp) (by omega) y0 y1 hK hA hU) hn m0 m1 hK hA hU
end
