abbrev TF : Type := Int32 × Nat × Nat × Int64
/-- a LINE on its way at depth e: hand, its number, the next BARGAIN, what is left -/
def lnL (X : TI) (r t b : Nat) (w : Int32) (e : Nat) (f : TF) (g : TG) : TG :=
  if e = 0 then lnF X r t w true (fun k y g => rl1 X r t b w (X 13 k) (nI k) (k + 1) y g) f.1 f.2.1 (b - f.2.2.1) f.2.2.1 f.2.2.2 g
  else if e = 1 then lnF X r t w true (fun k y g => rl2 X r t b w (X 13 k) (nI k) (k + 1) y g) f.1 f.2.1 (b - f.2.2.1) f.2.2.1 f.2.2.2 g
  else lnF X r t w false (fun _ _ g => g) f.1 f.2.1 (b - f.2.2.1) f.2.2.1 f.2.2.2 g
def fin (X : TI) (r t b : Nat) (w : Int32) (F : Nat → TF) : Nat → TG → TG
  | 0, g => g
  | d + 1, g => fin X r t b w F d (lnL X r t b w d (F d) g)
section
variable {X : TI} {r t b : Nat} {w : Int32}
theorem fin_s {F : Nat → TF} {d : Nat} {g : TG} : fin X r t b w F (d + 1) g = fin X r t b w F d (lnL X r t b w d (F d) g) := rfl
theorem fin_cong {F G : Nat → TF} : ∀ {d : Nat} {g : TG}, (∀ e, e < d → F e = G e) → fin X r t b w F d g = fin X r t b w G d g
  | 0, _, _ => rfl
  | d + 1, g, h => by
    rw [fin_s, fin_s, h d (by omega)]
    exact fin_cong (fun e he => h e (by omega))
theorem lnL_stop {e n i : Nat} {h : Int32} {y : Int64} {g : TG} (hs : n = b ∨ lg_cmp y 0 ≤ 0) : lnL X r t b w e (h, i, n, y) g = enF r i h.toNatClampNeg y g := by
  unfold lnL
  rcases hs with hs | hs
  · dsimp only
    rw [hs, Nat.sub_self]
    split
    · exact lnF_0
    · split
      · exact lnF_0
      · exact lnF_0
  · dsimp only
    split
    · exact lnF_z hs
    · split
      · exact lnF_z hs
      · exact lnF_z hs
theorem lnL_skip {e n i : Nat} {h : Int32} {y : Int64} {g : TG} (hn : n < b) (hz : ¬ lg_cmp y 0 ≤ 0) (hh : ¬ (hdP X w h t n ∧ (e < 2 ∨ ¬ psP X n))) : lnL X r t b w e (h, i, n, y) g = lnL X r t b w e (h, i, n + 1, y) g := by
  unfold lnL
  dsimp only
  rw [show b - n = (b - (n + 1)) + 1 by omega]
  by_cases h0 : e = 0
  · rw [if_pos h0, if_pos h0]
    exact lnF_skip hz (fun q => hh ⟨q.1, Or.inl (by omega)⟩)
  · rw [if_neg h0, if_neg h0]
    by_cases h1 : e = 1
    · rw [if_pos h1, if_pos h1]
      exact lnF_skip hz (fun q => hh ⟨q.1, Or.inl (by omega)⟩)
    · rw [if_neg h1, if_neg h1]
      refine lnF_skip hz (fun q => hh ⟨q.1, Or.inr ?_⟩)
      rcases q.2 with g | g
      · exact absurd g (by decide)
      · exact g
theorem lnL_keep {e n i : Nat} {h : Int32} {y : Int64} {g : TG} (hn : n < b) (hz : ¬ lg_cmp y 0 ≤ 0) (hh : hdP X w h t n) (he : e < 2 ∨ ¬ psP X n) (hp : ¬ (psP X n ∧ ¬ lg_cmp (tkF X g.2.1 n y) 0 ≤ 0)) : lnL X r t b w e (h, i, n, y) g = lnL X r t b w e (h, i, n + 1, y - tkF X g.2.1 n y) (g.1, meetF X t g.2.1 n y, g.2.2) := by
  unfold lnL
  dsimp only
  rw [show b - n = (b - (n + 1)) + 1 by omega]
  by_cases h0 : e = 0
  · rw [if_pos h0, if_pos h0]
    exact lnF_keep (g := g) (n := n) (y := y) hz ⟨hh, Or.inl rfl⟩ hp
  · rw [if_neg h0, if_neg h0]
    by_cases h1 : e = 1
    · rw [if_pos h1, if_pos h1]
      exact lnF_keep (g := g) (n := n) (y := y) hz ⟨hh, Or.inl rfl⟩ hp
    · rw [if_neg h1, if_neg h1]
      refine lnF_keep (g := g) (n := n) (y := y) hz ⟨hh, Or.inr ?_⟩ hp
      rcases he with q | q
      · omega
      · exact q
theorem lnL_pass {e n i : Nat} {h : Int32} {y : Int64} {g : TG} (hn : n < b) (hz : ¬ lg_cmp y 0 ≤ 0) (hh : hdP X w h t n) (he : e < 2) (hp : psP X n ∧ ¬ lg_cmp (tkF X g.2.1 n y) 0 ≤ 0) : lnL X r t b w e (h, i, n, y) g = lnL X r t b w e (h, i, n + 1, y - tkF X g.2.1 n y) (lnL X r t b w (e + 1) (X 13 n, g.2.2, n + 1, tkF X g.2.1 n y) (bgF r w (X 13 n) (nI n) (tkF X g.2.1 n y) (g.1, meetF X t g.2.1 n y, g.2.2))) := by
  rcases (show e = 0 ∨ e = 1 by omega) with rfl | rfl
  · unfold lnL
    dsimp only
    rw [show b - n = (b - (n + 1)) + 1 by omega, if_pos rfl, if_pos rfl, if_neg (by omega), if_pos rfl, lnF_pass (g := g) (n := n) (y := y) hz ⟨hh, Or.inl rfl⟩ hp]
    rfl
  · unfold lnL
    dsimp only
    rw [show b - n = (b - (n + 1)) + 1 by omega, if_neg (by omega), if_pos rfl, if_neg (by omega), if_pos rfl, if_neg (by omega), if_neg (by omega), lnF_pass (g := g) (n := n) (y := y) hz ⟨hh, Or.inl rfl⟩ hp]
    rfl
end
/-- ledger l while LINES are on their way -/
def LR (l b : Nat) (X : TI) (op : Nat → Prop) (g : TG) (Im : TI) (Jm : TJ) (Sm : TS) : Prop := MV l X g.2.1 Jm ∧ (l = 0 → MRc op g.1 g.2.1 g.2.2 Im Jm Sm) ∧ KIn b X g.2.1
def FrOK (l b : Nat) (f : TF) (e : Nat) (I : TI) (J : TJ) : Prop := I 29 e = f.1 ∧ W12 f.1 ∧ I 30 e = nI f.2.2.1 ∧ f.2.2.1 ≤ b ∧ I 31 e = tl l f.2.1 ∧ J 32 e = f.2.2.2 ∧ 0 ≤ f.2.2.2.toInt ∧ f.2.2.2.toInt ≤ 1000000000000
section
variable {X : TI} {l b r : Nat}
theorem MV.pur {J Jm : TJ} {h : Nat} {y : Int64} (hV : MV l X J Jm) (hh : h < 12) : MV l X (prF J h y) (va_up Jm 21 (vp_updL (Jm 21) (12 * l + h) (Jm 21 (12 * l + h) + y))) := by
  obtain ⟨a, b, c, e⟩ := hV
  unfold prF
  refine ⟨fun k hk => ?_, fun k hk => ?_, fun k hk h2 => ?_, fun k u hk hu => ?_⟩
  · rw [va_up_self, va_up_self]
    by_cases g : k = h
    · subst g
      rw [pk_uLs, pk_uLs, a k hk]
    · rw [pk_uLn g, pk_uLn (by omega), a k hk]
  · rw [va_up_ne _ _ (by omega), va_up_ne _ _ (by omega)]; exact b k hk
  · rw [va_up_ne _ _ (by omega), va_up_ne _ _ (by omega)]; exact c k hk h2
  · rw [va_up_ne _ _ (by omega), va_up_ne _ _ (by omega)]; exact e k u hk hu
theorem MV.same {J J' Jm Jm' : TJ} (hV : MV l X J Jm) (h26 : J' 26 = J 26) (h30 : J' 30 = J 30) (h31 : J' 31 = J 31) (h32 : J' 32 = J 32) (m1 : Jm' 21 = Jm 21) (m3 : Jm' 23 = Jm 23) (m4 : Jm' 24 = Jm 24) (m5 : Jm' 25 = Jm 25) : MV l X J' Jm' := by
  unfold MV
  rw [h26, h30, h31, h32, m1, m3, m4, m5]
  exact hV
theorem enF_p {i h : Nat} {y : Int64} {g : TG} : (enF r i h y g).1 = g.1 ∧ (enF r i h y g).2.2 = g.2.2 ∧ (∀ k, k ≠ 38 → (enF r i h y g).2.1 k = prF g.2.1 h y k) ∧ (enF r i h y g).2.1 38 = if i < r then vp_updL (g.2.1 38) i y else g.2.1 38 := by
  unfold enF
  by_cases hi : i < r
  · rw [if_pos hi, if_pos hi]
    refine ⟨rfl, rfl, fun k hk => va_up_ne _ _ hk, ?_⟩
    have e : va_up (prF g.2.1 h y) 38 (vp_updL ((prF g.2.1 h y) 38) i y) 38 = vp_updL (g.2.1 38) i y := by
      rw [va_up_self]
      unfold prF
      rw [va_up_ne _ _ (by omega)]
    exact e
  · rw [if_neg hi, if_neg hi]
    refine ⟨rfl, rfl, fun k hk => rfl, ?_⟩
    show prF g.2.1 h y 38 = g.2.1 38
    unfold prF
    rw [va_up_ne _ _ (by omega)]
theorem bgF_p {w h f : Int32} {m : Int64} {g : TG} : (bgF r w h f m g).2.2 = g.2.2 + 1 ∧ (∀ k, k ≠ 37 → (bgF r w h f m g).2.1 k = g.2.1 k) ∧ (g.2.2 < r → (bgF r w h f m g).1 34 = upd (g.1 34) g.2.2 w ∧ (bgF r w h f m g).1 35 = upd (g.1 35) g.2.2 h ∧ (bgF r w h f m g).1 36 = upd (g.1 36) g.2.2 f ∧ (bgF r w h f m g).2.1 37 = vp_updL (g.2.1 37) g.2.2 m) ∧ (¬ g.2.2 < r → (bgF r w h f m g).1 = g.1 ∧ (bgF r w h f m g).2.1 = g.2.1) := by
  unfold bgF
  by_cases hi : g.2.2 < r
  · rw [if_pos hi]
    refine ⟨rfl, fun k hk => va_up_ne _ _ hk, fun _ => ⟨?_, ?_, ?_, (show va_up g.2.1 37 (vp_updL (g.2.1 37) g.2.2 m) 37 = vp_updL (g.2.1 37) g.2.2 m from va_up_self _ _ _)⟩, fun q => absurd hi q⟩
    · show bgI g.1 g.2.2 w h f 34 = _
      unfold bgI
      rw [va_up_ne _ _ (by omega), va_up_ne _ _ (by omega), va_up_self]
    · show bgI g.1 g.2.2 w h f 35 = _
      unfold bgI
      rw [va_up_ne _ _ (by omega), va_up_self, va_up_ne _ _ (by omega)]
    · show bgI g.1 g.2.2 w h f 36 = _
      unfold bgI
      rw [va_up_self, va_up_ne _ _ (by omega), va_up_ne _ _ (by omega)]
  · rw [if_neg hi]
    exact ⟨rfl, fun _ _ => rfl, fun q => absurd q hi, fun _ => ⟨rfl, rfl⟩⟩
/-- a line begins on both sides -/
theorem LR.begin {op op' : Nat → Prop} {g : TG} {d : Nat} {w h f : Int32} {m : Int64} {Im Im' : TI} {Jm Jm' : TJ} {Sm Sm' : TS} (hr : l = 0 → r = 600) (hL : LR l b X op g Im Jm Sm) (hP : BP l g.2.2 d w h f m Im Jm Sm Im' Jm' Sm') (ho : ∀ i, op i → op' i) (hN : op' g.2.2) : LR l b X op' (bgF r w h f m g) Im' Jm' Sm' := by
  obtain ⟨hV, hC, hK⟩ := hL
  obtain ⟨p1, p2, p3, p4, p5, p6, p7, p8, p9, p10⟩ := hP
  obtain ⟨q1, q2, q3, q4⟩ := bgF_p (r := r) (w := w) (h := h) (f := f) (m := m) (g := g)
  refine ⟨hV.same (q2 26 (by omega)) (q2 30 (by omega)) (q2 31 (by omega)) (q2 32 (by omega)) (p5 21 (by omega) (by omega) (by omega)) (p5 23 (by omega) (by omega) (by omega)) (p5 24 (by omega) (by omega) (by omega)) (p5 25 (by omega) (by omega) (by omega)), fun h0 => ?_, ?_⟩
  · obtain ⟨c1, c2⟩ := hC h0
    obtain ⟨s3, a, b2⟩ := p10 h0
    refine ⟨by rw [q1]; exact s3, fun i hi h6 => ?_⟩
    rw [q1] at hi
    rw [q2 38 (by omega)]
    by_cases hN6 : g.2.2 < 600
    · obtain ⟨a1, a2, a3, a4, a5⟩ := a hN6
      obtain ⟨r1, r2, r3, r4⟩ := q3 (by rw [hr h0]; exact hN6)
      rw [a1, a2, a3, a4, a5, r1, r2, r3, r4]
      by_cases gi : i = g.2.2
      · subst gi
        rw [pk_us, pk_us, pk_us, pk_us, pk_us, pk_us, pk_uLs, pk_uLs]
        exact ⟨rfl, rfl, rfl, rfl, fun q => absurd hN q⟩
      · rw [pk_un gi, pk_un gi, pk_un gi, pk_un gi, pk_un gi, pk_un gi, pk_uLn gi, pk_uLn gi, pk_uLn gi]
        obtain ⟨e1, e2, e3, e4, e5⟩ := c2 i (by omega) h6
        exact ⟨e1, e2, e3, e4, fun q => e5 (fun o => q (ho i o))⟩
    · obtain ⟨a1, a2, a3, a4, a5⟩ := b2 hN6
      obtain ⟨r1, r2⟩ := q4 (by rw [hr h0]; exact hN6)
      rw [a1, a2, a3, a4, a5, r1, r2]
      obtain ⟨e1, e2, e3, e4, e5⟩ := c2 i (by omega) h6
      exact ⟨e1, e2, e3, e4, fun q => e5 (fun o => q (ho i o))⟩
  · intro k hk h1
    rw [q2 30 (by omega)]
    exact hK k hk h1
/-- a line ends on both sides -/
theorem LR.fin {op op' : Nat → Prop} {g : TG} {i h : Nat} {y : Int64} {Im : TI} {Jm Jm' : TJ} {Sm Sm' : TS} (hr : l = 0 → r = 600) (hh : h < 12) (hL : LR l b X op g Im Jm Sm) (e21 : Jm' 21 = vp_updL (Jm 21) (12 * l + h) (Jm 21 (12 * l + h) + y)) (e37 : (l = 0 ∧ i < 600) → Jm' 37 = vp_updL (Jm 37) i y) (n37 : ¬ (l = 0 ∧ i < 600) → Jm' 37 = Jm 37) (eo : ∀ k, k ≠ 21 → k ≠ 37 → Jm' k = Jm k) (s3 : Sm' 3 = Sm 3) (ho : ∀ k, op k → k = i ∨ op' k) : LR l b X op' (enF r i h y g) Im Jm' Sm' := by
  obtain ⟨hV, hC, hK⟩ := hL
  obtain ⟨q1, q2, q3, q4⟩ := enF_p (r := r) (i := i) (h := h) (y := y) (g := g)
  refine ⟨?_, fun h0 => ?_, ?_⟩
  · refine (hV.pur (h := h) (y := y) hh).same (q3 26 (by omega)) (q3 30 (by omega)) (q3 31 (by omega)) (q3 32 (by omega)) ?_ ?_ ?_ ?_
    · rw [e21, va_up_self]
    · rw [eo 23 (by omega) (by omega), va_up_ne _ _ (by omega)]
    · rw [eo 24 (by omega) (by omega), va_up_ne _ _ (by omega)]
    · rw [eo 25 (by omega) (by omega), va_up_ne _ _ (by omega)]
  · obtain ⟨c1, c2⟩ := hC h0
    refine ⟨by rw [q2, s3]; exact c1, fun k hk h6 => ?_⟩
    rw [q2] at hk
    obtain ⟨e1, e2, e3, e4, e5⟩ := c2 k hk h6
    rw [q1, q3 37 (by omega), q4, hr h0, eo 36 (by omega) (by omega)]
    refine ⟨e1, e2, e3, ?_, fun q => ?_⟩
    · unfold prF
      rw [va_up_ne _ _ (by omega)]
      exact e4
    · by_cases hi6 : i < 600
      · rw [e37 ⟨h0, hi6⟩, if_pos hi6]
        by_cases gk : k = i
        · subst gk
          rw [pk_uLs, pk_uLs]
        · rw [pk_uLn gk, pk_uLn gk]
          exact e5 (fun o => by rcases ho k o with g | g; exact gk g; exact q g)
      · rw [n37 (fun z => hi6 z.2), if_neg hi6]
        exact e5 (fun o => by rcases ho k o with g | g; omega; exact q g)
  · intro k hk h1
    rw [q3 30 (by omega)]
    unfold prF
    rw [va_up_ne _ _ (by omega)]
    exact hK k hk h1
theorem LR.meet {op : Nat → Prop} {g : TG} {n t d : Nat} {y : Int64} {Im : TI} {Jm : TJ} {Sm : TS} (hB : BgX b X) (hb : b ≤ 24) (hn : n < b) (ht : t < 40) (hy0 : 0 ≤ y.toInt) (hy : y.toInt ≤ 1000000000000) (hL : LR l b X op g Im Jm Sm) : LR l b X op (g.1, meetF X t g.2.1 n y, g.2.2) Im (jmF X l t n d Jm y (tkF X g.2.1 n y)) Sm := by
  obtain ⟨hV, hC, hK⟩ := hL
  refine ⟨hV.meet (by omega) ht, fun h0 => ?_, hK.meet hB hn hy0 hy⟩
  obtain ⟨c1, c2⟩ := hC h0
  refine ⟨c1, fun k hk h6 => ?_⟩
  show Im 33 k = g.1 34 k ∧ Im 34 k = g.1 35 k ∧ Im 35 k = g.1 36 k ∧ jmF X l t n d Jm y (tkF X g.2.1 n y) 36 k = meetF X t g.2.1 n y 37 k ∧ (¬ op k → jmF X l t n d Jm y (tkF X g.2.1 n y) 37 k = meetF X t g.2.1 n y 38 k)
  rw [jm_o (by omega) (by omega) (by omega) (by omega), jm_o (by omega) (by omega) (by omega) (by omega), meet_o (by omega) (by omega) (by omega), meet_o (by omega) (by omega) (by omega)]
  exact c2 k hk h6
/-- a FLOOR is met: nothing that is told changes -/
theorem LR.floor {op : Nat → Prop} {g : TG} {n t : Nat} {y : Int64} {Im : TI} {Jm : TJ} {Sm : TS} (h2 : X 6 n = 2) (hL : LR l b X op g Im Jm Sm) : tkF X g.2.1 n y = 0 ∧ LR l b X op (g.1, meetF X t g.2.1 n y, g.2.2) Im Jm Sm := by
  obtain ⟨hV, hC, hK⟩ := hL
  have h0 : tkF X g.2.1 n y = 0 := by
    unfold tkF
    rw [if_neg (by rw [h2]; decide), if_neg (by rw [h2]; decide), if_neg (by rw [h2]; decide)]
  have e30 : meetF X t g.2.1 n y 30 = g.2.1 30 := by
    rw [meet_30, h0]
    funext k
    by_cases gk : k = n
    · subst gk
      rw [pk_uLs, Int64.add_zero]
    · rw [pk_uLn gk]
  have e32 : meetF X t g.2.1 n y 32 = g.2.1 32 := by
    rw [meet_32, if_neg (by rw [h2]; decide)]
  refine ⟨h0, ⟨fun k hk => ?_, fun k hk => ?_, fun k hk hf => ?_, fun k u hk hu => ?_⟩, fun hl => ?_, fun k hk h1 => ?_⟩
  · show Jm 21 (12 * l + k) = meetF X t g.2.1 n y 26 k
    rw [meet_o (by omega) (by omega) (by omega)]
    exact hV.1 k hk
  · show Jm 23 (24 * l + k) = meetF X t g.2.1 n y 30 k
    rw [e30]
    exact hV.2.1 k hk
  · show Jm 24 (24 * l + k) = meetF X t g.2.1 n y 31 k
    rw [meet_31, pk_uLn (fun q => hf (by rw [q]; exact h2))]
    exact hV.2.2.1 k hk hf
  · show Jm 25 ((l * 24 + k) * 40 + u) = meetF X t g.2.1 n y 32 (k * 40 + u)
    rw [e32]
    exact hV.2.2.2 k u hk hu
  · obtain ⟨c1, c2⟩ := hC hl
    refine ⟨c1, fun k hk h6 => ?_⟩
    show Im 33 k = g.1 34 k ∧ Im 34 k = g.1 35 k ∧ Im 35 k = g.1 36 k ∧ Jm 36 k = meetF X t g.2.1 n y 37 k ∧ (¬ op k → Jm 37 k = meetF X t g.2.1 n y 38 k)
    rw [meet_o (by omega) (by omega) (by omega), meet_o (by omega) (by omega) (by omega)]
    exact c2 k hk h6
  · show 0 ≤ (meetF X t g.2.1 n y 30 k).toInt ∧ (meetF X t g.2.1 n y 30 k).toInt ≤ (X 10 k).toInt * 1000000
    rw [e30]
    exact hK k hk h1
end
theorem BP.fr {l N d : Nat} {p1 p2 p3 : Int32} {p4 : Int64} {I I' : TI} {J J' : TJ} {S S' : TS} (h : BP l N d p1 p2 p3 p4 I J S I' J' S') : MFi l I I' ∧ MFr l J J' ∧ MFs l S S' := by
  obtain ⟨a1, a2, a3, a4, a5, a6, a7, a8, a9, a10⟩ := h
  refine ⟨⟨fun n hn => a1 n (by omega) (by omega) (by omega) (by omega) (by omega) (by omega), fun h => ⟨(a9 h).1, (a9 h).2.1, (a9 h).2.2.1⟩⟩, ⟨fun k h1 h2 h3 h4 h5 h6 h7 h8 => a5 k h6 h7 h8, fun i _ => by rw [a5 21 (by omega) (by omega) (by omega)], fun i _ => ⟨by rw [a5 23 (by omega) (by omega) (by omega)], by rw [a5 24 (by omega) (by omega) (by omega)]⟩, fun i _ => by rw [a5 25 (by omega) (by omega) (by omega)], fun i _ => by rw [a5 28 (by omega) (by omega) (by omega)], fun h => ⟨(a9 h).2.2.2.1, (a9 h).2.2.2.2.1⟩⟩, ⟨a7, fun h => (a9 h).2.2.2.2.2⟩⟩
