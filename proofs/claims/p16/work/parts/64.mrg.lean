def mrg {α : Type} (B A : Nat → α) : Nat → α := fun j => if 25 ≤ j ∧ j < 39 then A j else B j
theorem mrg_at {α : Type} {B A : Nat → α} {k : Nat} (h : 25 ≤ k ∧ k < 39) : mrg B A k = A k := if_pos h
theorem mrg_ot {α : Type} {B A : Nat → α} {k : Nat} (h : ¬ (25 ≤ k ∧ k < 39)) : mrg B A k = B k := if_neg h
theorem mrg_up {α : Type} {B A : Nat → α} {k : Nat} {v : α} (h : 25 ≤ k ∧ k < 39) : va_up (mrg B A) k v = mrg B (va_up A k v) := by
  funext j
  by_cases hj : j = k
  · subst hj
    rw [va_up_self, mrg_at h, va_up_self]
  · rw [va_up_ne _ _ hj]
    unfold mrg
    split
    · rw [va_up_ne _ _ hj]
    · rfl
theorem mrg_self {α : Type} (A : Nat → α) : mrg A A = A := by
  funext j
  unfold mrg
  split <;> rfl
def mg (B : TI) (C : TJ) (g : TG) : TG := (mrg B g.1, mrg C g.2.1, g.2.2)
def mp (B : TI) (C : TJ) (g : TI × TJ) : TI × TJ := (mrg B g.1, mrg C g.2)
def mk (B : TI) (C : TJ) (g : TK) : TK := (mrg B g.1, mrg C g.2.1, g.2.2)
section
variable {X B : TI} {C J : TJ} {r t b w s n i h q c k : Nat} {y m : Int64}
theorem tkF_m : tkF X (mrg C J) n m = tkF X J n m := by
  unfold tkF
  rw [mrg_at (k := 30) (by omega), mrg_at (k := 31) (by omega)]
theorem prF_m : prF (mrg C J) h y = mrg C (prF J h y) := by
  unfold prF
  rw [mrg_at (k := 26) (by omega), mrg_up (k := 26) (by omega)]
theorem mtA_m : mtA (mrg C J) n m = mrg C (mtA J n m) := by
  unfold mtA
  rw [mrg_at (k := 31) (by omega), mrg_up (k := 31) (by omega)]
theorem mtB_m : mtB (mrg C J) n m = mrg C (mtB J n m) := by
  unfold mtB
  rw [mrg_at (k := 30) (by omega), mrg_up (k := 30) (by omega)]
theorem mtC_m : mtC (mrg C J) n m = mrg C (mtC J n m) := by
  unfold mtC
  rw [mrg_at (k := 32) (by omega), mrg_up (k := 32) (by omega)]
theorem meetF_m : meetF X t (mrg C J) n m = mrg C (meetF X t J n m) := by
  unfold meetF
  rw [tkF_m, mtA_m, mtB_m]
  split
  · rw [mtC_m]
  · rfl
theorem bgI_m {I : TI} {w h f : Int32} : bgI (mrg B I) k w h f = mrg B (bgI I k w h f) := by
  unfold bgI
  rw [mrg_at (k := 34) (by omega), mrg_up (k := 34) (by omega), mrg_at (k := 35) (by omega), mrg_up (k := 35) (by omega), mrg_at (k := 36) (by omega), mrg_up (k := 36) (by omega)]
theorem bgF_m {g : TG} {w h f : Int32} : bgF r w h f m (mg B C g) = mg B C (bgF r w h f m g) := by
  obtain ⟨I, J, N⟩ := g
  unfold bgF mg
  dsimp only
  by_cases hN : N < r
  · rw [if_pos hN, if_pos hN, bgI_m, mrg_at (k := 37) (by omega), mrg_up (k := 37) (by omega)]
  · rw [if_neg hN, if_neg hN]
theorem enF_m {g : TG} : enF r i h y (mg B C g) = mg B C (enF r i h y g) := by
  obtain ⟨I, J, N⟩ := g
  unfold enF mg
  dsimp only
  by_cases hN : i < r
  · rw [if_pos hN, if_pos hN, prF_m, mrg_at (k := 38) (by omega), mrg_up (k := 38) (by omega)]
  · rw [if_neg hN, if_neg hN, prF_m]
theorem mt_m {g : TG} : ((mg B C g).1, meetF X t (mg B C g).2.1 n y, (mg B C g).2.2) = mg B C (g.1, meetF X t g.2.1 n y, g.2.2) := by
  unfold mg
  rw [meetF_m]
theorem lnF_m {w h : Int32} {ps : Bool} {rec : Nat → Int64 → TG → TG} (hrec : ∀ n y g, rec n y (mg B C g) = mg B C (rec n y g)) : ∀ (j n : Nat) (y : Int64) (g : TG), lnF X r t w ps rec h i j n y (mg B C g) = mg B C (lnF X r t w ps rec h i j n y g)
  | 0, n, y, g => by rw [lnF_0, lnF_0, enF_m]
  | j + 1, n, y, g => by
    by_cases hz : lg_cmp y 0 ≤ 0
    · rw [lnF_z hz, lnF_z hz, enF_m]
    · by_cases hh : hdP X w h t n ∧ (ps = true ∨ ¬ psP X n)
      · have e : tkF X (mg B C g).2.1 n y = tkF X g.2.1 n y := tkF_m
        by_cases hp : psP X n ∧ ¬ lg_cmp (tkF X g.2.1 n y) 0 ≤ 0
        · rw [lnF_pass hz hh (by rw [e]; exact hp), lnF_pass hz hh hp, e, mt_m, hrec, lnF_m hrec j]
        · rw [lnF_keep hz hh (by rw [e]; exact hp), lnF_keep hz hh hp, e, mt_m, lnF_m hrec j]
      · rw [lnF_skip hz hh, lnF_skip hz hh, lnF_m hrec j]
theorem rlF_m {w h f : Int32} {ps : Bool} {rec : Nat → Int64 → TG → TG} {g : TG} (hrec : ∀ n y g, rec n y (mg B C g) = mg B C (rec n y g)) : rlF X r t b w ps rec h f n m (mg B C g) = mg B C (rlF X r t b w ps rec h f n m g) := by
  unfold rlF
  rw [bgF_m]
  exact lnF_m hrec _ _ _ _
theorem rl2_m {w h f : Int32} {g : TG} : rl2 X r t b w h f n m (mg B C g) = mg B C (rl2 X r t b w h f n m g) := rlF_m (fun _ _ _ => rfl)
theorem rl1_m {w h f : Int32} {g : TG} : rl1 X r t b w h f n m (mg B C g) = mg B C (rl1 X r t b w h f n m g) := rlF_m (fun _ _ _ => rl2_m)
theorem rl0_m {w h f : Int32} {g : TG} : rl0 X r t b w h f n m (mg B C g) = mg B C (rl0 X r t b w h f n m g) := rlF_m (fun _ _ _ => rl1_m)
theorem shF_m : ∀ (j e : Nat) (g : TG), shF X r t b w s y j e (mg B C g) = mg B C (shF X r t b w s y j e g)
  | 0, _, _ => rfl
  | j + 1, e, g => by
    rw [shF_s, shF_s]
    split
    · exact shF_m j (e + 1) g
    · rw [rl0_m]
      exact shF_m j (e + 1) _
theorem ptF_m {P : Nat} : ∀ (j e : Nat) (g : TC), ptF X r t b w P j e (mg B C g.1, g.2) = (mg B C (ptF X r t b w P j e g).1, (ptF X r t b w P j e g).2)
  | 0, _, _ => rfl
  | j + 1, e, g => by
    rw [ptF_s, ptF_s]
    dsimp only
    rw [shF_m]
    exact ptF_m j (e + 1) (_, _)
theorem biF_m (g : TC) : biF X r t b w (mg B C g.1, g.2) = (mg B C (biF X r t b w g).1, (biF X r t b w g).2) := by
  unfold biF
  split
  · exact ptF_m _ _ _
  · exact ptF_m _ _ _
theorem rpF_m : ∀ (j e : Nat) (g : TC), rpF X r t b j e (mg B C g.1, g.2) = (mg B C (rpF X r t b j e g).1, (rpF X r t b j e g).2)
  | 0, _, _ => rfl
  | j + 1, e, g => by
    show rpF X r t b j (e + 1) (if opP X t (X 18 (t * 12 + e)) then (mg B C g.1, g.2) else biF X r t b (X 18 (t * 12 + e)).toNatClampNeg (mg B C g.1, g.2)) = (mg B C (rpF X r t b j (e + 1) (if opP X t (X 18 (t * 12 + e)) then g else biF X r t b (X 18 (t * 12 + e)).toNatClampNeg g)).1, (rpF X r t b j (e + 1) (if opP X t (X 18 (t * 12 + e)) then g else biF X r t b (X 18 (t * 12 + e)).toNatClampNeg g)).2)
    split
    · exact rpF_m j (e + 1) g
    · rw [biF_m]
      exact rpF_m j (e + 1) _
theorem eoS_m : eoS X t (mrg C J) n = mrg C (eoS X t J n) := by
  unfold eoS
  rw [mrg_at (k := 32) (by omega), prF_m, mrg_at (k := 32) (by omega), mrg_up (k := 32) (by omega)]
theorem eoF_m : ∀ (j n : Nat) (J : TJ), eoF X t j n (mrg C J) = mrg C (eoF X t j n J)
  | 0, _, _ => rfl
  | j + 1, n, J => by
    show eoF X t j (n + 1) (if X 6 n = 4 ∧ ¬ nI t < X 11 n then eoS X t (mrg C J) n else mrg C J) = mrg C (eoF X t j (n + 1) (if X 6 n = 4 ∧ ¬ nI t < X 11 n then eoS X t J n else J))
    split
    · rw [eoS_m]
      exact eoF_m j (n + 1) _
    · exact eoF_m j (n + 1) J
theorem pyB_m : pyB (mrg C J) h y = mrg C (pyB J h y) := by
  unfold pyB
  rw [mrg_at (k := 26) (by omega), mrg_up (k := 26) (by omega), mrg_at (k := 27) (by omega), mrg_up (k := 27) (by omega)]
theorem pyA_m : pyA (mrg C J) h = mrg C (pyA J h) := by
  unfold pyA
  rw [mrg_at (k := 26) (by omega), mrg_at (k := 27) (by omega)]
  split
  · rfl
  · split
    · rfl
    · exact pyB_m
theorem pyC_m : pyC (mrg C J) h = pyC J h := by
  unfold pyC
  rw [mrg_at (k := 26) (by omega)]
theorem pyJ_m : pyJ (mrg C J) h = mrg C (pyJ J h) := by
  unfold pyJ
  rw [pyC_m, mrg_at (k := 26) (by omega), mrg_up (k := 26) (by omega)]
theorem pyF_m : ∀ (j h : Nat) (g : TI × TJ), pyF t j h (mp B C g) = mp B C (pyF t j h g)
  | 0, _, _ => rfl
  | j + 1, h, g => by
    show pyF t j (h + 1) (va_up (mrg B g.1) 29 (upd ((mrg B g.1) 29) (h * 40 + t) (pyC (pyA (mrg C g.2) h) h).toInt32), pyJ (pyA (mrg C g.2) h) h) = mp B C (pyF t j (h + 1) (va_up g.1 29 (upd (g.1 29) (h * 40 + t) (pyC (pyA g.2 h) h).toInt32), pyJ (pyA g.2 h) h))
    rw [pyA_m, pyC_m, pyJ_m, mrg_at (k := 29) (by omega), mrg_up (k := 29) (by omega)]
    exact pyF_m j (h + 1) (_, _)
theorem flS_m (g : TI × TJ) : flS X t (mp B C g) n = mp B C (flS X t g n) := by
  unfold flS mp
  dsimp only
  rw [mrg_at (k := 29) (by omega), mrg_up (k := 29) (by omega), mrg_at (k := 28) (by omega), mrg_up (k := 28) (by omega)]
theorem flF_m : ∀ (j n : Nat) (g : TI × TJ), flF X t j n (mp B C g) = mp B C (flF X t j n g)
  | 0, _, _ => rfl
  | j + 1, n, g => by
    show flF X t j (n + 1) (if X 6 n = 2 ∧ ¬ nI (t * 90 + 89) < X 9 n then flS X t (mp B C g) n else mp B C g) = mp B C (flF X t j (n + 1) (if X 6 n = 2 ∧ ¬ nI (t * 90 + 89) < X 9 n then flS X t g n else g))
    split
    · rw [flS_m]
      exact flF_m j (n + 1) _
    · exact flF_m j (n + 1) g
theorem rpG_m {I : TI} {ci : Int64} : rpG X r t b (mrg B I) (mrg C J) ci = (mg B C (rpG X r t b I J ci).1, (rpG X r t b I J ci).2) := by
  unfold rpG
  exact rpF_m _ _ ((I, J, 0), ci)
theorem clP_m (g : TC) : clP X t b (mg B C g.1, g.2) = mp B C (clP X t b g) := by
  unfold clP mg
  dsimp only
  rw [eoF_m]
  exact pyF_m _ _ (_, _)
theorem clQ_m (g : TI × TJ) : clQ X t b (mp B C g) = mp B C (clQ X t b g) := by
  unfold clQ
  split
  · exact flF_m _ _ _
  · rfl
theorem clK_m (g : TK) : clK X r b t (mk B C g) = mk B C (clK X r b t g) := by
  obtain ⟨I, J, N, ci, lk, k⟩ := g
  unfold clK mk
  dsimp only
  rw [rpG_m, clP_m, clQ_m]
  rfl
def mt2 (C : TJ) (g : TJ × Int64) : TJ × Int64 := (mrg C g.1, g.2)
theorem tsN_m {hd : Int32} : ∀ (j n : Nat) (g : TJ × Int64), tsN X hd t j n (mt2 C g) = mt2 C (tsN X hd t j n g)
  | 0, _, _ => rfl
  | j + 1, n, g => by
    show tsN X hd t j (n + 1) (if X 6 n = 4 ∧ X 7 n = hd then tsS t n (tsM X t n (mt2 C g)) (mt2 C g) else mt2 C g) = mt2 C (tsN X hd t j (n + 1) (if X 6 n = 4 ∧ X 7 n = hd then tsS t n (tsM X t n g) g else g))
    split
    · have e : tsS t n (tsM X t n (mt2 C g)) (mt2 C g) = mt2 C (tsS t n (tsM X t n g) g) := by
        have e2 : tsM X t n (mt2 C g) = tsM X t n g := by
          have e3 : (mt2 C g).1 32 = g.1 32 := mrg_at (B := C) (A := g.1) (k := 32) (by omega)
          have e4 : (mt2 C g).2 = g.2 := rfl
          unfold tsM
          simp only [e3, e4]
        rw [e2]
        unfold tsS mt2
        dsimp only
        rw [mrg_at (k := 32) (by omega), mrg_up (k := 32) (by omega)]
      rw [e]
      exact tsN_m j (n + 1) _
    · exact tsN_m j (n + 1) g
theorem tsT_m {hd : Int32} : ∀ (j t : Nat) (g : TJ × Int64), tsT X hd b j t (mt2 C g) = mt2 C (tsT X hd b j t g)
  | 0, _, _ => rfl
  | j + 1, t, g => by
    unfold tsT
    rw [tsN_m]
    show (if lg_cmp g.2 0 ≤ 0 then mt2 C g else tsT X hd b j (t + 1) (mt2 C (tsN X hd t b 0 g))) = mt2 C (if lg_cmp g.2 0 ≤ 0 then g else tsT X hd b j (t + 1) (tsN X hd t b 0 g))
    split
    · rfl
    · exact tsT_m j (t + 1) _
theorem tsF_m {hd : Int32} : tsF X b c hd m (mrg C J) = mt2 C (tsF X b c hd m J) := by
  have e : tsT X hd b c 0 (mrg C J, m) = mt2 C (tsT X hd b c 0 (J, m)) := tsT_m c 0 (J, m)
  unfold tsF
  rw [e]
  unfold mt2 dbF
  dsimp only
  rw [mrg_at (k := 27) (by omega), mrg_up (k := 27) (by omega)]
theorem toF_m {p : Int32} : ∀ (j k : Nat) (g : TJ × Int64), toF X b c p j k (mt2 C g) = (mrg C (toF X b c p j k g).1, (toF X b c p j k g).2)
  | 0, _, _ => rfl
  | j + 1, k, g => by
    rw [toF_s, toF_s]
    split
    · rw [show (mt2 C g).1 = mrg C g.1 from rfl, tsF_m]
      exact toF_m j (k + 1) _
    · rfl
theorem toK_m {p : Int32} (g : TK) : toK X b q c p (mk B C g) = mk B C (toK X b q c p g) := by
  obtain ⟨I, J, N, ci, lk, k⟩ := g
  unfold toK mk
  dsimp only
  have e : toF X b c p (q - k) k (mrg C J, lk) = (mrg C (toF X b c p (q - k) k (J, lk)).1, (toF X b c p (q - k) k (J, lk)).2) := toF_m (q - k) k (J, lk)
  rw [e]
theorem rkF_m : ∀ (j t : Nat) (g : TK), rkF X r b q j t (mk B C g) = mk B C (rkF X r b q j t g)
  | 0, t, g => toK_m g
  | j + 1, t, g => by
    show rkF X r b q j (t + 1) (clK X r b t (toK X b q t (nI t) (mk B C g))) = mk B C (rkF X r b q j (t + 1) (clK X r b t (toK X b q t (nI t) g)))
    rw [toK_m, clK_m]
    exact rkF_m j (t + 1) _
end
