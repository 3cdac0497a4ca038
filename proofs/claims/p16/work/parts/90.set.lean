theorem lg_s1 (x y z : Int64) : x - y - z + y = x - z := by
  rw [Int64.sub_eq_add_neg, Int64.sub_eq_add_neg x y, Int64.add_assoc (x + -y), Int64.add_comm (-z) y, ← Int64.add_assoc, Int64.add_assoc x (-y) y, Int64.add_left_neg, Int64.add_zero, ← Int64.sub_eq_add_neg]
theorem lg_s2 (x y d : Int64) : x - (y - d) - d = x - y := by
  rw [Int64.sub_eq_add_neg x (y - d), Int64.neg_sub, Int64.sub_eq_add_neg _ d, Int64.sub_eq_add_neg d y, Int64.add_comm d (-y), ← Int64.add_assoc, Int64.add_assoc (x + -y), Int64.add_right_neg, Int64.add_zero, ← Int64.sub_eq_add_neg]
theorem lg_s3 (a u p : Int64) : a + (u - (p + a)) = u - p := by
  rw [Int64.sub_eq_add_neg u, Int64.neg_add, Int64.sub_eq_add_neg (-p), ← Int64.add_assoc u, Int64.add_comm a, Int64.add_assoc (u + -p), Int64.add_left_neg, Int64.add_zero, ← Int64.sub_eq_add_neg]
theorem lg_set (a d p p1 a1 d1 : Int64) : a + ((p1 + a1 - d1 - (p + a - d) + d1) - d) = p1 + a1 - p := by
  rw [lg_s1, lg_s2, lg_s3]
theorem dS_r {D : Nat → Int32} {h : Nat} (hD : ∀ t, t < 40 → 0 ≤ (D (h * 40 + t)).toInt) : ∀ t, t ≤ 40 → 0 ≤ dS D h t ∧ dS D h t ≤ 2147483648 * (t : Int)
  | 0, _ => by
    have : dS D h 0 = 0 := rfl
    rw [this]
    omega
  | t + 1, ht => by
    obtain ⟨a, b⟩ := dS_r hD t (by omega)
    have := hD t (by omega)
    have := vx_i (D (h * 40 + t))
    rw [dS_s]
    omega
theorem dsF_v {D : Nat → Int32} {h : Nat} (hD : ∀ t, t < 40 → 0 ≤ (D (h * 40 + t)).toInt) : ∀ t, t ≤ 40 → (dsF D h t 0 0).toInt = dS D h t
  | 0, _ => vx_0
  | t + 1, ht => by
    have ih := dsF_v hD t (by omega)
    have e := dsF_add (D := D) (h := h) t 1 0 0
    rw [Nat.zero_add] at e
    have e2 : dsF D h 1 t (dsF D h t 0 0) = dsF D h t 0 0 + (D (h * 40 + t)).toInt64 := rfl
    have := dS_r hD t (by omega)
    have := vx_i (D (h * 40 + t))
    rw [e, e2, dS_s, vx_ad, ih, Int32.toInt_toInt64]
    · rw [ih, Int32.toInt_toInt64]; omega
    · rw [ih, Int32.toInt_toInt64]; omega
theorem set_num {y1 y a1 : Int64} {x1 x s U : Int} (v1 : y1.toInt = x1) (v : y.toInt = x) (r1 : 0 ≤ x1 ∧ x1 ≤ 85899345920) (r : 0 ≤ x ∧ x ≤ 85899345920) (p0 : 0 ≤ a1.toInt) (p1 : a1.toInt + 1000000 * x1 + s ≤ U) (hs : 0 ≤ s) (hU : U ≤ 1680000000000000) : -100000000000000000 ≤ (y1 * 1000000 + a1 - y * 1000000).toInt ∧ (y1 * 1000000 + a1 - y * 1000000).toInt + 0 + s ≤ U := by
  have em : ((1000000 : Int64)).toInt = 1000000 := by decide
  have m1 : (y1 * 1000000).toInt = x1 * 1000000 := by
    rw [vx_ml, v1, em]
    · rw [v1, em]; omega
    · rw [v1, em]; omega
  have m : (y * 1000000).toInt = x * 1000000 := by
    rw [vx_ml, v, em]
    · rw [v, em]; omega
    · rw [v, em]; omega
  have a : (y1 * 1000000 + a1).toInt = x1 * 1000000 + a1.toInt := by
    rw [vx_ad, m1]
    · rw [m1]; omega
    · rw [m1]; omega
  rw [vx_sb, a, m]
  · omega
  · rw [a, m]; omega
  · rw [a, m]; omega
theorem sm_pos {f : Nat → Int64} : ∀ n, (∀ i, i < n → 0 ≤ (f i).toInt) → 0 ≤ sm f n
  | 0, _ => Int.le_refl _
  | n + 1, h => by
    have := sm_pos n (fun i hi => h i (by omega))
    have := h n (by omega)
    rw [sm_s]
    omega
theorem kq_0 {D : Nat → Int32} {h : Nat} : kq false D h = 0 := by unfold kq; rw [if_neg (by decide)]
/-- SETTLE keeps what a ledger keeps -/
theorem AI_set {c b : Nat} {X : TI} {D D1 : Nat → Int32} {Ja J1 Jn : TJ} (hc : c ≤ 40) (h1 : AI 0 true c b X D1 J1) (h : AI (-100000000000000000) false c b X D Ja) (s : SL D1 J1 D Ja Jn) (hb : b ≤ 24) : AI (-100000000000000000) false c b X D Jn := by
  obtain ⟨k1, ⟨b1, b2, b3, -, -⟩, d1, f1, z1⟩ := h1
  obtain ⟨-, -, dd, -, -⟩ := h
  obtain ⟨s1, s2, s3⟩ := s
  have hU := UB_le hc
  have hsm : sm (Jn 32) 960 = sm (J1 32) 960 := sm_cong s3
  refine ⟨fun n hn hx => ?_, ⟨fun i hi => by rw [s3 i hi]; exact b1 i hi, fun hh hhh => ?_, fun k _ => by rw [kq_0]; exact Int.le_refl _, Int.le_refl _, by omega⟩, dd, fun hh hhh => by rw [(s1 hh hhh).2.2]; exact f1 hh hhh, fun n t hn ht hx => by rw [s3 _ (by omega)]; exact z1.1 n t hn ht hx, fun n h1 h2 => by rw [(s2 n h2).1]; exact z1.2 n h1 h2⟩
  · rw [(s2 n (by omega)).1]
    exact k1 n hn hx
  · have v1 := dsF_v (D := D1) (h := hh) (fun t ht => (d1 hh t hhh ht).1) 40 (Nat.le_refl _)
    have v := dsF_v (D := D) (h := hh) (fun t ht => (dd hh t hhh ht).1) 40 (Nat.le_refl _)
    have r1 := dS_r (D := D1) (h := hh) (fun t ht => (d1 hh t hhh ht).1) 40 (Nat.le_refl _)
    have r := dS_r (D := D) (h := hh) (fun t ht => (dd hh t hhh ht).1) 40 (Nat.le_refl _)
    obtain ⟨p0, p1⟩ := b2 hh hhh
    have hs := sm_pos 960 b1
    have ek : kq true D1 hh = 1000000 * dS D1 hh 40 := by unfold kq; rw [if_pos rfl]
    rw [ek] at p1
    rw [hsm, (s1 hh hhh).1]
    unfold wF
    rw [lg_set]
    rw [kq_0]
    have r1' : 0 ≤ dS D1 hh 40 ∧ dS D1 hh 40 ≤ 85899345920 := ⟨r1.1, by have := r1.2; omega⟩
    have r' : 0 ≤ dS D hh 40 ∧ dS D hh 40 ≤ 85899345920 := ⟨r.1, by have := r.2; omega⟩
    exact set_num v1 v r1' r' p0 p1 hs hU.2
