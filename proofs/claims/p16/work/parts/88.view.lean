section
variable {X X' : TI} {b b' q q' c t r k2 : Nat}
/-- SENT of one TERM can be taken in two steps -/
theorem toF_two {p : Int32} : ∀ (i j k : Nat) (g : TJ × Int64), (∀ m, k ≤ m → m < k + i → X 24 m = p) → toF X b c p (i + j) k g = toF X b c p j (k + i) ((toF X b c p i k g).1, (toF X b c p i k g).2.1) ∧ (toF X b c p i k g).2.2 = k + i
  | 0, j, k, g, _ => by
    rw [Nat.zero_add, Nat.add_zero]
    exact ⟨rfl, rfl⟩
  | i + 1, j, k, g, h => by
    rw [show i + 1 + j = (i + j) + 1 by omega, toF_s, toF_s, if_pos (h k (Nat.le_refl _) (by omega)), if_pos (h k (Nat.le_refl _) (by omega)), show k + (i + 1) = k + 1 + i by omega]
    exact toF_two i j (k + 1) _ (fun m h1 h2 => h m (by omega) (by omega))
theorem SX.le (h : SX q c X) (hk : k2 ≤ q) (hc : ∀ i, i < k2 → tmF X i ≤ t) : SX k2 t X := ⟨fun k hk2 => ⟨(h.1 k (by omega)).1, (h.1 k (by omega)).2.1, (h.1 k (by omega)).2.2.1, hc k hk2⟩, fun i j h1 h2 => h.2 i j h1 (by omega)⟩
/-- ANEW of the first k2 SENT goes on to that of all -/
theorem rkF_V {Z : TK} (hZ : ZOK Z) (hB : BgX b X) (hb : b ≤ 24) (hS : StX X) (hR : RpX X) (hQ : SX q c X) (hc : c ≤ 40) (hk : k2 ≤ q) (htc : t ≤ c) (h2 : SX k2 t X) (hge : ∀ i, k2 ≤ i → i < q → t ≤ tmF X i) : rkF X r b q (c - t) t (anT Z X r b k2 t) = anT Z X r b q c := by
  have e1 : toK X b q t (nI t) (anT Z X r b k2 t) = toK X b q t (nI t) (anK Z X r b q t) := by
    have hE : XE t b b X X := ⟨⟨Nat.le_refl _, hb⟩, fun _ _ _ _ _ => rfl, fun n h1 h2 => absurd h2 (by omega), fun w hw => by
      obtain ⟨kk, h1, h2⟩ := hS.1 w hw
      exact ⟨kk, kk, Nat.le_refl _, h1, h2, h2, fun _ _ => rfl, fun _ _ _ _ => ⟨rfl, rfl⟩, fun k h1 h2 => absurd h2 (by omega)⟩, fun _ _ => ⟨rfl, rfl, fun _ _ => ⟨rfl, rfl, fun _ _ => rfl⟩⟩⟩
    have ek := anK_ext (r := r) (q := k2) (q' := q) hZ hE (by omega) hB hS hR (by omega : t ≤ 40) h2 hk (fun _ _ => ⟨rfl, rfl, rfl⟩) (fun k t' h1 h3 h4 e => by
      have a := (hQ.1 k h3).2.2.1
      have b1 := hge k h1 h3
      have := (hQ.1 k h3).2.2.2
      have : tmF X k = t' := (nI_eq (by omega) (by omega)).mp (a.symm.trans e)
      omega) t (Nat.le_refl _)
    rw [ek]
    obtain ⟨-, hK⟩ := AI_an (r := r) hZ hB hb hS hR (by omega : t ≤ 40) h2 t (by omega)
    unfold anT
    generalize anK Z X r b k2 t = g at hK
    obtain ⟨I, J, N, ci, lk, k⟩ := g
    have hK : K0 X k2 t k := hK
    have hk1 := hK.1
    have ht := toF_two (X := X) (b := b) (c := t) (p := nI t) (k2 - k) (q - k2) k (J, lk) (fun m h1 h3 => by
      have a := h2.1 m (by omega)
      have := hK.2.2 m h1 (by omega)
      rw [a.2.2.1, show tmF X m = t by omega])
    rw [show k2 - k + (q - k2) = q - k by omega, show k + (k2 - k) = k2 by omega] at ht
    unfold toK
    dsimp only
    rw [ht.2, ← ht.1]
  have e2 : ∀ j, rkF X r b q j t (anT Z X r b k2 t) = rkF X r b q j t (anK Z X r b q t) := fun j => by
    cases j with
    | zero => exact e1
    | succ j =>
      show rkF X r b q j (t + 1) (clK X r b t (toK X b q t (nI t) (anT Z X r b k2 t))) = rkF X r b q j (t + 1) (clK X r b t (toK X b q t (nI t) (anK Z X r b q t)))
      rw [e1]
  rw [e2, rkF_an, show t + (c - t) = c by omega]
  rfl
/-- new books do not change the ledger that stands at ANEW -/
theorem anT_ext {Z : TK} (hZ : ZOK Z) (hE : XE t b b' X X') (ht : t ≤ 40) (hB : BgX b X) (hS : StX X) (hR : RpX X) (hQ : SX k2 t X) (hxs : ∀ k, k < k2 → X' 22 k = X 22 k ∧ X' 23 k = X 23 k ∧ X' 24 k = X 24 k) : anT Z X' r b' k2 t = anT Z X r b k2 t := by
  have hb : b ≤ 24 := by have := hE.1; omega
  have e := anK_ext (r := r) (q := k2) (q' := k2) hZ hE ht hB hS hR ht hQ (Nat.le_refl _) hxs (fun k t' h1 h2 => absurd h2 (by omega)) t (Nat.le_refl _)
  unfold anT
  rw [e]
  obtain ⟨a1, a2⟩ := AI_an (r := r) hZ hB hb hS hR ht hQ t ht
  generalize anK Z X r b k2 t = g at a1 a2
  obtain ⟨I, J, N, ci, lk, k⟩ := g
  have a1 : AI 0 true t b X (I 29) J := a1
  have a2 : K0 X k2 t k := a2
  have e2 := toF_ext (q := k2) (q' := k2) (c := t) (tt := t) hE.1.1 hE.1.2 ht ht (Nat.le_refl _) hE.2.1 hQ hxs (fun k h1 h2 => absurd h2 (by omega)) ht (k2 - k) k (J, lk) (by have := a2.1; omega) a1
  rw [Nat.sub_self, Nat.add_zero] at e2
  unfold toK
  dsimp only
  rw [e2]
end
/-- the second ledger of the class is what the first k2 SENT and t CLOSED TERMS come to -/
def AV (Z : TK) (b k2 t : Nat) (I : TI) (J : TJ) (S : TS) (L : TL) : Prop := ZOK Z ∧ S 7 = nI t ∧ S 8 = nI k2 ∧ SX k2 t I ∧ (∀ k, 25 ≤ k → k < 39 → I (pO k) = (anT Z I 0 b k2 t).1 k ∧ J (pO k) = (anT Z I 0 b k2 t).2.1 k) ∧ S 9 = nI (anT Z I 0 b k2 t).2.2.1 ∧ L 3 = (anT Z I 0 b k2 t).2.2.2.1 ∧ L 4 = (anT Z I 0 b k2 t).2.2.2.2.1 ∧ (anT Z I 0 b k2 t).2.2.2.2.2 = k2
