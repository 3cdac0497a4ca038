section
variable {X X' : TI} {b q c t r k2 : Nat}
theorem XE.eq (hS : StX X) (hb : b ≤ 24) (e : ∀ j, j < 25 → X' j = X j) : XE t b b X X' := ⟨⟨Nat.le_refl _, hb⟩, fun k _ h1 h2 _ => by rw [e k (by omega)], fun n h1 h2 => absurd h2 (by omega), fun w hw => by
  obtain ⟨kk, h1, h2⟩ := hS.1 w hw
  exact ⟨kk, kk, Nat.le_refl _, h1, h2, by rw [e 1 (by omega)]; exact h2, fun _ _ => by rw [e 2 (by omega)], fun _ _ _ _ => ⟨by rw [e 3 (by omega)], by rw [e 4 (by omega)]⟩, fun k h1 h2 => absurd h2 (by omega)⟩, fun _ _ => ⟨by rw [e 19 (by omega)], by rw [e 20 (by omega)], fun _ _ => ⟨by rw [e 18 (by omega)], by rw [e 16 (by omega)], fun _ _ => by rw [e 15 (by omega)]⟩⟩⟩
theorem SX.fr (h : SX q c X) (e : ∀ j, j < 25 → X' j = X j) : SX q c X' := by
  have et : ∀ k, tmF X' k = tmF X k := fun k => by unfold tmF; rw [e 24 (by omega)]
  refine ⟨fun k hk => ?_, fun i j h1 h2 => by rw [et, et]; exact h.2 i j h1 h2⟩
  rw [et, e 22 (by omega), e 23 (by omega), e 24 (by omega)]
  exact h.1 k hk
theorem anT_eq {Z : TK} (hZ : ZOK Z) (e : ∀ j, j < 25 → X' j = X j) (hb : b ≤ 24) (ht : t ≤ 40) (hB : BgX b X) (hS : StX X) (hR : RpX X) (hQ : SX k2 t X) : anT Z X' r b k2 t = anT Z X r b k2 t :=
  anT_ext hZ (XE.eq hS hb e) ht hB hS hR hQ (fun k _ => ⟨by rw [e 22 (by omega)], by rw [e 23 (by omega)], by rw [e 24 (by omega)]⟩)
theorem anT_k {Z : TK} (hZ : ZOK Z) (hB : BgX b X) (hb : b ≤ 24) (hS : StX X) (hR : RpX X) (ht : t ≤ 40) (hQ : SX k2 t X) : (anT Z X r b k2 t).2.2.2.2.2 = k2 := by
  obtain ⟨-, hK⟩ := AI_an (r := r) hZ hB hb hS hR ht hQ t ht
  unfold anT
  generalize anK Z X r b k2 t = g at hK
  obtain ⟨I, J, N, ci, lk, k⟩ := g
  have hK : K0 X k2 t k := hK
  have hk1 := hK.1
  have := (toF_two (X := X) (b := b) (c := t) (p := nI t) (k2 - k) 0 k (J, lk) (fun m h1 h3 => by
    have a := hQ.1 m (by omega)
    have := hK.2.2 m h1 (by omega)
    rw [a.2.2.1, show tmF X m = t by omega])).2
  show (toF X b t (nI t) (k2 - k) k (J, lk)).2.2 = k2
  rw [this]
  omega
/-- what ANEW keeps -/
theorem AI_anT {Z : TK} (hZ : ZOK Z) (hB : BgX b X) (hb : b ≤ 24) (hS : StX X) (hR : RpX X) (ht : t ≤ 40) (hQ : SX k2 t X) : AI 0 true t b X ((anT Z X r b k2 t).1 29) (anT Z X r b k2 t).2.1 := by
  obtain ⟨a1, hK⟩ := AI_an (r := r) hZ hB hb hS hR ht hQ t ht
  unfold anT
  generalize anK Z X r b k2 t = g at a1 hK
  obtain ⟨I, J, N, ci, lk, k⟩ := g
  have a1 : AI 0 true t b X (I 29) J := a1
  have hK : K0 X k2 t k := hK
  exact AI_to (p := nI t) hb ht hQ (k2 - k) k (J, lk) (by have := hK.1; omega) a1
end
section
variable {I : TI} {J : TJ} {S : TS} {L : TL}
/-- reckoning ANEW on the class's side -/
theorem e_anew {Z : TK} {b q c t k2 : Nat} {Φ : TI → TJ → TS → TL → Prop} (hV : AV Z b k2 t I J S L) (hBk : Bk I S) (hB : BgX b I) (hb : b ≤ 24) (hS : StX I) (hR : RpX I) (hQ : SX q c I) (hc : c ≤ 40) (hq : q ≤ 60) (hk : k2 ≤ q) (htc : t ≤ c) (hge : ∀ i, k2 ≤ i → i < q → t ≤ tmF I i) (s1 : S 1 = nI b) (s2 : S 2 = nI q) (s10 : S 10 = nI 0) (hf : ∀ (I' : TI) (J' : TJ) (S' : TS) (L' : TL), AV Z b q c I' J' S' L' → (∀ j, j < 39 ∨ 53 ≤ j → I' j = I j ∧ J' j = J j) → (∀ j, j ≠ 7 → j ≠ 8 → j ≠ 9 → S' j = S j) → (∀ j, j ≠ 3 → j ≠ 4 → L' j = L j) → Φ I' J' S' L') : wp_X2_reckonTo_Op 600 0 I J S L (nI c) Φ := by
  obtain ⟨hZ, v7, v8, vQ, vR, v9, vL3, vL4, vk⟩ := hV
  refine e_reckonTo_Op (X := I) (b := b) (c := t) (q := q) (t := k2) (e := c) (N := (anT Z I 0 b k2 t).2.2.1) (fun _ _ => rfl) hBk hb s1 v7 htc hc hq s2 v8 hk v9 s10 (by omega) (fun I' J' S' L' hy hle => ?_)
  have eV : ((fun k => I (pO k), fun k => J (pO k), (anT Z I 0 b k2 t).2.2.1, L 3, L 4, k2) : TK) = mk (fun k => I (pO k)) (fun k => J (pO k)) (anT Z I 0 b k2 t) := by
    unfold mk
    refine Prod.ext (funext fun k => ?_) (Prod.ext (funext fun k => ?_) ?_)
    · by_cases g : 25 ≤ k ∧ k < 39
      · exact (vR k g.1 g.2).1.trans (mrg_at (B := fun k => I (pO k)) (A := (anT Z I 0 b k2 t).1) g).symm
      · exact (mrg_ot (B := fun k => I (pO k)) (A := (anT Z I 0 b k2 t).1) g).symm
    · by_cases g : 25 ≤ k ∧ k < 39
      · exact (vR k g.1 g.2).2.trans (mrg_at (B := fun k => J (pO k)) (A := (anT Z I 0 b k2 t).2.1) g).symm
      · exact (mrg_ot (B := fun k => J (pO k)) (A := (anT Z I 0 b k2 t).2.1) g).symm
    · show ((anT Z I 0 b k2 t).2.2.1, L 3, L 4, k2) = (anT Z I 0 b k2 t).2.2
      rw [vL3, vL4]
      refine Prod.ext rfl (Prod.ext rfl (Prod.ext rfl vk.symm))
  rw [eV, rkF_m, rkF_V hZ hB hb hS hR hQ hc hk htc vQ hge] at hy
  obtain ⟨y1, y2, y3, y4, y5, y6, y7, y8, y9, y10⟩ := hy
  have eI : ∀ j, j < 25 → I' j = I j := fun j hj => (y3 j (by omega)).1
  have eT : anT Z I' 0 b q c = anT Z I 0 b q c := anT_eq hZ eI hb hc hB hS hR hQ
  have ek := anT_k (r := 0) hZ hB hb hS hR hc hQ
  refine hf I' J' S' L' ⟨hZ, y5, ?_, hQ.fr eI, fun k h1 h2 => ?_, ?_, ?_, ?_, ?_⟩ y3 y4 y8
  · rw [y6]
    exact congrArg nI ek
  · rw [eT]
    exact ⟨(y1 k).trans (mrg_at (B := fun k => I (pO k)) (A := (anT Z I 0 b q c).1) ⟨h1, h2⟩), (y2 k).trans (mrg_at (B := fun k => J (pO k)) (A := (anT Z I 0 b q c).2.1) ⟨h1, h2⟩)⟩
  · rw [eT]
    exact y7
  · rw [eT]
    exact y9
  · rw [eT]
    exact y10
  · rw [eT]
    exact ek
/-- what a HAND has by ANEW, on both sides -/
theorem w2_anT {Z : TK} {b q c h : Nat} (hV : AV Z b q c I J S L) (hB : BgX b I) (hb : b ≤ 24) (hS : StX I) (hR : RpX I) (hc : c ≤ 40) (hh : h < 12) : w2F I J c h = wF ((anT Z I 0 b q c).1 29) (anT Z I 0 b q c).2.1 h := by
  obtain ⟨hZ, v7, v8, vQ, vR, -⟩ := hV
  have hA := AI_anT (r := 0) hZ hB hb hS hR hc vQ
  unfold w2F wF
  rw [ds_c hA.2.2.1 hh hc]
  have e29 := (vR 29 (by omega) (by omega)).1
  have e26 := (vR 26 (by omega) (by omega)).2
  have e27 := (vR 27 (by omega) (by omega)).2
  have e29 : I 43 = (anT Z I 0 b q c).1 29 := e29
  have e26 : J 40 = (anT Z I 0 b q c).2.1 26 := e26
  have e27 : J 41 = (anT Z I 0 b q c).2.1 27 := e27
  rw [e29, e26, e27]
theorem w1_wF {c h : Nat} (hD : DI c (I 29)) (hh : h < 12) (hc : c ≤ 40) : w1F I J c h = wF (I 29) J h := by
  unfold w1F wF
  rw [ds_c hD hh hc]
end
