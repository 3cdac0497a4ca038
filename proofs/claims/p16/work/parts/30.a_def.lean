def IO : TI := fun _ _ => 0
def JO : TJ := fun _ _ => 0
def SO : TS := fun k => if k = 6 then 600 else 0
def LO : TL := fun _ => 0
theorem gA_int (n : Nat) : ∀ cA : ClassId, vp_cell cA (n, .inl (fun _ => 0)) = arrV cA n (fun _ => defaultValue .int) := fun _ => rfl
theorem gA_boolean (n : Nat) : ∀ cA : ClassId, vp_cell cA (n, .inl (fun _ => 0)) = arrV cA n (fun _ => defaultValue .boolean) := fun _ => rfl
theorem gA_long (n : Nat) : ∀ cA : ClassId, vp_cell cA (n, .inr (.inl (fun _ => 0))) = arrV cA n (fun _ => defaultValue .long) := fun _ => rfl
def tornF (i : Nat) : Nat → Int32 := fun j => if j < i then 12 else 0
theorem tornF_s (i : Nat) : upd (tornF i) i 12 = tornF (i + 1) := by
  funext j
  unfold upd tornF
  by_cases h : j = i
  · rw [if_pos h, if_pos (by omega)]
  · rw [if_neg h]
    by_cases h2 : j < i
    · rw [if_pos h2, if_pos (by omega)]
    · rw [if_neg h2, if_neg (by omega)]
def IM : TI := fun k => if k = 19 then tornF 40 else fun _ => 0
def JM : TJ := fun _ _ => 0
def SM : TS := fun _ => 0
def LM : TL := fun _ => 0
