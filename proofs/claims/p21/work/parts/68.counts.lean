/-! HOW MANY ROWS, and how long, behind a change of shape -/
theorem cnt_loose9 {V : gY} {n : Nat} {f : Nat → Int32} (h : cnt V 9 < 330) : cnt (pLoose V n f) 9 = cnt V 9 + 1 := by
  show (u3 _ 1 9 0 _ 1 9 0).toNatClampNeg = _
  rw [u3_at, nI_clamp (by omega)]
theorem cnt_loose {V : gY} {n t : Nat} {f : Nat → Int32} (ht : t ≠ 9) : cnt (pLoose V n f) t = cnt V t := by
  unfold cnt pLoose
  simp [u3_eq, urow_eq, ht]
theorem rln_loose9 {V : gY} {n : Nat} {f : Nat → Int32} (hn : n < 2 ^ 31) : rln (pLoose V n f) 9 (cnt V 9) = n := by
  unfold rln pLoose
  simp [u3_eq]
  exact nI_clamp hn
theorem rln_loose {V : gY} {n t i : Nat} {f : Nat → Int32} (ht : ¬ (t = 9 ∧ i = cnt V 9)) : rln (pLoose V n f) t i = rln V t i := by
  unfold rln pLoose
  by_cases e : t = 9
  · subst e
    have : ¬ i = cnt V 9 := fun z => ht ⟨rfl, z⟩
    simp [u3_eq, urow_eq, this]
  · simp [u3_eq, urow_eq, e]
theorem loose_at {V : gY} {n t i : Nat} {f : Nat → Int32} (h1 : t ≠ 1) (h7 : t ≠ 7) (ht : ¬ (t = 9 ∧ i = cnt V 9)) (j : Nat) : pLoose V n f t i j = V t i j := by
  unfold pLoose
  simp only [u3_eq, urow_eq]
  rw [if_neg (by omega), if_neg (by omega), if_neg ht]
theorem more_in {V : gY} {t : Nat} : ∀ t' i' j', t' ≠ 6 → (if t = 3 then u3 (urow V t (cnt V t) (V 9 (cnt V 9 - 1))) 6 (cnt V t) 0 (V 7 (cnt V 9 - 1) 0) else urow V t (cnt V t) (V 9 (cnt V 9 - 1))) t' i' j' = urow V t (cnt V t) (V 9 (cnt V 9 - 1)) t' i' j' := fun t' i' j' h6 => by
  split
  · rw [u3_eq, if_neg (by omega)]
  · rfl
theorem cnt_more9 {V : gY} {t : Nat} (h9 : 0 < cnt V 9) (ht : t ≠ 9) : cnt (pMore V t) 9 = cnt V 9 - 1 := by
  show (u3 _ 1 9 0 _ 1 9 0).toNatClampNeg = _
  rw [u3_at]
  have h2 : cnt V 9 < 2 ^ 31 := by
    show (V 1 9 0).toNatClampNeg < _
    have := (V 1 9 0).toInt_lt
    unfold Int32.toNatClampNeg
    omega
  exact nI_clamp (by omega)
theorem cnt_moret {V : gY} {t : Nat} (ht : t ≠ 9) (hN : cnt V t < 330) : cnt (pMore V t) t = cnt V t + 1 := by
  show (pMore V t 1 t 0).toNatClampNeg = _
  unfold pMore
  rw [u3_eq, if_neg (by omega), u3_eq, if_pos ⟨rfl, rfl, rfl⟩, nI_clamp (by omega)]
theorem cnt_more {V : gY} {t t' : Nat} (h1 : t' ≠ 9) (h2 : t' ≠ t) (h3 : t ≠ 1) : cnt (pMore V t) t' = cnt V t' := by
  show (pMore V t 1 t' 0).toNatClampNeg = (V 1 t' 0).toNatClampNeg
  unfold pMore
  rw [u3_eq, if_neg (by omega), u3_eq, if_neg (by omega), more_in 1 t' 0 (by decide), urow_eq, if_neg (by omega)]
theorem cnt_more_ge {V : gY} {t t' : Nat} (h1 : t' ≠ 9) (ht : t ≠ 9 ∧ t ≠ 1) (hN : cnt V t < 330) : cnt V t' ≤ cnt (pMore V t) t' := by
  by_cases e : t' = t
  · subst e
    rw [cnt_moret ht.1 hN]
    omega
  · rw [cnt_more h1 e ht.2]
    exact Nat.le_refl _
theorem cnt_cart9 {V : gY} {k : Nat} (h9 : 0 < cnt V 9) : cnt (pCart V k) 9 = cnt V 9 - 1 := by
  show (u3 _ 1 9 0 _ 1 9 0).toNatClampNeg = _
  rw [u3_at]
  have h2 : cnt V 9 < 2 ^ 31 := by
    show (V 1 9 0).toNatClampNeg < _
    have := (V 1 9 0).toInt_lt
    unfold Int32.toNatClampNeg
    omega
  exact nI_clamp (by omega)
theorem cnt_cart {V : gY} {k t : Nat} (ht : t ≠ 9) : cnt (pCart V k) t = cnt V t := by
  unfold cnt pCart
  rw [u3_eq, if_neg (by omega), u3_eq, if_neg (by omega), urow_eq, if_neg (by omega)]
theorem cnt_less {V : gY} {k t : Nat} {x : Int32} (h9 : cnt V 9 < 330) : cnt (pLess V k x) t = cnt V t := by
  unfold pLess
  by_cases e : t = 9
  · subst e
    rw [cnt_cart9 (by rw [cnt_loose9 h9]; omega), cnt_loose9 h9]
    omega
  · rw [cnt_cart e, cnt_loose e]
theorem cart_at {V : gY} {k t i : Nat} (h1 : t ≠ 1) (h6 : t ≠ 6) (ht : ¬ (t = 3 ∧ i = k)) (j : Nat) : pCart V k t i j = V t i j := by
  unfold pCart
  rw [u3_eq, if_neg (by omega), u3_eq, if_neg (by omega), urow_eq, if_neg ht]
theorem less_at {V : gY} {k t i : Nat} {x : Int32} (h1 : t ≠ 1 ∧ t ≠ 6 ∧ t ≠ 7 ∧ t ≠ 9) (ht : ¬ (t = 3 ∧ i = k)) (j : Nat) : pLess V k x t i j = V t i j := by
  unfold pLess
  rw [cart_at h1.1 h1.2.1 ht, loose_at h1.1 h1.2.2.1 (by omega)]
theorem more_at {V : gY} {t t' i' : Nat} (ht : t ≠ 1) (h1 : t' ≠ 1) (h6 : t' ≠ 6) (hne : ¬ (t' = t ∧ i' = cnt V t)) (j : Nat) : pMore V t t' i' j = V t' i' j := by
  unfold pMore
  rw [u3_eq, if_neg (by omega), u3_eq, if_neg (by omega), more_in t' i' j h6, urow_eq, if_neg hne]
theorem more_new {V : gY} {t : Nat} (h1 : t ≠ 1) (h6 : t ≠ 6) (j : Nat) : pMore V t t (cnt V t) j = V 9 (cnt V 9 - 1) j := by
  unfold pMore
  rw [u3_eq, if_neg (by omega), u3_eq, if_neg (by omega), more_in t _ j h6, urow_eq, if_pos ⟨rfl, rfl⟩]
theorem cart_1 {V : gY} {k t : Nat} : pCart V k 1 t 0 = if t = 9 then nI (cnt V 9 - 1) else V 1 t 0 := by
  unfold pCart
  rw [u3_eq]
  by_cases e : t = 9
  · rw [if_pos ⟨rfl, e, rfl⟩, if_pos e]
  · rw [if_neg (by omega), if_neg e, u3_eq, if_neg (by omega), urow_eq, if_neg (by omega)]
theorem cart_6 {V : gY} {k i : Nat} : pCart V k 6 i 0 = if i = k then V 7 (cnt V 9 - 1) 0 else V 6 i 0 := by
  unfold pCart
  rw [u3_eq, if_neg (by omega), u3_eq]
  by_cases e : i = k
  · rw [if_pos ⟨rfl, e, rfl⟩, if_pos e]
  · rw [if_neg (by omega), if_neg e, urow_eq, if_neg (by omega)]
theorem cart_3 {V : gY} {k j : Nat} : pCart V k 3 k j = V 9 (cnt V 9 - 1) j := by
  unfold pCart
  rw [u3_eq, if_neg (by omega), u3_eq, if_neg (by omega), urow_eq, if_pos ⟨rfl, rfl⟩]
theorem less_1 {V : gY} {k t : Nat} {x : Int32} (h9 : cnt V 9 < 330) : pLess V k x 1 t 0 = if t = 9 then nI (cnt V 9) else V 1 t 0 := by
  unfold pLess
  rw [cart_1, cnt_loose9 h9]
  by_cases e : t = 9
  · rw [if_pos e, if_pos e]
    rfl
  · rw [if_neg e, if_neg e]
    unfold pLoose
    rw [u3_eq, if_neg (by omega), u3_eq, if_neg (by omega), urow_eq, if_neg (by omega)]
theorem less_6 {V : gY} {k i : Nat} {x : Int32} (h9 : cnt V 9 < 330) : pLess V k x 6 i 0 = if i = k then nI (rln V 3 k - 1) else V 6 i 0 := by
  unfold pLess
  rw [cart_6, cnt_loose9 h9, Nat.add_sub_cancel]
  by_cases e : i = k
  · rw [if_pos e, if_pos e]
    unfold pLoose
    rw [u3_eq, if_neg (by omega), u3_eq, if_pos ⟨rfl, rfl, rfl⟩]
  · rw [if_neg e, if_neg e]
    unfold pLoose
    rw [u3_eq, if_neg (by omega), u3_eq, if_neg (by omega), urow_eq, if_neg (by omega)]
theorem less_3 {V : gY} {k j : Nat} {x : Int32} (h9 : cnt V 9 < 330) : pLess V k x 3 k j = if x = 0 then V 3 k j else V 3 k (j + 1) := by
  unfold pLess
  rw [cart_3, cnt_loose9 h9, Nat.add_sub_cancel]
  unfold pLoose
  rw [u3_eq, if_neg (by omega), u3_eq, if_neg (by omega), urow_eq, if_pos ⟨rfl, rfl⟩]
