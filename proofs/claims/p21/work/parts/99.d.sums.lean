/-! WHAT THE LAW'S SUMS ARE -/
theorem ssm_nI {f : Nat → Nat} {g : Nat → Int32} : ∀ n, (∀ i, i < n → g i = nI (f i)) → ssm g n = nI (zsm f n) := by
  intro n
  induction n with
  | zero => intro _; rfl
  | succ n ih => intro h; simp only [ssm, zsm]; rw [ih (fun i hi => h i (by omega)), h n (by omega), nI_add]
theorem zQ_l5 {I : gI} {A : zN} {K : Nat} (h : zR 6 K A (I 0) (I 2) (I 3)) : ssm (fun k => f_X1_tell I 0 k 5) (A 0 0 0) = I 3 20 0 1 := by
  have h1 := h.2.2.2.k1
  rw [h.2.1.k21]
  refine ssm_nI _ (fun k hk => ?_)
  unfold f_X1_tell
  rw [if_neg (by decide), if_neg (by decide), if_neg (by decide), if_neg (by decide), if_neg (by decide), if_pos rfl, h.1.k13 k (by omega)]
theorem zQ_l6 {I : gI} {A : zN} {K t : Nat} (h : zR 6 K A (I 0) (I 2) (I 3)) (g : zh t A (I 2) (I 3)) : ssm (fun k => f_X1_tell I 0 k 6) (A 0 0 0) = I 3 20 0 1 := by
  have h1 := h.2.2.2.k1
  rw [← g.2.2.2.1.1]
  refine ssm_congr _ (fun k hk => ?_)
  unfold f_X1_tell
  rw [if_neg (by decide), if_neg (by decide), if_neg (by decide), if_neg (by decide), if_neg (by decide), if_neg (by decide), if_pos rfl, h.2.2.1.k6 k (by omega)]
theorem zQ_d2 {I : gI} {A : zN} {K t : Nat} (h : zR 6 K A (I 0) (I 2) (I 3)) (g : zh t A (I 2) (I 3)) : ssm (fun j => f_X2_tell I 0 j 2) (A 0 0 1) = nI (A 0 0 1) + 2 * I 3 20 0 2 := by
  have h1 := h.2.2.2.k1
  rw [← g.2.2.1.2.2.2]
  refine ssm_congr _ (fun j hj => ?_)
  unfold f_X2_tell
  rw [if_neg (by decide), if_neg (by decide), if_pos rfl, h.2.2.1.k9 j (by omega)]
theorem zQ_d3 {I : gI} {A : zN} {K t : Nat} (h : zR 6 K A (I 0) (I 2) (I 3)) (g : zh t A (I 2) (I 3)) : ssm (fun j => f_X2_tell I 0 j 3) (A 0 0 1) = I 3 20 0 1 := by
  have h1 := h.2.2.2.k1
  rw [← g.2.2.2.1.2]
  refine ssm_congr _ (fun j hj => ?_)
  unfold f_X2_tell
  rw [if_neg (by decide), if_neg (by decide), if_neg (by decide), if_pos rfl, h.2.2.1.k10 j (by omega)]
theorem zQ_d6 {I : gI} {A : zN} {K : Nat} (h : zR 6 K A (I 0) (I 2) (I 3)) : ssm (fun j => f_X2_tell I 0 j 6) (A 0 0 1) = I 3 20 0 4 := by
  have h1 := h.2.2.2.k1
  rw [h.2.1.k22]
  refine ssm_nI _ (fun j hj => ?_)
  unfold f_X2_tell
  rw [if_neg (by decide), if_neg (by decide), if_neg (by decide), if_neg (by decide), if_neg (by decide), if_neg (by decide), h.1.k15 j (by omega)]
