/-! WHAT THE LAW CHECKS OF A LAD -/
theorem zL_2 {I : gI} {A : zN} {K k : Nat} (hc : zCL A (I 0)) (hi : zIV K A) (hk : k < A 0 0 0) : f_X1_tell I 0 k 2 = nI (A 1 k 2) ∧ A 1 k 2 ≤ 8 := by
  have h1 := hi.k1
  unfold f_X1_tell
  rw [if_neg (by decide), if_neg (by decide), if_pos rfl, hc.cart hi (by omega), hc.k5 k (by omega)]
  exact ⟨rfl, (hi.k2 k (by omega)).2.1⟩
theorem zL_3 {I : gI} {A : zN} {K k : Nat} (hc : zCL A (I 0)) (hi : zIV K A) (hk : k < A 0 0 0) : f_X1_tell I 0 k 3 = nI (A 1 k 0) ∧ A 1 k 0 ≤ 3 := by
  have h1 := hi.k1
  unfold f_X1_tell
  rw [if_neg (by decide), if_neg (by decide), if_neg (by decide), if_pos rfl]
  exact ⟨zq_doing hc hi hk, (hi.k2 k (by omega)).1⟩
theorem zL_4 {I : gI} {A : zN} {K k t : Nat} {M S : gY} (hc : zCL A (I 0)) (hi : zIV K A) (hg : zh t A M S) (hk : k < A 0 0 0) : 0 < f_X1_tell I 0 k 4 ↔ A 1 k 0 = 1 := by
  have h1 := hi.k1
  unfold f_X1_tell
  rw [if_neg (by decide), if_neg (by decide), if_neg (by decide), if_neg (by decide), if_pos rfl, hc.k8 k (by omega)]
  by_cases e : A 1 k 0 = 1
  · have hq := hi.k9 k (by omega) (Or.inl e)
    have h12 := hi.k12 _ hq
    have h60 := zB_le (A 4 (A 1 k 1) 0 % 32)
    have := hg.1.1 k hk e
    rw [if_pos e]
    exact ⟨fun _ => e, fun _ => (show nI 0 < nI _ from nI_lt this (by omega))⟩
  · rw [if_neg e]
    exact ⟨fun q => absurd q (by decide), fun q => absurd q e⟩
theorem zL_8 {I : gI} {A : zN} {K k : Nat} (hc : zCL A (I 0)) (hi : zIV K A) (hk : k < A 0 0 0) : 0 ≤ f_X1_tell I 0 k 8 ↔ A 1 k 0 = 1 ∨ A 1 k 0 = 2 := by
  have h1 := hi.k1
  unfold f_X1_tell
  rw [if_neg (by decide), if_neg (by decide), if_neg (by decide), if_neg (by decide), if_neg (by decide), if_neg (by decide), if_neg (by decide), if_neg (by decide), zq_load hc hi hk]
  by_cases e : A 1 k 0 = 1 ∨ A 1 k 0 = 2
  · have hq := hi.k9 k (by omega) e
    have hg := hi.g320 hq
    rw [if_pos e]
    exact ⟨fun _ => e, fun _ => (show nI 0 ≤ nI _ from nI_le (Nat.zero_le _) (by omega))⟩
  · rw [if_neg e]
    exact ⟨fun q => absurd q (by decide), fun q => absurd q e⟩
/-- who has no victim: all other carts are empty -/
theorem zL_v {I : gI} {A : zN} {K k : Nat} (hc : zCL A (I 0)) (hi : zIV K A) (hw : wf (I 0)) (hk : k < A 0 0 0) : (f_X3_victimOf I 0 k = -1 ∧ ∀ o, o < A 0 0 0 → o ≠ k → A 1 o 2 = 0) ∨ ∃ v, v < A 0 0 0 ∧ v ≠ k ∧ 0 < A 1 v 2 ∧ f_X3_victimOf I 0 k = nI v := by
  rcases zc_best hc hi hw hk with ⟨a, b⟩ | ⟨v, ⟨v1, v2, v3⟩, e, -⟩
  · exact Or.inl ⟨a, fun o ho ne => Nat.eq_zero_of_not_pos fun q => b o ⟨ho, ne, q⟩⟩
  · exact Or.inr ⟨v, v1, v2, v3, e⟩
