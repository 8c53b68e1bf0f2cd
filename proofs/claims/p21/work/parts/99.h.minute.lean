/-! A MINUTE, AS THE LAW SEES IT: before and behind -/
theorem zM_pass {K t : Nat} {A : zN} {I J : gI} (h : zR 6 K A (I 0) (J 2) (J 3)) (hw : wf (I 0)) (hz : zh t A (J 2) (J 3)) (hK : K + 6 ≤ 1000000) :
    ∃ A', zH A' A ∧ zR 6 (K + 6) A' (f_X3_runMinutes I 0 (nI 1) 0) (J 2) (f_X6_pass J 3 (nI (A 0 0 6)) 3) ∧ zgm (J 3) t A' (J 2) (f_X6_pass J 3 (nI (A 0 0 6)) 3) ∧ ∀ k, k < A 0 0 0 → A' 1 k 4 = A 1 k 4 := by
  obtain ⟨a1, ⟨A', a2, a3, a4⟩, a5⟩ := zT_pass (y := 0) (z := 3) (by decide) (Or.inl rfl) h hw hK (nI 1)
  refine ⟨A', a2, a3, a4 _ t hz.zg, fun k hk => ?_⟩
  have e1 := h.2.1.k8 k hk
  have e2 := a3.2.1.k8 k (by rw [a2 0 (by decide)]; exact hk)
  have b1 := h.2.2.2.k3 k hk
  have b2 := a3.2.2.2.k3 k (by rw [a2 0 (by decide)]; exact hk)
  rw [e1] at e2
  exact ((nI_eq (by omega) (by omega)).mp e2).symm
/-- no more bales than all are strong -/
theorem zM_strong {K t : Nat} {A A' : zN} {I J : gI} (h : zR 6 K A (I 0) (J 2) (J 3)) (hH : zH A' A) (g : zgm (J 3) t A' (J 2) (f_X6_pass J 3 (nI (A 0 0 6)) 3)) (h4 : ∀ k, k < A 0 0 0 → A' 1 k 4 = A 1 k 4) : f_X6_pass J 3 (nI (A 0 0 6)) 3 20 0 4 - J 3 20 0 4 ≤ ssm (fun k => f_X1_tell I 0 k 0) (A 0 0 0) := by
  have h1 := h.2.2.2.k1
  obtain ⟨x, x1, x2⟩ := g.2.2.2.2.2.1
  have s : ssm (fun k => f_X1_tell I 0 k 0) (A 0 0 0) = nI (zsm (fun k => A 1 k 4) (A 0 0 0)) := ssm_nI _ (fun k hk => by
    unfold f_X1_tell
    rw [if_pos rfl, h.1.k12 k hk])
  have e0 := hH 0 (by decide)
  rw [e0, zsm_congr (g := fun k => A 1 k 4) _ (fun k hk => h4 k hk)] at x2
  have hb := zsm_le (f := fun k => A 1 k 4) (B := 9) (A 0 0 0) (fun k hk => (h.2.2.2.k3 k hk).2)
  rw [x1, s]
  have e : J 3 20 0 4 + nI x - J 3 20 0 4 = nI x := by grind
  rw [e]
  exact nI_le x2 (by omega)
/-- who idles -/
theorem zM_idle {K t k : Nat} {A A' : zN} {I I' J : gI} (h : zR 6 K A (I 0) (J 2) (J 3)) (hH : zH A' A) (h' : zR 6 (K + 6) A' (I' 0) (J 2) (f_X6_pass J 3 (nI (A 0 0 6)) 3)) (g : zgm (J 3) t A' (J 2) (f_X6_pass J 3 (nI (A 0 0 6)) 3)) (hk : k < A 0 0 0) : f_X1_tell I' 0 k 7 = f_X1_tell I 0 k 7 ∨ (f_X1_tell I' 0 k 7 = f_X1_tell I 0 k 7 + 1 ∧ A' 1 k 2 = 0 ∧ (A' 1 k 0 = 0 ∨ A' 1 k 0 = 3)) := by
  have h1 := h.2.2.2.k1
  have h1' := h'.2.2.2.k1
  have e0 := hH 0 (by decide)
  have e1 : f_X1_tell I' 0 k 7 = f_X6_pass J 3 (nI (A 0 0 6)) 3 30 0 k := by
    unfold f_X1_tell
    rw [if_neg (by decide), if_neg (by decide), if_neg (by decide), if_neg (by decide), if_neg (by decide), if_neg (by decide), if_neg (by decide), if_pos rfl, h'.2.2.1.k5 k (by omega)]
  have e2 : f_X1_tell I 0 k 7 = J 3 30 0 k := by
    unfold f_X1_tell
    rw [if_neg (by decide), if_neg (by decide), if_neg (by decide), if_neg (by decide), if_neg (by decide), if_neg (by decide), if_neg (by decide), if_pos rfl, h.2.2.1.k5 k (by omega)]
  rw [e1, e2]
  rcases g.2.2.2.2.2.2 k (by omega) with y | ⟨-, y2, y3, y4⟩
  · exact Or.inl y
  · exact Or.inr ⟨y2, y3, y4⟩
