/-! A MINUTE: the Sim does as the ghost, beside the class -/
theorem zg1.joins {K k : Nat} {A : zN} (g : zg1 A) (hi : zIV K A) (hk : k < A 0 0 0) : A 1 k 0 = 2 → A 4 (A 1 k 1) 0 % 32 = 1 → A 3 (A 4 (A 1 k 1) 0 / 32) 0 ≠ 0 := by
  intro h0 hr hz
  have h1 := hi.k1
  obtain ⟨w0, w1, w2⟩ := g.2.2.2.1 k hk h0
  obtain ⟨x, g1, g2, g3⟩ := zfk_iff.mp w1
  have hq := hi.k9 k (by omega) (Or.inr h0)
  have q12 := (hi.k12 _ hq).1
  have q11 := hi.k11 (A 4 (A 1 k 1) 0 / 32) (by omega)
  have e := hi.k14 _ _ q11.1 hq (by omega)
  exact hi.k22 x _ g1 g2 (show A 4 (A 1 k 1) 0 / 32 < A 0 0 1 by omega) hz (by rw [e, g3])
theorem zs_lads {T : gY} {t L : Nat} (hL : L < 300) : ∀ (m j K : Nat) (A : zN) (I J Is : gI), zR 6 K A (I 0) (J 2) (J 3) → wf (I 0) → zg T j t A (J 2) (J 3) → sR L (A 0 0 0) (A 0 0 1) (Is 5) (J 2) (J 3) → J 2 11 0 7 = nI (A 0 0 6) → j + m = A 0 0 0 → K + m ≤ 1000000 →
    ok_f_S_pass_l1 m j Is ∧ sR L (A 0 0 0) (A 0 0 1) (f_S_pass_l1 m j Is 5) (J 2) (f_X6_pass_l1 3 (nI (A 0 0 6)) m j J 3) := by
  intro m
  induction m with
  | zero =>
    intro j K A I J Is h hwf hg hs hf hj hK
    refine ⟨trivial, ?_⟩
    simp only [f_S_pass_l1, f_X6_pass_l1, gU_at]
    rw [hs.k2.1]
    exact sR_MI hs
  | succ m ih =>
    intro j K A I J Is h hwf hg hs hf hj hK
    have hi := h.2.2.2
    have h1 := hi.k1
    have hk : j < A 0 0 0 := by omega
    obtain ⟨t1, A1, t2, t3, t4⟩ := zT_turn h hwf (show 0 < 2 by decide) (Or.inl rfl) (by omega) hk
    have hwf1 : wf ((if I 0 1 j 7 = 0 then f_X3_takeTurn I 0 j else I) 0) := by
      split
      · exact wf_X3_takeTurn I 0 j (by decide) hwf (by omega)
      · exact hwf
    obtain ⟨v1, v2, v3⟩ := zT_vic h.1 h.2.1 hi hwf hk
    obtain ⟨s1, s2⟩ := zs_turn h.2.1 hi hs (Or.inl rfl) hk hf hL (by rw [v2]; exact zc_best h.1 hi hwf hk) (hg.1.joins hi hk)
    have J2 : f_X6_turn J 3 (nI j) (nI (A 0 0 6)) 2 = J 2 := ne_X6_turn _ _ _ _ (Or.inl rfl) (by decide)
    have g' := t4 T t hg
    rw [← J2] at t3 g' s2
    have e0 := t2 0 (by decide)
    have e1 := t2 1 (by decide)
    have e6 := t2 6 (by decide)
    rw [← e0, ← e1] at s2
    obtain ⟨i1, i2⟩ := ih (j + 1) (K + 1) A1 _ _ (f_S_turn Is j) t3 hwf1 g' s2 (by rw [J2, hf, e6]) (by omega) (by omega)
    rw [e0, e1, J2, e6] at i2
    have c := hs.c (by omega) (by omega) (by omega)
    have c' := s2.c (by omega) (by omega) (by omega)
    refine ⟨⟨⟨by rw [c.2.1]; exact hk, ?_, s1⟩, by rw [c'.1, c.1, e0], by rw [c'.2.2.2.2, c.2.2.2.2], i1⟩, i2⟩
    rw [(hs.k3 j hk).2.2.1, h.2.1.k4 j (by omega)]
    have := (hi.k2 j (by omega)).1
    rcases (show A 1 j 0 = 0 ∨ A 1 j 0 = 1 ∨ A 1 j 0 = 2 ∨ A 1 j 0 = 3 by omega) with e | e | e | e
    · left; rw [e]; rfl
    · right; left; rw [e]; rfl
    · right; right; left; rw [e]; rfl
    · right; right; right; rw [e]; rfl
theorem zs_pass {T : gY} {t L K : Nat} {A : zN} {I J Is : gI} (hL : L < 300) (h : zR 6 K A (I 0) (J 2) (J 3)) (hwf : wf (I 0)) (hg : zg T 0 t A (J 2) (J 3)) (hs : sR L (A 0 0 0) (A 0 0 1) (Is 5) (J 2) (J 3)) (hf : J 2 11 0 7 = nI (A 0 0 6)) (hK : K + 6 ≤ 1000000) : ok_S_pass Is ∧ sR L (A 0 0 0) (A 0 0 1) (f_S_pass Is 5) (J 2) (f_X6_pass J 3 (nI (A 0 0 6)) 3) := by
  have h1 := h.2.2.2.k1
  have c := hs.c (by omega) (by omega) (by omega)
  have c2 : (J 2 11 0 1).toNatClampNeg = A 0 0 0 := by rw [h.2.1.k1, nI_clamp (by omega)]
  obtain ⟨a1, a2⟩ := zs_lads hL (A 0 0 0) 0 K A I J Is h hwf hg hs hf (by omega) (by omega)
  unfold ok_S_pass f_S_pass f_X6_pass
  rw [c.1, c2]
  exact ⟨⟨by omega, a1⟩, a2⟩
