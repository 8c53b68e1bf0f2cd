/-! GO(1): the Sim does as the ghost -/
theorem zs_dr {T : gY} {L K i t : Nat} {A : zN} {I J : gI} (hr : zRF A (J 2) (J 3)) (hi : zIV K A) (hg : zg T i t A (J 2) (J 3)) (h : sR L (A 0 0 0) (A 0 0 1) (I 5) (J 2) (J 3)) (hL : L < 290) (ht : t < 1000000) : ok_S_cs I ∧ sR L (A 0 0 0) (A 0 0 1) (f_S_go_a I 5) (J 2) (J 3) ∧ f_S_c3 I = f_X6_loadsThat J 3 2 := by
  have h1 := hi.k1
  have c := h.c (by omega) (by omega) (by omega)
  obtain ⟨a, b, d⟩ := zs_counts hr hi hg h hL ht
  refine ⟨a, ?_, ?_⟩
  · have e : f_S_go_a I 5 = u3 (f_S_counts I 5) 1 9 0 (nI L) := by
      unfold f_S_go_a f_S_dr pDrop
      rw [gset_at, c.2.2.2.2]
    rw [e]
    exact ((h.n9 (L' := L + 1)).al b).n9
  · unfold f_S_c3
    rw [c.2.2.2.2, d 3 (by decide)]
    rfl
theorem zs_go {T : gY} {t L K : Nat} {A : zN} {I J Is : gI} (hL : L < 290) (ht : t < 999999) (h : zR 6 K A (I 0) (J 2) (J 3)) (hwf : wf (I 0)) (hg : zg T 0 t A (J 2) (J 3)) (hs : sR L (A 0 0 0) (A 0 0 1) (Is 5) (J 2) (J 3)) (hf : J 2 11 0 7 = nI (A 0 0 6)) (hK : K + 6 ≤ 1000000) : ok_S_go Is ∧ sR L (A 0 0 0) (A 0 0 1) (f_S_go_s Is 5) (J 2) (f_X6_pass J 3 (nI (A 0 0 6)) 3) ∧ f_S_go_v Is = f_X6_loadsThat (f_X6_pass J 3 (nI (A 0 0 6))) 3 2 - f_X6_loadsThat J 3 2 := by
  have hi := h.2.2.2
  have h1 := hi.k1
  obtain ⟨a1, a2, a3⟩ := zs_dr h.2.1 hi hg hs hL (by omega)
  obtain ⟨b1, b2⟩ := zs_pass (Is := f_S_go_a Is) (by omega) h hwf hg a2 hf hK
  obtain ⟨p1, ⟨A', p2, p3, p4⟩, p5⟩ := zT_pass (show 0 < 2 by decide) (Or.inl rfl) h hwf hK (nI 0)
  have J2 : f_X6_pass J 3 (nI (A 0 0 6)) 2 = J 2 := ne_X6_pass _ _ _ (Or.inl rfl) (by decide)
  have g' := (p4 T t hg).zg
  rw [← J2] at p3 g'
  have e0 := p2 0 (by decide)
  have e1 := p2 1 (by decide)
  rw [← e0, ← e1, ← J2] at b2
  have b2 : sR L (A' 0 0 0) (A' 0 0 1) (f_S_go_b Is 5) (f_X6_pass J 3 (nI (A 0 0 6)) 2) (f_X6_pass J 3 (nI (A 0 0 6)) 3) := b2
  obtain ⟨d1, d2, d3⟩ := zs_dr p3.2.1 p3.2.2.2 g' b2 hL (by omega)
  have c := hs.c (by omega) (by omega) (by omega)
  have ca := a2.c (by omega) (by omega) (by omega)
  have cb := b2.c (by omega) (by omega) (by omega)
  refine ⟨⟨a1, by rw [ca.2.2.2.2, c.2.2.2.2], b1, by rw [cb.2.2.2.2, c.2.2.2.2], d1⟩, ?_, ?_⟩
  · rw [← e0, ← e1, ← J2]
    exact d2
  · unfold f_S_go_v
    rw [d3, a3]
