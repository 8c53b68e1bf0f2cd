/-! COUNTS, whole -/
theorem sR.n9 {L L' n lo : Nat} {V M S : gY} (h : sR L n lo V M S) : sR L' n lo (u3 V 1 9 0 (nI L')) M S := by
  refine ⟨?_, ?_, fun i hi => ?_, fun i hi => ?_, fun i p hi => ?_, fun l hl => ?_, fun g hg => ?_, fun i hi => ?_⟩
  · have := h.k1
    simp only [u3_eq]
    simp
    exact ⟨this.1, this.2.1, this.2.2.1, this.2.2.2.1⟩
  · have := h.k2
    simp (disch := decide) only [u3_skip]
    exact this
  · have := h.k3 i hi
    simp (disch := decide) only [u3_skip]
    exact this
  · have := h.k4 i hi
    simp (disch := decide) only [u3_skip]
    exact this
  · have := h.k5 i p hi
    simp (disch := decide) only [u3_skip]
    exact this
  · have := h.k6 l hl
    simp (disch := decide) only [u3_skip]
    exact this
  · have := h.k7 g hg
    simp (disch := decide) only [u3_skip]
    exact this
  · exact h.k8 i hi
theorem zs_counts {T : gY} {L K i t : Nat} {A : zN} {I J : gI} (hr : zRF A (J 2) (J 3)) (hi : zIV K A) (hg : zg T i t A (J 2) (J 3)) (h : sR L (A 0 0 0) (A 0 0 1) (I 5) (J 2) (J 3)) (hL : L < 290) (ht : t < 1000000) :
    ok_S_cs I ∧ sA (u3 (I 5) 1 9 0 (nI (L + 1))) (f_S_counts I 5) ∧ ∀ w, w < 13 → f_S_counts I 5 9 L w = f_X6_counted J 3 (nI w) := by
  have h1 := hi.k1
  have c := h.c (by omega) (by omega) (by omega)
  have c9 := c.2.2.2.2
  have d1 : (J 2 11 0 1).toNatClampNeg = A 0 0 0 := by rw [hr.k1, nI_clamp (by omega)]
  have d2 : (J 2 11 0 4).toNatClampNeg = A 0 0 1 := by rw [hr.k2, nI_clamp (by omega)]
  obtain ⟨I1, hI1⟩ : ∃ I1, I1 = gset I 5 (pLoose (I 5) 13 (fun _ => 0)) := ⟨_, rfl⟩
  have e1 : I1 5 = pLoose (I 5) 13 (fun _ => 0) := by rw [hI1, gset_at]
  have A1 : sA (u3 (I 5) 1 9 0 (nI (L + 1))) (I1 5) := by rw [e1, ← c9]; exact sA_loose
  have n1 : ∀ t', t' ≠ 9 → cnt (I1 5) t' = cnt (I 5) t' := fun t' ht => by rw [e1, cnt_loose ht]
  have r1 : ∀ j, nI (rln (I1 5) 3 j) = nI (rln (I 5) 3 j) := fun j => by rw [e1, rln_loose (by omega)]
  have l7 : I1 5 7 L 0 = nI 13 := by
    rw [e1, ← c9]
    unfold pLoose
    rw [u3_skip _ _ _ _ (by decide), u3_at]
  obtain ⟨I12, hI12⟩ : ∃ I12, I12 = gU (gU (gU (gU (gU (gU (gU (gU (gU (gU (gU I1 5 9 L 0 (I1 5 0 0 0)) 5 9 L 1 (nI (cnt (I1 5) 2))) 5 9 L 2 (nI (cnt (I1 5) 4))) 5 9 L 3 0) 5 9 L 4 0) 5 9 L 5 0) 5 9 L 6 0) 5 9 L 7 (I1 5 0 0 6)) 5 9 L 8 (I1 5 0 0 7)) 5 9 L 9 (I1 5 0 0 8)) 5 9 L 10 0 := ⟨_, rfl⟩
  have A12 : sA (u3 (I 5) 1 9 0 (nI (L + 1))) (I12 5) := by
    rw [hI12]
    simp only [gU_at]
    exact sA_9 (sA_9 (sA_9 (sA_9 (sA_9 (sA_9 (sA_9 (sA_9 (sA_9 (sA_9 (sA_9 A1))))))))))
  have P := zs_pitchedAll (M' := I) hr hi hg ((h.n9 (L' := L + 1)).al A12) (by omega)
  obtain ⟨I14, hI14⟩ : ∃ I14, I14 = gU (gU I12 5 9 L 11 (f_S_pitched I12 (-1))) 5 9 L 12 (I12 5 0 0 1) := ⟨_, rfl⟩
  have A14 : sA (u3 (I 5) 1 9 0 (nI (L + 1))) (I14 5) := by
    rw [hI14]
    simp only [gU_at]
    exact sA_9 (sA_9 A12)
  have q : ∀ t' i' j', t' ≠ 1 → t' ≠ 7 → t' ≠ 9 → I14 5 t' i' j' = I 5 t' i' j' := fun t' i' j' a b d => by
    rw [A14 t' i' j' b d, u3_skip _ _ _ _ a]
  have q1 : ∀ t' i' j', t' ≠ 1 → t' ≠ 7 → t' ≠ 9 → I1 5 t' i' j' = I 5 t' i' j' := fun t' i' j' a b d => by
    rw [A1 t' i' j' b d, u3_skip _ _ _ _ a]
  have q12 : ∀ t' i' j', t' ≠ 1 → t' ≠ 7 → t' ≠ 9 → I12 5 t' i' j' = I 5 t' i' j' := fun t' i' j' a b d => by
    rw [A12 t' i' j' b d, u3_skip _ _ _ _ a]
  obtain ⟨o16, b16⟩ := zs_c1 (q := L) (lo := A 0 0 1) (J := J) (A 0 0 1) 0 I14 (fun j hj => by
    rw [q _ _ _ (by decide) (by decide) (by decide), q _ _ _ (by decide) (by decide) (by decide)]
    have v := h.k6 j hj
    obtain ⟨b, p1, p2, p3, p4, p5⟩ := hg.2.2.2.2.1.2 j hj
    have s33 := hr.k12 j hj
    have w7 := (hi.k7 j (by omega)).1
    have e2 : J 3 33 0 j = 2 ↔ A 3 j 0 = 2 := by rw [s33]; exact nI_eq (b := 2) (by omega) (by decide)
    refine ⟨?_, ?_⟩
    · rw [e2, v.2.2.2.1]
      by_cases c2 : A 3 j 0 = 2
      · obtain ⟨d, y1, y2, y3, -⟩ := p5 c2
        rw [y1]
        exact ⟨fun x => absurd x (nI_pos (by omega)), fun x => absurd c2 x⟩
      · rw [p4 c2]
        exact ⟨fun _ => c2, fun _ => by decide⟩
    · by_cases c0 : J 3 33 0 j = 0
      · rw [v.2.2.2.2.2.1 c0]
        exact ⟨fun _ => c0, fun _ => rfl⟩
      · rw [v.2.2.2.2.2.2 c0]
        exact ⟨fun x => absurd x (by decide), fun x => absurd x c0⟩) (by omega)
  obtain ⟨I16, hI16⟩ : ∃ I16, I16 = f_S_counts_l1 L (A 0 0 1) 0 I14 := ⟨_, rfl⟩
  rw [← hI16] at b16
  obtain ⟨o24, b24⟩ := zs_c2 (q := L) (n := A 0 0 0) (I1 := I1) (J := J) (fun j hj => by
    have w := h.k3 j hj
    rw [r1]
    show nI (I 5 6 j 0).toNatClampNeg = _
    rw [w.2.2.2.2.2.2.2, hr.k6 j (by omega), nI_clamp (by have := (hi.k2 j (by omega)).2.1; omega)]) (A 0 0 0) 0 I16 (by omega)
  obtain ⟨I24, hI24⟩ : ∃ I24, I24 = f_S_counts_l2 L I1 (A 0 0 0) 0 I16 := ⟨_, rfl⟩
  rw [← hI24] at b24
  have q24 : ∀ t' i' j', t' ≠ 1 → t' ≠ 7 → t' ≠ 9 → I24 5 t' i' j' = I 5 t' i' j' := fun t' i' j' a b d => by
    rw [b24, b16, u3_skip _ _ _ _ d, u3_skip _ _ _ _ d, u3_skip _ _ _ _ d, q _ _ _ a b d]
  obtain ⟨o27, b27⟩ := zs_c3 (q := L) (n := A 0 0 0) (J := J) (A 0 0 0) 0 I24 (fun j hj => by
    have w := h.k3 j hj
    rw [q24 _ _ _ (by decide) (by decide) (by decide), q24 _ _ _ (by decide) (by decide) (by decide)]
    exact ⟨w.2.2.1, w.2.2.2.2.2.2.1⟩) (by omega)
  obtain ⟨I27, hI27⟩ : ∃ I27, I27 = f_S_counts_l3 L (A 0 0 0) 0 I24 := ⟨_, rfl⟩
  rw [← hI27] at b27
  have m2 : cnt (I1 5) 2 = A 0 0 0 := by rw [n1 2 (by decide), c.1]
  have m3 : cnt (I1 5) 3 = A 0 0 0 := by rw [n1 3 (by decide), c.2.1]
  have m4 : cnt (I1 5) 4 = A 0 0 1 := by rw [n1 4 (by decide), c.2.2.1]
  have eF : f_S_counts I = I27 := by
    rw [hI27, hI24, hI16, hI14, hI12]
    simp (disch := decide) only [f_S_counts, c9, ← hI1, gU_at, u3_skip, m2, m3, m4]
  have A27 : sA (u3 (I 5) 1 9 0 (nI (L + 1))) (I27 5) := by
    rw [b27, b24, b16]
    exact sA_9 (sA_9 (sA_9 (sA_9 (sA_9 A14))))
  have l27 : I27 5 7 L 0 = nI 13 := by
    rw [b27, b24, b16, hI14, hI12]
    simp (disch := decide) only [gU_at, u3_skip, l7]
  refine ⟨⟨?_, ?_, ?_⟩, by rw [eF]; exact A27, ?_⟩
  · unfold ok_S_counts
    refine ⟨by omega, ?_⟩
    intro q1 hq1
    rw [c9] at hq1
    rw [hq1]
    intro B1 g1
    rw [← hI1] at g1
    intro B2 g2 B3 g3 B4 g4 B5 g5 B6 g6 B7 g7 B8 g8 B9 g9 B10 g10 B11 g11 B12 g12
    refine ⟨zs_ptok _ _ _, ?_⟩
    intro B13 g13 B14 g14
    have e12 : B12 = I12 := by
      rw [hI12]
      simp (disch := decide) only [g12, g11, g10, g9, g8, g7, g6, g5, g4, g3, g2, g1, gU_at, u3_skip]
    have e14 : B14 = I14 := by
      rw [hI14]
      simp (disch := decide) only [g14, g13, e12, gU_at, u3_skip]
    rw [e14, g1, m2, m3, m4]
    refine ⟨o16, ?_⟩
    intro B16 g16
    rw [← hI16] at g16
    rw [g16]
    refine ⟨o24, ?_⟩
    intro B24 g24
    rw [← hI24] at g24
    rw [g24]
    exact ⟨o27, fun _ _ => trivial⟩
  · rw [eF, c9]
    show (I27 5 1 9 0).toNatClampNeg = _
    rw [A27 _ _ _ (by decide) (by decide), u3_at, nI_clamp (by omega)]
  · rw [eF, c9]
    show (I27 5 7 L 0).toNatClampNeg = _
    rw [l27]
    rfl
  · intro w hw
    rw [eF]
    have v0 := h.k1
    have v2 := h.k2
    have x1 : nI (cnt (I1 5) 2) = J 2 11 0 1 := by rw [m2, hr.k1]
    have x2 : nI (cnt (I1 5) 4) = J 2 11 0 4 := by rw [m4, hr.k2]
    have f0 : I1 5 0 0 0 = J 3 20 0 0 := by rw [q1 _ _ _ (by decide) (by decide) (by decide), v2.1]
    have f6 : I1 5 0 0 6 = J 3 20 0 1 := by rw [q1 _ _ _ (by decide) (by decide) (by decide), v2.2.2.1]
    have f7 : I1 5 0 0 7 = J 3 20 0 2 := by rw [q1 _ _ _ (by decide) (by decide) (by decide), v2.2.2.2.1]
    have f8 : I1 5 0 0 8 = J 3 20 0 3 := by rw [q1 _ _ _ (by decide) (by decide) (by decide), v2.2.2.2.2]
    have f1 : I12 5 0 0 1 = J 2 11 0 7 := by rw [q12 _ _ _ (by decide) (by decide) (by decide), v2.2.1]
    have row14 : ∀ w, I14 5 9 L w = if w = 12 then J 2 11 0 7 else if w = 11 then J 3 20 0 4 else I12 5 9 L w := fun w => by
      rw [hI14]
      simp only [gU_at, u3_eq, f1, P]
      grind
    have row12 : ∀ w, w < 11 → I12 5 9 L w = if w = 9 then J 3 20 0 3 else if w = 8 then J 3 20 0 2 else if w = 7 then J 3 20 0 1 else if w = 2 then J 2 11 0 4 else if w = 1 then J 2 11 0 1 else if w = 0 then J 3 20 0 0 else 0 := fun w hw => by
      rcases (show w = 0 ∨ w = 1 ∨ w = 2 ∨ w = 3 ∨ w = 4 ∨ w = 5 ∨ w = 6 ∨ w = 7 ∨ w = 8 ∨ w = 9 ∨ w = 10 by omega) with e | e | e | e | e | e | e | e | e | e | e
      all_goals
        rw [e, hI12]
        simp only [gU_at]
        simp only [u3_eq, x1, x2, f0, f6, f7, f8]
        simp
    have z3 : I14 5 9 L 3 = 0 := by rw [row14, if_neg (by decide), if_neg (by decide), row12 3 (by decide)]; rfl
    have z4 : I14 5 9 L 4 = 0 := by rw [row14, if_neg (by decide), if_neg (by decide), row12 4 (by decide)]; rfl
    have z5 : I16 5 9 L 5 = 0 := by rw [b16, u3_skipj _ _ (by decide), u3_skipj _ _ (by decide), row14, if_neg (by decide), if_neg (by decide), row12 5 (by decide)]; rfl
    have z6 : I24 5 9 L 6 = 0 := by rw [b24, b16, u3_skipj _ _ (by decide), u3_skipj _ _ (by decide), u3_skipj _ _ (by decide), row14, if_neg (by decide), if_neg (by decide), row12 6 (by decide)]; rfl
    have z10 : I24 5 9 L 10 = 0 := by rw [b24, b16, u3_skipj _ _ (by decide), u3_skipj _ _ (by decide), u3_skipj _ _ (by decide), row14, if_neg (by decide), if_neg (by decide), row12 10 (by decide)]; rfl
    rw [z3, z4] at b16
    rw [z5] at b24
    rw [z6, z10] at b27
    have row27 : ∀ w, I27 5 9 L w = if w = 10 then f_X6_sumOf J 3 30 else if w = 6 then f_X6_sleepers J 3 else if w = 5 then f_X6_sumOf J 3 31 else if w = 4 then f_X6_loadsThat J 3 0 else if w = 3 then f_X6_loadsThat J 3 2 else I14 5 9 L w := fun w => by
      rw [b27, b24, b16]
      unfold f_X6_sumOf f_X6_sleepers f_X6_loadsThat
      rw [d1, d2]
      simp only [u3_eq]
      grind
    rw [row27, row14]
    rcases (show w = 0 ∨ w = 1 ∨ w = 2 ∨ w = 3 ∨ w = 4 ∨ w = 5 ∨ w = 6 ∨ w = 7 ∨ w = 8 ∨ w = 9 ∨ w = 10 ∨ w = 11 ∨ w = 12 by omega) with e | e | e | e | e | e | e | e | e | e | e | e | e
    all_goals subst e
    all_goals first | rfl | (rw [row12 _ (by decide)]; rfl)
