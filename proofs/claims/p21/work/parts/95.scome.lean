/-! COME: the Sim does as the ghost -/
theorem sA_more {V V13 : gY} {L N t : Nat} (ht : t ≠ 1 ∧ t ≠ 3 ∧ t ≠ 6 ∧ t ≠ 7 ∧ t ≠ 9) (h9 : V 1 9 0 = nI L) (hL : L < 300) (h5 : cnt V t = N) (h : sA (u3 V 1 9 0 (nI (L + 1))) V13) : sA (u3 (urow V t N (V13 9 L)) 1 t 0 (nI (N + 1))) (pMore V13 t) ∧ cnt V13 9 = L + 1 ∧ cnt V13 t = N := by
  have c9 : cnt V13 9 = L + 1 := by
    show (V13 1 9 0).toNatClampNeg = _
    rw [h 1 9 0 (by decide) (by decide), u3_at, nI_clamp (by omega)]
  have c5 : cnt V13 t = N := by
    show (V13 1 t 0).toNatClampNeg = _
    rw [h 1 t 0 (by decide) (by decide), u3_eq, if_neg (by omega)]
    exact h5
  refine ⟨fun t' i j h7 h99 => ?_, c9, c5⟩
  have hh := h t' i j h7 h99
  unfold pMore
  rw [if_neg ht.2.1, c9, c5, Nat.add_sub_cancel]
  simp only [u3_eq, urow_eq] at hh ⊢
  by_cases e1 : t' = 1 ∧ i = 9 ∧ j = 0
  · obtain ⟨rfl, rfl, rfl⟩ := e1
    rw [if_pos ⟨rfl, rfl, rfl⟩, if_neg (by omega), if_neg (by omega), h9]
  · rw [if_neg e1] at hh ⊢
    by_cases e2 : t' = 1 ∧ i = t ∧ j = 0
    · rw [if_pos e2, if_pos e2]
    · rw [if_neg e2, if_neg e2]
      by_cases e3 : t' = t ∧ i = N
      · rw [if_pos e3, if_pos e3]
      · rw [if_neg e3, if_neg e3]
        exact hh
theorem sA_more3 {V V13 : gY} {L N m : Nat} (h9 : V 1 9 0 = nI L) (hL : L < 300) (h5 : cnt V 3 = N) (h : sA (u3 V 1 9 0 (nI (L + 1))) V13) (h7 : V13 7 L 0 = nI m) : sA (u3 (u3 (urow V 3 N (V13 9 L)) 6 N 0 (nI m)) 1 3 0 (nI (N + 1))) (pMore V13 3) ∧ cnt V13 9 = L + 1 ∧ cnt V13 3 = N := by
  have c9 : cnt V13 9 = L + 1 := by
    show (V13 1 9 0).toNatClampNeg = _
    rw [h 1 9 0 (by decide) (by decide), u3_at, nI_clamp (by omega)]
  have c5 : cnt V13 3 = N := by
    show (V13 1 3 0).toNatClampNeg = _
    rw [h 1 3 0 (by decide) (by decide), u3_eq, if_neg (by omega)]
    exact h5
  refine ⟨fun t' i j h77 h99 => ?_, c9, c5⟩
  have hh := h t' i j h77 h99
  unfold pMore
  rw [if_pos rfl, c9, c5, Nat.add_sub_cancel, h7]
  simp only [u3_eq, urow_eq] at hh ⊢
  by_cases e1 : t' = 1 ∧ i = 9 ∧ j = 0
  · obtain ⟨rfl, rfl, rfl⟩ := e1
    rw [if_pos ⟨rfl, rfl, rfl⟩, if_neg (by omega), if_neg (by omega), if_neg (by omega), h9]
  · rw [if_neg e1] at hh ⊢
    by_cases e2 : t' = 1 ∧ i = 3 ∧ j = 0
    · rw [if_pos e2, if_pos e2]
    · rw [if_neg e2, if_neg e2]
      by_cases e4 : t' = 6 ∧ i = N ∧ j = 0
      · rw [if_pos e4, if_pos e4]
      · rw [if_neg e4, if_neg e4]
        by_cases e3 : t' = 3 ∧ i = N
        · rw [if_pos e3, if_pos e3]
        · rw [if_neg e3, if_neg e3]
          exact hh
theorem sR_CM {L n lo : Nat} {x c : Int32} {r r0 : Nat → Int32} {V M S : gY} (h : sR L n lo V M S) (a0 : r 0 = x) (a1 : r 1 = 0) (a2 : r 2 = 0) (a4 : r 4 = 0) (a5 : r 5 = 0) (a6 : r 6 = 0) (a7 : r 7 = 0) (m13 : M 13 0 n = 0) (s25 : S 25 0 n = 0) (s27 : S 27 0 n = 0) (s28 : S 28 0 n = 0) (s29 : S 29 0 n = 0) (s30 : S 30 0 n = 0) (s31 : S 31 0 n = 0) :
    sR L (n + 1) lo (u3 (u3 (urow (u3 (urow V 2 n r) 1 2 0 (nI (n + 1))) 3 n r0) 6 n 0 (nI 0)) 1 3 0 (nI (n + 1))) (u3 (u3 M 12 0 n x) 11 0 1 c) S := by
  have k3 := h.k3
  have k4 := h.k4
  have k5 := h.k5
  have k8 := h.k8
  have z0 : nI 0 = 0 := rfl
  have zc : (0 : Int32).toNatClampNeg = 0 := rfl
  refine ⟨?_, ?_, fun i hi => ?_, fun i hi => ?_, fun i p hi => ?_, fun l hl => ?_, fun g hg => ?_, fun i hi => ?_⟩
  · have := h.k1
    simp only [u3_eq, urow_eq]
    simp
    exact ⟨this.2.2.1, this.2.2.2.1, this.2.2.2.2⟩
  · have := h.k2
    simp (disch := omega) only [u3_skip, u3_skipj, urow_skip]
    exact this
  · by_cases e : i = n
    · subst e
      simp only [u3_eq, urow_eq]
      simp [a0, a1, a2, a4, a5, a6, a7, m13, s25, s27, s28, s29, s30, s31, z0]
    · have := k3 i (by omega)
      simp only [u3_eq, urow_eq]
      simp [e]
      exact this
  · by_cases e : i = n
    · subst e
      rw [s25]
      intro q
      rcases q with q | q <;> exact absurd q (by decide)
    · have := k4 i (by omega)
      simp only [u3_eq, urow_eq]
      simp [e]
      simpa using this
  · by_cases e : i = n
    · subst e
      rw [s31, zc]
      intro q
      omega
    · have := k5 i p (by omega)
      simp only [u3_eq, urow_eq]
      simp [e]
      exact this
  · have := h.k6 l hl
    simp (disch := omega) only [u3_skip, urow_skip]
    exact this
  · have := h.k7 g hg
    simp (disch := omega) only [u3_skip, urow_skip]
    exact this
  · by_cases e : i = n
    · subst e
      exact Or.inl s27
    · exact k8 i (by omega)
theorem zs_come {L n lo : Nat} {x c : Int32} {I : gI} {M S : gY} (h : sR L n lo (I 5) M S) (hn : n < 6) (hlo : lo ≤ 10) (hL : L < 290) (hN : (S 20 0 19).toNatClampNeg < 1000) (m13 : M 13 0 n = 0) (s25 : S 25 0 n = 0) (s27 : S 27 0 n = 0) (s28 : S 28 0 n = 0) (s29 : S 29 0 n = 0) (s30 : S 30 0 n = 0) (s31 : S 31 0 n = 0) :
    ok_S_come I x ∧ sR L (n + 1) lo (f_S_come I x 5) (u3 (u3 M 12 0 n x) 11 0 1 c) S := by
  have cc := h.c (by omega) (by omega) (by omega)
  have c9 := cc.2.2.2.2
  have v9 := h.k1.2.2.2.2
  obtain ⟨I1, hI1⟩ : ∃ z, z = gset I 5 (pLoose (I 5) 8 (fun _ => 0)) := ⟨_, rfl⟩
  obtain ⟨I9, hI9⟩ : ∃ z, z = gU (gU (gU (gU (gU (gU (gU (gU I1 5 9 L 0 x) 5 9 L 1 0) 5 9 L 2 0) 5 9 L 3 (-1)) 5 9 L 4 0) 5 9 L 5 0) 5 9 L 6 0) 5 9 L 7 0 := ⟨_, rfl⟩
  obtain ⟨I10, hI10⟩ : ∃ z, z = gset I9 5 (pMore (I9 5) 2) := ⟨_, rfl⟩
  obtain ⟨I11, hI11⟩ : ∃ z, z = gset I10 5 (pLoose (I10 5) 0 (fun _ => 0)) := ⟨_, rfl⟩
  obtain ⟨I12, hI12⟩ : ∃ z, z = gset I11 5 (pMore (I11 5) 3) := ⟨_, rfl⟩
  have e1 : I1 5 = pLoose (I 5) 8 (fun _ => 0) := by rw [hI1, gset_at]
  have A1 : sA (u3 (I 5) 1 9 0 (nI (L + 1))) (I1 5) := by rw [e1, ← c9]; exact sA_loose
  have e9 : I9 5 = u3 (u3 (u3 (u3 (u3 (u3 (u3 (u3 (I1 5) 9 L 0 x) 9 L 1 0) 9 L 2 0) 9 L 3 (-1)) 9 L 4 0) 9 L 5 0) 9 L 6 0) 9 L 7 0 := by
    rw [hI9]
    simp only [gU_at]
  have A9 : sA (u3 (I 5) 1 9 0 (nI (L + 1))) (I9 5) := by
    rw [e9]
    exact sA_9 (sA_9 (sA_9 (sA_9 (sA_9 (sA_9 (sA_9 (sA_9 A1)))))))
  obtain ⟨A10, d9, d2⟩ := sA_more (t := 2) (by decide) v9 (by omega) cc.1 A9
  have e10 : I10 5 = pMore (I9 5) 2 := by rw [hI10, gset_at]
  rw [← e10] at A10
  have w9 : u3 (urow (I 5) 2 n (I9 5 9 L)) 1 2 0 (nI (n + 1)) 1 9 0 = nI L := by
    rw [u3_skipi _ _ (by decide), urow_skip _ _ _ (by decide), v9]
  have t9 : I10 5 1 9 0 = nI L := by rw [A10 1 9 0 (by decide) (by decide), w9]
  have c109 : cnt (I10 5) 9 = L := by
    show (I10 5 1 9 0).toNatClampNeg = _
    rw [t9, nI_clamp (by omega)]
  have e11 : I11 5 = pLoose (I10 5) 0 (fun _ => 0) := by rw [hI11, gset_at]
  have A11 : sA (u3 (I10 5) 1 9 0 (nI (L + 1))) (I11 5) := by rw [e11, ← c109]; exact sA_loose
  have c103 : cnt (I10 5) 3 = n := by
    show (I10 5 1 3 0).toNatClampNeg = _
    rw [A10 1 3 0 (by decide) (by decide), u3_skipi _ _ (by decide), urow_skip _ _ _ (by decide)]
    exact cc.2.1
  have l7 : I11 5 7 L 0 = nI 0 := by
    rw [e11, ← c109]
    unfold pLoose
    rw [u3_skip _ _ _ _ (by decide), u3_at]
  obtain ⟨A12, x9, x3⟩ := sA_more3 (m := 0) t9 (by omega) c103 A11 l7
  have e12 : I12 5 = pMore (I11 5) 3 := by rw [hI12, gset_at]
  rw [← e12] at A12
  have eF : f_S_come I x = I12 := by
    rw [hI12, hI11, hI10, hI9]
    simp only [f_S_come, c9, ← hI1]
  have rr : ∀ j, j < 8 → I9 5 9 L j = if j = 0 then x else if j = 3 then -1 else 0 := fun j hj => by
    rw [e9]
    rcases (show j = 0 ∨ j = 1 ∨ j = 2 ∨ j = 3 ∨ j = 4 ∨ j = 5 ∨ j = 6 ∨ j = 7 by omega) with e | e | e | e | e | e | e | e
    all_goals
      rw [e]
      simp only [u3_eq]
      simp
  have R := sR_CM (c := c) (x := x) (r := I9 5 9 L) (r0 := I11 5 9 L) h (rr 0 (by decide)) (rr 1 (by decide)) (rr 2 (by decide)) (rr 4 (by decide)) (rr 5 (by decide)) (rr 6 (by decide)) (rr 7 (by decide)) m13 s25 s27 s28 s29 s30 s31
  refine ⟨?_, ?_⟩
  · unfold ok_S_come
    refine ⟨by omega, ?_⟩
    intro q1 hq1
    rw [c9] at hq1
    rw [hq1]
    intro B1 g1
    rw [← hI1] at g1
    intro B2 g2 B3 g3 B4 g4 B5 g5 B6 g6 B7 g7 B8 g8 B9 g9
    refine ⟨?_, ?_⟩
    · rw [g1, e1, cnt_loose (by decide), cc.1]
      omega
    intro B10 g10
    have f9 : B9 = I9 := by rw [hI9, g9, g8, g7, g6, g5, g4, g3, g2, g1]
    rw [f9, ← hI10] at g10
    rw [g10, c109]
    refine ⟨by omega, ?_⟩
    intro q3 hq3 B11 g11
    rw [← hI11] at g11
    rw [g11, x3]
    exact ⟨by omega, fun _ _ => trivial⟩
  · rw [eF]
    refine R.al (sA.tr ?_ A12)
    exact sA_u3 (sA_u3 (sA_urow A10))
