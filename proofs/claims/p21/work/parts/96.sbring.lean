/-! BRING: the Sim does as the ghost -/
theorem sR.model {L n lo : Nat} {V M M' S : gY} (h : sR L n lo V M S) (h7 : M' 11 0 7 = M 11 0 7) (h12 : ∀ i, M' 12 0 i = M 12 0 i) (h13 : ∀ i, M' 13 0 i = M 13 0 i) (h14 : ∀ i, M' 14 0 i = M 14 0 i) (h15 : ∀ i, M' 15 0 i = M 15 0 i) : sR L n lo V M' S := by
  refine ⟨h.k1, ?_, fun i hi => ?_, h.k4, h.k5, fun l hl => ?_, h.k7, h.k8⟩
  · rw [h7]; exact h.k2
  · rw [h12, h13]; exact h.k3 i hi
  · rw [h14, h15]; exact h.k6 l hl
theorem sR_BR {L n lo N : Nat} {x c x37 : Int32} {r1 r2 : Nat → Int32} {V M S : gY} (h : sR L n lo V M S) (hN : S 20 0 19 = nI N) (hN9 : N < 1000) (hlo : lo < 1000) (a0 : r1 0 = x) (a1 : r1 1 = x) (a2 : r1 2 = nI lo) (a3 : r1 3 = -1) (a5 : r1 5 = 0) (b0 : r2 0 = x) (b1 : r2 1 = nI N) (b2 : r2 2 = S 20 0 0) (b3 : r2 3 = -1) (b4 : r2 4 = 0) (b5 : r2 5 = 0) (s37 : S 37 0 lo = 0) :
    sR L n (lo + 1) (u3 (urow (u3 (urow V 5 N r1) 1 5 0 (nI (N + 1))) 4 lo r2) 1 4 0 (nI (lo + 1))) (u3 (u3 M 14 0 lo x) 15 0 lo (S 20 0 0)) (u3 (u3 (u3 (u3 (u3 (u3 (u3 (u3 (u3 (u3 (u3 S 33 0 lo 0) 35 0 lo (-1)) 36 0 lo 1) 40 0 N x) 41 0 N x) 42 0 N (nI lo)) 43 0 N (-1)) 44 0 N (-1)) 45 0 N 0) 20 0 19 (nI (N + 1))) 34 0 lo (nI N)) := by
  have k6 := h.k6
  have k7 := h.k7
  have cN : (nI N).toNatClampNeg = N := nI_clamp (by omega)
  have cN1 : (nI (N + 1)).toNatClampNeg = N + 1 := nI_clamp (by omega)
  refine ⟨?_, ?_, fun i hi => ?_, fun i hi => ?_, fun i p hi => ?_, fun l hl => ?_, fun g hg => ?_, fun i hi => ?_⟩
  · have := h.k1
    simp only [u3_eq, urow_eq]
    simp
    exact ⟨this.1, this.2.1, this.2.2.2.2⟩
  · have := h.k2
    simp (disch := omega) only [u3_skip, u3_skipj, urow_skip]
    exact this
  · have := h.k3 i hi
    simp (disch := omega) only [u3_skip, urow_skip]
    exact this
  · have := h.k4 i hi
    simp (disch := omega) only [u3_skip, urow_skip]
    exact this
  · have := h.k5 i p hi
    simp (disch := omega) only [u3_skip, urow_skip]
    exact this
  · by_cases e : l = lo
    · subst e
      simp only [u3_eq, urow_eq]
      simp [b0, b1, b2, b3, b4, b5, s37]
    · have := k6 l (by omega)
      simp only [u3_eq, urow_eq]
      simp [e]
      exact this
  · rw [show (u3 (u3 (u3 (u3 (u3 (u3 (u3 (u3 (u3 (u3 (u3 S 33 0 lo 0) 35 0 lo (-1)) 36 0 lo 1) 40 0 N x) 41 0 N x) 42 0 N (nI lo)) 43 0 N (-1)) 44 0 N (-1)) 45 0 N 0) 20 0 19 (nI (N + 1))) 34 0 lo (nI N)) 20 0 19 = nI (N + 1) by rw [u3_skip _ _ _ _ (by decide), u3_at], cN1] at hg
    by_cases e : g = N
    · subst e
      simp only [u3_eq, urow_eq]
      simp [a0, a1, a2, a3, a5]
    · have := k7 g (by rw [hN, cN]; omega)
      simp only [u3_eq, urow_eq]
      simp [e]
      simpa using this
  · have := h.k8 i hi
    simp (disch := omega) only [u3_skip]
    exact this
/-- all who sleep wake -/
theorem zs_wakeAll {L n lo : Nat} {x : Int32} : ∀ m i (I J : gI), i + m = n → sR L n lo (I 5) (J 2) (J 3) →
    ok_f_S_bring_l1 x m i I ∧ sR L n lo (f_S_bring_l1 x m i I 5) (f_X6_bring_l1_s x m i J 2) (f_X6_bring_l1_s x m i J 3) := by
  intro m
  induction m with
  | zero =>
    intro i I J e h
    refine ⟨trivial, ?_⟩
    simp only [f_S_bring_l1, f_X6_bring_l1_s, gU_at, gU_ne _ _ _ _ _ (show 3 ≠ 2 by decide)]
    exact h.model (by rw [u3_skipj _ _ (by decide)]) (fun _ => by rw [u3_skip _ _ _ _ (by decide)]) (fun _ => by rw [u3_skip _ _ _ _ (by decide)]) (fun _ => by rw [u3_skip _ _ _ _ (by decide)]) (fun _ => by rw [u3_skip _ _ _ _ (by decide)])
  | succ m ih =>
    intro i I J e h
    have w := (h.k3 i (by omega)).2.2.1
    simp only [f_S_bring_l1, ok_f_S_bring_l1, f_X6_bring_l1_s, w]
    by_cases c : J 3 25 0 i = 3
    · rw [if_pos c, if_pos c]
      obtain ⟨a, b⟩ := ih (i + 1) (gU I 5 2 i 2 0) (gU J 3 25 0 i 0) (by omega) (by
        rw [gU_at, gU_at, gU_ne _ _ _ _ _ (show 2 ≠ 3 by decide)]
        exact sR_DZ h ⟨by decide, by decide⟩)
      refine ⟨⟨fun _ => ?_, fun q => absurd c q⟩, b⟩
      rintro _ rfl
      exact a
    · rw [if_neg c, if_neg c]
      obtain ⟨a, b⟩ := ih (i + 1) I J (by omega) h
      exact ⟨⟨fun q => absurd q c, fun _ => a⟩, b⟩
/-- J8: the ghost behind its new load -/
theorem zs_bring {L n lo N : Nat} {x : Int32} {I J8 : gI} {M S : gY} (h : sR L n lo (I 5) M S) (hn : n ≤ 6) (hlo : lo < 10) (hL : L < 290) (hN : S 20 0 19 = nI N) (hN9 : N < 329) (s37 : S 37 0 lo = 0)
    (j2 : sR L n (lo + 1) (I 5) (u3 (u3 M 14 0 lo x) 15 0 lo (S 20 0 0)) S → True) (J82 : J8 2 11 0 7 = M 11 0 7 ∧ (∀ i, J8 2 12 0 i = M 12 0 i) ∧ (∀ i, J8 2 13 0 i = M 13 0 i) ∧ (∀ i, J8 2 14 0 i = u3 (u3 M 14 0 lo x) 15 0 lo (S 20 0 0) 14 0 i) ∧ (∀ i, J8 2 15 0 i = u3 (u3 M 14 0 lo x) 15 0 lo (S 20 0 0) 15 0 i))
    (J83 : J8 3 = (u3 (u3 (u3 (u3 (u3 (u3 (u3 (u3 (u3 (u3 (u3 S 33 0 lo 0) 35 0 lo (-1)) 36 0 lo 1) 40 0 N x) 41 0 N x) 42 0 N (nI lo)) 43 0 N (-1)) 44 0 N (-1)) 45 0 N 0) 20 0 19 (nI (N + 1))) 34 0 lo (nI N))) :
    ok_S_bring I x ∧ sR L n (lo + 1) (f_S_bring I x 5) (f_X6_bring_l1_s x n 0 J8 2) (f_X6_bring_l1_s x n 0 J8 3) := by
  have cN : (nI N).toNatClampNeg = N := nI_clamp (by omega)
  have cc := h.c (by omega) (by omega) (by omega)
  have c9 := cc.2.2.2.2
  have v9 := h.k1.2.2.2.2
  have c5 : cnt (I 5) 5 = N := by rw [cc.2.2.2.1, hN, cN]
  obtain ⟨I1, hI1⟩ : ∃ z, z = gset I 5 (pLoose (I 5) 6 (fun _ => 0)) := ⟨_, rfl⟩
  have e1 : I1 5 = pLoose (I 5) 6 (fun _ => 0) := by rw [hI1, gset_at]
  have c14 : cnt (I1 5) 4 = lo := by rw [e1, cnt_loose (by decide), cc.2.2.1]
  have A1 : sA (u3 (I 5) 1 9 0 (nI (L + 1))) (I1 5) := by rw [e1, ← c9]; exact sA_loose
  obtain ⟨I7, hI7⟩ : ∃ z, z = gU (gU (gU (gU (gU (gU I1 5 9 L 0 x) 5 9 L 1 x) 5 9 L 2 (nI lo)) 5 9 L 3 (-1)) 5 9 L 4 (-1)) 5 9 L 5 0 := ⟨_, rfl⟩
  obtain ⟨I8, hI8⟩ : ∃ z, z = gset I7 5 (pMore (I7 5) 5) := ⟨_, rfl⟩
  obtain ⟨I9, hI9⟩ : ∃ z, z = gset I8 5 (pLoose (I8 5) 6 (fun _ => 0)) := ⟨_, rfl⟩
  have e7 : I7 5 = u3 (u3 (u3 (u3 (u3 (u3 (I1 5) 9 L 0 x) 9 L 1 x) 9 L 2 (nI lo)) 9 L 3 (-1)) 9 L 4 (-1)) 9 L 5 0 := by
    rw [hI7]
    simp only [gU_at]
  have A7 : sA (u3 (I 5) 1 9 0 (nI (L + 1))) (I7 5) := by
    rw [e7]
    exact sA_9 (sA_9 (sA_9 (sA_9 (sA_9 (sA_9 A1)))))
  obtain ⟨A8, d9, d5⟩ := sA_more (t := 5) (by decide) v9 (by omega) c5 A7
  have e8 : I8 5 = pMore (I7 5) 5 := by rw [hI8, gset_at]
  rw [← e8] at A8
  have t9 : I8 5 1 9 0 = nI L := by rw [A8 1 9 0 (by decide) (by decide), u3_skipi _ _ (by decide), urow_skip _ _ _ (by decide), v9]
  have c89 : cnt (I8 5) 9 = L := by
    show (I8 5 1 9 0).toNatClampNeg = _
    rw [t9, nI_clamp (by omega)]
  have e9 : I9 5 = pLoose (I8 5) 6 (fun _ => 0) := by rw [hI9, gset_at]
  have A9 : sA (u3 (I8 5) 1 9 0 (nI (L + 1))) (I9 5) := by rw [e9, ← c89]; exact sA_loose
  have c84 : cnt (I8 5) 4 = lo := by
    show (I8 5 1 4 0).toNatClampNeg = _
    rw [A8 1 4 0 (by decide) (by decide), u3_skipi _ _ (by decide), urow_skip _ _ _ (by decide)]
    exact cc.2.2.1
  have c95 : cnt (I9 5) 5 = N + 1 := by
    rw [e9, cnt_loose (by decide)]
    show (I8 5 1 5 0).toNatClampNeg = _
    rw [A8 1 5 0 (by decide) (by decide), u3_at, nI_clamp (by omega)]
  have f0 : I9 5 0 0 0 = S 20 0 0 := by
    rw [A9 0 0 0 (by decide) (by decide), u3_skip _ _ _ _ (by decide), A8 0 0 0 (by decide) (by decide), u3_skip _ _ _ _ (by decide), urow_skip _ _ _ (by decide), h.k2.1]
  obtain ⟨I15, hI15⟩ : ∃ z, z = gU (gU (gU (gU (gU (gU I9 5 9 L 0 x) 5 9 L 1 (nI N)) 5 9 L 2 (S 20 0 0)) 5 9 L 3 (-1)) 5 9 L 4 0) 5 9 L 5 0 := ⟨_, rfl⟩
  obtain ⟨I16, hI16⟩ : ∃ z, z = gset I15 5 (pMore (I15 5) 4) := ⟨_, rfl⟩
  have e15 : I15 5 = u3 (u3 (u3 (u3 (u3 (u3 (I9 5) 9 L 0 x) 9 L 1 (nI N)) 9 L 2 (S 20 0 0)) 9 L 3 (-1)) 9 L 4 0) 9 L 5 0 := by
    rw [hI15]
    simp only [gU_at]
  have A15 : sA (u3 (I8 5) 1 9 0 (nI (L + 1))) (I15 5) := by
    rw [e15]
    exact sA_9 (sA_9 (sA_9 (sA_9 (sA_9 (sA_9 A9)))))
  obtain ⟨A16, x9, x4⟩ := sA_more (t := 4) (by decide) t9 (by omega) c84 A15
  have e16 : I16 5 = pMore (I15 5) 4 := by rw [hI16, gset_at]
  rw [← e16] at A16
  have r1 : ∀ j, j < 6 → I7 5 9 L j = if j = 5 then 0 else if j = 4 then -1 else if j = 3 then -1 else if j = 2 then nI lo else x := fun j hj => by
    rw [e7]
    rcases (show j = 0 ∨ j = 1 ∨ j = 2 ∨ j = 3 ∨ j = 4 ∨ j = 5 by omega) with e | e | e | e | e | e
    all_goals
      rw [e]
      simp only [u3_eq]
      simp
  have r2 : ∀ j, j < 6 → I15 5 9 L j = if j = 0 then x else if j = 1 then nI N else if j = 2 then S 20 0 0 else if j = 3 then -1 else 0 := fun j hj => by
    rw [e15]
    rcases (show j = 0 ∨ j = 1 ∨ j = 2 ∨ j = 3 ∨ j = 4 ∨ j = 5 by omega) with e | e | e | e | e | e
    all_goals
      rw [e]
      simp only [u3_eq]
      simp
  have R := sR_BR (c := 0) (x37 := 0) (x := x) (r1 := I7 5 9 L) (r2 := I15 5 9 L) h hN (by omega) (by omega) (r1 0 (by decide)) (r1 1 (by decide)) (r1 2 (by decide)) (r1 3 (by decide)) (r1 5 (by decide)) (r2 0 (by decide)) (r2 1 (by decide)) (r2 2 (by decide)) (r2 3 (by decide)) (r2 4 (by decide)) (r2 5 (by decide)) s37
  have R16 : sR L n (lo + 1) (I16 5) (J8 2) (J8 3) := by
    rw [J83]
    refine (R.al (sA.tr ?_ A16)).model (by rw [J82.1, u3_skip _ _ _ _ (by decide), u3_skip _ _ _ _ (by decide)]) (fun i => by rw [J82.2.1, u3_skip _ _ _ _ (by decide), u3_skip _ _ _ _ (by decide)]) (fun i => by rw [J82.2.2.1, u3_skip _ _ _ _ (by decide), u3_skip _ _ _ _ (by decide)]) J82.2.2.2.1 J82.2.2.2.2
    exact sA_u3 (sA_urow A8)
  have c2 : cnt (I16 5) 2 = n := (R16.c (by omega) (by omega) (by omega)).1
  obtain ⟨w1, w2⟩ := zs_wakeAll (x := x) n 0 I16 J8 (by omega) R16
  have eF : f_S_bring I x = f_S_bring_l1 x n 0 I16 := by
    have f11 : ∀ y, gU (gU I9 5 9 L 0 x) 5 9 L 1 y 5 0 0 0 = S 20 0 0 := fun y => by
      simp (disch := decide) only [gU_at, u3_skip]
      exact f0
    have hsub : nI (N + 1) - 1 = nI N := by rw [zc_sub1 (by omega)]; rfl
    simp only [f_S_bring, c9, ← hI1, c14, ← hI7, ← hI8, c89, ← hI9, c95, f11, hsub, ← hI15, ← hI16, c2]
  refine ⟨?_, by rw [eF]; exact w2⟩
  unfold ok_S_bring
  refine ⟨by omega, ?_⟩
  intro q1 hq1
  rw [c9] at hq1
  rw [hq1]
  intro B1 g1
  rw [← hI1] at g1
  rw [g1]
  intro B2 g2 B3 g3 B4 g4 B5 g5 B6 g6 B7 g7
  have f7 : B7 = I7 := by rw [hI7, g7, g6, g5, g4, g3, g2, c14]
  refine ⟨?_, ?_⟩
  · rw [e1, cnt_loose (by decide), c5]
    omega
  intro B8 g8
  rw [f7, ← hI8] at g8
  rw [g8, c89]
  refine ⟨by omega, ?_⟩
  intro q3 hq3
  rw [hq3]
  intro B9 g9
  rw [← hI9] at g9
  rw [g9, c95]
  intro B10 g10 B11 g11 B12 g12 B13 g13 B14 g14 B15 g15
  have f15 : B15 = I15 := by
    have e11 : B11 5 0 0 0 = S 20 0 0 := by
      rw [g11, g10]
      simp (disch := decide) only [gU_at, u3_skip]
      exact f0
    rw [hI15, g15, g14, g13, g12, e11, g11, g10, show nI (N + 1) - 1 = nI N by rw [zc_sub1 (by omega)]; rfl]
  refine ⟨?_, ?_⟩
  · rw [e9, cnt_loose (by decide), c84]
    omega
  intro B16 g16
  rw [f15, ← hI16] at g16
  rw [g16, c2]
  first | exact w1 | exact ⟨w1, fun _ _ => trivial⟩
