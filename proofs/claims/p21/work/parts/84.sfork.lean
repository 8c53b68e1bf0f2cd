/-! PRINTED by wip/gen21/sfork.py: A LAD FORKS: the Sim does as the ghost -/
theorem sA_u3 {V V' : gY} {t i j : Nat} {x : Int32} (h : sA V V') : sA (u3 V t i j x) (u3 V' t i j x) := fun a b c h7 h9 => by
  simp only [u3_eq]
  split
  · rfl
  · exact h a b c h7 h9
theorem sA_urow {V V' : gY} {t i : Nat} {g : Nat → Int32} (h : sA V V') : sA (urow V t i g) (urow V' t i g) := fun a b c h7 h9 => by
  simp only [urow_eq]
  split
  · rfl
  · exact h a b c h7 h9
/-- a loose row of six becomes the last heap -/
theorem sA_heap {V V13 : gY} {L N : Nat} (h9 : V 1 9 0 = nI L) (hL : L < 300) (h5 : cnt V 5 = N) (h : sA (u3 V 1 9 0 (nI (L + 1))) V13) : sA (u3 (urow V 5 N (V13 9 L)) 1 5 0 (nI (N + 1))) (pMore V13 5) ∧ cnt V13 9 = L + 1 ∧ cnt V13 5 = N := by
  have c9 : cnt V13 9 = L + 1 := by
    show (V13 1 9 0).toNatClampNeg = _
    rw [h 1 9 0 (by decide) (by decide), u3_at, nI_clamp (by omega)]
  have c5 : cnt V13 5 = N := by
    show (V13 1 5 0).toNatClampNeg = _
    rw [h 1 5 0 (by decide) (by decide), u3_eq, if_neg (by omega)]
    exact h5
  refine ⟨fun t i j h7 h99 => ?_, c9, c5⟩
  have hh := h t i j h7 h99
  unfold pMore
  rw [if_neg (by decide), c9, c5, Nat.add_sub_cancel]
  simp only [u3_eq, urow_eq] at hh ⊢
  by_cases e1 : t = 1 ∧ i = 9 ∧ j = 0
  · obtain ⟨rfl, rfl, rfl⟩ := e1
    simp [h9]
  · rw [if_neg e1] at hh ⊢
    by_cases e2 : t = 1 ∧ i = 5 ∧ j = 0
    · rw [if_pos e2, if_pos e2]
    · rw [if_neg e2, if_neg e2]
      by_cases e3 : t = 5 ∧ i = N
      · rw [if_pos e3, if_pos e3]
      · rw [if_neg e3, if_neg e3]
        exact hh
/-- a loose row becomes a cart -/
theorem sA_cart {V V26 : gY} {L k m : Nat} (h9 : V 1 9 0 = nI L) (hL : L < 300) (h : sA (u3 V 1 9 0 (nI (L + 1))) V26) (h7 : V26 7 L 0 = nI (m + 1)) : sA (u3 (urow V 3 k (V26 9 L)) 6 k 0 (nI (m + 1))) (pCart V26 k) ∧ cnt V26 9 = L + 1 := by
  have c9 : cnt V26 9 = L + 1 := by
    show (V26 1 9 0).toNatClampNeg = _
    rw [h 1 9 0 (by decide) (by decide), u3_at, nI_clamp (by omega)]
  refine ⟨fun t i j h77 h99 => ?_, c9⟩
  have hh := h t i j h77 h99
  unfold pCart
  rw [c9, Nat.add_sub_cancel]
  simp only [u3_eq, urow_eq] at hh ⊢
  by_cases e1 : t = 1 ∧ i = 9 ∧ j = 0
  · obtain ⟨rfl, rfl, rfl⟩ := e1
    simp [h9]
  · rw [if_neg e1] at hh ⊢
    by_cases e2 : t = 6 ∧ i = k ∧ j = 0
    · rw [if_pos e2, if_pos e2, h7]
    · rw [if_neg e2, if_neg e2]
      by_cases e3 : t = 3 ∧ i = k
      · rw [if_pos e3, if_pos e3]
      · rw [if_neg e3, if_neg e3]
        exact hh
theorem zs_l1 {k q : Nat} : ∀ (n i : Nat) (I : gI), 1 ≤ i → ok_f_S_work_l1 k q n i I ∧ (∀ y, y ≠ 5 → f_S_work_l1 k q n i I y = I y) ∧ (∀ t i' j, t ≠ 9 → f_S_work_l1 k q n i I 5 t i' j = I 5 t i' j) ∧ ∀ j, f_S_work_l1 k q n i I 5 9 q j = if i ≤ j ∧ j < i + n then I 5 3 k (j - 1) else I 5 9 q j := by
  intro n
  induction n with
  | zero =>
    intro i I _
    refine ⟨trivial, fun _ _ => rfl, fun _ _ _ _ => rfl, fun j => ?_⟩
    rw [if_neg (by omega)]
    rfl
  | succ n ih =>
    intro i I hi
    obtain ⟨a1, a2, a3, a4⟩ := ih (i + 1) (gU I 5 9 q i (I 5 3 k (i - 1))) (by omega)
    refine ⟨?_, fun y hy => ?_, fun t i' j ht => ?_, fun j => ?_⟩
    · unfold ok_f_S_work_l1
      rintro _ rfl
      exact a1
    · simp only [f_S_work_l1]
      rw [a2 y hy, gU_ne _ _ _ _ _ hy]
    · simp only [f_S_work_l1]
      rw [a3 t i' j ht, gU_at, u3_eq, if_neg (by omega)]
    · simp only [f_S_work_l1]
      rw [a4 j]
      simp only [gU_at, u3_eq]
      by_cases e : i + 1 ≤ j ∧ j < i + 1 + n
      · rw [if_pos e, if_neg (by omega), if_pos (by omega)]
      · rw [if_neg e]
        by_cases e2 : j = i
        · subst e2
          rw [if_pos (by simp), if_pos (by omega)]
        · rw [if_neg (by omega), if_neg (by omega)]
/-- the first who sleeps wakes -/
theorem zs_l2 {L n lo k z : Nat} {x a : Int32} (hn : n ≤ 6) : ∀ (m m' i : Nat) (I J : gI), i + m = n → i + m' = 6 → (∀ j, n ≤ j → j < 6 → J z 25 0 j ≠ 3) → sR L n lo (I 5) (J 2) (J z) →
    ok_f_S_work_l2 k m i I ∧ ((f_S_work_l2 k m i I = nI n ∧ f_X5_forkIt_l1 z x a m' i J = J) ∨ ∃ d, d < n ∧ f_S_work_l2 k m i I = nI d ∧ f_X5_forkIt_l1 z x a m' i J = gU J z 25 0 d 0) := by
  intro m
  induction m with
  | zero =>
    intro m' i I J hi hm' hs h
    obtain rfl : i = n := by omega
    exact ⟨trivial, Or.inl ⟨rfl, (zT_wake0 (z := z) (x := x) (a := a) (J := J) m' i (fun j h1 h2 => hs j h1 (by omega))).2⟩⟩
  | succ m ih =>
    intro m' i I J hi hm' hs h
    obtain ⟨m', rfl⟩ : ∃ q, m' = q + 1 := ⟨m' - 1, by omega⟩
    have e := (h.k3 i (by omega)).2.2.1
    by_cases c : J z 25 0 i = 3
    · have c' : I 5 2 i 2 = 3 := e.trans c
      refine ⟨⟨fun _ => trivial, fun q => absurd c' q⟩, Or.inr ⟨i, by omega, ?_, ?_⟩⟩
      · simp only [f_S_work_l2]
        rw [if_pos c']
      · simp only [f_X5_forkIt_l1]
        rw [if_pos c]
    · have c' : ¬ I 5 2 i 2 = 3 := fun q => c (e.symm.trans q)
      obtain ⟨a1, a2⟩ := ih m' (i + 1) I J (by omega) (by omega) hs h
      refine ⟨⟨fun q => absurd q c', fun _ => a1⟩, ?_⟩
      simp only [f_S_work_l2, f_X5_forkIt_l1]
      rw [if_neg c', if_neg c]
      exact a2
set_option maxHeartbeats 1000000 in
theorem zr_fork {J : gI} {z k q N m b j0 : Nat} (hz : z ≠ 2) (hk6 : k < 6) (s40 : J z 40 0 q = nI b) (s42 : J z 42 0 q = nI j0) (s31 : J z 31 0 k = nI m) (s19 : J z 20 0 19 = nI N) (q3 : q < N) (hN9 : N < 320) (hm : m < 8) (hb9 : b < 1000) (hj9 : j0 < 10) : ∃ J8 : gI, J8 z = (u3 (u3 (u3 (u3 (u3 (urow (u3 (u3 (u3 (u3 (u3 (u3 (u3 (u3 (u3 (u3 (u3 (u3 (u3 (u3 (u3 (u3 (J z) 40 0 N (nI (b / 2))) 41 0 N (nI (b / 2))) 42 0 N (nI j0)) 43 0 N (nI q)) 44 0 N (-1)) 45 0 N 0) 20 0 19 (nI (N + 1))) 40 0 (N + 1) (nI (b - b / 2))) 41 0 (N + 1) (nI (b - b / 2))) 42 0 (N + 1) (nI j0)) 43 0 (N + 1) (nI q)) 44 0 (N + 1) (-1)) 45 0 (N + 1) 0) 20 0 19 (nI (N + 2))) 44 0 N (nI (N + 1))) 44 0 (N + 1) (nI N)) 32 0 (va_cpy (J z 32 0) (J z 32 0) (8 * k) (8 * k + 1) m)) 32 0 (8 * k) (nI (N + 1))) 31 0 k (nI (m + 1))) 26 0 k (nI N)) 36 0 j0 (J z 36 0 j0 + 2)) 20 0 2 (J z 20 0 2 + 1)) ∧ J8 2 = J 2 ∧ f_X5_forkIt J z (nI k) (nI q) = f_X5_forkIt_l1 z (nI k) (nI q) 6 0 J8 ∧ (ok_f_X5_forkIt_l1 z (nI k) (nI q) 6 0 J8 → ok_X5_forkIt J z (nI k) (nI q)) := by
  have cq : (nI q).toNatClampNeg = q := nI_clamp (by omega)
  have ck : (nI k).toNatClampNeg = k := nI_clamp (by omega)
  have cN : (nI N).toNatClampNeg = N := nI_clamp (by omega)
  have cN1 : (nI (N + 1)).toNatClampNeg = N + 1 := nI_clamp (by omega)
  have cl : (nI j0).toNatClampNeg = j0 := nI_clamp (by omega)
  have nq : q ≠ N := by omega
  have nq1 : q ≠ N + 1 := by omega
  obtain ⟨p1, p2, p3⟩ := zr_add (J := J) (z := z) (N := N) (nI (b / 2)) (nI j0) (nI q) s19 (by omega)
  obtain ⟨J1, hJ1⟩ : ∃ J1, J1 = f_X5_add_s J z (nI (b / 2)) (nI j0) (nI q) := ⟨_, rfl⟩
  have J1z : J1 z = u3 (u3 (u3 (u3 (u3 (u3 (u3 (J z) 40 0 N (nI (b / 2))) 41 0 N (nI (b / 2))) 42 0 N (nI j0)) 43 0 N (nI q)) 44 0 N (-1)) 45 0 N 0) 20 0 19 (nI (N + 1)) := by rw [hJ1, p1]; simp only [gU_at]
  have J119 : J1 z 20 0 19 = nI (N + 1) := by rw [J1z, u3_at]
  have J140 : J1 z 40 0 q = nI b := by rw [J1z]; simp (disch := decide) only [u3_skip, u3_skipj _ _ nq, s40]
  have J142 : J1 z 42 0 q = nI j0 := by rw [J1z]; simp (disch := decide) only [u3_skip, u3_skipj _ _ nq, s42]
  obtain ⟨r1, r2, r3⟩ := zr_add (J := J1) (z := z) (N := N + 1) (nI (b - b / 2)) (nI j0) (nI q) J119 (by omega)
  obtain ⟨J2, hJ2⟩ : ∃ J2, J2 = f_X5_add_s J1 z (nI (b - b / 2)) (nI j0) (nI q) := ⟨_, rfl⟩
  have J2z : J2 z = u3 (u3 (u3 (u3 (u3 (u3 (u3 (J1 z) 40 0 (N + 1) (nI (b - b / 2))) 41 0 (N + 1) (nI (b - b / 2))) 42 0 (N + 1) (nI j0)) 43 0 (N + 1) (nI q)) 44 0 (N + 1) (-1)) 45 0 (N + 1) 0) 20 0 19 (nI (N + 2)) := by rw [hJ2, r1]; simp only [gU_at]
  obtain ⟨J4, hJ4⟩ : ∃ J4, J4 = gU (gU J2 z 44 0 N (nI (N + 1))) z 44 0 (N + 1) (nI N) := ⟨_, rfl⟩
  have J4z : J4 z = u3 (u3 (J2 z) 44 0 N (nI (N + 1))) 44 0 (N + 1) (nI N) := by rw [hJ4]; simp only [gU_at]
  have J431 : J4 z 31 0 k = nI m := by rw [J4z, J2z, J1z]; simp (disch := decide) only [u3_skip, s31]
  have J432 : J4 z 32 = J z 32 := by rw [J4z, J2z, J1z]; simp (disch := decide) only [u3_skip]
  obtain ⟨t1, t2⟩ := zr_putNear (J := J4) (z := z) (k := k) (m := m) (nI (N + 1)) hk6 J431 hm
  rw [J432] at t1
  obtain ⟨J6, hJ6⟩ : ∃ J6, J6 = gU (f_X5_putNear J4 z (nI k) (nI (N + 1))) z 26 0 k (nI N) := ⟨_, rfl⟩
  have J6z : J6 z = u3 (u3 (u3 (urow (J4 z) 32 0 (va_cpy (J z 32 0) (J z 32 0) (8 * k) (8 * k + 1) m)) 32 0 (8 * k) (nI (N + 1))) 31 0 k (nI (m + 1))) 26 0 k (nI N) := by rw [hJ6, t1]; simp only [gU_at, gR_at]
  have J642 : J6 z 42 0 q = nI j0 := by rw [J6z, J4z, J2z, J1z]; simp (disch := decide) only [u3_skip, urow_skip, u3_skipj _ _ nq, u3_skipj _ _ nq1, s42]
  have J636 : J6 z 36 = J z 36 := by rw [J6z, J4z, J2z, J1z]; simp (disch := decide) only [u3_skip, urow_skip]
  have J6202 : J6 z 20 0 2 = J z 20 0 2 := by rw [J6z, J4z, J2z, J1z]; simp (disch := decide) only [u3_skip, urow_skip, u3_skipj]
  refine ⟨gU (gU J6 z 36 0 j0 (J z 36 0 j0 + 2)) z 20 0 2 (J z 20 0 2 + 1), ?_, ?_, ?_, ?_⟩
  · simp only [gU_at]
    rw [J6z, J4z, J2z, J1z]
  · simp only [gU_ne _ _ _ _ _ (Ne.symm hz)]
    rw [hJ6]
    simp only [gU_ne _ _ _ _ _ (Ne.symm hz)]
    rw [t1]
    simp only [gU_ne _ _ _ _ _ (Ne.symm hz), gR_ne _ _ _ _ (Ne.symm hz)]
    rw [hJ4]
    simp only [gU_ne _ _ _ _ _ (Ne.symm hz)]
    rw [hJ2, r1]
    simp only [gU_ne _ _ _ _ _ (Ne.symm hz)]
    rw [hJ1, p1]
    simp only [gU_ne _ _ _ _ _ (Ne.symm hz)]
  · simp only [f_X5_forkIt, cq, ck, s40, s42, zc_half (show b < 2 ^ 31 by omega), ← hJ1, p2, J140, J142, pk_sub (show b / 2 ≤ b by omega), ← hJ2, r2, cN, cN1, ← hJ4, ← hJ6, J642, cl, J636]
    simp (disch := decide) only [gU_at, u3_skip, J636, J6202]
  · intro hw'
    unfold ok_X5_forkIt
    simp only [cq, s40, s42, zc_half (show b < 2 ^ 31 by omega)]
    refine ⟨vp_in_nI (by omega) (by decide), p3, ?_⟩
    rintro _ rfl
    simp only [← hJ1, p2, J140, J142, zc_half (show b < 2 ^ 31 by omega), pk_sub (show b / 2 ≤ b by omega)]
    refine ⟨r3, ?_⟩
    rintro _ rfl
    refine ⟨vp_in_nI (by omega) (by decide), ?_⟩
    rintro _ rfl
    simp only [r2, ← hJ2]
    refine ⟨vp_in_nI (by omega) (by decide), ?_⟩
    rintro _ rfl
    simp only [cN, cN1, ← hJ4]
    refine ⟨t2, ?_⟩
    rintro _ rfl
    refine ⟨vp_in_nI hk6 (by decide), ?_⟩
    rintro _ rfl
    simp only [ck, ← hJ6, J642, cl]
    refine ⟨vp_in_nI (by omega) (by decide), ?_⟩
    rintro _ rfl
    rintro _ rfl
    simp (disch := decide) only [gU_at, u3_skip, J636, J6202]
    exact hw'
set_option maxHeartbeats 2000000 in
theorem zs_fork {L n lo k q z N m b j0 : Nat} {I J : gI} (h : sR L n lo (I 5) (J 2) (J z)) (hz : z ≠ 2) (hk : k < n) (hn : n ≤ 6) (hlo : lo < 1000) (hL : L < 300) (h1 : J z 25 0 k = 1) (h26 : J z 26 0 k = nI q) (hs3 : ∀ j, n ≤ j → j < 6 → J z 25 0 j ≠ 3) (s40 : J z 40 0 q = nI b) (s41 : J z 41 0 q = nI b) (s42 : J z 42 0 q = nI j0) (s31 : J z 31 0 k = nI m) (s19 : J z 20 0 19 = nI N) (q3 : q < N) (hN9 : N < 319) (hm : m < 8) (hb9 : b < 1000) (hj9 : j0 < 10) (h8 : ∀ i, i < n → (J z 31 0 i).toNatClampNeg ≤ 8) (hf : ¬ I 5 5 q 0 ≤ I 5 0 0 1) :
    ok_S_work I k ∧ sR L n lo (f_S_work I k 5) (J 2) (f_X5_forkIt J z (nI k) (nI q) z) := by
  have hNc : (J z 20 0 19).toNatClampNeg = N := by rw [s19, nI_clamp (by omega)]
  have c := h.c (by omega) (by omega) (by omega)
  have c2 : cnt (I 5) 2 = n := c.1
  have c5 : cnt (I 5) 5 = N := c.2.2.2.1.trans hNc
  have c9 : cnt (I 5) 9 = L := c.2.2.2.2
  have v := h.k7 q (by omega)
  have w := h.k3 k hk
  have v3 : I 5 2 k 3 = nI q := by rw [h.k4 k hk (Or.inl h1), h26]
  have hqx : (I 5 2 k 3).toNatClampNeg = q := by rw [v3, nI_clamp (by omega)]
  have v0 : I 5 5 q 0 = nI b := by rw [v.1, s40]
  have v1 : I 5 5 q 1 = nI b := by rw [v.2.1, s41]
  have v2 : I 5 5 q 2 = nI j0 := by rw [v.2.2.1, s42]
  have v6 : I 5 6 k 0 = nI m := by rw [w.2.2.2.2.2.2.2, s31]
  have v9 : I 5 1 9 0 = nI L := h.k1.2.2.2.2
  have hrl : rln (I 5) 3 k = m := by
    show (I 5 6 k 0).toNatClampNeg = m
    rw [v6, nI_clamp (by omega)]
  obtain ⟨q4, hq4⟩ : ∃ z, z = cnt (I 5) 9 := ⟨_, rfl⟩
  obtain ⟨I7, hI7⟩ : ∃ z, z = gset I 5 (pLoose (I 5) 6 (fun _ => 0)) := ⟨_, rfl⟩
  obtain ⟨I8, hI8⟩ : ∃ z, z = gU I7 5 9 q4 0 ((I7 5 5 q 0) / 2) := ⟨_, rfl⟩
  obtain ⟨I9, hI9⟩ : ∃ z, z = gU I8 5 9 q4 1 ((I8 5 5 q 0) / 2) := ⟨_, rfl⟩
  obtain ⟨I10, hI10⟩ : ∃ z, z = gU I9 5 9 q4 2 (I9 5 5 q 2) := ⟨_, rfl⟩
  obtain ⟨I11, hI11⟩ : ∃ z, z = gU I10 5 9 q4 3 (I10 5 2 k 3) := ⟨_, rfl⟩
  obtain ⟨I12, hI12⟩ : ∃ z, z = gU I11 5 9 q4 4 (nI ((cnt (I 5) 5) + 1)) := ⟨_, rfl⟩
  obtain ⟨I13, hI13⟩ : ∃ z, z = gU I12 5 9 q4 5 0 := ⟨_, rfl⟩
  obtain ⟨I14, hI14⟩ : ∃ z, z = gset I13 5 (pMore (I13 5) 5) := ⟨_, rfl⟩
  have hq4 : q4 = L := hq4.trans c9
  have l5 : ∀ i j, pLoose (I 5) 6 (fun _ => 0) 5 i j = I 5 5 i j := fun i j => loose_at (by decide) (by decide) (by omega) j
  have l2 : ∀ i j, pLoose (I 5) 6 (fun _ => 0) 2 i j = I 5 2 i j := fun i j => loose_at (by decide) (by decide) (by omega) j
  have e13 : I13 5 = u3 (u3 (u3 (u3 (u3 (u3 (pLoose (I 5) 6 (fun _ => 0)) 9 q4 0 (nI (b / 2))) 9 q4 1 (nI (b / 2))) 9 q4 2 (nI j0)) 9 q4 3 (nI q)) 9 q4 4 (nI (N + 1))) 9 q4 5 0 := by
    simp (disch := decide) only [hI13, hI12, hI11, hI10, hI9, hI8, hI7, gU_at, gset_at, u3_skip, l5, l2, v0, v2, v3, c5, zc_half (show b < 2 ^ 31 by omega)]
  have A13 : sA (u3 (I 5) 1 9 0 (nI (L + 1))) (I13 5) := by
    rw [e13, ← c9]
    exact sA_9 (sA_9 (sA_9 (sA_9 (sA_9 (sA_9 sA_loose)))))
  obtain ⟨A14, c13, c135⟩ := sA_heap v9 hL c5 A13
  have e14 : I14 5 = pMore (I13 5) 5 := by rw [hI14, gset_at]
  rw [← e14] at A14
  have r1 : ∀ j, I13 5 9 L j = (if j = 5 then 0 else if j = 4 then nI (N + 1) else if j = 3 then nI q else if j = 2 then nI j0 else if j = 1 then nI (b / 2) else if j = 0 then nI (b / 2) else pLoose (I 5) 6 (fun _ => 0) 9 L j) := fun j => by
    rw [e13, hq4]
    simp only [u3_eq, true_and]
  have w5 : I14 5 5 q 0 = nI b := by rw [A14 5 q 0 (by decide) (by decide), u3_eq, if_neg (by omega), urow_eq, if_neg (by omega), v0]
  have w52 : I14 5 5 q 2 = nI j0 := by rw [A14 5 q 2 (by decide) (by decide), u3_eq, if_neg (by omega), urow_eq, if_neg (by omega), v2]
  have w2 : I14 5 2 k 3 = nI q := by rw [A14 2 k 3 (by decide) (by decide), u3_eq, if_neg (by omega), urow_eq, if_neg (by omega), v3]
  have w9 : I14 5 1 9 0 = nI L := by rw [A14 1 9 0 (by decide) (by decide), u3_eq, if_neg (by omega), urow_eq, if_neg (by omega), v9]
  have d9 : cnt (I14 5) 9 = L := by
    show (I14 5 1 9 0).toNatClampNeg = L
    rw [w9, nI_clamp (by omega)]
  have d5 : cnt (I14 5) 5 = N + 1 := by
    show (I14 5 1 5 0).toNatClampNeg = _
    rw [A14 1 5 0 (by decide) (by decide), u3_at, nI_clamp (by omega)]
  obtain ⟨q6, hq6⟩ : ∃ z, z = cnt (I14 5) 9 := ⟨_, rfl⟩
  obtain ⟨I15, hI15⟩ : ∃ z, z = gset I14 5 (pLoose (I14 5) 6 (fun _ => 0)) := ⟨_, rfl⟩
  obtain ⟨I16, hI16⟩ : ∃ z, z = gU I15 5 9 q6 0 ((I15 5 5 q 0) - ((I15 5 5 q 0) / 2)) := ⟨_, rfl⟩
  obtain ⟨I17, hI17⟩ : ∃ z, z = gU I16 5 9 q6 1 ((I16 5 5 q 0) - ((I16 5 5 q 0) / 2)) := ⟨_, rfl⟩
  obtain ⟨I18, hI18⟩ : ∃ z, z = gU I17 5 9 q6 2 (I17 5 5 q 2) := ⟨_, rfl⟩
  obtain ⟨I19, hI19⟩ : ∃ z, z = gU I18 5 9 q6 3 (I18 5 2 k 3) := ⟨_, rfl⟩
  obtain ⟨I20, hI20⟩ : ∃ z, z = gU I19 5 9 q6 4 (nI (cnt (I 5) 5)) := ⟨_, rfl⟩
  obtain ⟨I21, hI21⟩ : ∃ z, z = gU I20 5 9 q6 5 0 := ⟨_, rfl⟩
  obtain ⟨I22, hI22⟩ : ∃ z, z = gset I21 5 (pMore (I21 5) 5) := ⟨_, rfl⟩
  have hq6 : q6 = L := hq6.trans d9
  have m5 : ∀ i j, pLoose (I14 5) 6 (fun _ => 0) 5 i j = I14 5 5 i j := fun i j => loose_at (by decide) (by decide) (by omega) j
  have m2 : ∀ i j, pLoose (I14 5) 6 (fun _ => 0) 2 i j = I14 5 2 i j := fun i j => loose_at (by decide) (by decide) (by omega) j
  have e21 : I21 5 = u3 (u3 (u3 (u3 (u3 (u3 (pLoose (I14 5) 6 (fun _ => 0)) 9 q6 0 (nI (b - b / 2))) 9 q6 1 (nI (b - b / 2))) 9 q6 2 (nI j0)) 9 q6 3 (nI q)) 9 q6 4 (nI N)) 9 q6 5 0 := by
    simp (disch := decide) only [hI21, hI20, hI19, hI18, hI17, hI16, hI15, gU_at, gset_at, u3_skip, m5, m2, w5, w52, w2, c5, zc_half (show b < 2 ^ 31 by omega), pk_sub (show b / 2 ≤ b by omega)]
  have A21 : sA (u3 (I14 5) 1 9 0 (nI (L + 1))) (I21 5) := by
    rw [e21, ← d9]
    exact sA_9 (sA_9 (sA_9 (sA_9 (sA_9 (sA_9 sA_loose)))))
  obtain ⟨A22, c21, c215⟩ := sA_heap w9 hL d5 A21
  have e22 : I22 5 = pMore (I21 5) 5 := by rw [hI22, gset_at]
  rw [← e22] at A22
  have r2 : ∀ j, I21 5 9 L j = (if j = 5 then 0 else if j = 4 then nI N else if j = 3 then nI q else if j = 2 then nI j0 else if j = 1 then nI (b - b / 2) else if j = 0 then nI (b - b / 2) else pLoose (I14 5) 6 (fun _ => 0) 9 L j) := fun j => by
    rw [e21, hq6]
    simp only [u3_eq, true_and]
  have x9 : I22 5 1 9 0 = nI L := by rw [A22 1 9 0 (by decide) (by decide), u3_eq, if_neg (by omega), urow_eq, if_neg (by omega), w9]
  have x6 : I22 5 6 k 0 = nI m := by rw [A22 6 k 0 (by decide) (by decide), u3_eq, if_neg (by omega), urow_eq, if_neg (by omega), A14 6 k 0 (by decide) (by decide), u3_eq, if_neg (by omega), urow_eq, if_neg (by omega), v6]
  have x3 : ∀ p, I22 5 3 k p = I 5 3 k p := fun p => by rw [A22 3 k p (by decide) (by decide), u3_eq, if_neg (by omega), urow_eq, if_neg (by omega), A14 3 k p (by decide) (by decide), u3_eq, if_neg (by omega), urow_eq, if_neg (by omega)]
  have f9 : cnt (I22 5) 9 = L := by
    show (I22 5 1 9 0).toNatClampNeg = L
    rw [x9, nI_clamp (by omega)]
  have hrl2 : rln (I22 5) 3 k = m := by
    show (I22 5 6 k 0).toNatClampNeg = m
    rw [x6, nI_clamp (by omega)]
  obtain ⟨q8, hq8⟩ : ∃ z, z = cnt (I22 5) 9 := ⟨_, rfl⟩
  obtain ⟨I23, hI23⟩ : ∃ z, z = gset I22 5 (pLoose (I22 5) ((rln (I22 5) 3 k) + 1) (fun _ => 0)) := ⟨_, rfl⟩
  obtain ⟨I24, hI24⟩ : ∃ z, z = gU I23 5 9 q8 0 (nI ((cnt (I 5) 5) + 1)) := ⟨_, rfl⟩
  have hq8 : q8 = L := hq8.trans f9
  obtain ⟨o1, o2, o3, o4⟩ := zs_l1 (k := k) (q := q8) (rln (I22 5) 3 k + 1 - 1) 1 I24 (by omega)
  obtain ⟨I26, hI26⟩ : ∃ z, z = (f_S_work_l1 k q8 (((rln (I22 5) 3 k) + 1) - 1) 1 I24) := ⟨_, rfl⟩
  obtain ⟨I28, hI28⟩ : ∃ z, z = gset I26 5 (pCart (I26 5) k) := ⟨_, rfl⟩
  obtain ⟨I29, hI29⟩ : ∃ z, z = gU I28 5 2 k 3 (nI (cnt (I 5) 5)) := ⟨_, rfl⟩
  obtain ⟨I30, hI30⟩ : ∃ z, z = gU I29 5 0 0 7 ((I29 5 0 0 7) + 1) := ⟨_, rfl⟩
  obtain ⟨d31, hd31⟩ : ∃ z, z = (f_S_work_l2 k (cnt (I28 5) 2) 0 I30) := ⟨_, rfl⟩
  rw [← hI26] at o2 o3 o4
  have e24 : I24 5 = u3 (pLoose (I22 5) (m + 1) (fun _ => 0)) 9 q8 0 (nI (N + 1)) := by
    rw [hI24, hI23, hrl2, c5, gU_at, gset_at]
  have A26 : sA (u3 (I22 5) 1 9 0 (nI (L + 1))) (I26 5) := fun t i j h7 h9 => by
    rw [o3 t i j h9, e24, ← f9]
    exact sA_9 sA_loose t i j h7 h9
  have y7 : I26 5 7 L 0 = nI (m + 1) := by
    rw [o3 7 L 0 (by decide), e24, u3_eq, if_neg (by omega)]
    unfold pLoose
    rw [f9, u3_eq, if_neg (by omega), u3_at]
  obtain ⟨A28, c26⟩ := sA_cart (k := k) x9 hL A26 y7
  have e28 : I28 5 = pCart (I26 5) k := by rw [hI28, gset_at]
  rw [← e28] at A28
  have rc : ∀ j, j < m + 1 → I26 5 9 L j = if j = 0 then nI (N + 1) else I 5 3 k (j - 1) := fun j hj => by
    rw [← hq8, o4 j, hrl2, e24]
    by_cases e : j = 0
    · subst e
      rw [if_neg (by omega), if_pos rfl, u3_at]
    · rw [if_pos (by omega), if_neg e, u3_skip _ _ _ _ (by decide), loose_at (by decide) (by decide) (by omega), x3]
  -- the whole
  have AA : sA (u3 (u3 (urow (u3 (urow (u3 (urow (I 5) 5 N (I13 5 9 L)) 1 5 0 (nI (N + 1))) 5 (N + 1) (I21 5 9 L)) 1 5 0 (nI (N + 2))) 3 k (I26 5 9 L)) 6 k 0 (nI (m + 1))) 2 k 3 (nI N)) (I29 5) := by
    rw [hI29, gU_at, c5]
    refine sA_u3 (sA.tr ?_ A28)
    exact sA_u3 (sA_urow (sA.tr (sA_u3 (sA_urow A14)) A22))
  have z7 : I29 5 0 0 7 = I 5 0 0 7 := by
    rw [AA 0 0 7 (by decide) (by decide)]
    simp [u3_eq, urow_eq]
  have A30 : sA (u3 (u3 (u3 (urow (u3 (urow (u3 (urow (I 5) 5 N (I13 5 9 L)) 1 5 0 (nI (N + 1))) 5 (N + 1) (I21 5 9 L)) 1 5 0 (nI (N + 2))) 3 k (I26 5 9 L)) 6 k 0 (nI (m + 1))) 2 k 3 (nI N)) 0 0 7 (I 5 0 0 7 + 1)) (I30 5) := by
    rw [hI30, gU_at, z7]
    exact sA_u3 AA
  obtain ⟨J8, hJ8, hJ82, hmo, -⟩ := zr_fork (J := J) (z := z) (k := k) (q := q) (N := N) (m := m) (b := b) (j0 := j0) hz (by omega) s40 s42 s31 s19 q3 (by omega) hm hb9 hj9
  have FK := sR_FK (k := k) (q := q) (m := m) (N := N) (b := b) (j0 := j0) (x0 := J z 36 0 j0 + 2) (r1 := I13 5 9 L) (r2 := I21 5 9 L) (rc := I26 5 9 L) h hk s31 hm h8 s19 (by omega) (by omega) (r1 0) (r1 1) (r1 2) (r1 3) (r1 4) (r1 5) (r2 0) (r2 1) (r2 2) (r2 3) (r2 4) (r2 5) (rc 0 (by omega)) (fun p hp => by rw [rc (p + 1) (by omega), if_neg (by omega), Nat.add_sub_cancel])
  have F := FK.al A30
  rw [← hJ8, ← hJ82] at F
  have g2 : cnt (I28 5) 2 = n := by
    show (I28 5 1 2 0).toNatClampNeg = n
    rw [A28 1 2 0 (by decide) (by decide), u3_eq, if_neg (by omega), urow_eq, if_neg (by omega), A22 1 2 0 (by decide) (by decide), u3_eq, if_neg (by omega), urow_eq, if_neg (by omega), A14 1 2 0 (by decide) (by decide), u3_eq, if_neg (by omega), urow_eq, if_neg (by omega)]
    exact c2
  have hs8 : ∀ j, n ≤ j → j < 6 → J8 z 25 0 j ≠ 3 := fun j a1 a2 => by
    rw [hJ8]
    simp (disch := decide) only [u3_skip, urow_skip]
    exact hs3 j a1 a2
  obtain ⟨p1, p2⟩ := zs_l2 (k := k) (x := nI k) (a := nI q) hn n 6 0 I30 J8 (by omega) (by omega) hs8 F
  rw [← g2] at p1 p2
  rw [← hd31] at p2
  have hb8 : ¬ (8 : Int32) ≤ nI (rln (I 5) 3 k) := by rw [hrl]; exact nI_ge (b := 8) hm (by decide)
  have hbb : I 5 5 q 0 = I 5 5 q 1 := by rw [v0, v1]
  refine ⟨?_, ?_⟩
  · unfold ok_S_work
    simp only [hqx]
    refine ⟨by rw [c5, v3]; exact vp_in_nI q3 (by omega), fun _ => ⟨fun p => absurd p hf, fun _ => ⟨fun p => absurd p hb8, fun _ => ?_⟩⟩, fun p => absurd hbb p⟩
    refine ⟨by rw [c9]; omega, ?_⟩
    intro z9 hz9
    obtain rfl : q4 = z9 := by rw [hz9, c9, hq4]
    intro z9 hz9
    obtain rfl : I7 = z9 := hI7.trans hz9.symm
    intro z9 hz9
    obtain rfl : I8 = z9 := hI8.trans hz9.symm
    intro z9 hz9
    obtain rfl : I9 = z9 := hI9.trans hz9.symm
    intro z9 hz9
    obtain rfl : I10 = z9 := hI10.trans hz9.symm
    intro z9 hz9
    obtain rfl : I11 = z9 := hI11.trans hz9.symm
    intro z9 hz9
    obtain rfl : I12 = z9 := hI12.trans hz9.symm
    intro z9 hz9
    obtain rfl : I13 = z9 := hI13.trans hz9.symm
    refine ⟨by rw [hI7, gset_at, cnt_loose (by decide), c5]; omega, ?_⟩
    intro z9 hz9
    obtain rfl : I14 = z9 := hI14.trans hz9.symm
    refine ⟨by rw [d9]; omega, ?_⟩
    intro z9 hz9
    obtain rfl : q6 = z9 := by rw [hz9, d9, hq6]
    intro z9 hz9
    obtain rfl : I15 = z9 := hI15.trans hz9.symm
    intro z9 hz9
    obtain rfl : I16 = z9 := hI16.trans hz9.symm
    intro z9 hz9
    obtain rfl : I17 = z9 := hI17.trans hz9.symm
    intro z9 hz9
    obtain rfl : I18 = z9 := hI18.trans hz9.symm
    intro z9 hz9
    obtain rfl : I19 = z9 := hI19.trans hz9.symm
    intro z9 hz9
    obtain rfl : I20 = z9 := hI20.trans hz9.symm
    intro z9 hz9
    obtain rfl : I21 = z9 := hI21.trans hz9.symm
    refine ⟨by rw [hI15, gset_at, cnt_loose (by decide), d5]; omega, ?_⟩
    intro z9 hz9
    obtain rfl : I22 = z9 := hI22.trans hz9.symm
    refine ⟨by rw [f9]; omega, ?_⟩
    refine ⟨by rw [hrl2]; omega, ?_⟩
    intro z9 hz9
    obtain rfl : q8 = z9 := by rw [hz9, f9, hq8]
    intro z9 hz9
    obtain rfl : I23 = z9 := hI23.trans hz9.symm
    intro z9 hz9
    obtain rfl : I24 = z9 := hI24.trans hz9.symm
    refine ⟨o1, ?_⟩
    intro z9 hz9
    obtain rfl : I26 = z9 := hI26.trans hz9.symm
    intro z9 hz9
    obtain rfl : I28 = z9 := hI28.trans hz9.symm
    intro z9 hz9
    obtain rfl : I29 = z9 := hI29.trans hz9.symm
    intro z9 hz9
    obtain rfl : I30 = z9 := hI30.trans hz9.symm
    refine ⟨by rw [g2] at p1 ⊢; exact p1, ?_⟩
    intro z9 hz9
    obtain rfl : d31 = z9 := hd31.trans hz9.symm
    refine ⟨fun _ => trivial, fun p => ?_⟩
    rcases p2 with ⟨p3, -⟩ | ⟨d, hd, p3, -⟩
    · rw [p3, g2] at p
      exact absurd (nI_le (Nat.le_refl n) (by omega)) p
    · rw [p3, g2]
      exact ⟨vp_in_nI (by omega) (by omega), fun _ _ => trivial⟩
  · have ev : f_S_work I k = if nI (cnt (I28 5) 2) ≤ d31 then I30 else gU I30 5 2 d31.toNatClampNeg 2 0 := by
      simp only [f_S_work, hqx]
      rw [if_pos hbb, if_neg hf, if_neg hb8]
      simp only [show cnt (I 5) 9 = q4 from by rw [c9, hq4], ← hI7, ← hI8, ← hI9, ← hI10, ← hI11, ← hI12, ← hI13, ← hI14, show cnt (I14 5) 9 = q6 from by rw [d9, hq6], ← hI15, ← hI16, ← hI17, ← hI18, ← hI19, ← hI20, ← hI21, ← hI22, show cnt (I22 5) 9 = q8 from by rw [f9, hq8], ← hI23, ← hI24, ← hI26, ← hI28, ← hI29, ← hI30, ← hd31] 
    rw [ev, hmo]
    rcases p2 with ⟨p3, p4⟩ | ⟨d, hd, p3, p4⟩
    · rw [p3, if_pos (by rw [g2]; exact nI_le (Nat.le_refl n) (by omega)), p4, ← hJ82]
      exact F
    · rw [p3, if_neg (nI_ge hd (by rw [g2]; omega)), p4, gU_at, gU_at, nI_clamp (by rw [g2] at hd; omega), ← hJ82]
      exact sR_DZ F (by decide)
