/-! THE TRIAL stands as the yard does -/
def zTr (A : zN) : zN := fun t i j => if t = 0 ∧ i = 0 ∧ j = 3 then A 0 0 0 else if t = 0 ∧ i = 0 ∧ j = 4 then A 0 0 1 else if t = 0 ∧ i = 0 ∧ j = 5 then 1 else if t = 1 ∧ j = 3 then i else A t i j
def zXr (N : Nat) (S S' : gY) : Prop := (∀ j, j < 5 → S' 20 0 j = S 20 0 j) ∧ S' 20 0 19 = S 20 0 19 ∧ (∀ t i, 25 ≤ t → t < 32 → i < 6 → S' t 0 i = S t 0 i) ∧ (∀ i, i < 48 → S' 32 0 i = S 32 0 i) ∧ (∀ t j, 33 ≤ t → t < 39 → j < 10 → S' t 0 j = S t 0 j) ∧ ∀ t h, 40 ≤ t → t < 46 → h < N → S' t 0 h = S t 0 h
theorem zIV_Tr {K : Nat} {A : zN} (hi : zIV K A) : zIV K (zTr A) := by
  have h1 := hi.k1
  have h2 := hi.k2
  refine ⟨?_, ?_, ?_, ?_, ?_, ?_, ?_, ?_, ?_, ?_, ?_, ?_, ?_, ?_, ?_, ?_, ?_, ?_, ?_, ?_, ?_, ?_, ?_, ?_⟩ <;> simp [zTr]
  · omega
  · intro i h
    have := h2 i h
    omega
  · exact hi.k3
  · exact hi.k4
  · exact hi.k7
  · exact hi.k8
  · exact hi.k9
  · exact hi.k10
  · exact hi.k11
  · exact hi.k12
  · exact hi.k13
  · exact hi.k14
  · exact hi.k15
  · exact hi.k16
  · exact hi.k17
  · exact hi.k18
  · exact hi.k19
  · exact hi.k20
  · exact hi.k21
  · exact hi.k22
  · exact hi.k23
  · exact hi.k24
theorem zCL_Tr {K : Nat} {A : zN} {Y0 Y1 Y2 : gY} (h : zCL A Y0) (hi : zIV K A) (x : zXc A Y0 Y1 Y2) : zCL (zTr A) Y2 := by
  have h1 := hi.k1
  obtain ⟨x1, x2, x3, x4, x5, x6⟩ := x
  refine ⟨?_, ?_, ?_, ?_, ?_, ?_, ?_, ?_, ?_, ?_, ?_, ?_, ?_, ?_, ?_, ?_, ?_, ?_, ?_⟩ <;> simp [zTr]
  · rw [x6 4 (by omega) (by omega)]; exact h.k1
  · rw [x6 5 (by omega) (by omega)]; exact h.k2
  · rw [x6 7 (by omega) (by omega)]; exact h.k3
  · exact x3
  · intro i hn
    rw [(x1 i hn).2.1]; exact h.k5 i (by omega)
  · intro i q hn hq
    have := hi.k2 i (by omega)
    rw [(x1 i hn).2.2 q (by omega)]; exact h.k6 i q (by omega) hq
  · intro i hn
    rw [(x1 i hn).1 4 (by omega) (by omega) (by omega)]; exact h.k7 i (by omega)
  · intro i hn
    rw [(x1 i hn).1 5 (by omega) (by omega) (by omega)]; exact h.k8 i (by omega)
  · intro i hn
    rw [(x1 i hn).1 6 (by omega) (by omega) (by omega)]; exact h.k9 i (by omega)
  · intro i hn
    rw [(x1 i hn).1 7 (by omega) (by omega) (by omega)]; exact h.k10 i (by omega)
  · intro i hn
    rw [(x1 i hn).1 2 (by omega) (by omega) (by omega)]; exact h.k11 i (by omega)
  · intro i hn
    rw [(x1 i hn).1 1 (by omega) (by omega) (by omega)]; exact h.k12 i (by omega)
  · intro i hn
    rw [(x1 i hn).1 10 (by omega) (by omega) (by omega)]; exact h.k13 i (by omega)
  · intro j hj
    rw [x2 j 1 hj (by omega)]; exact h.k14 j (by omega)
  · intro j hj
    rw [x2 j 6 hj (by omega)]; exact h.k15 j (by omega)
  · intro j hj
    rw [x2 j 0 hj (by omega)]; exact h.k16 j (by omega)
  · intro q hq
    rw [x4 _ (hi.g320 hq)]; exact h.k17 q hq
  · intro q hq
    rw [x5 _ (hi.g320 hq)]; exact h.k18 q hq
  · intro q hq hn
    rw [x5 _ hq]; exact h.k19 q (Or.inl hq) hn
theorem zRF_Tr {K : Nat} {A : zN} {M S S' : gY} (h : zRF A M S) (hi : zIV K A) (x : zXr (A 0 0 2) S S') : zRF (zTr A) M S' := by
  have h1 := hi.k1
  obtain ⟨x1, x2, x3, x4, x5, x6⟩ := x
  refine ⟨?_, ?_, ?_, ?_, ?_, ?_, ?_, ?_, ?_, ?_, ?_, ?_, ?_, ?_, ?_, ?_, ?_, ?_, ?_, ?_, ?_, ?_⟩ <;> simp [zTr]
  · exact h.k1
  · exact h.k2
  · rw [x2]; exact h.k3
  · intro i hi'
    rw [x3 25 i (by omega) (by omega) hi']; exact h.k4 i hi'
  · intro i hn
    rw [x3 26 i (by omega) (by omega) (by omega)]; exact h.k5 i (by omega)
  · intro i hn
    rw [x3 31 i (by omega) (by omega) (by omega)]; exact h.k6 i (by omega)
  · intro i p hn hp
    have := hi.k2 i (by omega)
    rw [x4 _ (by omega)]; exact h.k7 i p (by omega) hp
  · exact h.k8
  · intro i hn
    exact h.k9 i (by omega)
  · intro i hn
    rw [x3 28 i (by omega) (by omega) (by omega)]; exact h.k10 i (by omega)
  · intro j hj
    rw [x5 38 j (by omega) (by omega) (by omega)]; exact h.k11 j (by omega)
  · intro j hj
    rw [x5 33 j (by omega) (by omega) (by omega)]; exact h.k12 j hj
  · intro j hj
    rw [x5 34 j (by omega) (by omega) (by omega)]; exact h.k13 j hj
  · exact h.k14
  · intro q hq
    rw [x6 40 q (by omega) (by omega) hq]; exact h.k15 q hq
  · intro q hq
    rw [x6 41 q (by omega) (by omega) hq]; exact h.k16 q hq
  · intro q hq
    rw [x6 42 q (by omega) (by omega) hq]; exact h.k17 q hq
  · intro q hq
    rw [x6 45 q (by omega) (by omega) hq]; exact h.k18 q hq
  · intro q hq
    rw [x6 43 q (by omega) (by omega) hq]; exact h.k19 q hq
  · intro q hq hn
    rw [x6 44 q (by omega) (by omega) hq]; exact h.k20 q hq hn
  · rw [x1 1 (by omega)]; exact h.k21
  · rw [x1 4 (by omega)]; exact h.k22
theorem zEQ_Tr {K : Nat} {A : zN} {Y0 Y1 Y2 M S S' : gY} (h : zEQ 6 A Y0 M S) (hi : zIV K A) (x : zXc A Y0 Y1 Y2) (x' : zXr (A 0 0 2) S S') : zEQ 6 (zTr A) Y2 M S' := by
  have h1 := hi.k1
  obtain ⟨x1, x2, x3, x4, x5, x6⟩ := x
  obtain ⟨r1, r2, r3, r4, r5, r6⟩ := x'
  refine ⟨?_, ?_, ?_, ?_, ?_, ?_, ?_, ?_, ?_, ?_, ?_, ?_⟩ <;> (try simp [zTr])
  · rw [x6 6 (by omega) (by omega), r1 0 (by omega)]; exact h.k1
  · rw [x6 8 (by omega) (by omega), r1 2 (by omega)]; exact h.k2
  · rw [x6 9 (by omega) (by omega), r1 3 (by omega)]; exact h.k3
  · intro i hn h6
    rw [(x1 i hn).1 8 (by omega) (by omega) (by omega), r3 27 i (by omega) (by omega) (by omega)]; exact h.k4 i (by omega) h6
  · intro i hn
    rw [(x1 i hn).1 9 (by omega) (by omega) (by omega), r3 30 i (by omega) (by omega) (by omega)]; exact h.k5 i (by omega)
  · intro i hn
    rw [(x1 i hn).1 11 (by omega) (by omega) (by omega), r3 29 i (by omega) (by omega) (by omega)]; exact h.k6 i (by omega)
  · intro j hj
    rw [x2 j 2 hj (by omega)]; exact h.k7 j hj
  · intro j hj
    rw [x2 j 3 hj (by omega), r5 35 j (by omega) (by omega) (by omega)]; exact h.k8 j hj
  · intro j hj
    rw [x2 j 4 hj (by omega), r5 36 j (by omega) (by omega) (by omega)]; exact h.k9 j hj
  · intro j hj
    rw [x2 j 5 hj (by omega), r5 37 j (by omega) (by omega) (by omega)]; exact h.k10 j (by omega)
  · intro j h2 h3
    omega
set_option maxHeartbeats 4000000 in
theorem zr_become {J : gI} {N : Nat} (hN : J 3 20 0 19 = nI N) (h6 : N ≤ 320) : zXr N (J 3) (f_X5_become_s J 4 3 4) ∧ ok_X5_become J 4 3 := by
  have cN : (nI N).toNatClampNeg = N := nI_clamp (by omega)
  have k6 : (6 : Int32).toNatClampNeg = 6 := by decide
  have k10 : (10 : Int32).toNatClampNeg = 10 := by decide
  have k48 : (48 : Int32).toNatClampNeg = 48 := by decide
  refine ⟨?_, ?_⟩
  · have e : f_X5_become_s J 4 3 4 = urow (urow (urow (urow (urow (urow (urow (urow (urow (urow (urow (urow (urow (urow (urow (urow (urow (urow (urow (urow (u3 (u3 (u3 (u3 (u3 (u3 (J 4) 20 0 0 (J 3 20 0 0)) 20 0 1 (J 3 20 0 1)) 20 0 2 (J 3 20 0 2)) 20 0 3 (J 3 20 0 3)) 20 0 4 (J 3 20 0 4)) 20 0 19 (nI N)) 25 0 (va_cpy (J 3 25 0) (J 4 25 0) 0 0 6)) 26 0 (va_cpy (J 3 26 0) (J 4 26 0) 0 0 6)) 27 0 (va_cpy (J 3 27 0) (J 4 27 0) 0 0 6)) 28 0 (va_cpy (J 3 28 0) (J 4 28 0) 0 0 6)) 29 0 (va_cpy (J 3 29 0) (J 4 29 0) 0 0 6)) 30 0 (va_cpy (J 3 30 0) (J 4 30 0) 0 0 6)) 31 0 (va_cpy (J 3 31 0) (J 4 31 0) 0 0 6)) 32 0 (va_cpy (J 3 32 0) (J 4 32 0) 0 0 48)) 33 0 (va_cpy (J 3 33 0) (J 4 33 0) 0 0 10)) 34 0 (va_cpy (J 3 34 0) (J 4 34 0) 0 0 10)) 35 0 (va_cpy (J 3 35 0) (J 4 35 0) 0 0 10)) 36 0 (va_cpy (J 3 36 0) (J 4 36 0) 0 0 10)) 37 0 (va_cpy (J 3 37 0) (J 4 37 0) 0 0 10)) 38 0 (va_cpy (J 3 38 0) (J 4 38 0) 0 0 10)) 40 0 (va_cpy (J 3 40 0) (J 4 40 0) 0 0 N)) 41 0 (va_cpy (J 3 41 0) (J 4 41 0) 0 0 N)) 42 0 (va_cpy (J 3 42 0) (J 4 42 0) 0 0 N)) 43 0 (va_cpy (J 3 43 0) (J 4 43 0) 0 0 N)) 44 0 (va_cpy (J 3 44 0) (J 4 44 0) 0 0 N)) 45 0 (va_cpy (J 3 45 0) (J 4 45 0) 0 0 N) := by
      simp (disch := decide) only [f_X5_become_s, f_X5_copy, gU_at, gR_at, gU_ne, gR_ne, u3_skip, urow_skip, u3_at, hN, cN, k6, k10, k48]
    rw [e]
    refine ⟨fun j hj => ?_, ?_, fun t i h1 h2 h3 => ?_, fun i h => ?_, fun t j h1 h2 h3 => ?_, fun t q h1 h2 h3 => ?_⟩
    · rcases (show j = 0 ∨ j = 1 ∨ j = 2 ∨ j = 3 ∨ j = 4 by omega) with rfl | rfl | rfl | rfl | rfl <;> simp [u3, urow]
    · simp [u3, urow, hN]
    · rcases (show t = 25 ∨ t = 26 ∨ t = 27 ∨ t = 28 ∨ t = 29 ∨ t = 30 ∨ t = 31 by omega) with rfl | rfl | rfl | rfl | rfl | rfl | rfl <;> simp [urow, va_cpy, h3]
    · simp [urow, va_cpy, h]
    · rcases (show t = 33 ∨ t = 34 ∨ t = 35 ∨ t = 36 ∨ t = 37 ∨ t = 38 by omega) with rfl | rfl | rfl | rfl | rfl | rfl <;> simp [urow, va_cpy, h3]
    · rcases (show t = 40 ∨ t = 41 ∨ t = 42 ∨ t = 43 ∨ t = 44 ∨ t = 45 by omega) with rfl | rfl | rfl | rfl | rfl | rfl <;> simp [urow, va_cpy, h3]
  · unfold ok_X5_become
    rintro _ rfl _ rfl _ rfl _ rfl _ rfl _ rfl _ rfl _ rfl _ rfl _ rfl _ rfl _ rfl _ rfl _ rfl _ rfl _ rfl _ rfl _ rfl _ rfl _ rfl
    simp (disch := decide) only [f_X5_copy, gU_at, gR_at, gU_ne, gR_ne, u3_skip, urow_skip, u3_at, hN, cN]
    refine ⟨nI_pos (by omega), by omega, ?_⟩
    rintro _ rfl
    simp (disch := decide) only [gR_at, u3_skip, urow_skip, u3_at, gU_at, gU_ne, gR_ne, hN, cN]
    refine ⟨nI_pos (by omega), by omega, ?_⟩
    rintro _ rfl
    simp (disch := decide) only [gR_at, u3_skip, urow_skip, u3_at, gU_at, gU_ne, gR_ne, hN, cN]
    refine ⟨nI_pos (by omega), by omega, ?_⟩
    rintro _ rfl
    simp (disch := decide) only [gR_at, u3_skip, urow_skip, u3_at, gU_at, gU_ne, gR_ne, hN, cN]
    refine ⟨nI_pos (by omega), by omega, ?_⟩
    rintro _ rfl
    simp (disch := decide) only [gR_at, u3_skip, urow_skip, u3_at, gU_at, gU_ne, gR_ne, hN, cN]
    refine ⟨nI_pos (by omega), by omega, ?_⟩
    rintro _ rfl
    simp (disch := decide) only [gR_at, u3_skip, urow_skip, u3_at, gU_at, gU_ne, gR_ne, hN, cN]
    exact ⟨nI_pos (by omega), by omega, fun _ _ => trivial⟩
/-- the trial is as the yard -/
theorem zT_copy {K : Nat} {A : zN} {I J : gI} (h : zR 6 K A (I 0) (J 2) (J 3)) (hc : ∀ i, i < 6 → I 1 1 i 3 = nI i) : zR 6 K (zTr A) (f_X3_copyFrom I 1 0 1) (J 2) (f_X5_become_s J 4 3 4) ∧ ok_X5_become J 4 3 ∧ zCc (f_X3_copyFrom I 1 0 1) := by
  have hi := h.2.2.2
  have h1 := hi.k1
  have c1 : (I 0 0 0 4).toNatClampNeg = A 0 0 0 := by rw [h.1.k1, nI_clamp (by omega)]
  have c2 : (I 0 0 0 5).toNatClampNeg = A 0 0 1 := by rw [h.1.k2, nI_clamp (by omega)]
  have x := zc_cp1 (A := A) (Y0 := I 0) h.1.k4 (fun i q => (hi.k2 i q).2.2.1) c2 (by omega) (A 0 0 0) 0 I rfl (by omega) (fun i q => by omega) hc
  obtain ⟨x', o⟩ := zr_become h.2.1.k3 (by omega)
  have e : f_X3_copyFrom I 1 0 1 = f_X3_copyFrom_l1 1 0 (A 0 0 0) 0 I 1 := by
    unfold f_X3_copyFrom
    rw [c1]
  rw [e]
  exact ⟨⟨zCL_Tr h.1 hi x, zRF_Tr h.2.1 hi x', zEQ_Tr h.2.2.1 hi x x', zIV_Tr hi⟩, o, x.2.2.1⟩
