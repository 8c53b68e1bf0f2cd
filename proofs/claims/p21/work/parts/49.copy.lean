/-! THE TRIAL: what copyFrom and become leave -/
def zLc (A : zN) (N : Nat) (Y0 Y1 : gY) : Prop := ∀ i, i < N → (∀ j, j ≠ 0 → j ≠ 3 → j < 12 → Y1 1 i j = Y0 1 i j) ∧ Y1 2 i 1 = Y0 2 (A 1 i 3) 1 ∧ ∀ q, q < 8 → Y1 3 i q = Y0 3 (A 1 i 3) q
def zDc (N : Nat) (Y0 Y1 : gY) : Prop := ∀ j k, j < N → k < 7 → Y1 4 j k = Y0 4 j k
def zCc (Y1 : gY) : Prop := ∀ i, i < 6 → Y1 1 i 3 = nI i
theorem zc_lad1 {I : gI} {i c : Nat} (h1 : I 1 1 i 3 = nI i) (hi : i < 6) (h0 : I 0 1 i 3 = nI c) (hc : c < 6) :
    f_X1_copyFrom I 1 i 0 i 1 = u3 (u3 (u3 (u3 (u3 (u3 (u3 (u3 (u3 (urow (u3 (u3 (I 1) 1 i 1 (I 0 1 i 1)) 1 i 2 (I 0 1 i 2)) 3 i (va_cpy (I 0 3 c) (I 1 3 i) 0 0 8)) 2 i 1 (I 0 2 c 1)) 1 i 4 (I 0 1 i 4)) 1 i 5 (I 0 1 i 5)) 1 i 6 (I 0 1 i 6)) 1 i 7 (I 0 1 i 7)) 1 i 8 (I 0 1 i 8)) 1 i 9 (I 0 1 i 9)) 1 i 10 (I 0 1 i 10)) 1 i 11 (I 0 1 i 11) ∧ f_X1_copyFrom I 1 i 0 i 0 = I 0 := by
  have c1 : (nI i).toNatClampNeg = i := nI_clamp (by omega)
  have c2 : (nI c).toNatClampNeg = c := nI_clamp (by omega)
  refine ⟨?_, ?_⟩
  · simp (disch := decide) only [f_X1_copyFrom, f_X0_copyFrom, gU_at, gR_at, gU_ne, gR_ne, u3_skip, u3_skipj, h1, h0, c1, c2]
  · simp (disch := decide) only [f_X1_copyFrom, f_X0_copyFrom, gU_ne, gR_ne]
theorem zc_load1 {I : gI} {j : Nat} : f_X2_copyFrom I 1 j 0 j 1 = u3 (u3 (u3 (u3 (u3 (u3 (u3 (I 1) 4 j 0 (I 0 4 j 0)) 4 j 1 (I 0 4 j 1)) 4 j 2 (I 0 4 j 2)) 4 j 3 (I 0 4 j 3)) 4 j 4 (I 0 4 j 4)) 4 j 5 (I 0 4 j 5)) 4 j 6 (I 0 4 j 6) ∧ f_X2_copyFrom I 1 j 0 j 0 = I 0 := by
  refine ⟨?_, ?_⟩
  · simp (disch := decide) only [f_X2_copyFrom, gU_at, gU_ne]
  · simp (disch := decide) only [f_X2_copyFrom, gU_ne]
/-- what copyFrom leaves in the trial -/
def zXc (A : zN) (Y0 Y1 Y2 : gY) : Prop := zLc A (A 0 0 0) Y0 Y2 ∧ zDc (A 0 0 1) Y0 Y2 ∧ zCc Y2 ∧ (∀ q, q < 320 → Y2 5 0 q = Y0 5 0 q) ∧ (∀ q, q < 320 → Y2 6 0 q = Y0 6 0 q) ∧ ∀ j, 4 ≤ j → j ≤ 9 → Y2 0 0 j = Y0 0 0 j
theorem zc_cp2 {A : zN} {Y0 : gY} : ∀ (m i : Nat) (I : gI), I 0 = Y0 → i + m = A 0 0 1 → zLc A (A 0 0 0) Y0 (I 1) → zDc i Y0 (I 1) → zCc (I 1) → zXc A Y0 (I 1) (f_X3_copyFrom_l2 1 0 m i I 1) := by
  intro m
  induction m with
  | zero =>
    intro i I h0 hi hl hd hc
    have e : f_X3_copyFrom_l2 1 0 0 i I 1 = u3 (u3 (u3 (u3 (u3 (u3 (urow (urow (I 1) 5 0 (va_cpy (I 0 5 0) (I 1 5 0) 0 0 320)) 6 0 (va_cpy (I 0 6 0) (I 1 6 0) 0 0 320)) 0 0 4 (I 0 0 0 4)) 0 0 5 (I 0 0 0 5)) 0 0 6 (I 0 0 0 6)) 0 0 7 (I 0 0 0 7)) 0 0 8 (I 0 0 0 8)) 0 0 9 (I 0 0 0 9) := by
      simp (disch := decide) only [f_X3_copyFrom_l2, gU_at, gR_at, gU_ne, gR_ne, urow_skip]
    have ei : i = A 0 0 1 := by omega
    rw [e, h0]
    subst ei
    refine ⟨fun i h => ?_, fun j k hj hk => ?_, fun i h => ?_, fun q h => ?_, fun q h => ?_, fun j h1 h2 => ?_⟩
    · have := hl i h
      simp [u3, urow]
      exact this
    · have := hd j k hj hk
      simp [u3, urow]
      exact this
    · have := hc i h
      simp [u3, urow]
      exact this
    · simp [u3, urow, va_cpy, h]
    · simp [u3, urow, va_cpy, h]
    · rcases (show j = 4 ∨ j = 5 ∨ j = 6 ∨ j = 7 ∨ j = 8 ∨ j = 9 by omega) with rfl | rfl | rfl | rfl | rfl | rfl <;> simp [u3, urow]
  | succ m ih =>
    intro i I h0 hi hl hd hc
    obtain ⟨e1, e2⟩ := zc_load1 (I := I) (j := i)
    have g := ih (i + 1) (f_X2_copyFrom I 1 i 0 i) (by rw [e2, h0]) (by omega) (by
      rw [e1]
      intro i h
      have := hl i h
      simp [u3]
      exact this) (by
      rw [e1, h0]
      intro j k hj hk
      by_cases e : j = i
      · subst e
        rcases (show k = 0 ∨ k = 1 ∨ k = 2 ∨ k = 3 ∨ k = 4 ∨ k = 5 ∨ k = 6 by omega) with rfl | rfl | rfl | rfl | rfl | rfl | rfl <;> simp [u3]
      · have := hd j k (by omega) hk
        simp [u3, e]
        exact this) (by
      rw [e1]
      intro i h
      have := hc i h
      simp [u3]
      exact this)
    simp only [f_X3_copyFrom_l2]
    exact g
theorem zc_cp1 {A : zN} {Y0 : gY} (hc0 : ∀ i, i < 6 → Y0 1 i 3 = nI (A 1 i 3)) (hc6 : ∀ i, i < 6 → A 1 i 3 < 6) (hl : (Y0 0 0 5).toNatClampNeg = A 0 0 1) (hn : A 0 0 0 ≤ 6) : ∀ (m i : Nat) (I : gI), I 0 = Y0 → i + m = A 0 0 0 → zLc A i Y0 (I 1) → zCc (I 1) → zXc A Y0 (I 1) (f_X3_copyFrom_l1 1 0 m i I 1) := by
  intro m
  induction m with
  | zero =>
    intro i I h0 hi hL hc
    simp only [f_X3_copyFrom_l1]
    rw [h0, hl]
    exact zc_cp2 (A 0 0 1) 0 I h0 (by omega) (by rw [show A 0 0 0 = i by omega]; exact hL) (fun j k hj _ => by omega) hc
  | succ m ih =>
    intro i I h0 hi hL hc
    obtain ⟨e1, e2⟩ := zc_lad1 (I := I) (i := i) (c := A 1 i 3) (hc i (by omega)) (by omega) (by rw [h0]; exact hc0 i (by omega)) (hc6 i (by omega))
    have g := ih (i + 1) (f_X1_copyFrom I 1 i 0 i) (by rw [e2, h0]) (by omega) (by
      rw [e1, h0]
      intro i' h
      by_cases e : i' = i
      · subst e
        refine ⟨fun j j0 j3 j12 => ?_, by simp [u3, urow], fun q hq => by simp [u3, urow, va_cpy, hq]⟩
        rcases (show j = 1 ∨ j = 2 ∨ j = 4 ∨ j = 5 ∨ j = 6 ∨ j = 7 ∨ j = 8 ∨ j = 9 ∨ j = 10 ∨ j = 11 by omega) with rfl | rfl | rfl | rfl | rfl | rfl | rfl | rfl | rfl | rfl <;> simp [u3, urow]
      · have := hL i' (by omega)
        simp [u3, urow, e]
        exact this) (by
      rw [e1]
      intro i' h
      have := hc i' h
      simp [u3, urow]
      exact this)
    simp only [f_X3_copyFrom_l1]
    exact g
