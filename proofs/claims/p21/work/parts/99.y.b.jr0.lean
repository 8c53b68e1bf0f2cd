/-! THE START (out of the first row, and more): the relation holds of the new objects -/
def zA0 : zN := fun t i j => if t = 0 ∧ i = 0 ∧ j = 3 then 6 else if t = 0 ∧ i = 0 ∧ j = 4 then 10 else if t = 0 ∧ i = 0 ∧ j = 6 then 10 else if t = 1 ∧ j = 3 then i else 0
theorem gI0_t (y t i j : Nat) (hy : 2 < y) : gI0 y t i j = 0 := by
  unfold gI0
  rw [if_neg (by omega), if_neg (fun q => by omega)]
theorem gI0_m (t j : Nat) (h : t ≠ 11 ∨ j ≠ 7) : gI0 2 t 0 j = 0 := by
  unfold gI0
  rw [if_neg (by omega), if_neg (fun q => by omega)]
theorem wf_gI0 (y : Nat) (hy : y < 2) : wf (gI0 y) := by
  have z : nI 0 = 0 := rfl
  have i6 : isN 0 6 := by rw [← z]; exact isN_nI (by decide) (by decide)
  have i10 : isN 0 10 := by rw [← z]; exact isN_nI (by decide) (by decide)
  have i8 : isN 0 8 := by rw [← z]; exact isN_nI (by decide) (by decide)
  refine ⟨?_, ?_, fun i hi => ?_, fun c hc => ?_, fun i hi => ?_⟩
  · simp only [gI0]; rw [if_pos hy]; exact i6
  · simp only [gI0]; rw [if_pos hy]; exact i10
  · simp only [gI0]; rw [if_pos hy]; simp; rw [nI_clamp (by omega)]; exact hi
  · simp only [gI0]; rw [if_pos hy]; exact i8
  · simp only [gI0]; rw [if_pos hy]; simp
theorem jR0 {n : Nat} (hn : n ≤ 500) : jR n 0 (gset gI0 5 V0) := by
  have z : nI 0 = 0 := rfl
  have zC : zCL zA0 (gI0 0) := by
    refine ⟨?_, ?_, ?_, ?_, ?_, ?_, ?_, ?_, ?_, ?_, ?_, ?_, ?_, ?_, ?_, ?_, ?_, ?_, ?_⟩ <;> simp [zA0, gI0, z]
    · rfl
  have zM : zRF zA0 (gI0 2) (gI0 3) := by
    refine ⟨?_, ?_, ?_, ?_, ?_, ?_, ?_, ?_, ?_, ?_, ?_, ?_, ?_, ?_, ?_, ?_, ?_, ?_, ?_, ?_, ?_, ?_⟩ <;> simp [zA0, gI0, z, zsm]
  have zE : zEQ 6 zA0 (gI0 0) (gI0 2) (gI0 3) := by
    refine ⟨?_, ?_, ?_, ?_, ?_, ?_, ?_, ?_, ?_, ?_, ?_, ?_⟩ <;> simp [zA0, gI0]
  have zV : zIV 0 zA0 := by
    refine ⟨?_, ?_, ?_, ?_, ?_, ?_, ?_, ?_, ?_, ?_, ?_, ?_, ?_, ?_, ?_, ?_, ?_, ?_, ?_, ?_, ?_, ?_, ?_, ?_⟩ <;> simp [zA0]
  have c0 : zA0 0 0 0 = 0 := rfl
  have c1 : zA0 0 0 1 = 0 := rfl
  have c2 : zA0 0 0 2 = 0 := rfl
  have zH : zh 0 zA0 (gI0 2) (gI0 3) := by
    refine ⟨⟨?_, ?_, ?_, ?_, ?_, ?_, ?_⟩, ⟨?_, ?_, ?_⟩, ⟨?_, ?_, ?_, ?_⟩, ⟨?_, ?_⟩, ⟨?_, ?_⟩⟩
    · intro k h; rw [c0] at h; exact absurd h (Nat.not_lt_zero _)
    · intro k h; rw [c2] at h; exact absurd h (Nat.not_lt_zero _)
    · intro k h; rw [c2] at h; exact absurd h (Nat.not_lt_zero _)
    · intro k h; rw [c0] at h; exact absurd h (Nat.not_lt_zero _)
    · intro k k' h; rw [c0] at h; exact absurd h (Nat.not_lt_zero _)
    · intro k h; rw [c1] at h; exact absurd h (Nat.not_lt_zero _)
    · intro k h; rw [c1] at h; exact absurd h (Nat.not_lt_zero _)
    · intro k h; rw [c1] at h; exact absurd h (Nat.not_lt_zero _)
    · intro k h; rw [c1] at h; exact absurd h (Nat.not_lt_zero _)
    · unfold zPa; rw [c1, c2]; rfl
    · unfold zJo; rw [c2]; rfl
    · unfold zFo; rw [c2]; rfl
    · intro k h; rw [c1] at h; exact absurd h (Nat.not_lt_zero _)
    · rw [c1]; rfl
    · rw [c0]; rfl
    · rw [c1]; rfl
    · rfl
    · intro k h; rw [c1] at h; exact absurd h (Nat.not_lt_zero _)
  have zS : sR 0 0 0 V0 (gI0 2) (gI0 3) := by
    refine ⟨⟨rfl, rfl, rfl, rfl, rfl⟩, ⟨rfl, rfl, rfl, rfl, rfl⟩, fun i h => absurd h (Nat.not_lt_zero _), fun i h => absurd h (Nat.not_lt_zero _), fun i p h => absurd h (Nat.not_lt_zero _), fun i h => absurd h (Nat.not_lt_zero _), fun i h => absurd h (Nat.not_lt_zero _), fun i h => absurd h (Nat.not_lt_zero _)⟩
  refine ⟨0, zA0, 0, ?_⟩
  rw [gset_ne _ _ (show 0 ≠ 5 by decide), gset_ne _ _ (show 1 ≠ 5 by decide), gset_ne _ _ (show 2 ≠ 5 by decide), gset_ne _ _ (show 3 ≠ 5 by decide), gset_at]
  refine ⟨⟨zC, zM, zE, zV⟩, by omega, rfl, rfl, rfl, rfl, wf_gI0 0 (by decide), wf_gI0 1 (by decide), fun i hi => ?_, by omega, zH, ⟨fun i _ _ => ⟨rfl, rfl, rfl, rfl⟩, fun j _ _ => rfl⟩, zS⟩
  simp [gI0]
