/-! THE RELATION holds at the start, and through every call -/
theorem zRel_ok : RelOKn zRel := ⟨fun _ _ h => zRel_lw0 h, fun _ _ x h => zS_come x h, fun _ _ x b h => zS_setWay x b h, fun _ _ x h => zS_setFork x h, fun _ _ x h => zS_bring x h, fun _ _ x b h => zS_swap x b h, fun _ _ x h => zS_wake x h, fun _ _ x b h => zS_lad x b h, fun _ _ x b h => zS_cart x b h, fun _ _ x b h => zS_load x b h, fun _ _ x h => zS_count x h, fun _ _ x h => zS_victim x h, fun _ _ h => zS_thief h, fun _ _ x h => zS_pass x h, fun _ _ x h => zS_until x h, fun _ _ x b h => zS_foresee x b h, fun _ _ x h => zS_advise x h, fun _ _ h => zS_mean h, fun _ _ h => zS_digest h, fun _ _ h => zRel_mono h⟩
def zA0 : zN := fun t i j => if t = 0 ∧ i = 0 ∧ j = 3 then 6 else if t = 0 ∧ i = 0 ∧ j = 4 then 10 else if t = 0 ∧ i = 0 ∧ j = 6 then 10 else if t = 1 ∧ j = 3 then i else 0
theorem gI0_t (y t i j : Nat) (hy : 2 < y) : gI0 y t i j = 0 := by
  unfold gI0
  rw [if_neg (by omega), if_neg (fun q => by omega)]
theorem gI0_m (t j : Nat) (h : t ≠ 11 ∨ j ≠ 7) : gI0 2 t 0 j = 0 := by
  unfold gI0
  rw [if_neg (by omega), if_neg (fun q => by omega)]
theorem wf_gI0 (y : Nat) (hy : y < 2) : wf (gI0 y) := by
  have z : nI 0 = 0 := rfl
  have i6 : isN 0 6 := by rw [← z]; exact isN_nI (by decide) (by decide)
  have i10 : isN 0 10 := by rw [← z]; exact isN_nI (by decide) (by decide)
  have i8 : isN 0 8 := by rw [← z]; exact isN_nI (by decide) (by decide)
  refine ⟨?_, ?_, fun i hi => ?_, fun c hc => ?_, fun i hi => ?_⟩
  · simp only [gI0]; rw [if_pos hy]; exact i6
  · simp only [gI0]; rw [if_pos hy]; exact i10
  · simp only [gI0]; rw [if_pos hy]; simp; rw [nI_clamp (by omega)]; exact hi
  · simp only [gI0]; rw [if_pos hy]; exact i8
  · simp only [gI0]; rw [if_pos hy]; simp
theorem zRel0 : zRel 512 gI0 := by
  have z : nI 0 = 0 := rfl
  have zC : zCL zA0 (gI0 0) := by
    refine ⟨?_, ?_, ?_, ?_, ?_, ?_, ?_, ?_, ?_, ?_, ?_, ?_, ?_, ?_, ?_, ?_, ?_, ?_, ?_⟩ <;> simp [zA0, gI0, z]
    · rfl
  have zM : zRF zA0 (gI0 2) (gI0 3) := by
    refine ⟨?_, ?_, ?_, ?_, ?_, ?_, ?_, ?_, ?_, ?_, ?_, ?_, ?_, ?_, ?_, ?_, ?_, ?_, ?_, ?_, ?_, ?_⟩ <;> simp [zA0, gI0, z, zsm]
  have zE : zEQ 6 zA0 (gI0 0) (gI0 2) (gI0 3) := by
    refine ⟨?_, ?_, ?_, ?_, ?_, ?_, ?_, ?_, ?_, ?_, ?_, ?_⟩ <;> simp [zA0, gI0]
  have zV : zIV 0 zA0 := by
    refine ⟨?_, ?_, ?_, ?_, ?_, ?_, ?_, ?_, ?_, ?_, ?_, ?_, ?_, ?_, ?_, ?_, ?_, ?_, ?_, ?_, ?_, ?_, ?_, ?_⟩ <;> simp [zA0]
  refine ⟨0, zA0, ⟨zC, zM, zE, zV⟩, by decide, rfl, rfl, rfl, rfl, wf_gI0 0 (by decide), wf_gI0 1 (by decide), fun i hi => ?_⟩
  simp [gI0]
