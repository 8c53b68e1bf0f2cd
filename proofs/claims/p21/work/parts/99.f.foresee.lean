/-! WHAT WAS FORESEEN COMES: the trial, too, goes as the ghost's own minutes -/
theorem zXr.rfl' (N : Nat) (S : gY) : zXr N S S := ⟨fun _ _ => rfl, rfl, fun _ _ _ _ _ => rfl, fun _ _ => rfl, fun _ _ _ _ _ => rfl, fun _ _ _ _ _ => rfl⟩
theorem zT_copy3 {K : Nat} {A : zN} {I J : gI} (h : zR 6 K A (I 0) (J 2) (J 3)) (hc : zCc (I 1)) : zR 6 K (zTr A) (f_X3_copyFrom I 1 0 1) (J 2) (J 3) ∧ zCc (f_X3_copyFrom I 1 0 1) := by
  have hi := h.2.2.2
  have h1 := hi.k1
  have c1 : (I 0 0 0 4).toNatClampNeg = A 0 0 0 := by rw [h.1.k1, nI_clamp (by omega)]
  have c2 : (I 0 0 0 5).toNatClampNeg = A 0 0 1 := by rw [h.1.k2, nI_clamp (by omega)]
  have x := zc_cp1 (A := A) (Y0 := I 0) h.1.k4 (fun i q => (hi.k2 i q).2.2.1) c2 (by omega) (A 0 0 0) 0 I rfl (by omega) (fun i q => by omega) hc
  have e : f_X3_copyFrom I 1 0 1 = f_X3_copyFrom_l1 1 0 (A 0 0 0) 0 I 1 := by
    unfold f_X3_copyFrom
    rw [c1]
  rw [e]
  exact ⟨⟨zCL_Tr h.1 hi x, zRF_Tr h.2.1 hi (zXr.rfl' _ _), zEQ_Tr h.2.2.1 hi x (zXr.rfl' _ _), zIV_Tr hi⟩, x.2.2.1⟩
theorem zF_next {K w : Nat} {A : zN} {I : gI} (h : zR 6 K A (I 0) (I 2) (I 3)) (hf : I 2 11 0 7 = nI (A 0 0 6)) (hw0 : wf (I 0)) (hw1 : wf (I 1)) (hcc : zCc (I 1)) (hl : lw0 I) (hK : K + 6 ≤ 1000000) (h3 : 3 ≤ w) (hw : w < 12) :
    f_X4_foresee_v I 1 (nI w) = f_X6_counted (f_X6_passAll_s I 3 (nI 1) (nI (A 0 0 6))) 3 (nI w) := by
  have hz := zTr_h A
  obtain ⟨c1, c2⟩ := zT_copy3 h hcc
  obtain ⟨l1, l2, l3, l4⟩ := hl
  have w1 : wf (f_X3_copyFrom I 1 0 1) := wf_X3_copyFrom I 1 0 (by decide) hw1 (by decide) hw0 (by decide) l3 l4
  obtain ⟨r1, ⟨A', r2, r3, -⟩, r4⟩ := zT_run (y := 1) (z := 3) (m := 1) (I := f_X3_copyFrom I 1 0) (J := I) (by decide) (Or.inl rfl) c1 w1 (by decide) (by omega)
  rw [hz.2.2.2] at r3
  have l2' : f_X6_passAll_s I 3 (nI 1) (nI (A 0 0 6)) 2 = I 2 := ne_X6_passAll _ _ _ _ (Or.inl rfl) (by decide)
  rw [← l2'] at r3
  have T := zT_count r3 (by rw [l2', hf, r2 6 (by decide), hz.2.2.2]) (nI w)
  rw [← T.1]
  have n3 : ¬ nI w < 3 := nI_nlt (a := w) (b := 3) (by omega) (by omega)
  have n11 : nI w ≤ 11 := nI_le (b := 11) (by omega) (by decide)
  unfold f_X4_foresee_v
  rw [if_pos (show f_X4_needMinutes_x I 1 60 = 0 by unfold f_X4_needMinutes_x; decide), if_neg n3, if_pos n11]
  rfl
