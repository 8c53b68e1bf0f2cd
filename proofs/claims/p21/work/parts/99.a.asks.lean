/-! WHAT THE CLASS TELLS, where the law asks -/
theorem zA_need {I : gI} {n k : Nat} (hc : I 0 0 0 4 = nI n) (hk : k < n) (hn : n ≤ 6) : f_X4_needLad_x I (nI k) = 0 := by
  unfold f_X4_needLad_x
  rw [if_neg (nI_pos (by omega)), hc, if_pos (nI_lt hk (by omega))]
theorem zA_needL {I : gI} {n k : Nat} (hc : I 0 0 0 5 = nI n) (hk : k < n) (hn : n ≤ 10) : f_X4_needLoad_x I (nI k) = 0 := by
  unfold f_X4_needLoad_x
  rw [if_neg (nI_pos (by omega)), hc, if_pos (nI_lt hk (by omega))]
theorem zA_lad {I : gI} {n k w : Nat} (hc : I 0 0 0 4 = nI n) (hk : k < n) (hn : n ≤ 6) (hw : w < 9) : f_X4_lad_x I (nI k) (nI w) = 0 ∧ f_X4_lad I (nI k) (nI w) = f_X1_tell I 0 k (nI w) := by
  have e := zA_need hc hk hn
  have ck : (nI k).toNatClampNeg = k := nI_clamp (by omega)
  have n0 : ¬ nI w < 0 := nI_pos (by omega)
  have n9 : nI w < 9 := nI_lt (b := 9) hw (by decide)
  unfold f_X4_lad_x f_X4_lad
  simp only [e, ck, if_true, if_neg n0, if_pos n9]
  exact ⟨trivial, trivial⟩
theorem zA_load {I : gI} {n k w : Nat} (hc : I 0 0 0 5 = nI n) (hk : k < n) (hn : n ≤ 10) (hw : w < 7) : f_X4_load_x I (nI k) (nI w) = 0 ∧ f_X4_load I (nI k) (nI w) = f_X2_tell I 0 k (nI w) := by
  have e := zA_needL hc hk hn
  have ck : (nI k).toNatClampNeg = k := nI_clamp (by omega)
  have n0 : ¬ nI w < 0 := nI_pos (by omega)
  have n7 : nI w < 7 := nI_lt (b := 7) hw (by decide)
  unfold f_X4_load_x f_X4_load
  simp only [e, ck, if_true, if_neg n0, if_pos n7]
  exact ⟨trivial, trivial⟩
theorem zA_count {I : gI} {w : Nat} (hw : w < 13) : f_X4_count_x I (nI w) = 0 ∧ f_X4_count I (nI w) = f_X3_tell I 0 (nI w) := by
  have n0 : ¬ nI w < 0 := nI_pos (by omega)
  have n13 : nI w < 13 := nI_lt (b := 13) hw (by decide)
  unfold f_X4_count_x f_X4_count
  simp only [if_neg n0, if_pos n13]
  exact ⟨trivial, trivial⟩
