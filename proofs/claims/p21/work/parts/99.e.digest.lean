/-! THE CHECKSUM, AND WHAT COUNT TELLS, SPEAK OF THE YARD ALONE -/
theorem zy_X1 {I I' : gI} {y : Nat} (h : I' y = I y) (i : Nat) (x : Int32) : f_X1_tell I' y i x = f_X1_tell I y i x := by
  unfold f_X1_tell f_X1_doing f_X1_loadAtWork
  rw [h]
theorem zy_X2 {I I' : gI} {y : Nat} (h : I' y = I y) (i : Nat) (x : Int32) : f_X2_tell I' y i x = f_X2_tell I y i x := by
  unfold f_X2_tell
  rw [h]
theorem zy_that {I I' : gI} {y : Nat} (h : I' y = I y) (x : Int32) : ∀ m i a, f_X3_loadsThatAre_l1 y x m i a I' = f_X3_loadsThatAre_l1 y x m i a I := by
  intro m
  induction m with
  | zero => intro i a; rfl
  | succ m ih => intro i a; simp only [f_X3_loadsThatAre_l1, h, ih]
theorem zy_sl {I I' : gI} {y : Nat} (h : I' y = I y) (x : Int32) : ∀ m i a, f_X3_sumOverLads_l1 y x m i a I' = f_X3_sumOverLads_l1 y x m i a I := by
  intro m
  induction m with
  | zero => intro i a; rfl
  | succ m ih => intro i a; simp only [f_X3_sumOverLads_l1, zy_X1 h, ih]
theorem zy_so {I I' : gI} {y : Nat} (h : I' y = I y) (x : Int32) : ∀ m i a, f_X3_sumOverLoads_l1 y x m i a I' = f_X3_sumOverLoads_l1 y x m i a I := by
  intro m
  induction m with
  | zero => intro i a; rfl
  | succ m ih => intro i a; simp only [f_X3_sumOverLoads_l1, zy_X2 h, ih]
theorem zy_sp {I I' : gI} {y : Nat} (h : I' y = I y) : ∀ m i a, f_X3_sleepers_l1 y m i a I' = f_X3_sleepers_l1 y m i a I := by
  intro m
  induction m with
  | zero => intro i a; rfl
  | succ m ih => intro i a; simp only [f_X3_sleepers_l1, h, ih]
theorem zy_X3 {I I' : gI} {y : Nat} (h : I' y = I y) (x : Int32) : f_X3_tell I' y x = f_X3_tell I y x := by
  unfold f_X3_tell f_X3_loadsThatAre f_X3_sumOverLads f_X3_sumOverLoads f_X3_sleepers
  simp only [h, zy_that h, zy_sl h, zy_so h, zy_sp h]
theorem zy_at {I I' : gI} {y : Nat} (h : I' y = I y) (c : Nat) (x : Int32) : f_X0_heapAt I' y c x = f_X0_heapAt I y c x := by
  unfold f_X0_heapAt
  rw [h]
theorem zy_bo {I I' : gI} {y : Nat} (h : I' y = I y) (x : Int32) : f_X3_balesOf I' y x = f_X3_balesOf I y x := by
  unfold f_X3_balesOf
  rw [h]
theorem zy_mx (I I' : gI) (d : Int64) (x : Int32) : f_X4_mixed I' d x = f_X4_mixed I d x := rfl
theorem zy_digest {I I' : gI} (h : I' 0 = I 0) : f_X4_digest I' = f_X4_digest I := by
  have m1 : ∀ m i d, f_X4_digest_l1 m i d I' = f_X4_digest_l1 m i d I := by
    intro m
    induction m with
    | zero => intro i d; rfl
    | succ m ih => intro i d; simp only [f_X4_digest_l1, zy_X3 h, ih, f_X4_mixed]
  have w1 : ∀ d0 k m i d, f_X4_mixedWithLad_l1 d0 k m i d I' = f_X4_mixedWithLad_l1 d0 k m i d I := by
    intro d0 k m
    induction m with
    | zero => intro i d; rfl
    | succ m ih => intro i d; simp only [f_X4_mixedWithLad_l1, zy_X1 h, ih, f_X4_mixed]
  have w2 : ∀ d0 k m i d, f_X4_mixedWithLad_l2 d0 k m i d I' = f_X4_mixedWithLad_l2 d0 k m i d I := by
    intro d0 k m
    induction m with
    | zero => intro i d; rfl
    | succ m ih => intro i d; simp only [f_X4_mixedWithLad_l2, h, zy_at h, zy_bo h, zy_mx I I', ih]
  have w : ∀ d k, f_X4_mixedWithLad I' d k = f_X4_mixedWithLad I d k := fun d k => by
    unfold f_X4_mixedWithLad
    simp only [h, w1, w2]
  have m2 : ∀ m i d, f_X4_digest_l2 m i d I' = f_X4_digest_l2 m i d I := by
    intro m
    induction m with
    | zero => intro i d; rfl
    | succ m ih => intro i d; simp only [f_X4_digest_l2, w, ih]
  have m4 : ∀ k m i d, f_X4_digest_l4 k m i d I' = f_X4_digest_l4 k m i d I := by
    intro k m
    induction m with
    | zero => intro i d; rfl
    | succ m ih => intro i d; simp only [f_X4_digest_l4, zy_X2 h, ih, f_X4_mixed]
  have m3 : ∀ m i d, f_X4_digest_l3 m i d I' = f_X4_digest_l3 m i d I := by
    intro m
    induction m with
    | zero => intro i d; rfl
    | succ m ih => intro i d; simp only [f_X4_digest_l3, m4, ih]
  unfold f_X4_digest
  simp only [h, m1, m2, m3]
