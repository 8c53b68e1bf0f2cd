/-! THE SIM'S METHODS leave the class and the ghost alone -/
theorem ne_S_end (I : gI) (k : Nat) (x : Int32) {y : Nat} (h : y ≠ 5) : f_S_end I k x y = I y := by
  simp only [f_S_end]
  (repeat' split) <;> simp only [gU_ne _ _ _ _ _ h]
theorem ne_S_work_l1 (k q : Nat) {y : Nat} (h : y ≠ 5) : ∀ n i I, f_S_work_l1 k q n i I y = I y := by
  intro n
  induction n with
  | zero => intro i I; rfl
  | succ n ih =>
    intro i I
    simp only [f_S_work_l1]
    rw [ih, gU_ne _ _ _ _ _ h]
theorem ne_S_work (I : gI) (k : Nat) {y : Nat} (h : y ≠ 5) : f_S_work I k y = I y := by
  simp only [f_S_work]
  (repeat' split) <;> simp only [ne_S_end _ _ _ h, ne_S_work_l1 _ _ h, gU_ne _ _ _ _ _ h, gset_ne _ _ h]
theorem ne_S_turn_l1 (k : Nat) (I0 : gI) {y : Nat} (h : y ≠ 5) : ∀ n i I, f_S_turn_l1 k I0 n i I y = I y := by
  intro n
  induction n with
  | zero =>
    intro i I
    simp only [f_S_turn_l1]
    (repeat' split) <;> simp only [gU_ne _ _ _ _ _ h, gset_ne _ _ h]
  | succ n ih =>
    intro i I
    simp only [f_S_turn_l1]
    split
    · exact ih _ _
    · simp only [gU_ne _ _ _ _ _ h]
theorem ne_S_turn (I : gI) (k : Nat) {y : Nat} (h : y ≠ 5) : f_S_turn I k y = I y := by
  simp only [f_S_turn]
  (repeat' split) <;> simp only [ne_S_end _ _ _ h, ne_S_work _ _ h, ne_S_turn_l1 _ _ h, gU_ne _ _ _ _ _ h, gset_ne _ _ h]
theorem ne_S_pass_l1 {y : Nat} (h : y ≠ 5) : ∀ n i I, f_S_pass_l1 n i I y = I y := by
  intro n
  induction n with
  | zero =>
    intro i I
    simp only [f_S_pass_l1, gU_ne _ _ _ _ _ h]
  | succ n ih =>
    intro i I
    simp only [f_S_pass_l1]
    rw [ih, ne_S_turn _ _ h]
theorem ne_S_counts_l1 (q : Nat) {y : Nat} (h : y ≠ 5) : ∀ n i I, f_S_counts_l1 q n i I y = I y := by
  intro n
  induction n with
  | zero => intro i I; rfl
  | succ n ih =>
    intro i I
    simp only [f_S_counts_l1]
    (repeat' split) <;> rw [ih] <;> simp only [gU_ne _ _ _ _ _ h]
theorem ne_S_counts_l2 (q : Nat) (I1 : gI) {y : Nat} (h : y ≠ 5) : ∀ n i I, f_S_counts_l2 q I1 n i I y = I y := by
  intro n
  induction n with
  | zero => intro i I; rfl
  | succ n ih =>
    intro i I
    simp only [f_S_counts_l2]
    rw [ih, gU_ne _ _ _ _ _ h]
theorem ne_S_counts_l3 (q : Nat) {y : Nat} (h : y ≠ 5) : ∀ n i I, f_S_counts_l3 q n i I y = I y := by
  intro n
  induction n with
  | zero => intro i I; rfl
  | succ n ih =>
    intro i I
    simp only [f_S_counts_l3]
    (repeat' split) <;> rw [ih] <;> simp only [gU_ne _ _ _ _ _ h]
theorem ne_S_counts (I : gI) {y : Nat} (h : y ≠ 5) : f_S_counts I y = I y := by
  simp only [f_S_counts]
  simp only [ne_S_counts_l1 _ h, ne_S_counts_l2 _ _ h, ne_S_counts_l3 _ h, gU_ne _ _ _ _ _ h, gset_ne _ _ h]
theorem ne_S_go (I : gI) {y : Nat} (h : y ≠ 5) : f_S_go_s I y = I y := by
  simp only [f_S_go_s, f_S_go_a, f_S_go_b, f_S_pass, f_S_dr, gset_ne _ _ h, ne_S_counts _ h, ne_S_pass_l1 h]
theorem ne_S_come (I : gI) (x : Int32) {y : Nat} (h : y ≠ 5) : f_S_come I x y = I y := by
  simp only [f_S_come, gU_ne _ _ _ _ _ h, gset_ne _ _ h]
theorem ne_S_bring_l1 (x : Int32) {y : Nat} (h : y ≠ 5) : ∀ n i I, f_S_bring_l1 x n i I y = I y := by
  intro n
  induction n with
  | zero => intro i I; rfl
  | succ n ih =>
    intro i I
    simp only [f_S_bring_l1]
    (repeat' split) <;> rw [ih] <;> simp only [gU_ne _ _ _ _ _ h]
theorem ne_S_bring (I : gI) (x : Int32) {y : Nat} (h : y ≠ 5) : f_S_bring I x y = I y := by
  simp only [f_S_bring, ne_S_bring_l1 _ h, gU_ne _ _ _ _ _ h, gset_ne _ _ h]
