/-! A second reckoning of the yard, pure: its functions and what they owe (by the programs of wip/gen, out of the walks of claims/whole): a ghost that the class and the law's own Sim are both held against -/
/-- the ghost's rows -/
def gvR (y t i : Nat) : Bool := (decide (y = 3) || decide (y = 4)) && decide (i = 0) && (decide (t = 20) || (decide (25 ≤ t) && decide (t ≤ 38)) || (decide (40 ≤ t) && decide (t ≤ 45)))
theorem gvsR {y : Nat} (h : y = 3 ∨ y = 4) (t : Nat) (ht : gvR 3 t 0 = true) : gvR y t 0 = true := by
  rcases h with rfl | rfl
  · exact ht
  · simpa [gvR] using ht
theorem nI_small {n : Nat} (h : n < 2 ^ 31) : n < 2 ^ 31 := h
def f_X5_copy (I : gI) (ys ts y t _n : Nat) (x : Int32) : gI := gR I y t 0 (va_cpy (I ys ts 0) (I y t 0) 0 0 x.toNatClampNeg)
theorem ne_X5_copy (I : gI) (ys ts y t n : Nat) (x : Int32) (hv0 : gvR ys ts 0 = true) (hv1 : gvR y t 0 = true) (hs0 : sh ts = .inr (0, n)) (hs1 : sh t = .inr (0, n)) (hk0 : ∀ j, gk ts j = true) (hk1 : ∀ j, gk t j = true) (ht1 : t ≠ 1) {y' : Nat} (hne : y' ≠ y) : f_X5_copy I ys ts y t n x y' = I y' := gR_ne _ _ _ _ hne
def ok_X5_add (I : gI) (y : Nat) (x a b : Int32) : Prop :=
  vp_in (I y 20 0 19) 600 ∧
  ∀ I1, I1 = gU I y 40 0 ((I y 20 0 19).toNatClampNeg) x →
  vp_in (I1 y 20 0 19) 600 ∧
  ∀ I2, I2 = gU I1 y 41 0 ((I1 y 20 0 19).toNatClampNeg) x →
  vp_in (I2 y 20 0 19) 600 ∧
  ∀ I3, I3 = gU I2 y 42 0 ((I2 y 20 0 19).toNatClampNeg) a →
  vp_in (I3 y 20 0 19) 600 ∧
  ∀ I4, I4 = gU I3 y 43 0 ((I3 y 20 0 19).toNatClampNeg) b →
  vp_in (I4 y 20 0 19) 600 ∧
  ∀ I5, I5 = gU I4 y 44 0 ((I4 y 20 0 19).toNatClampNeg) (-1) →
  vp_in (I5 y 20 0 19) 600 ∧
  ∀ I6, I6 = gU I5 y 45 0 ((I5 y 20 0 19).toNatClampNeg) 0 →
  ∀ I7, I7 = gU I6 y 20 0 19 ((I6 y 20 0 19) + 1) →
  True
def f_X5_add_v (I : gI) (y : Nat) (x a b : Int32) : Int32 :=
  let I1 := gU I y 40 0 ((I y 20 0 19).toNatClampNeg) x
  let I2 := gU I1 y 41 0 ((I1 y 20 0 19).toNatClampNeg) x
  let I3 := gU I2 y 42 0 ((I2 y 20 0 19).toNatClampNeg) a
  let I4 := gU I3 y 43 0 ((I3 y 20 0 19).toNatClampNeg) b
  let I5 := gU I4 y 44 0 ((I4 y 20 0 19).toNatClampNeg) (-1)
  let I6 := gU I5 y 45 0 ((I5 y 20 0 19).toNatClampNeg) 0
  let I7 := gU I6 y 20 0 19 ((I6 y 20 0 19) + 1)
  ((I7 y 20 0 19) - 1)
def f_X5_add_s (I : gI) (y : Nat) (x a b : Int32) : gI :=
  let I1 := gU I y 40 0 ((I y 20 0 19).toNatClampNeg) x
  let I2 := gU I1 y 41 0 ((I1 y 20 0 19).toNatClampNeg) x
  let I3 := gU I2 y 42 0 ((I2 y 20 0 19).toNatClampNeg) a
  let I4 := gU I3 y 43 0 ((I3 y 20 0 19).toNatClampNeg) b
  let I5 := gU I4 y 44 0 ((I4 y 20 0 19).toNatClampNeg) (-1)
  let I6 := gU I5 y 45 0 ((I5 y 20 0 19).toNatClampNeg) 0
  let I7 := gU I6 y 20 0 19 ((I6 y 20 0 19) + 1)
  I7
set_option maxRecDepth 100000 in
theorem ne_X5_add (I : gI) (y : Nat) (x a b : Int32) (hy : y = 3 ∨ y = 4) {y' : Nat} (hne : y' ≠ y) : f_X5_add_s I y x a b y' = I y' := by
  have hn : I y' = I y' := rfl
  obtain ⟨I1, hI1⟩ : ∃ z, z = gU I y 40 0 ((I y 20 0 19).toNatClampNeg) x := ⟨_, rfl⟩
  have hn1 : I1 y' = I y' := by rw [hI1]; exact (gU_ne _ _ _ _ _ hne).trans hn
  obtain ⟨I2, hI2⟩ : ∃ z, z = gU I1 y 41 0 ((I1 y 20 0 19).toNatClampNeg) x := ⟨_, rfl⟩
  have hn2 : I2 y' = I y' := by rw [hI2]; exact (gU_ne _ _ _ _ _ hne).trans hn1
  obtain ⟨I3, hI3⟩ : ∃ z, z = gU I2 y 42 0 ((I2 y 20 0 19).toNatClampNeg) a := ⟨_, rfl⟩
  have hn3 : I3 y' = I y' := by rw [hI3]; exact (gU_ne _ _ _ _ _ hne).trans hn2
  obtain ⟨I4, hI4⟩ : ∃ z, z = gU I3 y 43 0 ((I3 y 20 0 19).toNatClampNeg) b := ⟨_, rfl⟩
  have hn4 : I4 y' = I y' := by rw [hI4]; exact (gU_ne _ _ _ _ _ hne).trans hn3
  obtain ⟨I5, hI5⟩ : ∃ z, z = gU I4 y 44 0 ((I4 y 20 0 19).toNatClampNeg) (-1) := ⟨_, rfl⟩
  have hn5 : I5 y' = I y' := by rw [hI5]; exact (gU_ne _ _ _ _ _ hne).trans hn4
  obtain ⟨I6, hI6⟩ : ∃ z, z = gU I5 y 45 0 ((I5 y 20 0 19).toNatClampNeg) 0 := ⟨_, rfl⟩
  have hn6 : I6 y' = I y' := by rw [hI6]; exact (gU_ne _ _ _ _ _ hne).trans hn5
  obtain ⟨I7, hI7⟩ : ∃ z, z = gU I6 y 20 0 19 ((I6 y 20 0 19) + 1) := ⟨_, rfl⟩
  have hn7 : I7 y' = I y' := by rw [hI7]; exact (gU_ne _ _ _ _ _ hne).trans hn6
  have eS : f_X5_add_s I y x a b = I7 := by simp only [f_X5_add_s, ← hI1, ← hI2, ← hI3, ← hI4, ← hI5, ← hI6, ← hI7]
  exact (congrFun eS y').trans hn7
def ok_X5_far (I : gI) (y : Nat) (x : Int32) : Prop :=
  vp_in x 6 ∧
  vp_in (((8 * x) + (I y 31 0 x.toNatClampNeg)) - 1) 48 ∧
  True
def f_X5_far (I : gI) (y : Nat) (x : Int32) : Int32 :=
  (I y 32 0 ((((8 * x) + (I y 31 0 x.toNatClampNeg)) - 1).toNatClampNeg))
def ok_X5_putNear (I : gI) (y : Nat) (x a : Int32) : Prop :=
  vp_in x 6 ∧
  ¬ (8 * x) < 0 ∧
  ¬ ((8 * x) + 1) < 0 ∧
  ¬ (I y 31 0 x.toNatClampNeg) < 0 ∧
  (8 * x).toNatClampNeg + (I y 31 0 x.toNatClampNeg).toNatClampNeg ≤ 48 ∧
  ((8 * x) + 1).toNatClampNeg + (I y 31 0 x.toNatClampNeg).toNatClampNeg ≤ 48 ∧
  ∀ I1, I1 = gR I y 32 0 (va_cpy (I y 32 0) (I y 32 0) ((8 * x).toNatClampNeg) (((8 * x) + 1).toNatClampNeg) ((I y 31 0 x.toNatClampNeg).toNatClampNeg)) →
  vp_in (8 * x) 48 ∧
  ∀ I2, I2 = gU I1 y 32 0 ((8 * x).toNatClampNeg) a →
  ∀ I3, I3 = gU I2 y 31 0 x.toNatClampNeg ((I2 y 31 0 x.toNatClampNeg) + 1) →
  True
def f_X5_putNear (I : gI) (y : Nat) (x a : Int32) : gI :=
  let I1 := gR I y 32 0 (va_cpy (I y 32 0) (I y 32 0) ((8 * x).toNatClampNeg) (((8 * x) + 1).toNatClampNeg) ((I y 31 0 x.toNatClampNeg).toNatClampNeg))
  let I2 := gU I1 y 32 0 ((8 * x).toNatClampNeg) a
  let I3 := gU I2 y 31 0 x.toNatClampNeg ((I2 y 31 0 x.toNatClampNeg) + 1)
  I3
set_option maxRecDepth 100000 in
theorem ne_X5_putNear (I : gI) (y : Nat) (x a : Int32) (hy : y = 3 ∨ y = 4) {y' : Nat} (hne : y' ≠ y) : f_X5_putNear I y x a y' = I y' := by
  have hn : I y' = I y' := rfl
  obtain ⟨I1, hI1⟩ : ∃ z, z = gR I y 32 0 (va_cpy (I y 32 0) (I y 32 0) ((8 * x).toNatClampNeg) (((8 * x) + 1).toNatClampNeg) ((I y 31 0 x.toNatClampNeg).toNatClampNeg)) := ⟨_, rfl⟩
  have hn1 : I1 y' = I y' := by rw [hI1]; exact (gR_ne _ _ _ _ hne).trans hn
  obtain ⟨I2, hI2⟩ : ∃ z, z = gU I1 y 32 0 ((8 * x).toNatClampNeg) a := ⟨_, rfl⟩
  have hn2 : I2 y' = I y' := by rw [hI2]; exact (gU_ne _ _ _ _ _ hne).trans hn1
  obtain ⟨I3, hI3⟩ : ∃ z, z = gU I2 y 31 0 x.toNatClampNeg ((I2 y 31 0 x.toNatClampNeg) + 1) := ⟨_, rfl⟩
  have hn3 : I3 y' = I y' := by rw [hI3]; exact (gU_ne _ _ _ _ _ hne).trans hn2
  have eS : f_X5_putNear I y x a = I3 := by simp only [f_X5_putNear, ← hI1, ← hI2, ← hI3]
  exact (congrFun eS y').trans hn3
def ok_X5_takeNear (I : gI) (y : Nat) (x : Int32) : Prop :=
  vp_in (8 * x) 48 ∧
  vp_in x 6 ∧
  ∀ I1, I1 = gU I y 31 0 x.toNatClampNeg ((I y 31 0 x.toNatClampNeg) - 1) →
  ¬ ((8 * x) + 1) < 0 ∧
  ¬ (8 * x) < 0 ∧
  ¬ (I1 y 31 0 x.toNatClampNeg) < 0 ∧
  ((8 * x) + 1).toNatClampNeg + (I1 y 31 0 x.toNatClampNeg).toNatClampNeg ≤ 48 ∧
  (8 * x).toNatClampNeg + (I1 y 31 0 x.toNatClampNeg).toNatClampNeg ≤ 48 ∧
  ∀ I2, I2 = gR I1 y 32 0 (va_cpy (I1 y 32 0) (I1 y 32 0) (((8 * x) + 1).toNatClampNeg) ((8 * x).toNatClampNeg) ((I1 y 31 0 x.toNatClampNeg).toNatClampNeg)) →
  True
def f_X5_takeNear_v (I : gI) (y : Nat) (x : Int32) : Int32 :=
  let I1 := gU I y 31 0 x.toNatClampNeg ((I y 31 0 x.toNatClampNeg) - 1)
  let I2 := gR I1 y 32 0 (va_cpy (I1 y 32 0) (I1 y 32 0) (((8 * x) + 1).toNatClampNeg) ((8 * x).toNatClampNeg) ((I1 y 31 0 x.toNatClampNeg).toNatClampNeg))
  (I y 32 0 ((8 * x).toNatClampNeg))
def f_X5_takeNear_s (I : gI) (y : Nat) (x : Int32) : gI :=
  let I1 := gU I y 31 0 x.toNatClampNeg ((I y 31 0 x.toNatClampNeg) - 1)
  let I2 := gR I1 y 32 0 (va_cpy (I1 y 32 0) (I1 y 32 0) (((8 * x) + 1).toNatClampNeg) ((8 * x).toNatClampNeg) ((I1 y 31 0 x.toNatClampNeg).toNatClampNeg))
  I2
set_option maxRecDepth 100000 in
theorem ne_X5_takeNear (I : gI) (y : Nat) (x : Int32) (hy : y = 3 ∨ y = 4) {y' : Nat} (hne : y' ≠ y) : f_X5_takeNear_s I y x y' = I y' := by
  have hn : I y' = I y' := rfl
  obtain ⟨I1, hI1⟩ : ∃ z, z = gU I y 31 0 x.toNatClampNeg ((I y 31 0 x.toNatClampNeg) - 1) := ⟨_, rfl⟩
  have hn1 : I1 y' = I y' := by rw [hI1]; exact (gU_ne _ _ _ _ _ hne).trans hn
  obtain ⟨I2, hI2⟩ : ∃ z, z = gR I1 y 32 0 (va_cpy (I1 y 32 0) (I1 y 32 0) (((8 * x) + 1).toNatClampNeg) ((8 * x).toNatClampNeg) ((I1 y 31 0 x.toNatClampNeg).toNatClampNeg)) := ⟨_, rfl⟩
  have hn2 : I2 y' = I y' := by rw [hI2]; exact (gR_ne _ _ _ _ hne).trans hn1
  have eS : f_X5_takeNear_s I y x = I2 := by simp only [f_X5_takeNear_s, ← hI1, ← hI2]
  exact (congrFun eS y').trans hn2
def ok_X5_hold (I : gI) (y : Nat) (x a : Int32) : Prop :=
  vp_in x 6 ∧
  ∀ I1, I1 = gU I y 25 0 x.toNatClampNeg 1 →
  ∀ I2, I2 = gU I1 y 26 0 x.toNatClampNeg a →
  True
def f_X5_hold (I : gI) (y : Nat) (x a : Int32) : gI :=
  let I1 := gU I y 25 0 x.toNatClampNeg 1
  let I2 := gU I1 y 26 0 x.toNatClampNeg a
  I2
set_option maxRecDepth 100000 in
theorem ne_X5_hold (I : gI) (y : Nat) (x a : Int32) (hy : y = 3 ∨ y = 4) {y' : Nat} (hne : y' ≠ y) : f_X5_hold I y x a y' = I y' := by
  have hn : I y' = I y' := rfl
  obtain ⟨I1, hI1⟩ : ∃ z, z = gU I y 25 0 x.toNatClampNeg 1 := ⟨_, rfl⟩
  have hn1 : I1 y' = I y' := by rw [hI1]; exact (gU_ne _ _ _ _ _ hne).trans hn
  obtain ⟨I2, hI2⟩ : ∃ z, z = gU I1 y 26 0 x.toNatClampNeg a := ⟨_, rfl⟩
  have hn2 : I2 y' = I y' := by rw [hI2]; exact (gU_ne _ _ _ _ _ hne).trans hn1
  have eS : f_X5_hold I y x a = I2 := by simp only [f_X5_hold, ← hI1, ← hI2]
  exact (congrFun eS y').trans hn2
def ok_X5_finish (I : gI) (y : Nat) (x a : Int32) : Prop :=
  vp_in a 600 ∧
  ∀ I1, I1 = gU I y 45 0 a.toNatClampNeg 1 →
  vp_in x 6 ∧
  ∀ I2, I2 = gU I1 y 25 0 x.toNatClampNeg 0 →
  (((I2 y 43 0 a.toNatClampNeg) = (-1)) →
    vp_in (I2 y 42 0 a.toNatClampNeg) 10 ∧
    ∀ I5, I5 = gU I2 y 33 0 ((I2 y 42 0 a.toNatClampNeg).toNatClampNeg) 2 →
    vp_in (I5 y 42 0 a.toNatClampNeg) 10 ∧
    ∀ I6, I6 = gU I5 y 35 0 ((I5 y 42 0 a.toNatClampNeg).toNatClampNeg) (I5 y 20 0 0) →
    True) ∧
  (¬ ((I2 y 43 0 a.toNatClampNeg) = (-1)) →
    vp_in (I2 y 44 0 a.toNatClampNeg) 600 ∧
    (((I2 y 45 0 ((I2 y 44 0 a.toNatClampNeg).toNatClampNeg)) = 1) →
      ∀ I3, I3 = gU I2 y 25 0 x.toNatClampNeg 2 →
      ∀ I4, I4 = gU I3 y 26 0 x.toNatClampNeg (I3 y 43 0 a.toNatClampNeg) →
      True) ∧
    (¬ ((I2 y 45 0 ((I2 y 44 0 a.toNatClampNeg).toNatClampNeg)) = 1) →
      True))
def f_X5_finish (I : gI) (y : Nat) (x a : Int32) : gI :=
  let I1 := gU I y 45 0 a.toNatClampNeg 1
  let I2 := gU I1 y 25 0 x.toNatClampNeg 0
  if (I2 y 43 0 a.toNatClampNeg) = (-1) then
    let I5 := gU I2 y 33 0 ((I2 y 42 0 a.toNatClampNeg).toNatClampNeg) 2
    let I6 := gU I5 y 35 0 ((I5 y 42 0 a.toNatClampNeg).toNatClampNeg) (I5 y 20 0 0)
    I6
  else
    if (I2 y 45 0 ((I2 y 44 0 a.toNatClampNeg).toNatClampNeg)) = 1 then
      let I3 := gU I2 y 25 0 x.toNatClampNeg 2
      let I4 := gU I3 y 26 0 x.toNatClampNeg (I3 y 43 0 a.toNatClampNeg)
      I4
    else
      I2
set_option maxRecDepth 100000 in
theorem ne_X5_finish (I : gI) (y : Nat) (x a : Int32) (hy : y = 3 ∨ y = 4) {y' : Nat} (hne : y' ≠ y) : f_X5_finish I y x a y' = I y' := by
  have hn : I y' = I y' := rfl
  obtain ⟨I1, hI1⟩ : ∃ z, z = gU I y 45 0 a.toNatClampNeg 1 := ⟨_, rfl⟩
  have hn1 : I1 y' = I y' := by rw [hI1]; exact (gU_ne _ _ _ _ _ hne).trans hn
  obtain ⟨I2, hI2⟩ : ∃ z, z = gU I1 y 25 0 x.toNatClampNeg 0 := ⟨_, rfl⟩
  have hn2 : I2 y' = I y' := by rw [hI2]; exact (gU_ne _ _ _ _ _ hne).trans hn1
  by_cases c3 : (I2 y 43 0 a.toNatClampNeg) = (-1)
  · obtain ⟨I5, hI5⟩ : ∃ z, z = gU I2 y 33 0 ((I2 y 42 0 a.toNatClampNeg).toNatClampNeg) 2 := ⟨_, rfl⟩
    have hn5 : I5 y' = I y' := by rw [hI5]; exact (gU_ne _ _ _ _ _ hne).trans hn2
    obtain ⟨I6, hI6⟩ : ∃ z, z = gU I5 y 35 0 ((I5 y 42 0 a.toNatClampNeg).toNatClampNeg) (I5 y 20 0 0) := ⟨_, rfl⟩
    have hn6 : I6 y' = I y' := by rw [hI6]; exact (gU_ne _ _ _ _ _ hne).trans hn5
    have eS : f_X5_finish I y x a = I6 := by simp only [f_X5_finish, ← hI1, ← hI2, ← hI5, ← hI6, if_pos c3]
    exact (congrFun eS y').trans hn6
  · by_cases c5 : (I2 y 45 0 ((I2 y 44 0 a.toNatClampNeg).toNatClampNeg)) = 1
    · obtain ⟨I3, hI3⟩ : ∃ z, z = gU I2 y 25 0 x.toNatClampNeg 2 := ⟨_, rfl⟩
      have hn3 : I3 y' = I y' := by rw [hI3]; exact (gU_ne _ _ _ _ _ hne).trans hn2
      obtain ⟨I4, hI4⟩ : ∃ z, z = gU I3 y 26 0 x.toNatClampNeg (I3 y 43 0 a.toNatClampNeg) := ⟨_, rfl⟩
      have hn4 : I4 y' = I y' := by rw [hI4]; exact (gU_ne _ _ _ _ _ hne).trans hn3
      have eS : f_X5_finish I y x a = I4 := by simp only [f_X5_finish, ← hI1, ← hI2, ← hI3, ← hI4, if_neg c3, if_pos c5]
      exact (congrFun eS y').trans hn4
    · have eS : f_X5_finish I y x a = I2 := by simp only [f_X5_finish, ← hI1, ← hI2, if_neg c3, if_neg c5]
      exact (congrFun eS y').trans hn2
def f_X5_forkIt_l1 (y : Nat) (x a : Int32) : Nat → Nat → gI → gI
  | 0, i, I8 =>
    I8
  | n + 1, i, I8 =>
    if (I8 y 25 0 i) = 3 then
      let I9 := gU I8 y 25 0 i 0
      I9
    else
      f_X5_forkIt_l1 y x a n (i + 1) I8
def ok_f_X5_forkIt_l1 (y : Nat) (x a : Int32) : Nat → Nat → gI → Prop
  | 0, i, I8 =>
    True
  | n + 1, i, I8 =>
    (((I8 y 25 0 i) = 3) →
      ∀ I9, I9 = gU I8 y 25 0 i 0 →
      True) ∧
    (¬ ((I8 y 25 0 i) = 3) →
      ok_f_X5_forkIt_l1 y x a n (i + 1) I8)
def ok_X5_forkIt (I : gI) (y : Nat) (x a : Int32) : Prop :=
  vp_in a 600 ∧
  ok_X5_add I y ((I y 40 0 a.toNatClampNeg) / 2) (I y 42 0 a.toNatClampNeg) a ∧
  ∀ I1, I1 = f_X5_add_s I y ((I y 40 0 a.toNatClampNeg) / 2) (I y 42 0 a.toNatClampNeg) a →
  ok_X5_add I1 y ((I1 y 40 0 a.toNatClampNeg) - ((I1 y 40 0 a.toNatClampNeg) / 2)) (I1 y 42 0 a.toNatClampNeg) a ∧
  ∀ I2, I2 = f_X5_add_s I1 y ((I1 y 40 0 a.toNatClampNeg) - ((I1 y 40 0 a.toNatClampNeg) / 2)) (I1 y 42 0 a.toNatClampNeg) a →
  vp_in (f_X5_add_v I y ((I y 40 0 a.toNatClampNeg) / 2) (I y 42 0 a.toNatClampNeg) a) 600 ∧
  ∀ I3, I3 = gU I2 y 44 0 ((f_X5_add_v I y ((I y 40 0 a.toNatClampNeg) / 2) (I y 42 0 a.toNatClampNeg) a).toNatClampNeg) (f_X5_add_v I1 y ((I1 y 40 0 a.toNatClampNeg) - ((I1 y 40 0 a.toNatClampNeg) / 2)) (I1 y 42 0 a.toNatClampNeg) a) →
  vp_in (f_X5_add_v I1 y ((I1 y 40 0 a.toNatClampNeg) - ((I1 y 40 0 a.toNatClampNeg) / 2)) (I1 y 42 0 a.toNatClampNeg) a) 600 ∧
  ∀ I4, I4 = gU I3 y 44 0 ((f_X5_add_v I1 y ((I1 y 40 0 a.toNatClampNeg) - ((I1 y 40 0 a.toNatClampNeg) / 2)) (I1 y 42 0 a.toNatClampNeg) a).toNatClampNeg) (f_X5_add_v I y ((I y 40 0 a.toNatClampNeg) / 2) (I y 42 0 a.toNatClampNeg) a) →
  ok_X5_putNear I4 y x (f_X5_add_v I1 y ((I1 y 40 0 a.toNatClampNeg) - ((I1 y 40 0 a.toNatClampNeg) / 2)) (I1 y 42 0 a.toNatClampNeg) a) ∧
  ∀ I5, I5 = f_X5_putNear I4 y x (f_X5_add_v I1 y ((I1 y 40 0 a.toNatClampNeg) - ((I1 y 40 0 a.toNatClampNeg) / 2)) (I1 y 42 0 a.toNatClampNeg) a) →
  vp_in x 6 ∧
  ∀ I6, I6 = gU I5 y 26 0 x.toNatClampNeg (f_X5_add_v I y ((I y 40 0 a.toNatClampNeg) / 2) (I y 42 0 a.toNatClampNeg) a) →
  vp_in (I6 y 42 0 a.toNatClampNeg) 10 ∧
  ∀ I7, I7 = gU I6 y 36 0 ((I6 y 42 0 a.toNatClampNeg).toNatClampNeg) ((I6 y 36 0 ((I6 y 42 0 a.toNatClampNeg).toNatClampNeg)) + 2) →
  ∀ I8, I8 = gU I7 y 20 0 2 ((I7 y 20 0 2) + 1) →
  ok_f_X5_forkIt_l1 y x a 6 0 I8
def f_X5_forkIt (I : gI) (y : Nat) (x a : Int32) : gI :=
  let I1 := f_X5_add_s I y ((I y 40 0 a.toNatClampNeg) / 2) (I y 42 0 a.toNatClampNeg) a
  let I2 := f_X5_add_s I1 y ((I1 y 40 0 a.toNatClampNeg) - ((I1 y 40 0 a.toNatClampNeg) / 2)) (I1 y 42 0 a.toNatClampNeg) a
  let I3 := gU I2 y 44 0 ((f_X5_add_v I y ((I y 40 0 a.toNatClampNeg) / 2) (I y 42 0 a.toNatClampNeg) a).toNatClampNeg) (f_X5_add_v I1 y ((I1 y 40 0 a.toNatClampNeg) - ((I1 y 40 0 a.toNatClampNeg) / 2)) (I1 y 42 0 a.toNatClampNeg) a)
  let I4 := gU I3 y 44 0 ((f_X5_add_v I1 y ((I1 y 40 0 a.toNatClampNeg) - ((I1 y 40 0 a.toNatClampNeg) / 2)) (I1 y 42 0 a.toNatClampNeg) a).toNatClampNeg) (f_X5_add_v I y ((I y 40 0 a.toNatClampNeg) / 2) (I y 42 0 a.toNatClampNeg) a)
  let I5 := f_X5_putNear I4 y x (f_X5_add_v I1 y ((I1 y 40 0 a.toNatClampNeg) - ((I1 y 40 0 a.toNatClampNeg) / 2)) (I1 y 42 0 a.toNatClampNeg) a)
  let I6 := gU I5 y 26 0 x.toNatClampNeg (f_X5_add_v I y ((I y 40 0 a.toNatClampNeg) / 2) (I y 42 0 a.toNatClampNeg) a)
  let I7 := gU I6 y 36 0 ((I6 y 42 0 a.toNatClampNeg).toNatClampNeg) ((I6 y 36 0 ((I6 y 42 0 a.toNatClampNeg).toNatClampNeg)) + 2)
  let I8 := gU I7 y 20 0 2 ((I7 y 20 0 2) + 1)
  f_X5_forkIt_l1 y x a 6 0 I8
set_option maxRecDepth 100000 in
theorem ne_f_X5_forkIt_l1 (I : gI) (y : Nat) (x a : Int32) (hy : y = 3 ∨ y = 4) {y' : Nat} (hne : y' ≠ y) : ∀ (n i : Nat) (I8 : gI), f_X5_forkIt_l1 y x a n i I8 y' = I8 y' := by
  intro n
  induction n with
  | zero =>
    intro i I8
    have hn8 : I8 y' = I8 y' := rfl
    have eS : f_X5_forkIt_l1 y x a 0 i I8 = I8 := by simp only [f_X5_forkIt_l1]
    exact (congrFun eS y').trans hn8
  | succ n ih =>
    intro i I8
    have hn8 : I8 y' = I8 y' := rfl
    by_cases c11 : (I8 y 25 0 i) = 3
    · obtain ⟨I9, hI9⟩ : ∃ z, z = gU I8 y 25 0 i 0 := ⟨_, rfl⟩
      have hn9 : I9 y' = I8 y' := by rw [hI9]; exact (gU_ne _ _ _ _ _ hne).trans hn8
      have eS : f_X5_forkIt_l1 y x a (n + 1) i I8 = I9 := by simp only [f_X5_forkIt_l1, ← hI9, if_pos c11]
      exact (congrFun eS y').trans hn9
    · have eS : f_X5_forkIt_l1 y x a (n + 1) i I8 = f_X5_forkIt_l1 y x a n (i + 1) I8 := by simp only [f_X5_forkIt_l1, if_neg c11]
      exact (congrFun eS y').trans ((ih (i + 1) I8).trans hn8)
set_option maxRecDepth 100000 in
theorem ne_X5_forkIt (I : gI) (y : Nat) (x a : Int32) (hy : y = 3 ∨ y = 4) {y' : Nat} (hne : y' ≠ y) : f_X5_forkIt I y x a y' = I y' := by
  have hn : I y' = I y' := rfl
  obtain ⟨I1, hI1⟩ : ∃ z, z = f_X5_add_s I y ((I y 40 0 a.toNatClampNeg) / 2) (I y 42 0 a.toNatClampNeg) a := ⟨_, rfl⟩
  have hn1 : I1 y' = I y' := by rw [hI1]; exact (ne_X5_add I y ((I y 40 0 a.toNatClampNeg) / 2) (I y 42 0 a.toNatClampNeg) a hy (y' := y') hne).trans hn
  obtain ⟨I2, hI2⟩ : ∃ z, z = f_X5_add_s I1 y ((I1 y 40 0 a.toNatClampNeg) - ((I1 y 40 0 a.toNatClampNeg) / 2)) (I1 y 42 0 a.toNatClampNeg) a := ⟨_, rfl⟩
  have hn2 : I2 y' = I y' := by rw [hI2]; exact (ne_X5_add I1 y ((I1 y 40 0 a.toNatClampNeg) - ((I1 y 40 0 a.toNatClampNeg) / 2)) (I1 y 42 0 a.toNatClampNeg) a hy (y' := y') hne).trans hn1
  obtain ⟨I3, hI3⟩ : ∃ z, z = gU I2 y 44 0 ((f_X5_add_v I y ((I y 40 0 a.toNatClampNeg) / 2) (I y 42 0 a.toNatClampNeg) a).toNatClampNeg) (f_X5_add_v I1 y ((I1 y 40 0 a.toNatClampNeg) - ((I1 y 40 0 a.toNatClampNeg) / 2)) (I1 y 42 0 a.toNatClampNeg) a) := ⟨_, rfl⟩
  have hn3 : I3 y' = I y' := by rw [hI3]; exact (gU_ne _ _ _ _ _ hne).trans hn2
  obtain ⟨I4, hI4⟩ : ∃ z, z = gU I3 y 44 0 ((f_X5_add_v I1 y ((I1 y 40 0 a.toNatClampNeg) - ((I1 y 40 0 a.toNatClampNeg) / 2)) (I1 y 42 0 a.toNatClampNeg) a).toNatClampNeg) (f_X5_add_v I y ((I y 40 0 a.toNatClampNeg) / 2) (I y 42 0 a.toNatClampNeg) a) := ⟨_, rfl⟩
  have hn4 : I4 y' = I y' := by rw [hI4]; exact (gU_ne _ _ _ _ _ hne).trans hn3
  obtain ⟨I5, hI5⟩ : ∃ z, z = f_X5_putNear I4 y x (f_X5_add_v I1 y ((I1 y 40 0 a.toNatClampNeg) - ((I1 y 40 0 a.toNatClampNeg) / 2)) (I1 y 42 0 a.toNatClampNeg) a) := ⟨_, rfl⟩
  have hn5 : I5 y' = I y' := by rw [hI5]; exact (ne_X5_putNear I4 y x (f_X5_add_v I1 y ((I1 y 40 0 a.toNatClampNeg) - ((I1 y 40 0 a.toNatClampNeg) / 2)) (I1 y 42 0 a.toNatClampNeg) a) hy (y' := y') hne).trans hn4
  obtain ⟨I6, hI6⟩ : ∃ z, z = gU I5 y 26 0 x.toNatClampNeg (f_X5_add_v I y ((I y 40 0 a.toNatClampNeg) / 2) (I y 42 0 a.toNatClampNeg) a) := ⟨_, rfl⟩
  have hn6 : I6 y' = I y' := by rw [hI6]; exact (gU_ne _ _ _ _ _ hne).trans hn5
  obtain ⟨I7, hI7⟩ : ∃ z, z = gU I6 y 36 0 ((I6 y 42 0 a.toNatClampNeg).toNatClampNeg) ((I6 y 36 0 ((I6 y 42 0 a.toNatClampNeg).toNatClampNeg)) + 2) := ⟨_, rfl⟩
  have hn7 : I7 y' = I y' := by rw [hI7]; exact (gU_ne _ _ _ _ _ hne).trans hn6
  obtain ⟨I8, hI8⟩ : ∃ z, z = gU I7 y 20 0 2 ((I7 y 20 0 2) + 1) := ⟨_, rfl⟩
  have hn8 : I8 y' = I y' := by rw [hI8]; exact (gU_ne _ _ _ _ _ hne).trans hn7
  have eS : f_X5_forkIt I y x a = f_X5_forkIt_l1 y x a 6 0 I8 := by simp only [f_X5_forkIt, ← hI1, ← hI2, ← hI3, ← hI4, ← hI5, ← hI6, ← hI7, ← hI8]
  exact (congrFun eS y').trans ((ne_f_X5_forkIt_l1 I y x a hy hne 6 0 I8).trans hn8)
def ok_X5_pitch (I : gI) (y : Nat) (x a b : Int32) : Prop :=
  vp_in a 600 ∧
  ∀ I1, I1 = gU I y 41 0 a.toNatClampNeg ((I y 41 0 a.toNatClampNeg) - (if (I y 41 0 a.toNatClampNeg) < b then (I y 41 0 a.toNatClampNeg) else b)) →
  vp_in (I1 y 42 0 a.toNatClampNeg) 10 ∧
  ∀ I2, I2 = gU I1 y 38 0 ((I1 y 42 0 a.toNatClampNeg).toNatClampNeg) ((I1 y 38 0 ((I1 y 42 0 a.toNatClampNeg).toNatClampNeg)) + (if (I y 41 0 a.toNatClampNeg) < b then (I y 41 0 a.toNatClampNeg) else b)) →
  ∀ I3, I3 = gU I2 y 20 0 4 ((I2 y 20 0 4) + (if (I y 41 0 a.toNatClampNeg) < b then (I y 41 0 a.toNatClampNeg) else b)) →
  (((I3 y 41 0 a.toNatClampNeg) = 0) →
    ok_X5_finish I3 y x a ∧
    ∀ I4, I4 = f_X5_finish I3 y x a →
    True) ∧
  (¬ ((I3 y 41 0 a.toNatClampNeg) = 0) →
    True)
def f_X5_pitch (I : gI) (y : Nat) (x a b : Int32) : gI :=
  let I1 := gU I y 41 0 a.toNatClampNeg ((I y 41 0 a.toNatClampNeg) - (if (I y 41 0 a.toNatClampNeg) < b then (I y 41 0 a.toNatClampNeg) else b))
  let I2 := gU I1 y 38 0 ((I1 y 42 0 a.toNatClampNeg).toNatClampNeg) ((I1 y 38 0 ((I1 y 42 0 a.toNatClampNeg).toNatClampNeg)) + (if (I y 41 0 a.toNatClampNeg) < b then (I y 41 0 a.toNatClampNeg) else b))
  let I3 := gU I2 y 20 0 4 ((I2 y 20 0 4) + (if (I y 41 0 a.toNatClampNeg) < b then (I y 41 0 a.toNatClampNeg) else b))
  if (I3 y 41 0 a.toNatClampNeg) = 0 then
    let I4 := f_X5_finish I3 y x a
    I4
  else
    I3
set_option maxRecDepth 100000 in
theorem ne_X5_pitch (I : gI) (y : Nat) (x a b : Int32) (hy : y = 3 ∨ y = 4) {y' : Nat} (hne : y' ≠ y) : f_X5_pitch I y x a b y' = I y' := by
  have hn : I y' = I y' := rfl
  obtain ⟨I1, hI1⟩ : ∃ z, z = gU I y 41 0 a.toNatClampNeg ((I y 41 0 a.toNatClampNeg) - (if (I y 41 0 a.toNatClampNeg) < b then (I y 41 0 a.toNatClampNeg) else b)) := ⟨_, rfl⟩
  have hn1 : I1 y' = I y' := by rw [hI1]; exact (gU_ne _ _ _ _ _ hne).trans hn
  obtain ⟨I2, hI2⟩ : ∃ z, z = gU I1 y 38 0 ((I1 y 42 0 a.toNatClampNeg).toNatClampNeg) ((I1 y 38 0 ((I1 y 42 0 a.toNatClampNeg).toNatClampNeg)) + (if (I y 41 0 a.toNatClampNeg) < b then (I y 41 0 a.toNatClampNeg) else b)) := ⟨_, rfl⟩
  have hn2 : I2 y' = I y' := by rw [hI2]; exact (gU_ne _ _ _ _ _ hne).trans hn1
  obtain ⟨I3, hI3⟩ : ∃ z, z = gU I2 y 20 0 4 ((I2 y 20 0 4) + (if (I y 41 0 a.toNatClampNeg) < b then (I y 41 0 a.toNatClampNeg) else b)) := ⟨_, rfl⟩
  have hn3 : I3 y' = I y' := by rw [hI3]; exact (gU_ne _ _ _ _ _ hne).trans hn2
  by_cases c3 : (I3 y 41 0 a.toNatClampNeg) = 0
  · obtain ⟨I4, hI4⟩ : ∃ z, z = f_X5_finish I3 y x a := ⟨_, rfl⟩
    have hn4 : I4 y' = I y' := by rw [hI4]; exact (ne_X5_finish I3 y x a hy (y' := y') hne).trans hn3
    have eS : f_X5_pitch I y x a b = I4 := by simp only [f_X5_pitch, ← hI1, ← hI2, ← hI3, ← hI4, if_pos c3]
    exact (congrFun eS y').trans hn4
  · have eS : f_X5_pitch I y x a b = I3 := by simp only [f_X5_pitch, ← hI1, ← hI2, ← hI3, if_neg c3]
    exact (congrFun eS y').trans hn3
def ok_X5_rest (I : gI) (y : Nat) (x : Int32) : Prop :=
  vp_in x 6 ∧
  ∀ I1, I1 = gU I y 30 0 x.toNatClampNeg ((I y 30 0 x.toNatClampNeg) + 1) →
  ∀ I2, I2 = gU I1 y 27 0 x.toNatClampNeg ((I1 y 27 0 x.toNatClampNeg) + 1) →
  ((3 ≤ (I2 y 27 0 x.toNatClampNeg)) →
    ∀ I3, I3 = gU I2 y 27 0 x.toNatClampNeg 0 →
    ∀ I4, I4 = gU I3 y 25 0 x.toNatClampNeg 3 →
    True) ∧
  (¬ (3 ≤ (I2 y 27 0 x.toNatClampNeg)) →
    True)
def f_X5_rest (I : gI) (y : Nat) (x : Int32) : gI :=
  let I1 := gU I y 30 0 x.toNatClampNeg ((I y 30 0 x.toNatClampNeg) + 1)
  let I2 := gU I1 y 27 0 x.toNatClampNeg ((I1 y 27 0 x.toNatClampNeg) + 1)
  if 3 ≤ (I2 y 27 0 x.toNatClampNeg) then
    let I3 := gU I2 y 27 0 x.toNatClampNeg 0
    let I4 := gU I3 y 25 0 x.toNatClampNeg 3
    I4
  else
    I2
set_option maxRecDepth 100000 in
theorem ne_X5_rest (I : gI) (y : Nat) (x : Int32) (hy : y = 3 ∨ y = 4) {y' : Nat} (hne : y' ≠ y) : f_X5_rest I y x y' = I y' := by
  have hn : I y' = I y' := rfl
  obtain ⟨I1, hI1⟩ : ∃ z, z = gU I y 30 0 x.toNatClampNeg ((I y 30 0 x.toNatClampNeg) + 1) := ⟨_, rfl⟩
  have hn1 : I1 y' = I y' := by rw [hI1]; exact (gU_ne _ _ _ _ _ hne).trans hn
  obtain ⟨I2, hI2⟩ : ∃ z, z = gU I1 y 27 0 x.toNatClampNeg ((I1 y 27 0 x.toNatClampNeg) + 1) := ⟨_, rfl⟩
  have hn2 : I2 y' = I y' := by rw [hI2]; exact (gU_ne _ _ _ _ _ hne).trans hn1
  by_cases c2 : 3 ≤ (I2 y 27 0 x.toNatClampNeg)
  · obtain ⟨I3, hI3⟩ : ∃ z, z = gU I2 y 27 0 x.toNatClampNeg 0 := ⟨_, rfl⟩
    have hn3 : I3 y' = I y' := by rw [hI3]; exact (gU_ne _ _ _ _ _ hne).trans hn2
    obtain ⟨I4, hI4⟩ : ∃ z, z = gU I3 y 25 0 x.toNatClampNeg 3 := ⟨_, rfl⟩
    have hn4 : I4 y' = I y' := by rw [hI4]; exact (gU_ne _ _ _ _ _ hne).trans hn3
    have eS : f_X5_rest I y x = I4 := by simp only [f_X5_rest, ← hI1, ← hI2, ← hI3, ← hI4, if_pos c2]
    exact (congrFun eS y').trans hn4
  · have eS : f_X5_rest I y x = I2 := by simp only [f_X5_rest, ← hI1, ← hI2, if_neg c2]
    exact (congrFun eS y').trans hn2
def ok_X5_steal (I : gI) (y : Nat) (x a : Int32) : Prop :=
  ok_X5_far I y a ∧
  vp_in a 6 ∧
  ∀ I1, I1 = gU I y 31 0 a.toNatClampNeg ((I y 31 0 a.toNatClampNeg) - 1) →
  ok_X5_hold I1 y x (f_X5_far I y a) ∧
  ∀ I2, I2 = f_X5_hold I1 y x (f_X5_far I y a) →
  vp_in x 6 ∧
  ∀ I3, I3 = gU I2 y 28 0 x.toNatClampNeg ((I2 y 28 0 x.toNatClampNeg) + 1) →
  ∀ I4, I4 = gU I3 y 29 0 a.toNatClampNeg ((I3 y 29 0 a.toNatClampNeg) + 1) →
  vp_in (f_X5_far I y a) 600 ∧
  vp_in (I4 y 42 0 ((f_X5_far I y a).toNatClampNeg)) 10 ∧
  ∀ I5, I5 = gU I4 y 37 0 ((I4 y 42 0 ((f_X5_far I y a).toNatClampNeg)).toNatClampNeg) ((I4 y 37 0 ((I4 y 42 0 ((f_X5_far I y a).toNatClampNeg)).toNatClampNeg)) + 1) →
  ∀ I6, I6 = gU I5 y 20 0 1 ((I5 y 20 0 1) + 1) →
  True
def f_X5_steal (I : gI) (y : Nat) (x a : Int32) : gI :=
  let I1 := gU I y 31 0 a.toNatClampNeg ((I y 31 0 a.toNatClampNeg) - 1)
  let I2 := f_X5_hold I1 y x (f_X5_far I y a)
  let I3 := gU I2 y 28 0 x.toNatClampNeg ((I2 y 28 0 x.toNatClampNeg) + 1)
  let I4 := gU I3 y 29 0 a.toNatClampNeg ((I3 y 29 0 a.toNatClampNeg) + 1)
  let I5 := gU I4 y 37 0 ((I4 y 42 0 ((f_X5_far I y a).toNatClampNeg)).toNatClampNeg) ((I4 y 37 0 ((I4 y 42 0 ((f_X5_far I y a).toNatClampNeg)).toNatClampNeg)) + 1)
  let I6 := gU I5 y 20 0 1 ((I5 y 20 0 1) + 1)
  I6
set_option maxRecDepth 100000 in
theorem ne_X5_steal (I : gI) (y : Nat) (x a : Int32) (hy : y = 3 ∨ y = 4) {y' : Nat} (hne : y' ≠ y) : f_X5_steal I y x a y' = I y' := by
  have hn : I y' = I y' := rfl
  obtain ⟨I1, hI1⟩ : ∃ z, z = gU I y 31 0 a.toNatClampNeg ((I y 31 0 a.toNatClampNeg) - 1) := ⟨_, rfl⟩
  have hn1 : I1 y' = I y' := by rw [hI1]; exact (gU_ne _ _ _ _ _ hne).trans hn
  obtain ⟨I2, hI2⟩ : ∃ z, z = f_X5_hold I1 y x (f_X5_far I y a) := ⟨_, rfl⟩
  have hn2 : I2 y' = I y' := by rw [hI2]; exact (ne_X5_hold I1 y x (f_X5_far I y a) hy (y' := y') hne).trans hn1
  obtain ⟨I3, hI3⟩ : ∃ z, z = gU I2 y 28 0 x.toNatClampNeg ((I2 y 28 0 x.toNatClampNeg) + 1) := ⟨_, rfl⟩
  have hn3 : I3 y' = I y' := by rw [hI3]; exact (gU_ne _ _ _ _ _ hne).trans hn2
  obtain ⟨I4, hI4⟩ : ∃ z, z = gU I3 y 29 0 a.toNatClampNeg ((I3 y 29 0 a.toNatClampNeg) + 1) := ⟨_, rfl⟩
  have hn4 : I4 y' = I y' := by rw [hI4]; exact (gU_ne _ _ _ _ _ hne).trans hn3
  obtain ⟨I5, hI5⟩ : ∃ z, z = gU I4 y 37 0 ((I4 y 42 0 ((f_X5_far I y a).toNatClampNeg)).toNatClampNeg) ((I4 y 37 0 ((I4 y 42 0 ((f_X5_far I y a).toNatClampNeg)).toNatClampNeg)) + 1) := ⟨_, rfl⟩
  have hn5 : I5 y' = I y' := by rw [hI5]; exact (gU_ne _ _ _ _ _ hne).trans hn4
  obtain ⟨I6, hI6⟩ : ∃ z, z = gU I5 y 20 0 1 ((I5 y 20 0 1) + 1) := ⟨_, rfl⟩
  have hn6 : I6 y' = I y' := by rw [hI6]; exact (gU_ne _ _ _ _ _ hne).trans hn5
  have eS : f_X5_steal I y x a = I6 := by simp only [f_X5_steal, ← hI1, ← hI2, ← hI3, ← hI4, ← hI5, ← hI6]
  exact (congrFun eS y').trans hn6
/-! PRINTED by wip/gen (ref.py): X5b -/
def ok_X5_become (I : gI) (y yo : Nat) : Prop :=
  ∀ I1, I1 = gU I y 20 0 0 (I yo 20 0 0) →
  ∀ I2, I2 = gU I1 y 20 0 1 (I1 yo 20 0 1) →
  ∀ I3, I3 = gU I2 y 20 0 2 (I2 yo 20 0 2) →
  ∀ I4, I4 = gU I3 y 20 0 3 (I3 yo 20 0 3) →
  ∀ I5, I5 = gU I4 y 20 0 4 (I4 yo 20 0 4) →
  ∀ I6, I6 = gU I5 y 20 0 19 (I5 yo 20 0 19) →
  ∀ I7, I7 = f_X5_copy I6 yo 25 y 25 6 6 →
  ∀ I8, I8 = f_X5_copy I7 yo 26 y 26 6 6 →
  ∀ I9, I9 = f_X5_copy I8 yo 27 y 27 6 6 →
  ∀ I10, I10 = f_X5_copy I9 yo 28 y 28 6 6 →
  ∀ I11, I11 = f_X5_copy I10 yo 29 y 29 6 6 →
  ∀ I12, I12 = f_X5_copy I11 yo 30 y 30 6 6 →
  ∀ I13, I13 = f_X5_copy I12 yo 31 y 31 6 6 →
  ∀ I14, I14 = f_X5_copy I13 yo 32 y 32 48 48 →
  ∀ I15, I15 = f_X5_copy I14 yo 33 y 33 10 10 →
  ∀ I16, I16 = f_X5_copy I15 yo 34 y 34 10 10 →
  ∀ I17, I17 = f_X5_copy I16 yo 35 y 35 10 10 →
  ∀ I18, I18 = f_X5_copy I17 yo 36 y 36 10 10 →
  ∀ I19, I19 = f_X5_copy I18 yo 37 y 37 10 10 →
  ∀ I20, I20 = f_X5_copy I19 yo 38 y 38 10 10 →
  ¬ (I20 y 20 0 19) < 0 ∧
  (I20 y 20 0 19).toNatClampNeg ≤ 600 ∧
  ∀ I21, I21 = f_X5_copy I20 yo 40 y 40 600 (I20 y 20 0 19) →
  ¬ (I21 y 20 0 19) < 0 ∧
  (I21 y 20 0 19).toNatClampNeg ≤ 600 ∧
  ∀ I22, I22 = f_X5_copy I21 yo 41 y 41 600 (I21 y 20 0 19) →
  ¬ (I22 y 20 0 19) < 0 ∧
  (I22 y 20 0 19).toNatClampNeg ≤ 600 ∧
  ∀ I23, I23 = f_X5_copy I22 yo 42 y 42 600 (I22 y 20 0 19) →
  ¬ (I23 y 20 0 19) < 0 ∧
  (I23 y 20 0 19).toNatClampNeg ≤ 600 ∧
  ∀ I24, I24 = f_X5_copy I23 yo 43 y 43 600 (I23 y 20 0 19) →
  ¬ (I24 y 20 0 19) < 0 ∧
  (I24 y 20 0 19).toNatClampNeg ≤ 600 ∧
  ∀ I25, I25 = f_X5_copy I24 yo 44 y 44 600 (I24 y 20 0 19) →
  ¬ (I25 y 20 0 19) < 0 ∧
  (I25 y 20 0 19).toNatClampNeg ≤ 600 ∧
  ∀ I26, I26 = f_X5_copy I25 yo 45 y 45 600 (I25 y 20 0 19) →
  True
def f_X5_become_s (I : gI) (y yo : Nat) : gI :=
  let I1 := gU I y 20 0 0 (I yo 20 0 0)
  let I2 := gU I1 y 20 0 1 (I1 yo 20 0 1)
  let I3 := gU I2 y 20 0 2 (I2 yo 20 0 2)
  let I4 := gU I3 y 20 0 3 (I3 yo 20 0 3)
  let I5 := gU I4 y 20 0 4 (I4 yo 20 0 4)
  let I6 := gU I5 y 20 0 19 (I5 yo 20 0 19)
  let I7 := f_X5_copy I6 yo 25 y 25 6 6
  let I8 := f_X5_copy I7 yo 26 y 26 6 6
  let I9 := f_X5_copy I8 yo 27 y 27 6 6
  let I10 := f_X5_copy I9 yo 28 y 28 6 6
  let I11 := f_X5_copy I10 yo 29 y 29 6 6
  let I12 := f_X5_copy I11 yo 30 y 30 6 6
  let I13 := f_X5_copy I12 yo 31 y 31 6 6
  let I14 := f_X5_copy I13 yo 32 y 32 48 48
  let I15 := f_X5_copy I14 yo 33 y 33 10 10
  let I16 := f_X5_copy I15 yo 34 y 34 10 10
  let I17 := f_X5_copy I16 yo 35 y 35 10 10
  let I18 := f_X5_copy I17 yo 36 y 36 10 10
  let I19 := f_X5_copy I18 yo 37 y 37 10 10
  let I20 := f_X5_copy I19 yo 38 y 38 10 10
  let I21 := f_X5_copy I20 yo 40 y 40 600 (I20 y 20 0 19)
  let I22 := f_X5_copy I21 yo 41 y 41 600 (I21 y 20 0 19)
  let I23 := f_X5_copy I22 yo 42 y 42 600 (I22 y 20 0 19)
  let I24 := f_X5_copy I23 yo 43 y 43 600 (I23 y 20 0 19)
  let I25 := f_X5_copy I24 yo 44 y 44 600 (I24 y 20 0 19)
  let I26 := f_X5_copy I25 yo 45 y 45 600 (I25 y 20 0 19)
  I26
set_option maxRecDepth 100000 in
theorem ne_X5_become (I : gI) (y yo : Nat) (hy : y = 3 ∨ y = 4) (hyo : yo = 3 ∨ yo = 4) {y' : Nat} (hne : y' ≠ y) : f_X5_become_s I y yo y' = I y' := by
  have hn : I y' = I y' := rfl
  obtain ⟨I1, hI1⟩ : ∃ z, z = gU I y 20 0 0 (I yo 20 0 0) := ⟨_, rfl⟩
  have hn1 : I1 y' = I y' := by rw [hI1]; exact (gU_ne _ _ _ _ _ hne).trans hn
  obtain ⟨I2, hI2⟩ : ∃ z, z = gU I1 y 20 0 1 (I1 yo 20 0 1) := ⟨_, rfl⟩
  have hn2 : I2 y' = I y' := by rw [hI2]; exact (gU_ne _ _ _ _ _ hne).trans hn1
  obtain ⟨I3, hI3⟩ : ∃ z, z = gU I2 y 20 0 2 (I2 yo 20 0 2) := ⟨_, rfl⟩
  have hn3 : I3 y' = I y' := by rw [hI3]; exact (gU_ne _ _ _ _ _ hne).trans hn2
  obtain ⟨I4, hI4⟩ : ∃ z, z = gU I3 y 20 0 3 (I3 yo 20 0 3) := ⟨_, rfl⟩
  have hn4 : I4 y' = I y' := by rw [hI4]; exact (gU_ne _ _ _ _ _ hne).trans hn3
  obtain ⟨I5, hI5⟩ : ∃ z, z = gU I4 y 20 0 4 (I4 yo 20 0 4) := ⟨_, rfl⟩
  have hn5 : I5 y' = I y' := by rw [hI5]; exact (gU_ne _ _ _ _ _ hne).trans hn4
  obtain ⟨I6, hI6⟩ : ∃ z, z = gU I5 y 20 0 19 (I5 yo 20 0 19) := ⟨_, rfl⟩
  have hn6 : I6 y' = I y' := by rw [hI6]; exact (gU_ne _ _ _ _ _ hne).trans hn5
  obtain ⟨I7, hI7⟩ : ∃ z, z = f_X5_copy I6 yo 25 y 25 6 6 := ⟨_, rfl⟩
  have hn7 : I7 y' = I y' := by rw [hI7]; exact (ne_X5_copy I6 yo 25 y 25 6 6 (gvsR hyo 25 rfl) (gvsR hy 25 rfl) rfl rfl (fun _ => rfl) (fun _ => rfl) (by decide) (y' := y') hne).trans hn6
  obtain ⟨I8, hI8⟩ : ∃ z, z = f_X5_copy I7 yo 26 y 26 6 6 := ⟨_, rfl⟩
  have hn8 : I8 y' = I y' := by rw [hI8]; exact (ne_X5_copy I7 yo 26 y 26 6 6 (gvsR hyo 26 rfl) (gvsR hy 26 rfl) rfl rfl (fun _ => rfl) (fun _ => rfl) (by decide) (y' := y') hne).trans hn7
  obtain ⟨I9, hI9⟩ : ∃ z, z = f_X5_copy I8 yo 27 y 27 6 6 := ⟨_, rfl⟩
  have hn9 : I9 y' = I y' := by rw [hI9]; exact (ne_X5_copy I8 yo 27 y 27 6 6 (gvsR hyo 27 rfl) (gvsR hy 27 rfl) rfl rfl (fun _ => rfl) (fun _ => rfl) (by decide) (y' := y') hne).trans hn8
  obtain ⟨I10, hI10⟩ : ∃ z, z = f_X5_copy I9 yo 28 y 28 6 6 := ⟨_, rfl⟩
  have hn10 : I10 y' = I y' := by rw [hI10]; exact (ne_X5_copy I9 yo 28 y 28 6 6 (gvsR hyo 28 rfl) (gvsR hy 28 rfl) rfl rfl (fun _ => rfl) (fun _ => rfl) (by decide) (y' := y') hne).trans hn9
  obtain ⟨I11, hI11⟩ : ∃ z, z = f_X5_copy I10 yo 29 y 29 6 6 := ⟨_, rfl⟩
  have hn11 : I11 y' = I y' := by rw [hI11]; exact (ne_X5_copy I10 yo 29 y 29 6 6 (gvsR hyo 29 rfl) (gvsR hy 29 rfl) rfl rfl (fun _ => rfl) (fun _ => rfl) (by decide) (y' := y') hne).trans hn10
  obtain ⟨I12, hI12⟩ : ∃ z, z = f_X5_copy I11 yo 30 y 30 6 6 := ⟨_, rfl⟩
  have hn12 : I12 y' = I y' := by rw [hI12]; exact (ne_X5_copy I11 yo 30 y 30 6 6 (gvsR hyo 30 rfl) (gvsR hy 30 rfl) rfl rfl (fun _ => rfl) (fun _ => rfl) (by decide) (y' := y') hne).trans hn11
  obtain ⟨I13, hI13⟩ : ∃ z, z = f_X5_copy I12 yo 31 y 31 6 6 := ⟨_, rfl⟩
  have hn13 : I13 y' = I y' := by rw [hI13]; exact (ne_X5_copy I12 yo 31 y 31 6 6 (gvsR hyo 31 rfl) (gvsR hy 31 rfl) rfl rfl (fun _ => rfl) (fun _ => rfl) (by decide) (y' := y') hne).trans hn12
  obtain ⟨I14, hI14⟩ : ∃ z, z = f_X5_copy I13 yo 32 y 32 48 48 := ⟨_, rfl⟩
  have hn14 : I14 y' = I y' := by rw [hI14]; exact (ne_X5_copy I13 yo 32 y 32 48 48 (gvsR hyo 32 rfl) (gvsR hy 32 rfl) rfl rfl (fun _ => rfl) (fun _ => rfl) (by decide) (y' := y') hne).trans hn13
  obtain ⟨I15, hI15⟩ : ∃ z, z = f_X5_copy I14 yo 33 y 33 10 10 := ⟨_, rfl⟩
  have hn15 : I15 y' = I y' := by rw [hI15]; exact (ne_X5_copy I14 yo 33 y 33 10 10 (gvsR hyo 33 rfl) (gvsR hy 33 rfl) rfl rfl (fun _ => rfl) (fun _ => rfl) (by decide) (y' := y') hne).trans hn14
  obtain ⟨I16, hI16⟩ : ∃ z, z = f_X5_copy I15 yo 34 y 34 10 10 := ⟨_, rfl⟩
  have hn16 : I16 y' = I y' := by rw [hI16]; exact (ne_X5_copy I15 yo 34 y 34 10 10 (gvsR hyo 34 rfl) (gvsR hy 34 rfl) rfl rfl (fun _ => rfl) (fun _ => rfl) (by decide) (y' := y') hne).trans hn15
  obtain ⟨I17, hI17⟩ : ∃ z, z = f_X5_copy I16 yo 35 y 35 10 10 := ⟨_, rfl⟩
  have hn17 : I17 y' = I y' := by rw [hI17]; exact (ne_X5_copy I16 yo 35 y 35 10 10 (gvsR hyo 35 rfl) (gvsR hy 35 rfl) rfl rfl (fun _ => rfl) (fun _ => rfl) (by decide) (y' := y') hne).trans hn16
  obtain ⟨I18, hI18⟩ : ∃ z, z = f_X5_copy I17 yo 36 y 36 10 10 := ⟨_, rfl⟩
  have hn18 : I18 y' = I y' := by rw [hI18]; exact (ne_X5_copy I17 yo 36 y 36 10 10 (gvsR hyo 36 rfl) (gvsR hy 36 rfl) rfl rfl (fun _ => rfl) (fun _ => rfl) (by decide) (y' := y') hne).trans hn17
  obtain ⟨I19, hI19⟩ : ∃ z, z = f_X5_copy I18 yo 37 y 37 10 10 := ⟨_, rfl⟩
  have hn19 : I19 y' = I y' := by rw [hI19]; exact (ne_X5_copy I18 yo 37 y 37 10 10 (gvsR hyo 37 rfl) (gvsR hy 37 rfl) rfl rfl (fun _ => rfl) (fun _ => rfl) (by decide) (y' := y') hne).trans hn18
  obtain ⟨I20, hI20⟩ : ∃ z, z = f_X5_copy I19 yo 38 y 38 10 10 := ⟨_, rfl⟩
  have hn20 : I20 y' = I y' := by rw [hI20]; exact (ne_X5_copy I19 yo 38 y 38 10 10 (gvsR hyo 38 rfl) (gvsR hy 38 rfl) rfl rfl (fun _ => rfl) (fun _ => rfl) (by decide) (y' := y') hne).trans hn19
  obtain ⟨I21, hI21⟩ : ∃ z, z = f_X5_copy I20 yo 40 y 40 600 (I20 y 20 0 19) := ⟨_, rfl⟩
  have hn21 : I21 y' = I y' := by rw [hI21]; exact (ne_X5_copy I20 yo 40 y 40 600 (I20 y 20 0 19) (gvsR hyo 40 rfl) (gvsR hy 40 rfl) rfl rfl (fun _ => rfl) (fun _ => rfl) (by decide) (y' := y') hne).trans hn20
  obtain ⟨I22, hI22⟩ : ∃ z, z = f_X5_copy I21 yo 41 y 41 600 (I21 y 20 0 19) := ⟨_, rfl⟩
  have hn22 : I22 y' = I y' := by rw [hI22]; exact (ne_X5_copy I21 yo 41 y 41 600 (I21 y 20 0 19) (gvsR hyo 41 rfl) (gvsR hy 41 rfl) rfl rfl (fun _ => rfl) (fun _ => rfl) (by decide) (y' := y') hne).trans hn21
  obtain ⟨I23, hI23⟩ : ∃ z, z = f_X5_copy I22 yo 42 y 42 600 (I22 y 20 0 19) := ⟨_, rfl⟩
  have hn23 : I23 y' = I y' := by rw [hI23]; exact (ne_X5_copy I22 yo 42 y 42 600 (I22 y 20 0 19) (gvsR hyo 42 rfl) (gvsR hy 42 rfl) rfl rfl (fun _ => rfl) (fun _ => rfl) (by decide) (y' := y') hne).trans hn22
  obtain ⟨I24, hI24⟩ : ∃ z, z = f_X5_copy I23 yo 43 y 43 600 (I23 y 20 0 19) := ⟨_, rfl⟩
  have hn24 : I24 y' = I y' := by rw [hI24]; exact (ne_X5_copy I23 yo 43 y 43 600 (I23 y 20 0 19) (gvsR hyo 43 rfl) (gvsR hy 43 rfl) rfl rfl (fun _ => rfl) (fun _ => rfl) (by decide) (y' := y') hne).trans hn23
  obtain ⟨I25, hI25⟩ : ∃ z, z = f_X5_copy I24 yo 44 y 44 600 (I24 y 20 0 19) := ⟨_, rfl⟩
  have hn25 : I25 y' = I y' := by rw [hI25]; exact (ne_X5_copy I24 yo 44 y 44 600 (I24 y 20 0 19) (gvsR hyo 44 rfl) (gvsR hy 44 rfl) rfl rfl (fun _ => rfl) (fun _ => rfl) (by decide) (y' := y') hne).trans hn24
  obtain ⟨I26, hI26⟩ : ∃ z, z = f_X5_copy I25 yo 45 y 45 600 (I25 y 20 0 19) := ⟨_, rfl⟩
  have hn26 : I26 y' = I y' := by rw [hI26]; exact (ne_X5_copy I25 yo 45 y 45 600 (I25 y 20 0 19) (gvsR hyo 45 rfl) (gvsR hy 45 rfl) rfl rfl (fun _ => rfl) (fun _ => rfl) (by decide) (y' := y') hne).trans hn25
  have eS : f_X5_become_s I y yo = I26 := by simp only [f_X5_become_s, ← hI1, ← hI2, ← hI3, ← hI4, ← hI5, ← hI6, ← hI7, ← hI8, ← hI9, ← hI10, ← hI11, ← hI12, ← hI13, ← hI14, ← hI15, ← hI16, ← hI17, ← hI18, ← hI19, ← hI20, ← hI21, ← hI22, ← hI23, ← hI24, ← hI25, ← hI26]
  exact (congrFun eS y').trans hn26
/-! PRINTED by wip/gen (ref.py): X6 -/
def ok_X6_thrown (I : gI)  : Prop :=
  True
def f_X6_thrown (I : gI)  : Int32 :=
  (I 2 11 0 0)
def ok_X6_no (I : gI) (x : Int32) : Prop :=
  ∀ I1, I1 = gU I 2 11 0 0 x →
  True
def f_X6_no_v (I : gI) (x : Int32) : Int32 :=
  let I1 := gU I 2 11 0 0 x
  0
def f_X6_no_s (I : gI) (x : Int32) : gI :=
  let I1 := gU I 2 11 0 0 x
  I1
def ok_X6_isIn (I : gI) (x a b : Int32) : Prop :=
  ((x < a) →
    True) ∧
  (¬ (x < a) →
    ((b < x) →
      True) ∧
    (¬ (b < x) →
      True))
def f_X6_isIn (I : gI) (x a b : Int32) : Int32 :=
  if x < a then
    0
  else
    if b < x then
      0
    else
      1
theorem gz_isIn (I : gI) (x a b : Int32) : f_X6_isIn I x a b = 0 ∨ f_X6_isIn I x a b = 1 := by
  unfold f_X6_isIn
  split
  · exact Or.inl rfl
  · split
    · exact Or.inl rfl
    · exact Or.inr rfl

def ok_X6_isLad (I : gI) (x : Int32) : Prop :=
  ok_X6_isIn I x 0 ((I 2 11 0 1) - 1) ∧
  True
def f_X6_isLad (I : gI) (x : Int32) : Int32 :=
  (f_X6_isIn I x 0 ((I 2 11 0 1) - 1))
def ok_X6_isLoad (I : gI) (x : Int32) : Prop :=
  ok_X6_isIn I x 0 ((I 2 11 0 4) - 1) ∧
  True
def f_X6_isLoad (I : gI) (x : Int32) : Int32 :=
  (f_X6_isIn I x 0 ((I 2 11 0 4) - 1))
def ok_X6_rank (I : gI) (y : Nat) (x a : Int32) : Prop :=
  vp_in x 6 ∧
  (((I 2 13 0 x.toNatClampNeg) = 0) →
    True) ∧
  (¬ ((I 2 13 0 x.toNatClampNeg) = 0) →
    (((I 2 13 0 x.toNatClampNeg) = 1) →
      vp_in a 6 ∧
      True) ∧
    (¬ ((I 2 13 0 x.toNatClampNeg) = 1) →
      ok_X5_far I y a ∧
      vp_in (f_X5_far I y a) 600 ∧
      True))
def f_X6_rank (I : gI) (y : Nat) (x a : Int32) : Int32 :=
  if (I 2 13 0 x.toNatClampNeg) = 0 then
    0
  else
    if (I 2 13 0 x.toNatClampNeg) = 1 then
      (I y 31 0 a.toNatClampNeg)
    else
      (I y 40 0 ((f_X5_far I y a).toNatClampNeg))
def f_X6_victimOf_l1 (y : Nat) (x : Int32) : Nat → Nat → Int32 → gI → Int32
  | 0, i, a, I =>
    a
  | n + 1, i, a, I =>
    if (I 2 13 0 x.toNatClampNeg) = 0 then
      if (I y 31 0 (((x + (nI i)) - (x + (nI i)) / (I 2 11 0 1) * (I 2 11 0 1)).toNatClampNeg)) = 0 then
        f_X6_victimOf_l1 y x n (i + 1) a I
      else
        if a = (-1) then
          f_X6_victimOf_l1 y x n (i + 1) ((x + (nI i)) - (x + (nI i)) / (I 2 11 0 1) * (I 2 11 0 1)) I
        else
          if (f_X6_rank I y x ((x + (nI i)) - (x + (nI i)) / (I 2 11 0 1) * (I 2 11 0 1))) ≤ (f_X6_rank I y x a) then
            f_X6_victimOf_l1 y x n (i + 1) a I
          else
            f_X6_victimOf_l1 y x n (i + 1) ((x + (nI i)) - (x + (nI i)) / (I 2 11 0 1) * (I 2 11 0 1)) I
    else
      if x < (nI i) then
        if (I y 31 0 i) = 0 then
          f_X6_victimOf_l1 y x n (i + 1) a I
        else
          if a = (-1) then
            f_X6_victimOf_l1 y x n (i + 1) (nI i) I
          else
            if (f_X6_rank I y x (nI i)) ≤ (f_X6_rank I y x a) then
              f_X6_victimOf_l1 y x n (i + 1) a I
            else
              f_X6_victimOf_l1 y x n (i + 1) (nI i) I
      else
        if (I y 31 0 (((nI i) - 1).toNatClampNeg)) = 0 then
          f_X6_victimOf_l1 y x n (i + 1) a I
        else
          if a = (-1) then
            f_X6_victimOf_l1 y x n (i + 1) ((nI i) - 1) I
          else
            if (f_X6_rank I y x ((nI i) - 1)) ≤ (f_X6_rank I y x a) then
              f_X6_victimOf_l1 y x n (i + 1) a I
            else
              f_X6_victimOf_l1 y x n (i + 1) ((nI i) - 1) I
def ok_f_X6_victimOf_l1 (y : Nat) (x : Int32) : Nat → Nat → Int32 → gI → Prop
  | 0, i, a, I =>
    True
  | n + 1, i, a, I =>
    vp_in x 6 ∧
    (((I 2 13 0 x.toNatClampNeg) = 0) →
      ¬ (I 2 11 0 1) = 0 ∧
      vp_in ((x + (nI i)) - (x + (nI i)) / (I 2 11 0 1) * (I 2 11 0 1)) 6 ∧
      (((I y 31 0 (((x + (nI i)) - (x + (nI i)) / (I 2 11 0 1) * (I 2 11 0 1)).toNatClampNeg)) = 0) →
        ok_f_X6_victimOf_l1 y x n (i + 1) a I) ∧
      (¬ ((I y 31 0 (((x + (nI i)) - (x + (nI i)) / (I 2 11 0 1) * (I 2 11 0 1)).toNatClampNeg)) = 0) →
        ((a = (-1)) →
          ok_f_X6_victimOf_l1 y x n (i + 1) ((x + (nI i)) - (x + (nI i)) / (I 2 11 0 1) * (I 2 11 0 1)) I) ∧
        (¬ (a = (-1)) →
          ok_X6_rank I y x ((x + (nI i)) - (x + (nI i)) / (I 2 11 0 1) * (I 2 11 0 1)) ∧
          ok_X6_rank I y x a ∧
          (((f_X6_rank I y x ((x + (nI i)) - (x + (nI i)) / (I 2 11 0 1) * (I 2 11 0 1))) ≤ (f_X6_rank I y x a)) →
            ok_f_X6_victimOf_l1 y x n (i + 1) a I) ∧
          (¬ ((f_X6_rank I y x ((x + (nI i)) - (x + (nI i)) / (I 2 11 0 1) * (I 2 11 0 1))) ≤ (f_X6_rank I y x a)) →
            ok_f_X6_victimOf_l1 y x n (i + 1) ((x + (nI i)) - (x + (nI i)) / (I 2 11 0 1) * (I 2 11 0 1)) I)))) ∧
    (¬ ((I 2 13 0 x.toNatClampNeg) = 0) →
      ((x < (nI i)) →
        (((I y 31 0 i) = 0) →
          ok_f_X6_victimOf_l1 y x n (i + 1) a I) ∧
        (¬ ((I y 31 0 i) = 0) →
          ((a = (-1)) →
            ok_f_X6_victimOf_l1 y x n (i + 1) (nI i) I) ∧
          (¬ (a = (-1)) →
            ok_X6_rank I y x (nI i) ∧
            ok_X6_rank I y x a ∧
            (((f_X6_rank I y x (nI i)) ≤ (f_X6_rank I y x a)) →
              ok_f_X6_victimOf_l1 y x n (i + 1) a I) ∧
            (¬ ((f_X6_rank I y x (nI i)) ≤ (f_X6_rank I y x a)) →
              ok_f_X6_victimOf_l1 y x n (i + 1) (nI i) I)))) ∧
      (¬ (x < (nI i)) →
        vp_in ((nI i) - 1) 6 ∧
        (((I y 31 0 (((nI i) - 1).toNatClampNeg)) = 0) →
          ok_f_X6_victimOf_l1 y x n (i + 1) a I) ∧
        (¬ ((I y 31 0 (((nI i) - 1).toNatClampNeg)) = 0) →
          ((a = (-1)) →
            ok_f_X6_victimOf_l1 y x n (i + 1) ((nI i) - 1) I) ∧
          (¬ (a = (-1)) →
            ok_X6_rank I y x ((nI i) - 1) ∧
            ok_X6_rank I y x a ∧
            (((f_X6_rank I y x ((nI i) - 1)) ≤ (f_X6_rank I y x a)) →
              ok_f_X6_victimOf_l1 y x n (i + 1) a I) ∧
            (¬ ((f_X6_rank I y x ((nI i) - 1)) ≤ (f_X6_rank I y x a)) →
              ok_f_X6_victimOf_l1 y x n (i + 1) ((nI i) - 1) I)))))
def ok_X6_victimOf (I : gI) (y : Nat) (x : Int32) : Prop :=
  isN (I 2 11 0 1) 6 ∧
  ok_f_X6_victimOf_l1 y x ((I 2 11 0 1).toNatClampNeg - 1) 1 (-1) I
def f_X6_victimOf (I : gI) (y : Nat) (x : Int32) : Int32 :=
  f_X6_victimOf_l1 y x ((I 2 11 0 1).toNatClampNeg - 1) 1 (-1) I
def f_X6_inYard_l1 (y : Nat) : Nat → Nat → gI → Int32
  | 0, i, I =>
    (-1)
  | n + 1, i, I =>
    if (I y 33 0 i) = 0 then
      (nI i)
    else
      f_X6_inYard_l1 y n (i + 1) I
def ok_f_X6_inYard_l1 (y : Nat) : Nat → Nat → gI → Prop
  | 0, i, I =>
    True
  | n + 1, i, I =>
    (((I y 33 0 i) = 0) →
      True) ∧
    (¬ ((I y 33 0 i) = 0) →
      ok_f_X6_inYard_l1 y n (i + 1) I)
def ok_X6_inYard (I : gI) (y : Nat) : Prop :=
  isN (I 2 11 0 4) 10 ∧
  ok_f_X6_inYard_l1 y ((I 2 11 0 4).toNatClampNeg) 0 I
def f_X6_inYard (I : gI) (y : Nat) : Int32 :=
  f_X6_inYard_l1 y ((I 2 11 0 4).toNatClampNeg) 0 I
def ok_X6_turn (I : gI) (y : Nat) (x b : Int32) : Prop :=
  vp_in x 6 ∧
  (((I y 25 0 x.toNatClampNeg) = 3) →
    True) ∧
  (¬ ((I y 25 0 x.toNatClampNeg) = 3) →
    (((I y 25 0 x.toNatClampNeg) = 2) →
      ∀ I36, I36 = gU I y 20 0 3 ((I y 20 0 3) + 1) →
      ∀ I37, I37 = gU I36 y 27 0 x.toNatClampNeg 0 →
      ok_X5_finish I37 y x (I37 y 26 0 x.toNatClampNeg) ∧
      ∀ I38, I38 = f_X5_finish I37 y x (I37 y 26 0 x.toNatClampNeg) →
      True) ∧
    (¬ ((I y 25 0 x.toNatClampNeg) = 2) →
      (((I y 25 0 x.toNatClampNeg) = 0) →
        (((I y 31 0 x.toNatClampNeg) ≤ 0) →
          (((I y 25 0 x.toNatClampNeg) = 1) →
            ∀ I18, I18 = gU I y 27 0 x.toNatClampNeg 0 →
            vp_in (I y 26 0 x.toNatClampNeg) 600 ∧
            (((I18 y 41 0 ((I y 26 0 x.toNatClampNeg).toNatClampNeg)) = (I18 y 40 0 ((I y 26 0 x.toNatClampNeg).toNatClampNeg))) →
              (((I18 y 40 0 ((I y 26 0 x.toNatClampNeg).toNatClampNeg)) ≤ b) →
                ok_X5_pitch I18 y x (I y 26 0 x.toNatClampNeg) (I18 2 12 0 x.toNatClampNeg) ∧
                ∀ I20, I20 = f_X5_pitch I18 y x (I y 26 0 x.toNatClampNeg) (I18 2 12 0 x.toNatClampNeg) →
                True) ∧
              (¬ ((I18 y 40 0 ((I y 26 0 x.toNatClampNeg).toNatClampNeg)) ≤ b) →
                ((8 ≤ (I18 y 31 0 x.toNatClampNeg)) →
                  ok_X5_pitch I18 y x (I y 26 0 x.toNatClampNeg) (I18 2 12 0 x.toNatClampNeg) ∧
                  ∀ I21, I21 = f_X5_pitch I18 y x (I y 26 0 x.toNatClampNeg) (I18 2 12 0 x.toNatClampNeg) →
                  True) ∧
                (¬ (8 ≤ (I18 y 31 0 x.toNatClampNeg)) →
                  ok_X5_forkIt I18 y x (I y 26 0 x.toNatClampNeg) ∧
                  ∀ I22, I22 = f_X5_forkIt I18 y x (I y 26 0 x.toNatClampNeg) →
                  True))) ∧
            (¬ ((I18 y 41 0 ((I y 26 0 x.toNatClampNeg).toNatClampNeg)) = (I18 y 40 0 ((I y 26 0 x.toNatClampNeg).toNatClampNeg))) →
              ok_X5_pitch I18 y x (I y 26 0 x.toNatClampNeg) (I18 2 12 0 x.toNatClampNeg) ∧
              ∀ I19, I19 = f_X5_pitch I18 y x (I y 26 0 x.toNatClampNeg) (I18 2 12 0 x.toNatClampNeg) →
              True)) ∧
          (¬ ((I y 25 0 x.toNatClampNeg) = 1) →
            ok_X6_inYard I y ∧
            ok_X6_victimOf I y x ∧
            (((f_X6_inYard I y) = (-1)) →
              (((f_X6_victimOf I y x) = (-1)) →
                ok_X5_rest I y x ∧
                ∀ I17, I17 = f_X5_rest I y x →
                True) ∧
              (¬ ((f_X6_victimOf I y x) = (-1)) →
                ∀ I15, I15 = gU I y 27 0 x.toNatClampNeg 0 →
                ok_X5_steal I15 y x (f_X6_victimOf I y x) ∧
                ∀ I16, I16 = f_X5_steal I15 y x (f_X6_victimOf I y x) →
                True)) ∧
            (¬ ((f_X6_inYard I y) = (-1)) →
              ∀ I12, I12 = gU I y 27 0 x.toNatClampNeg 0 →
              vp_in (f_X6_inYard I y) 10 ∧
              ∀ I13, I13 = gU I12 y 33 0 ((f_X6_inYard I y).toNatClampNeg) 1 →
              ok_X5_hold I13 y x (I13 y 34 0 ((f_X6_inYard I y).toNatClampNeg)) ∧
              ∀ I14, I14 = f_X5_hold I13 y x (I13 y 34 0 ((f_X6_inYard I y).toNatClampNeg)) →
              True))) ∧
        (¬ ((I y 31 0 x.toNatClampNeg) ≤ 0) →
          ok_X5_takeNear I y x ∧
          ∀ I23, I23 = f_X5_takeNear_s I y x →
          ok_X5_hold I23 y x (f_X5_takeNear_v I y x) ∧
          ∀ I24, I24 = f_X5_hold I23 y x (f_X5_takeNear_v I y x) →
          (((I24 y 25 0 x.toNatClampNeg) = 1) →
            ∀ I31, I31 = gU I24 y 27 0 x.toNatClampNeg 0 →
            vp_in (I24 y 26 0 x.toNatClampNeg) 600 ∧
            (((I31 y 41 0 ((I24 y 26 0 x.toNatClampNeg).toNatClampNeg)) = (I31 y 40 0 ((I24 y 26 0 x.toNatClampNeg).toNatClampNeg))) →
              (((I31 y 40 0 ((I24 y 26 0 x.toNatClampNeg).toNatClampNeg)) ≤ b) →
                ok_X5_pitch I31 y x (I24 y 26 0 x.toNatClampNeg) (I31 2 12 0 x.toNatClampNeg) ∧
                ∀ I33, I33 = f_X5_pitch I31 y x (I24 y 26 0 x.toNatClampNeg) (I31 2 12 0 x.toNatClampNeg) →
                True) ∧
              (¬ ((I31 y 40 0 ((I24 y 26 0 x.toNatClampNeg).toNatClampNeg)) ≤ b) →
                ((8 ≤ (I31 y 31 0 x.toNatClampNeg)) →
                  ok_X5_pitch I31 y x (I24 y 26 0 x.toNatClampNeg) (I31 2 12 0 x.toNatClampNeg) ∧
                  ∀ I34, I34 = f_X5_pitch I31 y x (I24 y 26 0 x.toNatClampNeg) (I31 2 12 0 x.toNatClampNeg) →
                  True) ∧
                (¬ (8 ≤ (I31 y 31 0 x.toNatClampNeg)) →
                  ok_X5_forkIt I31 y x (I24 y 26 0 x.toNatClampNeg) ∧
                  ∀ I35, I35 = f_X5_forkIt I31 y x (I24 y 26 0 x.toNatClampNeg) →
                  True))) ∧
            (¬ ((I31 y 41 0 ((I24 y 26 0 x.toNatClampNeg).toNatClampNeg)) = (I31 y 40 0 ((I24 y 26 0 x.toNatClampNeg).toNatClampNeg))) →
              ok_X5_pitch I31 y x (I24 y 26 0 x.toNatClampNeg) (I31 2 12 0 x.toNatClampNeg) ∧
              ∀ I32, I32 = f_X5_pitch I31 y x (I24 y 26 0 x.toNatClampNeg) (I31 2 12 0 x.toNatClampNeg) →
              True)) ∧
          (¬ ((I24 y 25 0 x.toNatClampNeg) = 1) →
            ok_X6_inYard I24 y ∧
            ok_X6_victimOf I24 y x ∧
            (((f_X6_inYard I24 y) = (-1)) →
              (((f_X6_victimOf I24 y x) = (-1)) →
                ok_X5_rest I24 y x ∧
                ∀ I30, I30 = f_X5_rest I24 y x →
                True) ∧
              (¬ ((f_X6_victimOf I24 y x) = (-1)) →
                ∀ I28, I28 = gU I24 y 27 0 x.toNatClampNeg 0 →
                ok_X5_steal I28 y x (f_X6_victimOf I24 y x) ∧
                ∀ I29, I29 = f_X5_steal I28 y x (f_X6_victimOf I24 y x) →
                True)) ∧
            (¬ ((f_X6_inYard I24 y) = (-1)) →
              ∀ I25, I25 = gU I24 y 27 0 x.toNatClampNeg 0 →
              vp_in (f_X6_inYard I24 y) 10 ∧
              ∀ I26, I26 = gU I25 y 33 0 ((f_X6_inYard I24 y).toNatClampNeg) 1 →
              ok_X5_hold I26 y x (I26 y 34 0 ((f_X6_inYard I24 y).toNatClampNeg)) ∧
              ∀ I27, I27 = f_X5_hold I26 y x (I26 y 34 0 ((f_X6_inYard I24 y).toNatClampNeg)) →
              True)))) ∧
      (¬ ((I y 25 0 x.toNatClampNeg) = 0) →
        (((I y 25 0 x.toNatClampNeg) = 1) →
          ∀ I7, I7 = gU I y 27 0 x.toNatClampNeg 0 →
          vp_in (I y 26 0 x.toNatClampNeg) 600 ∧
          (((I7 y 41 0 ((I y 26 0 x.toNatClampNeg).toNatClampNeg)) = (I7 y 40 0 ((I y 26 0 x.toNatClampNeg).toNatClampNeg))) →
            (((I7 y 40 0 ((I y 26 0 x.toNatClampNeg).toNatClampNeg)) ≤ b) →
              ok_X5_pitch I7 y x (I y 26 0 x.toNatClampNeg) (I7 2 12 0 x.toNatClampNeg) ∧
              ∀ I9, I9 = f_X5_pitch I7 y x (I y 26 0 x.toNatClampNeg) (I7 2 12 0 x.toNatClampNeg) →
              True) ∧
            (¬ ((I7 y 40 0 ((I y 26 0 x.toNatClampNeg).toNatClampNeg)) ≤ b) →
              ((8 ≤ (I7 y 31 0 x.toNatClampNeg)) →
                ok_X5_pitch I7 y x (I y 26 0 x.toNatClampNeg) (I7 2 12 0 x.toNatClampNeg) ∧
                ∀ I10, I10 = f_X5_pitch I7 y x (I y 26 0 x.toNatClampNeg) (I7 2 12 0 x.toNatClampNeg) →
                True) ∧
              (¬ (8 ≤ (I7 y 31 0 x.toNatClampNeg)) →
                ok_X5_forkIt I7 y x (I y 26 0 x.toNatClampNeg) ∧
                ∀ I11, I11 = f_X5_forkIt I7 y x (I y 26 0 x.toNatClampNeg) →
                True))) ∧
          (¬ ((I7 y 41 0 ((I y 26 0 x.toNatClampNeg).toNatClampNeg)) = (I7 y 40 0 ((I y 26 0 x.toNatClampNeg).toNatClampNeg))) →
            ok_X5_pitch I7 y x (I y 26 0 x.toNatClampNeg) (I7 2 12 0 x.toNatClampNeg) ∧
            ∀ I8, I8 = f_X5_pitch I7 y x (I y 26 0 x.toNatClampNeg) (I7 2 12 0 x.toNatClampNeg) →
            True)) ∧
        (¬ ((I y 25 0 x.toNatClampNeg) = 1) →
          ok_X6_inYard I y ∧
          ok_X6_victimOf I y x ∧
          (((f_X6_inYard I y) = (-1)) →
            (((f_X6_victimOf I y x) = (-1)) →
              ok_X5_rest I y x ∧
              ∀ I6, I6 = f_X5_rest I y x →
              True) ∧
            (¬ ((f_X6_victimOf I y x) = (-1)) →
              ∀ I4, I4 = gU I y 27 0 x.toNatClampNeg 0 →
              ok_X5_steal I4 y x (f_X6_victimOf I y x) ∧
              ∀ I5, I5 = f_X5_steal I4 y x (f_X6_victimOf I y x) →
              True)) ∧
          (¬ ((f_X6_inYard I y) = (-1)) →
            ∀ I1, I1 = gU I y 27 0 x.toNatClampNeg 0 →
            vp_in (f_X6_inYard I y) 10 ∧
            ∀ I2, I2 = gU I1 y 33 0 ((f_X6_inYard I y).toNatClampNeg) 1 →
            ok_X5_hold I2 y x (I2 y 34 0 ((f_X6_inYard I y).toNatClampNeg)) ∧
            ∀ I3, I3 = f_X5_hold I2 y x (I2 y 34 0 ((f_X6_inYard I y).toNatClampNeg)) →
            True)))))
def f_X6_turn (I : gI) (y : Nat) (x b : Int32) : gI :=
  if (I y 25 0 x.toNatClampNeg) = 3 then
    I
  else
    if (I y 25 0 x.toNatClampNeg) = 2 then
      let I36 := gU I y 20 0 3 ((I y 20 0 3) + 1)
      let I37 := gU I36 y 27 0 x.toNatClampNeg 0
      let I38 := f_X5_finish I37 y x (I37 y 26 0 x.toNatClampNeg)
      I38
    else
      if (I y 25 0 x.toNatClampNeg) = 0 then
        if (I y 31 0 x.toNatClampNeg) ≤ 0 then
          if (I y 25 0 x.toNatClampNeg) = 1 then
            let I18 := gU I y 27 0 x.toNatClampNeg 0
            if (I18 y 41 0 ((I y 26 0 x.toNatClampNeg).toNatClampNeg)) = (I18 y 40 0 ((I y 26 0 x.toNatClampNeg).toNatClampNeg)) then
              if (I18 y 40 0 ((I y 26 0 x.toNatClampNeg).toNatClampNeg)) ≤ b then
                let I20 := f_X5_pitch I18 y x (I y 26 0 x.toNatClampNeg) (I18 2 12 0 x.toNatClampNeg)
                I20
              else
                if 8 ≤ (I18 y 31 0 x.toNatClampNeg) then
                  let I21 := f_X5_pitch I18 y x (I y 26 0 x.toNatClampNeg) (I18 2 12 0 x.toNatClampNeg)
                  I21
                else
                  let I22 := f_X5_forkIt I18 y x (I y 26 0 x.toNatClampNeg)
                  I22
            else
              let I19 := f_X5_pitch I18 y x (I y 26 0 x.toNatClampNeg) (I18 2 12 0 x.toNatClampNeg)
              I19
          else
            if (f_X6_inYard I y) = (-1) then
              if (f_X6_victimOf I y x) = (-1) then
                let I17 := f_X5_rest I y x
                I17
              else
                let I15 := gU I y 27 0 x.toNatClampNeg 0
                let I16 := f_X5_steal I15 y x (f_X6_victimOf I y x)
                I16
            else
              let I12 := gU I y 27 0 x.toNatClampNeg 0
              let I13 := gU I12 y 33 0 ((f_X6_inYard I y).toNatClampNeg) 1
              let I14 := f_X5_hold I13 y x (I13 y 34 0 ((f_X6_inYard I y).toNatClampNeg))
              I14
        else
          let I23 := f_X5_takeNear_s I y x
          let I24 := f_X5_hold I23 y x (f_X5_takeNear_v I y x)
          if (I24 y 25 0 x.toNatClampNeg) = 1 then
            let I31 := gU I24 y 27 0 x.toNatClampNeg 0
            if (I31 y 41 0 ((I24 y 26 0 x.toNatClampNeg).toNatClampNeg)) = (I31 y 40 0 ((I24 y 26 0 x.toNatClampNeg).toNatClampNeg)) then
              if (I31 y 40 0 ((I24 y 26 0 x.toNatClampNeg).toNatClampNeg)) ≤ b then
                let I33 := f_X5_pitch I31 y x (I24 y 26 0 x.toNatClampNeg) (I31 2 12 0 x.toNatClampNeg)
                I33
              else
                if 8 ≤ (I31 y 31 0 x.toNatClampNeg) then
                  let I34 := f_X5_pitch I31 y x (I24 y 26 0 x.toNatClampNeg) (I31 2 12 0 x.toNatClampNeg)
                  I34
                else
                  let I35 := f_X5_forkIt I31 y x (I24 y 26 0 x.toNatClampNeg)
                  I35
            else
              let I32 := f_X5_pitch I31 y x (I24 y 26 0 x.toNatClampNeg) (I31 2 12 0 x.toNatClampNeg)
              I32
          else
            if (f_X6_inYard I24 y) = (-1) then
              if (f_X6_victimOf I24 y x) = (-1) then
                let I30 := f_X5_rest I24 y x
                I30
              else
                let I28 := gU I24 y 27 0 x.toNatClampNeg 0
                let I29 := f_X5_steal I28 y x (f_X6_victimOf I24 y x)
                I29
            else
              let I25 := gU I24 y 27 0 x.toNatClampNeg 0
              let I26 := gU I25 y 33 0 ((f_X6_inYard I24 y).toNatClampNeg) 1
              let I27 := f_X5_hold I26 y x (I26 y 34 0 ((f_X6_inYard I24 y).toNatClampNeg))
              I27
      else
        if (I y 25 0 x.toNatClampNeg) = 1 then
          let I7 := gU I y 27 0 x.toNatClampNeg 0
          if (I7 y 41 0 ((I y 26 0 x.toNatClampNeg).toNatClampNeg)) = (I7 y 40 0 ((I y 26 0 x.toNatClampNeg).toNatClampNeg)) then
            if (I7 y 40 0 ((I y 26 0 x.toNatClampNeg).toNatClampNeg)) ≤ b then
              let I9 := f_X5_pitch I7 y x (I y 26 0 x.toNatClampNeg) (I7 2 12 0 x.toNatClampNeg)
              I9
            else
              if 8 ≤ (I7 y 31 0 x.toNatClampNeg) then
                let I10 := f_X5_pitch I7 y x (I y 26 0 x.toNatClampNeg) (I7 2 12 0 x.toNatClampNeg)
                I10
              else
                let I11 := f_X5_forkIt I7 y x (I y 26 0 x.toNatClampNeg)
                I11
          else
            let I8 := f_X5_pitch I7 y x (I y 26 0 x.toNatClampNeg) (I7 2 12 0 x.toNatClampNeg)
            I8
        else
          if (f_X6_inYard I y) = (-1) then
            if (f_X6_victimOf I y x) = (-1) then
              let I6 := f_X5_rest I y x
              I6
            else
              let I4 := gU I y 27 0 x.toNatClampNeg 0
              let I5 := f_X5_steal I4 y x (f_X6_victimOf I y x)
              I5
          else
            let I1 := gU I y 27 0 x.toNatClampNeg 0
            let I2 := gU I1 y 33 0 ((f_X6_inYard I y).toNatClampNeg) 1
            let I3 := f_X5_hold I2 y x (I2 y 34 0 ((f_X6_inYard I y).toNatClampNeg))
            I3
set_option maxRecDepth 100000 in
theorem ne_X6_turn (I : gI) (y : Nat) (x b : Int32) (hy : y = 3 ∨ y = 4) {y' : Nat} (hne : y' ≠ y) : f_X6_turn I y x b y' = I y' := by
  have hn : I y' = I y' := rfl
  by_cases c2 : (I y 25 0 x.toNatClampNeg) = 3
  · have eS : f_X6_turn I y x b = I := by simp only [f_X6_turn, if_pos c2]
    exact (congrFun eS y').trans hn
  · by_cases c3 : (I y 25 0 x.toNatClampNeg) = 2
    · obtain ⟨I36, hI36⟩ : ∃ z, z = gU I y 20 0 3 ((I y 20 0 3) + 1) := ⟨_, rfl⟩
      have hn36 : I36 y' = I y' := by rw [hI36]; exact (gU_ne _ _ _ _ _ hne).trans hn
      obtain ⟨I37, hI37⟩ : ∃ z, z = gU I36 y 27 0 x.toNatClampNeg 0 := ⟨_, rfl⟩
      have hn37 : I37 y' = I y' := by rw [hI37]; exact (gU_ne _ _ _ _ _ hne).trans hn36
      obtain ⟨I38, hI38⟩ : ∃ z, z = f_X5_finish I37 y x (I37 y 26 0 x.toNatClampNeg) := ⟨_, rfl⟩
      have hn38 : I38 y' = I y' := by rw [hI38]; exact (ne_X5_finish I37 y x (I37 y 26 0 x.toNatClampNeg) hy (y' := y') hne).trans hn37
      have eS : f_X6_turn I y x b = I38 := by simp only [f_X6_turn, ← hI36, ← hI37, ← hI38, if_neg c2, if_pos c3]
      exact (congrFun eS y').trans hn38
    · by_cases c4 : (I y 25 0 x.toNatClampNeg) = 0
      · by_cases c24 : (I y 31 0 x.toNatClampNeg) ≤ 0
        · by_cases c25 : (I y 25 0 x.toNatClampNeg) = 1
          · obtain ⟨I18, hI18⟩ : ∃ z, z = gU I y 27 0 x.toNatClampNeg 0 := ⟨_, rfl⟩
            have hn18 : I18 y' = I y' := by rw [hI18]; exact (gU_ne _ _ _ _ _ hne).trans hn
            by_cases c37 : (I18 y 41 0 ((I y 26 0 x.toNatClampNeg).toNatClampNeg)) = (I18 y 40 0 ((I y 26 0 x.toNatClampNeg).toNatClampNeg))
            · by_cases c39 : (I18 y 40 0 ((I y 26 0 x.toNatClampNeg).toNatClampNeg)) ≤ b
              · obtain ⟨I20, hI20⟩ : ∃ z, z = f_X5_pitch I18 y x (I y 26 0 x.toNatClampNeg) (I18 2 12 0 x.toNatClampNeg) := ⟨_, rfl⟩
                have hn20 : I20 y' = I y' := by rw [hI20]; exact (ne_X5_pitch I18 y x (I y 26 0 x.toNatClampNeg) (I18 2 12 0 x.toNatClampNeg) hy (y' := y') hne).trans hn18
                have eS : f_X6_turn I y x b = I20 := by simp only [f_X6_turn, ← hI18, ← hI20, if_neg c2, if_neg c3, if_pos c4, if_pos c24, if_pos c25, if_pos c37, if_pos c39]
                exact (congrFun eS y').trans hn20
              · by_cases c41 : 8 ≤ (I18 y 31 0 x.toNatClampNeg)
                · obtain ⟨I21, hI21⟩ : ∃ z, z = f_X5_pitch I18 y x (I y 26 0 x.toNatClampNeg) (I18 2 12 0 x.toNatClampNeg) := ⟨_, rfl⟩
                  have hn21 : I21 y' = I y' := by rw [hI21]; exact (ne_X5_pitch I18 y x (I y 26 0 x.toNatClampNeg) (I18 2 12 0 x.toNatClampNeg) hy (y' := y') hne).trans hn18
                  have eS : f_X6_turn I y x b = I21 := by simp only [f_X6_turn, ← hI18, ← hI21, if_neg c2, if_neg c3, if_pos c4, if_pos c24, if_pos c25, if_pos c37, if_neg c39, if_pos c41]
                  exact (congrFun eS y').trans hn21
                · obtain ⟨I22, hI22⟩ : ∃ z, z = f_X5_forkIt I18 y x (I y 26 0 x.toNatClampNeg) := ⟨_, rfl⟩
                  have hn22 : I22 y' = I y' := by rw [hI22]; exact (ne_X5_forkIt I18 y x (I y 26 0 x.toNatClampNeg) hy (y' := y') hne).trans hn18
                  have eS : f_X6_turn I y x b = I22 := by simp only [f_X6_turn, ← hI18, ← hI22, if_neg c2, if_neg c3, if_pos c4, if_pos c24, if_pos c25, if_pos c37, if_neg c39, if_neg c41]
                  exact (congrFun eS y').trans hn22
            · obtain ⟨I19, hI19⟩ : ∃ z, z = f_X5_pitch I18 y x (I y 26 0 x.toNatClampNeg) (I18 2 12 0 x.toNatClampNeg) := ⟨_, rfl⟩
              have hn19 : I19 y' = I y' := by rw [hI19]; exact (ne_X5_pitch I18 y x (I y 26 0 x.toNatClampNeg) (I18 2 12 0 x.toNatClampNeg) hy (y' := y') hne).trans hn18
              have eS : f_X6_turn I y x b = I19 := by simp only [f_X6_turn, ← hI18, ← hI19, if_neg c2, if_neg c3, if_pos c4, if_pos c24, if_pos c25, if_neg c37]
              exact (congrFun eS y').trans hn19
          · by_cases c28 : (f_X6_inYard I y) = (-1)
            · by_cases c32 : (f_X6_victimOf I y x) = (-1)
              · obtain ⟨I17, hI17⟩ : ∃ z, z = f_X5_rest I y x := ⟨_, rfl⟩
                have hn17 : I17 y' = I y' := by rw [hI17]; exact (ne_X5_rest I y x hy (y' := y') hne).trans hn
                have eS : f_X6_turn I y x b = I17 := by simp only [f_X6_turn, ← hI17, if_neg c2, if_neg c3, if_pos c4, if_pos c24, if_neg c25, if_pos c28, if_pos c32]
                exact (congrFun eS y').trans hn17
              · obtain ⟨I15, hI15⟩ : ∃ z, z = gU I y 27 0 x.toNatClampNeg 0 := ⟨_, rfl⟩
                have hn15 : I15 y' = I y' := by rw [hI15]; exact (gU_ne _ _ _ _ _ hne).trans hn
                obtain ⟨I16, hI16⟩ : ∃ z, z = f_X5_steal I15 y x (f_X6_victimOf I y x) := ⟨_, rfl⟩
                have hn16 : I16 y' = I y' := by rw [hI16]; exact (ne_X5_steal I15 y x (f_X6_victimOf I y x) hy (y' := y') hne).trans hn15
                have eS : f_X6_turn I y x b = I16 := by simp only [f_X6_turn, ← hI15, ← hI16, if_neg c2, if_neg c3, if_pos c4, if_pos c24, if_neg c25, if_pos c28, if_neg c32]
                exact (congrFun eS y').trans hn16
            · obtain ⟨I12, hI12⟩ : ∃ z, z = gU I y 27 0 x.toNatClampNeg 0 := ⟨_, rfl⟩
              have hn12 : I12 y' = I y' := by rw [hI12]; exact (gU_ne _ _ _ _ _ hne).trans hn
              obtain ⟨I13, hI13⟩ : ∃ z, z = gU I12 y 33 0 ((f_X6_inYard I y).toNatClampNeg) 1 := ⟨_, rfl⟩
              have hn13 : I13 y' = I y' := by rw [hI13]; exact (gU_ne _ _ _ _ _ hne).trans hn12
              obtain ⟨I14, hI14⟩ : ∃ z, z = f_X5_hold I13 y x (I13 y 34 0 ((f_X6_inYard I y).toNatClampNeg)) := ⟨_, rfl⟩
              have hn14 : I14 y' = I y' := by rw [hI14]; exact (ne_X5_hold I13 y x (I13 y 34 0 ((f_X6_inYard I y).toNatClampNeg)) hy (y' := y') hne).trans hn13
              have eS : f_X6_turn I y x b = I14 := by simp only [f_X6_turn, ← hI12, ← hI13, ← hI14, if_neg c2, if_neg c3, if_pos c4, if_pos c24, if_neg c25, if_neg c28]
              exact (congrFun eS y').trans hn14
        · obtain ⟨I23, hI23⟩ : ∃ z, z = f_X5_takeNear_s I y x := ⟨_, rfl⟩
          have hn23 : I23 y' = I y' := by rw [hI23]; exact (ne_X5_takeNear I y x hy (y' := y') hne).trans hn
          obtain ⟨I24, hI24⟩ : ∃ z, z = f_X5_hold I23 y x (f_X5_takeNear_v I y x) := ⟨_, rfl⟩
          have hn24 : I24 y' = I y' := by rw [hI24]; exact (ne_X5_hold I23 y x (f_X5_takeNear_v I y x) hy (y' := y') hne).trans hn23
          by_cases c46 : (I24 y 25 0 x.toNatClampNeg) = 1
          · obtain ⟨I31, hI31⟩ : ∃ z, z = gU I24 y 27 0 x.toNatClampNeg 0 := ⟨_, rfl⟩
            have hn31 : I31 y' = I y' := by rw [hI31]; exact (gU_ne _ _ _ _ _ hne).trans hn24
            by_cases c58 : (I31 y 41 0 ((I24 y 26 0 x.toNatClampNeg).toNatClampNeg)) = (I31 y 40 0 ((I24 y 26 0 x.toNatClampNeg).toNatClampNeg))
            · by_cases c60 : (I31 y 40 0 ((I24 y 26 0 x.toNatClampNeg).toNatClampNeg)) ≤ b
              · obtain ⟨I33, hI33⟩ : ∃ z, z = f_X5_pitch I31 y x (I24 y 26 0 x.toNatClampNeg) (I31 2 12 0 x.toNatClampNeg) := ⟨_, rfl⟩
                have hn33 : I33 y' = I y' := by rw [hI33]; exact (ne_X5_pitch I31 y x (I24 y 26 0 x.toNatClampNeg) (I31 2 12 0 x.toNatClampNeg) hy (y' := y') hne).trans hn31
                have eS : f_X6_turn I y x b = I33 := by simp only [f_X6_turn, ← hI23, ← hI24, ← hI31, ← hI33, if_neg c2, if_neg c3, if_pos c4, if_neg c24, if_pos c46, if_pos c58, if_pos c60]
                exact (congrFun eS y').trans hn33
              · by_cases c62 : 8 ≤ (I31 y 31 0 x.toNatClampNeg)
                · obtain ⟨I34, hI34⟩ : ∃ z, z = f_X5_pitch I31 y x (I24 y 26 0 x.toNatClampNeg) (I31 2 12 0 x.toNatClampNeg) := ⟨_, rfl⟩
                  have hn34 : I34 y' = I y' := by rw [hI34]; exact (ne_X5_pitch I31 y x (I24 y 26 0 x.toNatClampNeg) (I31 2 12 0 x.toNatClampNeg) hy (y' := y') hne).trans hn31
                  have eS : f_X6_turn I y x b = I34 := by simp only [f_X6_turn, ← hI23, ← hI24, ← hI31, ← hI34, if_neg c2, if_neg c3, if_pos c4, if_neg c24, if_pos c46, if_pos c58, if_neg c60, if_pos c62]
                  exact (congrFun eS y').trans hn34
                · obtain ⟨I35, hI35⟩ : ∃ z, z = f_X5_forkIt I31 y x (I24 y 26 0 x.toNatClampNeg) := ⟨_, rfl⟩
                  have hn35 : I35 y' = I y' := by rw [hI35]; exact (ne_X5_forkIt I31 y x (I24 y 26 0 x.toNatClampNeg) hy (y' := y') hne).trans hn31
                  have eS : f_X6_turn I y x b = I35 := by simp only [f_X6_turn, ← hI23, ← hI24, ← hI31, ← hI35, if_neg c2, if_neg c3, if_pos c4, if_neg c24, if_pos c46, if_pos c58, if_neg c60, if_neg c62]
                  exact (congrFun eS y').trans hn35
            · obtain ⟨I32, hI32⟩ : ∃ z, z = f_X5_pitch I31 y x (I24 y 26 0 x.toNatClampNeg) (I31 2 12 0 x.toNatClampNeg) := ⟨_, rfl⟩
              have hn32 : I32 y' = I y' := by rw [hI32]; exact (ne_X5_pitch I31 y x (I24 y 26 0 x.toNatClampNeg) (I31 2 12 0 x.toNatClampNeg) hy (y' := y') hne).trans hn31
              have eS : f_X6_turn I y x b = I32 := by simp only [f_X6_turn, ← hI23, ← hI24, ← hI31, ← hI32, if_neg c2, if_neg c3, if_pos c4, if_neg c24, if_pos c46, if_neg c58]
              exact (congrFun eS y').trans hn32
          · by_cases c49 : (f_X6_inYard I24 y) = (-1)
            · by_cases c53 : (f_X6_victimOf I24 y x) = (-1)
              · obtain ⟨I30, hI30⟩ : ∃ z, z = f_X5_rest I24 y x := ⟨_, rfl⟩
                have hn30 : I30 y' = I y' := by rw [hI30]; exact (ne_X5_rest I24 y x hy (y' := y') hne).trans hn24
                have eS : f_X6_turn I y x b = I30 := by simp only [f_X6_turn, ← hI23, ← hI24, ← hI30, if_neg c2, if_neg c3, if_pos c4, if_neg c24, if_neg c46, if_pos c49, if_pos c53]
                exact (congrFun eS y').trans hn30
              · obtain ⟨I28, hI28⟩ : ∃ z, z = gU I24 y 27 0 x.toNatClampNeg 0 := ⟨_, rfl⟩
                have hn28 : I28 y' = I y' := by rw [hI28]; exact (gU_ne _ _ _ _ _ hne).trans hn24
                obtain ⟨I29, hI29⟩ : ∃ z, z = f_X5_steal I28 y x (f_X6_victimOf I24 y x) := ⟨_, rfl⟩
                have hn29 : I29 y' = I y' := by rw [hI29]; exact (ne_X5_steal I28 y x (f_X6_victimOf I24 y x) hy (y' := y') hne).trans hn28
                have eS : f_X6_turn I y x b = I29 := by simp only [f_X6_turn, ← hI23, ← hI24, ← hI28, ← hI29, if_neg c2, if_neg c3, if_pos c4, if_neg c24, if_neg c46, if_pos c49, if_neg c53]
                exact (congrFun eS y').trans hn29
            · obtain ⟨I25, hI25⟩ : ∃ z, z = gU I24 y 27 0 x.toNatClampNeg 0 := ⟨_, rfl⟩
              have hn25 : I25 y' = I y' := by rw [hI25]; exact (gU_ne _ _ _ _ _ hne).trans hn24
              obtain ⟨I26, hI26⟩ : ∃ z, z = gU I25 y 33 0 ((f_X6_inYard I24 y).toNatClampNeg) 1 := ⟨_, rfl⟩
              have hn26 : I26 y' = I y' := by rw [hI26]; exact (gU_ne _ _ _ _ _ hne).trans hn25
              obtain ⟨I27, hI27⟩ : ∃ z, z = f_X5_hold I26 y x (I26 y 34 0 ((f_X6_inYard I24 y).toNatClampNeg)) := ⟨_, rfl⟩
              have hn27 : I27 y' = I y' := by rw [hI27]; exact (ne_X5_hold I26 y x (I26 y 34 0 ((f_X6_inYard I24 y).toNatClampNeg)) hy (y' := y') hne).trans hn26
              have eS : f_X6_turn I y x b = I27 := by simp only [f_X6_turn, ← hI23, ← hI24, ← hI25, ← hI26, ← hI27, if_neg c2, if_neg c3, if_pos c4, if_neg c24, if_neg c46, if_neg c49]
              exact (congrFun eS y').trans hn27
      · by_cases c5 : (I y 25 0 x.toNatClampNeg) = 1
        · obtain ⟨I7, hI7⟩ : ∃ z, z = gU I y 27 0 x.toNatClampNeg 0 := ⟨_, rfl⟩
          have hn7 : I7 y' = I y' := by rw [hI7]; exact (gU_ne _ _ _ _ _ hne).trans hn
          by_cases c17 : (I7 y 41 0 ((I y 26 0 x.toNatClampNeg).toNatClampNeg)) = (I7 y 40 0 ((I y 26 0 x.toNatClampNeg).toNatClampNeg))
          · by_cases c19 : (I7 y 40 0 ((I y 26 0 x.toNatClampNeg).toNatClampNeg)) ≤ b
            · obtain ⟨I9, hI9⟩ : ∃ z, z = f_X5_pitch I7 y x (I y 26 0 x.toNatClampNeg) (I7 2 12 0 x.toNatClampNeg) := ⟨_, rfl⟩
              have hn9 : I9 y' = I y' := by rw [hI9]; exact (ne_X5_pitch I7 y x (I y 26 0 x.toNatClampNeg) (I7 2 12 0 x.toNatClampNeg) hy (y' := y') hne).trans hn7
              have eS : f_X6_turn I y x b = I9 := by simp only [f_X6_turn, ← hI7, ← hI9, if_neg c2, if_neg c3, if_neg c4, if_pos c5, if_pos c17, if_pos c19]
              exact (congrFun eS y').trans hn9
            · by_cases c21 : 8 ≤ (I7 y 31 0 x.toNatClampNeg)
              · obtain ⟨I10, hI10⟩ : ∃ z, z = f_X5_pitch I7 y x (I y 26 0 x.toNatClampNeg) (I7 2 12 0 x.toNatClampNeg) := ⟨_, rfl⟩
                have hn10 : I10 y' = I y' := by rw [hI10]; exact (ne_X5_pitch I7 y x (I y 26 0 x.toNatClampNeg) (I7 2 12 0 x.toNatClampNeg) hy (y' := y') hne).trans hn7
                have eS : f_X6_turn I y x b = I10 := by simp only [f_X6_turn, ← hI7, ← hI10, if_neg c2, if_neg c3, if_neg c4, if_pos c5, if_pos c17, if_neg c19, if_pos c21]
                exact (congrFun eS y').trans hn10
              · obtain ⟨I11, hI11⟩ : ∃ z, z = f_X5_forkIt I7 y x (I y 26 0 x.toNatClampNeg) := ⟨_, rfl⟩
                have hn11 : I11 y' = I y' := by rw [hI11]; exact (ne_X5_forkIt I7 y x (I y 26 0 x.toNatClampNeg) hy (y' := y') hne).trans hn7
                have eS : f_X6_turn I y x b = I11 := by simp only [f_X6_turn, ← hI7, ← hI11, if_neg c2, if_neg c3, if_neg c4, if_pos c5, if_pos c17, if_neg c19, if_neg c21]
                exact (congrFun eS y').trans hn11
          · obtain ⟨I8, hI8⟩ : ∃ z, z = f_X5_pitch I7 y x (I y 26 0 x.toNatClampNeg) (I7 2 12 0 x.toNatClampNeg) := ⟨_, rfl⟩
            have hn8 : I8 y' = I y' := by rw [hI8]; exact (ne_X5_pitch I7 y x (I y 26 0 x.toNatClampNeg) (I7 2 12 0 x.toNatClampNeg) hy (y' := y') hne).trans hn7
            have eS : f_X6_turn I y x b = I8 := by simp only [f_X6_turn, ← hI7, ← hI8, if_neg c2, if_neg c3, if_neg c4, if_pos c5, if_neg c17]
            exact (congrFun eS y').trans hn8
        · by_cases c8 : (f_X6_inYard I y) = (-1)
          · by_cases c12 : (f_X6_victimOf I y x) = (-1)
            · obtain ⟨I6, hI6⟩ : ∃ z, z = f_X5_rest I y x := ⟨_, rfl⟩
              have hn6 : I6 y' = I y' := by rw [hI6]; exact (ne_X5_rest I y x hy (y' := y') hne).trans hn
              have eS : f_X6_turn I y x b = I6 := by simp only [f_X6_turn, ← hI6, if_neg c2, if_neg c3, if_neg c4, if_neg c5, if_pos c8, if_pos c12]
              exact (congrFun eS y').trans hn6
            · obtain ⟨I4, hI4⟩ : ∃ z, z = gU I y 27 0 x.toNatClampNeg 0 := ⟨_, rfl⟩
              have hn4 : I4 y' = I y' := by rw [hI4]; exact (gU_ne _ _ _ _ _ hne).trans hn
              obtain ⟨I5, hI5⟩ : ∃ z, z = f_X5_steal I4 y x (f_X6_victimOf I y x) := ⟨_, rfl⟩
              have hn5 : I5 y' = I y' := by rw [hI5]; exact (ne_X5_steal I4 y x (f_X6_victimOf I y x) hy (y' := y') hne).trans hn4
              have eS : f_X6_turn I y x b = I5 := by simp only [f_X6_turn, ← hI4, ← hI5, if_neg c2, if_neg c3, if_neg c4, if_neg c5, if_pos c8, if_neg c12]
              exact (congrFun eS y').trans hn5
          · obtain ⟨I1, hI1⟩ : ∃ z, z = gU I y 27 0 x.toNatClampNeg 0 := ⟨_, rfl⟩
            have hn1 : I1 y' = I y' := by rw [hI1]; exact (gU_ne _ _ _ _ _ hne).trans hn
            obtain ⟨I2, hI2⟩ : ∃ z, z = gU I1 y 33 0 ((f_X6_inYard I y).toNatClampNeg) 1 := ⟨_, rfl⟩
            have hn2 : I2 y' = I y' := by rw [hI2]; exact (gU_ne _ _ _ _ _ hne).trans hn1
            obtain ⟨I3, hI3⟩ : ∃ z, z = f_X5_hold I2 y x (I2 y 34 0 ((f_X6_inYard I y).toNatClampNeg)) := ⟨_, rfl⟩
            have hn3 : I3 y' = I y' := by rw [hI3]; exact (ne_X5_hold I2 y x (I2 y 34 0 ((f_X6_inYard I y).toNatClampNeg)) hy (y' := y') hne).trans hn2
            have eS : f_X6_turn I y x b = I3 := by simp only [f_X6_turn, ← hI1, ← hI2, ← hI3, if_neg c2, if_neg c3, if_neg c4, if_neg c5, if_neg c8]
            exact (congrFun eS y').trans hn3
def f_X6_pass_l1 (y : Nat) (b : Int32) : Nat → Nat → gI → gI
  | 0, i, I1 =>
    let I2 := gU I1 y 20 0 0 ((I1 y 20 0 0) + 1)
    I2
  | n + 1, i, I1 =>
    let I3 := f_X6_turn I1 y (nI i) b
    f_X6_pass_l1 y b n (i + 1) I3
def ok_f_X6_pass_l1 (y : Nat) (b : Int32) : Nat → Nat → gI → Prop
  | 0, i, I1 =>
    (I1 2 11 0 1) = nI (i + 0) ∧
    ∀ I2, I2 = gU I1 y 20 0 0 ((I1 y 20 0 0) + 1) →
    True
  | n + 1, i, I1 =>
    (I1 2 11 0 1) = nI (i + (n + 1)) ∧
    ok_X6_turn I1 y (nI i) b ∧
    ∀ I3, I3 = f_X6_turn I1 y (nI i) b →
    ok_f_X6_pass_l1 y b n (i + 1) I3
def ok_X6_pass (I : gI) (y : Nat) (b : Int32) : Prop :=
  isN (I 2 11 0 1) 6 ∧
  ok_f_X6_pass_l1 y b ((I 2 11 0 1).toNatClampNeg) 0 I
def f_X6_pass (I : gI) (y : Nat) (b : Int32) : gI :=
  f_X6_pass_l1 y b ((I 2 11 0 1).toNatClampNeg) 0 I
set_option maxRecDepth 100000 in
theorem ne_f_X6_pass_l1 (I : gI) (y : Nat) (b : Int32) (hy : y = 3 ∨ y = 4) {y' : Nat} (hne : y' ≠ y) : ∀ (n i : Nat) (I1 : gI), f_X6_pass_l1 y b n i I1 y' = I1 y' := by
  intro n
  induction n with
  | zero =>
    intro i I1
    have hn1 : I1 y' = I1 y' := rfl
    obtain ⟨I2, hI2⟩ : ∃ z, z = gU I1 y 20 0 0 ((I1 y 20 0 0) + 1) := ⟨_, rfl⟩
    have hn2 : I2 y' = I1 y' := by rw [hI2]; exact (gU_ne _ _ _ _ _ hne).trans hn1
    have eS : f_X6_pass_l1 y b 0 i I1 = I2 := by simp only [f_X6_pass_l1, ← hI2]
    exact (congrFun eS y').trans hn2
  | succ n ih =>
    intro i I1
    have hn1 : I1 y' = I1 y' := rfl
    obtain ⟨I3, hI3⟩ : ∃ z, z = f_X6_turn I1 y (nI i) b := ⟨_, rfl⟩
    have hn3 : I3 y' = I1 y' := by rw [hI3]; exact (ne_X6_turn I1 y (nI i) b hy (y' := y') hne).trans hn1
    have eS : f_X6_pass_l1 y b (n + 1) i I1 = f_X6_pass_l1 y b n (i + 1) I3 := by simp only [f_X6_pass_l1, ← hI3]
    exact (congrFun eS y').trans ((ih (i + 1) I3).trans hn3)
set_option maxRecDepth 100000 in
theorem ne_X6_pass (I : gI) (y : Nat) (b : Int32) (hy : y = 3 ∨ y = 4) {y' : Nat} (hne : y' ≠ y) : f_X6_pass I y b y' = I y' := by
  have hn : I y' = I y' := rfl
  have eS : f_X6_pass I y b = f_X6_pass_l1 y b ((I 2 11 0 1).toNatClampNeg) 0 I := by simp only [f_X6_pass]
  exact (congrFun eS y').trans ((ne_f_X6_pass_l1 I y b hy hne ((I 2 11 0 1).toNatClampNeg) 0 I).trans hn)
def f_X6_passAll_l1_s (y : Nat) (x b : Int32) : Nat → Nat → gI → gI
  | 0, i, I1 =>
    I1
  | n + 1, i, I1 =>
    let I2 := f_X6_pass I1 y b
    f_X6_passAll_l1_s y x b n (i + 1) I2
def ok_f_X6_passAll_l1 (y : Nat) (x b : Int32) : Nat → Nat → gI → Prop
  | 0, i, I1 =>
    x = nI (i + 0) ∧
    True
  | n + 1, i, I1 =>
    x = nI (i + (n + 1)) ∧
    ok_X6_pass I1 y b ∧
    ∀ I2, I2 = f_X6_pass I1 y b →
    ok_f_X6_passAll_l1 y x b n (i + 1) I2
def ok_X6_passAll (I : gI) (y : Nat) (x b : Int32) : Prop :=
  isN x 400 ∧
  ok_f_X6_passAll_l1 y x b x.toNatClampNeg 0 I
def f_X6_passAll_s (I : gI) (y : Nat) (x b : Int32) : gI :=
  f_X6_passAll_l1_s y x b x.toNatClampNeg 0 I
set_option maxRecDepth 100000 in
theorem ne_f_X6_passAll_l1_s (I : gI) (y : Nat) (x b : Int32) (hy : y = 3 ∨ y = 4) {y' : Nat} (hne : y' ≠ y) : ∀ (n i : Nat) (I1 : gI), f_X6_passAll_l1_s y x b n i I1 y' = I1 y' := by
  intro n
  induction n with
  | zero =>
    intro i I1
    have hn1 : I1 y' = I1 y' := rfl
    have eS : f_X6_passAll_l1_s y x b 0 i I1 = I1 := by simp only [f_X6_passAll_l1_s]
    exact (congrFun eS y').trans hn1
  | succ n ih =>
    intro i I1
    have hn1 : I1 y' = I1 y' := rfl
    obtain ⟨I2, hI2⟩ : ∃ z, z = f_X6_pass I1 y b := ⟨_, rfl⟩
    have hn2 : I2 y' = I1 y' := by rw [hI2]; exact (ne_X6_pass I1 y b hy (y' := y') hne).trans hn1
    have eS : f_X6_passAll_l1_s y x b (n + 1) i I1 = f_X6_passAll_l1_s y x b n (i + 1) I2 := by simp only [f_X6_passAll_l1_s, ← hI2]
    exact (congrFun eS y').trans ((ih (i + 1) I2).trans hn2)
set_option maxRecDepth 100000 in
theorem ne_X6_passAll (I : gI) (y : Nat) (x b : Int32) (hy : y = 3 ∨ y = 4) {y' : Nat} (hne : y' ≠ y) : f_X6_passAll_s I y x b y' = I y' := by
  have hn : I y' = I y' := rfl
  have eS : f_X6_passAll_s I y x b = f_X6_passAll_l1_s y x b x.toNatClampNeg 0 I := by simp only [f_X6_passAll_s]
  exact (congrFun eS y').trans ((ne_f_X6_passAll_l1_s I y x b hy hne x.toNatClampNeg 0 I).trans hn)
def f_X6_sleepers_l1 (y : Nat) : Nat → Nat → Int32 → gI → Int32
  | 0, i, a, I =>
    a
  | n + 1, i, a, I =>
    if (I y 25 0 i) = 3 then
      f_X6_sleepers_l1 y n (i + 1) (a + 1) I
    else
      f_X6_sleepers_l1 y n (i + 1) (a + 0) I
def ok_f_X6_sleepers_l1 (y : Nat) : Nat → Nat → Int32 → gI → Prop
  | 0, i, a, I =>
    True
  | n + 1, i, a, I =>
    (((I y 25 0 i) = 3) →
      ok_f_X6_sleepers_l1 y n (i + 1) (a + 1) I) ∧
    (¬ ((I y 25 0 i) = 3) →
      ok_f_X6_sleepers_l1 y n (i + 1) (a + 0) I)
def ok_X6_sleepers (I : gI) (y : Nat) : Prop :=
  isN (I 2 11 0 1) 6 ∧
  ok_f_X6_sleepers_l1 y ((I 2 11 0 1).toNatClampNeg) 0 0 I
def f_X6_sleepers (I : gI) (y : Nat) : Int32 :=
  f_X6_sleepers_l1 y ((I 2 11 0 1).toNatClampNeg) 0 0 I
def ok_X6_loadOf (I : gI) (x : Int32) : Prop :=
  vp_in x 6 ∧
  (((I 3 25 0 x.toNatClampNeg) = 1) →
    vp_in (I 3 26 0 x.toNatClampNeg) 600 ∧
    True) ∧
  (¬ ((I 3 25 0 x.toNatClampNeg) = 1) →
    (((I 3 25 0 x.toNatClampNeg) = 2) →
      vp_in (I 3 26 0 x.toNatClampNeg) 600 ∧
      True) ∧
    (¬ ((I 3 25 0 x.toNatClampNeg) = 2) →
      True))
def f_X6_loadOf (I : gI) (x : Int32) : Int32 :=
  if (I 3 25 0 x.toNatClampNeg) = 1 then
    (I 3 42 0 ((I 3 26 0 x.toNatClampNeg).toNatClampNeg))
  else
    if (I 3 25 0 x.toNatClampNeg) = 2 then
      (I 3 42 0 ((I 3 26 0 x.toNatClampNeg).toNatClampNeg))
    else
      (-1)
def ok_X6_ladTold (I : gI) (x b : Int32) : Prop :=
  ((b = 0) →
    vp_in x 6 ∧
    True) ∧
  (¬ (b = 0) →
    ((b = 1) →
      vp_in x 6 ∧
      True) ∧
    (¬ (b = 1) →
      ((b = 2) →
        vp_in x 6 ∧
        True) ∧
      (¬ (b = 2) →
        ((b = 3) →
          vp_in x 6 ∧
          True) ∧
        (¬ (b = 3) →
          ((b = 4) →
            vp_in x 6 ∧
            (((I 3 25 0 x.toNatClampNeg) = 1) →
              vp_in (I 3 26 0 x.toNatClampNeg) 600 ∧
              True) ∧
            (¬ ((I 3 25 0 x.toNatClampNeg) = 1) →
              True)) ∧
          (¬ (b = 4) →
            ((b = 5) →
              vp_in x 6 ∧
              True) ∧
            (¬ (b = 5) →
              ((b = 6) →
                vp_in x 6 ∧
                True) ∧
              (¬ (b = 6) →
                ((b = 7) →
                  vp_in x 6 ∧
                  True) ∧
                (¬ (b = 7) →
                  ok_X6_loadOf I x ∧
                  True))))))))
def f_X6_ladTold (I : gI) (x b : Int32) : Int32 :=
  if b = 0 then
    (I 2 12 0 x.toNatClampNeg)
  else
    if b = 1 then
      (I 2 13 0 x.toNatClampNeg)
    else
      if b = 2 then
        (I 3 31 0 x.toNatClampNeg)
      else
        if b = 3 then
          (I 3 25 0 x.toNatClampNeg)
        else
          if b = 4 then
            if (I 3 25 0 x.toNatClampNeg) = 1 then
              (I 3 41 0 ((I 3 26 0 x.toNatClampNeg).toNatClampNeg))
            else
              0
          else
            if b = 5 then
              (I 3 28 0 x.toNatClampNeg)
            else
              if b = 6 then
                (I 3 29 0 x.toNatClampNeg)
              else
                if b = 7 then
                  (I 3 30 0 x.toNatClampNeg)
                else
                  (f_X6_loadOf I x)
def ok_X6_loadTold (I : gI) (x b : Int32) : Prop :=
  ((b = 0) →
    vp_in x 10 ∧
    True) ∧
  (¬ (b = 0) →
    ((b = 1) →
      vp_in x 10 ∧
      True) ∧
    (¬ (b = 1) →
      ((b = 2) →
        vp_in x 10 ∧
        True) ∧
      (¬ (b = 2) →
        ((b = 3) →
          vp_in x 10 ∧
          True) ∧
        (¬ (b = 3) →
          ((b = 4) →
            vp_in x 10 ∧
            True) ∧
          (¬ (b = 4) →
            ((b = 5) →
              vp_in x 10 ∧
              True) ∧
            (¬ (b = 5) →
              vp_in x 10 ∧
              True))))))
def f_X6_loadTold (I : gI) (x b : Int32) : Int32 :=
  if b = 0 then
    (I 2 14 0 x.toNatClampNeg)
  else
    if b = 1 then
      (I 3 33 0 x.toNatClampNeg)
    else
      if b = 2 then
        (I 3 36 0 x.toNatClampNeg)
      else
        if b = 3 then
          (I 3 37 0 x.toNatClampNeg)
        else
          if b = 4 then
            (I 2 15 0 x.toNatClampNeg)
          else
            if b = 5 then
              (I 3 35 0 x.toNatClampNeg)
            else
              (I 3 38 0 x.toNatClampNeg)
def f_X6_loadsThat_l1 (y : Nat) (x : Int32) : Nat → Nat → Int32 → gI → Int32
  | 0, i, a, I =>
    a
  | n + 1, i, a, I =>
    if (I y 33 0 i) = x then
      f_X6_loadsThat_l1 y x n (i + 1) (a + 1) I
    else
      f_X6_loadsThat_l1 y x n (i + 1) (a + 0) I
def ok_f_X6_loadsThat_l1 (y : Nat) (x : Int32) : Nat → Nat → Int32 → gI → Prop
  | 0, i, a, I =>
    True
  | n + 1, i, a, I =>
    (((I y 33 0 i) = x) →
      ok_f_X6_loadsThat_l1 y x n (i + 1) (a + 1) I) ∧
    (¬ ((I y 33 0 i) = x) →
      ok_f_X6_loadsThat_l1 y x n (i + 1) (a + 0) I)
def ok_X6_loadsThat (I : gI) (y : Nat) (x : Int32) : Prop :=
  isN (I 2 11 0 4) 10 ∧
  ok_f_X6_loadsThat_l1 y x ((I 2 11 0 4).toNatClampNeg) 0 0 I
def f_X6_loadsThat (I : gI) (y : Nat) (x : Int32) : Int32 :=
  f_X6_loadsThat_l1 y x ((I 2 11 0 4).toNatClampNeg) 0 0 I
def f_X6_sumOf_l1 (y t : Nat) : Nat → Nat → Int32 → gI → Int32
  | 0, i, a, I =>
    a
  | n + 1, i, a, I =>
    f_X6_sumOf_l1 y t n (i + 1) (a + (I y t 0 i)) I
def ok_f_X6_sumOf_l1 (y t : Nat) : Nat → Nat → Int32 → gI → Prop
  | 0, i, a, I =>
    True
  | n + 1, i, a, I =>
    ok_f_X6_sumOf_l1 y t n (i + 1) (a + (I y t 0 i)) I
def ok_X6_sumOf (I : gI) (y t : Nat) : Prop :=
  isN (I 2 11 0 1) 6 ∧
  ok_f_X6_sumOf_l1 y t ((I 2 11 0 1).toNatClampNeg) 0 0 I
def f_X6_sumOf (I : gI) (y t : Nat) : Int32 :=
  f_X6_sumOf_l1 y t ((I 2 11 0 1).toNatClampNeg) 0 0 I
def ok_X6_counted (I : gI) (y : Nat) (x : Int32) : Prop :=
  ((x = 0) →
    True) ∧
  (¬ (x = 0) →
    ((x = 1) →
      True) ∧
    (¬ (x = 1) →
      ((x = 2) →
        True) ∧
      (¬ (x = 2) →
        ((x = 3) →
          ok_X6_loadsThat I y 2 ∧
          True) ∧
        (¬ (x = 3) →
          ((x = 4) →
            ok_X6_loadsThat I y 0 ∧
            True) ∧
          (¬ (x = 4) →
            ((x = 5) →
              ok_X6_sumOf I y 31 ∧
              True) ∧
            (¬ (x = 5) →
              ((x = 6) →
                ok_X6_sleepers I y ∧
                True) ∧
              (¬ (x = 6) →
                ((x = 7) →
                  True) ∧
                (¬ (x = 7) →
                  ((x = 8) →
                    True) ∧
                  (¬ (x = 8) →
                    ((x = 9) →
                      True) ∧
                    (¬ (x = 9) →
                      ((x = 10) →
                        ok_X6_sumOf I y 30 ∧
                        True) ∧
                      (¬ (x = 10) →
                        ((x = 11) →
                          True) ∧
                        (¬ (x = 11) →
                          True))))))))))))
def f_X6_counted (I : gI) (y : Nat) (x : Int32) : Int32 :=
  if x = 0 then
    (I y 20 0 0)
  else
    if x = 1 then
      (I 2 11 0 1)
    else
      if x = 2 then
        (I 2 11 0 4)
      else
        if x = 3 then
          (f_X6_loadsThat I y 2)
        else
          if x = 4 then
            (f_X6_loadsThat I y 0)
          else
            if x = 5 then
              (f_X6_sumOf I y 31)
            else
              if x = 6 then
                (f_X6_sleepers I y)
              else
                if x = 7 then
                  (I y 20 0 1)
                else
                  if x = 8 then
                    (I y 20 0 2)
                  else
                    if x = 9 then
                      (I y 20 0 3)
                    else
                      if x = 10 then
                        (f_X6_sumOf I y 30)
                      else
                        if x = 11 then
                          (I y 20 0 4)
                        else
                          (I 2 11 0 7)
/-! PRINTED by wip/gen (ref.py): X6b -/
def ok_X6_come (I : gI) (x : Int32) : Prop :=
  ∀ I1, I1 = gU I 2 11 0 0 0 →
  ok_X6_isIn I1 x 1 9 ∧
  (((f_X6_isIn I1 x 1 9) = 0) →
    ok_X6_no I1 1 ∧
    ∀ I5, I5 = f_X6_no_s I1 1 →
    True) ∧
  (¬ ((f_X6_isIn I1 x 1 9) = 0) →
    (((I1 2 11 0 1) = 6) →
      ok_X6_no I1 2 ∧
      ∀ I4, I4 = f_X6_no_s I1 2 →
      True) ∧
    (¬ ((I1 2 11 0 1) = 6) →
      vp_in (I1 2 11 0 1) 6 ∧
      ∀ I2, I2 = gU I1 2 12 0 ((I1 2 11 0 1).toNatClampNeg) x →
      ∀ I3, I3 = gU I2 2 11 0 1 ((I2 2 11 0 1) + 1) →
      True))
def f_X6_come_v (I : gI) (x : Int32) : Int32 :=
  let I1 := gU I 2 11 0 0 0
  if (f_X6_isIn I1 x 1 9) = 0 then
    let I5 := f_X6_no_s I1 1
    (f_X6_no_v I1 1)
  else
    if (I1 2 11 0 1) = 6 then
      let I4 := f_X6_no_s I1 2
      (f_X6_no_v I1 2)
    else
      let I2 := gU I1 2 12 0 ((I1 2 11 0 1).toNatClampNeg) x
      let I3 := gU I2 2 11 0 1 ((I2 2 11 0 1) + 1)
      ((I3 2 11 0 1) - 1)
def f_X6_come_s (I : gI) (x : Int32) : gI :=
  let I1 := gU I 2 11 0 0 0
  if (f_X6_isIn I1 x 1 9) = 0 then
    let I5 := f_X6_no_s I1 1
    I5
  else
    if (I1 2 11 0 1) = 6 then
      let I4 := f_X6_no_s I1 2
      I4
    else
      let I2 := gU I1 2 12 0 ((I1 2 11 0 1).toNatClampNeg) x
      let I3 := gU I2 2 11 0 1 ((I2 2 11 0 1) + 1)
      I3
def ok_X6_setWay (I : gI) (x b : Int32) : Prop :=
  ∀ I1, I1 = gU I 2 11 0 0 0 →
  ok_X6_isLad I1 x ∧
  (((f_X6_isLad I1 x) = 0) →
    ok_X6_no I1 1 ∧
    ∀ I2, I2 = f_X6_no_s I1 1 →
    True) ∧
  (¬ ((f_X6_isLad I1 x) = 0) →
    ok_X6_isIn I1 b 0 2 ∧
    (((f_X6_isIn I1 b 0 2) = 0) →
      ok_X6_no I1 1 ∧
      ∀ I4, I4 = f_X6_no_s I1 1 →
      True) ∧
    (¬ ((f_X6_isIn I1 b 0 2) = 0) →
      vp_in x 6 ∧
      ∀ I3, I3 = gU I1 2 13 0 x.toNatClampNeg b →
      True))
def f_X6_setWay_v (I : gI) (x b : Int32) : Int32 :=
  let I1 := gU I 2 11 0 0 0
  if (f_X6_isLad I1 x) = 0 then
    let I2 := f_X6_no_s I1 1
    (f_X6_no_v I1 1)
  else
    if (f_X6_isIn I1 b 0 2) = 0 then
      let I4 := f_X6_no_s I1 1
      (f_X6_no_v I1 1)
    else
      let I3 := gU I1 2 13 0 x.toNatClampNeg b
      (I1 2 13 0 x.toNatClampNeg)
def f_X6_setWay_s (I : gI) (x b : Int32) : gI :=
  let I1 := gU I 2 11 0 0 0
  if (f_X6_isLad I1 x) = 0 then
    let I2 := f_X6_no_s I1 1
    I2
  else
    if (f_X6_isIn I1 b 0 2) = 0 then
      let I4 := f_X6_no_s I1 1
      I4
    else
      let I3 := gU I1 2 13 0 x.toNatClampNeg b
      I3
def ok_X6_setFork (I : gI) (x : Int32) : Prop :=
  ∀ I1, I1 = gU I 2 11 0 0 0 →
  ok_X6_isIn I1 x 4 60 ∧
  (((f_X6_isIn I1 x 4 60) = 0) →
    ok_X6_no I1 1 ∧
    ∀ I3, I3 = f_X6_no_s I1 1 →
    True) ∧
  (¬ ((f_X6_isIn I1 x 4 60) = 0) →
    ∀ I2, I2 = gU I1 2 11 0 7 x →
    True)
def f_X6_setFork_v (I : gI) (x : Int32) : Int32 :=
  let I1 := gU I 2 11 0 0 0
  if (f_X6_isIn I1 x 4 60) = 0 then
    let I3 := f_X6_no_s I1 1
    (f_X6_no_v I1 1)
  else
    let I2 := gU I1 2 11 0 7 x
    (I1 2 11 0 7)
def f_X6_setFork_s (I : gI) (x : Int32) : gI :=
  let I1 := gU I 2 11 0 0 0
  if (f_X6_isIn I1 x 4 60) = 0 then
    let I3 := f_X6_no_s I1 1
    I3
  else
    let I2 := gU I1 2 11 0 7 x
    I2
def f_X6_bring_l1_v (x : Int32) : Nat → Nat → gI → Int32
  | 0, i, I9 =>
    let I10 := gU I9 2 11 0 4 ((I9 2 11 0 4) + 1)
    ((I10 2 11 0 4) - 1)
  | n + 1, i, I9 =>
    if (I9 3 25 0 i) = 3 then
      let I11 := gU I9 3 25 0 i 0
      f_X6_bring_l1_v x n (i + 1) I11
    else
      f_X6_bring_l1_v x n (i + 1) I9
def f_X6_bring_l1_s (x : Int32) : Nat → Nat → gI → gI
  | 0, i, I9 =>
    let I10 := gU I9 2 11 0 4 ((I9 2 11 0 4) + 1)
    I10
  | n + 1, i, I9 =>
    if (I9 3 25 0 i) = 3 then
      let I11 := gU I9 3 25 0 i 0
      f_X6_bring_l1_s x n (i + 1) I11
    else
      f_X6_bring_l1_s x n (i + 1) I9
def ok_f_X6_bring_l1 (x : Int32) : Nat → Nat → gI → Prop
  | 0, i, I9 =>
    (I9 2 11 0 1) = nI (i + 0) ∧
    ∀ I10, I10 = gU I9 2 11 0 4 ((I9 2 11 0 4) + 1) →
    True
  | n + 1, i, I9 =>
    (I9 2 11 0 1) = nI (i + (n + 1)) ∧
    (((I9 3 25 0 i) = 3) →
      ∀ I11, I11 = gU I9 3 25 0 i 0 →
      ok_f_X6_bring_l1 x n (i + 1) I11) ∧
    (¬ ((I9 3 25 0 i) = 3) →
      ok_f_X6_bring_l1 x n (i + 1) I9)
def ok_X6_bring (I : gI) (x : Int32) : Prop :=
  ∀ I1, I1 = gU I 2 11 0 0 0 →
  ok_X6_isIn I1 x 1 60 ∧
  (((f_X6_isIn I1 x 1 60) = 0) →
    ok_X6_no I1 1 ∧
    ∀ I13, I13 = f_X6_no_s I1 1 →
    True) ∧
  (¬ ((f_X6_isIn I1 x 1 60) = 0) →
    (((I1 2 11 0 4) = 10) →
      ok_X6_no I1 2 ∧
      ∀ I12, I12 = f_X6_no_s I1 2 →
      True) ∧
    (¬ ((I1 2 11 0 4) = 10) →
      vp_in (I1 2 11 0 4) 10 ∧
      ∀ I2, I2 = gU I1 2 14 0 ((I1 2 11 0 4).toNatClampNeg) x →
      vp_in (I2 2 11 0 4) 10 ∧
      ∀ I3, I3 = gU I2 2 15 0 ((I2 2 11 0 4).toNatClampNeg) (I2 3 20 0 0) →
      vp_in (I3 2 11 0 4) 10 ∧
      ∀ I4, I4 = gU I3 3 33 0 ((I3 2 11 0 4).toNatClampNeg) 0 →
      vp_in (I4 2 11 0 4) 10 ∧
      ∀ I5, I5 = gU I4 3 35 0 ((I4 2 11 0 4).toNatClampNeg) (-1) →
      vp_in (I5 2 11 0 4) 10 ∧
      ∀ I6, I6 = gU I5 3 36 0 ((I5 2 11 0 4).toNatClampNeg) 1 →
      ok_X5_add I6 3 x (I6 2 11 0 4) (-1) ∧
      ∀ I7, I7 = f_X5_add_s I6 3 x (I6 2 11 0 4) (-1) →
      vp_in (I6 2 11 0 4) 10 ∧
      ∀ I8, I8 = gU I7 3 34 0 ((I6 2 11 0 4).toNatClampNeg) (f_X5_add_v I6 3 x (I6 2 11 0 4) (-1)) →
      isN (I8 2 11 0 1) 6 ∧
      ok_f_X6_bring_l1 x ((I8 2 11 0 1).toNatClampNeg) 0 I8))
def f_X6_bring_v (I : gI) (x : Int32) : Int32 :=
  let I1 := gU I 2 11 0 0 0
  if (f_X6_isIn I1 x 1 60) = 0 then
    let I13 := f_X6_no_s I1 1
    (f_X6_no_v I1 1)
  else
    if (I1 2 11 0 4) = 10 then
      let I12 := f_X6_no_s I1 2
      (f_X6_no_v I1 2)
    else
      let I2 := gU I1 2 14 0 ((I1 2 11 0 4).toNatClampNeg) x
      let I3 := gU I2 2 15 0 ((I2 2 11 0 4).toNatClampNeg) (I2 3 20 0 0)
      let I4 := gU I3 3 33 0 ((I3 2 11 0 4).toNatClampNeg) 0
      let I5 := gU I4 3 35 0 ((I4 2 11 0 4).toNatClampNeg) (-1)
      let I6 := gU I5 3 36 0 ((I5 2 11 0 4).toNatClampNeg) 1
      let I7 := f_X5_add_s I6 3 x (I6 2 11 0 4) (-1)
      let I8 := gU I7 3 34 0 ((I6 2 11 0 4).toNatClampNeg) (f_X5_add_v I6 3 x (I6 2 11 0 4) (-1))
      f_X6_bring_l1_v x ((I8 2 11 0 1).toNatClampNeg) 0 I8
def f_X6_bring_s (I : gI) (x : Int32) : gI :=
  let I1 := gU I 2 11 0 0 0
  if (f_X6_isIn I1 x 1 60) = 0 then
    let I13 := f_X6_no_s I1 1
    I13
  else
    if (I1 2 11 0 4) = 10 then
      let I12 := f_X6_no_s I1 2
      I12
    else
      let I2 := gU I1 2 14 0 ((I1 2 11 0 4).toNatClampNeg) x
      let I3 := gU I2 2 15 0 ((I2 2 11 0 4).toNatClampNeg) (I2 3 20 0 0)
      let I4 := gU I3 3 33 0 ((I3 2 11 0 4).toNatClampNeg) 0
      let I5 := gU I4 3 35 0 ((I4 2 11 0 4).toNatClampNeg) (-1)
      let I6 := gU I5 3 36 0 ((I5 2 11 0 4).toNatClampNeg) 1
      let I7 := f_X5_add_s I6 3 x (I6 2 11 0 4) (-1)
      let I8 := gU I7 3 34 0 ((I6 2 11 0 4).toNatClampNeg) (f_X5_add_v I6 3 x (I6 2 11 0 4) (-1))
      f_X6_bring_l1_s x ((I8 2 11 0 1).toNatClampNeg) 0 I8
def f_X6_swap_l1_v (x b : Int32) : Nat → Nat → gI → Int32
  | 0, i, I3 =>
    let I4 := gU I3 3 31 0 x.toNatClampNeg (I3 3 31 0 b.toNatClampNeg)
    let I5 := gU I4 3 31 0 b.toNatClampNeg (I3 3 31 0 x.toNatClampNeg)
    (I5 3 31 0 x.toNatClampNeg)
  | n + 1, i, I3 =>
    let I6 := gU I3 3 32 0 (((8 * x) + (nI i)).toNatClampNeg) (I3 3 32 0 (((8 * b) + (nI i)).toNatClampNeg))
    let I7 := gU I6 3 32 0 (((8 * b) + (nI i)).toNatClampNeg) (I3 3 32 0 (((8 * x) + (nI i)).toNatClampNeg))
    f_X6_swap_l1_v x b n (i + 1) I7
def f_X6_swap_l1_s (x b : Int32) : Nat → Nat → gI → gI
  | 0, i, I3 =>
    let I4 := gU I3 3 31 0 x.toNatClampNeg (I3 3 31 0 b.toNatClampNeg)
    let I5 := gU I4 3 31 0 b.toNatClampNeg (I3 3 31 0 x.toNatClampNeg)
    I5
  | n + 1, i, I3 =>
    let I6 := gU I3 3 32 0 (((8 * x) + (nI i)).toNatClampNeg) (I3 3 32 0 (((8 * b) + (nI i)).toNatClampNeg))
    let I7 := gU I6 3 32 0 (((8 * b) + (nI i)).toNatClampNeg) (I3 3 32 0 (((8 * x) + (nI i)).toNatClampNeg))
    f_X6_swap_l1_s x b n (i + 1) I7
def ok_f_X6_swap_l1 (x b : Int32) : Nat → Nat → gI → Prop
  | 0, i, I3 =>
    vp_in x 6 ∧
    vp_in b 6 ∧
    ∀ I4, I4 = gU I3 3 31 0 x.toNatClampNeg (I3 3 31 0 b.toNatClampNeg) →
    ∀ I5, I5 = gU I4 3 31 0 b.toNatClampNeg (I3 3 31 0 x.toNatClampNeg) →
    True
  | n + 1, i, I3 =>
    vp_in ((8 * x) + (nI i)) 48 ∧
    vp_in ((8 * b) + (nI i)) 48 ∧
    ∀ I6, I6 = gU I3 3 32 0 (((8 * x) + (nI i)).toNatClampNeg) (I3 3 32 0 (((8 * b) + (nI i)).toNatClampNeg)) →
    ∀ I7, I7 = gU I6 3 32 0 (((8 * b) + (nI i)).toNatClampNeg) (I3 3 32 0 (((8 * x) + (nI i)).toNatClampNeg)) →
    ok_f_X6_swap_l1 x b n (i + 1) I7
def ok_X6_swap (I : gI) (x b : Int32) : Prop :=
  ∀ I1, I1 = gU I 2 11 0 0 0 →
  ok_X6_isLad I1 x ∧
  (((f_X6_isLad I1 x) = 0) →
    ok_X6_no I1 1 ∧
    ∀ I2, I2 = f_X6_no_s I1 1 →
    True) ∧
  (¬ ((f_X6_isLad I1 x) = 0) →
    ok_X6_isLad I1 b ∧
    (((f_X6_isLad I1 b) = 0) →
      ok_X6_no I1 1 ∧
      ∀ I9, I9 = f_X6_no_s I1 1 →
      True) ∧
    (¬ ((f_X6_isLad I1 b) = 0) →
      ((x = b) →
        ok_X6_no I1 2 ∧
        ∀ I8, I8 = f_X6_no_s I1 2 →
        True) ∧
      (¬ (x = b) →
        ok_f_X6_swap_l1 x b 8 0 I1)))
def f_X6_swap_v (I : gI) (x b : Int32) : Int32 :=
  let I1 := gU I 2 11 0 0 0
  if (f_X6_isLad I1 x) = 0 then
    let I2 := f_X6_no_s I1 1
    (f_X6_no_v I1 1)
  else
    if (f_X6_isLad I1 b) = 0 then
      let I9 := f_X6_no_s I1 1
      (f_X6_no_v I1 1)
    else
      if x = b then
        let I8 := f_X6_no_s I1 2
        (f_X6_no_v I1 2)
      else
        f_X6_swap_l1_v x b 8 0 I1
def f_X6_swap_s (I : gI) (x b : Int32) : gI :=
  let I1 := gU I 2 11 0 0 0
  if (f_X6_isLad I1 x) = 0 then
    let I2 := f_X6_no_s I1 1
    I2
  else
    if (f_X6_isLad I1 b) = 0 then
      let I9 := f_X6_no_s I1 1
      I9
    else
      if x = b then
        let I8 := f_X6_no_s I1 2
        I8
      else
        f_X6_swap_l1_s x b 8 0 I1
def ok_X6_wake (I : gI) (x : Int32) : Prop :=
  ∀ I1, I1 = gU I 2 11 0 0 0 →
  ok_X6_isLad I1 x ∧
  (((f_X6_isLad I1 x) = 0) →
    ok_X6_no I1 1 ∧
    ∀ I4, I4 = f_X6_no_s I1 1 →
    True) ∧
  (¬ ((f_X6_isLad I1 x) = 0) →
    vp_in x 6 ∧
    (((I1 3 25 0 x.toNatClampNeg) = 3) →
      ∀ I2, I2 = gU I1 3 25 0 x.toNatClampNeg 0 →
      ok_X6_sleepers I2 3 ∧
      True) ∧
    (¬ ((I1 3 25 0 x.toNatClampNeg) = 3) →
      ok_X6_no I1 2 ∧
      ∀ I3, I3 = f_X6_no_s I1 2 →
      True))
def f_X6_wake_v (I : gI) (x : Int32) : Int32 :=
  let I1 := gU I 2 11 0 0 0
  if (f_X6_isLad I1 x) = 0 then
    let I4 := f_X6_no_s I1 1
    (f_X6_no_v I1 1)
  else
    if (I1 3 25 0 x.toNatClampNeg) = 3 then
      let I2 := gU I1 3 25 0 x.toNatClampNeg 0
      (f_X6_sleepers I2 3)
    else
      let I3 := f_X6_no_s I1 2
      (f_X6_no_v I1 2)
def f_X6_wake_s (I : gI) (x : Int32) : gI :=
  let I1 := gU I 2 11 0 0 0
  if (f_X6_isLad I1 x) = 0 then
    let I4 := f_X6_no_s I1 1
    I4
  else
    if (I1 3 25 0 x.toNatClampNeg) = 3 then
      let I2 := gU I1 3 25 0 x.toNatClampNeg 0
      I2
    else
      let I3 := f_X6_no_s I1 2
      I3
def ok_X6_lad (I : gI) (x b : Int32) : Prop :=
  ∀ I1, I1 = gU I 2 11 0 0 0 →
  ok_X6_isLad I1 x ∧
  (((f_X6_isLad I1 x) = 0) →
    ok_X6_no I1 1 ∧
    ∀ I2, I2 = f_X6_no_s I1 1 →
    True) ∧
  (¬ ((f_X6_isLad I1 x) = 0) →
    ok_X6_isIn I1 b 0 8 ∧
    (((f_X6_isIn I1 b 0 8) = 0) →
      ok_X6_no I1 1 ∧
      ∀ I3, I3 = f_X6_no_s I1 1 →
      True) ∧
    (¬ ((f_X6_isIn I1 b 0 8) = 0) →
      ok_X6_ladTold I1 x b ∧
      True))
def f_X6_lad_v (I : gI) (x b : Int32) : Int32 :=
  let I1 := gU I 2 11 0 0 0
  if (f_X6_isLad I1 x) = 0 then
    let I2 := f_X6_no_s I1 1
    (f_X6_no_v I1 1)
  else
    if (f_X6_isIn I1 b 0 8) = 0 then
      let I3 := f_X6_no_s I1 1
      (f_X6_no_v I1 1)
    else
      (f_X6_ladTold I1 x b)
def f_X6_lad_s (I : gI) (x b : Int32) : gI :=
  let I1 := gU I 2 11 0 0 0
  if (f_X6_isLad I1 x) = 0 then
    let I2 := f_X6_no_s I1 1
    I2
  else
    if (f_X6_isIn I1 b 0 8) = 0 then
      let I3 := f_X6_no_s I1 1
      I3
    else
      I1
def ok_X6_cart (I : gI) (x b : Int32) : Prop :=
  ∀ I1, I1 = gU I 2 11 0 0 0 →
  ok_X6_isLad I1 x ∧
  (((f_X6_isLad I1 x) = 0) →
    ok_X6_no I1 1 ∧
    ∀ I2, I2 = f_X6_no_s I1 1 →
    True) ∧
  (¬ ((f_X6_isLad I1 x) = 0) →
    vp_in x 6 ∧
    ok_X6_isIn I1 b 0 ((I1 3 31 0 x.toNatClampNeg) - 1) ∧
    (((f_X6_isIn I1 b 0 ((I1 3 31 0 x.toNatClampNeg) - 1)) = 0) →
      ok_X6_no I1 1 ∧
      ∀ I3, I3 = f_X6_no_s I1 1 →
      True) ∧
    (¬ ((f_X6_isIn I1 b 0 ((I1 3 31 0 x.toNatClampNeg) - 1)) = 0) →
      vp_in ((8 * x) + b) 48 ∧
      vp_in (I1 3 32 0 (((8 * x) + b).toNatClampNeg)) 600 ∧
      True))
def f_X6_cart_v (I : gI) (x b : Int32) : Int32 :=
  let I1 := gU I 2 11 0 0 0
  if (f_X6_isLad I1 x) = 0 then
    let I2 := f_X6_no_s I1 1
    (f_X6_no_v I1 1)
  else
    if (f_X6_isIn I1 b 0 ((I1 3 31 0 x.toNatClampNeg) - 1)) = 0 then
      let I3 := f_X6_no_s I1 1
      (f_X6_no_v I1 1)
    else
      (I1 3 40 0 ((I1 3 32 0 (((8 * x) + b).toNatClampNeg)).toNatClampNeg))
def f_X6_cart_s (I : gI) (x b : Int32) : gI :=
  let I1 := gU I 2 11 0 0 0
  if (f_X6_isLad I1 x) = 0 then
    let I2 := f_X6_no_s I1 1
    I2
  else
    if (f_X6_isIn I1 b 0 ((I1 3 31 0 x.toNatClampNeg) - 1)) = 0 then
      let I3 := f_X6_no_s I1 1
      I3
    else
      I1
def ok_X6_load (I : gI) (x b : Int32) : Prop :=
  ∀ I1, I1 = gU I 2 11 0 0 0 →
  ok_X6_isLoad I1 x ∧
  (((f_X6_isLoad I1 x) = 0) →
    ok_X6_no I1 1 ∧
    ∀ I2, I2 = f_X6_no_s I1 1 →
    True) ∧
  (¬ ((f_X6_isLoad I1 x) = 0) →
    ok_X6_isIn I1 b 0 6 ∧
    (((f_X6_isIn I1 b 0 6) = 0) →
      ok_X6_no I1 1 ∧
      ∀ I3, I3 = f_X6_no_s I1 1 →
      True) ∧
    (¬ ((f_X6_isIn I1 b 0 6) = 0) →
      ok_X6_loadTold I1 x b ∧
      True))
def f_X6_load_v (I : gI) (x b : Int32) : Int32 :=
  let I1 := gU I 2 11 0 0 0
  if (f_X6_isLoad I1 x) = 0 then
    let I2 := f_X6_no_s I1 1
    (f_X6_no_v I1 1)
  else
    if (f_X6_isIn I1 b 0 6) = 0 then
      let I3 := f_X6_no_s I1 1
      (f_X6_no_v I1 1)
    else
      (f_X6_loadTold I1 x b)
def f_X6_load_s (I : gI) (x b : Int32) : gI :=
  let I1 := gU I 2 11 0 0 0
  if (f_X6_isLoad I1 x) = 0 then
    let I2 := f_X6_no_s I1 1
    I2
  else
    if (f_X6_isIn I1 b 0 6) = 0 then
      let I3 := f_X6_no_s I1 1
      I3
    else
      I1
def ok_X6_count (I : gI) (x : Int32) : Prop :=
  ∀ I1, I1 = gU I 2 11 0 0 0 →
  ok_X6_isIn I1 x 0 12 ∧
  (((f_X6_isIn I1 x 0 12) = 0) →
    ok_X6_no I1 1 ∧
    ∀ I2, I2 = f_X6_no_s I1 1 →
    True) ∧
  (¬ ((f_X6_isIn I1 x 0 12) = 0) →
    ok_X6_counted I1 3 x ∧
    True)
def f_X6_count_v (I : gI) (x : Int32) : Int32 :=
  let I1 := gU I 2 11 0 0 0
  if (f_X6_isIn I1 x 0 12) = 0 then
    let I2 := f_X6_no_s I1 1
    (f_X6_no_v I1 1)
  else
    (f_X6_counted I1 3 x)
def f_X6_count_s (I : gI) (x : Int32) : gI :=
  let I1 := gU I 2 11 0 0 0
  if (f_X6_isIn I1 x 0 12) = 0 then
    let I2 := f_X6_no_s I1 1
    I2
  else
    I1
def ok_X6_victim (I : gI) (x : Int32) : Prop :=
  ∀ I1, I1 = gU I 2 11 0 0 0 →
  ok_X6_isLad I1 x ∧
  (((f_X6_isLad I1 x) = 0) →
    ok_X6_no I1 1 ∧
    ∀ I2, I2 = f_X6_no_s I1 1 →
    True) ∧
  (¬ ((f_X6_isLad I1 x) = 0) →
    ok_X6_victimOf I1 3 x ∧
    True)
def f_X6_victim_v (I : gI) (x : Int32) : Int32 :=
  let I1 := gU I 2 11 0 0 0
  if (f_X6_isLad I1 x) = 0 then
    let I2 := f_X6_no_s I1 1
    (f_X6_no_v I1 1)
  else
    (f_X6_victimOf I1 3 x)
def f_X6_victim_s (I : gI) (x : Int32) : gI :=
  let I1 := gU I 2 11 0 0 0
  if (f_X6_isLad I1 x) = 0 then
    let I2 := f_X6_no_s I1 1
    I2
  else
    I1
def f_X6_thief_l1_v  : Nat → Nat → Int32 → gI → Int32
  | 0, i, a, I1 =>
    a
  | n + 1, i, a, I1 =>
    if a = (-1) then
      f_X6_thief_l1_v n (i + 1) (nI i) I1
    else
      if (I1 3 28 0 i) ≤ (I1 3 28 0 a.toNatClampNeg) then
        f_X6_thief_l1_v n (i + 1) a I1
      else
        f_X6_thief_l1_v n (i + 1) (nI i) I1
def f_X6_thief_l1_s  : Nat → Nat → Int32 → gI → gI
  | 0, i, a, I1 =>
    I1
  | n + 1, i, a, I1 =>
    if a = (-1) then
      f_X6_thief_l1_s n (i + 1) (nI i) I1
    else
      if (I1 3 28 0 i) ≤ (I1 3 28 0 a.toNatClampNeg) then
        f_X6_thief_l1_s n (i + 1) a I1
      else
        f_X6_thief_l1_s n (i + 1) (nI i) I1
def ok_f_X6_thief_l1  : Nat → Nat → Int32 → gI → Prop
  | 0, i, a, I1 =>
    True
  | n + 1, i, a, I1 =>
    ((a = (-1)) →
      ok_f_X6_thief_l1 n (i + 1) (nI i) I1) ∧
    (¬ (a = (-1)) →
      vp_in a 6 ∧
      (((I1 3 28 0 i) ≤ (I1 3 28 0 a.toNatClampNeg)) →
        ok_f_X6_thief_l1 n (i + 1) a I1) ∧
      (¬ ((I1 3 28 0 i) ≤ (I1 3 28 0 a.toNatClampNeg)) →
        ok_f_X6_thief_l1 n (i + 1) (nI i) I1))
def ok_X6_thief (I : gI)  : Prop :=
  ∀ I1, I1 = gU I 2 11 0 0 0 →
  isN (I1 2 11 0 1) 6 ∧
  ok_f_X6_thief_l1 ((I1 2 11 0 1).toNatClampNeg) 0 (-1) I1
def f_X6_thief_v (I : gI)  : Int32 :=
  let I1 := gU I 2 11 0 0 0
  f_X6_thief_l1_v ((I1 2 11 0 1).toNatClampNeg) 0 (-1) I1
def f_X6_thief_s (I : gI)  : gI :=
  let I1 := gU I 2 11 0 0 0
  f_X6_thief_l1_s ((I1 2 11 0 1).toNatClampNeg) 0 (-1) I1
def ok_X6_pass_ (I : gI) (x : Int32) : Prop :=
  ∀ I1, I1 = gU I 2 11 0 0 0 →
  ok_X6_isIn I1 x 1 60 ∧
  (((f_X6_isIn I1 x 1 60) = 0) →
    ok_X6_no I1 1 ∧
    ∀ I3, I3 = f_X6_no_s I1 1 →
    True) ∧
  (¬ ((f_X6_isIn I1 x 1 60) = 0) →
    ok_X6_loadsThat I1 3 2 ∧
    ok_X6_passAll I1 3 x (I1 2 11 0 7) ∧
    ∀ I2, I2 = f_X6_passAll_s I1 3 x (I1 2 11 0 7) →
    ok_X6_loadsThat I2 3 2 ∧
    True)
def f_X6_pass__v (I : gI) (x : Int32) : Int32 :=
  let I1 := gU I 2 11 0 0 0
  if (f_X6_isIn I1 x 1 60) = 0 then
    let I3 := f_X6_no_s I1 1
    (f_X6_no_v I1 1)
  else
    let I2 := f_X6_passAll_s I1 3 x (I1 2 11 0 7)
    ((f_X6_loadsThat I2 3 2) - (f_X6_loadsThat I1 3 2))
def f_X6_pass__s (I : gI) (x : Int32) : gI :=
  let I1 := gU I 2 11 0 0 0
  if (f_X6_isIn I1 x 1 60) = 0 then
    let I3 := f_X6_no_s I1 1
    I3
  else
    let I2 := f_X6_passAll_s I1 3 x (I1 2 11 0 7)
    I2
def f_X6_until_l1_v (x : Int32) : Nat → Nat → gI → Int32
  | 0, i, I3 =>
    (-1)
  | n + 1, i, I3 =>
    if (I3 4 33 0 x.toNatClampNeg) = 2 then
      (nI i)
    else
      let I4 := f_X6_pass I3 4 (I3 2 11 0 7)
      f_X6_until_l1_v x n (i + 1) I4
def f_X6_until_l1_s (x : Int32) : Nat → Nat → gI → gI
  | 0, i, I3 =>
    I3
  | n + 1, i, I3 =>
    if (I3 4 33 0 x.toNatClampNeg) = 2 then
      I3
    else
      let I4 := f_X6_pass I3 4 (I3 2 11 0 7)
      f_X6_until_l1_s x n (i + 1) I4
def ok_f_X6_until_l1 (x : Int32) : Nat → Nat → gI → Prop
  | 0, i, I3 =>
    True
  | n + 1, i, I3 =>
    vp_in x 10 ∧
    (((I3 4 33 0 x.toNatClampNeg) = 2) →
      True) ∧
    (¬ ((I3 4 33 0 x.toNatClampNeg) = 2) →
      ok_X6_pass I3 4 (I3 2 11 0 7) ∧
      ∀ I4, I4 = f_X6_pass I3 4 (I3 2 11 0 7) →
      ok_f_X6_until_l1 x n (i + 1) I4)
def ok_X6_until (I : gI) (x : Int32) : Prop :=
  ∀ I1, I1 = gU I 2 11 0 0 0 →
  ok_X6_isLoad I1 x ∧
  (((f_X6_isLoad I1 x) = 0) →
    ok_X6_no I1 1 ∧
    ∀ I5, I5 = f_X6_no_s I1 1 →
    True) ∧
  (¬ ((f_X6_isLoad I1 x) = 0) →
    ok_X5_become I1 4 3 ∧
    ∀ I2, I2 = f_X5_become_s I1 4 3 →
    ok_f_X6_until_l1 x 301 0 I2)
def f_X6_until_v (I : gI) (x : Int32) : Int32 :=
  let I1 := gU I 2 11 0 0 0
  if (f_X6_isLoad I1 x) = 0 then
    let I5 := f_X6_no_s I1 1
    (f_X6_no_v I1 1)
  else
    let I2 := f_X5_become_s I1 4 3
    f_X6_until_l1_v x 301 0 I2
def f_X6_until_s (I : gI) (x : Int32) : gI :=
  let I1 := gU I 2 11 0 0 0
  if (f_X6_isLoad I1 x) = 0 then
    let I5 := f_X6_no_s I1 1
    I5
  else
    let I2 := f_X5_become_s I1 4 3
    f_X6_until_l1_s x 301 0 I2
def ok_X6_foresee (I : gI) (x b : Int32) : Prop :=
  ∀ I1, I1 = gU I 2 11 0 0 0 →
  ok_X6_isIn I1 x 1 60 ∧
  (((f_X6_isIn I1 x 1 60) = 0) →
    ok_X6_no I1 1 ∧
    ∀ I5, I5 = f_X6_no_s I1 1 →
    True) ∧
  (¬ ((f_X6_isIn I1 x 1 60) = 0) →
    ok_X6_isIn I1 b 3 11 ∧
    (((f_X6_isIn I1 b 3 11) = 0) →
      ok_X6_no I1 2 ∧
      ∀ I4, I4 = f_X6_no_s I1 2 →
      True) ∧
    (¬ ((f_X6_isIn I1 b 3 11) = 0) →
      ok_X5_become I1 4 3 ∧
      ∀ I2, I2 = f_X5_become_s I1 4 3 →
      ok_X6_passAll I2 4 x (I2 2 11 0 7) ∧
      ∀ I3, I3 = f_X6_passAll_s I2 4 x (I2 2 11 0 7) →
      ok_X6_counted I3 4 b ∧
      True))
def f_X6_foresee_v (I : gI) (x b : Int32) : Int32 :=
  let I1 := gU I 2 11 0 0 0
  if (f_X6_isIn I1 x 1 60) = 0 then
    let I5 := f_X6_no_s I1 1
    (f_X6_no_v I1 1)
  else
    if (f_X6_isIn I1 b 3 11) = 0 then
      let I4 := f_X6_no_s I1 2
      (f_X6_no_v I1 2)
    else
      let I2 := f_X5_become_s I1 4 3
      let I3 := f_X6_passAll_s I2 4 x (I2 2 11 0 7)
      (f_X6_counted I3 4 b)
def f_X6_foresee_s (I : gI) (x b : Int32) : gI :=
  let I1 := gU I 2 11 0 0 0
  if (f_X6_isIn I1 x 1 60) = 0 then
    let I5 := f_X6_no_s I1 1
    I5
  else
    if (f_X6_isIn I1 b 3 11) = 0 then
      let I4 := f_X6_no_s I1 2
      I4
    else
      let I2 := f_X5_become_s I1 4 3
      let I3 := f_X6_passAll_s I2 4 x (I2 2 11 0 7)
      I3
def f_X6_advise_l1_v (x : Int32) : Nat → Nat → Int32 → Int32 → gI → Int32
  | 0, i, a, b, I2 =>
    a
  | n + 1, i, a, b, I2 =>
    let I3 := f_X5_become_s I2 4 3
    let I4 := f_X6_passAll_s I3 4 x (gsz i)
    if b < (I4 4 20 0 4) then
      f_X6_advise_l1_v x n (i + 1) (gsz i) (I4 4 20 0 4) I4
    else
      f_X6_advise_l1_v x n (i + 1) a b I4
def f_X6_advise_l1_s (x : Int32) : Nat → Nat → Int32 → Int32 → gI → gI
  | 0, i, a, b, I2 =>
    I2
  | n + 1, i, a, b, I2 =>
    let I3 := f_X5_become_s I2 4 3
    let I4 := f_X6_passAll_s I3 4 x (gsz i)
    if b < (I4 4 20 0 4) then
      f_X6_advise_l1_s x n (i + 1) (gsz i) (I4 4 20 0 4) I4
    else
      f_X6_advise_l1_s x n (i + 1) a b I4
def ok_f_X6_advise_l1 (x : Int32) : Nat → Nat → Int32 → Int32 → gI → Prop
  | 0, i, a, b, I2 =>
    True
  | n + 1, i, a, b, I2 =>
    ok_X5_become I2 4 3 ∧
    ∀ I3, I3 = f_X5_become_s I2 4 3 →
    ok_X6_passAll I3 4 x (gsz i) ∧
    ∀ I4, I4 = f_X6_passAll_s I3 4 x (gsz i) →
    ((b < (I4 4 20 0 4)) →
      ok_f_X6_advise_l1 x n (i + 1) (gsz i) (I4 4 20 0 4) I4) ∧
    (¬ (b < (I4 4 20 0 4)) →
      ok_f_X6_advise_l1 x n (i + 1) a b I4)
def ok_X6_advise (I : gI) (x : Int32) : Prop :=
  ∀ I1, I1 = gU I 2 11 0 0 0 →
  ok_X6_isIn I1 x 1 40 ∧
  (((f_X6_isIn I1 x 1 40) = 0) →
    ok_X6_no I1 1 ∧
    ∀ I5, I5 = f_X6_no_s I1 1 →
    True) ∧
  (¬ ((f_X6_isIn I1 x 1 40) = 0) →
    ok_f_X6_advise_l1 x 5 0 0 (-1) I1)
def f_X6_advise_v (I : gI) (x : Int32) : Int32 :=
  let I1 := gU I 2 11 0 0 0
  if (f_X6_isIn I1 x 1 40) = 0 then
    let I5 := f_X6_no_s I1 1
    (f_X6_no_v I1 1)
  else
    f_X6_advise_l1_v x 5 0 0 (-1) I1
def f_X6_advise_s (I : gI) (x : Int32) : gI :=
  let I1 := gU I 2 11 0 0 0
  if (f_X6_isIn I1 x 1 40) = 0 then
    let I5 := f_X6_no_s I1 1
    I5
  else
    f_X6_advise_l1_s x 5 0 0 (-1) I1
/-! PRINTED by wip/gen (ref.py): X6c -/
def f_X6_digest_l1  : Nat → Nat → Int64 → gI → Int64
  | 0, i, d, I1 =>
    d
  | n + 1, i, d, I1 =>
    f_X6_digest_l1 n (i + 1) ((d * 31) + (f_X6_counted I1 3 (nI i)).toInt64) I1
def f_X6_digest_l3  (i : Nat) : Nat → Nat → Int64 → gI → Int64
  | 0, j, d, I1 =>
    d
  | n + 1, j, d, I1 =>
    f_X6_digest_l3 i n (j + 1) ((d * 31) + (f_X6_ladTold I1 (nI i) (nI j)).toInt64) I1
def f_X6_digest_l4  (i : Nat) : Nat → Nat → Int64 → gI → Int64
  | 0, j, d, I1 =>
    d
  | n + 1, j, d, I1 =>
    f_X6_digest_l4 i n (j + 1) ((d * 31) + (I1 3 40 0 ((I1 3 32 0 ((nI ((8 * i) + j)).toNatClampNeg)).toNatClampNeg)).toInt64) I1
def f_X6_digest_l2  : Nat → Nat → Int64 → gI → Int64
  | 0, i, d, I1 =>
    d
  | n + 1, i, d, I1 =>
    let d4 := (f_X6_digest_l3 i 9 0 d I1)
    let d5 := (f_X6_digest_l4 i (I1 3 31 0 i).toNatClampNeg 0 d4 I1)
    f_X6_digest_l2 n (i + 1) d5 I1
def f_X6_digest_l6  (i : Nat) : Nat → Nat → Int64 → gI → Int64
  | 0, j, d, I1 =>
    d
  | n + 1, j, d, I1 =>
    f_X6_digest_l6 i n (j + 1) ((d * 31) + (f_X6_loadTold I1 (nI i) (nI j)).toInt64) I1
def f_X6_digest_l5  : Nat → Nat → Int64 → gI → Int64
  | 0, i, d, I1 =>
    d
  | n + 1, i, d, I1 =>
    let d7 := (f_X6_digest_l6 i 7 0 d I1)
    f_X6_digest_l5 n (i + 1) d7 I1
def ok_f_X6_digest_l1  : Nat → Nat → Int64 → gI → Prop
  | 0, i, d, I1 =>
    True
  | n + 1, i, d, I1 =>
    ok_X6_counted I1 3 (nI i) ∧
    ok_f_X6_digest_l1 n (i + 1) ((d * 31) + (f_X6_counted I1 3 (nI i)).toInt64) I1
def ok_f_X6_digest_l3  (i : Nat) : Nat → Nat → Int64 → gI → Prop
  | 0, j, d, I1 =>
    True
  | n + 1, j, d, I1 =>
    ok_X6_ladTold I1 (nI i) (nI j) ∧
    ok_f_X6_digest_l3 i n (j + 1) ((d * 31) + (f_X6_ladTold I1 (nI i) (nI j)).toInt64) I1
def ok_f_X6_digest_l4  (i : Nat) : Nat → Nat → Int64 → gI → Prop
  | 0, j, d, I1 =>
    True
  | n + 1, j, d, I1 =>
    vp_in (nI ((8 * i) + j)) 48 ∧
    vp_in (I1 3 32 0 ((nI ((8 * i) + j)).toNatClampNeg)) 600 ∧
    ok_f_X6_digest_l4 i n (j + 1) ((d * 31) + (I1 3 40 0 ((I1 3 32 0 ((nI ((8 * i) + j)).toNatClampNeg)).toNatClampNeg)).toInt64) I1
def ok_f_X6_digest_l2  : Nat → Nat → Int64 → gI → Prop
  | 0, i, d, I1 =>
    True
  | n + 1, i, d, I1 =>
    ok_f_X6_digest_l3 i 9 0 d I1 ∧
    ∀ d4, d4 = (f_X6_digest_l3 i 9 0 d I1) →
    isN (I1 3 31 0 i) 8 ∧
    ok_f_X6_digest_l4 i (I1 3 31 0 i).toNatClampNeg 0 d4 I1 ∧
    ∀ d5, d5 = (f_X6_digest_l4 i (I1 3 31 0 i).toNatClampNeg 0 d4 I1) →
    ok_f_X6_digest_l2 n (i + 1) d5 I1
def ok_f_X6_digest_l6  (i : Nat) : Nat → Nat → Int64 → gI → Prop
  | 0, j, d, I1 =>
    True
  | n + 1, j, d, I1 =>
    ok_X6_loadTold I1 (nI i) (nI j) ∧
    ok_f_X6_digest_l6 i n (j + 1) ((d * 31) + (f_X6_loadTold I1 (nI i) (nI j)).toInt64) I1
def ok_f_X6_digest_l5  : Nat → Nat → Int64 → gI → Prop
  | 0, i, d, I1 =>
    True
  | n + 1, i, d, I1 =>
    ok_f_X6_digest_l6 i 7 0 d I1 ∧
    ∀ d7, d7 = (f_X6_digest_l6 i 7 0 d I1) →
    ok_f_X6_digest_l5 n (i + 1) d7 I1
def ok_X6_digest (I : gI)  : Prop :=
  ∀ I1, I1 = gU I 2 11 0 0 0 →
  ok_f_X6_digest_l1 13 0 1531 I1 ∧
  ∀ d2, d2 = (f_X6_digest_l1 13 0 1531 I1) →
  isN (I1 2 11 0 1) 6 ∧
  ok_f_X6_digest_l2 (I1 2 11 0 1).toNatClampNeg 0 d2 I1 ∧
  ∀ d3, d3 = (f_X6_digest_l2 (I1 2 11 0 1).toNatClampNeg 0 d2 I1) →
  isN (I1 2 11 0 4) 10 ∧
  ok_f_X6_digest_l5 (I1 2 11 0 4).toNatClampNeg 0 d3 I1 ∧
  ∀ d6, d6 = (f_X6_digest_l5 (I1 2 11 0 4).toNatClampNeg 0 d3 I1) →
  True
def f_X6_digest_v (I : gI)  : Int64 :=
  let I1 := gU I 2 11 0 0 0
  let d2 := (f_X6_digest_l1 13 0 1531 I1)
  let d3 := (f_X6_digest_l2 (I1 2 11 0 1).toNatClampNeg 0 d2 I1)
  let d6 := (f_X6_digest_l5 (I1 2 11 0 4).toNatClampNeg 0 d3 I1)
  d6
def f_X6_digest_s (I : gI)  : gI :=
  let I1 := gU I 2 11 0 0 0
  let d2 := (f_X6_digest_l1 13 0 1531 I1)
  let d3 := (f_X6_digest_l2 (I1 2 11 0 1).toNatClampNeg 0 d2 I1)
  let d6 := (f_X6_digest_l5 (I1 2 11 0 4).toNatClampNeg 0 d3 I1)
  I1
