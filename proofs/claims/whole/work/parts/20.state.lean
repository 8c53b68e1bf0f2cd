/-! PRINTED by wip/gen (ref.py): X5 -/

theorem nI_small {n : Nat} (h : n < 2 ^ 31) : n < 2 ^ 31 := h
def f_X5_copy (I : gI) (ys ts y t _n : Nat) (x : Int32) : gI := gR I y t 0 (va_cpy (I ys ts 0) (I y t 0) 0 0 x.toNatClampNeg)
theorem ne_X5_copy (I : gI) (ys ts y t n : Nat) (x : Int32) (hv0 : gv ys ts 0 = true) (hv1 : gv y t 0 = true) (hs0 : sh ts = .inr (0, n)) (hs1 : sh t = .inr (0, n)) (hk0 : ∀ j, gk ts j = true) (hk1 : ∀ j, gk t j = true) (ht1 : t ≠ 1) {y' : Nat} (hne : y' ≠ y) : f_X5_copy I ys ts y t n x y' = I y' := gR_ne _ _ _ _ hne
set_option maxHeartbeats 4000000 in
set_option maxRecDepth 100000 in
theorem m_X5_copy (l : Launch) (E : gE) (J : Int64) (I : gI) (ys ts y t n : Nat) (x : Int32) (hv0 : gv ys ts 0 = true) (hv1 : gv y t 0 = true) (hs0 : sh ts = .inr (0, n)) (hs1 : sh t = .inr (0, n)) (hk0 : ∀ j, gk ts j = true) (hk1 : ∀ j, gk t j = true) (ht1 : t ≠ 1) (h3 : ¬ x < 0) (h4 : x.toNatClampNeg ≤ n) : gMv l E J yX5_copy cX5_copy 3 none 1 40 [.ref (gA E ys ts 0), .ref (gA E y t 0), .int x] I (f_X5_copy I ys ts y t n x) := by
  refine g_entry (lv := [(0, .ref (gA E ys ts 0)), (1, .ref (gA E y t 0)), (2, .int x)]) (by decide) (Nat.le_of_ble_eq_true rfl) rfl ?_
  intro p e s m below meth c0 ls K hG hS hml hr hlocks hl
  have K : kx E p m c0 cX5_copy "HayThievesModel$State" _ s := K
  have hx := K.1
  have hb := K.2.1
  refine lv_aload_n hx hb dX5_copy_0 rfl (lv_at hl 0 rfl) ?_
  refine lv_iconst (v := 0) hx hb dX5_copy_1 (by decide) ?_
  refine lv_aload_n hx hb dX5_copy_2 rfl (lv_at hl 1 rfl) ?_
  refine lv_iconst (v := 0) hx hb dX5_copy_3 (by decide) ?_
  refine lv_iload_n hx hb dX5_copy_4 rfl (lv_at hl 2 rfl) ?_
  have h0 : ((0 : Int32)).toNatClampNeg = 0 := rfl
  refine g_copy (a := 0) (ty := .int) K (hml.trans hl.1.symm) q909 hG hS hv0 hv1 hs0 hs1 hk0 hk1 ht1 rfl rfl (by decide) (by decide) h3 (by rw [h0]; omega) (by rw [h0]; omega) (fun _ _ => rfl) (by decide) (Nat.le_of_ble_eq_true rfl) dX5_copy_5 (fun I1 hI1 H locs hG hS => ?_)
  replace hI1 : I1 = f_X5_copy I ys ts y t n x := hI1
  rw [hI1] at hG
  exact g_vret K hG hS hr hlocks dX5_copy_8

def ok_X5_add (I : gI) (y : Nat) (x a b : Int32) : Prop :=
  vp_in (I y 20 0 19) 600 ∧
  ∀ I1, I1 = gU I y 40 0 ((I y 20 0 19).toNatClampNeg) x →
  vp_in (I1 y 20 0 19) 600 ∧
  ∀ I2, I2 = gU I1 y 41 0 ((I1 y 20 0 19).toNatClampNeg) x →
  vp_in (I2 y 20 0 19) 600 ∧
  ∀ I3, I3 = gU I2 y 42 0 ((I2 y 20 0 19).toNatClampNeg) a →
  vp_in (I3 y 20 0 19) 600 ∧
  ∀ I4, I4 = gU I3 y 43 0 ((I3 y 20 0 19).toNatClampNeg) b →
  vp_in (I4 y 20 0 19) 600 ∧
  ∀ I5, I5 = gU I4 y 44 0 ((I4 y 20 0 19).toNatClampNeg) (-1) →
  vp_in (I5 y 20 0 19) 600 ∧
  ∀ I6, I6 = gU I5 y 45 0 ((I5 y 20 0 19).toNatClampNeg) 0 →
  ∀ I7, I7 = gU I6 y 20 0 19 ((I6 y 20 0 19) + 1) →
  True
def f_X5_add_v (I : gI) (y : Nat) (x a b : Int32) : Int32 :=
  let I1 := gU I y 40 0 ((I y 20 0 19).toNatClampNeg) x
  let I2 := gU I1 y 41 0 ((I1 y 20 0 19).toNatClampNeg) x
  let I3 := gU I2 y 42 0 ((I2 y 20 0 19).toNatClampNeg) a
  let I4 := gU I3 y 43 0 ((I3 y 20 0 19).toNatClampNeg) b
  let I5 := gU I4 y 44 0 ((I4 y 20 0 19).toNatClampNeg) (-1)
  let I6 := gU I5 y 45 0 ((I5 y 20 0 19).toNatClampNeg) 0
  let I7 := gU I6 y 20 0 19 ((I6 y 20 0 19) + 1)
  ((I7 y 20 0 19) - 1)
def f_X5_add_s (I : gI) (y : Nat) (x a b : Int32) : gI :=
  let I1 := gU I y 40 0 ((I y 20 0 19).toNatClampNeg) x
  let I2 := gU I1 y 41 0 ((I1 y 20 0 19).toNatClampNeg) x
  let I3 := gU I2 y 42 0 ((I2 y 20 0 19).toNatClampNeg) a
  let I4 := gU I3 y 43 0 ((I3 y 20 0 19).toNatClampNeg) b
  let I5 := gU I4 y 44 0 ((I4 y 20 0 19).toNatClampNeg) (-1)
  let I6 := gU I5 y 45 0 ((I5 y 20 0 19).toNatClampNeg) 0
  let I7 := gU I6 y 20 0 19 ((I6 y 20 0 19) + 1)
  I7
set_option maxRecDepth 100000 in
theorem ne_X5_add (I : gI) (y : Nat) (x a b : Int32) (hy : y = 3 ∨ y = 4) {y' : Nat} (hne : y' ≠ y) : f_X5_add_s I y x a b y' = I y' := by
  have hn : I y' = I y' := rfl
  obtain ⟨I1, hI1⟩ : ∃ z, z = gU I y 40 0 ((I y 20 0 19).toNatClampNeg) x := ⟨_, rfl⟩
  have hn1 : I1 y' = I y' := by rw [hI1]; exact (gU_ne _ _ _ _ _ hne).trans hn
  obtain ⟨I2, hI2⟩ : ∃ z, z = gU I1 y 41 0 ((I1 y 20 0 19).toNatClampNeg) x := ⟨_, rfl⟩
  have hn2 : I2 y' = I y' := by rw [hI2]; exact (gU_ne _ _ _ _ _ hne).trans hn1
  obtain ⟨I3, hI3⟩ : ∃ z, z = gU I2 y 42 0 ((I2 y 20 0 19).toNatClampNeg) a := ⟨_, rfl⟩
  have hn3 : I3 y' = I y' := by rw [hI3]; exact (gU_ne _ _ _ _ _ hne).trans hn2
  obtain ⟨I4, hI4⟩ : ∃ z, z = gU I3 y 43 0 ((I3 y 20 0 19).toNatClampNeg) b := ⟨_, rfl⟩
  have hn4 : I4 y' = I y' := by rw [hI4]; exact (gU_ne _ _ _ _ _ hne).trans hn3
  obtain ⟨I5, hI5⟩ : ∃ z, z = gU I4 y 44 0 ((I4 y 20 0 19).toNatClampNeg) (-1) := ⟨_, rfl⟩
  have hn5 : I5 y' = I y' := by rw [hI5]; exact (gU_ne _ _ _ _ _ hne).trans hn4
  obtain ⟨I6, hI6⟩ : ∃ z, z = gU I5 y 45 0 ((I5 y 20 0 19).toNatClampNeg) 0 := ⟨_, rfl⟩
  have hn6 : I6 y' = I y' := by rw [hI6]; exact (gU_ne _ _ _ _ _ hne).trans hn5
  obtain ⟨I7, hI7⟩ : ∃ z, z = gU I6 y 20 0 19 ((I6 y 20 0 19) + 1) := ⟨_, rfl⟩
  have hn7 : I7 y' = I y' := by rw [hI7]; exact (gU_ne _ _ _ _ _ hne).trans hn6
  have eS : f_X5_add_s I y x a b = I7 := by simp only [f_X5_add_s, ← hI1, ← hI2, ← hI3, ← hI4, ← hI5, ← hI6, ← hI7]
  exact (congrFun eS y').trans hn7
set_option maxHeartbeats 4000000 in
set_option maxRecDepth 100000 in
theorem m_X5_add (l : Launch) (E : gE) (J : Int64) (I : gI) (y : Nat) (x a b : Int32) (hy : y = 3 ∨ y = 4) (hok : ok_X5_add I y x a b) : gMi l E J yX5_add cX5_add 4 (some .int) 0 0 [.ref (gA E y 20 0), .int x, .int a, .int b] I (f_X5_add_v I y x a b) (f_X5_add_s I y x a b) := by
  refine g_entry (lv := [(0, .ref (gA E y 20 0)), (1, .int x), (2, .int a), (3, .int b)]) (by decide) (Nat.le_of_ble_eq_true rfl) rfl ?_
  intro p e s m below meth c0 ls K hG hS hml hr hlocks hl
  have K : kx E p m c0 cX5_add "HayThievesModel$State" _ s := K
  have hx := K.1
  have hb := K.2.1
  have hts := K.2.2.1
  have hown := K.2.2.2.1
  have hSt := K.2.2.2.2
  unfold ok_X5_add at hok
  refine lv_aload_n hx hb dX5_add_0 rfl (lv_at hl 0 rfl) ?_
  refine gf_X5_54 K hG (gvs hy 20 rfl) dX5_add_1 ?_
  refine lv_aload_n hx hb dX5_add_4 rfl (lv_at hl 0 rfl) ?_
  refine gf_X5_94 K hG (gvs hy 20 rfl) dX5_add_5 ?_
  refine lv_iload_n hx hb dX5_add_8 rfl (lv_at hl 1 rfl) ?_
  obtain ⟨ho1, hok⟩ := hok
  refine g_iast K hG hS (gvs hy 40 rfl) rfl (fun _ => rfl) (fun _ q => absurd q.1 (by decide)) ho1 dX5_add_9 (fun I1 hI1 H locs hG hS => ?_)
  have hok := hok I1 hI1
  refine lv_aload_n hx hb dX5_add_10 rfl (lv_at hl 0 rfl) ?_
  refine gf_X5_57 K hG (gvs hy 20 rfl) dX5_add_11 ?_
  refine lv_aload_n hx hb dX5_add_14 rfl (lv_at hl 0 rfl) ?_
  refine gf_X5_94 K hG (gvs hy 20 rfl) dX5_add_15 ?_
  refine lv_iload_n hx hb dX5_add_18 rfl (lv_at hl 1 rfl) ?_
  obtain ⟨ho2, hok⟩ := hok
  refine g_iast K hG hS (gvs hy 41 rfl) rfl (fun _ => rfl) (fun _ q => absurd q.1 (by decide)) ho2 dX5_add_19 (fun I2 hI2 H locs hG hS => ?_)
  have hok := hok I2 hI2
  refine lv_aload_n hx hb dX5_add_20 rfl (lv_at hl 0 rfl) ?_
  refine gf_X5_60 K hG (gvs hy 20 rfl) dX5_add_21 ?_
  refine lv_aload_n hx hb dX5_add_24 rfl (lv_at hl 0 rfl) ?_
  refine gf_X5_94 K hG (gvs hy 20 rfl) dX5_add_25 ?_
  refine lv_iload_n hx hb dX5_add_28 rfl (lv_at hl 2 rfl) ?_
  obtain ⟨ho3, hok⟩ := hok
  refine g_iast K hG hS (gvs hy 42 rfl) rfl (fun _ => rfl) (fun _ q => absurd q.1 (by decide)) ho3 dX5_add_29 (fun I3 hI3 H locs hG hS => ?_)
  have hok := hok I3 hI3
  refine lv_aload_n hx hb dX5_add_30 rfl (lv_at hl 0 rfl) ?_
  refine gf_X5_63 K hG (gvs hy 20 rfl) dX5_add_31 ?_
  refine lv_aload_n hx hb dX5_add_34 rfl (lv_at hl 0 rfl) ?_
  refine gf_X5_94 K hG (gvs hy 20 rfl) dX5_add_35 ?_
  refine lv_iload_n hx hb dX5_add_38 rfl (lv_at hl 3 rfl) ?_
  obtain ⟨ho4, hok⟩ := hok
  refine g_iast K hG hS (gvs hy 43 rfl) rfl (fun _ => rfl) (fun _ q => absurd q.1 (by decide)) ho4 dX5_add_39 (fun I4 hI4 H locs hG hS => ?_)
  have hok := hok I4 hI4
  refine lv_aload_n hx hb dX5_add_40 rfl (lv_at hl 0 rfl) ?_
  refine gf_X5_66 K hG (gvs hy 20 rfl) dX5_add_41 ?_
  refine lv_aload_n hx hb dX5_add_44 rfl (lv_at hl 0 rfl) ?_
  refine gf_X5_94 K hG (gvs hy 20 rfl) dX5_add_45 ?_
  refine lv_iconst (v := (-1)) hx hb dX5_add_48 (by decide) ?_
  obtain ⟨ho5, hok⟩ := hok
  refine g_iast K hG hS (gvs hy 44 rfl) rfl (fun _ => rfl) (fun _ q => absurd q.1 (by decide)) ho5 dX5_add_49 (fun I5 hI5 H locs hG hS => ?_)
  have hok := hok I5 hI5
  refine lv_aload_n hx hb dX5_add_50 rfl (lv_at hl 0 rfl) ?_
  refine gf_X5_69 K hG (gvs hy 20 rfl) dX5_add_51 ?_
  refine lv_aload_n hx hb dX5_add_54 rfl (lv_at hl 0 rfl) ?_
  refine gf_X5_94 K hG (gvs hy 20 rfl) dX5_add_55 ?_
  refine lv_iconst (v := 0) hx hb dX5_add_58 (by decide) ?_
  obtain ⟨ho6, hok⟩ := hok
  refine g_iast K hG hS (gvs hy 45 rfl) rfl (fun _ => rfl) (fun _ q => absurd q.1 (by decide)) ho6 dX5_add_59 (fun I6 hI6 H locs hG hS => ?_)
  have hok := hok I6 hI6
  refine lv_aload_n hx hb dX5_add_60 rfl (lv_at hl 0 rfl) ?_
  refine lv_dup hx hb dX5_add_61 rfl ?_
  refine gf_X5_94 K hG (gvs hy 20 rfl) dX5_add_62 ?_
  refine lv_iconst (v := 1) hx hb dX5_add_65 (by decide) ?_
  refine lv_iadd hx hb dX5_add_66 ?_
  refine pf_X5_94 K hG hS (gvs hy 20 rfl) dX5_add_67 (fun I7 hI7 H locs hG hS => ?_)
  have hok := hok I7 hI7
  refine lv_aload_n hx hb dX5_add_70 rfl (lv_at hl 0 rfl) ?_
  refine gf_X5_94 K hG (gvs hy 20 rfl) dX5_add_71 ?_
  refine lv_iconst (v := 1) hx hb dX5_add_74 (by decide) ?_
  refine lv_isub hx hb dX5_add_75 ?_
  have eS : I7 = (f_X5_add_s I y x a b) := (by simp only [f_X5_add_s, ← hI1, ← hI2, ← hI3, ← hI4, ← hI5, ← hI6, ← hI7])
  rw [eS] at hG
  exact g_iret K hG hS hr hlocks (by simp only [f_X5_add_v, ← hI1, ← hI2, ← hI3, ← hI4, ← hI5, ← hI6, ← hI7]) dX5_add_76
def ok_X5_far (I : gI) (y : Nat) (x : Int32) : Prop :=
  vp_in x 6 ∧
  vp_in (((8 * x) + (I y 31 0 x.toNatClampNeg)) - 1) 48 ∧
  True
def f_X5_far (I : gI) (y : Nat) (x : Int32) : Int32 :=
  (I y 32 0 ((((8 * x) + (I y 31 0 x.toNatClampNeg)) - 1).toNatClampNeg))
set_option maxHeartbeats 4000000 in
set_option maxRecDepth 100000 in
theorem m_X5_far (l : Launch) (E : gE) (J : Int64) (I : gI) (y : Nat) (x : Int32) (hy : y = 3 ∨ y = 4) (hok : ok_X5_far I y x) : gMi l E J yX5_far cX5_far 2 (some .int) 0 0 [.ref (gA E y 20 0), .int x] I (f_X5_far I y x) I := by
  refine g_entry (lv := [(0, .ref (gA E y 20 0)), (1, .int x)]) (by decide) (Nat.le_of_ble_eq_true rfl) rfl ?_
  intro p e s m below meth c0 ls K hG hS hml hr hlocks hl
  have K : kx E p m c0 cX5_far "HayThievesModel$State" _ s := K
  have hx := K.1
  have hb := K.2.1
  have hts := K.2.2.1
  have hown := K.2.2.2.1
  have hSt := K.2.2.2.2
  unfold ok_X5_far at hok
  refine lv_aload_n hx hb dX5_far_0 rfl (lv_at hl 0 rfl) ?_
  refine gf_X5_33 K hG (gvs hy 20 rfl) dX5_far_1 ?_
  refine lv_bipush (v := 8) hx hb dX5_far_4 (by decide) ?_
  refine lv_iload_n hx hb dX5_far_6 rfl (lv_at hl 1 rfl) ?_
  refine lv_imul hx hb dX5_far_7 ?_
  refine lv_aload_n hx hb dX5_far_8 rfl (lv_at hl 0 rfl) ?_
  refine gf_X5_30 K hG (gvs hy 20 rfl) dX5_far_9 ?_
  refine lv_iload_n hx hb dX5_far_12 rfl (lv_at hl 1 rfl) ?_
  obtain ⟨ho1, hok⟩ := hok
  refine g_iald K hG (gvs hy 31 rfl) rfl (fun _ => rfl) ho1 dX5_far_13 ?_
  refine lv_iadd hx hb dX5_far_14 ?_
  refine lv_iconst (v := 1) hx hb dX5_far_15 (by decide) ?_
  refine lv_isub hx hb dX5_far_16 ?_
  obtain ⟨ho2, hok⟩ := hok
  refine g_iald K hG (gvs hy 32 rfl) rfl (fun _ => rfl) ho2 dX5_far_17 ?_
  exact g_iret K hG hS hr hlocks (by simp only [f_X5_far]) dX5_far_18
def ok_X5_putNear (I : gI) (y : Nat) (x a : Int32) : Prop :=
  vp_in x 6 ∧
  ¬ (8 * x) < 0 ∧
  ¬ ((8 * x) + 1) < 0 ∧
  ¬ (I y 31 0 x.toNatClampNeg) < 0 ∧
  (8 * x).toNatClampNeg + (I y 31 0 x.toNatClampNeg).toNatClampNeg ≤ 48 ∧
  ((8 * x) + 1).toNatClampNeg + (I y 31 0 x.toNatClampNeg).toNatClampNeg ≤ 48 ∧
  ∀ I1, I1 = gR I y 32 0 (va_cpy (I y 32 0) (I y 32 0) ((8 * x).toNatClampNeg) (((8 * x) + 1).toNatClampNeg) ((I y 31 0 x.toNatClampNeg).toNatClampNeg)) →
  vp_in (8 * x) 48 ∧
  ∀ I2, I2 = gU I1 y 32 0 ((8 * x).toNatClampNeg) a →
  ∀ I3, I3 = gU I2 y 31 0 x.toNatClampNeg ((I2 y 31 0 x.toNatClampNeg) + 1) →
  True
def f_X5_putNear (I : gI) (y : Nat) (x a : Int32) : gI :=
  let I1 := gR I y 32 0 (va_cpy (I y 32 0) (I y 32 0) ((8 * x).toNatClampNeg) (((8 * x) + 1).toNatClampNeg) ((I y 31 0 x.toNatClampNeg).toNatClampNeg))
  let I2 := gU I1 y 32 0 ((8 * x).toNatClampNeg) a
  let I3 := gU I2 y 31 0 x.toNatClampNeg ((I2 y 31 0 x.toNatClampNeg) + 1)
  I3
set_option maxRecDepth 100000 in
theorem ne_X5_putNear (I : gI) (y : Nat) (x a : Int32) (hy : y = 3 ∨ y = 4) {y' : Nat} (hne : y' ≠ y) : f_X5_putNear I y x a y' = I y' := by
  have hn : I y' = I y' := rfl
  obtain ⟨I1, hI1⟩ : ∃ z, z = gR I y 32 0 (va_cpy (I y 32 0) (I y 32 0) ((8 * x).toNatClampNeg) (((8 * x) + 1).toNatClampNeg) ((I y 31 0 x.toNatClampNeg).toNatClampNeg)) := ⟨_, rfl⟩
  have hn1 : I1 y' = I y' := by rw [hI1]; exact (gR_ne _ _ _ _ hne).trans hn
  obtain ⟨I2, hI2⟩ : ∃ z, z = gU I1 y 32 0 ((8 * x).toNatClampNeg) a := ⟨_, rfl⟩
  have hn2 : I2 y' = I y' := by rw [hI2]; exact (gU_ne _ _ _ _ _ hne).trans hn1
  obtain ⟨I3, hI3⟩ : ∃ z, z = gU I2 y 31 0 x.toNatClampNeg ((I2 y 31 0 x.toNatClampNeg) + 1) := ⟨_, rfl⟩
  have hn3 : I3 y' = I y' := by rw [hI3]; exact (gU_ne _ _ _ _ _ hne).trans hn2
  have eS : f_X5_putNear I y x a = I3 := by simp only [f_X5_putNear, ← hI1, ← hI2, ← hI3]
  exact (congrFun eS y').trans hn3
set_option maxHeartbeats 4000000 in
set_option maxRecDepth 100000 in
theorem m_X5_putNear (l : Launch) (E : gE) (J : Int64) (I : gI) (y : Nat) (x a : Int32) (hy : y = 3 ∨ y = 4) (hok : ok_X5_putNear I y x a) : gMv l E J yX5_putNear cX5_putNear 3 none 1 40 [.ref (gA E y 20 0), .int x, .int a] I (f_X5_putNear I y x a) := by
  refine g_entry (lv := [(0, .ref (gA E y 20 0)), (1, .int x), (2, .int a)]) (by decide) (Nat.le_of_ble_eq_true rfl) rfl ?_
  intro p e s m below meth c0 ls K hG hS hml hr hlocks hl
  have K : kx E p m c0 cX5_putNear "HayThievesModel$State" _ s := K
  have hx := K.1
  have hb := K.2.1
  have hts := K.2.2.1
  have hown := K.2.2.2.1
  have hSt := K.2.2.2.2
  unfold ok_X5_putNear at hok
  refine lv_aload_n hx hb dX5_putNear_0 rfl (lv_at hl 0 rfl) ?_
  refine gf_X5_33 K hG (gvs hy 20 rfl) dX5_putNear_1 ?_
  refine lv_bipush (v := 8) hx hb dX5_putNear_4 (by decide) ?_
  refine lv_iload_n hx hb dX5_putNear_6 rfl (lv_at hl 1 rfl) ?_
  refine lv_imul hx hb dX5_putNear_7 ?_
  refine lv_aload_n hx hb dX5_putNear_8 rfl (lv_at hl 0 rfl) ?_
  refine gf_X5_33 K hG (gvs hy 20 rfl) dX5_putNear_9 ?_
  refine lv_bipush (v := 8) hx hb dX5_putNear_12 (by decide) ?_
  refine lv_iload_n hx hb dX5_putNear_14 rfl (lv_at hl 1 rfl) ?_
  refine lv_imul hx hb dX5_putNear_15 ?_
  refine lv_iconst (v := 1) hx hb dX5_putNear_16 (by decide) ?_
  refine lv_iadd hx hb dX5_putNear_17 ?_
  refine lv_aload_n hx hb dX5_putNear_18 rfl (lv_at hl 0 rfl) ?_
  refine gf_X5_30 K hG (gvs hy 20 rfl) dX5_putNear_19 ?_
  refine lv_iload_n hx hb dX5_putNear_22 rfl (lv_at hl 1 rfl) ?_
  obtain ⟨ho1, hok⟩ := hok
  refine g_iald K hG (gvs hy 31 rfl) rfl (fun _ => rfl) ho1 dX5_putNear_23 ?_
  obtain ⟨ho2, hok⟩ := hok
  obtain ⟨ho3, hok⟩ := hok
  obtain ⟨ho4, hok⟩ := hok
  obtain ⟨ho5, hok⟩ := hok
  obtain ⟨ho6, hok⟩ := hok
  refine g_copy (a := 0) (ty := .int) K (hml.trans hl.1.symm) q909 hG hS (gvs hy 32 rfl) (gvs hy 32 rfl) rfl rfl (fun _ => rfl) (fun _ => rfl) (by decide) rfl rfl ho2 ho3 ho4 ho5 ho6 (fun _ _ => rfl) (by decide) (by decide) dX5_putNear_24 (fun I1 hI1 H locs hG hS => ?_)
  replace hI1 : I1 = gR I y 32 0 (va_cpy (I y 32 0) (I y 32 0) ((8 * x).toNatClampNeg) (((8 * x) + 1).toNatClampNeg) ((I y 31 0 x.toNatClampNeg).toNatClampNeg)) := hI1
  have hok := hok I1 hI1
  refine lv_aload_n hx hb dX5_putNear_27 rfl (lv_at hl 0 rfl) ?_
  refine gf_X5_33 K hG (gvs hy 20 rfl) dX5_putNear_28 ?_
  refine lv_bipush (v := 8) hx hb dX5_putNear_31 (by decide) ?_
  refine lv_iload_n hx hb dX5_putNear_33 rfl (lv_at hl 1 rfl) ?_
  refine lv_imul hx hb dX5_putNear_34 ?_
  refine lv_iload_n hx hb dX5_putNear_35 rfl (lv_at hl 2 rfl) ?_
  obtain ⟨ho7, hok⟩ := hok
  refine g_iast K hG hS (gvs hy 32 rfl) rfl (fun _ => rfl) (fun _ q => absurd q.1 (by decide)) ho7 dX5_putNear_36 (fun I2 hI2 H locs hG hS => ?_)
  have hok := hok I2 hI2
  refine lv_aload_n hx hb dX5_putNear_37 rfl (lv_at hl 0 rfl) ?_
  refine gf_X5_30 K hG (gvs hy 20 rfl) dX5_putNear_38 ?_
  refine lv_iload_n hx hb dX5_putNear_41 rfl (lv_at hl 1 rfl) ?_
  refine lv_dup2_11 hx hb dX5_putNear_42 rfl rfl ?_
  refine g_iald K hG (gvs hy 31 rfl) rfl (fun _ => rfl) ho1 dX5_putNear_43 ?_
  refine lv_iconst (v := 1) hx hb dX5_putNear_44 (by decide) ?_
  refine lv_iadd hx hb dX5_putNear_45 ?_
  refine g_iast K hG hS (gvs hy 31 rfl) rfl (fun _ => rfl) (fun _ q => absurd q.1 (by decide)) ho1 dX5_putNear_46 (fun I3 hI3 H locs hG hS => ?_)
  have hok := hok I3 hI3
  have eS : I3 = (f_X5_putNear I y x a) := (by simp only [f_X5_putNear, ← hI1, ← hI2, ← hI3])
  rw [eS] at hG
  exact g_vret K hG hS hr hlocks dX5_putNear_47
def ok_X5_takeNear (I : gI) (y : Nat) (x : Int32) : Prop :=
  vp_in (8 * x) 48 ∧
  vp_in x 6 ∧
  ∀ I1, I1 = gU I y 31 0 x.toNatClampNeg ((I y 31 0 x.toNatClampNeg) - 1) →
  ¬ ((8 * x) + 1) < 0 ∧
  ¬ (8 * x) < 0 ∧
  ¬ (I1 y 31 0 x.toNatClampNeg) < 0 ∧
  ((8 * x) + 1).toNatClampNeg + (I1 y 31 0 x.toNatClampNeg).toNatClampNeg ≤ 48 ∧
  (8 * x).toNatClampNeg + (I1 y 31 0 x.toNatClampNeg).toNatClampNeg ≤ 48 ∧
  ∀ I2, I2 = gR I1 y 32 0 (va_cpy (I1 y 32 0) (I1 y 32 0) (((8 * x) + 1).toNatClampNeg) ((8 * x).toNatClampNeg) ((I1 y 31 0 x.toNatClampNeg).toNatClampNeg)) →
  True
def f_X5_takeNear_v (I : gI) (y : Nat) (x : Int32) : Int32 :=
  let I1 := gU I y 31 0 x.toNatClampNeg ((I y 31 0 x.toNatClampNeg) - 1)
  let I2 := gR I1 y 32 0 (va_cpy (I1 y 32 0) (I1 y 32 0) (((8 * x) + 1).toNatClampNeg) ((8 * x).toNatClampNeg) ((I1 y 31 0 x.toNatClampNeg).toNatClampNeg))
  (I y 32 0 ((8 * x).toNatClampNeg))
def f_X5_takeNear_s (I : gI) (y : Nat) (x : Int32) : gI :=
  let I1 := gU I y 31 0 x.toNatClampNeg ((I y 31 0 x.toNatClampNeg) - 1)
  let I2 := gR I1 y 32 0 (va_cpy (I1 y 32 0) (I1 y 32 0) (((8 * x) + 1).toNatClampNeg) ((8 * x).toNatClampNeg) ((I1 y 31 0 x.toNatClampNeg).toNatClampNeg))
  I2
set_option maxRecDepth 100000 in
theorem ne_X5_takeNear (I : gI) (y : Nat) (x : Int32) (hy : y = 3 ∨ y = 4) {y' : Nat} (hne : y' ≠ y) : f_X5_takeNear_s I y x y' = I y' := by
  have hn : I y' = I y' := rfl
  obtain ⟨I1, hI1⟩ : ∃ z, z = gU I y 31 0 x.toNatClampNeg ((I y 31 0 x.toNatClampNeg) - 1) := ⟨_, rfl⟩
  have hn1 : I1 y' = I y' := by rw [hI1]; exact (gU_ne _ _ _ _ _ hne).trans hn
  obtain ⟨I2, hI2⟩ : ∃ z, z = gR I1 y 32 0 (va_cpy (I1 y 32 0) (I1 y 32 0) (((8 * x) + 1).toNatClampNeg) ((8 * x).toNatClampNeg) ((I1 y 31 0 x.toNatClampNeg).toNatClampNeg)) := ⟨_, rfl⟩
  have hn2 : I2 y' = I y' := by rw [hI2]; exact (gR_ne _ _ _ _ hne).trans hn1
  have eS : f_X5_takeNear_s I y x = I2 := by simp only [f_X5_takeNear_s, ← hI1, ← hI2]
  exact (congrFun eS y').trans hn2
set_option maxHeartbeats 4000000 in
set_option maxRecDepth 100000 in
theorem m_X5_takeNear (l : Launch) (E : gE) (J : Int64) (I : gI) (y : Nat) (x : Int32) (hy : y = 3 ∨ y = 4) (hok : ok_X5_takeNear I y x) : gMi l E J yX5_takeNear cX5_takeNear 3 (some .int) 1 40 [.ref (gA E y 20 0), .int x] I (f_X5_takeNear_v I y x) (f_X5_takeNear_s I y x) := by
  refine g_entry (lv := [(0, .ref (gA E y 20 0)), (1, .int x)]) (by decide) (Nat.le_of_ble_eq_true rfl) rfl ?_
  intro p e s m below meth c0 ls K hG hS hml hr hlocks hl
  have K : kx E p m c0 cX5_takeNear "HayThievesModel$State" _ s := K
  have hx := K.1
  have hb := K.2.1
  have hts := K.2.2.1
  have hown := K.2.2.2.1
  have hSt := K.2.2.2.2
  unfold ok_X5_takeNear at hok
  refine lv_aload_n hx hb dX5_takeNear_0 rfl (lv_at hl 0 rfl) ?_
  refine gf_X5_33 K hG (gvs hy 20 rfl) dX5_takeNear_1 ?_
  refine lv_bipush (v := 8) hx hb dX5_takeNear_4 (by decide) ?_
  refine lv_iload_n hx hb dX5_takeNear_6 rfl (lv_at hl 1 rfl) ?_
  refine lv_imul hx hb dX5_takeNear_7 ?_
  obtain ⟨ho1, hok⟩ := hok
  refine g_iald K hG (gvs hy 32 rfl) rfl (fun _ => rfl) ho1 dX5_takeNear_8 ?_
  refine lv_istore_n (lv' := [(2, .int (I y 32 0 ((8 * x).toNatClampNeg))), (0, .ref (gA E y 20 0)), (1, .int x)]) hx hb dX5_takeNear_9 rfl hl (by decide) rfl (fun ls hl => ?_)
  refine lv_aload_n hx hb dX5_takeNear_10 rfl (lv_at hl 1 rfl) ?_
  refine gf_X5_30 K hG (gvs hy 20 rfl) dX5_takeNear_11 ?_
  refine lv_iload_n hx hb dX5_takeNear_14 rfl (lv_at hl 2 rfl) ?_
  refine lv_dup2_11 hx hb dX5_takeNear_15 rfl rfl ?_
  obtain ⟨ho2, hok⟩ := hok
  refine g_iald K hG (gvs hy 31 rfl) rfl (fun _ => rfl) ho2 dX5_takeNear_16 ?_
  refine lv_iconst (v := 1) hx hb dX5_takeNear_17 (by decide) ?_
  refine lv_isub hx hb dX5_takeNear_18 ?_
  refine g_iast K hG hS (gvs hy 31 rfl) rfl (fun _ => rfl) (fun _ q => absurd q.1 (by decide)) ho2 dX5_takeNear_19 (fun I1 hI1 H locs hG hS => ?_)
  have hok := hok I1 hI1
  refine lv_aload_n hx hb dX5_takeNear_20 rfl (lv_at hl 1 rfl) ?_
  refine gf_X5_33 K hG (gvs hy 20 rfl) dX5_takeNear_21 ?_
  refine lv_bipush (v := 8) hx hb dX5_takeNear_24 (by decide) ?_
  refine lv_iload_n hx hb dX5_takeNear_26 rfl (lv_at hl 2 rfl) ?_
  refine lv_imul hx hb dX5_takeNear_27 ?_
  refine lv_iconst (v := 1) hx hb dX5_takeNear_28 (by decide) ?_
  refine lv_iadd hx hb dX5_takeNear_29 ?_
  refine lv_aload_n hx hb dX5_takeNear_30 rfl (lv_at hl 1 rfl) ?_
  refine gf_X5_33 K hG (gvs hy 20 rfl) dX5_takeNear_31 ?_
  refine lv_bipush (v := 8) hx hb dX5_takeNear_34 (by decide) ?_
  refine lv_iload_n hx hb dX5_takeNear_36 rfl (lv_at hl 2 rfl) ?_
  refine lv_imul hx hb dX5_takeNear_37 ?_
  refine lv_aload_n hx hb dX5_takeNear_38 rfl (lv_at hl 1 rfl) ?_
  refine gf_X5_30 K hG (gvs hy 20 rfl) dX5_takeNear_39 ?_
  refine lv_iload_n hx hb dX5_takeNear_42 rfl (lv_at hl 2 rfl) ?_
  refine g_iald K hG (gvs hy 31 rfl) rfl (fun _ => rfl) ho2 dX5_takeNear_43 ?_
  obtain ⟨ho3, hok⟩ := hok
  obtain ⟨ho4, hok⟩ := hok
  obtain ⟨ho5, hok⟩ := hok
  obtain ⟨ho6, hok⟩ := hok
  obtain ⟨ho7, hok⟩ := hok
  refine g_copy (a := 0) (ty := .int) K (hml.trans hl.1.symm) q909 hG hS (gvs hy 32 rfl) (gvs hy 32 rfl) rfl rfl (fun _ => rfl) (fun _ => rfl) (by decide) rfl rfl ho3 ho4 ho5 ho6 ho7 (fun _ _ => rfl) (by decide) (by decide) dX5_takeNear_44 (fun I2 hI2 H locs hG hS => ?_)
  replace hI2 : I2 = gR I1 y 32 0 (va_cpy (I1 y 32 0) (I1 y 32 0) (((8 * x) + 1).toNatClampNeg) ((8 * x).toNatClampNeg) ((I1 y 31 0 x.toNatClampNeg).toNatClampNeg)) := hI2
  have hok := hok I2 hI2
  refine lv_iload_n hx hb dX5_takeNear_47 rfl (lv_at hl 0 rfl) ?_
  have eS : I2 = (f_X5_takeNear_s I y x) := (by simp only [f_X5_takeNear_s, ← hI1, ← hI2])
  rw [eS] at hG
  exact g_iret K hG hS hr hlocks (by simp only [f_X5_takeNear_v, ← hI1, ← hI2]) dX5_takeNear_48
def ok_X5_hold (I : gI) (y : Nat) (x a : Int32) : Prop :=
  vp_in x 6 ∧
  ∀ I1, I1 = gU I y 25 0 x.toNatClampNeg 1 →
  ∀ I2, I2 = gU I1 y 26 0 x.toNatClampNeg a →
  True
def f_X5_hold (I : gI) (y : Nat) (x a : Int32) : gI :=
  let I1 := gU I y 25 0 x.toNatClampNeg 1
  let I2 := gU I1 y 26 0 x.toNatClampNeg a
  I2
set_option maxRecDepth 100000 in
theorem ne_X5_hold (I : gI) (y : Nat) (x a : Int32) (hy : y = 3 ∨ y = 4) {y' : Nat} (hne : y' ≠ y) : f_X5_hold I y x a y' = I y' := by
  have hn : I y' = I y' := rfl
  obtain ⟨I1, hI1⟩ : ∃ z, z = gU I y 25 0 x.toNatClampNeg 1 := ⟨_, rfl⟩
  have hn1 : I1 y' = I y' := by rw [hI1]; exact (gU_ne _ _ _ _ _ hne).trans hn
  obtain ⟨I2, hI2⟩ : ∃ z, z = gU I1 y 26 0 x.toNatClampNeg a := ⟨_, rfl⟩
  have hn2 : I2 y' = I y' := by rw [hI2]; exact (gU_ne _ _ _ _ _ hne).trans hn1
  have eS : f_X5_hold I y x a = I2 := by simp only [f_X5_hold, ← hI1, ← hI2]
  exact (congrFun eS y').trans hn2
set_option maxHeartbeats 4000000 in
set_option maxRecDepth 100000 in
theorem m_X5_hold (l : Launch) (E : gE) (J : Int64) (I : gI) (y : Nat) (x a : Int32) (hy : y = 3 ∨ y = 4) (hok : ok_X5_hold I y x a) : gMv l E J yX5_hold cX5_hold 3 none 0 0 [.ref (gA E y 20 0), .int x, .int a] I (f_X5_hold I y x a) := by
  refine g_entry (lv := [(0, .ref (gA E y 20 0)), (1, .int x), (2, .int a)]) (by decide) (Nat.le_of_ble_eq_true rfl) rfl ?_
  intro p e s m below meth c0 ls K hG hS hml hr hlocks hl
  have K : kx E p m c0 cX5_hold "HayThievesModel$State" _ s := K
  have hx := K.1
  have hb := K.2.1
  have hts := K.2.2.1
  have hown := K.2.2.2.1
  have hSt := K.2.2.2.2
  unfold ok_X5_hold at hok
  refine lv_aload_n hx hb dX5_hold_0 rfl (lv_at hl 0 rfl) ?_
  refine gf_X5_9 K hG (gvs hy 20 rfl) dX5_hold_1 ?_
  refine lv_iload_n hx hb dX5_hold_4 rfl (lv_at hl 1 rfl) ?_
  refine lv_iconst (v := 1) hx hb dX5_hold_5 (by decide) ?_
  obtain ⟨ho1, hok⟩ := hok
  refine g_iast K hG hS (gvs hy 25 rfl) rfl (fun _ => rfl) (fun _ q => absurd q.1 (by decide)) ho1 dX5_hold_6 (fun I1 hI1 H locs hG hS => ?_)
  have hok := hok I1 hI1
  refine lv_aload_n hx hb dX5_hold_7 rfl (lv_at hl 0 rfl) ?_
  refine gf_X5_15 K hG (gvs hy 20 rfl) dX5_hold_8 ?_
  refine lv_iload_n hx hb dX5_hold_11 rfl (lv_at hl 1 rfl) ?_
  refine lv_iload_n hx hb dX5_hold_12 rfl (lv_at hl 2 rfl) ?_
  refine g_iast K hG hS (gvs hy 26 rfl) rfl (fun _ => rfl) (fun _ q => absurd q.1 (by decide)) ho1 dX5_hold_13 (fun I2 hI2 H locs hG hS => ?_)
  have hok := hok I2 hI2
  have eS : I2 = (f_X5_hold I y x a) := (by simp only [f_X5_hold, ← hI1, ← hI2])
  rw [eS] at hG
  exact g_vret K hG hS hr hlocks dX5_hold_14
def ok_X5_finish (I : gI) (y : Nat) (x a : Int32) : Prop :=
  vp_in a 600 ∧
  ∀ I1, I1 = gU I y 45 0 a.toNatClampNeg 1 →
  vp_in x 6 ∧
  ∀ I2, I2 = gU I1 y 25 0 x.toNatClampNeg 0 →
  (((I2 y 43 0 a.toNatClampNeg) = (-1)) →
    vp_in (I2 y 42 0 a.toNatClampNeg) 10 ∧
    ∀ I5, I5 = gU I2 y 33 0 ((I2 y 42 0 a.toNatClampNeg).toNatClampNeg) 2 →
    vp_in (I5 y 42 0 a.toNatClampNeg) 10 ∧
    ∀ I6, I6 = gU I5 y 35 0 ((I5 y 42 0 a.toNatClampNeg).toNatClampNeg) (I5 y 20 0 0) →
    True) ∧
  (¬ ((I2 y 43 0 a.toNatClampNeg) = (-1)) →
    vp_in (I2 y 44 0 a.toNatClampNeg) 600 ∧
    (((I2 y 45 0 ((I2 y 44 0 a.toNatClampNeg).toNatClampNeg)) = 1) →
      ∀ I3, I3 = gU I2 y 25 0 x.toNatClampNeg 2 →
      ∀ I4, I4 = gU I3 y 26 0 x.toNatClampNeg (I3 y 43 0 a.toNatClampNeg) →
      True) ∧
    (¬ ((I2 y 45 0 ((I2 y 44 0 a.toNatClampNeg).toNatClampNeg)) = 1) →
      True))
def f_X5_finish (I : gI) (y : Nat) (x a : Int32) : gI :=
  let I1 := gU I y 45 0 a.toNatClampNeg 1
  let I2 := gU I1 y 25 0 x.toNatClampNeg 0
  if (I2 y 43 0 a.toNatClampNeg) = (-1) then
    let I5 := gU I2 y 33 0 ((I2 y 42 0 a.toNatClampNeg).toNatClampNeg) 2
    let I6 := gU I5 y 35 0 ((I5 y 42 0 a.toNatClampNeg).toNatClampNeg) (I5 y 20 0 0)
    I6
  else
    if (I2 y 45 0 ((I2 y 44 0 a.toNatClampNeg).toNatClampNeg)) = 1 then
      let I3 := gU I2 y 25 0 x.toNatClampNeg 2
      let I4 := gU I3 y 26 0 x.toNatClampNeg (I3 y 43 0 a.toNatClampNeg)
      I4
    else
      I2
set_option maxRecDepth 100000 in
theorem ne_X5_finish (I : gI) (y : Nat) (x a : Int32) (hy : y = 3 ∨ y = 4) {y' : Nat} (hne : y' ≠ y) : f_X5_finish I y x a y' = I y' := by
  have hn : I y' = I y' := rfl
  obtain ⟨I1, hI1⟩ : ∃ z, z = gU I y 45 0 a.toNatClampNeg 1 := ⟨_, rfl⟩
  have hn1 : I1 y' = I y' := by rw [hI1]; exact (gU_ne _ _ _ _ _ hne).trans hn
  obtain ⟨I2, hI2⟩ : ∃ z, z = gU I1 y 25 0 x.toNatClampNeg 0 := ⟨_, rfl⟩
  have hn2 : I2 y' = I y' := by rw [hI2]; exact (gU_ne _ _ _ _ _ hne).trans hn1
  by_cases c3 : (I2 y 43 0 a.toNatClampNeg) = (-1)
  · obtain ⟨I5, hI5⟩ : ∃ z, z = gU I2 y 33 0 ((I2 y 42 0 a.toNatClampNeg).toNatClampNeg) 2 := ⟨_, rfl⟩
    have hn5 : I5 y' = I y' := by rw [hI5]; exact (gU_ne _ _ _ _ _ hne).trans hn2
    obtain ⟨I6, hI6⟩ : ∃ z, z = gU I5 y 35 0 ((I5 y 42 0 a.toNatClampNeg).toNatClampNeg) (I5 y 20 0 0) := ⟨_, rfl⟩
    have hn6 : I6 y' = I y' := by rw [hI6]; exact (gU_ne _ _ _ _ _ hne).trans hn5
    have eS : f_X5_finish I y x a = I6 := by simp only [f_X5_finish, ← hI1, ← hI2, ← hI5, ← hI6, if_pos c3]
    exact (congrFun eS y').trans hn6
  · by_cases c5 : (I2 y 45 0 ((I2 y 44 0 a.toNatClampNeg).toNatClampNeg)) = 1
    · obtain ⟨I3, hI3⟩ : ∃ z, z = gU I2 y 25 0 x.toNatClampNeg 2 := ⟨_, rfl⟩
      have hn3 : I3 y' = I y' := by rw [hI3]; exact (gU_ne _ _ _ _ _ hne).trans hn2
      obtain ⟨I4, hI4⟩ : ∃ z, z = gU I3 y 26 0 x.toNatClampNeg (I3 y 43 0 a.toNatClampNeg) := ⟨_, rfl⟩
      have hn4 : I4 y' = I y' := by rw [hI4]; exact (gU_ne _ _ _ _ _ hne).trans hn3
      have eS : f_X5_finish I y x a = I4 := by simp only [f_X5_finish, ← hI1, ← hI2, ← hI3, ← hI4, if_neg c3, if_pos c5]
      exact (congrFun eS y').trans hn4
    · have eS : f_X5_finish I y x a = I2 := by simp only [f_X5_finish, ← hI1, ← hI2, if_neg c3, if_neg c5]
      exact (congrFun eS y').trans hn2
set_option maxHeartbeats 4000000 in
set_option maxRecDepth 100000 in
theorem m_X5_finish (l : Launch) (E : gE) (J : Int64) (I : gI) (y : Nat) (x a : Int32) (hy : y = 3 ∨ y = 4) (hok : ok_X5_finish I y x a) : gMv l E J yX5_finish cX5_finish 3 none 0 0 [.ref (gA E y 20 0), .int x, .int a] I (f_X5_finish I y x a) := by
  refine g_entry (lv := [(0, .ref (gA E y 20 0)), (1, .int x), (2, .int a)]) (by decide) (Nat.le_of_ble_eq_true rfl) rfl ?_
  intro p e s m below meth c0 ls K hG hS hml hr hlocks hl
  have K : kx E p m c0 cX5_finish "HayThievesModel$State" _ s := K
  have hx := K.1
  have hb := K.2.1
  have hts := K.2.2.1
  have hown := K.2.2.2.1
  have hSt := K.2.2.2.2
  unfold ok_X5_finish at hok
  refine lv_aload_n hx hb dX5_finish_0 rfl (lv_at hl 0 rfl) ?_
  refine gf_X5_69 K hG (gvs hy 20 rfl) dX5_finish_1 ?_
  refine lv_iload_n hx hb dX5_finish_4 rfl (lv_at hl 2 rfl) ?_
  refine lv_iconst (v := 1) hx hb dX5_finish_5 (by decide) ?_
  obtain ⟨ho1, hok⟩ := hok
  refine g_iast K hG hS (gvs hy 45 rfl) rfl (fun _ => rfl) (fun _ q => absurd q.1 (by decide)) ho1 dX5_finish_6 (fun I1 hI1 H locs hG hS => ?_)
  have hok := hok I1 hI1
  refine lv_aload_n hx hb dX5_finish_7 rfl (lv_at hl 0 rfl) ?_
  refine gf_X5_9 K hG (gvs hy 20 rfl) dX5_finish_8 ?_
  refine lv_iload_n hx hb dX5_finish_11 rfl (lv_at hl 1 rfl) ?_
  refine lv_iconst (v := 0) hx hb dX5_finish_12 (by decide) ?_
  obtain ⟨ho2, hok⟩ := hok
  refine g_iast K hG hS (gvs hy 25 rfl) rfl (fun _ => rfl) (fun _ q => absurd q.1 (by decide)) ho2 dX5_finish_13 (fun I2 hI2 H locs hG hS => ?_)
  have hok := hok I2 hI2
  refine lv_aload_n hx hb dX5_finish_14 rfl (lv_at hl 0 rfl) ?_
  refine gf_X5_63 K hG (gvs hy 20 rfl) dX5_finish_15 ?_
  refine lv_iload_n hx hb dX5_finish_18 rfl (lv_at hl 2 rfl) ?_
  refine g_iald K hG (gvs hy 43 rfl) rfl (fun _ => rfl) ho1 dX5_finish_19 ?_
  refine lv_iconst (v := (-1)) hx hb dX5_finish_20 (by decide) ?_
  refine lv_icmp_ne (tgt := 54) hx hb dX5_finish_21 (by decide) (fun c3 => ?_) (fun c3 => ?_)
  · have hok := hok.2 c3
    refine lv_aload_n hx hb dX5_finish_54 rfl (lv_at hl 0 rfl) ?_
    refine gf_X5_69 K hG (gvs hy 20 rfl) dX5_finish_55 ?_
    refine lv_aload_n hx hb dX5_finish_58 rfl (lv_at hl 0 rfl) ?_
    refine gf_X5_66 K hG (gvs hy 20 rfl) dX5_finish_59 ?_
    refine lv_iload_n hx hb dX5_finish_62 rfl (lv_at hl 2 rfl) ?_
    refine g_iald K hG (gvs hy 44 rfl) rfl (fun _ => rfl) ho1 dX5_finish_63 ?_
    obtain ⟨ho4, hok⟩ := hok
    refine g_iald K hG (gvs hy 45 rfl) rfl (fun _ => rfl) ho4 dX5_finish_64 ?_
    refine lv_iconst (v := 1) hx hb dX5_finish_65 (by decide) ?_
    refine lv_icmp_ne (tgt := 88) hx hb dX5_finish_66 (by decide) (fun c5 => ?_) (fun c5 => ?_)
    · have hok := hok.2 c5
      have eS : I2 = (f_X5_finish I y x a) := (by simp only [f_X5_finish, ← hI1, ← hI2, if_neg c3, if_neg c5])
      rw [eS] at hG
      exact g_vret K hG hS hr hlocks dX5_finish_88
    · have hok := hok.1 c5
      refine lv_aload_n hx hb dX5_finish_69 rfl (lv_at hl 0 rfl) ?_
      refine gf_X5_9 K hG (gvs hy 20 rfl) dX5_finish_70 ?_
      refine lv_iload_n hx hb dX5_finish_73 rfl (lv_at hl 1 rfl) ?_
      refine lv_iconst (v := 2) hx hb dX5_finish_74 (by decide) ?_
      refine g_iast K hG hS (gvs hy 25 rfl) rfl (fun _ => rfl) (fun _ q => absurd q.1 (by decide)) ho2 dX5_finish_75 (fun I3 hI3 H locs hG hS => ?_)
      have hok := hok I3 hI3
      refine lv_aload_n hx hb dX5_finish_76 rfl (lv_at hl 0 rfl) ?_
      refine gf_X5_15 K hG (gvs hy 20 rfl) dX5_finish_77 ?_
      refine lv_iload_n hx hb dX5_finish_80 rfl (lv_at hl 1 rfl) ?_
      refine lv_aload_n hx hb dX5_finish_81 rfl (lv_at hl 0 rfl) ?_
      refine gf_X5_63 K hG (gvs hy 20 rfl) dX5_finish_82 ?_
      refine lv_iload_n hx hb dX5_finish_85 rfl (lv_at hl 2 rfl) ?_
      refine g_iald K hG (gvs hy 43 rfl) rfl (fun _ => rfl) ho1 dX5_finish_86 ?_
      refine g_iast K hG hS (gvs hy 26 rfl) rfl (fun _ => rfl) (fun _ q => absurd q.1 (by decide)) ho2 dX5_finish_87 (fun I4 hI4 H locs hG hS => ?_)
      have hok := hok I4 hI4
      have eS : I4 = (f_X5_finish I y x a) := (by simp only [f_X5_finish, ← hI1, ← hI2, ← hI3, ← hI4, if_neg c3, if_pos c5])
      rw [eS] at hG
      exact g_vret K hG hS hr hlocks dX5_finish_88
  · have hok := hok.1 c3
    refine lv_aload_n hx hb dX5_finish_24 rfl (lv_at hl 0 rfl) ?_
    refine gf_X5_36 K hG (gvs hy 20 rfl) dX5_finish_25 ?_
    refine lv_aload_n hx hb dX5_finish_28 rfl (lv_at hl 0 rfl) ?_
    refine gf_X5_60 K hG (gvs hy 20 rfl) dX5_finish_29 ?_
    refine lv_iload_n hx hb dX5_finish_32 rfl (lv_at hl 2 rfl) ?_
    refine g_iald K hG (gvs hy 42 rfl) rfl (fun _ => rfl) ho1 dX5_finish_33 ?_
    refine lv_iconst (v := 2) hx hb dX5_finish_34 (by decide) ?_
    obtain ⟨ho6, hok⟩ := hok
    refine g_iast K hG hS (gvs hy 33 rfl) rfl (fun _ => rfl) (fun _ q => absurd q.1 (by decide)) ho6 dX5_finish_35 (fun I5 hI5 H locs hG hS => ?_)
    have hok := hok I5 hI5
    refine lv_aload_n hx hb dX5_finish_36 rfl (lv_at hl 0 rfl) ?_
    refine gf_X5_42 K hG (gvs hy 20 rfl) dX5_finish_37 ?_
    refine lv_aload_n hx hb dX5_finish_40 rfl (lv_at hl 0 rfl) ?_
    refine gf_X5_60 K hG (gvs hy 20 rfl) dX5_finish_41 ?_
    refine lv_iload_n hx hb dX5_finish_44 rfl (lv_at hl 2 rfl) ?_
    refine g_iald K hG (gvs hy 42 rfl) rfl (fun _ => rfl) ho1 dX5_finish_45 ?_
    refine lv_aload_n hx hb dX5_finish_46 rfl (lv_at hl 0 rfl) ?_
    refine gf_X5_78 K hG (gvs hy 20 rfl) dX5_finish_47 ?_
    obtain ⟨ho7, hok⟩ := hok
    refine g_iast K hG hS (gvs hy 35 rfl) rfl (fun _ => rfl) (fun _ q => absurd q.1 (by decide)) ho7 dX5_finish_50 (fun I6 hI6 H locs hG hS => ?_)
    have hok := hok I6 hI6
    refine lv_goto (tgt := 88) hx hb dX5_finish_51 (by decide) ?_
    have eS : I6 = (f_X5_finish I y x a) := (by simp only [f_X5_finish, ← hI1, ← hI2, ← hI5, ← hI6, if_pos c3])
    rw [eS] at hG
    exact g_vret K hG hS hr hlocks dX5_finish_88
def f_X5_forkIt_l1 (y : Nat) (x a : Int32) : Nat → Nat → gI → gI
  | 0, i, I8 =>
    I8
  | n + 1, i, I8 =>
    if (I8 y 25 0 i) = 3 then
      let I9 := gU I8 y 25 0 i 0
      I9
    else
      f_X5_forkIt_l1 y x a n (i + 1) I8
def ok_f_X5_forkIt_l1 (y : Nat) (x a : Int32) : Nat → Nat → gI → Prop
  | 0, i, I8 =>
    True
  | n + 1, i, I8 =>
    (((I8 y 25 0 i) = 3) →
      ∀ I9, I9 = gU I8 y 25 0 i 0 →
      True) ∧
    (¬ ((I8 y 25 0 i) = 3) →
      ok_f_X5_forkIt_l1 y x a n (i + 1) I8)
def ok_X5_forkIt (I : gI) (y : Nat) (x a : Int32) : Prop :=
  vp_in a 600 ∧
  ok_X5_add I y ((I y 40 0 a.toNatClampNeg) / 2) (I y 42 0 a.toNatClampNeg) a ∧
  ∀ I1, I1 = f_X5_add_s I y ((I y 40 0 a.toNatClampNeg) / 2) (I y 42 0 a.toNatClampNeg) a →
  ok_X5_add I1 y ((I1 y 40 0 a.toNatClampNeg) - ((I1 y 40 0 a.toNatClampNeg) / 2)) (I1 y 42 0 a.toNatClampNeg) a ∧
  ∀ I2, I2 = f_X5_add_s I1 y ((I1 y 40 0 a.toNatClampNeg) - ((I1 y 40 0 a.toNatClampNeg) / 2)) (I1 y 42 0 a.toNatClampNeg) a →
  vp_in (f_X5_add_v I y ((I y 40 0 a.toNatClampNeg) / 2) (I y 42 0 a.toNatClampNeg) a) 600 ∧
  ∀ I3, I3 = gU I2 y 44 0 ((f_X5_add_v I y ((I y 40 0 a.toNatClampNeg) / 2) (I y 42 0 a.toNatClampNeg) a).toNatClampNeg) (f_X5_add_v I1 y ((I1 y 40 0 a.toNatClampNeg) - ((I1 y 40 0 a.toNatClampNeg) / 2)) (I1 y 42 0 a.toNatClampNeg) a) →
  vp_in (f_X5_add_v I1 y ((I1 y 40 0 a.toNatClampNeg) - ((I1 y 40 0 a.toNatClampNeg) / 2)) (I1 y 42 0 a.toNatClampNeg) a) 600 ∧
  ∀ I4, I4 = gU I3 y 44 0 ((f_X5_add_v I1 y ((I1 y 40 0 a.toNatClampNeg) - ((I1 y 40 0 a.toNatClampNeg) / 2)) (I1 y 42 0 a.toNatClampNeg) a).toNatClampNeg) (f_X5_add_v I y ((I y 40 0 a.toNatClampNeg) / 2) (I y 42 0 a.toNatClampNeg) a) →
  ok_X5_putNear I4 y x (f_X5_add_v I1 y ((I1 y 40 0 a.toNatClampNeg) - ((I1 y 40 0 a.toNatClampNeg) / 2)) (I1 y 42 0 a.toNatClampNeg) a) ∧
  ∀ I5, I5 = f_X5_putNear I4 y x (f_X5_add_v I1 y ((I1 y 40 0 a.toNatClampNeg) - ((I1 y 40 0 a.toNatClampNeg) / 2)) (I1 y 42 0 a.toNatClampNeg) a) →
  vp_in x 6 ∧
  ∀ I6, I6 = gU I5 y 26 0 x.toNatClampNeg (f_X5_add_v I y ((I y 40 0 a.toNatClampNeg) / 2) (I y 42 0 a.toNatClampNeg) a) →
  vp_in (I6 y 42 0 a.toNatClampNeg) 10 ∧
  ∀ I7, I7 = gU I6 y 36 0 ((I6 y 42 0 a.toNatClampNeg).toNatClampNeg) ((I6 y 36 0 ((I6 y 42 0 a.toNatClampNeg).toNatClampNeg)) + 2) →
  ∀ I8, I8 = gU I7 y 20 0 2 ((I7 y 20 0 2) + 1) →
  ok_f_X5_forkIt_l1 y x a 6 0 I8
def f_X5_forkIt (I : gI) (y : Nat) (x a : Int32) : gI :=
  let I1 := f_X5_add_s I y ((I y 40 0 a.toNatClampNeg) / 2) (I y 42 0 a.toNatClampNeg) a
  let I2 := f_X5_add_s I1 y ((I1 y 40 0 a.toNatClampNeg) - ((I1 y 40 0 a.toNatClampNeg) / 2)) (I1 y 42 0 a.toNatClampNeg) a
  let I3 := gU I2 y 44 0 ((f_X5_add_v I y ((I y 40 0 a.toNatClampNeg) / 2) (I y 42 0 a.toNatClampNeg) a).toNatClampNeg) (f_X5_add_v I1 y ((I1 y 40 0 a.toNatClampNeg) - ((I1 y 40 0 a.toNatClampNeg) / 2)) (I1 y 42 0 a.toNatClampNeg) a)
  let I4 := gU I3 y 44 0 ((f_X5_add_v I1 y ((I1 y 40 0 a.toNatClampNeg) - ((I1 y 40 0 a.toNatClampNeg) / 2)) (I1 y 42 0 a.toNatClampNeg) a).toNatClampNeg) (f_X5_add_v I y ((I y 40 0 a.toNatClampNeg) / 2) (I y 42 0 a.toNatClampNeg) a)
  let I5 := f_X5_putNear I4 y x (f_X5_add_v I1 y ((I1 y 40 0 a.toNatClampNeg) - ((I1 y 40 0 a.toNatClampNeg) / 2)) (I1 y 42 0 a.toNatClampNeg) a)
  let I6 := gU I5 y 26 0 x.toNatClampNeg (f_X5_add_v I y ((I y 40 0 a.toNatClampNeg) / 2) (I y 42 0 a.toNatClampNeg) a)
  let I7 := gU I6 y 36 0 ((I6 y 42 0 a.toNatClampNeg).toNatClampNeg) ((I6 y 36 0 ((I6 y 42 0 a.toNatClampNeg).toNatClampNeg)) + 2)
  let I8 := gU I7 y 20 0 2 ((I7 y 20 0 2) + 1)
  f_X5_forkIt_l1 y x a 6 0 I8
set_option maxRecDepth 100000 in
theorem ne_f_X5_forkIt_l1 (I : gI) (y : Nat) (x a : Int32) (hy : y = 3 ∨ y = 4) {y' : Nat} (hne : y' ≠ y) : ∀ (n i : Nat) (I8 : gI), f_X5_forkIt_l1 y x a n i I8 y' = I8 y' := by
  intro n
  induction n with
  | zero =>
    intro i I8
    have hn8 : I8 y' = I8 y' := rfl
    have eS : f_X5_forkIt_l1 y x a 0 i I8 = I8 := by simp only [f_X5_forkIt_l1]
    exact (congrFun eS y').trans hn8
  | succ n ih =>
    intro i I8
    have hn8 : I8 y' = I8 y' := rfl
    by_cases c11 : (I8 y 25 0 i) = 3
    · obtain ⟨I9, hI9⟩ : ∃ z, z = gU I8 y 25 0 i 0 := ⟨_, rfl⟩
      have hn9 : I9 y' = I8 y' := by rw [hI9]; exact (gU_ne _ _ _ _ _ hne).trans hn8
      have eS : f_X5_forkIt_l1 y x a (n + 1) i I8 = I9 := by simp only [f_X5_forkIt_l1, ← hI9, if_pos c11]
      exact (congrFun eS y').trans hn9
    · have eS : f_X5_forkIt_l1 y x a (n + 1) i I8 = f_X5_forkIt_l1 y x a n (i + 1) I8 := by simp only [f_X5_forkIt_l1, if_neg c11]
      exact (congrFun eS y').trans ((ih (i + 1) I8).trans hn8)
set_option maxRecDepth 100000 in
theorem ne_X5_forkIt (I : gI) (y : Nat) (x a : Int32) (hy : y = 3 ∨ y = 4) {y' : Nat} (hne : y' ≠ y) : f_X5_forkIt I y x a y' = I y' := by
  have hn : I y' = I y' := rfl
  obtain ⟨I1, hI1⟩ : ∃ z, z = f_X5_add_s I y ((I y 40 0 a.toNatClampNeg) / 2) (I y 42 0 a.toNatClampNeg) a := ⟨_, rfl⟩
  have hn1 : I1 y' = I y' := by rw [hI1]; exact (ne_X5_add I y ((I y 40 0 a.toNatClampNeg) / 2) (I y 42 0 a.toNatClampNeg) a hy (y' := y') hne).trans hn
  obtain ⟨I2, hI2⟩ : ∃ z, z = f_X5_add_s I1 y ((I1 y 40 0 a.toNatClampNeg) - ((I1 y 40 0 a.toNatClampNeg) / 2)) (I1 y 42 0 a.toNatClampNeg) a := ⟨_, rfl⟩
  have hn2 : I2 y' = I y' := by rw [hI2]; exact (ne_X5_add I1 y ((I1 y 40 0 a.toNatClampNeg) - ((I1 y 40 0 a.toNatClampNeg) / 2)) (I1 y 42 0 a.toNatClampNeg) a hy (y' := y') hne).trans hn1
  obtain ⟨I3, hI3⟩ : ∃ z, z = gU I2 y 44 0 ((f_X5_add_v I y ((I y 40 0 a.toNatClampNeg) / 2) (I y 42 0 a.toNatClampNeg) a).toNatClampNeg) (f_X5_add_v I1 y ((I1 y 40 0 a.toNatClampNeg) - ((I1 y 40 0 a.toNatClampNeg) / 2)) (I1 y 42 0 a.toNatClampNeg) a) := ⟨_, rfl⟩
  have hn3 : I3 y' = I y' := by rw [hI3]; exact (gU_ne _ _ _ _ _ hne).trans hn2
  obtain ⟨I4, hI4⟩ : ∃ z, z = gU I3 y 44 0 ((f_X5_add_v I1 y ((I1 y 40 0 a.toNatClampNeg) - ((I1 y 40 0 a.toNatClampNeg) / 2)) (I1 y 42 0 a.toNatClampNeg) a).toNatClampNeg) (f_X5_add_v I y ((I y 40 0 a.toNatClampNeg) / 2) (I y 42 0 a.toNatClampNeg) a) := ⟨_, rfl⟩
  have hn4 : I4 y' = I y' := by rw [hI4]; exact (gU_ne _ _ _ _ _ hne).trans hn3
  obtain ⟨I5, hI5⟩ : ∃ z, z = f_X5_putNear I4 y x (f_X5_add_v I1 y ((I1 y 40 0 a.toNatClampNeg) - ((I1 y 40 0 a.toNatClampNeg) / 2)) (I1 y 42 0 a.toNatClampNeg) a) := ⟨_, rfl⟩
  have hn5 : I5 y' = I y' := by rw [hI5]; exact (ne_X5_putNear I4 y x (f_X5_add_v I1 y ((I1 y 40 0 a.toNatClampNeg) - ((I1 y 40 0 a.toNatClampNeg) / 2)) (I1 y 42 0 a.toNatClampNeg) a) hy (y' := y') hne).trans hn4
  obtain ⟨I6, hI6⟩ : ∃ z, z = gU I5 y 26 0 x.toNatClampNeg (f_X5_add_v I y ((I y 40 0 a.toNatClampNeg) / 2) (I y 42 0 a.toNatClampNeg) a) := ⟨_, rfl⟩
  have hn6 : I6 y' = I y' := by rw [hI6]; exact (gU_ne _ _ _ _ _ hne).trans hn5
  obtain ⟨I7, hI7⟩ : ∃ z, z = gU I6 y 36 0 ((I6 y 42 0 a.toNatClampNeg).toNatClampNeg) ((I6 y 36 0 ((I6 y 42 0 a.toNatClampNeg).toNatClampNeg)) + 2) := ⟨_, rfl⟩
  have hn7 : I7 y' = I y' := by rw [hI7]; exact (gU_ne _ _ _ _ _ hne).trans hn6
  obtain ⟨I8, hI8⟩ : ∃ z, z = gU I7 y 20 0 2 ((I7 y 20 0 2) + 1) := ⟨_, rfl⟩
  have hn8 : I8 y' = I y' := by rw [hI8]; exact (gU_ne _ _ _ _ _ hne).trans hn7
  have eS : f_X5_forkIt I y x a = f_X5_forkIt_l1 y x a 6 0 I8 := by simp only [f_X5_forkIt, ← hI1, ← hI2, ← hI3, ← hI4, ← hI5, ← hI6, ← hI7, ← hI8]
  exact (congrFun eS y').trans ((ne_f_X5_forkIt_l1 I y x a hy hne 6 0 I8).trans hn8)
set_option maxHeartbeats 4000000 in
set_option maxRecDepth 100000 in
theorem m_X5_forkIt (l : Launch) (E : gE) (J : Int64) (I : gI) (y : Nat) (x a : Int32) (hy : y = 3 ∨ y = 4) (hok : ok_X5_forkIt I y x a) : gMv l E J yX5_forkIt cX5_forkIt 6 none 2 62 [.ref (gA E y 20 0), .int x, .int a] I (f_X5_forkIt I y x a) := by
  refine g_entry (lv := [(0, .ref (gA E y 20 0)), (1, .int x), (2, .int a)]) (by decide) (Nat.le_of_ble_eq_true rfl) rfl ?_
  intro p e s m below meth c0 ls K hG hS hml hr hlocks hl
  have K : kx E p m c0 cX5_forkIt "HayThievesModel$State" _ s := K
  have hx := K.1
  have hb := K.2.1
  have hts := K.2.2.1
  have hown := K.2.2.2.1
  have hSt := K.2.2.2.2
  unfold ok_X5_forkIt at hok
  refine lv_aload_n hx hb dX5_forkIt_0 rfl (lv_at hl 0 rfl) ?_
  refine lv_aload_n hx hb dX5_forkIt_1 rfl (lv_at hl 0 rfl) ?_
  refine gf_X5_54 K hG (gvs hy 20 rfl) dX5_forkIt_2 ?_
  refine lv_iload_n hx hb dX5_forkIt_5 rfl (lv_at hl 2 rfl) ?_
  obtain ⟨ho1, hok⟩ := hok
  refine g_iald K hG (gvs hy 40 rfl) rfl (fun _ => rfl) ho1 dX5_forkIt_6 ?_
  refine lv_iconst (v := 2) hx hb dX5_forkIt_7 (by decide) ?_
  refine lv_idiv hx hb dX5_forkIt_8 (by decide) ?_
  refine lv_aload_n hx hb dX5_forkIt_9 rfl (lv_at hl 0 rfl) ?_
  refine gf_X5_60 K hG (gvs hy 20 rfl) dX5_forkIt_10 ?_
  refine lv_iload_n hx hb dX5_forkIt_13 rfl (lv_at hl 2 rfl) ?_
  refine g_iald K hG (gvs hy 42 rfl) rfl (fun _ => rfl) ho1 dX5_forkIt_14 ?_
  refine lv_iload_n hx hb dX5_forkIt_15 rfl (lv_at hl 2 rfl) ?_
  obtain ⟨ho2, hok⟩ := hok
  refine g_ki (g_runV (As := [.int ((I y 40 0 a.toNatClampNeg) / 2), .int (I y 42 0 a.toNatClampNeg), .int a]) (rest := []) K hml ca_X5_add q918 (m_X5_add l E J I y ((I y 40 0 a.toNatClampNeg) / 2) (I y 42 0 a.toNatClampNeg) a hy ho2) hG hS (gvs hy 20 rfl) rfl rfl rfl rfl hl.1 (Nat.le_of_ble_eq_true rfl) ⟨by decide, by decide⟩ dX5_forkIt_16 ⟨Nat.zero_le _, Nat.zero_le _⟩) hS (fun H locs hG hS => ?_)
  obtain ⟨I1, hI1⟩ : ∃ z, z = f_X5_add_s I y ((I y 40 0 a.toNatClampNeg) / 2) (I y 42 0 a.toNatClampNeg) a := ⟨_, rfl⟩
  rw [← hI1] at hG
  have hok := hok I1 hI1
  refine lv_istore_n (lv' := [(3, .int (f_X5_add_v I y ((I y 40 0 a.toNatClampNeg) / 2) (I y 42 0 a.toNatClampNeg) a)), (0, .ref (gA E y 20 0)), (1, .int x), (2, .int a)]) hx hb dX5_forkIt_19 rfl hl (by decide) rfl (fun ls hl => ?_)
  refine lv_aload_n hx hb dX5_forkIt_20 rfl (lv_at hl 1 rfl) ?_
  refine lv_aload_n hx hb dX5_forkIt_21 rfl (lv_at hl 1 rfl) ?_
  refine gf_X5_54 K hG (gvs hy 20 rfl) dX5_forkIt_22 ?_
  refine lv_iload_n hx hb dX5_forkIt_25 rfl (lv_at hl 3 rfl) ?_
  refine g_iald K hG (gvs hy 40 rfl) rfl (fun _ => rfl) ho1 dX5_forkIt_26 ?_
  refine lv_aload_n hx hb dX5_forkIt_27 rfl (lv_at hl 1 rfl) ?_
  refine gf_X5_54 K hG (gvs hy 20 rfl) dX5_forkIt_28 ?_
  refine lv_iload_n hx hb dX5_forkIt_31 rfl (lv_at hl 3 rfl) ?_
  refine g_iald K hG (gvs hy 40 rfl) rfl (fun _ => rfl) ho1 dX5_forkIt_32 ?_
  refine lv_iconst (v := 2) hx hb dX5_forkIt_33 (by decide) ?_
  refine lv_idiv hx hb dX5_forkIt_34 (by decide) ?_
  refine lv_isub hx hb dX5_forkIt_35 ?_
  refine lv_aload_n hx hb dX5_forkIt_36 rfl (lv_at hl 1 rfl) ?_
  refine gf_X5_60 K hG (gvs hy 20 rfl) dX5_forkIt_37 ?_
  refine lv_iload_n hx hb dX5_forkIt_40 rfl (lv_at hl 3 rfl) ?_
  refine g_iald K hG (gvs hy 42 rfl) rfl (fun _ => rfl) ho1 dX5_forkIt_41 ?_
  refine lv_iload_n hx hb dX5_forkIt_42 rfl (lv_at hl 3 rfl) ?_
  obtain ⟨ho3, hok⟩ := hok
  refine g_ki (g_runV (As := [.int ((I1 y 40 0 a.toNatClampNeg) - ((I1 y 40 0 a.toNatClampNeg) / 2)), .int (I1 y 42 0 a.toNatClampNeg), .int a]) (rest := []) K hml ca_X5_add q918 (m_X5_add l E J I1 y ((I1 y 40 0 a.toNatClampNeg) - ((I1 y 40 0 a.toNatClampNeg) / 2)) (I1 y 42 0 a.toNatClampNeg) a hy ho3) hG hS (gvs hy 20 rfl) rfl rfl rfl rfl hl.1 (Nat.le_of_ble_eq_true rfl) ⟨by decide, by decide⟩ dX5_forkIt_43 ⟨Nat.zero_le _, Nat.zero_le _⟩) hS (fun H locs hG hS => ?_)
  obtain ⟨I2, hI2⟩ : ∃ z, z = f_X5_add_s I1 y ((I1 y 40 0 a.toNatClampNeg) - ((I1 y 40 0 a.toNatClampNeg) / 2)) (I1 y 42 0 a.toNatClampNeg) a := ⟨_, rfl⟩
  rw [← hI2] at hG
  have hok := hok I2 hI2
  refine lv_istore (lv' := [(4, .int (f_X5_add_v I1 y ((I1 y 40 0 a.toNatClampNeg) - ((I1 y 40 0 a.toNatClampNeg) / 2)) (I1 y 42 0 a.toNatClampNeg) a)), (3, .int (f_X5_add_v I y ((I y 40 0 a.toNatClampNeg) / 2) (I y 42 0 a.toNatClampNeg) a)), (0, .ref (gA E y 20 0)), (1, .int x), (2, .int a)]) hx hb dX5_forkIt_46 hl (by decide) rfl (fun ls hl => ?_)
  refine lv_aload_n hx hb dX5_forkIt_48 rfl (lv_at hl 2 rfl) ?_
  refine gf_X5_66 K hG (gvs hy 20 rfl) dX5_forkIt_49 ?_
  refine lv_iload_n hx hb dX5_forkIt_52 rfl (lv_at hl 1 rfl) ?_
  refine lv_iload hx hb dX5_forkIt_53 (lv_at hl 0 rfl) ?_
  obtain ⟨ho4, hok⟩ := hok
  refine g_iast K hG hS (gvs hy 44 rfl) rfl (fun _ => rfl) (fun _ q => absurd q.1 (by decide)) ho4 dX5_forkIt_55 (fun I3 hI3 H locs hG hS => ?_)
  have hok := hok I3 hI3
  refine lv_aload_n hx hb dX5_forkIt_56 rfl (lv_at hl 2 rfl) ?_
  refine gf_X5_66 K hG (gvs hy 20 rfl) dX5_forkIt_57 ?_
  refine lv_iload hx hb dX5_forkIt_60 (lv_at hl 0 rfl) ?_
  refine lv_iload_n hx hb dX5_forkIt_62 rfl (lv_at hl 1 rfl) ?_
  obtain ⟨ho5, hok⟩ := hok
  refine g_iast K hG hS (gvs hy 44 rfl) rfl (fun _ => rfl) (fun _ q => absurd q.1 (by decide)) ho5 dX5_forkIt_63 (fun I4 hI4 H locs hG hS => ?_)
  have hok := hok I4 hI4
  refine lv_aload_n hx hb dX5_forkIt_64 rfl (lv_at hl 2 rfl) ?_
  refine lv_iload_n hx hb dX5_forkIt_65 rfl (lv_at hl 3 rfl) ?_
  refine lv_iload hx hb dX5_forkIt_66 (lv_at hl 0 rfl) ?_
  obtain ⟨ho6, hok⟩ := hok
  refine g_kv (g_runV (As := [.int x, .int (f_X5_add_v I1 y ((I1 y 40 0 a.toNatClampNeg) - ((I1 y 40 0 a.toNatClampNeg) / 2)) (I1 y 42 0 a.toNatClampNeg) a)]) (rest := []) K hml ca_X5_putNear q919 (m_X5_putNear l E J I4 y x (f_X5_add_v I1 y ((I1 y 40 0 a.toNatClampNeg) - ((I1 y 40 0 a.toNatClampNeg) / 2)) (I1 y 42 0 a.toNatClampNeg) a) hy ho6) hG hS (gvs hy 20 rfl) rfl rfl rfl rfl hl.1 (Nat.le_of_ble_eq_true rfl) ⟨by decide, by decide⟩ dX5_forkIt_68 ⟨Nat.zero_le _, Nat.zero_le _⟩) hS (fun H locs hG hS => ?_)
  obtain ⟨I5, hI5⟩ : ∃ z, z = f_X5_putNear I4 y x (f_X5_add_v I1 y ((I1 y 40 0 a.toNatClampNeg) - ((I1 y 40 0 a.toNatClampNeg) / 2)) (I1 y 42 0 a.toNatClampNeg) a) := ⟨_, rfl⟩
  rw [← hI5] at hG
  have hok := hok I5 hI5
  refine lv_aload_n hx hb dX5_forkIt_71 rfl (lv_at hl 2 rfl) ?_
  refine gf_X5_15 K hG (gvs hy 20 rfl) dX5_forkIt_72 ?_
  refine lv_iload_n hx hb dX5_forkIt_75 rfl (lv_at hl 3 rfl) ?_
  refine lv_iload_n hx hb dX5_forkIt_76 rfl (lv_at hl 1 rfl) ?_
  obtain ⟨ho7, hok⟩ := hok
  refine g_iast K hG hS (gvs hy 26 rfl) rfl (fun _ => rfl) (fun _ q => absurd q.1 (by decide)) ho7 dX5_forkIt_77 (fun I6 hI6 H locs hG hS => ?_)
  have hok := hok I6 hI6
  refine lv_aload_n hx hb dX5_forkIt_78 rfl (lv_at hl 2 rfl) ?_
  refine gf_X5_45 K hG (gvs hy 20 rfl) dX5_forkIt_79 ?_
  refine lv_aload_n hx hb dX5_forkIt_82 rfl (lv_at hl 2 rfl) ?_
  refine gf_X5_60 K hG (gvs hy 20 rfl) dX5_forkIt_83 ?_
  refine lv_iload_n hx hb dX5_forkIt_86 rfl (lv_at hl 4 rfl) ?_
  refine g_iald K hG (gvs hy 42 rfl) rfl (fun _ => rfl) ho1 dX5_forkIt_87 ?_
  refine lv_dup2_11 hx hb dX5_forkIt_88 rfl rfl ?_
  obtain ⟨ho8, hok⟩ := hok
  refine g_iald K hG (gvs hy 36 rfl) rfl (fun _ => rfl) ho8 dX5_forkIt_89 ?_
  refine lv_iconst (v := 2) hx hb dX5_forkIt_90 (by decide) ?_
  refine lv_iadd hx hb dX5_forkIt_91 ?_
  refine g_iast K hG hS (gvs hy 36 rfl) rfl (fun _ => rfl) (fun _ q => absurd q.1 (by decide)) ho8 dX5_forkIt_92 (fun I7 hI7 H locs hG hS => ?_)
  have hok := hok I7 hI7
  refine lv_aload_n hx hb dX5_forkIt_93 rfl (lv_at hl 2 rfl) ?_
  refine lv_dup hx hb dX5_forkIt_94 rfl ?_
  refine gf_X5_85 K hG (gvs hy 20 rfl) dX5_forkIt_95 ?_
  refine lv_iconst (v := 1) hx hb dX5_forkIt_98 (by decide) ?_
  refine lv_iadd hx hb dX5_forkIt_99 ?_
  refine pf_X5_85 K hG hS (gvs hy 20 rfl) dX5_forkIt_100 (fun I8 hI8 H locs hG hS => ?_)
  have hok := hok I8 hI8
  refine lv_iconst (v := 0) hx hb dX5_forkIt_103 (by decide) ?_
  refine lv_istore (lv' := [(5, .int 0), (4, .int (f_X5_add_v I1 y ((I1 y 40 0 a.toNatClampNeg) - ((I1 y 40 0 a.toNatClampNeg) / 2)) (I1 y 42 0 a.toNatClampNeg) a)), (3, .int (f_X5_add_v I y ((I y 40 0 a.toNatClampNeg) / 2) (I y 42 0 a.toNatClampNeg) a)), (0, .ref (gA E y 20 0)), (1, .int x), (2, .int a)]) hx hb dX5_forkIt_104 hl (by decide) rfl (fun ls hl => ?_)
  have hL_l1 : ∀ (n i : Nat)  (H : Heap) (locs : List Loc) (ls : Array Slot), i + n = 6 → f_X5_forkIt_l1 y x a n i I8 = (f_X5_forkIt I y x a) → ok_f_X5_forkIt_l1 y x a n i I8 → GW E J I8 H → va_S (gF E) s.heap H locs → lv_has ls 6 [(5, .int (nI i)), (0, .ref (gA E y 20 0))] → W p l e (grm 2 62) s m ([.ref (gA E y 20 0), .int x, .int a] : List Value).toArray below meth c0 H locs 0 0 (MQ below (va_Qv (fun (_ : Unit) => True) (fun _ t => GW E J (f_X5_forkIt I y x a) t.heap) (gF E)) ([.ref (gA E y 20 0), .int x, .int a] : List Value).toArray s 0 0 (gF E)) (F0 m 106 ls []) := by
    intro n
    induction n with
    | zero =>
      intro i H locs ls hin hTs hok hG hS hl
      unfold ok_f_X5_forkIt_l1 at hok
      refine lv_iload hx hb dX5_forkIt_106 (lv_at hl 0 rfl) ?_
      refine lv_bipush (v := 6) hx hb dX5_forkIt_108 (by decide) ?_
      refine lv_icmp_ge (tgt := 144) hx hb dX5_forkIt_110 (by decide) (fun c9 => ?_) (fun c9 => ?_)
      · skip
        have eS : I8 = (f_X5_forkIt I y x a) := (by rw [← hTs]; simp only [f_X5_forkIt_l1, if_pos c9])
        rw [eS] at hG
        exact g_vret K hG hS hr hlocks dX5_forkIt_144
      · exact absurd (lp_ge (show (6 : Int32) = nI 6 from rfl) (by omega) hin) c9
    | succ n ih =>
      intro i H locs ls hin hTs hok hG hS hl
      unfold ok_f_X5_forkIt_l1 at hok
      refine lv_iload hx hb dX5_forkIt_106 (lv_at hl 0 rfl) ?_
      refine lv_bipush (v := 6) hx hb dX5_forkIt_108 (by decide) ?_
      refine lv_icmp_ge (tgt := 144) hx hb dX5_forkIt_110 (by decide) (fun c10 => ?_) (fun c10 => ?_)
      · exact absurd c10 (lp_nge (show (6 : Int32) = nI 6 from rfl) (by omega) hin)
      · skip
        refine lv_aload_n hx hb dX5_forkIt_113 rfl (lv_at hl 1 rfl) ?_
        refine gf_X5_9 K hG (gvs hy 20 rfl) dX5_forkIt_114 ?_
        refine lv_iload hx hb dX5_forkIt_117 (lv_at hl 0 rfl) ?_
        refine g_iald K hG (gvs hy 25 rfl) rfl (fun _ => rfl) (vp_in_nI (Nat.lt_of_lt_of_le (show i < 6 by omega) (by decide)) (by decide)) dX5_forkIt_119 ?_
        rw [nI_clamp (Nat.lt_trans (show i < 6 by omega) (by decide))]
        refine lv_iconst (v := 3) hx hb dX5_forkIt_120 (by decide) ?_
        refine lv_icmp_eq (tgt := 127) hx hb dX5_forkIt_121 (by decide) (fun c11 => ?_) (fun c11 => ?_)
        · have hok := hok.1 c11
          refine lv_aload_n hx hb dX5_forkIt_127 rfl (lv_at hl 1 rfl) ?_
          refine gf_X5_9 K hG (gvs hy 20 rfl) dX5_forkIt_128 ?_
          refine lv_iload hx hb dX5_forkIt_131 (lv_at hl 0 rfl) ?_
          refine lv_iconst (v := 0) hx hb dX5_forkIt_133 (by decide) ?_
          refine g_iast K hG hS (gvs hy 25 rfl) rfl (fun _ => rfl) (fun _ q => absurd q.1 (by decide)) (vp_in_nI (Nat.lt_of_lt_of_le (show i < 6 by omega) (by decide)) (by decide)) dX5_forkIt_134 (fun I9 hI9 H locs hG hS => ?_)
          rw [nI_clamp (Nat.lt_trans (show i < 6 by omega) (by decide))] at hI9
          have hok := hok I9 hI9
          refine lv_goto (tgt := 144) hx hb dX5_forkIt_135 (by decide) ?_
          have eS : I9 = (f_X5_forkIt I y x a) := (by rw [← hTs]; simp only [f_X5_forkIt_l1, ← hI9, if_neg c10, if_pos c11])
          rw [eS] at hG
          exact g_vret K hG hS hr hlocks dX5_forkIt_144
        · have hok := hok.2 c11
          refine lv_goto (tgt := 138) hx hb dX5_forkIt_124 (by decide) ?_
          refine lv_iinc (v := (nI (i + 1))) (lv' := [(5, .int (nI (i + 1))), (0, .ref (gA E y 20 0))]) hx hb dX5_forkIt_138 hl (k := 0) rfl (nI_add i 1) (by decide) rfl (fun ls hl => ?_)
          refine lv_goto (tgt := 106) hx hb dX5_forkIt_141 (by decide) ?_
          exact ih (i + 1) _ _ _ (by omega) (by rw [← hTs]; simp only [f_X5_forkIt_l1, if_neg c10, if_neg c11]) hok hG hS (lv_sub hl [0, 1] rfl)
  exact hL_l1 6 0 _ _ _ (Nat.zero_add _) (by simp only [f_X5_forkIt, ← hI1, ← hI2, ← hI3, ← hI4, ← hI5, ← hI6, ← hI7, ← hI8]) hok hG hS (lv_sub hl [0, 3] rfl)
def ok_X5_pitch (I : gI) (y : Nat) (x a b : Int32) : Prop :=
  vp_in a 600 ∧
  ∀ I1, I1 = gU I y 41 0 a.toNatClampNeg ((I y 41 0 a.toNatClampNeg) - (if (I y 41 0 a.toNatClampNeg) < b then (I y 41 0 a.toNatClampNeg) else b)) →
  vp_in (I1 y 42 0 a.toNatClampNeg) 10 ∧
  ∀ I2, I2 = gU I1 y 38 0 ((I1 y 42 0 a.toNatClampNeg).toNatClampNeg) ((I1 y 38 0 ((I1 y 42 0 a.toNatClampNeg).toNatClampNeg)) + (if (I y 41 0 a.toNatClampNeg) < b then (I y 41 0 a.toNatClampNeg) else b)) →
  ∀ I3, I3 = gU I2 y 20 0 4 ((I2 y 20 0 4) + (if (I y 41 0 a.toNatClampNeg) < b then (I y 41 0 a.toNatClampNeg) else b)) →
  (((I3 y 41 0 a.toNatClampNeg) = 0) →
    ok_X5_finish I3 y x a ∧
    ∀ I4, I4 = f_X5_finish I3 y x a →
    True) ∧
  (¬ ((I3 y 41 0 a.toNatClampNeg) = 0) →
    True)
def f_X5_pitch (I : gI) (y : Nat) (x a b : Int32) : gI :=
  let I1 := gU I y 41 0 a.toNatClampNeg ((I y 41 0 a.toNatClampNeg) - (if (I y 41 0 a.toNatClampNeg) < b then (I y 41 0 a.toNatClampNeg) else b))
  let I2 := gU I1 y 38 0 ((I1 y 42 0 a.toNatClampNeg).toNatClampNeg) ((I1 y 38 0 ((I1 y 42 0 a.toNatClampNeg).toNatClampNeg)) + (if (I y 41 0 a.toNatClampNeg) < b then (I y 41 0 a.toNatClampNeg) else b))
  let I3 := gU I2 y 20 0 4 ((I2 y 20 0 4) + (if (I y 41 0 a.toNatClampNeg) < b then (I y 41 0 a.toNatClampNeg) else b))
  if (I3 y 41 0 a.toNatClampNeg) = 0 then
    let I4 := f_X5_finish I3 y x a
    I4
  else
    I3
set_option maxRecDepth 100000 in
theorem ne_X5_pitch (I : gI) (y : Nat) (x a b : Int32) (hy : y = 3 ∨ y = 4) {y' : Nat} (hne : y' ≠ y) : f_X5_pitch I y x a b y' = I y' := by
  have hn : I y' = I y' := rfl
  obtain ⟨I1, hI1⟩ : ∃ z, z = gU I y 41 0 a.toNatClampNeg ((I y 41 0 a.toNatClampNeg) - (if (I y 41 0 a.toNatClampNeg) < b then (I y 41 0 a.toNatClampNeg) else b)) := ⟨_, rfl⟩
  have hn1 : I1 y' = I y' := by rw [hI1]; exact (gU_ne _ _ _ _ _ hne).trans hn
  obtain ⟨I2, hI2⟩ : ∃ z, z = gU I1 y 38 0 ((I1 y 42 0 a.toNatClampNeg).toNatClampNeg) ((I1 y 38 0 ((I1 y 42 0 a.toNatClampNeg).toNatClampNeg)) + (if (I y 41 0 a.toNatClampNeg) < b then (I y 41 0 a.toNatClampNeg) else b)) := ⟨_, rfl⟩
  have hn2 : I2 y' = I y' := by rw [hI2]; exact (gU_ne _ _ _ _ _ hne).trans hn1
  obtain ⟨I3, hI3⟩ : ∃ z, z = gU I2 y 20 0 4 ((I2 y 20 0 4) + (if (I y 41 0 a.toNatClampNeg) < b then (I y 41 0 a.toNatClampNeg) else b)) := ⟨_, rfl⟩
  have hn3 : I3 y' = I y' := by rw [hI3]; exact (gU_ne _ _ _ _ _ hne).trans hn2
  by_cases c3 : (I3 y 41 0 a.toNatClampNeg) = 0
  · obtain ⟨I4, hI4⟩ : ∃ z, z = f_X5_finish I3 y x a := ⟨_, rfl⟩
    have hn4 : I4 y' = I y' := by rw [hI4]; exact (ne_X5_finish I3 y x a hy (y' := y') hne).trans hn3
    have eS : f_X5_pitch I y x a b = I4 := by simp only [f_X5_pitch, ← hI1, ← hI2, ← hI3, ← hI4, if_pos c3]
    exact (congrFun eS y').trans hn4
  · have eS : f_X5_pitch I y x a b = I3 := by simp only [f_X5_pitch, ← hI1, ← hI2, ← hI3, if_neg c3]
    exact (congrFun eS y').trans hn3
set_option maxHeartbeats 4000000 in
set_option maxRecDepth 100000 in
theorem m_X5_pitch (l : Launch) (E : gE) (J : Int64) (I : gI) (y : Nat) (x a b : Int32) (hy : y = 3 ∨ y = 4) (hok : ok_X5_pitch I y x a b) : gMv l E J yX5_pitch cX5_pitch 5 none 1 30 [.ref (gA E y 20 0), .int x, .int a, .int b] I (f_X5_pitch I y x a b) := by
  refine g_entry (lv := [(0, .ref (gA E y 20 0)), (1, .int x), (2, .int a), (3, .int b)]) (by decide) (Nat.le_of_ble_eq_true rfl) rfl ?_
  intro p e s m below meth c0 ls K hG hS hml hr hlocks hl
  have K : kx E p m c0 cX5_pitch "HayThievesModel$State" _ s := K
  have hx := K.1
  have hb := K.2.1
  have hts := K.2.2.1
  have hown := K.2.2.2.1
  have hSt := K.2.2.2.2
  unfold ok_X5_pitch at hok
  refine lv_iload_n hx hb dX5_pitch_0 rfl (lv_at hl 3 rfl) ?_
  refine lv_aload_n hx hb dX5_pitch_1 rfl (lv_at hl 0 rfl) ?_
  refine gf_X5_57 K hG (gvs hy 20 rfl) dX5_pitch_2 ?_
  refine lv_iload_n hx hb dX5_pitch_5 rfl (lv_at hl 2 rfl) ?_
  obtain ⟨ho1, hok⟩ := hok
  refine g_iald K hG (gvs hy 41 rfl) rfl (fun _ => rfl) ho1 dX5_pitch_6 ?_
  refine va_mmin hx hb (hml.trans hl.1.symm) hown (hts _ q927) (hts _ q928) (hts _ q15) (hts _ q929) (by decide) (Nat.le_of_ble_eq_true rfl) (Nat.zero_le _) (Nat.zero_le _) dX5_pitch_7 ?_
  refine lv_istore (lv' := [(4, .int (if (I y 41 0 a.toNatClampNeg) < b then (I y 41 0 a.toNatClampNeg) else b)), (0, .ref (gA E y 20 0)), (1, .int x), (2, .int a), (3, .int b)]) hx hb dX5_pitch_10 hl (by decide) rfl (fun ls hl => ?_)
  refine lv_aload_n hx hb dX5_pitch_12 rfl (lv_at hl 1 rfl) ?_
  refine gf_X5_57 K hG (gvs hy 20 rfl) dX5_pitch_13 ?_
  refine lv_iload_n hx hb dX5_pitch_16 rfl (lv_at hl 3 rfl) ?_
  refine lv_dup2_11 hx hb dX5_pitch_17 rfl rfl ?_
  refine g_iald K hG (gvs hy 41 rfl) rfl (fun _ => rfl) ho1 dX5_pitch_18 ?_
  refine lv_iload hx hb dX5_pitch_19 (lv_at hl 0 rfl) ?_
  refine lv_isub hx hb dX5_pitch_21 ?_
  refine g_iast K hG hS (gvs hy 41 rfl) rfl (fun _ => rfl) (fun _ q => absurd q.1 (by decide)) ho1 dX5_pitch_22 (fun I1 hI1 H locs hG hS => ?_)
  have hok := hok I1 hI1
  refine lv_aload_n hx hb dX5_pitch_23 rfl (lv_at hl 1 rfl) ?_
  refine gf_X5_51 K hG (gvs hy 20 rfl) dX5_pitch_24 ?_
  refine lv_aload_n hx hb dX5_pitch_27 rfl (lv_at hl 1 rfl) ?_
  refine gf_X5_60 K hG (gvs hy 20 rfl) dX5_pitch_28 ?_
  refine lv_iload_n hx hb dX5_pitch_31 rfl (lv_at hl 3 rfl) ?_
  refine g_iald K hG (gvs hy 42 rfl) rfl (fun _ => rfl) ho1 dX5_pitch_32 ?_
  refine lv_dup2_11 hx hb dX5_pitch_33 rfl rfl ?_
  obtain ⟨ho2, hok⟩ := hok
  refine g_iald K hG (gvs hy 38 rfl) rfl (fun _ => rfl) ho2 dX5_pitch_34 ?_
  refine lv_iload hx hb dX5_pitch_35 (lv_at hl 0 rfl) ?_
  refine lv_iadd hx hb dX5_pitch_37 ?_
  refine g_iast K hG hS (gvs hy 38 rfl) rfl (fun _ => rfl) (fun _ q => absurd q.1 (by decide)) ho2 dX5_pitch_38 (fun I2 hI2 H locs hG hS => ?_)
  have hok := hok I2 hI2
  refine lv_aload_n hx hb dX5_pitch_39 rfl (lv_at hl 1 rfl) ?_
  refine lv_dup hx hb dX5_pitch_40 rfl ?_
  refine gf_X5_91 K hG (gvs hy 20 rfl) dX5_pitch_41 ?_
  refine lv_iload hx hb dX5_pitch_44 (lv_at hl 0 rfl) ?_
  refine lv_iadd hx hb dX5_pitch_46 ?_
  refine pf_X5_91 K hG hS (gvs hy 20 rfl) dX5_pitch_47 (fun I3 hI3 H locs hG hS => ?_)
  have hok := hok I3 hI3
  refine lv_aload_n hx hb dX5_pitch_50 rfl (lv_at hl 1 rfl) ?_
  refine gf_X5_57 K hG (gvs hy 20 rfl) dX5_pitch_51 ?_
  refine lv_iload_n hx hb dX5_pitch_54 rfl (lv_at hl 3 rfl) ?_
  refine g_iald K hG (gvs hy 41 rfl) rfl (fun _ => rfl) ho1 dX5_pitch_55 ?_
  refine lv_if_ne (tgt := 65) hx hb dX5_pitch_56 (by decide) (fun c3 => ?_) (fun c3 => ?_)
  · have hok := hok.2 c3
    have eS : I3 = (f_X5_pitch I y x a b) := (by simp only [f_X5_pitch, ← hI1, ← hI2, ← hI3, if_neg c3])
    rw [eS] at hG
    exact g_vret K hG hS hr hlocks dX5_pitch_65
  · have hok := hok.1 c3
    refine lv_aload_n hx hb dX5_pitch_59 rfl (lv_at hl 1 rfl) ?_
    refine lv_iload_n hx hb dX5_pitch_60 rfl (lv_at hl 2 rfl) ?_
    refine lv_iload_n hx hb dX5_pitch_61 rfl (lv_at hl 3 rfl) ?_
    obtain ⟨ho4, hok⟩ := hok
    refine g_kv (g_runV (As := [.int x, .int a]) (rest := []) K hml ca_X5_finish q930 (m_X5_finish l E J I3 y x a hy ho4) hG hS (gvs hy 20 rfl) rfl rfl rfl rfl hl.1 (Nat.le_of_ble_eq_true rfl) ⟨by decide, by decide⟩ dX5_pitch_62 ⟨Nat.zero_le _, Nat.zero_le _⟩) hS (fun H locs hG hS => ?_)
    obtain ⟨I4, hI4⟩ : ∃ z, z = f_X5_finish I3 y x a := ⟨_, rfl⟩
    rw [← hI4] at hG
    have hok := hok I4 hI4
    have eS : I4 = (f_X5_pitch I y x a b) := (by simp only [f_X5_pitch, ← hI1, ← hI2, ← hI3, ← hI4, if_pos c3])
    rw [eS] at hG
    exact g_vret K hG hS hr hlocks dX5_pitch_65
def ok_X5_rest (I : gI) (y : Nat) (x : Int32) : Prop :=
  vp_in x 6 ∧
  ∀ I1, I1 = gU I y 30 0 x.toNatClampNeg ((I y 30 0 x.toNatClampNeg) + 1) →
  ∀ I2, I2 = gU I1 y 27 0 x.toNatClampNeg ((I1 y 27 0 x.toNatClampNeg) + 1) →
  ((3 ≤ (I2 y 27 0 x.toNatClampNeg)) →
    ∀ I3, I3 = gU I2 y 27 0 x.toNatClampNeg 0 →
    ∀ I4, I4 = gU I3 y 25 0 x.toNatClampNeg 3 →
    True) ∧
  (¬ (3 ≤ (I2 y 27 0 x.toNatClampNeg)) →
    True)
def f_X5_rest (I : gI) (y : Nat) (x : Int32) : gI :=
  let I1 := gU I y 30 0 x.toNatClampNeg ((I y 30 0 x.toNatClampNeg) + 1)
  let I2 := gU I1 y 27 0 x.toNatClampNeg ((I1 y 27 0 x.toNatClampNeg) + 1)
  if 3 ≤ (I2 y 27 0 x.toNatClampNeg) then
    let I3 := gU I2 y 27 0 x.toNatClampNeg 0
    let I4 := gU I3 y 25 0 x.toNatClampNeg 3
    I4
  else
    I2
set_option maxRecDepth 100000 in
theorem ne_X5_rest (I : gI) (y : Nat) (x : Int32) (hy : y = 3 ∨ y = 4) {y' : Nat} (hne : y' ≠ y) : f_X5_rest I y x y' = I y' := by
  have hn : I y' = I y' := rfl
  obtain ⟨I1, hI1⟩ : ∃ z, z = gU I y 30 0 x.toNatClampNeg ((I y 30 0 x.toNatClampNeg) + 1) := ⟨_, rfl⟩
  have hn1 : I1 y' = I y' := by rw [hI1]; exact (gU_ne _ _ _ _ _ hne).trans hn
  obtain ⟨I2, hI2⟩ : ∃ z, z = gU I1 y 27 0 x.toNatClampNeg ((I1 y 27 0 x.toNatClampNeg) + 1) := ⟨_, rfl⟩
  have hn2 : I2 y' = I y' := by rw [hI2]; exact (gU_ne _ _ _ _ _ hne).trans hn1
  by_cases c2 : 3 ≤ (I2 y 27 0 x.toNatClampNeg)
  · obtain ⟨I3, hI3⟩ : ∃ z, z = gU I2 y 27 0 x.toNatClampNeg 0 := ⟨_, rfl⟩
    have hn3 : I3 y' = I y' := by rw [hI3]; exact (gU_ne _ _ _ _ _ hne).trans hn2
    obtain ⟨I4, hI4⟩ : ∃ z, z = gU I3 y 25 0 x.toNatClampNeg 3 := ⟨_, rfl⟩
    have hn4 : I4 y' = I y' := by rw [hI4]; exact (gU_ne _ _ _ _ _ hne).trans hn3
    have eS : f_X5_rest I y x = I4 := by simp only [f_X5_rest, ← hI1, ← hI2, ← hI3, ← hI4, if_pos c2]
    exact (congrFun eS y').trans hn4
  · have eS : f_X5_rest I y x = I2 := by simp only [f_X5_rest, ← hI1, ← hI2, if_neg c2]
    exact (congrFun eS y').trans hn2
set_option maxHeartbeats 4000000 in
set_option maxRecDepth 100000 in
theorem m_X5_rest (l : Launch) (E : gE) (J : Int64) (I : gI) (y : Nat) (x : Int32) (hy : y = 3 ∨ y = 4) (hok : ok_X5_rest I y x) : gMv l E J yX5_rest cX5_rest 2 none 0 0 [.ref (gA E y 20 0), .int x] I (f_X5_rest I y x) := by
  refine g_entry (lv := [(0, .ref (gA E y 20 0)), (1, .int x)]) (by decide) (Nat.le_of_ble_eq_true rfl) rfl ?_
  intro p e s m below meth c0 ls K hG hS hml hr hlocks hl
  have K : kx E p m c0 cX5_rest "HayThievesModel$State" _ s := K
  have hx := K.1
  have hb := K.2.1
  have hts := K.2.2.1
  have hown := K.2.2.2.1
  have hSt := K.2.2.2.2
  unfold ok_X5_rest at hok
  refine lv_aload_n hx hb dX5_rest_0 rfl (lv_at hl 0 rfl) ?_
  refine gf_X5_27 K hG (gvs hy 20 rfl) dX5_rest_1 ?_
  refine lv_iload_n hx hb dX5_rest_4 rfl (lv_at hl 1 rfl) ?_
  refine lv_dup2_11 hx hb dX5_rest_5 rfl rfl ?_
  obtain ⟨ho1, hok⟩ := hok
  refine g_iald K hG (gvs hy 30 rfl) rfl (fun _ => rfl) ho1 dX5_rest_6 ?_
  refine lv_iconst (v := 1) hx hb dX5_rest_7 (by decide) ?_
  refine lv_iadd hx hb dX5_rest_8 ?_
  refine g_iast K hG hS (gvs hy 30 rfl) rfl (fun _ => rfl) (fun _ q => absurd q.1 (by decide)) ho1 dX5_rest_9 (fun I1 hI1 H locs hG hS => ?_)
  have hok := hok I1 hI1
  refine lv_aload_n hx hb dX5_rest_10 rfl (lv_at hl 0 rfl) ?_
  refine gf_X5_18 K hG (gvs hy 20 rfl) dX5_rest_11 ?_
  refine lv_iload_n hx hb dX5_rest_14 rfl (lv_at hl 1 rfl) ?_
  refine lv_dup2_11 hx hb dX5_rest_15 rfl rfl ?_
  refine g_iald K hG (gvs hy 27 rfl) rfl (fun _ => rfl) ho1 dX5_rest_16 ?_
  refine lv_iconst (v := 1) hx hb dX5_rest_17 (by decide) ?_
  refine lv_iadd hx hb dX5_rest_18 ?_
  refine g_iast K hG hS (gvs hy 27 rfl) rfl (fun _ => rfl) (fun _ q => absurd q.1 (by decide)) ho1 dX5_rest_19 (fun I2 hI2 H locs hG hS => ?_)
  have hok := hok I2 hI2
  refine lv_aload_n hx hb dX5_rest_20 rfl (lv_at hl 0 rfl) ?_
  refine gf_X5_18 K hG (gvs hy 20 rfl) dX5_rest_21 ?_
  refine lv_iload_n hx hb dX5_rest_24 rfl (lv_at hl 1 rfl) ?_
  refine g_iald K hG (gvs hy 27 rfl) rfl (fun _ => rfl) ho1 dX5_rest_25 ?_
  refine lv_iconst (v := 3) hx hb dX5_rest_26 (by decide) ?_
  refine lv_icmp_ge (tgt := 31) hx hb dX5_rest_27 (by decide) (fun c2 => ?_) (fun c2 => ?_)
  · have hok := hok.1 c2
    refine lv_aload_n hx hb dX5_rest_31 rfl (lv_at hl 0 rfl) ?_
    refine gf_X5_18 K hG (gvs hy 20 rfl) dX5_rest_32 ?_
    refine lv_iload_n hx hb dX5_rest_35 rfl (lv_at hl 1 rfl) ?_
    refine lv_iconst (v := 0) hx hb dX5_rest_36 (by decide) ?_
    refine g_iast K hG hS (gvs hy 27 rfl) rfl (fun _ => rfl) (fun _ q => absurd q.1 (by decide)) ho1 dX5_rest_37 (fun I3 hI3 H locs hG hS => ?_)
    have hok := hok I3 hI3
    refine lv_aload_n hx hb dX5_rest_38 rfl (lv_at hl 0 rfl) ?_
    refine gf_X5_9 K hG (gvs hy 20 rfl) dX5_rest_39 ?_
    refine lv_iload_n hx hb dX5_rest_42 rfl (lv_at hl 1 rfl) ?_
    refine lv_iconst (v := 3) hx hb dX5_rest_43 (by decide) ?_
    refine g_iast K hG hS (gvs hy 25 rfl) rfl (fun _ => rfl) (fun _ q => absurd q.1 (by decide)) ho1 dX5_rest_44 (fun I4 hI4 H locs hG hS => ?_)
    have hok := hok I4 hI4
    have eS : I4 = (f_X5_rest I y x) := (by simp only [f_X5_rest, ← hI1, ← hI2, ← hI3, ← hI4, if_pos c2])
    rw [eS] at hG
    exact g_vret K hG hS hr hlocks dX5_rest_45
  · have hok := hok.2 c2
    have eS : I2 = (f_X5_rest I y x) := (by simp only [f_X5_rest, ← hI1, ← hI2, if_neg c2])
    rw [eS] at hG
    exact g_vret K hG hS hr hlocks dX5_rest_30
def ok_X5_steal (I : gI) (y : Nat) (x a : Int32) : Prop :=
  ok_X5_far I y a ∧
  vp_in a 6 ∧
  ∀ I1, I1 = gU I y 31 0 a.toNatClampNeg ((I y 31 0 a.toNatClampNeg) - 1) →
  ok_X5_hold I1 y x (f_X5_far I y a) ∧
  ∀ I2, I2 = f_X5_hold I1 y x (f_X5_far I y a) →
  vp_in x 6 ∧
  ∀ I3, I3 = gU I2 y 28 0 x.toNatClampNeg ((I2 y 28 0 x.toNatClampNeg) + 1) →
  ∀ I4, I4 = gU I3 y 29 0 a.toNatClampNeg ((I3 y 29 0 a.toNatClampNeg) + 1) →
  vp_in (f_X5_far I y a) 600 ∧
  vp_in (I4 y 42 0 ((f_X5_far I y a).toNatClampNeg)) 10 ∧
  ∀ I5, I5 = gU I4 y 37 0 ((I4 y 42 0 ((f_X5_far I y a).toNatClampNeg)).toNatClampNeg) ((I4 y 37 0 ((I4 y 42 0 ((f_X5_far I y a).toNatClampNeg)).toNatClampNeg)) + 1) →
  ∀ I6, I6 = gU I5 y 20 0 1 ((I5 y 20 0 1) + 1) →
  True
def f_X5_steal (I : gI) (y : Nat) (x a : Int32) : gI :=
  let I1 := gU I y 31 0 a.toNatClampNeg ((I y 31 0 a.toNatClampNeg) - 1)
  let I2 := f_X5_hold I1 y x (f_X5_far I y a)
  let I3 := gU I2 y 28 0 x.toNatClampNeg ((I2 y 28 0 x.toNatClampNeg) + 1)
  let I4 := gU I3 y 29 0 a.toNatClampNeg ((I3 y 29 0 a.toNatClampNeg) + 1)
  let I5 := gU I4 y 37 0 ((I4 y 42 0 ((f_X5_far I y a).toNatClampNeg)).toNatClampNeg) ((I4 y 37 0 ((I4 y 42 0 ((f_X5_far I y a).toNatClampNeg)).toNatClampNeg)) + 1)
  let I6 := gU I5 y 20 0 1 ((I5 y 20 0 1) + 1)
  I6
set_option maxRecDepth 100000 in
theorem ne_X5_steal (I : gI) (y : Nat) (x a : Int32) (hy : y = 3 ∨ y = 4) {y' : Nat} (hne : y' ≠ y) : f_X5_steal I y x a y' = I y' := by
  have hn : I y' = I y' := rfl
  obtain ⟨I1, hI1⟩ : ∃ z, z = gU I y 31 0 a.toNatClampNeg ((I y 31 0 a.toNatClampNeg) - 1) := ⟨_, rfl⟩
  have hn1 : I1 y' = I y' := by rw [hI1]; exact (gU_ne _ _ _ _ _ hne).trans hn
  obtain ⟨I2, hI2⟩ : ∃ z, z = f_X5_hold I1 y x (f_X5_far I y a) := ⟨_, rfl⟩
  have hn2 : I2 y' = I y' := by rw [hI2]; exact (ne_X5_hold I1 y x (f_X5_far I y a) hy (y' := y') hne).trans hn1
  obtain ⟨I3, hI3⟩ : ∃ z, z = gU I2 y 28 0 x.toNatClampNeg ((I2 y 28 0 x.toNatClampNeg) + 1) := ⟨_, rfl⟩
  have hn3 : I3 y' = I y' := by rw [hI3]; exact (gU_ne _ _ _ _ _ hne).trans hn2
  obtain ⟨I4, hI4⟩ : ∃ z, z = gU I3 y 29 0 a.toNatClampNeg ((I3 y 29 0 a.toNatClampNeg) + 1) := ⟨_, rfl⟩
  have hn4 : I4 y' = I y' := by rw [hI4]; exact (gU_ne _ _ _ _ _ hne).trans hn3
  obtain ⟨I5, hI5⟩ : ∃ z, z = gU I4 y 37 0 ((I4 y 42 0 ((f_X5_far I y a).toNatClampNeg)).toNatClampNeg) ((I4 y 37 0 ((I4 y 42 0 ((f_X5_far I y a).toNatClampNeg)).toNatClampNeg)) + 1) := ⟨_, rfl⟩
  have hn5 : I5 y' = I y' := by rw [hI5]; exact (gU_ne _ _ _ _ _ hne).trans hn4
  obtain ⟨I6, hI6⟩ : ∃ z, z = gU I5 y 20 0 1 ((I5 y 20 0 1) + 1) := ⟨_, rfl⟩
  have hn6 : I6 y' = I y' := by rw [hI6]; exact (gU_ne _ _ _ _ _ hne).trans hn5
  have eS : f_X5_steal I y x a = I6 := by simp only [f_X5_steal, ← hI1, ← hI2, ← hI3, ← hI4, ← hI5, ← hI6]
  exact (congrFun eS y').trans hn6
set_option maxHeartbeats 4000000 in
set_option maxRecDepth 100000 in
theorem m_X5_steal (l : Launch) (E : gE) (J : Int64) (I : gI) (y : Nat) (x a : Int32) (hy : y = 3 ∨ y = 4) (hok : ok_X5_steal I y x a) : gMv l E J yX5_steal cX5_steal 4 none 1 22 [.ref (gA E y 20 0), .int x, .int a] I (f_X5_steal I y x a) := by
  refine g_entry (lv := [(0, .ref (gA E y 20 0)), (1, .int x), (2, .int a)]) (by decide) (Nat.le_of_ble_eq_true rfl) rfl ?_
  intro p e s m below meth c0 ls K hG hS hml hr hlocks hl
  have K : kx E p m c0 cX5_steal "HayThievesModel$State" _ s := K
  have hx := K.1
  have hb := K.2.1
  have hts := K.2.2.1
  have hown := K.2.2.2.1
  have hSt := K.2.2.2.2
  unfold ok_X5_steal at hok
  refine lv_aload_n hx hb dX5_steal_0 rfl (lv_at hl 0 rfl) ?_
  refine lv_iload_n hx hb dX5_steal_1 rfl (lv_at hl 2 rfl) ?_
  obtain ⟨ho1, hok⟩ := hok
  refine g_ki (g_runV (As := [.int a]) (rest := []) K hml ca_X5_far q943 (m_X5_far l E J I y a hy ho1) hG hS (gvs hy 20 rfl) rfl rfl rfl rfl hl.1 (Nat.le_of_ble_eq_true rfl) ⟨by decide, by decide⟩ dX5_steal_2 ⟨Nat.zero_le _, Nat.zero_le _⟩) hS (fun H locs hG hS => ?_)
  refine lv_istore_n (lv' := [(3, .int (f_X5_far I y a)), (0, .ref (gA E y 20 0)), (1, .int x), (2, .int a)]) hx hb dX5_steal_5 rfl hl (by decide) rfl (fun ls hl => ?_)
  refine lv_aload_n hx hb dX5_steal_6 rfl (lv_at hl 1 rfl) ?_
  refine gf_X5_30 K hG (gvs hy 20 rfl) dX5_steal_7 ?_
  refine lv_iload_n hx hb dX5_steal_10 rfl (lv_at hl 3 rfl) ?_
  refine lv_dup2_11 hx hb dX5_steal_11 rfl rfl ?_
  obtain ⟨ho2, hok⟩ := hok
  refine g_iald K hG (gvs hy 31 rfl) rfl (fun _ => rfl) ho2 dX5_steal_12 ?_
  refine lv_iconst (v := 1) hx hb dX5_steal_13 (by decide) ?_
  refine lv_isub hx hb dX5_steal_14 ?_
  refine g_iast K hG hS (gvs hy 31 rfl) rfl (fun _ => rfl) (fun _ q => absurd q.1 (by decide)) ho2 dX5_steal_15 (fun I1 hI1 H locs hG hS => ?_)
  have hok := hok I1 hI1
  refine lv_aload_n hx hb dX5_steal_16 rfl (lv_at hl 1 rfl) ?_
  refine lv_iload_n hx hb dX5_steal_17 rfl (lv_at hl 2 rfl) ?_
  refine lv_iload_n hx hb dX5_steal_18 rfl (lv_at hl 0 rfl) ?_
  obtain ⟨ho3, hok⟩ := hok
  refine g_kv (g_runV (As := [.int x, .int (f_X5_far I y a)]) (rest := []) K hml ca_X5_hold q944 (m_X5_hold l E J I1 y x (f_X5_far I y a) hy ho3) hG hS (gvs hy 20 rfl) rfl rfl rfl rfl hl.1 (Nat.le_of_ble_eq_true rfl) ⟨by decide, by decide⟩ dX5_steal_19 ⟨Nat.zero_le _, Nat.zero_le _⟩) hS (fun H locs hG hS => ?_)
  obtain ⟨I2, hI2⟩ : ∃ z, z = f_X5_hold I1 y x (f_X5_far I y a) := ⟨_, rfl⟩
  rw [← hI2] at hG
  have hok := hok I2 hI2
  refine lv_aload_n hx hb dX5_steal_22 rfl (lv_at hl 1 rfl) ?_
  refine gf_X5_21 K hG (gvs hy 20 rfl) dX5_steal_23 ?_
  refine lv_iload_n hx hb dX5_steal_26 rfl (lv_at hl 2 rfl) ?_
  refine lv_dup2_11 hx hb dX5_steal_27 rfl rfl ?_
  obtain ⟨ho4, hok⟩ := hok
  refine g_iald K hG (gvs hy 28 rfl) rfl (fun _ => rfl) ho4 dX5_steal_28 ?_
  refine lv_iconst (v := 1) hx hb dX5_steal_29 (by decide) ?_
  refine lv_iadd hx hb dX5_steal_30 ?_
  refine g_iast K hG hS (gvs hy 28 rfl) rfl (fun _ => rfl) (fun _ q => absurd q.1 (by decide)) ho4 dX5_steal_31 (fun I3 hI3 H locs hG hS => ?_)
  have hok := hok I3 hI3
  refine lv_aload_n hx hb dX5_steal_32 rfl (lv_at hl 1 rfl) ?_
  refine gf_X5_24 K hG (gvs hy 20 rfl) dX5_steal_33 ?_
  refine lv_iload_n hx hb dX5_steal_36 rfl (lv_at hl 3 rfl) ?_
  refine lv_dup2_11 hx hb dX5_steal_37 rfl rfl ?_
  refine g_iald K hG (gvs hy 29 rfl) rfl (fun _ => rfl) ho2 dX5_steal_38 ?_
  refine lv_iconst (v := 1) hx hb dX5_steal_39 (by decide) ?_
  refine lv_iadd hx hb dX5_steal_40 ?_
  refine g_iast K hG hS (gvs hy 29 rfl) rfl (fun _ => rfl) (fun _ q => absurd q.1 (by decide)) ho2 dX5_steal_41 (fun I4 hI4 H locs hG hS => ?_)
  have hok := hok I4 hI4
  refine lv_aload_n hx hb dX5_steal_42 rfl (lv_at hl 1 rfl) ?_
  refine gf_X5_48 K hG (gvs hy 20 rfl) dX5_steal_43 ?_
  refine lv_aload_n hx hb dX5_steal_46 rfl (lv_at hl 1 rfl) ?_
  refine gf_X5_60 K hG (gvs hy 20 rfl) dX5_steal_47 ?_
  refine lv_iload_n hx hb dX5_steal_50 rfl (lv_at hl 0 rfl) ?_
  obtain ⟨ho5, hok⟩ := hok
  refine g_iald K hG (gvs hy 42 rfl) rfl (fun _ => rfl) ho5 dX5_steal_51 ?_
  refine lv_dup2_11 hx hb dX5_steal_52 rfl rfl ?_
  obtain ⟨ho6, hok⟩ := hok
  refine g_iald K hG (gvs hy 37 rfl) rfl (fun _ => rfl) ho6 dX5_steal_53 ?_
  refine lv_iconst (v := 1) hx hb dX5_steal_54 (by decide) ?_
  refine lv_iadd hx hb dX5_steal_55 ?_
  refine g_iast K hG hS (gvs hy 37 rfl) rfl (fun _ => rfl) (fun _ q => absurd q.1 (by decide)) ho6 dX5_steal_56 (fun I5 hI5 H locs hG hS => ?_)
  have hok := hok I5 hI5
  refine lv_aload_n hx hb dX5_steal_57 rfl (lv_at hl 1 rfl) ?_
  refine lv_dup hx hb dX5_steal_58 rfl ?_
  refine gf_X5_82 K hG (gvs hy 20 rfl) dX5_steal_59 ?_
  refine lv_iconst (v := 1) hx hb dX5_steal_62 (by decide) ?_
  refine lv_iadd hx hb dX5_steal_63 ?_
  refine pf_X5_82 K hG hS (gvs hy 20 rfl) dX5_steal_64 (fun I6 hI6 H locs hG hS => ?_)
  have hok := hok I6 hI6
  have eS : I6 = (f_X5_steal I y x a) := (by simp only [f_X5_steal, ← hI1, ← hI2, ← hI3, ← hI4, ← hI5, ← hI6])
  rw [eS] at hG
  exact g_vret K hG hS hr hlocks dX5_steal_67
