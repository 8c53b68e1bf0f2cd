/-! PRINTED by wip/gen (ref.py): X5b -/
def ok_X5_become (I : gI) (y yo : Nat) : Prop :=
  ∀ I1, I1 = gU I y 20 0 0 (I yo 20 0 0) →
  ∀ I2, I2 = gU I1 y 20 0 1 (I1 yo 20 0 1) →
  ∀ I3, I3 = gU I2 y 20 0 2 (I2 yo 20 0 2) →
  ∀ I4, I4 = gU I3 y 20 0 3 (I3 yo 20 0 3) →
  ∀ I5, I5 = gU I4 y 20 0 4 (I4 yo 20 0 4) →
  ∀ I6, I6 = gU I5 y 20 0 19 (I5 yo 20 0 19) →
  ∀ I7, I7 = f_X5_copy I6 yo 25 y 25 6 6 →
  ∀ I8, I8 = f_X5_copy I7 yo 26 y 26 6 6 →
  ∀ I9, I9 = f_X5_copy I8 yo 27 y 27 6 6 →
  ∀ I10, I10 = f_X5_copy I9 yo 28 y 28 6 6 →
  ∀ I11, I11 = f_X5_copy I10 yo 29 y 29 6 6 →
  ∀ I12, I12 = f_X5_copy I11 yo 30 y 30 6 6 →
  ∀ I13, I13 = f_X5_copy I12 yo 31 y 31 6 6 →
  ∀ I14, I14 = f_X5_copy I13 yo 32 y 32 48 48 →
  ∀ I15, I15 = f_X5_copy I14 yo 33 y 33 10 10 →
  ∀ I16, I16 = f_X5_copy I15 yo 34 y 34 10 10 →
  ∀ I17, I17 = f_X5_copy I16 yo 35 y 35 10 10 →
  ∀ I18, I18 = f_X5_copy I17 yo 36 y 36 10 10 →
  ∀ I19, I19 = f_X5_copy I18 yo 37 y 37 10 10 →
  ∀ I20, I20 = f_X5_copy I19 yo 38 y 38 10 10 →
  ¬ (I20 y 20 0 19) < 0 ∧
  (I20 y 20 0 19).toNatClampNeg ≤ 600 ∧
  ∀ I21, I21 = f_X5_copy I20 yo 40 y 40 600 (I20 y 20 0 19) →
  ¬ (I21 y 20 0 19) < 0 ∧
  (I21 y 20 0 19).toNatClampNeg ≤ 600 ∧
  ∀ I22, I22 = f_X5_copy I21 yo 41 y 41 600 (I21 y 20 0 19) →
  ¬ (I22 y 20 0 19) < 0 ∧
  (I22 y 20 0 19).toNatClampNeg ≤ 600 ∧
  ∀ I23, I23 = f_X5_copy I22 yo 42 y 42 600 (I22 y 20 0 19) →
  ¬ (I23 y 20 0 19) < 0 ∧
  (I23 y 20 0 19).toNatClampNeg ≤ 600 ∧
  ∀ I24, I24 = f_X5_copy I23 yo 43 y 43 600 (I23 y 20 0 19) →
  ¬ (I24 y 20 0 19) < 0 ∧
  (I24 y 20 0 19).toNatClampNeg ≤ 600 ∧
  ∀ I25, I25 = f_X5_copy I24 yo 44 y 44 600 (I24 y 20 0 19) →
  ¬ (I25 y 20 0 19) < 0 ∧
  (I25 y 20 0 19).toNatClampNeg ≤ 600 ∧
  ∀ I26, I26 = f_X5_copy I25 yo 45 y 45 600 (I25 y 20 0 19) →
  True
def f_X5_become_s (I : gI) (y yo : Nat) : gI :=
  let I1 := gU I y 20 0 0 (I yo 20 0 0)
  let I2 := gU I1 y 20 0 1 (I1 yo 20 0 1)
  let I3 := gU I2 y 20 0 2 (I2 yo 20 0 2)
  let I4 := gU I3 y 20 0 3 (I3 yo 20 0 3)
  let I5 := gU I4 y 20 0 4 (I4 yo 20 0 4)
  let I6 := gU I5 y 20 0 19 (I5 yo 20 0 19)
  let I7 := f_X5_copy I6 yo 25 y 25 6 6
  let I8 := f_X5_copy I7 yo 26 y 26 6 6
  let I9 := f_X5_copy I8 yo 27 y 27 6 6
  let I10 := f_X5_copy I9 yo 28 y 28 6 6
  let I11 := f_X5_copy I10 yo 29 y 29 6 6
  let I12 := f_X5_copy I11 yo 30 y 30 6 6
  let I13 := f_X5_copy I12 yo 31 y 31 6 6
  let I14 := f_X5_copy I13 yo 32 y 32 48 48
  let I15 := f_X5_copy I14 yo 33 y 33 10 10
  let I16 := f_X5_copy I15 yo 34 y 34 10 10
  let I17 := f_X5_copy I16 yo 35 y 35 10 10
  let I18 := f_X5_copy I17 yo 36 y 36 10 10
  let I19 := f_X5_copy I18 yo 37 y 37 10 10
  let I20 := f_X5_copy I19 yo 38 y 38 10 10
  let I21 := f_X5_copy I20 yo 40 y 40 600 (I20 y 20 0 19)
  let I22 := f_X5_copy I21 yo 41 y 41 600 (I21 y 20 0 19)
  let I23 := f_X5_copy I22 yo 42 y 42 600 (I22 y 20 0 19)
  let I24 := f_X5_copy I23 yo 43 y 43 600 (I23 y 20 0 19)
  let I25 := f_X5_copy I24 yo 44 y 44 600 (I24 y 20 0 19)
  let I26 := f_X5_copy I25 yo 45 y 45 600 (I25 y 20 0 19)
  I26
set_option maxRecDepth 100000 in
theorem ne_X5_become (I : gI) (y yo : Nat) (hy : y = 3 ∨ y = 4) (hyo : yo = 3 ∨ yo = 4) {y' : Nat} (hne : y' ≠ y) : f_X5_become_s I y yo y' = I y' := by
  have hn : I y' = I y' := rfl
  obtain ⟨I1, hI1⟩ : ∃ z, z = gU I y 20 0 0 (I yo 20 0 0) := ⟨_, rfl⟩
  have hn1 : I1 y' = I y' := by rw [hI1]; exact (gU_ne _ _ _ _ _ hne).trans hn
  obtain ⟨I2, hI2⟩ : ∃ z, z = gU I1 y 20 0 1 (I1 yo 20 0 1) := ⟨_, rfl⟩
  have hn2 : I2 y' = I y' := by rw [hI2]; exact (gU_ne _ _ _ _ _ hne).trans hn1
  obtain ⟨I3, hI3⟩ : ∃ z, z = gU I2 y 20 0 2 (I2 yo 20 0 2) := ⟨_, rfl⟩
  have hn3 : I3 y' = I y' := by rw [hI3]; exact (gU_ne _ _ _ _ _ hne).trans hn2
  obtain ⟨I4, hI4⟩ : ∃ z, z = gU I3 y 20 0 3 (I3 yo 20 0 3) := ⟨_, rfl⟩
  have hn4 : I4 y' = I y' := by rw [hI4]; exact (gU_ne _ _ _ _ _ hne).trans hn3
  obtain ⟨I5, hI5⟩ : ∃ z, z = gU I4 y 20 0 4 (I4 yo 20 0 4) := ⟨_, rfl⟩
  have hn5 : I5 y' = I y' := by rw [hI5]; exact (gU_ne _ _ _ _ _ hne).trans hn4
  obtain ⟨I6, hI6⟩ : ∃ z, z = gU I5 y 20 0 19 (I5 yo 20 0 19) := ⟨_, rfl⟩
  have hn6 : I6 y' = I y' := by rw [hI6]; exact (gU_ne _ _ _ _ _ hne).trans hn5
  obtain ⟨I7, hI7⟩ : ∃ z, z = f_X5_copy I6 yo 25 y 25 6 6 := ⟨_, rfl⟩
  have hn7 : I7 y' = I y' := by rw [hI7]; exact (ne_X5_copy I6 yo 25 y 25 6 6 (gvs hyo 25 rfl) (gvs hy 25 rfl) rfl rfl (fun _ => rfl) (fun _ => rfl) (by decide) (y' := y') hne).trans hn6
  obtain ⟨I8, hI8⟩ : ∃ z, z = f_X5_copy I7 yo 26 y 26 6 6 := ⟨_, rfl⟩
  have hn8 : I8 y' = I y' := by rw [hI8]; exact (ne_X5_copy I7 yo 26 y 26 6 6 (gvs hyo 26 rfl) (gvs hy 26 rfl) rfl rfl (fun _ => rfl) (fun _ => rfl) (by decide) (y' := y') hne).trans hn7
  obtain ⟨I9, hI9⟩ : ∃ z, z = f_X5_copy I8 yo 27 y 27 6 6 := ⟨_, rfl⟩
  have hn9 : I9 y' = I y' := by rw [hI9]; exact (ne_X5_copy I8 yo 27 y 27 6 6 (gvs hyo 27 rfl) (gvs hy 27 rfl) rfl rfl (fun _ => rfl) (fun _ => rfl) (by decide) (y' := y') hne).trans hn8
  obtain ⟨I10, hI10⟩ : ∃ z, z = f_X5_copy I9 yo 28 y 28 6 6 := ⟨_, rfl⟩
  have hn10 : I10 y' = I y' := by rw [hI10]; exact (ne_X5_copy I9 yo 28 y 28 6 6 (gvs hyo 28 rfl) (gvs hy 28 rfl) rfl rfl (fun _ => rfl) (fun _ => rfl) (by decide) (y' := y') hne).trans hn9
  obtain ⟨I11, hI11⟩ : ∃ z, z = f_X5_copy I10 yo 29 y 29 6 6 := ⟨_, rfl⟩
  have hn11 : I11 y' = I y' := by rw [hI11]; exact (ne_X5_copy I10 yo 29 y 29 6 6 (gvs hyo 29 rfl) (gvs hy 29 rfl) rfl rfl (fun _ => rfl) (fun _ => rfl) (by decide) (y' := y') hne).trans hn10
  obtain ⟨I12, hI12⟩ : ∃ z, z = f_X5_copy I11 yo 30 y 30 6 6 := ⟨_, rfl⟩
  have hn12 : I12 y' = I y' := by rw [hI12]; exact (ne_X5_copy I11 yo 30 y 30 6 6 (gvs hyo 30 rfl) (gvs hy 30 rfl) rfl rfl (fun _ => rfl) (fun _ => rfl) (by decide) (y' := y') hne).trans hn11
  obtain ⟨I13, hI13⟩ : ∃ z, z = f_X5_copy I12 yo 31 y 31 6 6 := ⟨_, rfl⟩
  have hn13 : I13 y' = I y' := by rw [hI13]; exact (ne_X5_copy I12 yo 31 y 31 6 6 (gvs hyo 31 rfl) (gvs hy 31 rfl) rfl rfl (fun _ => rfl) (fun _ => rfl) (by decide) (y' := y') hne).trans hn12
  obtain ⟨I14, hI14⟩ : ∃ z, z = f_X5_copy I13 yo 32 y 32 48 48 := ⟨_, rfl⟩
  have hn14 : I14 y' = I y' := by rw [hI14]; exact (ne_X5_copy I13 yo 32 y 32 48 48 (gvs hyo 32 rfl) (gvs hy 32 rfl) rfl rfl (fun _ => rfl) (fun _ => rfl) (by decide) (y' := y') hne).trans hn13
  obtain ⟨I15, hI15⟩ : ∃ z, z = f_X5_copy I14 yo 33 y 33 10 10 := ⟨_, rfl⟩
  have hn15 : I15 y' = I y' := by rw [hI15]; exact (ne_X5_copy I14 yo 33 y 33 10 10 (gvs hyo 33 rfl) (gvs hy 33 rfl) rfl rfl (fun _ => rfl) (fun _ => rfl) (by decide) (y' := y') hne).trans hn14
  obtain ⟨I16, hI16⟩ : ∃ z, z = f_X5_copy I15 yo 34 y 34 10 10 := ⟨_, rfl⟩
  have hn16 : I16 y' = I y' := by rw [hI16]; exact (ne_X5_copy I15 yo 34 y 34 10 10 (gvs hyo 34 rfl) (gvs hy 34 rfl) rfl rfl (fun _ => rfl) (fun _ => rfl) (by decide) (y' := y') hne).trans hn15
  obtain ⟨I17, hI17⟩ : ∃ z, z = f_X5_copy I16 yo 35 y 35 10 10 := ⟨_, rfl⟩
  have hn17 : I17 y' = I y' := by rw [hI17]; exact (ne_X5_copy I16 yo 35 y 35 10 10 (gvs hyo 35 rfl) (gvs hy 35 rfl) rfl rfl (fun _ => rfl) (fun _ => rfl) (by decide) (y' := y') hne).trans hn16
  obtain ⟨I18, hI18⟩ : ∃ z, z = f_X5_copy I17 yo 36 y 36 10 10 := ⟨_, rfl⟩
  have hn18 : I18 y' = I y' := by rw [hI18]; exact (ne_X5_copy I17 yo 36 y 36 10 10 (gvs hyo 36 rfl) (gvs hy 36 rfl) rfl rfl (fun _ => rfl) (fun _ => rfl) (by decide) (y' := y') hne).trans hn17
  obtain ⟨I19, hI19⟩ : ∃ z, z = f_X5_copy I18 yo 37 y 37 10 10 := ⟨_, rfl⟩
  have hn19 : I19 y' = I y' := by rw [hI19]; exact (ne_X5_copy I18 yo 37 y 37 10 10 (gvs hyo 37 rfl) (gvs hy 37 rfl) rfl rfl (fun _ => rfl) (fun _ => rfl) (by decide) (y' := y') hne).trans hn18
  obtain ⟨I20, hI20⟩ : ∃ z, z = f_X5_copy I19 yo 38 y 38 10 10 := ⟨_, rfl⟩
  have hn20 : I20 y' = I y' := by rw [hI20]; exact (ne_X5_copy I19 yo 38 y 38 10 10 (gvs hyo 38 rfl) (gvs hy 38 rfl) rfl rfl (fun _ => rfl) (fun _ => rfl) (by decide) (y' := y') hne).trans hn19
  obtain ⟨I21, hI21⟩ : ∃ z, z = f_X5_copy I20 yo 40 y 40 600 (I20 y 20 0 19) := ⟨_, rfl⟩
  have hn21 : I21 y' = I y' := by rw [hI21]; exact (ne_X5_copy I20 yo 40 y 40 600 (I20 y 20 0 19) (gvs hyo 40 rfl) (gvs hy 40 rfl) rfl rfl (fun _ => rfl) (fun _ => rfl) (by decide) (y' := y') hne).trans hn20
  obtain ⟨I22, hI22⟩ : ∃ z, z = f_X5_copy I21 yo 41 y 41 600 (I21 y 20 0 19) := ⟨_, rfl⟩
  have hn22 : I22 y' = I y' := by rw [hI22]; exact (ne_X5_copy I21 yo 41 y 41 600 (I21 y 20 0 19) (gvs hyo 41 rfl) (gvs hy 41 rfl) rfl rfl (fun _ => rfl) (fun _ => rfl) (by decide) (y' := y') hne).trans hn21
  obtain ⟨I23, hI23⟩ : ∃ z, z = f_X5_copy I22 yo 42 y 42 600 (I22 y 20 0 19) := ⟨_, rfl⟩
  have hn23 : I23 y' = I y' := by rw [hI23]; exact (ne_X5_copy I22 yo 42 y 42 600 (I22 y 20 0 19) (gvs hyo 42 rfl) (gvs hy 42 rfl) rfl rfl (fun _ => rfl) (fun _ => rfl) (by decide) (y' := y') hne).trans hn22
  obtain ⟨I24, hI24⟩ : ∃ z, z = f_X5_copy I23 yo 43 y 43 600 (I23 y 20 0 19) := ⟨_, rfl⟩
  have hn24 : I24 y' = I y' := by rw [hI24]; exact (ne_X5_copy I23 yo 43 y 43 600 (I23 y 20 0 19) (gvs hyo 43 rfl) (gvs hy 43 rfl) rfl rfl (fun _ => rfl) (fun _ => rfl) (by decide) (y' := y') hne).trans hn23
  obtain ⟨I25, hI25⟩ : ∃ z, z = f_X5_copy I24 yo 44 y 44 600 (I24 y 20 0 19) := ⟨_, rfl⟩
  have hn25 : I25 y' = I y' := by rw [hI25]; exact (ne_X5_copy I24 yo 44 y 44 600 (I24 y 20 0 19) (gvs hyo 44 rfl) (gvs hy 44 rfl) rfl rfl (fun _ => rfl) (fun _ => rfl) (by decide) (y' := y') hne).trans hn24
  obtain ⟨I26, hI26⟩ : ∃ z, z = f_X5_copy I25 yo 45 y 45 600 (I25 y 20 0 19) := ⟨_, rfl⟩
  have hn26 : I26 y' = I y' := by rw [hI26]; exact (ne_X5_copy I25 yo 45 y 45 600 (I25 y 20 0 19) (gvs hyo 45 rfl) (gvs hy 45 rfl) rfl rfl (fun _ => rfl) (fun _ => rfl) (by decide) (y' := y') hne).trans hn25
  have eS : f_X5_become_s I y yo = I26 := by simp only [f_X5_become_s, ← hI1, ← hI2, ← hI3, ← hI4, ← hI5, ← hI6, ← hI7, ← hI8, ← hI9, ← hI10, ← hI11, ← hI12, ← hI13, ← hI14, ← hI15, ← hI16, ← hI17, ← hI18, ← hI19, ← hI20, ← hI21, ← hI22, ← hI23, ← hI24, ← hI25, ← hI26]
  exact (congrFun eS y').trans hn26
set_option maxHeartbeats 4000000 in
set_option maxRecDepth 100000 in
theorem m_X5_become (l : Launch) (E : gE) (J : Int64) (I : gI) (y yo : Nat) (hy : y = 3 ∨ y = 4) (hyo : yo = 3 ∨ yo = 4) (hok : ok_X5_become I y yo) : gMr l E J yX5_become cX5_become 2 (some (.object "HayThievesModel$State")) 2 62 [.ref (gA E y 20 0), .ref (gA E yo 20 0)] I (gA E y 20 0) (f_X5_become_s I y yo) := by
  refine g_entry (lv := [(0, .ref (gA E y 20 0)), (1, .ref (gA E yo 20 0))]) (by decide) (Nat.le_of_ble_eq_true rfl) rfl ?_
  intro p e s m below meth c0 ls K hG hS hml hr hlocks hl
  have K : kx E p m c0 cX5_become "HayThievesModel$State" _ s := K
  have hx := K.1
  have hb := K.2.1
  have hts := K.2.2.1
  have hown := K.2.2.2.1
  have hSt := K.2.2.2.2
  unfold ok_X5_become at hok
  refine lv_aload_n hx hb dX5_become_0 rfl (lv_at hl 0 rfl) ?_
  refine lv_aload_n hx hb dX5_become_1 rfl (lv_at hl 1 rfl) ?_
  refine gf_X5_78 K hG (gvs hyo 20 rfl) dX5_become_2 ?_
  refine pf_X5_78 K hG hS (gvs hy 20 rfl) dX5_become_5 (fun I1 hI1 H locs hG hS => ?_)
  have hok := hok I1 hI1
  refine lv_aload_n hx hb dX5_become_8 rfl (lv_at hl 0 rfl) ?_
  refine lv_aload_n hx hb dX5_become_9 rfl (lv_at hl 1 rfl) ?_
  refine gf_X5_82 K hG (gvs hyo 20 rfl) dX5_become_10 ?_
  refine pf_X5_82 K hG hS (gvs hy 20 rfl) dX5_become_13 (fun I2 hI2 H locs hG hS => ?_)
  have hok := hok I2 hI2
  refine lv_aload_n hx hb dX5_become_16 rfl (lv_at hl 0 rfl) ?_
  refine lv_aload_n hx hb dX5_become_17 rfl (lv_at hl 1 rfl) ?_
  refine gf_X5_85 K hG (gvs hyo 20 rfl) dX5_become_18 ?_
  refine pf_X5_85 K hG hS (gvs hy 20 rfl) dX5_become_21 (fun I3 hI3 H locs hG hS => ?_)
  have hok := hok I3 hI3
  refine lv_aload_n hx hb dX5_become_24 rfl (lv_at hl 0 rfl) ?_
  refine lv_aload_n hx hb dX5_become_25 rfl (lv_at hl 1 rfl) ?_
  refine gf_X5_88 K hG (gvs hyo 20 rfl) dX5_become_26 ?_
  refine pf_X5_88 K hG hS (gvs hy 20 rfl) dX5_become_29 (fun I4 hI4 H locs hG hS => ?_)
  have hok := hok I4 hI4
  refine lv_aload_n hx hb dX5_become_32 rfl (lv_at hl 0 rfl) ?_
  refine lv_aload_n hx hb dX5_become_33 rfl (lv_at hl 1 rfl) ?_
  refine gf_X5_91 K hG (gvs hyo 20 rfl) dX5_become_34 ?_
  refine pf_X5_91 K hG hS (gvs hy 20 rfl) dX5_become_37 (fun I5 hI5 H locs hG hS => ?_)
  have hok := hok I5 hI5
  refine lv_aload_n hx hb dX5_become_40 rfl (lv_at hl 0 rfl) ?_
  refine lv_aload_n hx hb dX5_become_41 rfl (lv_at hl 1 rfl) ?_
  refine gf_X5_94 K hG (gvs hyo 20 rfl) dX5_become_42 ?_
  refine pf_X5_94 K hG hS (gvs hy 20 rfl) dX5_become_45 (fun I6 hI6 H locs hG hS => ?_)
  have hok := hok I6 hI6
  refine lv_aload_n hx hb dX5_become_48 rfl (lv_at hl 1 rfl) ?_
  refine gf_X5_9 K hG (gvs hyo 20 rfl) dX5_become_49 ?_
  refine lv_aload_n hx hb dX5_become_52 rfl (lv_at hl 0 rfl) ?_
  refine gf_X5_9 K hG (gvs hy 20 rfl) dX5_become_53 ?_
  refine lv_bipush (v := 6) hx hb dX5_become_56 (by decide) ?_
  refine g_kv (g_runS (As := [.ref (gA E yo 25 0), .ref (gA E y 25 0), .int 6]) (rest := []) K hml ca_X5_copy q953 (m_X5_copy l E J I6 yo 25 y 25 6 6 (gvs hyo 25 rfl) (gvs hy 25 rfl) rfl rfl (fun _ => rfl) (fun _ => rfl) (by decide) (by decide) (by decide)) hG hS rfl hl.1 (Nat.le_of_ble_eq_true rfl) ⟨by decide, by decide⟩ dX5_become_58 ⟨Nat.zero_le _, Nat.zero_le _⟩) hS (fun H locs hG hS => ?_)
  obtain ⟨I7, hI7⟩ : ∃ z, z = f_X5_copy I6 yo 25 y 25 6 6 := ⟨_, rfl⟩
  rw [← hI7] at hG
  have hok := hok I7 hI7
  refine lv_aload_n hx hb dX5_become_61 rfl (lv_at hl 1 rfl) ?_
  refine gf_X5_15 K hG (gvs hyo 20 rfl) dX5_become_62 ?_
  refine lv_aload_n hx hb dX5_become_65 rfl (lv_at hl 0 rfl) ?_
  refine gf_X5_15 K hG (gvs hy 20 rfl) dX5_become_66 ?_
  refine lv_bipush (v := 6) hx hb dX5_become_69 (by decide) ?_
  refine g_kv (g_runS (As := [.ref (gA E yo 26 0), .ref (gA E y 26 0), .int 6]) (rest := []) K hml ca_X5_copy q953 (m_X5_copy l E J I7 yo 26 y 26 6 6 (gvs hyo 26 rfl) (gvs hy 26 rfl) rfl rfl (fun _ => rfl) (fun _ => rfl) (by decide) (by decide) (by decide)) hG hS rfl hl.1 (Nat.le_of_ble_eq_true rfl) ⟨by decide, by decide⟩ dX5_become_71 ⟨Nat.zero_le _, Nat.zero_le _⟩) hS (fun H locs hG hS => ?_)
  obtain ⟨I8, hI8⟩ : ∃ z, z = f_X5_copy I7 yo 26 y 26 6 6 := ⟨_, rfl⟩
  rw [← hI8] at hG
  have hok := hok I8 hI8
  refine lv_aload_n hx hb dX5_become_74 rfl (lv_at hl 1 rfl) ?_
  refine gf_X5_18 K hG (gvs hyo 20 rfl) dX5_become_75 ?_
  refine lv_aload_n hx hb dX5_become_78 rfl (lv_at hl 0 rfl) ?_
  refine gf_X5_18 K hG (gvs hy 20 rfl) dX5_become_79 ?_
  refine lv_bipush (v := 6) hx hb dX5_become_82 (by decide) ?_
  refine g_kv (g_runS (As := [.ref (gA E yo 27 0), .ref (gA E y 27 0), .int 6]) (rest := []) K hml ca_X5_copy q953 (m_X5_copy l E J I8 yo 27 y 27 6 6 (gvs hyo 27 rfl) (gvs hy 27 rfl) rfl rfl (fun _ => rfl) (fun _ => rfl) (by decide) (by decide) (by decide)) hG hS rfl hl.1 (Nat.le_of_ble_eq_true rfl) ⟨by decide, by decide⟩ dX5_become_84 ⟨Nat.zero_le _, Nat.zero_le _⟩) hS (fun H locs hG hS => ?_)
  obtain ⟨I9, hI9⟩ : ∃ z, z = f_X5_copy I8 yo 27 y 27 6 6 := ⟨_, rfl⟩
  rw [← hI9] at hG
  have hok := hok I9 hI9
  refine lv_aload_n hx hb dX5_become_87 rfl (lv_at hl 1 rfl) ?_
  refine gf_X5_21 K hG (gvs hyo 20 rfl) dX5_become_88 ?_
  refine lv_aload_n hx hb dX5_become_91 rfl (lv_at hl 0 rfl) ?_
  refine gf_X5_21 K hG (gvs hy 20 rfl) dX5_become_92 ?_
  refine lv_bipush (v := 6) hx hb dX5_become_95 (by decide) ?_
  refine g_kv (g_runS (As := [.ref (gA E yo 28 0), .ref (gA E y 28 0), .int 6]) (rest := []) K hml ca_X5_copy q953 (m_X5_copy l E J I9 yo 28 y 28 6 6 (gvs hyo 28 rfl) (gvs hy 28 rfl) rfl rfl (fun _ => rfl) (fun _ => rfl) (by decide) (by decide) (by decide)) hG hS rfl hl.1 (Nat.le_of_ble_eq_true rfl) ⟨by decide, by decide⟩ dX5_become_97 ⟨Nat.zero_le _, Nat.zero_le _⟩) hS (fun H locs hG hS => ?_)
  obtain ⟨I10, hI10⟩ : ∃ z, z = f_X5_copy I9 yo 28 y 28 6 6 := ⟨_, rfl⟩
  rw [← hI10] at hG
  have hok := hok I10 hI10
  refine lv_aload_n hx hb dX5_become_100 rfl (lv_at hl 1 rfl) ?_
  refine gf_X5_24 K hG (gvs hyo 20 rfl) dX5_become_101 ?_
  refine lv_aload_n hx hb dX5_become_104 rfl (lv_at hl 0 rfl) ?_
  refine gf_X5_24 K hG (gvs hy 20 rfl) dX5_become_105 ?_
  refine lv_bipush (v := 6) hx hb dX5_become_108 (by decide) ?_
  refine g_kv (g_runS (As := [.ref (gA E yo 29 0), .ref (gA E y 29 0), .int 6]) (rest := []) K hml ca_X5_copy q953 (m_X5_copy l E J I10 yo 29 y 29 6 6 (gvs hyo 29 rfl) (gvs hy 29 rfl) rfl rfl (fun _ => rfl) (fun _ => rfl) (by decide) (by decide) (by decide)) hG hS rfl hl.1 (Nat.le_of_ble_eq_true rfl) ⟨by decide, by decide⟩ dX5_become_110 ⟨Nat.zero_le _, Nat.zero_le _⟩) hS (fun H locs hG hS => ?_)
  obtain ⟨I11, hI11⟩ : ∃ z, z = f_X5_copy I10 yo 29 y 29 6 6 := ⟨_, rfl⟩
  rw [← hI11] at hG
  have hok := hok I11 hI11
  refine lv_aload_n hx hb dX5_become_113 rfl (lv_at hl 1 rfl) ?_
  refine gf_X5_27 K hG (gvs hyo 20 rfl) dX5_become_114 ?_
  refine lv_aload_n hx hb dX5_become_117 rfl (lv_at hl 0 rfl) ?_
  refine gf_X5_27 K hG (gvs hy 20 rfl) dX5_become_118 ?_
  refine lv_bipush (v := 6) hx hb dX5_become_121 (by decide) ?_
  refine g_kv (g_runS (As := [.ref (gA E yo 30 0), .ref (gA E y 30 0), .int 6]) (rest := []) K hml ca_X5_copy q953 (m_X5_copy l E J I11 yo 30 y 30 6 6 (gvs hyo 30 rfl) (gvs hy 30 rfl) rfl rfl (fun _ => rfl) (fun _ => rfl) (by decide) (by decide) (by decide)) hG hS rfl hl.1 (Nat.le_of_ble_eq_true rfl) ⟨by decide, by decide⟩ dX5_become_123 ⟨Nat.zero_le _, Nat.zero_le _⟩) hS (fun H locs hG hS => ?_)
  obtain ⟨I12, hI12⟩ : ∃ z, z = f_X5_copy I11 yo 30 y 30 6 6 := ⟨_, rfl⟩
  rw [← hI12] at hG
  have hok := hok I12 hI12
  refine lv_aload_n hx hb dX5_become_126 rfl (lv_at hl 1 rfl) ?_
  refine gf_X5_30 K hG (gvs hyo 20 rfl) dX5_become_127 ?_
  refine lv_aload_n hx hb dX5_become_130 rfl (lv_at hl 0 rfl) ?_
  refine gf_X5_30 K hG (gvs hy 20 rfl) dX5_become_131 ?_
  refine lv_bipush (v := 6) hx hb dX5_become_134 (by decide) ?_
  refine g_kv (g_runS (As := [.ref (gA E yo 31 0), .ref (gA E y 31 0), .int 6]) (rest := []) K hml ca_X5_copy q953 (m_X5_copy l E J I12 yo 31 y 31 6 6 (gvs hyo 31 rfl) (gvs hy 31 rfl) rfl rfl (fun _ => rfl) (fun _ => rfl) (by decide) (by decide) (by decide)) hG hS rfl hl.1 (Nat.le_of_ble_eq_true rfl) ⟨by decide, by decide⟩ dX5_become_136 ⟨Nat.zero_le _, Nat.zero_le _⟩) hS (fun H locs hG hS => ?_)
  obtain ⟨I13, hI13⟩ : ∃ z, z = f_X5_copy I12 yo 31 y 31 6 6 := ⟨_, rfl⟩
  rw [← hI13] at hG
  have hok := hok I13 hI13
  refine lv_aload_n hx hb dX5_become_139 rfl (lv_at hl 1 rfl) ?_
  refine gf_X5_33 K hG (gvs hyo 20 rfl) dX5_become_140 ?_
  refine lv_aload_n hx hb dX5_become_143 rfl (lv_at hl 0 rfl) ?_
  refine gf_X5_33 K hG (gvs hy 20 rfl) dX5_become_144 ?_
  refine lv_bipush (v := 48) hx hb dX5_become_147 (by decide) ?_
  refine g_kv (g_runS (As := [.ref (gA E yo 32 0), .ref (gA E y 32 0), .int 48]) (rest := []) K hml ca_X5_copy q953 (m_X5_copy l E J I13 yo 32 y 32 48 48 (gvs hyo 32 rfl) (gvs hy 32 rfl) rfl rfl (fun _ => rfl) (fun _ => rfl) (by decide) (by decide) (by decide)) hG hS rfl hl.1 (Nat.le_of_ble_eq_true rfl) ⟨by decide, by decide⟩ dX5_become_149 ⟨Nat.zero_le _, Nat.zero_le _⟩) hS (fun H locs hG hS => ?_)
  obtain ⟨I14, hI14⟩ : ∃ z, z = f_X5_copy I13 yo 32 y 32 48 48 := ⟨_, rfl⟩
  rw [← hI14] at hG
  have hok := hok I14 hI14
  refine lv_aload_n hx hb dX5_become_152 rfl (lv_at hl 1 rfl) ?_
  refine gf_X5_36 K hG (gvs hyo 20 rfl) dX5_become_153 ?_
  refine lv_aload_n hx hb dX5_become_156 rfl (lv_at hl 0 rfl) ?_
  refine gf_X5_36 K hG (gvs hy 20 rfl) dX5_become_157 ?_
  refine lv_bipush (v := 10) hx hb dX5_become_160 (by decide) ?_
  refine g_kv (g_runS (As := [.ref (gA E yo 33 0), .ref (gA E y 33 0), .int 10]) (rest := []) K hml ca_X5_copy q953 (m_X5_copy l E J I14 yo 33 y 33 10 10 (gvs hyo 33 rfl) (gvs hy 33 rfl) rfl rfl (fun _ => rfl) (fun _ => rfl) (by decide) (by decide) (by decide)) hG hS rfl hl.1 (Nat.le_of_ble_eq_true rfl) ⟨by decide, by decide⟩ dX5_become_162 ⟨Nat.zero_le _, Nat.zero_le _⟩) hS (fun H locs hG hS => ?_)
  obtain ⟨I15, hI15⟩ : ∃ z, z = f_X5_copy I14 yo 33 y 33 10 10 := ⟨_, rfl⟩
  rw [← hI15] at hG
  have hok := hok I15 hI15
  refine lv_aload_n hx hb dX5_become_165 rfl (lv_at hl 1 rfl) ?_
  refine gf_X5_39 K hG (gvs hyo 20 rfl) dX5_become_166 ?_
  refine lv_aload_n hx hb dX5_become_169 rfl (lv_at hl 0 rfl) ?_
  refine gf_X5_39 K hG (gvs hy 20 rfl) dX5_become_170 ?_
  refine lv_bipush (v := 10) hx hb dX5_become_173 (by decide) ?_
  refine g_kv (g_runS (As := [.ref (gA E yo 34 0), .ref (gA E y 34 0), .int 10]) (rest := []) K hml ca_X5_copy q953 (m_X5_copy l E J I15 yo 34 y 34 10 10 (gvs hyo 34 rfl) (gvs hy 34 rfl) rfl rfl (fun _ => rfl) (fun _ => rfl) (by decide) (by decide) (by decide)) hG hS rfl hl.1 (Nat.le_of_ble_eq_true rfl) ⟨by decide, by decide⟩ dX5_become_175 ⟨Nat.zero_le _, Nat.zero_le _⟩) hS (fun H locs hG hS => ?_)
  obtain ⟨I16, hI16⟩ : ∃ z, z = f_X5_copy I15 yo 34 y 34 10 10 := ⟨_, rfl⟩
  rw [← hI16] at hG
  have hok := hok I16 hI16
  refine lv_aload_n hx hb dX5_become_178 rfl (lv_at hl 1 rfl) ?_
  refine gf_X5_42 K hG (gvs hyo 20 rfl) dX5_become_179 ?_
  refine lv_aload_n hx hb dX5_become_182 rfl (lv_at hl 0 rfl) ?_
  refine gf_X5_42 K hG (gvs hy 20 rfl) dX5_become_183 ?_
  refine lv_bipush (v := 10) hx hb dX5_become_186 (by decide) ?_
  refine g_kv (g_runS (As := [.ref (gA E yo 35 0), .ref (gA E y 35 0), .int 10]) (rest := []) K hml ca_X5_copy q953 (m_X5_copy l E J I16 yo 35 y 35 10 10 (gvs hyo 35 rfl) (gvs hy 35 rfl) rfl rfl (fun _ => rfl) (fun _ => rfl) (by decide) (by decide) (by decide)) hG hS rfl hl.1 (Nat.le_of_ble_eq_true rfl) ⟨by decide, by decide⟩ dX5_become_188 ⟨Nat.zero_le _, Nat.zero_le _⟩) hS (fun H locs hG hS => ?_)
  obtain ⟨I17, hI17⟩ : ∃ z, z = f_X5_copy I16 yo 35 y 35 10 10 := ⟨_, rfl⟩
  rw [← hI17] at hG
  have hok := hok I17 hI17
  refine lv_aload_n hx hb dX5_become_191 rfl (lv_at hl 1 rfl) ?_
  refine gf_X5_45 K hG (gvs hyo 20 rfl) dX5_become_192 ?_
  refine lv_aload_n hx hb dX5_become_195 rfl (lv_at hl 0 rfl) ?_
  refine gf_X5_45 K hG (gvs hy 20 rfl) dX5_become_196 ?_
  refine lv_bipush (v := 10) hx hb dX5_become_199 (by decide) ?_
  refine g_kv (g_runS (As := [.ref (gA E yo 36 0), .ref (gA E y 36 0), .int 10]) (rest := []) K hml ca_X5_copy q953 (m_X5_copy l E J I17 yo 36 y 36 10 10 (gvs hyo 36 rfl) (gvs hy 36 rfl) rfl rfl (fun _ => rfl) (fun _ => rfl) (by decide) (by decide) (by decide)) hG hS rfl hl.1 (Nat.le_of_ble_eq_true rfl) ⟨by decide, by decide⟩ dX5_become_201 ⟨Nat.zero_le _, Nat.zero_le _⟩) hS (fun H locs hG hS => ?_)
  obtain ⟨I18, hI18⟩ : ∃ z, z = f_X5_copy I17 yo 36 y 36 10 10 := ⟨_, rfl⟩
  rw [← hI18] at hG
  have hok := hok I18 hI18
  refine lv_aload_n hx hb dX5_become_204 rfl (lv_at hl 1 rfl) ?_
  refine gf_X5_48 K hG (gvs hyo 20 rfl) dX5_become_205 ?_
  refine lv_aload_n hx hb dX5_become_208 rfl (lv_at hl 0 rfl) ?_
  refine gf_X5_48 K hG (gvs hy 20 rfl) dX5_become_209 ?_
  refine lv_bipush (v := 10) hx hb dX5_become_212 (by decide) ?_
  refine g_kv (g_runS (As := [.ref (gA E yo 37 0), .ref (gA E y 37 0), .int 10]) (rest := []) K hml ca_X5_copy q953 (m_X5_copy l E J I18 yo 37 y 37 10 10 (gvs hyo 37 rfl) (gvs hy 37 rfl) rfl rfl (fun _ => rfl) (fun _ => rfl) (by decide) (by decide) (by decide)) hG hS rfl hl.1 (Nat.le_of_ble_eq_true rfl) ⟨by decide, by decide⟩ dX5_become_214 ⟨Nat.zero_le _, Nat.zero_le _⟩) hS (fun H locs hG hS => ?_)
  obtain ⟨I19, hI19⟩ : ∃ z, z = f_X5_copy I18 yo 37 y 37 10 10 := ⟨_, rfl⟩
  rw [← hI19] at hG
  have hok := hok I19 hI19
  refine lv_aload_n hx hb dX5_become_217 rfl (lv_at hl 1 rfl) ?_
  refine gf_X5_51 K hG (gvs hyo 20 rfl) dX5_become_218 ?_
  refine lv_aload_n hx hb dX5_become_221 rfl (lv_at hl 0 rfl) ?_
  refine gf_X5_51 K hG (gvs hy 20 rfl) dX5_become_222 ?_
  refine lv_bipush (v := 10) hx hb dX5_become_225 (by decide) ?_
  refine g_kv (g_runS (As := [.ref (gA E yo 38 0), .ref (gA E y 38 0), .int 10]) (rest := []) K hml ca_X5_copy q953 (m_X5_copy l E J I19 yo 38 y 38 10 10 (gvs hyo 38 rfl) (gvs hy 38 rfl) rfl rfl (fun _ => rfl) (fun _ => rfl) (by decide) (by decide) (by decide)) hG hS rfl hl.1 (Nat.le_of_ble_eq_true rfl) ⟨by decide, by decide⟩ dX5_become_227 ⟨Nat.zero_le _, Nat.zero_le _⟩) hS (fun H locs hG hS => ?_)
  obtain ⟨I20, hI20⟩ : ∃ z, z = f_X5_copy I19 yo 38 y 38 10 10 := ⟨_, rfl⟩
  rw [← hI20] at hG
  have hok := hok I20 hI20
  refine lv_aload_n hx hb dX5_become_230 rfl (lv_at hl 1 rfl) ?_
  refine gf_X5_54 K hG (gvs hyo 20 rfl) dX5_become_231 ?_
  refine lv_aload_n hx hb dX5_become_234 rfl (lv_at hl 0 rfl) ?_
  refine gf_X5_54 K hG (gvs hy 20 rfl) dX5_become_235 ?_
  refine lv_aload_n hx hb dX5_become_238 rfl (lv_at hl 0 rfl) ?_
  refine gf_X5_94 K hG (gvs hy 20 rfl) dX5_become_239 ?_
  obtain ⟨ho1, hok⟩ := hok
  obtain ⟨ho2, hok⟩ := hok
  refine g_kv (g_runS (As := [.ref (gA E yo 40 0), .ref (gA E y 40 0), .int (I20 y 20 0 19)]) (rest := []) K hml ca_X5_copy q953 (m_X5_copy l E J I20 yo 40 y 40 600 (I20 y 20 0 19) (gvs hyo 40 rfl) (gvs hy 40 rfl) rfl rfl (fun _ => rfl) (fun _ => rfl) (by decide) ho1 ho2) hG hS rfl hl.1 (Nat.le_of_ble_eq_true rfl) ⟨by decide, by decide⟩ dX5_become_242 ⟨Nat.zero_le _, Nat.zero_le _⟩) hS (fun H locs hG hS => ?_)
  obtain ⟨I21, hI21⟩ : ∃ z, z = f_X5_copy I20 yo 40 y 40 600 (I20 y 20 0 19) := ⟨_, rfl⟩
  rw [← hI21] at hG
  have hok := hok I21 hI21
  refine lv_aload_n hx hb dX5_become_245 rfl (lv_at hl 1 rfl) ?_
  refine gf_X5_57 K hG (gvs hyo 20 rfl) dX5_become_246 ?_
  refine lv_aload_n hx hb dX5_become_249 rfl (lv_at hl 0 rfl) ?_
  refine gf_X5_57 K hG (gvs hy 20 rfl) dX5_become_250 ?_
  refine lv_aload_n hx hb dX5_become_253 rfl (lv_at hl 0 rfl) ?_
  refine gf_X5_94 K hG (gvs hy 20 rfl) dX5_become_254 ?_
  obtain ⟨ho3, hok⟩ := hok
  obtain ⟨ho4, hok⟩ := hok
  refine g_kv (g_runS (As := [.ref (gA E yo 41 0), .ref (gA E y 41 0), .int (I21 y 20 0 19)]) (rest := []) K hml ca_X5_copy q953 (m_X5_copy l E J I21 yo 41 y 41 600 (I21 y 20 0 19) (gvs hyo 41 rfl) (gvs hy 41 rfl) rfl rfl (fun _ => rfl) (fun _ => rfl) (by decide) ho3 ho4) hG hS rfl hl.1 (Nat.le_of_ble_eq_true rfl) ⟨by decide, by decide⟩ dX5_become_257 ⟨Nat.zero_le _, Nat.zero_le _⟩) hS (fun H locs hG hS => ?_)
  obtain ⟨I22, hI22⟩ : ∃ z, z = f_X5_copy I21 yo 41 y 41 600 (I21 y 20 0 19) := ⟨_, rfl⟩
  rw [← hI22] at hG
  have hok := hok I22 hI22
  refine lv_aload_n hx hb dX5_become_260 rfl (lv_at hl 1 rfl) ?_
  refine gf_X5_60 K hG (gvs hyo 20 rfl) dX5_become_261 ?_
  refine lv_aload_n hx hb dX5_become_264 rfl (lv_at hl 0 rfl) ?_
  refine gf_X5_60 K hG (gvs hy 20 rfl) dX5_become_265 ?_
  refine lv_aload_n hx hb dX5_become_268 rfl (lv_at hl 0 rfl) ?_
  refine gf_X5_94 K hG (gvs hy 20 rfl) dX5_become_269 ?_
  obtain ⟨ho5, hok⟩ := hok
  obtain ⟨ho6, hok⟩ := hok
  refine g_kv (g_runS (As := [.ref (gA E yo 42 0), .ref (gA E y 42 0), .int (I22 y 20 0 19)]) (rest := []) K hml ca_X5_copy q953 (m_X5_copy l E J I22 yo 42 y 42 600 (I22 y 20 0 19) (gvs hyo 42 rfl) (gvs hy 42 rfl) rfl rfl (fun _ => rfl) (fun _ => rfl) (by decide) ho5 ho6) hG hS rfl hl.1 (Nat.le_of_ble_eq_true rfl) ⟨by decide, by decide⟩ dX5_become_272 ⟨Nat.zero_le _, Nat.zero_le _⟩) hS (fun H locs hG hS => ?_)
  obtain ⟨I23, hI23⟩ : ∃ z, z = f_X5_copy I22 yo 42 y 42 600 (I22 y 20 0 19) := ⟨_, rfl⟩
  rw [← hI23] at hG
  have hok := hok I23 hI23
  refine lv_aload_n hx hb dX5_become_275 rfl (lv_at hl 1 rfl) ?_
  refine gf_X5_63 K hG (gvs hyo 20 rfl) dX5_become_276 ?_
  refine lv_aload_n hx hb dX5_become_279 rfl (lv_at hl 0 rfl) ?_
  refine gf_X5_63 K hG (gvs hy 20 rfl) dX5_become_280 ?_
  refine lv_aload_n hx hb dX5_become_283 rfl (lv_at hl 0 rfl) ?_
  refine gf_X5_94 K hG (gvs hy 20 rfl) dX5_become_284 ?_
  obtain ⟨ho7, hok⟩ := hok
  obtain ⟨ho8, hok⟩ := hok
  refine g_kv (g_runS (As := [.ref (gA E yo 43 0), .ref (gA E y 43 0), .int (I23 y 20 0 19)]) (rest := []) K hml ca_X5_copy q953 (m_X5_copy l E J I23 yo 43 y 43 600 (I23 y 20 0 19) (gvs hyo 43 rfl) (gvs hy 43 rfl) rfl rfl (fun _ => rfl) (fun _ => rfl) (by decide) ho7 ho8) hG hS rfl hl.1 (Nat.le_of_ble_eq_true rfl) ⟨by decide, by decide⟩ dX5_become_287 ⟨Nat.zero_le _, Nat.zero_le _⟩) hS (fun H locs hG hS => ?_)
  obtain ⟨I24, hI24⟩ : ∃ z, z = f_X5_copy I23 yo 43 y 43 600 (I23 y 20 0 19) := ⟨_, rfl⟩
  rw [← hI24] at hG
  have hok := hok I24 hI24
  refine lv_aload_n hx hb dX5_become_290 rfl (lv_at hl 1 rfl) ?_
  refine gf_X5_66 K hG (gvs hyo 20 rfl) dX5_become_291 ?_
  refine lv_aload_n hx hb dX5_become_294 rfl (lv_at hl 0 rfl) ?_
  refine gf_X5_66 K hG (gvs hy 20 rfl) dX5_become_295 ?_
  refine lv_aload_n hx hb dX5_become_298 rfl (lv_at hl 0 rfl) ?_
  refine gf_X5_94 K hG (gvs hy 20 rfl) dX5_become_299 ?_
  obtain ⟨ho9, hok⟩ := hok
  obtain ⟨ho10, hok⟩ := hok
  refine g_kv (g_runS (As := [.ref (gA E yo 44 0), .ref (gA E y 44 0), .int (I24 y 20 0 19)]) (rest := []) K hml ca_X5_copy q953 (m_X5_copy l E J I24 yo 44 y 44 600 (I24 y 20 0 19) (gvs hyo 44 rfl) (gvs hy 44 rfl) rfl rfl (fun _ => rfl) (fun _ => rfl) (by decide) ho9 ho10) hG hS rfl hl.1 (Nat.le_of_ble_eq_true rfl) ⟨by decide, by decide⟩ dX5_become_302 ⟨Nat.zero_le _, Nat.zero_le _⟩) hS (fun H locs hG hS => ?_)
  obtain ⟨I25, hI25⟩ : ∃ z, z = f_X5_copy I24 yo 44 y 44 600 (I24 y 20 0 19) := ⟨_, rfl⟩
  rw [← hI25] at hG
  have hok := hok I25 hI25
  refine lv_aload_n hx hb dX5_become_305 rfl (lv_at hl 1 rfl) ?_
  refine gf_X5_69 K hG (gvs hyo 20 rfl) dX5_become_306 ?_
  refine lv_aload_n hx hb dX5_become_309 rfl (lv_at hl 0 rfl) ?_
  refine gf_X5_69 K hG (gvs hy 20 rfl) dX5_become_310 ?_
  refine lv_aload_n hx hb dX5_become_313 rfl (lv_at hl 0 rfl) ?_
  refine gf_X5_94 K hG (gvs hy 20 rfl) dX5_become_314 ?_
  obtain ⟨ho11, hok⟩ := hok
  obtain ⟨ho12, hok⟩ := hok
  refine g_kv (g_runS (As := [.ref (gA E yo 45 0), .ref (gA E y 45 0), .int (I25 y 20 0 19)]) (rest := []) K hml ca_X5_copy q953 (m_X5_copy l E J I25 yo 45 y 45 600 (I25 y 20 0 19) (gvs hyo 45 rfl) (gvs hy 45 rfl) rfl rfl (fun _ => rfl) (fun _ => rfl) (by decide) ho11 ho12) hG hS rfl hl.1 (Nat.le_of_ble_eq_true rfl) ⟨by decide, by decide⟩ dX5_become_317 ⟨Nat.zero_le _, Nat.zero_le _⟩) hS (fun H locs hG hS => ?_)
  obtain ⟨I26, hI26⟩ : ∃ z, z = f_X5_copy I25 yo 45 y 45 600 (I25 y 20 0 19) := ⟨_, rfl⟩
  rw [← hI26] at hG
  have hok := hok I26 hI26
  refine lv_aload_n hx hb dX5_become_320 rfl (lv_at hl 0 rfl) ?_
  have eS : I26 = (f_X5_become_s I y yo) := (by simp only [f_X5_become_s, ← hI1, ← hI2, ← hI3, ← hI4, ← hI5, ← hI6, ← hI7, ← hI8, ← hI9, ← hI10, ← hI11, ← hI12, ← hI13, ← hI14, ← hI15, ← hI16, ← hI17, ← hI18, ← hI19, ← hI20, ← hI21, ← hI22, ← hI23, ← hI24, ← hI25, ← hI26])
  rw [eS] at hG
  exact g_aret K hG hS hr (Or.inl ⟨_, rfl⟩) hlocks rfl dX5_become_321
