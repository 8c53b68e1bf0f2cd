/-! PRINTED by wip/gen (cls.py): X2 -/
def f_X2_tell (I : gI) (y i : Nat) (x : Int32) : Int32 :=
  if x = 0 then
    (I y 4 i 0)
  else
    if x = 1 then
      (I y 4 i 1)
    else
      if x = 2 then
        (I y 4 i 4)
      else
        if x = 3 then
          (I y 4 i 5)
        else
          if x = 4 then
            (I y 4 i 2)
          else
            if x = 5 then
              (I y 4 i 3)
            else
              (I y 4 i 6)
set_option maxHeartbeats 4000000 in
set_option maxRecDepth 100000 in
theorem m_X2_tell (l : Launch) (E : gE) (J : Int64) (I : gI) (y i : Nat) (x : Int32) (hy : y < 2) (hi : i < 10) (hw : wf (I y)) : gMi l E J yX2_tell cX2_tell 2 (some .int) 0 0 [.ref (gA E y 4 i), .int x] I (f_X2_tell I y i x) I := by
  refine g_entry (lv := [(0, .ref (gA E y 4 i)), (1, .int x)]) (by decide) (Nat.le_of_ble_eq_true rfl) rfl ?_
  intro p e s m below meth c0 ls K hG hS hml hr hlocks hl
  have K : kx E p m c0 cX2_tell "HayThieves$Load" _ s := K
  have hx := K.1
  have hb := K.2.1
  have hts := K.2.2.1
  have hown := K.2.2.2.1
  have hSt := K.2.2.2.2
  refine lv_iload_n hx hb dX2_tell_0 rfl (lv_at hl 1 rfl) ?_
  by_cases c1_0 : x = 0
  · refine lv_tableIn (off := 39) (tgt := 40) hx hb dX2_tell_1 (by rw [c1_0]; decide) (by rw [c1_0]; decide) (by rw [c1_0]; decide) (by decide) ?_
    refine lv_aload_n hx hb dX2_tell_40 rfl (lv_at hl 0 rfl) ?_
    refine gf_X2_9 K hG (gv4 hy hi) dX2_tell_41 ?_
    exact g_iret K hG hS hr hlocks (by simp only [f_X2_tell, if_pos c1_0]) dX2_tell_44
  by_cases c1_1 : x = 1
  · refine lv_tableIn (off := 44) (tgt := 45) hx hb dX2_tell_1 (by rw [c1_1]; decide) (by rw [c1_1]; decide) (by rw [c1_1]; decide) (by decide) ?_
    refine lv_aload_n hx hb dX2_tell_45 rfl (lv_at hl 0 rfl) ?_
    refine gf_X2_15 K hG (gv4 hy hi) dX2_tell_46 ?_
    exact g_iret K hG hS hr hlocks (by simp only [f_X2_tell, if_neg c1_0, if_pos c1_1]) dX2_tell_49
  by_cases c1_2 : x = 2
  · refine lv_tableIn (off := 49) (tgt := 50) hx hb dX2_tell_1 (by rw [c1_2]; decide) (by rw [c1_2]; decide) (by rw [c1_2]; decide) (by decide) ?_
    refine lv_aload_n hx hb dX2_tell_50 rfl (lv_at hl 0 rfl) ?_
    refine gf_X2_24 K hG (gv4 hy hi) dX2_tell_51 ?_
    exact g_iret K hG hS hr hlocks (by simp only [f_X2_tell, if_neg c1_0, if_neg c1_1, if_pos c1_2]) dX2_tell_54
  by_cases c1_3 : x = 3
  · refine lv_tableIn (off := 54) (tgt := 55) hx hb dX2_tell_1 (by rw [c1_3]; decide) (by rw [c1_3]; decide) (by rw [c1_3]; decide) (by decide) ?_
    refine lv_aload_n hx hb dX2_tell_55 rfl (lv_at hl 0 rfl) ?_
    refine gf_X2_27 K hG (gv4 hy hi) dX2_tell_56 ?_
    exact g_iret K hG hS hr hlocks (by simp only [f_X2_tell, if_neg c1_0, if_neg c1_1, if_neg c1_2, if_pos c1_3]) dX2_tell_59
  by_cases c1_4 : x = 4
  · refine lv_tableIn (off := 59) (tgt := 60) hx hb dX2_tell_1 (by rw [c1_4]; decide) (by rw [c1_4]; decide) (by rw [c1_4]; decide) (by decide) ?_
    refine lv_aload_n hx hb dX2_tell_60 rfl (lv_at hl 0 rfl) ?_
    refine gf_X2_18 K hG (gv4 hy hi) dX2_tell_61 ?_
    exact g_iret K hG hS hr hlocks (by simp only [f_X2_tell, if_neg c1_0, if_neg c1_1, if_neg c1_2, if_neg c1_3, if_pos c1_4]) dX2_tell_64
  by_cases c1_5 : x = 5
  · refine lv_tableIn (off := 64) (tgt := 65) hx hb dX2_tell_1 (by rw [c1_5]; decide) (by rw [c1_5]; decide) (by rw [c1_5]; decide) (by decide) ?_
    refine lv_aload_n hx hb dX2_tell_65 rfl (lv_at hl 0 rfl) ?_
    refine gf_X2_21 K hG (gv4 hy hi) dX2_tell_66 ?_
    exact g_iret K hG hS hr hlocks (by simp only [f_X2_tell, if_neg c1_0, if_neg c1_1, if_neg c1_2, if_neg c1_3, if_neg c1_4, if_pos c1_5]) dX2_tell_69
  refine lv_tableOut (tgt := 70) hx hb dX2_tell_1 (gsw_0_5 c1_0 c1_1 c1_2 c1_3 c1_4 c1_5) (by decide) ?_
  refine lv_aload_n hx hb dX2_tell_70 rfl (lv_at hl 0 rfl) ?_
  refine gf_X2_30 K hG (gv4 hy hi) dX2_tell_71 ?_
  exact g_iret K hG hS hr hlocks (by simp only [f_X2_tell, if_neg c1_0, if_neg c1_1, if_neg c1_2, if_neg c1_3, if_neg c1_4, if_neg c1_5]) dX2_tell_74
def f_X2_copyFrom (I : gI) (y i : Nat) (yo io : Nat) : gI :=
  let I1 := gU I y 4 i 0 (I yo 4 io 0)
  let I2 := gU I1 y 4 i 1 (I1 yo 4 io 1)
  let I3 := gU I2 y 4 i 2 (I2 yo 4 io 2)
  let I4 := gU I3 y 4 i 3 (I3 yo 4 io 3)
  let I5 := gU I4 y 4 i 4 (I4 yo 4 io 4)
  let I6 := gU I5 y 4 i 5 (I5 yo 4 io 5)
  let I7 := gU I6 y 4 i 6 (I6 yo 4 io 6)
  I7
set_option maxRecDepth 100000 in
theorem wf_X2_copyFrom (I : gI) (y i : Nat) (yo io : Nat) (hy : y < 2) (hi : i < 10) (hw : wf (I y)) (hyo : yo < 2) (hio : io < 10) (hwo : wf (I yo)) (hne : yo ≠ y) : wf (f_X2_copyFrom I y i yo io y) := by
  obtain ⟨I1, hI1⟩ : ∃ z, z = gU I y 4 i 0 (I yo 4 io 0) := ⟨_, rfl⟩
  have hw1_y : wf (I1 y) := by rw [hI1]; exact wf_gU rfl hw
  have hw1_yo : wf (I1 yo) := by rw [hI1]; exact wf_other (by omega) hwo
  have hq1_yo : I1 yo = I yo := by rw [hI1]; exact gU_ne _ _ _ _ _ (by omega)
  obtain ⟨I2, hI2⟩ : ∃ z, z = gU I1 y 4 i 1 (I1 yo 4 io 1) := ⟨_, rfl⟩
  have hw2_y : wf (I2 y) := by rw [hI2]; exact wf_gU rfl hw1_y
  have hw2_yo : wf (I2 yo) := by rw [hI2]; exact wf_other (by omega) hw1_yo
  have hq2_yo : I2 yo = I yo := by rw [hI2]; exact (gU_ne _ _ _ _ _ (by omega)).trans hq1_yo
  obtain ⟨I3, hI3⟩ : ∃ z, z = gU I2 y 4 i 2 (I2 yo 4 io 2) := ⟨_, rfl⟩
  have hw3_y : wf (I3 y) := by rw [hI3]; exact wf_gU rfl hw2_y
  have hw3_yo : wf (I3 yo) := by rw [hI3]; exact wf_other (by omega) hw2_yo
  have hq3_yo : I3 yo = I yo := by rw [hI3]; exact (gU_ne _ _ _ _ _ (by omega)).trans hq2_yo
  obtain ⟨I4, hI4⟩ : ∃ z, z = gU I3 y 4 i 3 (I3 yo 4 io 3) := ⟨_, rfl⟩
  have hw4_y : wf (I4 y) := by rw [hI4]; exact wf_gU rfl hw3_y
  have hw4_yo : wf (I4 yo) := by rw [hI4]; exact wf_other (by omega) hw3_yo
  have hq4_yo : I4 yo = I yo := by rw [hI4]; exact (gU_ne _ _ _ _ _ (by omega)).trans hq3_yo
  obtain ⟨I5, hI5⟩ : ∃ z, z = gU I4 y 4 i 4 (I4 yo 4 io 4) := ⟨_, rfl⟩
  have hw5_y : wf (I5 y) := by rw [hI5]; exact wf_gU rfl hw4_y
  have hw5_yo : wf (I5 yo) := by rw [hI5]; exact wf_other (by omega) hw4_yo
  have hq5_yo : I5 yo = I yo := by rw [hI5]; exact (gU_ne _ _ _ _ _ (by omega)).trans hq4_yo
  obtain ⟨I6, hI6⟩ : ∃ z, z = gU I5 y 4 i 5 (I5 yo 4 io 5) := ⟨_, rfl⟩
  have hw6_y : wf (I6 y) := by rw [hI6]; exact wf_gU rfl hw5_y
  have hw6_yo : wf (I6 yo) := by rw [hI6]; exact wf_other (by omega) hw5_yo
  have hq6_yo : I6 yo = I yo := by rw [hI6]; exact (gU_ne _ _ _ _ _ (by omega)).trans hq5_yo
  obtain ⟨I7, hI7⟩ : ∃ z, z = gU I6 y 4 i 6 (I6 yo 4 io 6) := ⟨_, rfl⟩
  have hw7_y : wf (I7 y) := by rw [hI7]; exact wf_gU rfl hw6_y
  have hw7_yo : wf (I7 yo) := by rw [hI7]; exact wf_other (by omega) hw6_yo
  have hq7_yo : I7 yo = I yo := by rw [hI7]; exact (gU_ne _ _ _ _ _ (by omega)).trans hq6_yo
  have eS : f_X2_copyFrom I y i yo io = I7 := by simp only [f_X2_copyFrom, ← hI1, ← hI2, ← hI3, ← hI4, ← hI5, ← hI6, ← hI7]
  rw [eS]
  exact hw7_y
set_option maxRecDepth 100000 in
theorem ne_X2_copyFrom (I : gI) (y i : Nat) (yo io : Nat) (hy : y < 2) (hi : i < 10) (hw : wf (I y)) (hyo : yo < 2) (hio : io < 10) (hwo : wf (I yo)) (hne : yo ≠ y) {y' : Nat} (hne : y' ≠ y) : f_X2_copyFrom I y i yo io y' = I y' := by
  have hn : I y' = I y' := rfl
  obtain ⟨I1, hI1⟩ : ∃ z, z = gU I y 4 i 0 (I yo 4 io 0) := ⟨_, rfl⟩
  have hw1_y : wf (I1 y) := by rw [hI1]; exact wf_gU rfl hw
  have hw1_yo : wf (I1 yo) := by rw [hI1]; exact wf_other (by omega) hwo
  have hq1_yo : I1 yo = I yo := by rw [hI1]; exact gU_ne _ _ _ _ _ (by omega)
  have hn1 : I1 y' = I y' := by rw [hI1]; exact (gU_ne _ _ _ _ _ hne).trans hn
  obtain ⟨I2, hI2⟩ : ∃ z, z = gU I1 y 4 i 1 (I1 yo 4 io 1) := ⟨_, rfl⟩
  have hw2_y : wf (I2 y) := by rw [hI2]; exact wf_gU rfl hw1_y
  have hw2_yo : wf (I2 yo) := by rw [hI2]; exact wf_other (by omega) hw1_yo
  have hq2_yo : I2 yo = I yo := by rw [hI2]; exact (gU_ne _ _ _ _ _ (by omega)).trans hq1_yo
  have hn2 : I2 y' = I y' := by rw [hI2]; exact (gU_ne _ _ _ _ _ hne).trans hn1
  obtain ⟨I3, hI3⟩ : ∃ z, z = gU I2 y 4 i 2 (I2 yo 4 io 2) := ⟨_, rfl⟩
  have hw3_y : wf (I3 y) := by rw [hI3]; exact wf_gU rfl hw2_y
  have hw3_yo : wf (I3 yo) := by rw [hI3]; exact wf_other (by omega) hw2_yo
  have hq3_yo : I3 yo = I yo := by rw [hI3]; exact (gU_ne _ _ _ _ _ (by omega)).trans hq2_yo
  have hn3 : I3 y' = I y' := by rw [hI3]; exact (gU_ne _ _ _ _ _ hne).trans hn2
  obtain ⟨I4, hI4⟩ : ∃ z, z = gU I3 y 4 i 3 (I3 yo 4 io 3) := ⟨_, rfl⟩
  have hw4_y : wf (I4 y) := by rw [hI4]; exact wf_gU rfl hw3_y
  have hw4_yo : wf (I4 yo) := by rw [hI4]; exact wf_other (by omega) hw3_yo
  have hq4_yo : I4 yo = I yo := by rw [hI4]; exact (gU_ne _ _ _ _ _ (by omega)).trans hq3_yo
  have hn4 : I4 y' = I y' := by rw [hI4]; exact (gU_ne _ _ _ _ _ hne).trans hn3
  obtain ⟨I5, hI5⟩ : ∃ z, z = gU I4 y 4 i 4 (I4 yo 4 io 4) := ⟨_, rfl⟩
  have hw5_y : wf (I5 y) := by rw [hI5]; exact wf_gU rfl hw4_y
  have hw5_yo : wf (I5 yo) := by rw [hI5]; exact wf_other (by omega) hw4_yo
  have hq5_yo : I5 yo = I yo := by rw [hI5]; exact (gU_ne _ _ _ _ _ (by omega)).trans hq4_yo
  have hn5 : I5 y' = I y' := by rw [hI5]; exact (gU_ne _ _ _ _ _ hne).trans hn4
  obtain ⟨I6, hI6⟩ : ∃ z, z = gU I5 y 4 i 5 (I5 yo 4 io 5) := ⟨_, rfl⟩
  have hw6_y : wf (I6 y) := by rw [hI6]; exact wf_gU rfl hw5_y
  have hw6_yo : wf (I6 yo) := by rw [hI6]; exact wf_other (by omega) hw5_yo
  have hq6_yo : I6 yo = I yo := by rw [hI6]; exact (gU_ne _ _ _ _ _ (by omega)).trans hq5_yo
  have hn6 : I6 y' = I y' := by rw [hI6]; exact (gU_ne _ _ _ _ _ hne).trans hn5
  obtain ⟨I7, hI7⟩ : ∃ z, z = gU I6 y 4 i 6 (I6 yo 4 io 6) := ⟨_, rfl⟩
  have hw7_y : wf (I7 y) := by rw [hI7]; exact wf_gU rfl hw6_y
  have hw7_yo : wf (I7 yo) := by rw [hI7]; exact wf_other (by omega) hw6_yo
  have hq7_yo : I7 yo = I yo := by rw [hI7]; exact (gU_ne _ _ _ _ _ (by omega)).trans hq6_yo
  have hn7 : I7 y' = I y' := by rw [hI7]; exact (gU_ne _ _ _ _ _ hne).trans hn6
  have eS : f_X2_copyFrom I y i yo io = I7 := by simp only [f_X2_copyFrom, ← hI1, ← hI2, ← hI3, ← hI4, ← hI5, ← hI6, ← hI7]
  exact (congrFun eS y').trans hn7
set_option maxRecDepth 100000 in
theorem kn_X2_copyFrom (I : gI) (y i : Nat) (yo io : Nat) (hy : y < 2) (hi : i < 10) (hw : wf (I y)) (hyo : yo < 2) (hio : io < 10) (hwo : wf (I yo)) (hne : yo ≠ y) : f_X2_copyFrom I y i yo io y 0 0 4 = I y 0 0 4 := by
  have hn : I y 0 0 4 = I y 0 0 4 := rfl
  obtain ⟨I1, hI1⟩ : ∃ z, z = gU I y 4 i 0 (I yo 4 io 0) := ⟨_, rfl⟩
  have hw1_y : wf (I1 y) := by rw [hI1]; exact wf_gU rfl hw
  have hw1_yo : wf (I1 yo) := by rw [hI1]; exact wf_other (by omega) hwo
  have hq1_yo : I1 yo = I yo := by rw [hI1]; exact gU_ne _ _ _ _ _ (by omega)
  have hn1 : I1 y 0 0 4 = I y 0 0 4 := by rw [hI1]; exact (kn_gU rfl).trans hn
  obtain ⟨I2, hI2⟩ : ∃ z, z = gU I1 y 4 i 1 (I1 yo 4 io 1) := ⟨_, rfl⟩
  have hw2_y : wf (I2 y) := by rw [hI2]; exact wf_gU rfl hw1_y
  have hw2_yo : wf (I2 yo) := by rw [hI2]; exact wf_other (by omega) hw1_yo
  have hq2_yo : I2 yo = I yo := by rw [hI2]; exact (gU_ne _ _ _ _ _ (by omega)).trans hq1_yo
  have hn2 : I2 y 0 0 4 = I y 0 0 4 := by rw [hI2]; exact (kn_gU rfl).trans hn1
  obtain ⟨I3, hI3⟩ : ∃ z, z = gU I2 y 4 i 2 (I2 yo 4 io 2) := ⟨_, rfl⟩
  have hw3_y : wf (I3 y) := by rw [hI3]; exact wf_gU rfl hw2_y
  have hw3_yo : wf (I3 yo) := by rw [hI3]; exact wf_other (by omega) hw2_yo
  have hq3_yo : I3 yo = I yo := by rw [hI3]; exact (gU_ne _ _ _ _ _ (by omega)).trans hq2_yo
  have hn3 : I3 y 0 0 4 = I y 0 0 4 := by rw [hI3]; exact (kn_gU rfl).trans hn2
  obtain ⟨I4, hI4⟩ : ∃ z, z = gU I3 y 4 i 3 (I3 yo 4 io 3) := ⟨_, rfl⟩
  have hw4_y : wf (I4 y) := by rw [hI4]; exact wf_gU rfl hw3_y
  have hw4_yo : wf (I4 yo) := by rw [hI4]; exact wf_other (by omega) hw3_yo
  have hq4_yo : I4 yo = I yo := by rw [hI4]; exact (gU_ne _ _ _ _ _ (by omega)).trans hq3_yo
  have hn4 : I4 y 0 0 4 = I y 0 0 4 := by rw [hI4]; exact (kn_gU rfl).trans hn3
  obtain ⟨I5, hI5⟩ : ∃ z, z = gU I4 y 4 i 4 (I4 yo 4 io 4) := ⟨_, rfl⟩
  have hw5_y : wf (I5 y) := by rw [hI5]; exact wf_gU rfl hw4_y
  have hw5_yo : wf (I5 yo) := by rw [hI5]; exact wf_other (by omega) hw4_yo
  have hq5_yo : I5 yo = I yo := by rw [hI5]; exact (gU_ne _ _ _ _ _ (by omega)).trans hq4_yo
  have hn5 : I5 y 0 0 4 = I y 0 0 4 := by rw [hI5]; exact (kn_gU rfl).trans hn4
  obtain ⟨I6, hI6⟩ : ∃ z, z = gU I5 y 4 i 5 (I5 yo 4 io 5) := ⟨_, rfl⟩
  have hw6_y : wf (I6 y) := by rw [hI6]; exact wf_gU rfl hw5_y
  have hw6_yo : wf (I6 yo) := by rw [hI6]; exact wf_other (by omega) hw5_yo
  have hq6_yo : I6 yo = I yo := by rw [hI6]; exact (gU_ne _ _ _ _ _ (by omega)).trans hq5_yo
  have hn6 : I6 y 0 0 4 = I y 0 0 4 := by rw [hI6]; exact (kn_gU rfl).trans hn5
  obtain ⟨I7, hI7⟩ : ∃ z, z = gU I6 y 4 i 6 (I6 yo 4 io 6) := ⟨_, rfl⟩
  have hw7_y : wf (I7 y) := by rw [hI7]; exact wf_gU rfl hw6_y
  have hw7_yo : wf (I7 yo) := by rw [hI7]; exact wf_other (by omega) hw6_yo
  have hq7_yo : I7 yo = I yo := by rw [hI7]; exact (gU_ne _ _ _ _ _ (by omega)).trans hq6_yo
  have hn7 : I7 y 0 0 4 = I y 0 0 4 := by rw [hI7]; exact (kn_gU rfl).trans hn6
  have eS : f_X2_copyFrom I y i yo io = I7 := by simp only [f_X2_copyFrom, ← hI1, ← hI2, ← hI3, ← hI4, ← hI5, ← hI6, ← hI7]
  exact (congrFun (congrFun (congrFun (congrFun eS y) 0) 0) 4).trans hn7
set_option maxHeartbeats 4000000 in
set_option maxRecDepth 100000 in
theorem m_X2_copyFrom (l : Launch) (E : gE) (J : Int64) (I : gI) (y i : Nat) (yo io : Nat) (hy : y < 2) (hi : i < 10) (hw : wf (I y)) (hyo : yo < 2) (hio : io < 10) (hwo : wf (I yo)) (hne : yo ≠ y) : gMv l E J yX2_copyFrom cX2_copyFrom 2 none 0 0 [.ref (gA E y 4 i), .ref (gA E yo 4 io)] I (f_X2_copyFrom I y i yo io) := by
  refine g_entry (lv := [(0, .ref (gA E y 4 i)), (1, .ref (gA E yo 4 io))]) (by decide) (Nat.le_of_ble_eq_true rfl) rfl ?_
  intro p e s m below meth c0 ls K hG hS hml hr hlocks hl
  have K : kx E p m c0 cX2_copyFrom "HayThieves$Load" _ s := K
  have hx := K.1
  have hb := K.2.1
  have hts := K.2.2.1
  have hown := K.2.2.2.1
  have hSt := K.2.2.2.2
  refine lv_aload_n hx hb dX2_copyFrom_0 rfl (lv_at hl 0 rfl) ?_
  refine lv_aload_n hx hb dX2_copyFrom_1 rfl (lv_at hl 1 rfl) ?_
  refine gf_X2_9 K hG (gv4 hyo hio) dX2_copyFrom_2 ?_
  refine pf_X2_9 K hG hS (gv4 hy hi) dX2_copyFrom_5 (fun I1 hI1 H locs hG hS => ?_)
  have hw1_y : wf (I1 y) := by rw [hI1]; exact wf_gU rfl hw
  have hw1_yo : wf (I1 yo) := by rw [hI1]; exact wf_other (by omega) hwo
  have hq1_yo : I1 yo = I yo := by rw [hI1]; exact gU_ne _ _ _ _ _ (by omega)
  refine lv_aload_n hx hb dX2_copyFrom_8 rfl (lv_at hl 0 rfl) ?_
  refine lv_aload_n hx hb dX2_copyFrom_9 rfl (lv_at hl 1 rfl) ?_
  refine gf_X2_15 K hG (gv4 hyo hio) dX2_copyFrom_10 ?_
  refine pf_X2_15 K hG hS (gv4 hy hi) dX2_copyFrom_13 (fun I2 hI2 H locs hG hS => ?_)
  have hw2_y : wf (I2 y) := by rw [hI2]; exact wf_gU rfl hw1_y
  have hw2_yo : wf (I2 yo) := by rw [hI2]; exact wf_other (by omega) hw1_yo
  have hq2_yo : I2 yo = I yo := by rw [hI2]; exact (gU_ne _ _ _ _ _ (by omega)).trans hq1_yo
  refine lv_aload_n hx hb dX2_copyFrom_16 rfl (lv_at hl 0 rfl) ?_
  refine lv_aload_n hx hb dX2_copyFrom_17 rfl (lv_at hl 1 rfl) ?_
  refine gf_X2_18 K hG (gv4 hyo hio) dX2_copyFrom_18 ?_
  refine pf_X2_18 K hG hS (gv4 hy hi) dX2_copyFrom_21 (fun I3 hI3 H locs hG hS => ?_)
  have hw3_y : wf (I3 y) := by rw [hI3]; exact wf_gU rfl hw2_y
  have hw3_yo : wf (I3 yo) := by rw [hI3]; exact wf_other (by omega) hw2_yo
  have hq3_yo : I3 yo = I yo := by rw [hI3]; exact (gU_ne _ _ _ _ _ (by omega)).trans hq2_yo
  refine lv_aload_n hx hb dX2_copyFrom_24 rfl (lv_at hl 0 rfl) ?_
  refine lv_aload_n hx hb dX2_copyFrom_25 rfl (lv_at hl 1 rfl) ?_
  refine gf_X2_21 K hG (gv4 hyo hio) dX2_copyFrom_26 ?_
  refine pf_X2_21 K hG hS (gv4 hy hi) dX2_copyFrom_29 (fun I4 hI4 H locs hG hS => ?_)
  have hw4_y : wf (I4 y) := by rw [hI4]; exact wf_gU rfl hw3_y
  have hw4_yo : wf (I4 yo) := by rw [hI4]; exact wf_other (by omega) hw3_yo
  have hq4_yo : I4 yo = I yo := by rw [hI4]; exact (gU_ne _ _ _ _ _ (by omega)).trans hq3_yo
  refine lv_aload_n hx hb dX2_copyFrom_32 rfl (lv_at hl 0 rfl) ?_
  refine lv_aload_n hx hb dX2_copyFrom_33 rfl (lv_at hl 1 rfl) ?_
  refine gf_X2_24 K hG (gv4 hyo hio) dX2_copyFrom_34 ?_
  refine pf_X2_24 K hG hS (gv4 hy hi) dX2_copyFrom_37 (fun I5 hI5 H locs hG hS => ?_)
  have hw5_y : wf (I5 y) := by rw [hI5]; exact wf_gU rfl hw4_y
  have hw5_yo : wf (I5 yo) := by rw [hI5]; exact wf_other (by omega) hw4_yo
  have hq5_yo : I5 yo = I yo := by rw [hI5]; exact (gU_ne _ _ _ _ _ (by omega)).trans hq4_yo
  refine lv_aload_n hx hb dX2_copyFrom_40 rfl (lv_at hl 0 rfl) ?_
  refine lv_aload_n hx hb dX2_copyFrom_41 rfl (lv_at hl 1 rfl) ?_
  refine gf_X2_27 K hG (gv4 hyo hio) dX2_copyFrom_42 ?_
  refine pf_X2_27 K hG hS (gv4 hy hi) dX2_copyFrom_45 (fun I6 hI6 H locs hG hS => ?_)
  have hw6_y : wf (I6 y) := by rw [hI6]; exact wf_gU rfl hw5_y
  have hw6_yo : wf (I6 yo) := by rw [hI6]; exact wf_other (by omega) hw5_yo
  have hq6_yo : I6 yo = I yo := by rw [hI6]; exact (gU_ne _ _ _ _ _ (by omega)).trans hq5_yo
  refine lv_aload_n hx hb dX2_copyFrom_48 rfl (lv_at hl 0 rfl) ?_
  refine lv_aload_n hx hb dX2_copyFrom_49 rfl (lv_at hl 1 rfl) ?_
  refine gf_X2_30 K hG (gv4 hyo hio) dX2_copyFrom_50 ?_
  refine pf_X2_30 K hG hS (gv4 hy hi) dX2_copyFrom_53 (fun I7 hI7 H locs hG hS => ?_)
  have hw7_y : wf (I7 y) := by rw [hI7]; exact wf_gU rfl hw6_y
  have hw7_yo : wf (I7 yo) := by rw [hI7]; exact wf_other (by omega) hw6_yo
  have hq7_yo : I7 yo = I yo := by rw [hI7]; exact (gU_ne _ _ _ _ _ (by omega)).trans hq6_yo
  have eS : I7 = (f_X2_copyFrom I y i yo io) := (by simp only [f_X2_copyFrom, ← hI1, ← hI2, ← hI3, ← hI4, ← hI5, ← hI6, ← hI7])
  rw [eS] at hG
  exact g_vret K hG hS hr hlocks dX2_copyFrom_56
