/-! PRINTED by wip/gen (cls.py): X3c -/
def f_X3_takeTurn (I : gI) (y : Nat) (k : Nat) : gI :=
  if (I y 1 k 6) = (-1) then
    if (I y 1 k 4) = (-1) then
      let I5 := f_X3_takeFromOwnCart I y k
      if (I5 y 1 k 6) = (-1) then
        if (I5 y 1 k 4) = (-1) then
          let I6 := f_X3_takeFromYard_s I5 y k
          if (f_X3_takeFromYard_v I5 y k) = 0 then
            let I8 := f_X3_steal_s I6 y k
            if (f_X3_steal_v I6 y k) = 0 then
              let I9 := f_X1_beIdle I8 y k
              I9
            else
              let I10 := gU I8 y 1 k 8 0
              I10
          else
            let I7 := gU I6 y 1 k 8 0
            I7
        else
          let I11 := f_X3_workOnHeap I5 y k
          let I12 := gU I11 y 1 k 8 0
          I12
      else
        let I13 := f_X3_joinHalves I5 y k
        let I14 := gU I13 y 1 k 8 0
        I14
    else
      let I3 := f_X3_workOnHeap I y k
      let I4 := gU I3 y 1 k 8 0
      I4
  else
    let I1 := f_X3_joinHalves I y k
    let I2 := gU I1 y 1 k 8 0
    I2
set_option maxRecDepth 100000 in
theorem wf_X3_takeTurn (I : gI) (y : Nat) (k : Nat) (hy : y < 2) (hw : wf (I y)) (hk : k < 6) : wf (f_X3_takeTurn I y k y) := by
  by_cases c1 : (I y 1 k 6) = (-1)
  · by_cases c4 : (I y 1 k 4) = (-1)
    · obtain ⟨I5, hI5⟩ : ∃ z, z = f_X3_takeFromOwnCart I y k := ⟨_, rfl⟩
      have hw5_y : wf (I5 y) := by rw [hI5]; exact wf_X3_takeFromOwnCart I y k hy hw hk
      by_cases c8 : (I5 y 1 k 6) = (-1)
      · by_cases c9 : (I5 y 1 k 4) = (-1)
        · obtain ⟨I6, hI6⟩ : ∃ z, z = f_X3_takeFromYard_s I5 y k := ⟨_, rfl⟩
          have hw6_y : wf (I6 y) := by rw [hI6]; exact wf_X3_takeFromYard I5 y k hy hw5_y hk
          by_cases c10 : (f_X3_takeFromYard_v I5 y k) = 0
          · obtain ⟨I8, hI8⟩ : ∃ z, z = f_X3_steal_s I6 y k := ⟨_, rfl⟩
            have hw8_y : wf (I8 y) := by rw [hI8]; exact wf_X3_steal I6 y k hy hw6_y hk
            by_cases c12 : (f_X3_steal_v I6 y k) = 0
            · obtain ⟨I9, hI9⟩ : ∃ z, z = f_X1_beIdle I8 y k := ⟨_, rfl⟩
              have hw9_y : wf (I9 y) := by rw [hI9]; exact wf_X1_beIdle I8 y k hy hk hw8_y
              have eS : f_X3_takeTurn I y k = I9 := by simp only [f_X3_takeTurn, ← hI5, ← hI6, ← hI8, ← hI9, if_pos c1, if_pos c4, if_pos c8, if_pos c9, if_pos c10, if_pos c12]
              rw [eS]
              exact hw9_y
            · obtain ⟨I10, hI10⟩ : ∃ z, z = gU I8 y 1 k 8 0 := ⟨_, rfl⟩
              have hw10_y : wf (I10 y) := by rw [hI10]; exact wf_gU rfl hw8_y
              have eS : f_X3_takeTurn I y k = I10 := by simp only [f_X3_takeTurn, ← hI5, ← hI6, ← hI8, ← hI10, if_pos c1, if_pos c4, if_pos c8, if_pos c9, if_pos c10, if_neg c12]
              rw [eS]
              exact hw10_y
          · obtain ⟨I7, hI7⟩ : ∃ z, z = gU I6 y 1 k 8 0 := ⟨_, rfl⟩
            have hw7_y : wf (I7 y) := by rw [hI7]; exact wf_gU rfl hw6_y
            have eS : f_X3_takeTurn I y k = I7 := by simp only [f_X3_takeTurn, ← hI5, ← hI6, ← hI7, if_pos c1, if_pos c4, if_pos c8, if_pos c9, if_neg c10]
            rw [eS]
            exact hw7_y
        · obtain ⟨I11, hI11⟩ : ∃ z, z = f_X3_workOnHeap I5 y k := ⟨_, rfl⟩
          have hw11_y : wf (I11 y) := by rw [hI11]; exact wf_X3_workOnHeap I5 y k hy hw5_y hk
          obtain ⟨I12, hI12⟩ : ∃ z, z = gU I11 y 1 k 8 0 := ⟨_, rfl⟩
          have hw12_y : wf (I12 y) := by rw [hI12]; exact wf_gU rfl hw11_y
          have eS : f_X3_takeTurn I y k = I12 := by simp only [f_X3_takeTurn, ← hI5, ← hI11, ← hI12, if_pos c1, if_pos c4, if_pos c8, if_neg c9]
          rw [eS]
          exact hw12_y
      · obtain ⟨I13, hI13⟩ : ∃ z, z = f_X3_joinHalves I5 y k := ⟨_, rfl⟩
        have hw13_y : wf (I13 y) := by rw [hI13]; exact wf_X3_joinHalves I5 y k hy hw5_y hk
        obtain ⟨I14, hI14⟩ : ∃ z, z = gU I13 y 1 k 8 0 := ⟨_, rfl⟩
        have hw14_y : wf (I14 y) := by rw [hI14]; exact wf_gU rfl hw13_y
        have eS : f_X3_takeTurn I y k = I14 := by simp only [f_X3_takeTurn, ← hI5, ← hI13, ← hI14, if_pos c1, if_pos c4, if_neg c8]
        rw [eS]
        exact hw14_y
    · obtain ⟨I3, hI3⟩ : ∃ z, z = f_X3_workOnHeap I y k := ⟨_, rfl⟩
      have hw3_y : wf (I3 y) := by rw [hI3]; exact wf_X3_workOnHeap I y k hy hw hk
      obtain ⟨I4, hI4⟩ : ∃ z, z = gU I3 y 1 k 8 0 := ⟨_, rfl⟩
      have hw4_y : wf (I4 y) := by rw [hI4]; exact wf_gU rfl hw3_y
      have eS : f_X3_takeTurn I y k = I4 := by simp only [f_X3_takeTurn, ← hI3, ← hI4, if_pos c1, if_neg c4]
      rw [eS]
      exact hw4_y
  · obtain ⟨I1, hI1⟩ : ∃ z, z = f_X3_joinHalves I y k := ⟨_, rfl⟩
    have hw1_y : wf (I1 y) := by rw [hI1]; exact wf_X3_joinHalves I y k hy hw hk
    obtain ⟨I2, hI2⟩ : ∃ z, z = gU I1 y 1 k 8 0 := ⟨_, rfl⟩
    have hw2_y : wf (I2 y) := by rw [hI2]; exact wf_gU rfl hw1_y
    have eS : f_X3_takeTurn I y k = I2 := by simp only [f_X3_takeTurn, ← hI1, ← hI2, if_neg c1]
    rw [eS]
    exact hw2_y
set_option maxRecDepth 100000 in
theorem ne_X3_takeTurn (I : gI) (y : Nat) (k : Nat) (hy : y < 2) (hw : wf (I y)) (hk : k < 6) {y' : Nat} (hne : y' ≠ y) : f_X3_takeTurn I y k y' = I y' := by
  have hn : I y' = I y' := rfl
  by_cases c1 : (I y 1 k 6) = (-1)
  · by_cases c4 : (I y 1 k 4) = (-1)
    · obtain ⟨I5, hI5⟩ : ∃ z, z = f_X3_takeFromOwnCart I y k := ⟨_, rfl⟩
      have hw5_y : wf (I5 y) := by rw [hI5]; exact wf_X3_takeFromOwnCart I y k hy hw hk
      have hn5 : I5 y' = I y' := by rw [hI5]; exact (ne_X3_takeFromOwnCart I y k hy hw hk (y' := y') hne).trans hn
      by_cases c8 : (I5 y 1 k 6) = (-1)
      · by_cases c9 : (I5 y 1 k 4) = (-1)
        · obtain ⟨I6, hI6⟩ : ∃ z, z = f_X3_takeFromYard_s I5 y k := ⟨_, rfl⟩
          have hw6_y : wf (I6 y) := by rw [hI6]; exact wf_X3_takeFromYard I5 y k hy hw5_y hk
          have hn6 : I6 y' = I y' := by rw [hI6]; exact (ne_X3_takeFromYard I5 y k hy hw5_y hk (y' := y') hne).trans hn5
          by_cases c10 : (f_X3_takeFromYard_v I5 y k) = 0
          · obtain ⟨I8, hI8⟩ : ∃ z, z = f_X3_steal_s I6 y k := ⟨_, rfl⟩
            have hw8_y : wf (I8 y) := by rw [hI8]; exact wf_X3_steal I6 y k hy hw6_y hk
            have hn8 : I8 y' = I y' := by rw [hI8]; exact (ne_X3_steal I6 y k hy hw6_y hk (y' := y') hne).trans hn6
            by_cases c12 : (f_X3_steal_v I6 y k) = 0
            · obtain ⟨I9, hI9⟩ : ∃ z, z = f_X1_beIdle I8 y k := ⟨_, rfl⟩
              have hw9_y : wf (I9 y) := by rw [hI9]; exact wf_X1_beIdle I8 y k hy hk hw8_y
              have hn9 : I9 y' = I y' := by rw [hI9]; exact (ne_X1_beIdle I8 y k hy hk hw8_y (y' := y') hne).trans hn8
              have eS : f_X3_takeTurn I y k = I9 := by simp only [f_X3_takeTurn, ← hI5, ← hI6, ← hI8, ← hI9, if_pos c1, if_pos c4, if_pos c8, if_pos c9, if_pos c10, if_pos c12]
              exact (congrFun eS y').trans hn9
            · obtain ⟨I10, hI10⟩ : ∃ z, z = gU I8 y 1 k 8 0 := ⟨_, rfl⟩
              have hw10_y : wf (I10 y) := by rw [hI10]; exact wf_gU rfl hw8_y
              have hn10 : I10 y' = I y' := by rw [hI10]; exact (gU_ne _ _ _ _ _ hne).trans hn8
              have eS : f_X3_takeTurn I y k = I10 := by simp only [f_X3_takeTurn, ← hI5, ← hI6, ← hI8, ← hI10, if_pos c1, if_pos c4, if_pos c8, if_pos c9, if_pos c10, if_neg c12]
              exact (congrFun eS y').trans hn10
          · obtain ⟨I7, hI7⟩ : ∃ z, z = gU I6 y 1 k 8 0 := ⟨_, rfl⟩
            have hw7_y : wf (I7 y) := by rw [hI7]; exact wf_gU rfl hw6_y
            have hn7 : I7 y' = I y' := by rw [hI7]; exact (gU_ne _ _ _ _ _ hne).trans hn6
            have eS : f_X3_takeTurn I y k = I7 := by simp only [f_X3_takeTurn, ← hI5, ← hI6, ← hI7, if_pos c1, if_pos c4, if_pos c8, if_pos c9, if_neg c10]
            exact (congrFun eS y').trans hn7
        · obtain ⟨I11, hI11⟩ : ∃ z, z = f_X3_workOnHeap I5 y k := ⟨_, rfl⟩
          have hw11_y : wf (I11 y) := by rw [hI11]; exact wf_X3_workOnHeap I5 y k hy hw5_y hk
          have hn11 : I11 y' = I y' := by rw [hI11]; exact (ne_X3_workOnHeap I5 y k hy hw5_y hk (y' := y') hne).trans hn5
          obtain ⟨I12, hI12⟩ : ∃ z, z = gU I11 y 1 k 8 0 := ⟨_, rfl⟩
          have hw12_y : wf (I12 y) := by rw [hI12]; exact wf_gU rfl hw11_y
          have hn12 : I12 y' = I y' := by rw [hI12]; exact (gU_ne _ _ _ _ _ hne).trans hn11
          have eS : f_X3_takeTurn I y k = I12 := by simp only [f_X3_takeTurn, ← hI5, ← hI11, ← hI12, if_pos c1, if_pos c4, if_pos c8, if_neg c9]
          exact (congrFun eS y').trans hn12
      · obtain ⟨I13, hI13⟩ : ∃ z, z = f_X3_joinHalves I5 y k := ⟨_, rfl⟩
        have hw13_y : wf (I13 y) := by rw [hI13]; exact wf_X3_joinHalves I5 y k hy hw5_y hk
        have hn13 : I13 y' = I y' := by rw [hI13]; exact (ne_X3_joinHalves I5 y k hy hw5_y hk (y' := y') hne).trans hn5
        obtain ⟨I14, hI14⟩ : ∃ z, z = gU I13 y 1 k 8 0 := ⟨_, rfl⟩
        have hw14_y : wf (I14 y) := by rw [hI14]; exact wf_gU rfl hw13_y
        have hn14 : I14 y' = I y' := by rw [hI14]; exact (gU_ne _ _ _ _ _ hne).trans hn13
        have eS : f_X3_takeTurn I y k = I14 := by simp only [f_X3_takeTurn, ← hI5, ← hI13, ← hI14, if_pos c1, if_pos c4, if_neg c8]
        exact (congrFun eS y').trans hn14
    · obtain ⟨I3, hI3⟩ : ∃ z, z = f_X3_workOnHeap I y k := ⟨_, rfl⟩
      have hw3_y : wf (I3 y) := by rw [hI3]; exact wf_X3_workOnHeap I y k hy hw hk
      have hn3 : I3 y' = I y' := by rw [hI3]; exact (ne_X3_workOnHeap I y k hy hw hk (y' := y') hne).trans hn
      obtain ⟨I4, hI4⟩ : ∃ z, z = gU I3 y 1 k 8 0 := ⟨_, rfl⟩
      have hw4_y : wf (I4 y) := by rw [hI4]; exact wf_gU rfl hw3_y
      have hn4 : I4 y' = I y' := by rw [hI4]; exact (gU_ne _ _ _ _ _ hne).trans hn3
      have eS : f_X3_takeTurn I y k = I4 := by simp only [f_X3_takeTurn, ← hI3, ← hI4, if_pos c1, if_neg c4]
      exact (congrFun eS y').trans hn4
  · obtain ⟨I1, hI1⟩ : ∃ z, z = f_X3_joinHalves I y k := ⟨_, rfl⟩
    have hw1_y : wf (I1 y) := by rw [hI1]; exact wf_X3_joinHalves I y k hy hw hk
    have hn1 : I1 y' = I y' := by rw [hI1]; exact (ne_X3_joinHalves I y k hy hw hk (y' := y') hne).trans hn
    obtain ⟨I2, hI2⟩ : ∃ z, z = gU I1 y 1 k 8 0 := ⟨_, rfl⟩
    have hw2_y : wf (I2 y) := by rw [hI2]; exact wf_gU rfl hw1_y
    have hn2 : I2 y' = I y' := by rw [hI2]; exact (gU_ne _ _ _ _ _ hne).trans hn1
    have eS : f_X3_takeTurn I y k = I2 := by simp only [f_X3_takeTurn, ← hI1, ← hI2, if_neg c1]
    exact (congrFun eS y').trans hn2
set_option maxRecDepth 100000 in
theorem kn_X3_takeTurn (I : gI) (y : Nat) (k : Nat) (hy : y < 2) (hw : wf (I y)) (hk : k < 6) : f_X3_takeTurn I y k y 0 0 4 = I y 0 0 4 := by
  have hn : I y 0 0 4 = I y 0 0 4 := rfl
  by_cases c1 : (I y 1 k 6) = (-1)
  · by_cases c4 : (I y 1 k 4) = (-1)
    · obtain ⟨I5, hI5⟩ : ∃ z, z = f_X3_takeFromOwnCart I y k := ⟨_, rfl⟩
      have hw5_y : wf (I5 y) := by rw [hI5]; exact wf_X3_takeFromOwnCart I y k hy hw hk
      have hn5 : I5 y 0 0 4 = I y 0 0 4 := by rw [hI5]; exact (kn_X3_takeFromOwnCart I y k hy hw hk).trans hn
      by_cases c8 : (I5 y 1 k 6) = (-1)
      · by_cases c9 : (I5 y 1 k 4) = (-1)
        · obtain ⟨I6, hI6⟩ : ∃ z, z = f_X3_takeFromYard_s I5 y k := ⟨_, rfl⟩
          have hw6_y : wf (I6 y) := by rw [hI6]; exact wf_X3_takeFromYard I5 y k hy hw5_y hk
          have hn6 : I6 y 0 0 4 = I y 0 0 4 := by rw [hI6]; exact (kn_X3_takeFromYard I5 y k hy hw5_y hk).trans hn5
          by_cases c10 : (f_X3_takeFromYard_v I5 y k) = 0
          · obtain ⟨I8, hI8⟩ : ∃ z, z = f_X3_steal_s I6 y k := ⟨_, rfl⟩
            have hw8_y : wf (I8 y) := by rw [hI8]; exact wf_X3_steal I6 y k hy hw6_y hk
            have hn8 : I8 y 0 0 4 = I y 0 0 4 := by rw [hI8]; exact (kn_X3_steal I6 y k hy hw6_y hk).trans hn6
            by_cases c12 : (f_X3_steal_v I6 y k) = 0
            · obtain ⟨I9, hI9⟩ : ∃ z, z = f_X1_beIdle I8 y k := ⟨_, rfl⟩
              have hw9_y : wf (I9 y) := by rw [hI9]; exact wf_X1_beIdle I8 y k hy hk hw8_y
              have hn9 : I9 y 0 0 4 = I y 0 0 4 := by rw [hI9]; exact (kn_X1_beIdle I8 y k hy hk hw8_y).trans hn8
              have eS : f_X3_takeTurn I y k = I9 := by simp only [f_X3_takeTurn, ← hI5, ← hI6, ← hI8, ← hI9, if_pos c1, if_pos c4, if_pos c8, if_pos c9, if_pos c10, if_pos c12]
              exact (congrFun (congrFun (congrFun (congrFun eS y) 0) 0) 4).trans hn9
            · obtain ⟨I10, hI10⟩ : ∃ z, z = gU I8 y 1 k 8 0 := ⟨_, rfl⟩
              have hw10_y : wf (I10 y) := by rw [hI10]; exact wf_gU rfl hw8_y
              have hn10 : I10 y 0 0 4 = I y 0 0 4 := by rw [hI10]; exact (kn_gU rfl).trans hn8
              have eS : f_X3_takeTurn I y k = I10 := by simp only [f_X3_takeTurn, ← hI5, ← hI6, ← hI8, ← hI10, if_pos c1, if_pos c4, if_pos c8, if_pos c9, if_pos c10, if_neg c12]
              exact (congrFun (congrFun (congrFun (congrFun eS y) 0) 0) 4).trans hn10
          · obtain ⟨I7, hI7⟩ : ∃ z, z = gU I6 y 1 k 8 0 := ⟨_, rfl⟩
            have hw7_y : wf (I7 y) := by rw [hI7]; exact wf_gU rfl hw6_y
            have hn7 : I7 y 0 0 4 = I y 0 0 4 := by rw [hI7]; exact (kn_gU rfl).trans hn6
            have eS : f_X3_takeTurn I y k = I7 := by simp only [f_X3_takeTurn, ← hI5, ← hI6, ← hI7, if_pos c1, if_pos c4, if_pos c8, if_pos c9, if_neg c10]
            exact (congrFun (congrFun (congrFun (congrFun eS y) 0) 0) 4).trans hn7
        · obtain ⟨I11, hI11⟩ : ∃ z, z = f_X3_workOnHeap I5 y k := ⟨_, rfl⟩
          have hw11_y : wf (I11 y) := by rw [hI11]; exact wf_X3_workOnHeap I5 y k hy hw5_y hk
          have hn11 : I11 y 0 0 4 = I y 0 0 4 := by rw [hI11]; exact (kn_X3_workOnHeap I5 y k hy hw5_y hk).trans hn5
          obtain ⟨I12, hI12⟩ : ∃ z, z = gU I11 y 1 k 8 0 := ⟨_, rfl⟩
          have hw12_y : wf (I12 y) := by rw [hI12]; exact wf_gU rfl hw11_y
          have hn12 : I12 y 0 0 4 = I y 0 0 4 := by rw [hI12]; exact (kn_gU rfl).trans hn11
          have eS : f_X3_takeTurn I y k = I12 := by simp only [f_X3_takeTurn, ← hI5, ← hI11, ← hI12, if_pos c1, if_pos c4, if_pos c8, if_neg c9]
          exact (congrFun (congrFun (congrFun (congrFun eS y) 0) 0) 4).trans hn12
      · obtain ⟨I13, hI13⟩ : ∃ z, z = f_X3_joinHalves I5 y k := ⟨_, rfl⟩
        have hw13_y : wf (I13 y) := by rw [hI13]; exact wf_X3_joinHalves I5 y k hy hw5_y hk
        have hn13 : I13 y 0 0 4 = I y 0 0 4 := by rw [hI13]; exact (kn_X3_joinHalves I5 y k hy hw5_y hk).trans hn5
        obtain ⟨I14, hI14⟩ : ∃ z, z = gU I13 y 1 k 8 0 := ⟨_, rfl⟩
        have hw14_y : wf (I14 y) := by rw [hI14]; exact wf_gU rfl hw13_y
        have hn14 : I14 y 0 0 4 = I y 0 0 4 := by rw [hI14]; exact (kn_gU rfl).trans hn13
        have eS : f_X3_takeTurn I y k = I14 := by simp only [f_X3_takeTurn, ← hI5, ← hI13, ← hI14, if_pos c1, if_pos c4, if_neg c8]
        exact (congrFun (congrFun (congrFun (congrFun eS y) 0) 0) 4).trans hn14
    · obtain ⟨I3, hI3⟩ : ∃ z, z = f_X3_workOnHeap I y k := ⟨_, rfl⟩
      have hw3_y : wf (I3 y) := by rw [hI3]; exact wf_X3_workOnHeap I y k hy hw hk
      have hn3 : I3 y 0 0 4 = I y 0 0 4 := by rw [hI3]; exact (kn_X3_workOnHeap I y k hy hw hk).trans hn
      obtain ⟨I4, hI4⟩ : ∃ z, z = gU I3 y 1 k 8 0 := ⟨_, rfl⟩
      have hw4_y : wf (I4 y) := by rw [hI4]; exact wf_gU rfl hw3_y
      have hn4 : I4 y 0 0 4 = I y 0 0 4 := by rw [hI4]; exact (kn_gU rfl).trans hn3
      have eS : f_X3_takeTurn I y k = I4 := by simp only [f_X3_takeTurn, ← hI3, ← hI4, if_pos c1, if_neg c4]
      exact (congrFun (congrFun (congrFun (congrFun eS y) 0) 0) 4).trans hn4
  · obtain ⟨I1, hI1⟩ : ∃ z, z = f_X3_joinHalves I y k := ⟨_, rfl⟩
    have hw1_y : wf (I1 y) := by rw [hI1]; exact wf_X3_joinHalves I y k hy hw hk
    have hn1 : I1 y 0 0 4 = I y 0 0 4 := by rw [hI1]; exact (kn_X3_joinHalves I y k hy hw hk).trans hn
    obtain ⟨I2, hI2⟩ : ∃ z, z = gU I1 y 1 k 8 0 := ⟨_, rfl⟩
    have hw2_y : wf (I2 y) := by rw [hI2]; exact wf_gU rfl hw1_y
    have hn2 : I2 y 0 0 4 = I y 0 0 4 := by rw [hI2]; exact (kn_gU rfl).trans hn1
    have eS : f_X3_takeTurn I y k = I2 := by simp only [f_X3_takeTurn, ← hI1, ← hI2, if_neg c1]
    exact (congrFun (congrFun (congrFun (congrFun eS y) 0) 0) 4).trans hn2
set_option maxHeartbeats 4000000 in
set_option maxRecDepth 100000 in
theorem m_X3_takeTurn (l : Launch) (E : gE) (J : Int64) (I : gI) (y : Nat) (k : Nat) (hy : y < 2) (hw : wf (I y)) (hk : k < 6) : gMv l E J yX3_takeTurn cX3_takeTurn 3 none 4 91 [.ref (gA E y 0 0), .ref (gA E y 1 k)] I (f_X3_takeTurn I y k) := by
  refine g_entry (lv := [(0, .ref (gA E y 0 0)), (1, .ref (gA E y 1 k))]) (by decide) (Nat.le_of_ble_eq_true rfl) rfl ?_
  intro p e s m below meth c0 ls K hG hS hml hr hlocks hl
  have K : kx E p m c0 cX3_takeTurn "HayThieves$Yard" _ s := K
  have hx := K.1
  have hb := K.2.1
  have hts := K.2.2.1
  have hown := K.2.2.2.1
  have hSt := K.2.2.2.2
  have hN := hw.N
  have hM := hw.M
  refine lv_aload_n hx hb dX3_takeTurn_0 rfl (lv_at hl 1 rfl) ?_
  refine gf_X3_134 K hG (gv1 hy hk) dX3_takeTurn_1 ?_
  refine lv_iconst (v := (-1)) hx hb dX3_takeTurn_4 (by decide) ?_
  refine lv_icmp_ne (tgt := 21) hx hb dX3_takeTurn_5 (by decide) (fun c1 => ?_) (fun c1 => ?_)
  · refine lv_iconst (v := 1) hx hb dX3_takeTurn_21 (by decide) ?_
    refine lv_istore_n (lv' := [(2, .int 1), (0, .ref (gA E y 0 0)), (1, .ref (gA E y 1 k))]) hx hb dX3_takeTurn_22 rfl hl (by decide) rfl (fun ls hl => ?_)
    refine lv_aload_n hx hb dX3_takeTurn_23 rfl (lv_at hl 2 rfl) ?_
    refine gf_X3_134 K hG (gv1 hy hk) dX3_takeTurn_24 ?_
    refine lv_iconst (v := (-1)) hx hb dX3_takeTurn_27 (by decide) ?_
    refine lv_icmp_eq (tgt := 39) hx hb dX3_takeTurn_28 (by decide) (fun c2 => ?_) (fun c2 => ?_)
    · exact absurd c2 c1
    · refine lv_aload_n hx hb dX3_takeTurn_31 rfl (lv_at hl 1 rfl) ?_
      refine lv_aload_n hx hb dX3_takeTurn_32 rfl (lv_at hl 2 rfl) ?_
      refine g_kv (g_runV (As := [.ref (gA E y 1 k)]) (rest := []) K hml ca_X3_joinHalves q395 (m_X3_joinHalves l E J I y k hy hw hk) hG hS (gv0 hy) rfl rfl rfl rfl hl.1 (Nat.le_of_ble_eq_true rfl) ⟨by decide, by decide⟩ dX3_takeTurn_33 ⟨Nat.zero_le _, Nat.zero_le _⟩) hS (fun H locs hG hS => ?_)
      obtain ⟨I1, hI1⟩ : ∃ z, z = f_X3_joinHalves I y k := ⟨_, rfl⟩
      rw [← hI1] at hG
      have hw1_y : wf (I1 y) := by rw [hI1]; exact wf_X3_joinHalves I y k hy hw hk
      refine lv_goto (tgt := 77) hx hb dX3_takeTurn_36 (by decide) ?_
      refine lv_iload_n hx hb dX3_takeTurn_77 rfl (lv_at hl 0 rfl) ?_
      refine lv_if_eq (tgt := 89) hx hb dX3_takeTurn_78 (by decide) (fun c3 => ?_) (fun c3 => ?_)
      · exact absurd c3 (by decide)
      · refine lv_aload_n hx hb dX3_takeTurn_81 rfl (lv_at hl 2 rfl) ?_
        refine lv_iconst (v := 0) hx hb dX3_takeTurn_82 (by decide) ?_
        refine pf_X3_156 K hG hS (gv1 hy hk) dX3_takeTurn_83 (fun I2 hI2 H locs hG hS => ?_)
        have hw2_y : wf (I2 y) := by rw [hI2]; exact wf_gU rfl hw1_y
        refine lv_goto (tgt := 93) hx hb dX3_takeTurn_86 (by decide) ?_
        have eS : I2 = (f_X3_takeTurn I y k) := (by simp only [f_X3_takeTurn, ← hI1, ← hI2, if_neg c1, if_neg c2, if_neg c3])
        rw [eS] at hG
        exact g_vret K hG hS hr hlocks dX3_takeTurn_93
  · refine lv_aload_n hx hb dX3_takeTurn_8 rfl (lv_at hl 1 rfl) ?_
    refine gf_X3_137 K hG (gv1 hy hk) dX3_takeTurn_9 ?_
    refine lv_iconst (v := (-1)) hx hb dX3_takeTurn_12 (by decide) ?_
    refine lv_icmp_ne (tgt := 21) hx hb dX3_takeTurn_13 (by decide) (fun c4 => ?_) (fun c4 => ?_)
    · refine lv_iconst (v := 1) hx hb dX3_takeTurn_21 (by decide) ?_
      refine lv_istore_n (lv' := [(2, .int 1), (0, .ref (gA E y 0 0)), (1, .ref (gA E y 1 k))]) hx hb dX3_takeTurn_22 rfl hl (by decide) rfl (fun ls hl => ?_)
      refine lv_aload_n hx hb dX3_takeTurn_23 rfl (lv_at hl 2 rfl) ?_
      refine gf_X3_134 K hG (gv1 hy hk) dX3_takeTurn_24 ?_
      refine lv_iconst (v := (-1)) hx hb dX3_takeTurn_27 (by decide) ?_
      refine lv_icmp_eq (tgt := 39) hx hb dX3_takeTurn_28 (by decide) (fun c5 => ?_) (fun c5 => ?_)
      · refine lv_aload_n hx hb dX3_takeTurn_39 rfl (lv_at hl 2 rfl) ?_
        refine gf_X3_137 K hG (gv1 hy hk) dX3_takeTurn_40 ?_
        refine lv_iconst (v := (-1)) hx hb dX3_takeTurn_43 (by decide) ?_
        refine lv_icmp_eq (tgt := 55) hx hb dX3_takeTurn_44 (by decide) (fun c6 => ?_) (fun c6 => ?_)
        · exact absurd c6 c4
        · refine lv_aload_n hx hb dX3_takeTurn_47 rfl (lv_at hl 1 rfl) ?_
          refine lv_aload_n hx hb dX3_takeTurn_48 rfl (lv_at hl 2 rfl) ?_
          refine g_kv (g_runV (As := [.ref (gA E y 1 k)]) (rest := []) K hml ca_X3_workOnHeap q411 (m_X3_workOnHeap l E J I y k hy hw hk) hG hS (gv0 hy) rfl rfl rfl rfl hl.1 (Nat.le_of_ble_eq_true rfl) ⟨by decide, by decide⟩ dX3_takeTurn_49 ⟨Nat.zero_le _, Nat.zero_le _⟩) hS (fun H locs hG hS => ?_)
          obtain ⟨I3, hI3⟩ : ∃ z, z = f_X3_workOnHeap I y k := ⟨_, rfl⟩
          rw [← hI3] at hG
          have hw3_y : wf (I3 y) := by rw [hI3]; exact wf_X3_workOnHeap I y k hy hw hk
          refine lv_goto (tgt := 77) hx hb dX3_takeTurn_52 (by decide) ?_
          refine lv_iload_n hx hb dX3_takeTurn_77 rfl (lv_at hl 0 rfl) ?_
          refine lv_if_eq (tgt := 89) hx hb dX3_takeTurn_78 (by decide) (fun c7 => ?_) (fun c7 => ?_)
          · exact absurd c7 (by decide)
          · refine lv_aload_n hx hb dX3_takeTurn_81 rfl (lv_at hl 2 rfl) ?_
            refine lv_iconst (v := 0) hx hb dX3_takeTurn_82 (by decide) ?_
            refine pf_X3_156 K hG hS (gv1 hy hk) dX3_takeTurn_83 (fun I4 hI4 H locs hG hS => ?_)
            have hw4_y : wf (I4 y) := by rw [hI4]; exact wf_gU rfl hw3_y
            refine lv_goto (tgt := 93) hx hb dX3_takeTurn_86 (by decide) ?_
            have eS : I4 = (f_X3_takeTurn I y k) := (by simp only [f_X3_takeTurn, ← hI3, ← hI4, if_pos c1, if_neg c4, if_pos c5, if_neg c6, if_neg c7])
            rw [eS] at hG
            exact g_vret K hG hS hr hlocks dX3_takeTurn_93
      · exact absurd c1 c5
    · refine lv_aload_n hx hb dX3_takeTurn_16 rfl (lv_at hl 0 rfl) ?_
      refine lv_aload_n hx hb dX3_takeTurn_17 rfl (lv_at hl 1 rfl) ?_
      refine g_kv (g_runV (As := [.ref (gA E y 1 k)]) (rest := []) K hml ca_X3_takeFromOwnCart q379 (m_X3_takeFromOwnCart l E J I y k hy hw hk) hG hS (gv0 hy) rfl rfl rfl rfl hl.1 (Nat.le_of_ble_eq_true rfl) ⟨by decide, by decide⟩ dX3_takeTurn_18 ⟨Nat.zero_le _, Nat.zero_le _⟩) hS (fun H locs hG hS => ?_)
      obtain ⟨I5, hI5⟩ : ∃ z, z = f_X3_takeFromOwnCart I y k := ⟨_, rfl⟩
      rw [← hI5] at hG
      have hw5_y : wf (I5 y) := by rw [hI5]; exact wf_X3_takeFromOwnCart I y k hy hw hk
      refine lv_iconst (v := 1) hx hb dX3_takeTurn_21 (by decide) ?_
      refine lv_istore_n (lv' := [(2, .int 1), (0, .ref (gA E y 0 0)), (1, .ref (gA E y 1 k))]) hx hb dX3_takeTurn_22 rfl hl (by decide) rfl (fun ls hl => ?_)
      refine lv_aload_n hx hb dX3_takeTurn_23 rfl (lv_at hl 2 rfl) ?_
      refine gf_X3_134 K hG (gv1 hy hk) dX3_takeTurn_24 ?_
      refine lv_iconst (v := (-1)) hx hb dX3_takeTurn_27 (by decide) ?_
      refine lv_icmp_eq (tgt := 39) hx hb dX3_takeTurn_28 (by decide) (fun c8 => ?_) (fun c8 => ?_)
      · refine lv_aload_n hx hb dX3_takeTurn_39 rfl (lv_at hl 2 rfl) ?_
        refine gf_X3_137 K hG (gv1 hy hk) dX3_takeTurn_40 ?_
        refine lv_iconst (v := (-1)) hx hb dX3_takeTurn_43 (by decide) ?_
        refine lv_icmp_eq (tgt := 55) hx hb dX3_takeTurn_44 (by decide) (fun c9 => ?_) (fun c9 => ?_)
        · refine lv_aload_n hx hb dX3_takeTurn_55 rfl (lv_at hl 1 rfl) ?_
          refine lv_aload_n hx hb dX3_takeTurn_56 rfl (lv_at hl 2 rfl) ?_
          refine g_ki (g_runV (As := [.ref (gA E y 1 k)]) (rest := []) K hml ca_X3_takeFromYard q440 (m_X3_takeFromYard l E J I5 y k hy hw5_y hk) hG hS (gv0 hy) rfl rfl rfl rfl hl.1 (Nat.le_of_ble_eq_true rfl) ⟨by decide, by decide⟩ dX3_takeTurn_57 ⟨Nat.zero_le _, Nat.zero_le _⟩) hS (fun H locs hG hS => ?_)
          obtain ⟨I6, hI6⟩ : ∃ z, z = f_X3_takeFromYard_s I5 y k := ⟨_, rfl⟩
          rw [← hI6] at hG
          have hw6_y : wf (I6 y) := by rw [hI6]; exact wf_X3_takeFromYard I5 y k hy hw5_y hk
          refine lv_if_ne (tgt := 71) hx hb dX3_takeTurn_60 (by decide) (fun c10 => ?_) (fun c10 => ?_)
          · refine lv_iconst (v := 1) hx hb dX3_takeTurn_71 (by decide) ?_
            refine lv_goto (tgt := 76) hx hb dX3_takeTurn_72 (by decide) ?_
            refine lv_istore_n (lv' := [(2, .int 1), (0, .ref (gA E y 0 0)), (1, .ref (gA E y 1 k))]) hx hb dX3_takeTurn_76 rfl hl (by decide) rfl (fun ls hl => ?_)
            refine lv_iload_n hx hb dX3_takeTurn_77 rfl (lv_at hl 0 rfl) ?_
            refine lv_if_eq (tgt := 89) hx hb dX3_takeTurn_78 (by decide) (fun c11 => ?_) (fun c11 => ?_)
            · exact absurd c11 (by decide)
            · refine lv_aload_n hx hb dX3_takeTurn_81 rfl (lv_at hl 2 rfl) ?_
              refine lv_iconst (v := 0) hx hb dX3_takeTurn_82 (by decide) ?_
              refine pf_X3_156 K hG hS (gv1 hy hk) dX3_takeTurn_83 (fun I7 hI7 H locs hG hS => ?_)
              have hw7_y : wf (I7 y) := by rw [hI7]; exact wf_gU rfl hw6_y
              refine lv_goto (tgt := 93) hx hb dX3_takeTurn_86 (by decide) ?_
              have eS : I7 = (f_X3_takeTurn I y k) := (by simp only [f_X3_takeTurn, ← hI5, ← hI6, ← hI7, if_pos c1, if_pos c4, if_pos c8, if_pos c9, if_neg c10, if_neg c11])
              rw [eS] at hG
              exact g_vret K hG hS hr hlocks dX3_takeTurn_93
          · refine lv_aload_n hx hb dX3_takeTurn_63 rfl (lv_at hl 1 rfl) ?_
            refine lv_aload_n hx hb dX3_takeTurn_64 rfl (lv_at hl 2 rfl) ?_
            refine g_ki (g_runV (As := [.ref (gA E y 1 k)]) (rest := []) K hml ca_X3_steal q444 (m_X3_steal l E J I6 y k hy hw6_y hk) hG hS (gv0 hy) rfl rfl rfl rfl hl.1 (Nat.le_of_ble_eq_true rfl) ⟨by decide, by decide⟩ dX3_takeTurn_65 ⟨Nat.zero_le _, Nat.zero_le _⟩) hS (fun H locs hG hS => ?_)
            obtain ⟨I8, hI8⟩ : ∃ z, z = f_X3_steal_s I6 y k := ⟨_, rfl⟩
            rw [← hI8] at hG
            have hw8_y : wf (I8 y) := by rw [hI8]; exact wf_X3_steal I6 y k hy hw6_y hk
            refine lv_if_eq (tgt := 75) hx hb dX3_takeTurn_68 (by decide) (fun c12 => ?_) (fun c12 => ?_)
            · refine lv_iconst (v := 0) hx hb dX3_takeTurn_75 (by decide) ?_
              refine lv_istore_n (lv' := [(2, .int 0), (0, .ref (gA E y 0 0)), (1, .ref (gA E y 1 k))]) hx hb dX3_takeTurn_76 rfl hl (by decide) rfl (fun ls hl => ?_)
              refine lv_iload_n hx hb dX3_takeTurn_77 rfl (lv_at hl 0 rfl) ?_
              refine lv_if_eq (tgt := 89) hx hb dX3_takeTurn_78 (by decide) (fun c13 => ?_) (fun c13 => ?_)
              · refine lv_aload_n hx hb dX3_takeTurn_89 rfl (lv_at hl 2 rfl) ?_
                refine g_kv (g_runV (As := []) (rest := []) K hml ca_X1_beIdle q457 (m_X1_beIdle l E J I8 y k hy hk hw8_y) hG hS (gv1 hy hk) rfl rfl rfl rfl hl.1 (Nat.le_of_ble_eq_true rfl) ⟨by decide, by decide⟩ dX3_takeTurn_90 ⟨Nat.zero_le _, Nat.zero_le _⟩) hS (fun H locs hG hS => ?_)
                obtain ⟨I9, hI9⟩ : ∃ z, z = f_X1_beIdle I8 y k := ⟨_, rfl⟩
                rw [← hI9] at hG
                have hw9_y : wf (I9 y) := by rw [hI9]; exact wf_X1_beIdle I8 y k hy hk hw8_y
                have eS : I9 = (f_X3_takeTurn I y k) := (by simp only [f_X3_takeTurn, ← hI5, ← hI6, ← hI8, ← hI9, if_pos c1, if_pos c4, if_pos c8, if_pos c9, if_pos c10, if_pos c12, if_pos c13])
                rw [eS] at hG
                exact g_vret K hG hS hr hlocks dX3_takeTurn_93
              · exact absurd (by decide) c13
            · refine lv_iconst (v := 1) hx hb dX3_takeTurn_71 (by decide) ?_
              refine lv_goto (tgt := 76) hx hb dX3_takeTurn_72 (by decide) ?_
              refine lv_istore_n (lv' := [(2, .int 1), (0, .ref (gA E y 0 0)), (1, .ref (gA E y 1 k))]) hx hb dX3_takeTurn_76 rfl hl (by decide) rfl (fun ls hl => ?_)
              refine lv_iload_n hx hb dX3_takeTurn_77 rfl (lv_at hl 0 rfl) ?_
              refine lv_if_eq (tgt := 89) hx hb dX3_takeTurn_78 (by decide) (fun c14 => ?_) (fun c14 => ?_)
              · exact absurd c14 (by decide)
              · refine lv_aload_n hx hb dX3_takeTurn_81 rfl (lv_at hl 2 rfl) ?_
                refine lv_iconst (v := 0) hx hb dX3_takeTurn_82 (by decide) ?_
                refine pf_X3_156 K hG hS (gv1 hy hk) dX3_takeTurn_83 (fun I10 hI10 H locs hG hS => ?_)
                have hw10_y : wf (I10 y) := by rw [hI10]; exact wf_gU rfl hw8_y
                refine lv_goto (tgt := 93) hx hb dX3_takeTurn_86 (by decide) ?_
                have eS : I10 = (f_X3_takeTurn I y k) := (by simp only [f_X3_takeTurn, ← hI5, ← hI6, ← hI8, ← hI10, if_pos c1, if_pos c4, if_pos c8, if_pos c9, if_pos c10, if_neg c12, if_neg c14])
                rw [eS] at hG
                exact g_vret K hG hS hr hlocks dX3_takeTurn_93
        · refine lv_aload_n hx hb dX3_takeTurn_47 rfl (lv_at hl 1 rfl) ?_
          refine lv_aload_n hx hb dX3_takeTurn_48 rfl (lv_at hl 2 rfl) ?_
          refine g_kv (g_runV (As := [.ref (gA E y 1 k)]) (rest := []) K hml ca_X3_workOnHeap q411 (m_X3_workOnHeap l E J I5 y k hy hw5_y hk) hG hS (gv0 hy) rfl rfl rfl rfl hl.1 (Nat.le_of_ble_eq_true rfl) ⟨by decide, by decide⟩ dX3_takeTurn_49 ⟨Nat.zero_le _, Nat.zero_le _⟩) hS (fun H locs hG hS => ?_)
          obtain ⟨I11, hI11⟩ : ∃ z, z = f_X3_workOnHeap I5 y k := ⟨_, rfl⟩
          rw [← hI11] at hG
          have hw11_y : wf (I11 y) := by rw [hI11]; exact wf_X3_workOnHeap I5 y k hy hw5_y hk
          refine lv_goto (tgt := 77) hx hb dX3_takeTurn_52 (by decide) ?_
          refine lv_iload_n hx hb dX3_takeTurn_77 rfl (lv_at hl 0 rfl) ?_
          refine lv_if_eq (tgt := 89) hx hb dX3_takeTurn_78 (by decide) (fun c15 => ?_) (fun c15 => ?_)
          · exact absurd c15 (by decide)
          · refine lv_aload_n hx hb dX3_takeTurn_81 rfl (lv_at hl 2 rfl) ?_
            refine lv_iconst (v := 0) hx hb dX3_takeTurn_82 (by decide) ?_
            refine pf_X3_156 K hG hS (gv1 hy hk) dX3_takeTurn_83 (fun I12 hI12 H locs hG hS => ?_)
            have hw12_y : wf (I12 y) := by rw [hI12]; exact wf_gU rfl hw11_y
            refine lv_goto (tgt := 93) hx hb dX3_takeTurn_86 (by decide) ?_
            have eS : I12 = (f_X3_takeTurn I y k) := (by simp only [f_X3_takeTurn, ← hI5, ← hI11, ← hI12, if_pos c1, if_pos c4, if_pos c8, if_neg c9, if_neg c15])
            rw [eS] at hG
            exact g_vret K hG hS hr hlocks dX3_takeTurn_93
      · refine lv_aload_n hx hb dX3_takeTurn_31 rfl (lv_at hl 1 rfl) ?_
        refine lv_aload_n hx hb dX3_takeTurn_32 rfl (lv_at hl 2 rfl) ?_
        refine g_kv (g_runV (As := [.ref (gA E y 1 k)]) (rest := []) K hml ca_X3_joinHalves q395 (m_X3_joinHalves l E J I5 y k hy hw5_y hk) hG hS (gv0 hy) rfl rfl rfl rfl hl.1 (Nat.le_of_ble_eq_true rfl) ⟨by decide, by decide⟩ dX3_takeTurn_33 ⟨Nat.zero_le _, Nat.zero_le _⟩) hS (fun H locs hG hS => ?_)
        obtain ⟨I13, hI13⟩ : ∃ z, z = f_X3_joinHalves I5 y k := ⟨_, rfl⟩
        rw [← hI13] at hG
        have hw13_y : wf (I13 y) := by rw [hI13]; exact wf_X3_joinHalves I5 y k hy hw5_y hk
        refine lv_goto (tgt := 77) hx hb dX3_takeTurn_36 (by decide) ?_
        refine lv_iload_n hx hb dX3_takeTurn_77 rfl (lv_at hl 0 rfl) ?_
        refine lv_if_eq (tgt := 89) hx hb dX3_takeTurn_78 (by decide) (fun c16 => ?_) (fun c16 => ?_)
        · exact absurd c16 (by decide)
        · refine lv_aload_n hx hb dX3_takeTurn_81 rfl (lv_at hl 2 rfl) ?_
          refine lv_iconst (v := 0) hx hb dX3_takeTurn_82 (by decide) ?_
          refine pf_X3_156 K hG hS (gv1 hy hk) dX3_takeTurn_83 (fun I14 hI14 H locs hG hS => ?_)
          have hw14_y : wf (I14 y) := by rw [hI14]; exact wf_gU rfl hw13_y
          refine lv_goto (tgt := 93) hx hb dX3_takeTurn_86 (by decide) ?_
          have eS : I14 = (f_X3_takeTurn I y k) := (by simp only [f_X3_takeTurn, ← hI5, ← hI13, ← hI14, if_pos c1, if_pos c4, if_neg c8, if_neg c16])
          rw [eS] at hG
          exact g_vret K hG hS hr hlocks dX3_takeTurn_93
def f_X3_runMinutes_l2 (y : Nat) (x : Int32) : Nat → Nat → gI → gI
  | 0, j, I2 =>
    I2
  | n + 1, j, I2 =>
    if (I2 y 1 j 7) = 0 then
      let I4 := f_X3_takeTurn I2 y j
      f_X3_runMinutes_l2 y x n (j + 1) I4
    else
      f_X3_runMinutes_l2 y x n (j + 1) I2
def f_X3_runMinutes_l1 (y : Nat) (x : Int32) : Nat → Nat → gI → gI
  | 0, i, I1 =>
    I1
  | n + 1, i, I1 =>
    let I3 := (f_X3_runMinutes_l2 y x (I1 y 0 0 4).toNatClampNeg 0 I1)
    let I5 := gU I3 y 0 0 6 ((I3 y 0 0 6) + 1)
    f_X3_runMinutes_l1 y x n (i + 1) I5
def f_X3_runMinutes (I : gI) (y : Nat) (x : Int32) : gI :=
  f_X3_runMinutes_l1 y x x.toNatClampNeg 0 I
set_option maxRecDepth 100000 in
theorem wf_f_X3_runMinutes_l2 (I : gI) (y : Nat) (x : Int32) (hy : y < 2) (hw : wf (I y)) (hm : isN x 400) : ∀ (n j : Nat) (I2 : gI), wf (I2 y) → j + n ≤ 6 → wf (f_X3_runMinutes_l2 y x n j I2 y) := by
  intro n
  induction n with
  | zero =>
    intro j I2 hwM hjb
    have eS : f_X3_runMinutes_l2 y x 0 j I2 = I2 := by simp only [f_X3_runMinutes_l2]
    rw [eS]
    exact hwM
  | succ n ih =>
    intro j I2 hwM hjb
    by_cases c5 : (I2 y 1 j 7) = 0
    · obtain ⟨I4, hI4⟩ : ∃ z, z = f_X3_takeTurn I2 y j := ⟨_, rfl⟩
      have hw4_y : wf (I4 y) := by rw [hI4]; exact wf_X3_takeTurn I2 y j hy hwM (by omega)
      have eS : f_X3_runMinutes_l2 y x (n + 1) j I2 = f_X3_runMinutes_l2 y x n (j + 1) I4 := by simp only [f_X3_runMinutes_l2, ← hI4, if_pos c5]
      rw [eS]
      exact ih (j + 1) I4 hw4_y (by omega)
    · have eS : f_X3_runMinutes_l2 y x (n + 1) j I2 = f_X3_runMinutes_l2 y x n (j + 1) I2 := by simp only [f_X3_runMinutes_l2, if_neg c5]
      rw [eS]
      exact ih (j + 1) I2 hwM (by omega)
set_option maxRecDepth 100000 in
theorem wf_f_X3_runMinutes_l1 (I : gI) (y : Nat) (x : Int32) (hy : y < 2) (hw : wf (I y)) (hm : isN x 400) : ∀ (n i : Nat) (I1 : gI), wf (I1 y) → wf (f_X3_runMinutes_l1 y x n i I1 y) := by
  intro n
  induction n with
  | zero =>
    intro i I1 hwL
    have eS : f_X3_runMinutes_l1 y x 0 i I1 = I1 := by simp only [f_X3_runMinutes_l1]
    rw [eS]
    exact hwL
  | succ n ih =>
    intro i I1 hwL
    obtain ⟨I3, hI3⟩ : ∃ z, z = (f_X3_runMinutes_l2 y x (I1 y 0 0 4).toNatClampNeg 0 I1) := ⟨_, rfl⟩
    have hw3_y : wf (I3 y) := by rw [hI3]; exact wf_f_X3_runMinutes_l2 I y x hy hw hm ((I1 y 0 0 4).toNatClampNeg) 0 I1 hwL (by have := hwL.N; omega)
    obtain ⟨I5, hI5⟩ : ∃ z, z = gU I3 y 0 0 6 ((I3 y 0 0 6) + 1) := ⟨_, rfl⟩
    have hw5_y : wf (I5 y) := by rw [hI5]; exact wf_gU rfl hw3_y
    have eS : f_X3_runMinutes_l1 y x (n + 1) i I1 = f_X3_runMinutes_l1 y x n (i + 1) I5 := by simp only [f_X3_runMinutes_l1, ← hI3, ← hI5]
    rw [eS]
    exact ih (i + 1) I5 hw5_y
set_option maxRecDepth 100000 in
theorem wf_X3_runMinutes (I : gI) (y : Nat) (x : Int32) (hy : y < 2) (hw : wf (I y)) (hm : isN x 400) : wf (f_X3_runMinutes I y x y) := by
  have eS : f_X3_runMinutes I y x = f_X3_runMinutes_l1 y x x.toNatClampNeg 0 I := by simp only [f_X3_runMinutes]
  rw [eS]
  exact wf_f_X3_runMinutes_l1 I y x hy hw hm x.toNatClampNeg 0 I hw
set_option maxRecDepth 100000 in
theorem ne_f_X3_runMinutes_l2 (I : gI) (y : Nat) (x : Int32) (hy : y < 2) (hw : wf (I y)) (hm : isN x 400) {y' : Nat} (hne : y' ≠ y) : ∀ (n j : Nat) (I2 : gI), wf (I2 y) → j + n ≤ 6 → f_X3_runMinutes_l2 y x n j I2 y' = I2 y' := by
  intro n
  induction n with
  | zero =>
    intro j I2 hwM hjb
    have hn2 : I2 y' = I2 y' := rfl
    have eS : f_X3_runMinutes_l2 y x 0 j I2 = I2 := by simp only [f_X3_runMinutes_l2]
    exact (congrFun eS y').trans hn2
  | succ n ih =>
    intro j I2 hwM hjb
    have hn2 : I2 y' = I2 y' := rfl
    by_cases c5 : (I2 y 1 j 7) = 0
    · obtain ⟨I4, hI4⟩ : ∃ z, z = f_X3_takeTurn I2 y j := ⟨_, rfl⟩
      have hw4_y : wf (I4 y) := by rw [hI4]; exact wf_X3_takeTurn I2 y j hy hwM (by omega)
      have hn4 : I4 y' = I2 y' := by rw [hI4]; exact (ne_X3_takeTurn I2 y j hy hwM (by omega) (y' := y') hne).trans hn2
      have eS : f_X3_runMinutes_l2 y x (n + 1) j I2 = f_X3_runMinutes_l2 y x n (j + 1) I4 := by simp only [f_X3_runMinutes_l2, ← hI4, if_pos c5]
      exact (congrFun eS y').trans ((ih (j + 1) I4 hw4_y (by omega)).trans hn4)
    · have eS : f_X3_runMinutes_l2 y x (n + 1) j I2 = f_X3_runMinutes_l2 y x n (j + 1) I2 := by simp only [f_X3_runMinutes_l2, if_neg c5]
      exact (congrFun eS y').trans ((ih (j + 1) I2 hwM (by omega)).trans hn2)
set_option maxRecDepth 100000 in
theorem ne_f_X3_runMinutes_l1 (I : gI) (y : Nat) (x : Int32) (hy : y < 2) (hw : wf (I y)) (hm : isN x 400) {y' : Nat} (hne : y' ≠ y) : ∀ (n i : Nat) (I1 : gI), wf (I1 y) → f_X3_runMinutes_l1 y x n i I1 y' = I1 y' := by
  intro n
  induction n with
  | zero =>
    intro i I1 hwL
    have hn1 : I1 y' = I1 y' := rfl
    have eS : f_X3_runMinutes_l1 y x 0 i I1 = I1 := by simp only [f_X3_runMinutes_l1]
    exact (congrFun eS y').trans hn1
  | succ n ih =>
    intro i I1 hwL
    have hn1 : I1 y' = I1 y' := rfl
    obtain ⟨I3, hI3⟩ : ∃ z, z = (f_X3_runMinutes_l2 y x (I1 y 0 0 4).toNatClampNeg 0 I1) := ⟨_, rfl⟩
    have hw3_y : wf (I3 y) := by rw [hI3]; exact wf_f_X3_runMinutes_l2 I y x hy hw hm ((I1 y 0 0 4).toNatClampNeg) 0 I1 hwL (by have := hwL.N; omega)
    have hn3 : I3 y' = I1 y' := by rw [hI3]; exact (ne_f_X3_runMinutes_l2 I y x hy hw hm hne ((I1 y 0 0 4).toNatClampNeg) 0 I1 hwL (by have := hwL.N; omega)).trans hn1
    obtain ⟨I5, hI5⟩ : ∃ z, z = gU I3 y 0 0 6 ((I3 y 0 0 6) + 1) := ⟨_, rfl⟩
    have hw5_y : wf (I5 y) := by rw [hI5]; exact wf_gU rfl hw3_y
    have hn5 : I5 y' = I1 y' := by rw [hI5]; exact (gU_ne _ _ _ _ _ hne).trans hn3
    have eS : f_X3_runMinutes_l1 y x (n + 1) i I1 = f_X3_runMinutes_l1 y x n (i + 1) I5 := by simp only [f_X3_runMinutes_l1, ← hI3, ← hI5]
    exact (congrFun eS y').trans ((ih (i + 1) I5 hw5_y).trans hn5)
set_option maxRecDepth 100000 in
theorem ne_X3_runMinutes (I : gI) (y : Nat) (x : Int32) (hy : y < 2) (hw : wf (I y)) (hm : isN x 400) {y' : Nat} (hne : y' ≠ y) : f_X3_runMinutes I y x y' = I y' := by
  have hn : I y' = I y' := rfl
  have eS : f_X3_runMinutes I y x = f_X3_runMinutes_l1 y x x.toNatClampNeg 0 I := by simp only [f_X3_runMinutes]
  exact (congrFun eS y').trans ((ne_f_X3_runMinutes_l1 I y x hy hw hm hne x.toNatClampNeg 0 I hw).trans hn)
set_option maxRecDepth 100000 in
theorem kn_f_X3_runMinutes_l2 (I : gI) (y : Nat) (x : Int32) (hy : y < 2) (hw : wf (I y)) (hm : isN x 400) : ∀ (n j : Nat) (I2 : gI), wf (I2 y) → j + n ≤ 6 → f_X3_runMinutes_l2 y x n j I2 y 0 0 4 = I2 y 0 0 4 := by
  intro n
  induction n with
  | zero =>
    intro j I2 hwM hjb
    have hn2 : I2 y 0 0 4 = I2 y 0 0 4 := rfl
    have eS : f_X3_runMinutes_l2 y x 0 j I2 = I2 := by simp only [f_X3_runMinutes_l2]
    exact (congrFun (congrFun (congrFun (congrFun eS y) 0) 0) 4).trans hn2
  | succ n ih =>
    intro j I2 hwM hjb
    have hn2 : I2 y 0 0 4 = I2 y 0 0 4 := rfl
    by_cases c5 : (I2 y 1 j 7) = 0
    · obtain ⟨I4, hI4⟩ : ∃ z, z = f_X3_takeTurn I2 y j := ⟨_, rfl⟩
      have hw4_y : wf (I4 y) := by rw [hI4]; exact wf_X3_takeTurn I2 y j hy hwM (by omega)
      have hn4 : I4 y 0 0 4 = I2 y 0 0 4 := by rw [hI4]; exact (kn_X3_takeTurn I2 y j hy hwM (by omega)).trans hn2
      have eS : f_X3_runMinutes_l2 y x (n + 1) j I2 = f_X3_runMinutes_l2 y x n (j + 1) I4 := by simp only [f_X3_runMinutes_l2, ← hI4, if_pos c5]
      exact (congrFun (congrFun (congrFun (congrFun eS y) 0) 0) 4).trans ((ih (j + 1) I4 hw4_y (by omega)).trans hn4)
    · have eS : f_X3_runMinutes_l2 y x (n + 1) j I2 = f_X3_runMinutes_l2 y x n (j + 1) I2 := by simp only [f_X3_runMinutes_l2, if_neg c5]
      exact (congrFun (congrFun (congrFun (congrFun eS y) 0) 0) 4).trans ((ih (j + 1) I2 hwM (by omega)).trans hn2)
set_option maxRecDepth 100000 in
theorem kn_f_X3_runMinutes_l1 (I : gI) (y : Nat) (x : Int32) (hy : y < 2) (hw : wf (I y)) (hm : isN x 400) : ∀ (n i : Nat) (I1 : gI), wf (I1 y) → f_X3_runMinutes_l1 y x n i I1 y 0 0 4 = I1 y 0 0 4 := by
  intro n
  induction n with
  | zero =>
    intro i I1 hwL
    have hn1 : I1 y 0 0 4 = I1 y 0 0 4 := rfl
    have eS : f_X3_runMinutes_l1 y x 0 i I1 = I1 := by simp only [f_X3_runMinutes_l1]
    exact (congrFun (congrFun (congrFun (congrFun eS y) 0) 0) 4).trans hn1
  | succ n ih =>
    intro i I1 hwL
    have hn1 : I1 y 0 0 4 = I1 y 0 0 4 := rfl
    obtain ⟨I3, hI3⟩ : ∃ z, z = (f_X3_runMinutes_l2 y x (I1 y 0 0 4).toNatClampNeg 0 I1) := ⟨_, rfl⟩
    have hw3_y : wf (I3 y) := by rw [hI3]; exact wf_f_X3_runMinutes_l2 I y x hy hw hm ((I1 y 0 0 4).toNatClampNeg) 0 I1 hwL (by have := hwL.N; omega)
    have hn3 : I3 y 0 0 4 = I1 y 0 0 4 := by rw [hI3]; exact (kn_f_X3_runMinutes_l2 I y x hy hw hm ((I1 y 0 0 4).toNatClampNeg) 0 I1 hwL (by have := hwL.N; omega)).trans hn1
    obtain ⟨I5, hI5⟩ : ∃ z, z = gU I3 y 0 0 6 ((I3 y 0 0 6) + 1) := ⟨_, rfl⟩
    have hw5_y : wf (I5 y) := by rw [hI5]; exact wf_gU rfl hw3_y
    have hn5 : I5 y 0 0 4 = I1 y 0 0 4 := by rw [hI5]; exact (kn_gU rfl).trans hn3
    have eS : f_X3_runMinutes_l1 y x (n + 1) i I1 = f_X3_runMinutes_l1 y x n (i + 1) I5 := by simp only [f_X3_runMinutes_l1, ← hI3, ← hI5]
    exact (congrFun (congrFun (congrFun (congrFun eS y) 0) 0) 4).trans ((ih (i + 1) I5 hw5_y).trans hn5)
set_option maxRecDepth 100000 in
theorem kn_X3_runMinutes (I : gI) (y : Nat) (x : Int32) (hy : y < 2) (hw : wf (I y)) (hm : isN x 400) : f_X3_runMinutes I y x y 0 0 4 = I y 0 0 4 := by
  have hn : I y 0 0 4 = I y 0 0 4 := rfl
  have eS : f_X3_runMinutes I y x = f_X3_runMinutes_l1 y x x.toNatClampNeg 0 I := by simp only [f_X3_runMinutes]
  exact (congrFun (congrFun (congrFun (congrFun eS y) 0) 0) 4).trans ((kn_f_X3_runMinutes_l1 I y x hy hw hm x.toNatClampNeg 0 I hw).trans hn)
set_option maxHeartbeats 4000000 in
set_option maxRecDepth 100000 in
theorem m_X3_runMinutes (l : Launch) (E : gE) (J : Int64) (I : gI) (y : Nat) (x : Int32) (hy : y < 2) (hw : wf (I y)) (hm : isN x 400) : gMv l E J yX3_runMinutes cX3_runMinutes 4 none 5 113 [.ref (gA E y 0 0), .int x] I (f_X3_runMinutes I y x) := by
  refine g_entry (lv := [(0, .ref (gA E y 0 0)), (1, .int x)]) (by decide) (Nat.le_of_ble_eq_true rfl) rfl ?_
  intro p e s m below meth c0 ls K hG hS hml hr hlocks hl
  have K : kx E p m c0 cX3_runMinutes "HayThieves$Yard" _ s := K
  have hx := K.1
  have hb := K.2.1
  have hts := K.2.2.1
  have hown := K.2.2.2.1
  have hSt := K.2.2.2.2
  have hN := hw.N
  have hM := hw.M
  have hm1 := hm.1
  refine lv_iconst (v := 0) hx hb dX3_runMinutes_0 (by decide) ?_
  refine lv_istore_n (lv' := [(2, .int 0), (0, .ref (gA E y 0 0)), (1, .int x)]) hx hb dX3_runMinutes_1 rfl hl (by decide) rfl (fun ls hl => ?_)
  have hL_l1 : ∀ (n i : Nat)  (I1 : gI) (H : Heap) (locs : List Loc) (ls : Array Slot), i + n = x.toNatClampNeg → f_X3_runMinutes_l1 y x n i I1 = (f_X3_runMinutes I y x) → wf (I1 y) → GW E J I1 H → va_S (gF E) s.heap H locs → lv_has ls 4 [(2, .int (nI i)), (0, .ref (gA E y 0 0)), (1, .int x)] → W p l e (grm 5 113) s m ([.ref (gA E y 0 0), .int x] : List Value).toArray below meth c0 H locs 0 0 (MQ below (va_Qv (fun (_ : Unit) => True) (fun _ t => GW E J (f_X3_runMinutes I y x) t.heap) (gF E)) ([.ref (gA E y 0 0), .int x] : List Value).toArray s 0 0 (gF E)) (F0 m 2 ls []) := by
    intro n
    induction n with
    | zero =>
      intro i I1 H locs ls hin hTs hwL hG hS hl
      have hN1 := hwL.N
      refine lv_iload_n hx hb dX3_runMinutes_2 rfl (lv_at hl 0 rfl) ?_
      refine lv_iload_n hx hb dX3_runMinutes_3 rfl (lv_at hl 2 rfl) ?_
      refine lv_icmp_ge (tgt := 61) hx hb dX3_runMinutes_4 (by decide) (fun c1 => ?_) (fun c1 => ?_)
      · have eS : I1 = (f_X3_runMinutes I y x) := (by rw [← hTs]; simp only [f_X3_runMinutes_l1, if_pos c1])
        rw [eS] at hG
        exact g_vret K hG hS hr hlocks dX3_runMinutes_61
      · exact absurd (lp_ge hm.2 (by omega) hin) c1
    | succ n ih =>
      intro i I1 H locs ls hin hTs hwL hG hS hl
      have hN1 := hwL.N
      refine lv_iload_n hx hb dX3_runMinutes_2 rfl (lv_at hl 0 rfl) ?_
      refine lv_iload_n hx hb dX3_runMinutes_3 rfl (lv_at hl 2 rfl) ?_
      refine lv_icmp_ge (tgt := 61) hx hb dX3_runMinutes_4 (by decide) (fun c2 => ?_) (fun c2 => ?_)
      · exact absurd c2 (lp_nge hm.2 (by omega) hin)
      · refine lv_iconst (v := 0) hx hb dX3_runMinutes_7 (by decide) ?_
        refine lv_istore_n (lv' := [(3, .int 0), (2, .int (nI i)), (0, .ref (gA E y 0 0)), (1, .int x)]) hx hb dX3_runMinutes_8 rfl hl (by decide) rfl (fun ls hl => ?_)
        obtain ⟨I3, hI3⟩ : ∃ z, z = (f_X3_runMinutes_l2 y x (I1 y 0 0 4).toNatClampNeg 0 I1) := ⟨_, rfl⟩
        have hL_l2 : (∀ (H : Heap) (locs : List Loc) (ls : Array Slot), GW E J I3 H → va_S (gF E) s.heap H locs → lv_has ls 4 [(2, .int (nI i)), (0, .ref (gA E y 0 0)), (1, .int x)] → W p l e (grm 5 113) s m ([.ref (gA E y 0 0), .int x] : List Value).toArray below meth c0 H locs 0 0 (MQ below (va_Qv (fun (_ : Unit) => True) (fun _ t => GW E J (f_X3_runMinutes I y x) t.heap) (gF E)) ([.ref (gA E y 0 0), .int x] : List Value).toArray s 0 0 (gF E)) (F0 m 45 ls [])) → ∀ (n j : Nat)  (I2 : gI) (H : Heap) (locs : List Loc) (ls : Array Slot), j + n = (I1 y 0 0 4).toNatClampNeg → j + n ≤ 6 → I2 y 0 0 4 = I1 y 0 0 4 → f_X3_runMinutes_l2 y x n j I2 = I3 → wf (I2 y) → GW E J I2 H → va_S (gF E) s.heap H locs → lv_has ls 4 [(3, .int (nI j)), (2, .int (nI i)), (0, .ref (gA E y 0 0)), (1, .int x)] → W p l e (grm 5 113) s m ([.ref (gA E y 0 0), .int x] : List Value).toArray below meth c0 H locs 0 0 (MQ below (va_Qv (fun (_ : Unit) => True) (fun _ t => GW E J (f_X3_runMinutes I y x) t.heap) (gF E)) ([.ref (gA E y 0 0), .int x] : List Value).toArray s 0 0 (gF E)) (F0 m 9 ls []) := by
          intro hkont n
          induction n with
          | zero =>
            intro j I2 H locs ls hin hjb hkM hTs hwM hG hS hl
            refine lv_iload_n hx hb dX3_runMinutes_9 rfl (lv_at hl 0 rfl) ?_
            refine lv_aload_n hx hb dX3_runMinutes_10 rfl (lv_at hl 2 rfl) ?_
            refine gf_X3_31 K hG (gv0 hy) dX3_runMinutes_11 ?_
            refine lv_icmp_ge (tgt := 45) hx hb dX3_runMinutes_14 (by decide) (fun c3 => ?_) (fun c3 => ?_)
            · have eS : I2 = I3 := by rw [← hTs]; simp only [f_X3_runMinutes_l2, if_pos c3]
              rw [eS] at hG
              exact hkont _ _ _ hG hS (lv_sub hl [1, 2, 3] rfl)
            · exact absurd (lp_ge (hkM.trans hwL.Ne) (by omega) hin) c3
          | succ n ih =>
            intro j I2 H locs ls hin hjb hkM hTs hwM hG hS hl
            refine lv_iload_n hx hb dX3_runMinutes_9 rfl (lv_at hl 0 rfl) ?_
            refine lv_aload_n hx hb dX3_runMinutes_10 rfl (lv_at hl 2 rfl) ?_
            refine gf_X3_31 K hG (gv0 hy) dX3_runMinutes_11 ?_
            refine lv_icmp_ge (tgt := 45) hx hb dX3_runMinutes_14 (by decide) (fun c4 => ?_) (fun c4 => ?_)
            · exact absurd c4 (lp_nge (hkM.trans hwL.Ne) (by omega) hin)
            · refine lv_aload_n hx hb dX3_runMinutes_17 rfl (lv_at hl 2 rfl) ?_
              refine gf_X3_11 K hG (gv0 hy) dX3_runMinutes_18 ?_
              refine lv_iload_n hx hb dX3_runMinutes_21 rfl (lv_at hl 0 rfl) ?_
              refine g_lads K hG (gv7 hy) (vp_in_nI (by omega) (by decide)) dX3_runMinutes_22 ?_
              rw [nI_clamp (by omega)]
              refine gf_X3_70 K hG (gv1 hy (by omega)) dX3_runMinutes_23 ?_
              refine lv_if_ne (tgt := 39) hx hb dX3_runMinutes_26 (by decide) (fun c5 => ?_) (fun c5 => ?_)
              · refine lv_iinc (v := (nI (j + 1))) (lv' := [(3, .int (nI (j + 1))), (2, .int (nI i)), (0, .ref (gA E y 0 0)), (1, .int x)]) hx hb dX3_runMinutes_39 hl (k := 0) rfl (nI_add j 1) (by decide) rfl (fun ls hl => ?_)
                refine lv_goto (tgt := 9) hx hb dX3_runMinutes_42 (by decide) ?_
                exact ih (j + 1) I2 _ _ _ (by omega) (by omega) hkM (by rw [← hTs]; simp only [f_X3_runMinutes_l2, if_neg c4, if_neg c5]) hwM hG hS (lv_sub hl [0, 1, 2, 3] rfl)
              · refine lv_aload_n hx hb dX3_runMinutes_29 rfl (lv_at hl 2 rfl) ?_
                refine lv_aload_n hx hb dX3_runMinutes_30 rfl (lv_at hl 2 rfl) ?_
                refine gf_X3_11 K hG (gv0 hy) dX3_runMinutes_31 ?_
                refine lv_iload_n hx hb dX3_runMinutes_34 rfl (lv_at hl 0 rfl) ?_
                refine g_lads K hG (gv7 hy) (vp_in_nI (by omega) (by decide)) dX3_runMinutes_35 ?_
                rw [nI_clamp (by omega)]
                refine g_kv (g_runV (As := [.ref (gA E y 1 j)]) (rest := []) K hml ca_X3_takeTurn q375 (m_X3_takeTurn l E J I2 y j hy hwM (by omega)) hG hS (gv0 hy) rfl rfl rfl rfl hl.1 (Nat.le_of_ble_eq_true rfl) ⟨by decide, by decide⟩ dX3_runMinutes_36 ⟨Nat.zero_le _, Nat.zero_le _⟩) hS (fun H locs hG hS => ?_)
                obtain ⟨I4, hI4⟩ : ∃ z, z = f_X3_takeTurn I2 y j := ⟨_, rfl⟩
                rw [← hI4] at hG
                have hw4_y : wf (I4 y) := by rw [hI4]; exact wf_X3_takeTurn I2 y j hy hwM (by omega)
                refine lv_iinc (v := (nI (j + 1))) (lv' := [(3, .int (nI (j + 1))), (2, .int (nI i)), (0, .ref (gA E y 0 0)), (1, .int x)]) hx hb dX3_runMinutes_39 hl (k := 0) rfl (nI_add j 1) (by decide) rfl (fun ls hl => ?_)
                refine lv_goto (tgt := 9) hx hb dX3_runMinutes_42 (by decide) ?_
                exact ih (j + 1) I4 _ _ _ (by omega) (by omega) (by rw [hI4]; exact kn_X3_takeTurn _ y j hy hwM (by omega) |>.trans hkM) (by rw [← hTs]; simp only [f_X3_runMinutes_l2, ← hI4, if_neg c4, if_pos c5]) hw4_y hG hS (lv_sub hl [0, 1, 2, 3] rfl)
        refine hL_l2 (fun H locs ls hG hS hl => ?_) ((I1 y 0 0 4).toNatClampNeg) 0 I1 _ _ _ (Nat.zero_add _) (by have := hwL.N; omega) rfl hI3.symm hwL hG hS (lv_sub hl [0, 1, 2, 3] rfl)
        have hw3_y : wf (I3 y) := by rw [hI3]; exact wf_f_X3_runMinutes_l2 I y x hy hw hm ((I1 y 0 0 4).toNatClampNeg) 0 I1 hwL (by have := hwL.N; omega)
        refine lv_aload_n hx hb dX3_runMinutes_45 rfl (lv_at hl 1 rfl) ?_
        refine lv_dup hx hb dX3_runMinutes_46 rfl ?_
        refine gf_X3_38 K hG (gv0 hy) dX3_runMinutes_47 ?_
        refine lv_iconst (v := 1) hx hb dX3_runMinutes_50 (by decide) ?_
        refine lv_iadd hx hb dX3_runMinutes_51 ?_
        refine pf_X3_38 K hG hS (gv0 hy) dX3_runMinutes_52 (fun I5 hI5 H locs hG hS => ?_)
        have hw5_y : wf (I5 y) := by rw [hI5]; exact wf_gU rfl hw3_y
        refine lv_iinc (v := (nI (i + 1))) (lv' := [(2, .int (nI (i + 1))), (0, .ref (gA E y 0 0)), (1, .int x)]) hx hb dX3_runMinutes_55 hl (k := 0) rfl (nI_add i 1) (by decide) rfl (fun ls hl => ?_)
        refine lv_goto (tgt := 2) hx hb dX3_runMinutes_58 (by decide) ?_
        exact ih (i + 1) I5 _ _ _ (by omega) (by rw [← hTs]; simp only [f_X3_runMinutes_l1, ← hI3, ← hI5, if_neg c2]) hw5_y hG hS (lv_sub hl [0, 1, 2] rfl)
  exact hL_l1 x.toNatClampNeg 0 I _ _ _ (Nat.zero_add _) (by simp only [f_X3_runMinutes]) hw hG hS (lv_sub hl [0, 1, 2] rfl)
def f_X3_copyFrom_l2 (y : Nat) (yo : Nat) : Nat → Nat → gI → gI
  | 0, i, I2 =>
    let I3 := gR I2 y 5 0 (va_cpy (I2 yo 5 0) (I2 y 5 0) 0 0 320)
    let I4 := gR I3 y 6 0 (va_cpy (I3 yo 6 0) (I3 y 6 0) 0 0 320)
    let I5 := gU I4 y 0 0 4 (I4 yo 0 0 4)
    let I6 := gU I5 y 0 0 5 (I5 yo 0 0 5)
    let I7 := gU I6 y 0 0 6 (I6 yo 0 0 6)
    let I8 := gU I7 y 0 0 7 (I7 yo 0 0 7)
    let I9 := gU I8 y 0 0 8 (I8 yo 0 0 8)
    let I10 := gU I9 y 0 0 9 (I9 yo 0 0 9)
    I10
  | n + 1, i, I2 =>
    let I11 := f_X2_copyFrom I2 y i yo i
    f_X3_copyFrom_l2 y yo n (i + 1) I11
def f_X3_copyFrom_l1 (y : Nat) (yo : Nat) : Nat → Nat → gI → gI
  | 0, i, I1 =>
    f_X3_copyFrom_l2 y yo ((I1 yo 0 0 5).toNatClampNeg) 0 I1
  | n + 1, i, I1 =>
    let I12 := f_X1_copyFrom I1 y i yo i
    f_X3_copyFrom_l1 y yo n (i + 1) I12
def f_X3_copyFrom (I : gI) (y : Nat) (yo : Nat) : gI :=
  f_X3_copyFrom_l1 y yo ((I yo 0 0 4).toNatClampNeg) 0 I
set_option maxRecDepth 100000 in
theorem wf_f_X3_copyFrom_l2 (I : gI) (y : Nat) (yo : Nat) (hy : y < 2) (hw : wf (I y)) (hyo : yo < 2) (hwo : wf (I yo)) (hne0 : yo ≠ y) (hzz : ∀ i, i < 6 → I yo 1 i 7 = 0 ∨ I yo 1 i 7 = 1) (hzd : ∀ j, I yo 6 0 j = 0 ∨ I yo 6 0 j = 1) : ∀ (n i : Nat) (I2 : gI), wf (I2 y) → i + n ≤ 10 → I2 yo = I yo → wf (f_X3_copyFrom_l2 y yo n i I2 y) := by
  intro n
  induction n with
  | zero =>
    intro i I2 hwL hib hqM
    obtain ⟨I3, hI3⟩ : ∃ z, z = gR I2 y 5 0 (va_cpy (I2 yo 5 0) (I2 y 5 0) 0 0 320) := ⟨_, rfl⟩
    have hw3_y : wf (I3 y) := by rw [hI3]; exact wf_gR (by decide) hwL
    have hw3_yo : wf (I3 yo) := by rw [hI3]; exact wf_otherR (by omega) (wf_ne hqM hwo)
    have hq3_yo : I3 yo = I yo := by rw [hI3]; exact (gR_ne _ _ _ _ (by omega)).trans hqM
    obtain ⟨I4, hI4⟩ : ∃ z, z = gR I3 y 6 0 (va_cpy (I3 yo 6 0) (I3 y 6 0) 0 0 320) := ⟨_, rfl⟩
    have hw4_y : wf (I4 y) := by rw [hI4]; exact wf_gR (by decide) hw3_y
    have hw4_yo : wf (I4 yo) := by rw [hI4]; exact wf_otherR (by omega) hw3_yo
    have hq4_yo : I4 yo = I yo := by rw [hI4]; exact (gR_ne _ _ _ _ (by omega)).trans hq3_yo
    obtain ⟨I5, hI5⟩ : ∃ z, z = gU I4 y 0 0 4 (I4 yo 0 0 4) := ⟨_, rfl⟩
    have hw5_y : wf (I5 y) := by rw [hI5]; exact wf_N (by rw [hq4_yo]; exact ⟨hwo.N, hwo.Ne⟩) hw4_y
    have hw5_yo : wf (I5 yo) := by rw [hI5]; exact wf_other (by omega) hw4_yo
    have hq5_yo : I5 yo = I yo := by rw [hI5]; exact (gU_ne _ _ _ _ _ (by omega)).trans hq4_yo
    obtain ⟨I6, hI6⟩ : ∃ z, z = gU I5 y 0 0 5 (I5 yo 0 0 5) := ⟨_, rfl⟩
    have hw6_y : wf (I6 y) := by rw [hI6]; exact wf_M (by rw [hq5_yo]; exact ⟨hwo.M, hwo.Me⟩) hw5_y
    have hw6_yo : wf (I6 yo) := by rw [hI6]; exact wf_other (by omega) hw5_yo
    have hq6_yo : I6 yo = I yo := by rw [hI6]; exact (gU_ne _ _ _ _ _ (by omega)).trans hq5_yo
    obtain ⟨I7, hI7⟩ : ∃ z, z = gU I6 y 0 0 6 (I6 yo 0 0 6) := ⟨_, rfl⟩
    have hw7_y : wf (I7 y) := by rw [hI7]; exact wf_gU rfl hw6_y
    have hw7_yo : wf (I7 yo) := by rw [hI7]; exact wf_other (by omega) hw6_yo
    have hq7_yo : I7 yo = I yo := by rw [hI7]; exact (gU_ne _ _ _ _ _ (by omega)).trans hq6_yo
    obtain ⟨I8, hI8⟩ : ∃ z, z = gU I7 y 0 0 7 (I7 yo 0 0 7) := ⟨_, rfl⟩
    have hw8_y : wf (I8 y) := by rw [hI8]; exact wf_gU rfl hw7_y
    have hw8_yo : wf (I8 yo) := by rw [hI8]; exact wf_other (by omega) hw7_yo
    have hq8_yo : I8 yo = I yo := by rw [hI8]; exact (gU_ne _ _ _ _ _ (by omega)).trans hq7_yo
    obtain ⟨I9, hI9⟩ : ∃ z, z = gU I8 y 0 0 8 (I8 yo 0 0 8) := ⟨_, rfl⟩
    have hw9_y : wf (I9 y) := by rw [hI9]; exact wf_gU rfl hw8_y
    have hw9_yo : wf (I9 yo) := by rw [hI9]; exact wf_other (by omega) hw8_yo
    have hq9_yo : I9 yo = I yo := by rw [hI9]; exact (gU_ne _ _ _ _ _ (by omega)).trans hq8_yo
    obtain ⟨I10, hI10⟩ : ∃ z, z = gU I9 y 0 0 9 (I9 yo 0 0 9) := ⟨_, rfl⟩
    have hw10_y : wf (I10 y) := by rw [hI10]; exact wf_gU rfl hw9_y
    have hw10_yo : wf (I10 yo) := by rw [hI10]; exact wf_other (by omega) hw9_yo
    have hq10_yo : I10 yo = I yo := by rw [hI10]; exact (gU_ne _ _ _ _ _ (by omega)).trans hq9_yo
    have eS : f_X3_copyFrom_l2 y yo 0 i I2 = I10 := by simp only [f_X3_copyFrom_l2, ← hI3, ← hI4, ← hI5, ← hI6, ← hI7, ← hI8, ← hI9, ← hI10]
    rw [eS]
    exact hw10_y
  | succ n ih =>
    intro i I2 hwL hib hqM
    obtain ⟨I11, hI11⟩ : ∃ z, z = f_X2_copyFrom I2 y i yo i := ⟨_, rfl⟩
    have hw11_y : wf (I11 y) := by rw [hI11]; exact wf_X2_copyFrom I2 y i yo i hy (by omega) hwL hyo (by omega) (wf_ne hqM hwo) (by omega)
    have hw11_yo : wf (I11 yo) := by rw [hI11]; exact wf_ne ((ne_X2_copyFrom I2 y i yo i hy (by omega) hwL hyo (by omega) (wf_ne hqM hwo) (by omega) (y' := yo) (by omega))) (wf_ne hqM hwo)
    have hq11_yo : I11 yo = I yo := by rw [hI11]; exact (ne_X2_copyFrom I2 y i yo i hy (by omega) hwL hyo (by omega) (wf_ne hqM hwo) (by omega) (y' := yo) (by omega)).trans hqM
    have eS : f_X3_copyFrom_l2 y yo (n + 1) i I2 = f_X3_copyFrom_l2 y yo n (i + 1) I11 := by simp only [f_X3_copyFrom_l2, ← hI11]
    rw [eS]
    exact ih (i + 1) I11 hw11_y (by omega) hq11_yo
set_option maxRecDepth 100000 in
theorem wf_f_X3_copyFrom_l1 (I : gI) (y : Nat) (yo : Nat) (hy : y < 2) (hw : wf (I y)) (hyo : yo < 2) (hwo : wf (I yo)) (hne0 : yo ≠ y) (hzz : ∀ i, i < 6 → I yo 1 i 7 = 0 ∨ I yo 1 i 7 = 1) (hzd : ∀ j, I yo 6 0 j = 0 ∨ I yo 6 0 j = 1) : ∀ (n i : Nat) (I1 : gI), wf (I1 y) → i + n ≤ 6 → I1 yo = I yo → wf (f_X3_copyFrom_l1 y yo n i I1 y) := by
  intro n
  induction n with
  | zero =>
    intro i I1 hwL hib hqL
    have eS : f_X3_copyFrom_l1 y yo 0 i I1 = f_X3_copyFrom_l2 y yo ((I1 yo 0 0 5).toNatClampNeg) 0 I1 := by simp only [f_X3_copyFrom_l1]
    rw [eS]
    exact wf_f_X3_copyFrom_l2 I y yo hy hw hyo hwo hne0 hzz hzd ((I1 yo 0 0 5).toNatClampNeg) 0 I1 hwL (by rw [hqL]; have := hwo.M; omega) hqL
  | succ n ih =>
    intro i I1 hwL hib hqL
    obtain ⟨I12, hI12⟩ : ∃ z, z = f_X1_copyFrom I1 y i yo i := ⟨_, rfl⟩
    have hw12_y : wf (I12 y) := by rw [hI12]; exact wf_X1_copyFrom I1 y i yo i hy (by omega) hwL hyo (by omega) (wf_ne hqL hwo) (by omega) (by rw [hqL]; exact hzz _ (by omega))
    have hw12_yo : wf (I12 yo) := by rw [hI12]; exact wf_ne ((ne_X1_copyFrom I1 y i yo i hy (by omega) hwL hyo (by omega) (wf_ne hqL hwo) (by omega) (by rw [hqL]; exact hzz _ (by omega)) (y' := yo) (by omega))) (wf_ne hqL hwo)
    have hq12_yo : I12 yo = I yo := by rw [hI12]; exact (ne_X1_copyFrom I1 y i yo i hy (by omega) hwL hyo (by omega) (wf_ne hqL hwo) (by omega) (by rw [hqL]; exact hzz _ (by omega)) (y' := yo) (by omega)).trans hqL
    have eS : f_X3_copyFrom_l1 y yo (n + 1) i I1 = f_X3_copyFrom_l1 y yo n (i + 1) I12 := by simp only [f_X3_copyFrom_l1, ← hI12]
    rw [eS]
    exact ih (i + 1) I12 hw12_y (by omega) hq12_yo
set_option maxRecDepth 100000 in
theorem wf_X3_copyFrom (I : gI) (y : Nat) (yo : Nat) (hy : y < 2) (hw : wf (I y)) (hyo : yo < 2) (hwo : wf (I yo)) (hne0 : yo ≠ y) (hzz : ∀ i, i < 6 → I yo 1 i 7 = 0 ∨ I yo 1 i 7 = 1) (hzd : ∀ j, I yo 6 0 j = 0 ∨ I yo 6 0 j = 1) : wf (f_X3_copyFrom I y yo y) := by
  have eS : f_X3_copyFrom I y yo = f_X3_copyFrom_l1 y yo ((I yo 0 0 4).toNatClampNeg) 0 I := by simp only [f_X3_copyFrom]
  rw [eS]
  exact wf_f_X3_copyFrom_l1 I y yo hy hw hyo hwo hne0 hzz hzd ((I yo 0 0 4).toNatClampNeg) 0 I hw (by have := hwo.N; omega) rfl
set_option maxRecDepth 100000 in
theorem ne_f_X3_copyFrom_l2 (I : gI) (y : Nat) (yo : Nat) (hy : y < 2) (hw : wf (I y)) (hyo : yo < 2) (hwo : wf (I yo)) (hne0 : yo ≠ y) (hzz : ∀ i, i < 6 → I yo 1 i 7 = 0 ∨ I yo 1 i 7 = 1) (hzd : ∀ j, I yo 6 0 j = 0 ∨ I yo 6 0 j = 1) {y' : Nat} (hne : y' ≠ y) : ∀ (n i : Nat) (I2 : gI), wf (I2 y) → i + n ≤ 10 → I2 yo = I yo → f_X3_copyFrom_l2 y yo n i I2 y' = I2 y' := by
  intro n
  induction n with
  | zero =>
    intro i I2 hwL hib hqM
    have hn2 : I2 y' = I2 y' := rfl
    obtain ⟨I3, hI3⟩ : ∃ z, z = gR I2 y 5 0 (va_cpy (I2 yo 5 0) (I2 y 5 0) 0 0 320) := ⟨_, rfl⟩
    have hw3_y : wf (I3 y) := by rw [hI3]; exact wf_gR (by decide) hwL
    have hw3_yo : wf (I3 yo) := by rw [hI3]; exact wf_otherR (by omega) (wf_ne hqM hwo)
    have hq3_yo : I3 yo = I yo := by rw [hI3]; exact (gR_ne _ _ _ _ (by omega)).trans hqM
    have hn3 : I3 y' = I2 y' := by rw [hI3]; exact (gR_ne _ _ _ _ hne).trans hn2
    obtain ⟨I4, hI4⟩ : ∃ z, z = gR I3 y 6 0 (va_cpy (I3 yo 6 0) (I3 y 6 0) 0 0 320) := ⟨_, rfl⟩
    have hw4_y : wf (I4 y) := by rw [hI4]; exact wf_gR (by decide) hw3_y
    have hw4_yo : wf (I4 yo) := by rw [hI4]; exact wf_otherR (by omega) hw3_yo
    have hq4_yo : I4 yo = I yo := by rw [hI4]; exact (gR_ne _ _ _ _ (by omega)).trans hq3_yo
    have hn4 : I4 y' = I2 y' := by rw [hI4]; exact (gR_ne _ _ _ _ hne).trans hn3
    obtain ⟨I5, hI5⟩ : ∃ z, z = gU I4 y 0 0 4 (I4 yo 0 0 4) := ⟨_, rfl⟩
    have hw5_y : wf (I5 y) := by rw [hI5]; exact wf_N (by rw [hq4_yo]; exact ⟨hwo.N, hwo.Ne⟩) hw4_y
    have hw5_yo : wf (I5 yo) := by rw [hI5]; exact wf_other (by omega) hw4_yo
    have hq5_yo : I5 yo = I yo := by rw [hI5]; exact (gU_ne _ _ _ _ _ (by omega)).trans hq4_yo
    have hn5 : I5 y' = I2 y' := by rw [hI5]; exact (gU_ne _ _ _ _ _ hne).trans hn4
    obtain ⟨I6, hI6⟩ : ∃ z, z = gU I5 y 0 0 5 (I5 yo 0 0 5) := ⟨_, rfl⟩
    have hw6_y : wf (I6 y) := by rw [hI6]; exact wf_M (by rw [hq5_yo]; exact ⟨hwo.M, hwo.Me⟩) hw5_y
    have hw6_yo : wf (I6 yo) := by rw [hI6]; exact wf_other (by omega) hw5_yo
    have hq6_yo : I6 yo = I yo := by rw [hI6]; exact (gU_ne _ _ _ _ _ (by omega)).trans hq5_yo
    have hn6 : I6 y' = I2 y' := by rw [hI6]; exact (gU_ne _ _ _ _ _ hne).trans hn5
    obtain ⟨I7, hI7⟩ : ∃ z, z = gU I6 y 0 0 6 (I6 yo 0 0 6) := ⟨_, rfl⟩
    have hw7_y : wf (I7 y) := by rw [hI7]; exact wf_gU rfl hw6_y
    have hw7_yo : wf (I7 yo) := by rw [hI7]; exact wf_other (by omega) hw6_yo
    have hq7_yo : I7 yo = I yo := by rw [hI7]; exact (gU_ne _ _ _ _ _ (by omega)).trans hq6_yo
    have hn7 : I7 y' = I2 y' := by rw [hI7]; exact (gU_ne _ _ _ _ _ hne).trans hn6
    obtain ⟨I8, hI8⟩ : ∃ z, z = gU I7 y 0 0 7 (I7 yo 0 0 7) := ⟨_, rfl⟩
    have hw8_y : wf (I8 y) := by rw [hI8]; exact wf_gU rfl hw7_y
    have hw8_yo : wf (I8 yo) := by rw [hI8]; exact wf_other (by omega) hw7_yo
    have hq8_yo : I8 yo = I yo := by rw [hI8]; exact (gU_ne _ _ _ _ _ (by omega)).trans hq7_yo
    have hn8 : I8 y' = I2 y' := by rw [hI8]; exact (gU_ne _ _ _ _ _ hne).trans hn7
    obtain ⟨I9, hI9⟩ : ∃ z, z = gU I8 y 0 0 8 (I8 yo 0 0 8) := ⟨_, rfl⟩
    have hw9_y : wf (I9 y) := by rw [hI9]; exact wf_gU rfl hw8_y
    have hw9_yo : wf (I9 yo) := by rw [hI9]; exact wf_other (by omega) hw8_yo
    have hq9_yo : I9 yo = I yo := by rw [hI9]; exact (gU_ne _ _ _ _ _ (by omega)).trans hq8_yo
    have hn9 : I9 y' = I2 y' := by rw [hI9]; exact (gU_ne _ _ _ _ _ hne).trans hn8
    obtain ⟨I10, hI10⟩ : ∃ z, z = gU I9 y 0 0 9 (I9 yo 0 0 9) := ⟨_, rfl⟩
    have hw10_y : wf (I10 y) := by rw [hI10]; exact wf_gU rfl hw9_y
    have hw10_yo : wf (I10 yo) := by rw [hI10]; exact wf_other (by omega) hw9_yo
    have hq10_yo : I10 yo = I yo := by rw [hI10]; exact (gU_ne _ _ _ _ _ (by omega)).trans hq9_yo
    have hn10 : I10 y' = I2 y' := by rw [hI10]; exact (gU_ne _ _ _ _ _ hne).trans hn9
    have eS : f_X3_copyFrom_l2 y yo 0 i I2 = I10 := by simp only [f_X3_copyFrom_l2, ← hI3, ← hI4, ← hI5, ← hI6, ← hI7, ← hI8, ← hI9, ← hI10]
    exact (congrFun eS y').trans hn10
  | succ n ih =>
    intro i I2 hwL hib hqM
    have hn2 : I2 y' = I2 y' := rfl
    obtain ⟨I11, hI11⟩ : ∃ z, z = f_X2_copyFrom I2 y i yo i := ⟨_, rfl⟩
    have hw11_y : wf (I11 y) := by rw [hI11]; exact wf_X2_copyFrom I2 y i yo i hy (by omega) hwL hyo (by omega) (wf_ne hqM hwo) (by omega)
    have hw11_yo : wf (I11 yo) := by rw [hI11]; exact wf_ne ((ne_X2_copyFrom I2 y i yo i hy (by omega) hwL hyo (by omega) (wf_ne hqM hwo) (by omega) (y' := yo) (by omega))) (wf_ne hqM hwo)
    have hq11_yo : I11 yo = I yo := by rw [hI11]; exact (ne_X2_copyFrom I2 y i yo i hy (by omega) hwL hyo (by omega) (wf_ne hqM hwo) (by omega) (y' := yo) (by omega)).trans hqM
    have hn11 : I11 y' = I2 y' := by rw [hI11]; exact (ne_X2_copyFrom I2 y i yo i hy (by omega) hwL hyo (by omega) (wf_ne hqM hwo) (by omega) (y' := y') hne).trans hn2
    have eS : f_X3_copyFrom_l2 y yo (n + 1) i I2 = f_X3_copyFrom_l2 y yo n (i + 1) I11 := by simp only [f_X3_copyFrom_l2, ← hI11]
    exact (congrFun eS y').trans ((ih (i + 1) I11 hw11_y (by omega) hq11_yo).trans hn11)
set_option maxRecDepth 100000 in
theorem ne_f_X3_copyFrom_l1 (I : gI) (y : Nat) (yo : Nat) (hy : y < 2) (hw : wf (I y)) (hyo : yo < 2) (hwo : wf (I yo)) (hne0 : yo ≠ y) (hzz : ∀ i, i < 6 → I yo 1 i 7 = 0 ∨ I yo 1 i 7 = 1) (hzd : ∀ j, I yo 6 0 j = 0 ∨ I yo 6 0 j = 1) {y' : Nat} (hne : y' ≠ y) : ∀ (n i : Nat) (I1 : gI), wf (I1 y) → i + n ≤ 6 → I1 yo = I yo → f_X3_copyFrom_l1 y yo n i I1 y' = I1 y' := by
  intro n
  induction n with
  | zero =>
    intro i I1 hwL hib hqL
    have hn1 : I1 y' = I1 y' := rfl
    have eS : f_X3_copyFrom_l1 y yo 0 i I1 = f_X3_copyFrom_l2 y yo ((I1 yo 0 0 5).toNatClampNeg) 0 I1 := by simp only [f_X3_copyFrom_l1]
    exact (congrFun eS y').trans ((ne_f_X3_copyFrom_l2 I y yo hy hw hyo hwo hne0 hzz hzd hne ((I1 yo 0 0 5).toNatClampNeg) 0 I1 hwL (by rw [hqL]; have := hwo.M; omega) hqL).trans hn1)
  | succ n ih =>
    intro i I1 hwL hib hqL
    have hn1 : I1 y' = I1 y' := rfl
    obtain ⟨I12, hI12⟩ : ∃ z, z = f_X1_copyFrom I1 y i yo i := ⟨_, rfl⟩
    have hw12_y : wf (I12 y) := by rw [hI12]; exact wf_X1_copyFrom I1 y i yo i hy (by omega) hwL hyo (by omega) (wf_ne hqL hwo) (by omega) (by rw [hqL]; exact hzz _ (by omega))
    have hw12_yo : wf (I12 yo) := by rw [hI12]; exact wf_ne ((ne_X1_copyFrom I1 y i yo i hy (by omega) hwL hyo (by omega) (wf_ne hqL hwo) (by omega) (by rw [hqL]; exact hzz _ (by omega)) (y' := yo) (by omega))) (wf_ne hqL hwo)
    have hq12_yo : I12 yo = I yo := by rw [hI12]; exact (ne_X1_copyFrom I1 y i yo i hy (by omega) hwL hyo (by omega) (wf_ne hqL hwo) (by omega) (by rw [hqL]; exact hzz _ (by omega)) (y' := yo) (by omega)).trans hqL
    have hn12 : I12 y' = I1 y' := by rw [hI12]; exact (ne_X1_copyFrom I1 y i yo i hy (by omega) hwL hyo (by omega) (wf_ne hqL hwo) (by omega) (by rw [hqL]; exact hzz _ (by omega)) (y' := y') hne).trans hn1
    have eS : f_X3_copyFrom_l1 y yo (n + 1) i I1 = f_X3_copyFrom_l1 y yo n (i + 1) I12 := by simp only [f_X3_copyFrom_l1, ← hI12]
    exact (congrFun eS y').trans ((ih (i + 1) I12 hw12_y (by omega) hq12_yo).trans hn12)
set_option maxRecDepth 100000 in
theorem ne_X3_copyFrom (I : gI) (y : Nat) (yo : Nat) (hy : y < 2) (hw : wf (I y)) (hyo : yo < 2) (hwo : wf (I yo)) (hne0 : yo ≠ y) (hzz : ∀ i, i < 6 → I yo 1 i 7 = 0 ∨ I yo 1 i 7 = 1) (hzd : ∀ j, I yo 6 0 j = 0 ∨ I yo 6 0 j = 1) {y' : Nat} (hne : y' ≠ y) : f_X3_copyFrom I y yo y' = I y' := by
  have hn : I y' = I y' := rfl
  have eS : f_X3_copyFrom I y yo = f_X3_copyFrom_l1 y yo ((I yo 0 0 4).toNatClampNeg) 0 I := by simp only [f_X3_copyFrom]
  exact (congrFun eS y').trans ((ne_f_X3_copyFrom_l1 I y yo hy hw hyo hwo hne0 hzz hzd hne ((I yo 0 0 4).toNatClampNeg) 0 I hw (by have := hwo.N; omega) rfl).trans hn)
set_option maxHeartbeats 4000000 in
set_option maxRecDepth 100000 in
theorem m_X3_copyFrom (l : Launch) (E : gE) (J : Int64) (I : gI) (y : Nat) (yo : Nat) (hy : y < 2) (hw : wf (I y)) (hyo : yo < 2) (hwo : wf (I yo)) (hne0 : yo ≠ y) (hzz : ∀ i, i < 6 → I yo 1 i 7 = 0 ∨ I yo 1 i 7 = 1) (hzd : ∀ j, I yo 6 0 j = 0 ∨ I yo 6 0 j = 1) : gMv l E J yX3_copyFrom cX3_copyFrom 3 none 3 82 [.ref (gA E y 0 0), .ref (gA E yo 0 0)] I (f_X3_copyFrom I y yo) := by
  refine g_entry (lv := [(0, .ref (gA E y 0 0)), (1, .ref (gA E yo 0 0))]) (by decide) (Nat.le_of_ble_eq_true rfl) rfl ?_
  intro p e s m below meth c0 ls K hG hS hml hr hlocks hl
  have K : kx E p m c0 cX3_copyFrom "HayThieves$Yard" _ s := K
  have hx := K.1
  have hb := K.2.1
  have hts := K.2.2.1
  have hown := K.2.2.2.1
  have hSt := K.2.2.2.2
  have hNo := hwo.N
  have hMo := hwo.M
  refine lv_iconst (v := 0) hx hb dX3_copyFrom_0 (by decide) ?_
  refine lv_istore_n (lv' := [(2, .int 0), (0, .ref (gA E y 0 0)), (1, .ref (gA E yo 0 0))]) hx hb dX3_copyFrom_1 rfl hl (by decide) rfl (fun ls hl => ?_)
  have hL_l1 : ∀ (n i : Nat)  (I1 : gI) (H : Heap) (locs : List Loc) (ls : Array Slot), i + n = (I yo 0 0 4).toNatClampNeg → i + n ≤ 6 → I1 yo = I yo → f_X3_copyFrom_l1 y yo n i I1 = (f_X3_copyFrom I y yo) → wf (I1 y) → GW E J I1 H → va_S (gF E) s.heap H locs → lv_has ls 3 [(2, .int (nI i)), (0, .ref (gA E y 0 0)), (1, .ref (gA E yo 0 0))] → W p l e (grm 3 82) s m ([.ref (gA E y 0 0), .ref (gA E yo 0 0)] : List Value).toArray below meth c0 H locs 0 0 (MQ below (va_Qv (fun (_ : Unit) => True) (fun _ t => GW E J (f_X3_copyFrom I y yo) t.heap) (gF E)) ([.ref (gA E y 0 0), .ref (gA E yo 0 0)] : List Value).toArray s 0 0 (gF E)) (F0 m 2 ls []) := by
    intro n
    induction n with
    | zero =>
      intro i I1 H locs ls hin hib hqL hTs hwL hG hS hl
      refine lv_iload_n hx hb dX3_copyFrom_2 rfl (lv_at hl 0 rfl) ?_
      refine lv_aload_n hx hb dX3_copyFrom_3 rfl (lv_at hl 2 rfl) ?_
      refine gf_X3_31 K hG (gv0 hyo) dX3_copyFrom_4 ?_
      refine lv_icmp_ge (tgt := 31) hx hb dX3_copyFrom_7 (by decide) (fun c1 => ?_) (fun c1 => ?_)
      · refine lv_iconst (v := 0) hx hb dX3_copyFrom_31 (by decide) ?_
        refine lv_istore_n (lv' := [(2, .int 0), (0, .ref (gA E y 0 0)), (1, .ref (gA E yo 0 0))]) hx hb dX3_copyFrom_32 rfl hl (by decide) rfl (fun ls hl => ?_)
        have hL_l2 : ∀ (n i : Nat)  (I2 : gI) (H : Heap) (locs : List Loc) (ls : Array Slot), i + n = (I1 yo 0 0 5).toNatClampNeg → i + n ≤ 10 → I2 yo = I yo → f_X3_copyFrom_l2 y yo n i I2 = (f_X3_copyFrom I y yo) → wf (I2 y) → GW E J I2 H → va_S (gF E) s.heap H locs → lv_has ls 3 [(2, .int (nI i)), (0, .ref (gA E y 0 0)), (1, .ref (gA E yo 0 0))] → W p l e (grm 3 82) s m ([.ref (gA E y 0 0), .ref (gA E yo 0 0)] : List Value).toArray below meth c0 H locs 0 0 (MQ below (va_Qv (fun (_ : Unit) => True) (fun _ t => GW E J (f_X3_copyFrom I y yo) t.heap) (gF E)) ([.ref (gA E y 0 0), .ref (gA E yo 0 0)] : List Value).toArray s 0 0 (gF E)) (F0 m 33 ls []) := by
          intro n
          induction n with
          | zero =>
            intro i I2 H locs ls hin hib hqM hTs hwL hG hS hl
            have hMo1 : (I1 yo 0 0 5).toNatClampNeg ≤ 10 := by rw [hqL]; exact hwo.M
            refine lv_iload_n hx hb dX3_copyFrom_33 rfl (lv_at hl 0 rfl) ?_
            refine lv_aload_n hx hb dX3_copyFrom_34 rfl (lv_at hl 2 rfl) ?_
            refine gf_X3_35 K hG (gv0 hyo) dX3_copyFrom_35 ?_
            refine lv_icmp_ge (tgt := 62) hx hb dX3_copyFrom_38 (by decide) (fun c2 => ?_) (fun c2 => ?_)
            · refine lv_aload_n hx hb dX3_copyFrom_62 rfl (lv_at hl 2 rfl) ?_
              refine gf_X3_23 K hG (gv0 hyo) dX3_copyFrom_63 ?_
              refine lv_iconst (v := 0) hx hb dX3_copyFrom_66 (by decide) ?_
              refine lv_aload_n hx hb dX3_copyFrom_67 rfl (lv_at hl 1 rfl) ?_
              refine gf_X3_23 K hG (gv0 hy) dX3_copyFrom_68 ?_
              refine lv_iconst (v := 0) hx hb dX3_copyFrom_71 (by decide) ?_
              refine lv_sipush (v := 320) hx hb dX3_copyFrom_72 (by decide) ?_
              refine g_copy (a := 0) (ty := .int) K (hml.trans hl.1.symm) q481 hG hS (gv5 hyo) (gv5 hy) rfl rfl (fun _ => rfl) (fun _ => rfl) (by decide) rfl rfl (by decide) (by decide) (by decide) (by decide) (by decide) (fun _ _ => rfl) (by decide) (by decide) dX3_copyFrom_75 (fun I3 hI3 H locs hG hS => ?_)
              replace hI3 : I3 = gR I2 y 5 0 (va_cpy (I2 yo 5 0) (I2 y 5 0) 0 0 320) := hI3
              have hw3_y : wf (I3 y) := by rw [hI3]; exact wf_gR (by decide) hwL
              have hw3_yo : wf (I3 yo) := by rw [hI3]; exact wf_otherR (by omega) (wf_ne hqM hwo)
              have hq3_yo : I3 yo = I yo := by rw [hI3]; exact (gR_ne _ _ _ _ (by omega)).trans hqM
              refine lv_aload_n hx hb dX3_copyFrom_78 rfl (lv_at hl 2 rfl) ?_
              refine gf_X3_27 K hG (gv0 hyo) dX3_copyFrom_79 ?_
              refine lv_iconst (v := 0) hx hb dX3_copyFrom_82 (by decide) ?_
              refine lv_aload_n hx hb dX3_copyFrom_83 rfl (lv_at hl 1 rfl) ?_
              refine gf_X3_27 K hG (gv0 hy) dX3_copyFrom_84 ?_
              refine lv_iconst (v := 0) hx hb dX3_copyFrom_87 (by decide) ?_
              refine lv_sipush (v := 320) hx hb dX3_copyFrom_88 (by decide) ?_
              refine g_copy (a := 1) (ty := .boolean) K (hml.trans hl.1.symm) q481 hG hS (gv6 hyo) (gv6 hy) rfl rfl (fun _ => rfl) (fun _ => rfl) (by decide) rfl rfl (by decide) (by decide) (by decide) (by decide) (by decide) (fun _ _ => gfitZ (by rw [hq3_yo]; exact hzd _)) (by decide) (by decide) dX3_copyFrom_91 (fun I4 hI4 H locs hG hS => ?_)
              replace hI4 : I4 = gR I3 y 6 0 (va_cpy (I3 yo 6 0) (I3 y 6 0) 0 0 320) := hI4
              have hw4_y : wf (I4 y) := by rw [hI4]; exact wf_gR (by decide) hw3_y
              have hw4_yo : wf (I4 yo) := by rw [hI4]; exact wf_otherR (by omega) hw3_yo
              have hq4_yo : I4 yo = I yo := by rw [hI4]; exact (gR_ne _ _ _ _ (by omega)).trans hq3_yo
              refine lv_aload_n hx hb dX3_copyFrom_94 rfl (lv_at hl 1 rfl) ?_
              refine lv_aload_n hx hb dX3_copyFrom_95 rfl (lv_at hl 2 rfl) ?_
              refine gf_X3_31 K hG (gv0 hyo) dX3_copyFrom_96 ?_
              refine pf_X3_31 K hG hS (gv0 hy) dX3_copyFrom_99 (fun I5 hI5 H locs hG hS => ?_)
              have hw5_y : wf (I5 y) := by rw [hI5]; exact wf_N (by rw [hq4_yo]; exact ⟨hwo.N, hwo.Ne⟩) hw4_y
              have hw5_yo : wf (I5 yo) := by rw [hI5]; exact wf_other (by omega) hw4_yo
              have hq5_yo : I5 yo = I yo := by rw [hI5]; exact (gU_ne _ _ _ _ _ (by omega)).trans hq4_yo
              refine lv_aload_n hx hb dX3_copyFrom_102 rfl (lv_at hl 1 rfl) ?_
              refine lv_aload_n hx hb dX3_copyFrom_103 rfl (lv_at hl 2 rfl) ?_
              refine gf_X3_35 K hG (gv0 hyo) dX3_copyFrom_104 ?_
              refine pf_X3_35 K hG hS (gv0 hy) dX3_copyFrom_107 (fun I6 hI6 H locs hG hS => ?_)
              have hw6_y : wf (I6 y) := by rw [hI6]; exact wf_M (by rw [hq5_yo]; exact ⟨hwo.M, hwo.Me⟩) hw5_y
              have hw6_yo : wf (I6 yo) := by rw [hI6]; exact wf_other (by omega) hw5_yo
              have hq6_yo : I6 yo = I yo := by rw [hI6]; exact (gU_ne _ _ _ _ _ (by omega)).trans hq5_yo
              refine lv_aload_n hx hb dX3_copyFrom_110 rfl (lv_at hl 1 rfl) ?_
              refine lv_aload_n hx hb dX3_copyFrom_111 rfl (lv_at hl 2 rfl) ?_
              refine gf_X3_38 K hG (gv0 hyo) dX3_copyFrom_112 ?_
              refine pf_X3_38 K hG hS (gv0 hy) dX3_copyFrom_115 (fun I7 hI7 H locs hG hS => ?_)
              have hw7_y : wf (I7 y) := by rw [hI7]; exact wf_gU rfl hw6_y
              have hw7_yo : wf (I7 yo) := by rw [hI7]; exact wf_other (by omega) hw6_yo
              have hq7_yo : I7 yo = I yo := by rw [hI7]; exact (gU_ne _ _ _ _ _ (by omega)).trans hq6_yo
              refine lv_aload_n hx hb dX3_copyFrom_118 rfl (lv_at hl 1 rfl) ?_
              refine lv_aload_n hx hb dX3_copyFrom_119 rfl (lv_at hl 2 rfl) ?_
              refine gf_X3_41 K hG (gv0 hyo) dX3_copyFrom_120 ?_
              refine pf_X3_41 K hG hS (gv0 hy) dX3_copyFrom_123 (fun I8 hI8 H locs hG hS => ?_)
              have hw8_y : wf (I8 y) := by rw [hI8]; exact wf_gU rfl hw7_y
              have hw8_yo : wf (I8 yo) := by rw [hI8]; exact wf_other (by omega) hw7_yo
              have hq8_yo : I8 yo = I yo := by rw [hI8]; exact (gU_ne _ _ _ _ _ (by omega)).trans hq7_yo
              refine lv_aload_n hx hb dX3_copyFrom_126 rfl (lv_at hl 1 rfl) ?_
              refine lv_aload_n hx hb dX3_copyFrom_127 rfl (lv_at hl 2 rfl) ?_
              refine gf_X3_44 K hG (gv0 hyo) dX3_copyFrom_128 ?_
              refine pf_X3_44 K hG hS (gv0 hy) dX3_copyFrom_131 (fun I9 hI9 H locs hG hS => ?_)
              have hw9_y : wf (I9 y) := by rw [hI9]; exact wf_gU rfl hw8_y
              have hw9_yo : wf (I9 yo) := by rw [hI9]; exact wf_other (by omega) hw8_yo
              have hq9_yo : I9 yo = I yo := by rw [hI9]; exact (gU_ne _ _ _ _ _ (by omega)).trans hq8_yo
              refine lv_aload_n hx hb dX3_copyFrom_134 rfl (lv_at hl 1 rfl) ?_
              refine lv_aload_n hx hb dX3_copyFrom_135 rfl (lv_at hl 2 rfl) ?_
              refine gf_X3_47 K hG (gv0 hyo) dX3_copyFrom_136 ?_
              refine pf_X3_47 K hG hS (gv0 hy) dX3_copyFrom_139 (fun I10 hI10 H locs hG hS => ?_)
              have hw10_y : wf (I10 y) := by rw [hI10]; exact wf_gU rfl hw9_y
              have hw10_yo : wf (I10 yo) := by rw [hI10]; exact wf_other (by omega) hw9_yo
              have hq10_yo : I10 yo = I yo := by rw [hI10]; exact (gU_ne _ _ _ _ _ (by omega)).trans hq9_yo
              have eS : I10 = (f_X3_copyFrom I y yo) := (by rw [← hTs]; simp only [f_X3_copyFrom_l2, ← hI3, ← hI4, ← hI5, ← hI6, ← hI7, ← hI8, ← hI9, ← hI10, if_pos c2])
              rw [eS] at hG
              exact g_vret K hG hS hr hlocks dX3_copyFrom_142
            · exact absurd (lp_ge (by rw [hqM, hqL]; exact hwo.Me) (by omega) hin) c2
          | succ n ih =>
            intro i I2 H locs ls hin hib hqM hTs hwL hG hS hl
            have hMo1 : (I1 yo 0 0 5).toNatClampNeg ≤ 10 := by rw [hqL]; exact hwo.M
            refine lv_iload_n hx hb dX3_copyFrom_33 rfl (lv_at hl 0 rfl) ?_
            refine lv_aload_n hx hb dX3_copyFrom_34 rfl (lv_at hl 2 rfl) ?_
            refine gf_X3_35 K hG (gv0 hyo) dX3_copyFrom_35 ?_
            refine lv_icmp_ge (tgt := 62) hx hb dX3_copyFrom_38 (by decide) (fun c3 => ?_) (fun c3 => ?_)
            · exact absurd c3 (lp_nge (by rw [hqM, hqL]; exact hwo.Me) (by omega) hin)
            · refine lv_aload_n hx hb dX3_copyFrom_41 rfl (lv_at hl 1 rfl) ?_
              refine gf_X3_19 K hG (gv0 hy) dX3_copyFrom_42 ?_
              refine lv_iload_n hx hb dX3_copyFrom_45 rfl (lv_at hl 0 rfl) ?_
              refine g_loads K hG (gv8 hy) (vp_in_nI (by omega) (by decide)) dX3_copyFrom_46 ?_
              rw [nI_clamp (by omega)]
              refine lv_aload_n hx hb dX3_copyFrom_47 rfl (lv_at hl 2 rfl) ?_
              refine gf_X3_19 K hG (gv0 hyo) dX3_copyFrom_48 ?_
              refine lv_iload_n hx hb dX3_copyFrom_51 rfl (lv_at hl 0 rfl) ?_
              refine g_loads K hG (gv8 hyo) (vp_in_nI (by omega) (by decide)) dX3_copyFrom_52 ?_
              rw [nI_clamp (by omega)]
              refine g_kv (g_runV (As := [.ref (gA E yo 4 i)]) (rest := []) K hml ca_X2_copyFrom q477 (m_X2_copyFrom l E J I2 y i yo i hy (by omega) hwL hyo (by omega) (wf_ne hqM hwo) (by omega)) hG hS (gv4 hy (by omega)) rfl rfl rfl rfl hl.1 (Nat.le_of_ble_eq_true rfl) ⟨by decide, by decide⟩ dX3_copyFrom_53 ⟨Nat.zero_le _, Nat.zero_le _⟩) hS (fun H locs hG hS => ?_)
              obtain ⟨I11, hI11⟩ : ∃ z, z = f_X2_copyFrom I2 y i yo i := ⟨_, rfl⟩
              rw [← hI11] at hG
              have hw11_y : wf (I11 y) := by rw [hI11]; exact wf_X2_copyFrom I2 y i yo i hy (by omega) hwL hyo (by omega) (wf_ne hqM hwo) (by omega)
              have hw11_yo : wf (I11 yo) := by rw [hI11]; exact wf_ne ((ne_X2_copyFrom I2 y i yo i hy (by omega) hwL hyo (by omega) (wf_ne hqM hwo) (by omega) (y' := yo) (by omega))) (wf_ne hqM hwo)
              have hq11_yo : I11 yo = I yo := by rw [hI11]; exact (ne_X2_copyFrom I2 y i yo i hy (by omega) hwL hyo (by omega) (wf_ne hqM hwo) (by omega) (y' := yo) (by omega)).trans hqM
              refine lv_iinc (v := (nI (i + 1))) (lv' := [(2, .int (nI (i + 1))), (0, .ref (gA E y 0 0)), (1, .ref (gA E yo 0 0))]) hx hb dX3_copyFrom_56 hl (k := 0) rfl (nI_add i 1) (by decide) rfl (fun ls hl => ?_)
              refine lv_goto (tgt := 33) hx hb dX3_copyFrom_59 (by decide) ?_
              exact ih (i + 1) I11 _ _ _ (by omega) (by omega) hq11_yo (by rw [← hTs]; simp only [f_X3_copyFrom_l2, ← hI11, if_neg c3]) hw11_y hG hS (lv_sub hl [0, 1, 2] rfl)
        exact hL_l2 ((I1 yo 0 0 5).toNatClampNeg) 0 I1 _ _ _ (Nat.zero_add _) (by rw [hqL]; have := hwo.M; omega) hqL (by rw [← hTs]; simp only [f_X3_copyFrom_l1, if_pos c1]) hwL hG hS (lv_sub hl [0, 1, 2] rfl)
      · exact absurd (lp_ge (by rw [hqL]; exact hwo.Ne) (by omega) hin) c1
    | succ n ih =>
      intro i I1 H locs ls hin hib hqL hTs hwL hG hS hl
      refine lv_iload_n hx hb dX3_copyFrom_2 rfl (lv_at hl 0 rfl) ?_
      refine lv_aload_n hx hb dX3_copyFrom_3 rfl (lv_at hl 2 rfl) ?_
      refine gf_X3_31 K hG (gv0 hyo) dX3_copyFrom_4 ?_
      refine lv_icmp_ge (tgt := 31) hx hb dX3_copyFrom_7 (by decide) (fun c4 => ?_) (fun c4 => ?_)
      · exact absurd c4 (lp_nge (by rw [hqL]; exact hwo.Ne) (by omega) hin)
      · refine lv_aload_n hx hb dX3_copyFrom_10 rfl (lv_at hl 1 rfl) ?_
        refine gf_X3_11 K hG (gv0 hy) dX3_copyFrom_11 ?_
        refine lv_iload_n hx hb dX3_copyFrom_14 rfl (lv_at hl 0 rfl) ?_
        refine g_lads K hG (gv7 hy) (vp_in_nI (by omega) (by decide)) dX3_copyFrom_15 ?_
        rw [nI_clamp (by omega)]
        refine lv_aload_n hx hb dX3_copyFrom_16 rfl (lv_at hl 2 rfl) ?_
        refine gf_X3_11 K hG (gv0 hyo) dX3_copyFrom_17 ?_
        refine lv_iload_n hx hb dX3_copyFrom_20 rfl (lv_at hl 0 rfl) ?_
        refine g_lads K hG (gv7 hyo) (vp_in_nI (by omega) (by decide)) dX3_copyFrom_21 ?_
        rw [nI_clamp (by omega)]
        refine g_kv (g_runV (As := [.ref (gA E yo 1 i)]) (rest := []) K hml ca_X1_copyFrom q469 (m_X1_copyFrom l E J I1 y i yo i hy (by omega) hwL hyo (by omega) (wf_ne hqL hwo) (by omega) (by rw [hqL]; exact hzz _ (by omega))) hG hS (gv1 hy (by omega)) rfl rfl rfl rfl hl.1 (Nat.le_of_ble_eq_true rfl) ⟨by decide, by decide⟩ dX3_copyFrom_22 ⟨Nat.zero_le _, Nat.zero_le _⟩) hS (fun H locs hG hS => ?_)
        obtain ⟨I12, hI12⟩ : ∃ z, z = f_X1_copyFrom I1 y i yo i := ⟨_, rfl⟩
        rw [← hI12] at hG
        have hw12_y : wf (I12 y) := by rw [hI12]; exact wf_X1_copyFrom I1 y i yo i hy (by omega) hwL hyo (by omega) (wf_ne hqL hwo) (by omega) (by rw [hqL]; exact hzz _ (by omega))
        have hw12_yo : wf (I12 yo) := by rw [hI12]; exact wf_ne ((ne_X1_copyFrom I1 y i yo i hy (by omega) hwL hyo (by omega) (wf_ne hqL hwo) (by omega) (by rw [hqL]; exact hzz _ (by omega)) (y' := yo) (by omega))) (wf_ne hqL hwo)
        have hq12_yo : I12 yo = I yo := by rw [hI12]; exact (ne_X1_copyFrom I1 y i yo i hy (by omega) hwL hyo (by omega) (wf_ne hqL hwo) (by omega) (by rw [hqL]; exact hzz _ (by omega)) (y' := yo) (by omega)).trans hqL
        refine lv_iinc (v := (nI (i + 1))) (lv' := [(2, .int (nI (i + 1))), (0, .ref (gA E y 0 0)), (1, .ref (gA E yo 0 0))]) hx hb dX3_copyFrom_25 hl (k := 0) rfl (nI_add i 1) (by decide) rfl (fun ls hl => ?_)
        refine lv_goto (tgt := 2) hx hb dX3_copyFrom_28 (by decide) ?_
        exact ih (i + 1) I12 _ _ _ (by omega) (by omega) hq12_yo (by rw [← hTs]; simp only [f_X3_copyFrom_l1, ← hI12, if_neg c4]) hw12_y hG hS (lv_sub hl [0, 1, 2] rfl)
  exact hL_l1 ((I yo 0 0 4).toNatClampNeg) 0 I _ _ _ (Nat.zero_add _) (by have := hwo.N; omega) rfl (by simp only [f_X3_copyFrom]) hw hG hS (lv_sub hl [0, 1, 2] rfl)
