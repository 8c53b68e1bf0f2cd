/-! PRINTED by wip/gen (cls.py): X1 -/
def f_X1_doing (I : gI) (y i : Nat) : Int32 :=
  if (I y 1 i 7) = 0 then
    if (I y 1 i 6) = (-1) then
      if (I y 1 i 4) = (-1) then
        0
      else
        1
    else
      2
  else
    3
set_option maxHeartbeats 4000000 in
set_option maxRecDepth 100000 in
theorem m_X1_doing (l : Launch) (E : gE) (J : Int64) (I : gI) (y i : Nat) (hy : y < 2) (hi : i < 6) (hw : wf (I y)) : gMi l E J yX1_doing cX1_doing 1 (some .int) 0 0 [.ref (gA E y 1 i)] I (f_X1_doing I y i) I := by
  refine g_entry (lv := [(0, .ref (gA E y 1 i))]) (by decide) (Nat.le_of_ble_eq_true rfl) rfl ?_
  intro p e s m below meth c0 ls K hG hS hml hr hlocks hl
  have K : kx E p m c0 cX1_doing "HayThieves$Lad" _ s := K
  have hx := K.1
  have hb := K.2.1
  have hts := K.2.2.1
  have hown := K.2.2.2.1
  have hSt := K.2.2.2.2
  refine lv_aload_n hx hb dX1_doing_0 rfl (lv_at hl 0 rfl) ?_
  refine gf_X1_34 K hG (gv1 hy hi) dX1_doing_1 ?_
  refine lv_if_eq (tgt := 9) hx hb dX1_doing_4 (by decide) (fun c1 => ?_) (fun c1 => ?_)
  · refine lv_aload_n hx hb dX1_doing_9 rfl (lv_at hl 0 rfl) ?_
    refine gf_X1_31 K hG (gv1 hy hi) dX1_doing_10 ?_
    refine lv_iconst (v := (-1)) hx hb dX1_doing_13 (by decide) ?_
    refine lv_icmp_eq (tgt := 19) hx hb dX1_doing_14 (by decide) (fun c2 => ?_) (fun c2 => ?_)
    · refine lv_aload_n hx hb dX1_doing_19 rfl (lv_at hl 0 rfl) ?_
      refine gf_X1_25 K hG (gv1 hy hi) dX1_doing_20 ?_
      refine lv_iconst (v := (-1)) hx hb dX1_doing_23 (by decide) ?_
      refine lv_icmp_eq (tgt := 31) hx hb dX1_doing_24 (by decide) (fun c3 => ?_) (fun c3 => ?_)
      · refine lv_iconst (v := 0) hx hb dX1_doing_31 (by decide) ?_
        exact g_iret K hG hS hr hlocks (by simp only [f_X1_doing, if_pos c1, if_pos c2, if_pos c3]) dX1_doing_32
      · refine lv_iconst (v := 1) hx hb dX1_doing_27 (by decide) ?_
        refine lv_goto (tgt := 32) hx hb dX1_doing_28 (by decide) ?_
        exact g_iret K hG hS hr hlocks (by simp only [f_X1_doing, if_pos c1, if_pos c2, if_neg c3]) dX1_doing_32
    · refine lv_iconst (v := 2) hx hb dX1_doing_17 (by decide) ?_
      exact g_iret K hG hS hr hlocks (by simp only [f_X1_doing, if_pos c1, if_neg c2]) dX1_doing_18
  · refine lv_iconst (v := 3) hx hb dX1_doing_7 (by decide) ?_
    exact g_iret K hG hS hr hlocks (by simp only [f_X1_doing, if_neg c1]) dX1_doing_8
def f_X1_loadAtWork (I : gI) (y i : Nat) : Int32 :=
  if (I y 1 i 4) = (-1) then
    if (I y 1 i 6) = (-1) then
      (-1)
    else
      ((I y 1 i 6) / 32)
  else
    ((I y 1 i 4) / 32)
set_option maxHeartbeats 4000000 in
set_option maxRecDepth 100000 in
theorem m_X1_loadAtWork (l : Launch) (E : gE) (J : Int64) (I : gI) (y i : Nat) (hy : y < 2) (hi : i < 6) (hw : wf (I y)) : gMi l E J yX1_loadAtWork cX1_loadAtWork 2 (some .int) 0 0 [.ref (gA E y 1 i)] I (f_X1_loadAtWork I y i) I := by
  refine g_entry (lv := [(0, .ref (gA E y 1 i))]) (by decide) (Nat.le_of_ble_eq_true rfl) rfl ?_
  intro p e s m below meth c0 ls K hG hS hml hr hlocks hl
  have K : kx E p m c0 cX1_loadAtWork "HayThieves$Lad" _ s := K
  have hx := K.1
  have hb := K.2.1
  have hts := K.2.2.1
  have hown := K.2.2.2.1
  have hSt := K.2.2.2.2
  refine lv_aload_n hx hb dX1_loadAtWork_0 rfl (lv_at hl 0 rfl) ?_
  refine gf_X1_25 K hG (gv1 hy hi) dX1_loadAtWork_1 ?_
  refine lv_iconst (v := (-1)) hx hb dX1_loadAtWork_4 (by decide) ?_
  refine lv_icmp_eq (tgt := 15) hx hb dX1_loadAtWork_5 (by decide) (fun c1 => ?_) (fun c1 => ?_)
  · refine lv_aload_n hx hb dX1_loadAtWork_15 rfl (lv_at hl 0 rfl) ?_
    refine gf_X1_31 K hG (gv1 hy hi) dX1_loadAtWork_16 ?_
    refine lv_istore_n (lv' := [(1, .int (I y 1 i 6)), (0, .ref (gA E y 1 i))]) hx hb dX1_loadAtWork_19 rfl hl (by decide) rfl (fun ls hl => ?_)
    refine lv_iload_n hx hb dX1_loadAtWork_20 rfl (lv_at hl 0 rfl) ?_
    refine lv_iconst (v := (-1)) hx hb dX1_loadAtWork_21 (by decide) ?_
    refine lv_icmp_ne (tgt := 29) hx hb dX1_loadAtWork_22 (by decide) (fun c2 => ?_) (fun c2 => ?_)
    · refine lv_iload_n hx hb dX1_loadAtWork_29 rfl (lv_at hl 0 rfl) ?_
      refine lv_bipush (v := 32) hx hb dX1_loadAtWork_30 (by decide) ?_
      refine lv_idiv hx hb dX1_loadAtWork_32 (by decide) ?_
      exact g_iret K hG hS hr hlocks (by simp only [f_X1_loadAtWork, if_pos c1, if_neg c2]) dX1_loadAtWork_33
    · refine lv_iconst (v := (-1)) hx hb dX1_loadAtWork_25 (by decide) ?_
      refine lv_goto (tgt := 33) hx hb dX1_loadAtWork_26 (by decide) ?_
      exact g_iret K hG hS hr hlocks (by simp only [f_X1_loadAtWork, if_pos c1, if_pos c2]) dX1_loadAtWork_33
  · refine lv_aload_n hx hb dX1_loadAtWork_8 rfl (lv_at hl 0 rfl) ?_
    refine gf_X1_25 K hG (gv1 hy hi) dX1_loadAtWork_9 ?_
    refine lv_goto (tgt := 19) hx hb dX1_loadAtWork_12 (by decide) ?_
    refine lv_istore_n (lv' := [(1, .int (I y 1 i 4)), (0, .ref (gA E y 1 i))]) hx hb dX1_loadAtWork_19 rfl hl (by decide) rfl (fun ls hl => ?_)
    refine lv_iload_n hx hb dX1_loadAtWork_20 rfl (lv_at hl 0 rfl) ?_
    refine lv_iconst (v := (-1)) hx hb dX1_loadAtWork_21 (by decide) ?_
    refine lv_icmp_ne (tgt := 29) hx hb dX1_loadAtWork_22 (by decide) (fun c3 => ?_) (fun c3 => ?_)
    · refine lv_iload_n hx hb dX1_loadAtWork_29 rfl (lv_at hl 0 rfl) ?_
      refine lv_bipush (v := 32) hx hb dX1_loadAtWork_30 (by decide) ?_
      refine lv_idiv hx hb dX1_loadAtWork_32 (by decide) ?_
      exact g_iret K hG hS hr hlocks (by simp only [f_X1_loadAtWork, if_neg c1, if_neg c3]) dX1_loadAtWork_33
    · exact absurd c3 c1
def f_X1_tell (I : gI) (y i : Nat) (x : Int32) : Int32 :=
  if x = 0 then
    (I y 1 i 1)
  else
    if x = 1 then
      (I y 1 i 2)
    else
      if x = 2 then
        (I y 2 ((I y 1 i 3).toNatClampNeg) 1)
      else
        if x = 3 then
          (f_X1_doing I y i)
        else
          if x = 4 then
            (I y 1 i 5)
          else
            if x = 5 then
              (I y 1 i 10)
            else
              if x = 6 then
                (I y 1 i 11)
              else
                if x = 7 then
                  (I y 1 i 9)
                else
                  (f_X1_loadAtWork I y i)
set_option maxHeartbeats 4000000 in
set_option maxRecDepth 100000 in
theorem m_X1_tell (l : Launch) (E : gE) (J : Int64) (I : gI) (y i : Nat) (x : Int32) (hy : y < 2) (hi : i < 6) (hw : wf (I y)) : gMi l E J yX1_tell cX1_tell 2 (some .int) 1 21 [.ref (gA E y 1 i), .int x] I (f_X1_tell I y i x) I := by
  refine g_entry (lv := [(0, .ref (gA E y 1 i)), (1, .int x)]) (by decide) (Nat.le_of_ble_eq_true rfl) rfl ?_
  intro p e s m below meth c0 ls K hG hS hml hr hlocks hl
  have K : kx E p m c0 cX1_tell "HayThieves$Lad" _ s := K
  have hx := K.1
  have hb := K.2.1
  have hts := K.2.2.1
  have hown := K.2.2.2.1
  have hSt := K.2.2.2.2
  refine lv_iload_n hx hb dX1_tell_0 rfl (lv_at hl 1 rfl) ?_
  by_cases c1_0 : x = 0
  · refine lv_tableIn (off := 47) (tgt := 48) hx hb dX1_tell_1 (by rw [c1_0]; decide) (by rw [c1_0]; decide) (by rw [c1_0]; decide) (by decide) ?_
    refine lv_aload_n hx hb dX1_tell_48 rfl (lv_at hl 0 rfl) ?_
    refine gf_X1_9 K hG (gv1 hy hi) dX1_tell_49 ?_
    exact g_iret K hG hS hr hlocks (by simp only [f_X1_tell, if_pos c1_0]) dX1_tell_52
  by_cases c1_1 : x = 1
  · refine lv_tableIn (off := 52) (tgt := 53) hx hb dX1_tell_1 (by rw [c1_1]; decide) (by rw [c1_1]; decide) (by rw [c1_1]; decide) (by decide) ?_
    refine lv_aload_n hx hb dX1_tell_53 rfl (lv_at hl 0 rfl) ?_
    refine gf_X1_15 K hG (gv1 hy hi) dX1_tell_54 ?_
    exact g_iret K hG hS hr hlocks (by simp only [f_X1_tell, if_neg c1_0, if_pos c1_1]) dX1_tell_57
  by_cases c1_2 : x = 2
  · refine lv_tableIn (off := 57) (tgt := 58) hx hb dX1_tell_1 (by rw [c1_2]; decide) (by rw [c1_2]; decide) (by rw [c1_2]; decide) (by decide) ?_
    refine lv_aload_n hx hb dX1_tell_58 rfl (lv_at hl 0 rfl) ?_
    refine gf_X1_21 K hG (gv1 hy hi) dX1_tell_59 ?_
    refine gf_X1_53 K hG (gv2 hy (hw.cart hi)) dX1_tell_62 ?_
    exact g_iret K hG hS hr hlocks (by simp only [f_X1_tell, if_neg c1_0, if_neg c1_1, if_pos c1_2]) dX1_tell_65
  by_cases c1_3 : x = 3
  · refine lv_tableIn (off := 65) (tgt := 66) hx hb dX1_tell_1 (by rw [c1_3]; decide) (by rw [c1_3]; decide) (by rw [c1_3]; decide) (by decide) ?_
    refine lv_aload_n hx hb dX1_tell_66 rfl (lv_at hl 0 rfl) ?_
    refine g_ki (g_runV (As := []) (rest := []) K hml ca_X1_doing q267 (m_X1_doing l E J I y i hy hi hw) hG hS (gv1 hy hi) rfl rfl rfl rfl hl.1 (Nat.le_of_ble_eq_true rfl) ⟨by decide, by decide⟩ dX1_tell_67 ⟨Nat.zero_le _, Nat.zero_le _⟩) hS (fun H locs hG hS => ?_)
    exact g_iret K hG hS hr hlocks (by simp only [f_X1_tell, if_neg c1_0, if_neg c1_1, if_neg c1_2, if_pos c1_3]) dX1_tell_70
  by_cases c1_4 : x = 4
  · refine lv_tableIn (off := 70) (tgt := 71) hx hb dX1_tell_1 (by rw [c1_4]; decide) (by rw [c1_4]; decide) (by rw [c1_4]; decide) (by decide) ?_
    refine lv_aload_n hx hb dX1_tell_71 rfl (lv_at hl 0 rfl) ?_
    refine gf_X1_28 K hG (gv1 hy hi) dX1_tell_72 ?_
    exact g_iret K hG hS hr hlocks (by simp only [f_X1_tell, if_neg c1_0, if_neg c1_1, if_neg c1_2, if_neg c1_3, if_pos c1_4]) dX1_tell_75
  by_cases c1_5 : x = 5
  · refine lv_tableIn (off := 75) (tgt := 76) hx hb dX1_tell_1 (by rw [c1_5]; decide) (by rw [c1_5]; decide) (by rw [c1_5]; decide) (by decide) ?_
    refine lv_aload_n hx hb dX1_tell_76 rfl (lv_at hl 0 rfl) ?_
    refine gf_X1_44 K hG (gv1 hy hi) dX1_tell_77 ?_
    exact g_iret K hG hS hr hlocks (by simp only [f_X1_tell, if_neg c1_0, if_neg c1_1, if_neg c1_2, if_neg c1_3, if_neg c1_4, if_pos c1_5]) dX1_tell_80
  by_cases c1_6 : x = 6
  · refine lv_tableIn (off := 80) (tgt := 81) hx hb dX1_tell_1 (by rw [c1_6]; decide) (by rw [c1_6]; decide) (by rw [c1_6]; decide) (by decide) ?_
    refine lv_aload_n hx hb dX1_tell_81 rfl (lv_at hl 0 rfl) ?_
    refine gf_X1_47 K hG (gv1 hy hi) dX1_tell_82 ?_
    exact g_iret K hG hS hr hlocks (by simp only [f_X1_tell, if_neg c1_0, if_neg c1_1, if_neg c1_2, if_neg c1_3, if_neg c1_4, if_neg c1_5, if_pos c1_6]) dX1_tell_85
  by_cases c1_7 : x = 7
  · refine lv_tableIn (off := 85) (tgt := 86) hx hb dX1_tell_1 (by rw [c1_7]; decide) (by rw [c1_7]; decide) (by rw [c1_7]; decide) (by decide) ?_
    refine lv_aload_n hx hb dX1_tell_86 rfl (lv_at hl 0 rfl) ?_
    refine gf_X1_41 K hG (gv1 hy hi) dX1_tell_87 ?_
    exact g_iret K hG hS hr hlocks (by simp only [f_X1_tell, if_neg c1_0, if_neg c1_1, if_neg c1_2, if_neg c1_3, if_neg c1_4, if_neg c1_5, if_neg c1_6, if_pos c1_7]) dX1_tell_90
  refine lv_tableOut (tgt := 91) hx hb dX1_tell_1 (gsw_0_7 c1_0 c1_1 c1_2 c1_3 c1_4 c1_5 c1_6 c1_7) (by decide) ?_
  refine lv_aload_n hx hb dX1_tell_91 rfl (lv_at hl 0 rfl) ?_
  refine g_ki (g_runV (As := []) (rest := []) K hml ca_X1_loadAtWork q271 (m_X1_loadAtWork l E J I y i hy hi hw) hG hS (gv1 hy hi) rfl rfl rfl rfl hl.1 (Nat.le_of_ble_eq_true rfl) ⟨by decide, by decide⟩ dX1_tell_92 ⟨Nat.zero_le _, Nat.zero_le _⟩) hS (fun H locs hG hS => ?_)
  exact g_iret K hG hS hr hlocks (by simp only [f_X1_tell, if_neg c1_0, if_neg c1_1, if_neg c1_2, if_neg c1_3, if_neg c1_4, if_neg c1_5, if_neg c1_6, if_neg c1_7]) dX1_tell_95
def f_X1_take (I : gI) (y i : Nat) (x b : Int32) : gI :=
  let I1 := gU I y 1 i 4 x
  let I2 := gU I1 y 1 i 5 b
  I2
set_option maxRecDepth 100000 in
theorem wf_X1_take (I : gI) (y i : Nat) (x b : Int32) (hy : y < 2) (hi : i < 6) (hw : wf (I y)) : wf (f_X1_take I y i x b y) := by
  obtain ⟨I1, hI1⟩ : ∃ z, z = gU I y 1 i 4 x := ⟨_, rfl⟩
  have hw1_y : wf (I1 y) := by rw [hI1]; exact wf_gU rfl hw
  obtain ⟨I2, hI2⟩ : ∃ z, z = gU I1 y 1 i 5 b := ⟨_, rfl⟩
  have hw2_y : wf (I2 y) := by rw [hI2]; exact wf_gU rfl hw1_y
  have eS : f_X1_take I y i x b = I2 := by simp only [f_X1_take, ← hI1, ← hI2]
  rw [eS]
  exact hw2_y
set_option maxRecDepth 100000 in
theorem ne_X1_take (I : gI) (y i : Nat) (x b : Int32) (hy : y < 2) (hi : i < 6) (hw : wf (I y)) {y' : Nat} (hne : y' ≠ y) : f_X1_take I y i x b y' = I y' := by
  have hn : I y' = I y' := rfl
  obtain ⟨I1, hI1⟩ : ∃ z, z = gU I y 1 i 4 x := ⟨_, rfl⟩
  have hw1_y : wf (I1 y) := by rw [hI1]; exact wf_gU rfl hw
  have hn1 : I1 y' = I y' := by rw [hI1]; exact (gU_ne _ _ _ _ _ hne).trans hn
  obtain ⟨I2, hI2⟩ : ∃ z, z = gU I1 y 1 i 5 b := ⟨_, rfl⟩
  have hw2_y : wf (I2 y) := by rw [hI2]; exact wf_gU rfl hw1_y
  have hn2 : I2 y' = I y' := by rw [hI2]; exact (gU_ne _ _ _ _ _ hne).trans hn1
  have eS : f_X1_take I y i x b = I2 := by simp only [f_X1_take, ← hI1, ← hI2]
  exact (congrFun eS y').trans hn2
set_option maxRecDepth 100000 in
theorem kn_X1_take (I : gI) (y i : Nat) (x b : Int32) (hy : y < 2) (hi : i < 6) (hw : wf (I y)) : f_X1_take I y i x b y 0 0 4 = I y 0 0 4 := by
  have hn : I y 0 0 4 = I y 0 0 4 := rfl
  obtain ⟨I1, hI1⟩ : ∃ z, z = gU I y 1 i 4 x := ⟨_, rfl⟩
  have hw1_y : wf (I1 y) := by rw [hI1]; exact wf_gU rfl hw
  have hn1 : I1 y 0 0 4 = I y 0 0 4 := by rw [hI1]; exact (kn_gU rfl).trans hn
  obtain ⟨I2, hI2⟩ : ∃ z, z = gU I1 y 1 i 5 b := ⟨_, rfl⟩
  have hw2_y : wf (I2 y) := by rw [hI2]; exact wf_gU rfl hw1_y
  have hn2 : I2 y 0 0 4 = I y 0 0 4 := by rw [hI2]; exact (kn_gU rfl).trans hn1
  have eS : f_X1_take I y i x b = I2 := by simp only [f_X1_take, ← hI1, ← hI2]
  exact (congrFun (congrFun (congrFun (congrFun eS y) 0) 0) 4).trans hn2
set_option maxHeartbeats 4000000 in
set_option maxRecDepth 100000 in
theorem m_X1_take (l : Launch) (E : gE) (J : Int64) (I : gI) (y i : Nat) (x b : Int32) (hy : y < 2) (hi : i < 6) (hw : wf (I y)) : gMv l E J yX1_take cX1_take 3 none 0 0 [.ref (gA E y 1 i), .int x, .int b] I (f_X1_take I y i x b) := by
  refine g_entry (lv := [(0, .ref (gA E y 1 i)), (1, .int x), (2, .int b)]) (by decide) (Nat.le_of_ble_eq_true rfl) rfl ?_
  intro p e s m below meth c0 ls K hG hS hml hr hlocks hl
  have K : kx E p m c0 cX1_take "HayThieves$Lad" _ s := K
  have hx := K.1
  have hb := K.2.1
  have hts := K.2.2.1
  have hown := K.2.2.2.1
  have hSt := K.2.2.2.2
  refine lv_aload_n hx hb dX1_take_0 rfl (lv_at hl 0 rfl) ?_
  refine lv_iload_n hx hb dX1_take_1 rfl (lv_at hl 1 rfl) ?_
  refine pf_X1_25 K hG hS (gv1 hy hi) dX1_take_2 (fun I1 hI1 H locs hG hS => ?_)
  have hw1_y : wf (I1 y) := by rw [hI1]; exact wf_gU rfl hw
  refine lv_aload_n hx hb dX1_take_5 rfl (lv_at hl 0 rfl) ?_
  refine lv_iload_n hx hb dX1_take_6 rfl (lv_at hl 2 rfl) ?_
  refine pf_X1_28 K hG hS (gv1 hy hi) dX1_take_7 (fun I2 hI2 H locs hG hS => ?_)
  have hw2_y : wf (I2 y) := by rw [hI2]; exact wf_gU rfl hw1_y
  have eS : I2 = (f_X1_take I y i x b) := (by simp only [f_X1_take, ← hI1, ← hI2])
  rw [eS] at hG
  exact g_vret K hG hS hr hlocks dX1_take_10
def f_X1_beIdle (I : gI) (y i : Nat) : gI :=
  let I1 := gU I y 1 i 9 ((I y 1 i 9) + 1)
  let I2 := gU I1 y 1 i 8 ((I1 y 1 i 8) + 1)
  if (I2 y 1 i 8) < 3 then
    I2
  else
    let I3 := gU I2 y 1 i 7 1
    let I4 := gU I3 y 1 i 8 0
    I4
set_option maxRecDepth 100000 in
theorem wf_X1_beIdle (I : gI) (y i : Nat) (hy : y < 2) (hi : i < 6) (hw : wf (I y)) : wf (f_X1_beIdle I y i y) := by
  obtain ⟨I1, hI1⟩ : ∃ z, z = gU I y 1 i 9 ((I y 1 i 9) + 1) := ⟨_, rfl⟩
  have hw1_y : wf (I1 y) := by rw [hI1]; exact wf_gU rfl hw
  obtain ⟨I2, hI2⟩ : ∃ z, z = gU I1 y 1 i 8 ((I1 y 1 i 8) + 1) := ⟨_, rfl⟩
  have hw2_y : wf (I2 y) := by rw [hI2]; exact wf_gU rfl hw1_y
  by_cases c1 : (I2 y 1 i 8) < 3
  · have eS : f_X1_beIdle I y i = I2 := by simp only [f_X1_beIdle, ← hI1, ← hI2, if_pos c1]
    rw [eS]
    exact hw2_y
  · obtain ⟨I3, hI3⟩ : ∃ z, z = gU I2 y 1 i 7 1 := ⟨_, rfl⟩
    have hw3_y : wf (I3 y) := by rw [hI3]; exact wf_gU rfl hw2_y
    obtain ⟨I4, hI4⟩ : ∃ z, z = gU I3 y 1 i 8 0 := ⟨_, rfl⟩
    have hw4_y : wf (I4 y) := by rw [hI4]; exact wf_gU rfl hw3_y
    have eS : f_X1_beIdle I y i = I4 := by simp only [f_X1_beIdle, ← hI1, ← hI2, ← hI3, ← hI4, if_neg c1]
    rw [eS]
    exact hw4_y
set_option maxRecDepth 100000 in
theorem ne_X1_beIdle (I : gI) (y i : Nat) (hy : y < 2) (hi : i < 6) (hw : wf (I y)) {y' : Nat} (hne : y' ≠ y) : f_X1_beIdle I y i y' = I y' := by
  have hn : I y' = I y' := rfl
  obtain ⟨I1, hI1⟩ : ∃ z, z = gU I y 1 i 9 ((I y 1 i 9) + 1) := ⟨_, rfl⟩
  have hw1_y : wf (I1 y) := by rw [hI1]; exact wf_gU rfl hw
  have hn1 : I1 y' = I y' := by rw [hI1]; exact (gU_ne _ _ _ _ _ hne).trans hn
  obtain ⟨I2, hI2⟩ : ∃ z, z = gU I1 y 1 i 8 ((I1 y 1 i 8) + 1) := ⟨_, rfl⟩
  have hw2_y : wf (I2 y) := by rw [hI2]; exact wf_gU rfl hw1_y
  have hn2 : I2 y' = I y' := by rw [hI2]; exact (gU_ne _ _ _ _ _ hne).trans hn1
  by_cases c1 : (I2 y 1 i 8) < 3
  · have eS : f_X1_beIdle I y i = I2 := by simp only [f_X1_beIdle, ← hI1, ← hI2, if_pos c1]
    exact (congrFun eS y').trans hn2
  · obtain ⟨I3, hI3⟩ : ∃ z, z = gU I2 y 1 i 7 1 := ⟨_, rfl⟩
    have hw3_y : wf (I3 y) := by rw [hI3]; exact wf_gU rfl hw2_y
    have hn3 : I3 y' = I y' := by rw [hI3]; exact (gU_ne _ _ _ _ _ hne).trans hn2
    obtain ⟨I4, hI4⟩ : ∃ z, z = gU I3 y 1 i 8 0 := ⟨_, rfl⟩
    have hw4_y : wf (I4 y) := by rw [hI4]; exact wf_gU rfl hw3_y
    have hn4 : I4 y' = I y' := by rw [hI4]; exact (gU_ne _ _ _ _ _ hne).trans hn3
    have eS : f_X1_beIdle I y i = I4 := by simp only [f_X1_beIdle, ← hI1, ← hI2, ← hI3, ← hI4, if_neg c1]
    exact (congrFun eS y').trans hn4
set_option maxRecDepth 100000 in
theorem kn_X1_beIdle (I : gI) (y i : Nat) (hy : y < 2) (hi : i < 6) (hw : wf (I y)) : f_X1_beIdle I y i y 0 0 4 = I y 0 0 4 := by
  have hn : I y 0 0 4 = I y 0 0 4 := rfl
  obtain ⟨I1, hI1⟩ : ∃ z, z = gU I y 1 i 9 ((I y 1 i 9) + 1) := ⟨_, rfl⟩
  have hw1_y : wf (I1 y) := by rw [hI1]; exact wf_gU rfl hw
  have hn1 : I1 y 0 0 4 = I y 0 0 4 := by rw [hI1]; exact (kn_gU rfl).trans hn
  obtain ⟨I2, hI2⟩ : ∃ z, z = gU I1 y 1 i 8 ((I1 y 1 i 8) + 1) := ⟨_, rfl⟩
  have hw2_y : wf (I2 y) := by rw [hI2]; exact wf_gU rfl hw1_y
  have hn2 : I2 y 0 0 4 = I y 0 0 4 := by rw [hI2]; exact (kn_gU rfl).trans hn1
  by_cases c1 : (I2 y 1 i 8) < 3
  · have eS : f_X1_beIdle I y i = I2 := by simp only [f_X1_beIdle, ← hI1, ← hI2, if_pos c1]
    exact (congrFun (congrFun (congrFun (congrFun eS y) 0) 0) 4).trans hn2
  · obtain ⟨I3, hI3⟩ : ∃ z, z = gU I2 y 1 i 7 1 := ⟨_, rfl⟩
    have hw3_y : wf (I3 y) := by rw [hI3]; exact wf_gU rfl hw2_y
    have hn3 : I3 y 0 0 4 = I y 0 0 4 := by rw [hI3]; exact (kn_gU rfl).trans hn2
    obtain ⟨I4, hI4⟩ : ∃ z, z = gU I3 y 1 i 8 0 := ⟨_, rfl⟩
    have hw4_y : wf (I4 y) := by rw [hI4]; exact wf_gU rfl hw3_y
    have hn4 : I4 y 0 0 4 = I y 0 0 4 := by rw [hI4]; exact (kn_gU rfl).trans hn3
    have eS : f_X1_beIdle I y i = I4 := by simp only [f_X1_beIdle, ← hI1, ← hI2, ← hI3, ← hI4, if_neg c1]
    exact (congrFun (congrFun (congrFun (congrFun eS y) 0) 0) 4).trans hn4
set_option maxHeartbeats 4000000 in
set_option maxRecDepth 100000 in
theorem m_X1_beIdle (l : Launch) (E : gE) (J : Int64) (I : gI) (y i : Nat) (hy : y < 2) (hi : i < 6) (hw : wf (I y)) : gMv l E J yX1_beIdle cX1_beIdle 1 none 0 0 [.ref (gA E y 1 i)] I (f_X1_beIdle I y i) := by
  refine g_entry (lv := [(0, .ref (gA E y 1 i))]) (by decide) (Nat.le_of_ble_eq_true rfl) rfl ?_
  intro p e s m below meth c0 ls K hG hS hml hr hlocks hl
  have K : kx E p m c0 cX1_beIdle "HayThieves$Lad" _ s := K
  have hx := K.1
  have hb := K.2.1
  have hts := K.2.2.1
  have hown := K.2.2.2.1
  have hSt := K.2.2.2.2
  refine lv_aload_n hx hb dX1_beIdle_0 rfl (lv_at hl 0 rfl) ?_
  refine lv_dup hx hb dX1_beIdle_1 rfl ?_
  refine gf_X1_41 K hG (gv1 hy hi) dX1_beIdle_2 ?_
  refine lv_iconst (v := 1) hx hb dX1_beIdle_5 (by decide) ?_
  refine lv_iadd hx hb dX1_beIdle_6 ?_
  refine pf_X1_41 K hG hS (gv1 hy hi) dX1_beIdle_7 (fun I1 hI1 H locs hG hS => ?_)
  have hw1_y : wf (I1 y) := by rw [hI1]; exact wf_gU rfl hw
  refine lv_aload_n hx hb dX1_beIdle_10 rfl (lv_at hl 0 rfl) ?_
  refine lv_dup hx hb dX1_beIdle_11 rfl ?_
  refine gf_X1_38 K hG (gv1 hy hi) dX1_beIdle_12 ?_
  refine lv_iconst (v := 1) hx hb dX1_beIdle_15 (by decide) ?_
  refine lv_iadd hx hb dX1_beIdle_16 ?_
  refine pf_X1_38 K hG hS (gv1 hy hi) dX1_beIdle_17 (fun I2 hI2 H locs hG hS => ?_)
  have hw2_y : wf (I2 y) := by rw [hI2]; exact wf_gU rfl hw1_y
  refine lv_aload_n hx hb dX1_beIdle_20 rfl (lv_at hl 0 rfl) ?_
  refine gf_X1_38 K hG (gv1 hy hi) dX1_beIdle_21 ?_
  refine lv_iconst (v := 3) hx hb dX1_beIdle_24 (by decide) ?_
  refine lv_icmp_lt (tgt := 38) hx hb dX1_beIdle_25 (by decide) (fun c1 => ?_) (fun c1 => ?_)
  · have eS : I2 = (f_X1_beIdle I y i) := (by simp only [f_X1_beIdle, ← hI1, ← hI2, if_pos c1])
    rw [eS] at hG
    exact g_vret K hG hS hr hlocks dX1_beIdle_38
  · refine lv_aload_n hx hb dX1_beIdle_28 rfl (lv_at hl 0 rfl) ?_
    refine lv_iconst (v := 1) hx hb dX1_beIdle_29 (by decide) ?_
    refine pf_X1_34 K hG hS (gv1 hy hi) gz1 dX1_beIdle_30 (fun I3 hI3 H locs hG hS => ?_)
    have hw3_y : wf (I3 y) := by rw [hI3]; exact wf_gU rfl hw2_y
    refine lv_aload_n hx hb dX1_beIdle_33 rfl (lv_at hl 0 rfl) ?_
    refine lv_iconst (v := 0) hx hb dX1_beIdle_34 (by decide) ?_
    refine pf_X1_38 K hG hS (gv1 hy hi) dX1_beIdle_35 (fun I4 hI4 H locs hG hS => ?_)
    have hw4_y : wf (I4 y) := by rw [hI4]; exact wf_gU rfl hw3_y
    have eS : I4 = (f_X1_beIdle I y i) := (by simp only [f_X1_beIdle, ← hI1, ← hI2, ← hI3, ← hI4, if_neg c1])
    rw [eS] at hG
    exact g_vret K hG hS hr hlocks dX1_beIdle_38
def f_X1_copyFrom (I : gI) (y i : Nat) (yo io : Nat) : gI :=
  let I1 := gU I y 1 i 1 (I yo 1 io 1)
  let I2 := gU I1 y 1 i 2 (I1 yo 1 io 2)
  let I3 := f_X0_copyFrom I2 y ((I2 y 1 i 3).toNatClampNeg) yo ((I2 yo 1 io 3).toNatClampNeg)
  let I4 := gU I3 y 1 i 4 (I3 yo 1 io 4)
  let I5 := gU I4 y 1 i 5 (I4 yo 1 io 5)
  let I6 := gU I5 y 1 i 6 (I5 yo 1 io 6)
  let I7 := gU I6 y 1 i 7 (I6 yo 1 io 7)
  let I8 := gU I7 y 1 i 8 (I7 yo 1 io 8)
  let I9 := gU I8 y 1 i 9 (I8 yo 1 io 9)
  let I10 := gU I9 y 1 i 10 (I9 yo 1 io 10)
  let I11 := gU I10 y 1 i 11 (I10 yo 1 io 11)
  I11
set_option maxRecDepth 100000 in
theorem wf_X1_copyFrom (I : gI) (y i : Nat) (yo io : Nat) (hy : y < 2) (hi : i < 6) (hw : wf (I y)) (hyo : yo < 2) (hio : io < 6) (hwo : wf (I yo)) (hne : yo ≠ y) (hz : I yo 1 io 7 = 0 ∨ I yo 1 io 7 = 1) : wf (f_X1_copyFrom I y i yo io y) := by
  obtain ⟨I1, hI1⟩ : ∃ z, z = gU I y 1 i 1 (I yo 1 io 1) := ⟨_, rfl⟩
  have hw1_y : wf (I1 y) := by rw [hI1]; exact wf_gU rfl hw
  have hw1_yo : wf (I1 yo) := by rw [hI1]; exact wf_other (by omega) hwo
  have hq1_yo : I1 yo = I yo := by rw [hI1]; exact gU_ne _ _ _ _ _ (by omega)
  obtain ⟨I2, hI2⟩ : ∃ z, z = gU I1 y 1 i 2 (I1 yo 1 io 2) := ⟨_, rfl⟩
  have hw2_y : wf (I2 y) := by rw [hI2]; exact wf_gU rfl hw1_y
  have hw2_yo : wf (I2 yo) := by rw [hI2]; exact wf_other (by omega) hw1_yo
  have hq2_yo : I2 yo = I yo := by rw [hI2]; exact (gU_ne _ _ _ _ _ (by omega)).trans hq1_yo
  obtain ⟨I3, hI3⟩ : ∃ z, z = f_X0_copyFrom I2 y ((I2 y 1 i 3).toNatClampNeg) yo ((I2 yo 1 io 3).toNatClampNeg) := ⟨_, rfl⟩
  have hw3_y : wf (I3 y) := by rw [hI3]; exact wf_X0_copyFrom I2 y ((I2 y 1 i 3).toNatClampNeg) yo ((I2 yo 1 io 3).toNatClampNeg) hy (hw2_y.cart hi) hw2_y hyo (hw2_yo.cart hio) hw2_yo (by omega)
  have hw3_yo : wf (I3 yo) := by rw [hI3]; exact wf_ne ((ne_X0_copyFrom I2 y ((I2 y 1 i 3).toNatClampNeg) yo ((I2 yo 1 io 3).toNatClampNeg) hy (hw2_y.cart hi) hw2_y hyo (hw2_yo.cart hio) hw2_yo (by omega) (y' := yo) (by omega))) hw2_yo
  have hq3_yo : I3 yo = I yo := by rw [hI3]; exact (ne_X0_copyFrom I2 y ((I2 y 1 i 3).toNatClampNeg) yo ((I2 yo 1 io 3).toNatClampNeg) hy (hw2_y.cart hi) hw2_y hyo (hw2_yo.cart hio) hw2_yo (by omega) (y' := yo) (by omega)).trans hq2_yo
  obtain ⟨I4, hI4⟩ : ∃ z, z = gU I3 y 1 i 4 (I3 yo 1 io 4) := ⟨_, rfl⟩
  have hw4_y : wf (I4 y) := by rw [hI4]; exact wf_gU rfl hw3_y
  have hw4_yo : wf (I4 yo) := by rw [hI4]; exact wf_other (by omega) hw3_yo
  have hq4_yo : I4 yo = I yo := by rw [hI4]; exact (gU_ne _ _ _ _ _ (by omega)).trans hq3_yo
  obtain ⟨I5, hI5⟩ : ∃ z, z = gU I4 y 1 i 5 (I4 yo 1 io 5) := ⟨_, rfl⟩
  have hw5_y : wf (I5 y) := by rw [hI5]; exact wf_gU rfl hw4_y
  have hw5_yo : wf (I5 yo) := by rw [hI5]; exact wf_other (by omega) hw4_yo
  have hq5_yo : I5 yo = I yo := by rw [hI5]; exact (gU_ne _ _ _ _ _ (by omega)).trans hq4_yo
  obtain ⟨I6, hI6⟩ : ∃ z, z = gU I5 y 1 i 6 (I5 yo 1 io 6) := ⟨_, rfl⟩
  have hw6_y : wf (I6 y) := by rw [hI6]; exact wf_gU rfl hw5_y
  have hw6_yo : wf (I6 yo) := by rw [hI6]; exact wf_other (by omega) hw5_yo
  have hq6_yo : I6 yo = I yo := by rw [hI6]; exact (gU_ne _ _ _ _ _ (by omega)).trans hq5_yo
  obtain ⟨I7, hI7⟩ : ∃ z, z = gU I6 y 1 i 7 (I6 yo 1 io 7) := ⟨_, rfl⟩
  have hw7_y : wf (I7 y) := by rw [hI7]; exact wf_gU rfl hw6_y
  have hw7_yo : wf (I7 yo) := by rw [hI7]; exact wf_other (by omega) hw6_yo
  have hq7_yo : I7 yo = I yo := by rw [hI7]; exact (gU_ne _ _ _ _ _ (by omega)).trans hq6_yo
  obtain ⟨I8, hI8⟩ : ∃ z, z = gU I7 y 1 i 8 (I7 yo 1 io 8) := ⟨_, rfl⟩
  have hw8_y : wf (I8 y) := by rw [hI8]; exact wf_gU rfl hw7_y
  have hw8_yo : wf (I8 yo) := by rw [hI8]; exact wf_other (by omega) hw7_yo
  have hq8_yo : I8 yo = I yo := by rw [hI8]; exact (gU_ne _ _ _ _ _ (by omega)).trans hq7_yo
  obtain ⟨I9, hI9⟩ : ∃ z, z = gU I8 y 1 i 9 (I8 yo 1 io 9) := ⟨_, rfl⟩
  have hw9_y : wf (I9 y) := by rw [hI9]; exact wf_gU rfl hw8_y
  have hw9_yo : wf (I9 yo) := by rw [hI9]; exact wf_other (by omega) hw8_yo
  have hq9_yo : I9 yo = I yo := by rw [hI9]; exact (gU_ne _ _ _ _ _ (by omega)).trans hq8_yo
  obtain ⟨I10, hI10⟩ : ∃ z, z = gU I9 y 1 i 10 (I9 yo 1 io 10) := ⟨_, rfl⟩
  have hw10_y : wf (I10 y) := by rw [hI10]; exact wf_gU rfl hw9_y
  have hw10_yo : wf (I10 yo) := by rw [hI10]; exact wf_other (by omega) hw9_yo
  have hq10_yo : I10 yo = I yo := by rw [hI10]; exact (gU_ne _ _ _ _ _ (by omega)).trans hq9_yo
  obtain ⟨I11, hI11⟩ : ∃ z, z = gU I10 y 1 i 11 (I10 yo 1 io 11) := ⟨_, rfl⟩
  have hw11_y : wf (I11 y) := by rw [hI11]; exact wf_gU rfl hw10_y
  have hw11_yo : wf (I11 yo) := by rw [hI11]; exact wf_other (by omega) hw10_yo
  have hq11_yo : I11 yo = I yo := by rw [hI11]; exact (gU_ne _ _ _ _ _ (by omega)).trans hq10_yo
  have eS : f_X1_copyFrom I y i yo io = I11 := by simp only [f_X1_copyFrom, ← hI1, ← hI2, ← hI3, ← hI4, ← hI5, ← hI6, ← hI7, ← hI8, ← hI9, ← hI10, ← hI11]
  rw [eS]
  exact hw11_y
set_option maxRecDepth 100000 in
theorem ne_X1_copyFrom (I : gI) (y i : Nat) (yo io : Nat) (hy : y < 2) (hi : i < 6) (hw : wf (I y)) (hyo : yo < 2) (hio : io < 6) (hwo : wf (I yo)) (hne : yo ≠ y) (hz : I yo 1 io 7 = 0 ∨ I yo 1 io 7 = 1) {y' : Nat} (hne : y' ≠ y) : f_X1_copyFrom I y i yo io y' = I y' := by
  have hn : I y' = I y' := rfl
  obtain ⟨I1, hI1⟩ : ∃ z, z = gU I y 1 i 1 (I yo 1 io 1) := ⟨_, rfl⟩
  have hw1_y : wf (I1 y) := by rw [hI1]; exact wf_gU rfl hw
  have hw1_yo : wf (I1 yo) := by rw [hI1]; exact wf_other (by omega) hwo
  have hq1_yo : I1 yo = I yo := by rw [hI1]; exact gU_ne _ _ _ _ _ (by omega)
  have hn1 : I1 y' = I y' := by rw [hI1]; exact (gU_ne _ _ _ _ _ hne).trans hn
  obtain ⟨I2, hI2⟩ : ∃ z, z = gU I1 y 1 i 2 (I1 yo 1 io 2) := ⟨_, rfl⟩
  have hw2_y : wf (I2 y) := by rw [hI2]; exact wf_gU rfl hw1_y
  have hw2_yo : wf (I2 yo) := by rw [hI2]; exact wf_other (by omega) hw1_yo
  have hq2_yo : I2 yo = I yo := by rw [hI2]; exact (gU_ne _ _ _ _ _ (by omega)).trans hq1_yo
  have hn2 : I2 y' = I y' := by rw [hI2]; exact (gU_ne _ _ _ _ _ hne).trans hn1
  obtain ⟨I3, hI3⟩ : ∃ z, z = f_X0_copyFrom I2 y ((I2 y 1 i 3).toNatClampNeg) yo ((I2 yo 1 io 3).toNatClampNeg) := ⟨_, rfl⟩
  have hw3_y : wf (I3 y) := by rw [hI3]; exact wf_X0_copyFrom I2 y ((I2 y 1 i 3).toNatClampNeg) yo ((I2 yo 1 io 3).toNatClampNeg) hy (hw2_y.cart hi) hw2_y hyo (hw2_yo.cart hio) hw2_yo (by omega)
  have hw3_yo : wf (I3 yo) := by rw [hI3]; exact wf_ne ((ne_X0_copyFrom I2 y ((I2 y 1 i 3).toNatClampNeg) yo ((I2 yo 1 io 3).toNatClampNeg) hy (hw2_y.cart hi) hw2_y hyo (hw2_yo.cart hio) hw2_yo (by omega) (y' := yo) (by omega))) hw2_yo
  have hq3_yo : I3 yo = I yo := by rw [hI3]; exact (ne_X0_copyFrom I2 y ((I2 y 1 i 3).toNatClampNeg) yo ((I2 yo 1 io 3).toNatClampNeg) hy (hw2_y.cart hi) hw2_y hyo (hw2_yo.cart hio) hw2_yo (by omega) (y' := yo) (by omega)).trans hq2_yo
  have hn3 : I3 y' = I y' := by rw [hI3]; exact (ne_X0_copyFrom I2 y ((I2 y 1 i 3).toNatClampNeg) yo ((I2 yo 1 io 3).toNatClampNeg) hy (hw2_y.cart hi) hw2_y hyo (hw2_yo.cart hio) hw2_yo (by omega) (y' := y') hne).trans hn2
  obtain ⟨I4, hI4⟩ : ∃ z, z = gU I3 y 1 i 4 (I3 yo 1 io 4) := ⟨_, rfl⟩
  have hw4_y : wf (I4 y) := by rw [hI4]; exact wf_gU rfl hw3_y
  have hw4_yo : wf (I4 yo) := by rw [hI4]; exact wf_other (by omega) hw3_yo
  have hq4_yo : I4 yo = I yo := by rw [hI4]; exact (gU_ne _ _ _ _ _ (by omega)).trans hq3_yo
  have hn4 : I4 y' = I y' := by rw [hI4]; exact (gU_ne _ _ _ _ _ hne).trans hn3
  obtain ⟨I5, hI5⟩ : ∃ z, z = gU I4 y 1 i 5 (I4 yo 1 io 5) := ⟨_, rfl⟩
  have hw5_y : wf (I5 y) := by rw [hI5]; exact wf_gU rfl hw4_y
  have hw5_yo : wf (I5 yo) := by rw [hI5]; exact wf_other (by omega) hw4_yo
  have hq5_yo : I5 yo = I yo := by rw [hI5]; exact (gU_ne _ _ _ _ _ (by omega)).trans hq4_yo
  have hn5 : I5 y' = I y' := by rw [hI5]; exact (gU_ne _ _ _ _ _ hne).trans hn4
  obtain ⟨I6, hI6⟩ : ∃ z, z = gU I5 y 1 i 6 (I5 yo 1 io 6) := ⟨_, rfl⟩
  have hw6_y : wf (I6 y) := by rw [hI6]; exact wf_gU rfl hw5_y
  have hw6_yo : wf (I6 yo) := by rw [hI6]; exact wf_other (by omega) hw5_yo
  have hq6_yo : I6 yo = I yo := by rw [hI6]; exact (gU_ne _ _ _ _ _ (by omega)).trans hq5_yo
  have hn6 : I6 y' = I y' := by rw [hI6]; exact (gU_ne _ _ _ _ _ hne).trans hn5
  obtain ⟨I7, hI7⟩ : ∃ z, z = gU I6 y 1 i 7 (I6 yo 1 io 7) := ⟨_, rfl⟩
  have hw7_y : wf (I7 y) := by rw [hI7]; exact wf_gU rfl hw6_y
  have hw7_yo : wf (I7 yo) := by rw [hI7]; exact wf_other (by omega) hw6_yo
  have hq7_yo : I7 yo = I yo := by rw [hI7]; exact (gU_ne _ _ _ _ _ (by omega)).trans hq6_yo
  have hn7 : I7 y' = I y' := by rw [hI7]; exact (gU_ne _ _ _ _ _ hne).trans hn6
  obtain ⟨I8, hI8⟩ : ∃ z, z = gU I7 y 1 i 8 (I7 yo 1 io 8) := ⟨_, rfl⟩
  have hw8_y : wf (I8 y) := by rw [hI8]; exact wf_gU rfl hw7_y
  have hw8_yo : wf (I8 yo) := by rw [hI8]; exact wf_other (by omega) hw7_yo
  have hq8_yo : I8 yo = I yo := by rw [hI8]; exact (gU_ne _ _ _ _ _ (by omega)).trans hq7_yo
  have hn8 : I8 y' = I y' := by rw [hI8]; exact (gU_ne _ _ _ _ _ hne).trans hn7
  obtain ⟨I9, hI9⟩ : ∃ z, z = gU I8 y 1 i 9 (I8 yo 1 io 9) := ⟨_, rfl⟩
  have hw9_y : wf (I9 y) := by rw [hI9]; exact wf_gU rfl hw8_y
  have hw9_yo : wf (I9 yo) := by rw [hI9]; exact wf_other (by omega) hw8_yo
  have hq9_yo : I9 yo = I yo := by rw [hI9]; exact (gU_ne _ _ _ _ _ (by omega)).trans hq8_yo
  have hn9 : I9 y' = I y' := by rw [hI9]; exact (gU_ne _ _ _ _ _ hne).trans hn8
  obtain ⟨I10, hI10⟩ : ∃ z, z = gU I9 y 1 i 10 (I9 yo 1 io 10) := ⟨_, rfl⟩
  have hw10_y : wf (I10 y) := by rw [hI10]; exact wf_gU rfl hw9_y
  have hw10_yo : wf (I10 yo) := by rw [hI10]; exact wf_other (by omega) hw9_yo
  have hq10_yo : I10 yo = I yo := by rw [hI10]; exact (gU_ne _ _ _ _ _ (by omega)).trans hq9_yo
  have hn10 : I10 y' = I y' := by rw [hI10]; exact (gU_ne _ _ _ _ _ hne).trans hn9
  obtain ⟨I11, hI11⟩ : ∃ z, z = gU I10 y 1 i 11 (I10 yo 1 io 11) := ⟨_, rfl⟩
  have hw11_y : wf (I11 y) := by rw [hI11]; exact wf_gU rfl hw10_y
  have hw11_yo : wf (I11 yo) := by rw [hI11]; exact wf_other (by omega) hw10_yo
  have hq11_yo : I11 yo = I yo := by rw [hI11]; exact (gU_ne _ _ _ _ _ (by omega)).trans hq10_yo
  have hn11 : I11 y' = I y' := by rw [hI11]; exact (gU_ne _ _ _ _ _ hne).trans hn10
  have eS : f_X1_copyFrom I y i yo io = I11 := by simp only [f_X1_copyFrom, ← hI1, ← hI2, ← hI3, ← hI4, ← hI5, ← hI6, ← hI7, ← hI8, ← hI9, ← hI10, ← hI11]
  exact (congrFun eS y').trans hn11
set_option maxRecDepth 100000 in
theorem kn_X1_copyFrom (I : gI) (y i : Nat) (yo io : Nat) (hy : y < 2) (hi : i < 6) (hw : wf (I y)) (hyo : yo < 2) (hio : io < 6) (hwo : wf (I yo)) (hne : yo ≠ y) (hz : I yo 1 io 7 = 0 ∨ I yo 1 io 7 = 1) : f_X1_copyFrom I y i yo io y 0 0 4 = I y 0 0 4 := by
  have hn : I y 0 0 4 = I y 0 0 4 := rfl
  obtain ⟨I1, hI1⟩ : ∃ z, z = gU I y 1 i 1 (I yo 1 io 1) := ⟨_, rfl⟩
  have hw1_y : wf (I1 y) := by rw [hI1]; exact wf_gU rfl hw
  have hw1_yo : wf (I1 yo) := by rw [hI1]; exact wf_other (by omega) hwo
  have hq1_yo : I1 yo = I yo := by rw [hI1]; exact gU_ne _ _ _ _ _ (by omega)
  have hn1 : I1 y 0 0 4 = I y 0 0 4 := by rw [hI1]; exact (kn_gU rfl).trans hn
  obtain ⟨I2, hI2⟩ : ∃ z, z = gU I1 y 1 i 2 (I1 yo 1 io 2) := ⟨_, rfl⟩
  have hw2_y : wf (I2 y) := by rw [hI2]; exact wf_gU rfl hw1_y
  have hw2_yo : wf (I2 yo) := by rw [hI2]; exact wf_other (by omega) hw1_yo
  have hq2_yo : I2 yo = I yo := by rw [hI2]; exact (gU_ne _ _ _ _ _ (by omega)).trans hq1_yo
  have hn2 : I2 y 0 0 4 = I y 0 0 4 := by rw [hI2]; exact (kn_gU rfl).trans hn1
  obtain ⟨I3, hI3⟩ : ∃ z, z = f_X0_copyFrom I2 y ((I2 y 1 i 3).toNatClampNeg) yo ((I2 yo 1 io 3).toNatClampNeg) := ⟨_, rfl⟩
  have hw3_y : wf (I3 y) := by rw [hI3]; exact wf_X0_copyFrom I2 y ((I2 y 1 i 3).toNatClampNeg) yo ((I2 yo 1 io 3).toNatClampNeg) hy (hw2_y.cart hi) hw2_y hyo (hw2_yo.cart hio) hw2_yo (by omega)
  have hw3_yo : wf (I3 yo) := by rw [hI3]; exact wf_ne ((ne_X0_copyFrom I2 y ((I2 y 1 i 3).toNatClampNeg) yo ((I2 yo 1 io 3).toNatClampNeg) hy (hw2_y.cart hi) hw2_y hyo (hw2_yo.cart hio) hw2_yo (by omega) (y' := yo) (by omega))) hw2_yo
  have hq3_yo : I3 yo = I yo := by rw [hI3]; exact (ne_X0_copyFrom I2 y ((I2 y 1 i 3).toNatClampNeg) yo ((I2 yo 1 io 3).toNatClampNeg) hy (hw2_y.cart hi) hw2_y hyo (hw2_yo.cart hio) hw2_yo (by omega) (y' := yo) (by omega)).trans hq2_yo
  have hn3 : I3 y 0 0 4 = I y 0 0 4 := by rw [hI3]; exact (kn_X0_copyFrom I2 y ((I2 y 1 i 3).toNatClampNeg) yo ((I2 yo 1 io 3).toNatClampNeg) hy (hw2_y.cart hi) hw2_y hyo (hw2_yo.cart hio) hw2_yo (by omega)).trans hn2
  obtain ⟨I4, hI4⟩ : ∃ z, z = gU I3 y 1 i 4 (I3 yo 1 io 4) := ⟨_, rfl⟩
  have hw4_y : wf (I4 y) := by rw [hI4]; exact wf_gU rfl hw3_y
  have hw4_yo : wf (I4 yo) := by rw [hI4]; exact wf_other (by omega) hw3_yo
  have hq4_yo : I4 yo = I yo := by rw [hI4]; exact (gU_ne _ _ _ _ _ (by omega)).trans hq3_yo
  have hn4 : I4 y 0 0 4 = I y 0 0 4 := by rw [hI4]; exact (kn_gU rfl).trans hn3
  obtain ⟨I5, hI5⟩ : ∃ z, z = gU I4 y 1 i 5 (I4 yo 1 io 5) := ⟨_, rfl⟩
  have hw5_y : wf (I5 y) := by rw [hI5]; exact wf_gU rfl hw4_y
  have hw5_yo : wf (I5 yo) := by rw [hI5]; exact wf_other (by omega) hw4_yo
  have hq5_yo : I5 yo = I yo := by rw [hI5]; exact (gU_ne _ _ _ _ _ (by omega)).trans hq4_yo
  have hn5 : I5 y 0 0 4 = I y 0 0 4 := by rw [hI5]; exact (kn_gU rfl).trans hn4
  obtain ⟨I6, hI6⟩ : ∃ z, z = gU I5 y 1 i 6 (I5 yo 1 io 6) := ⟨_, rfl⟩
  have hw6_y : wf (I6 y) := by rw [hI6]; exact wf_gU rfl hw5_y
  have hw6_yo : wf (I6 yo) := by rw [hI6]; exact wf_other (by omega) hw5_yo
  have hq6_yo : I6 yo = I yo := by rw [hI6]; exact (gU_ne _ _ _ _ _ (by omega)).trans hq5_yo
  have hn6 : I6 y 0 0 4 = I y 0 0 4 := by rw [hI6]; exact (kn_gU rfl).trans hn5
  obtain ⟨I7, hI7⟩ : ∃ z, z = gU I6 y 1 i 7 (I6 yo 1 io 7) := ⟨_, rfl⟩
  have hw7_y : wf (I7 y) := by rw [hI7]; exact wf_gU rfl hw6_y
  have hw7_yo : wf (I7 yo) := by rw [hI7]; exact wf_other (by omega) hw6_yo
  have hq7_yo : I7 yo = I yo := by rw [hI7]; exact (gU_ne _ _ _ _ _ (by omega)).trans hq6_yo
  have hn7 : I7 y 0 0 4 = I y 0 0 4 := by rw [hI7]; exact (kn_gU rfl).trans hn6
  obtain ⟨I8, hI8⟩ : ∃ z, z = gU I7 y 1 i 8 (I7 yo 1 io 8) := ⟨_, rfl⟩
  have hw8_y : wf (I8 y) := by rw [hI8]; exact wf_gU rfl hw7_y
  have hw8_yo : wf (I8 yo) := by rw [hI8]; exact wf_other (by omega) hw7_yo
  have hq8_yo : I8 yo = I yo := by rw [hI8]; exact (gU_ne _ _ _ _ _ (by omega)).trans hq7_yo
  have hn8 : I8 y 0 0 4 = I y 0 0 4 := by rw [hI8]; exact (kn_gU rfl).trans hn7
  obtain ⟨I9, hI9⟩ : ∃ z, z = gU I8 y 1 i 9 (I8 yo 1 io 9) := ⟨_, rfl⟩
  have hw9_y : wf (I9 y) := by rw [hI9]; exact wf_gU rfl hw8_y
  have hw9_yo : wf (I9 yo) := by rw [hI9]; exact wf_other (by omega) hw8_yo
  have hq9_yo : I9 yo = I yo := by rw [hI9]; exact (gU_ne _ _ _ _ _ (by omega)).trans hq8_yo
  have hn9 : I9 y 0 0 4 = I y 0 0 4 := by rw [hI9]; exact (kn_gU rfl).trans hn8
  obtain ⟨I10, hI10⟩ : ∃ z, z = gU I9 y 1 i 10 (I9 yo 1 io 10) := ⟨_, rfl⟩
  have hw10_y : wf (I10 y) := by rw [hI10]; exact wf_gU rfl hw9_y
  have hw10_yo : wf (I10 yo) := by rw [hI10]; exact wf_other (by omega) hw9_yo
  have hq10_yo : I10 yo = I yo := by rw [hI10]; exact (gU_ne _ _ _ _ _ (by omega)).trans hq9_yo
  have hn10 : I10 y 0 0 4 = I y 0 0 4 := by rw [hI10]; exact (kn_gU rfl).trans hn9
  obtain ⟨I11, hI11⟩ : ∃ z, z = gU I10 y 1 i 11 (I10 yo 1 io 11) := ⟨_, rfl⟩
  have hw11_y : wf (I11 y) := by rw [hI11]; exact wf_gU rfl hw10_y
  have hw11_yo : wf (I11 yo) := by rw [hI11]; exact wf_other (by omega) hw10_yo
  have hq11_yo : I11 yo = I yo := by rw [hI11]; exact (gU_ne _ _ _ _ _ (by omega)).trans hq10_yo
  have hn11 : I11 y 0 0 4 = I y 0 0 4 := by rw [hI11]; exact (kn_gU rfl).trans hn10
  have eS : f_X1_copyFrom I y i yo io = I11 := by simp only [f_X1_copyFrom, ← hI1, ← hI2, ← hI3, ← hI4, ← hI5, ← hI6, ← hI7, ← hI8, ← hI9, ← hI10, ← hI11]
  exact (congrFun (congrFun (congrFun (congrFun eS y) 0) 0) 4).trans hn11
set_option maxHeartbeats 4000000 in
set_option maxRecDepth 100000 in
theorem m_X1_copyFrom (l : Launch) (E : gE) (J : Int64) (I : gI) (y i : Nat) (yo io : Nat) (hy : y < 2) (hi : i < 6) (hw : wf (I y)) (hyo : yo < 2) (hio : io < 6) (hwo : wf (I yo)) (hne : yo ≠ y) (hz : I yo 1 io 7 = 0 ∨ I yo 1 io 7 = 1) : gMv l E J yX1_copyFrom cX1_copyFrom 2 none 2 61 [.ref (gA E y 1 i), .ref (gA E yo 1 io)] I (f_X1_copyFrom I y i yo io) := by
  refine g_entry (lv := [(0, .ref (gA E y 1 i)), (1, .ref (gA E yo 1 io))]) (by decide) (Nat.le_of_ble_eq_true rfl) rfl ?_
  intro p e s m below meth c0 ls K hG hS hml hr hlocks hl
  have K : kx E p m c0 cX1_copyFrom "HayThieves$Lad" _ s := K
  have hx := K.1
  have hb := K.2.1
  have hts := K.2.2.1
  have hown := K.2.2.2.1
  have hSt := K.2.2.2.2
  refine lv_aload_n hx hb dX1_copyFrom_0 rfl (lv_at hl 0 rfl) ?_
  refine lv_aload_n hx hb dX1_copyFrom_1 rfl (lv_at hl 1 rfl) ?_
  refine gf_X1_9 K hG (gv1 hyo hio) dX1_copyFrom_2 ?_
  refine pf_X1_9 K hG hS (gv1 hy hi) dX1_copyFrom_5 (fun I1 hI1 H locs hG hS => ?_)
  have hw1_y : wf (I1 y) := by rw [hI1]; exact wf_gU rfl hw
  have hw1_yo : wf (I1 yo) := by rw [hI1]; exact wf_other (by omega) hwo
  have hq1_yo : I1 yo = I yo := by rw [hI1]; exact gU_ne _ _ _ _ _ (by omega)
  refine lv_aload_n hx hb dX1_copyFrom_8 rfl (lv_at hl 0 rfl) ?_
  refine lv_aload_n hx hb dX1_copyFrom_9 rfl (lv_at hl 1 rfl) ?_
  refine gf_X1_15 K hG (gv1 hyo hio) dX1_copyFrom_10 ?_
  refine pf_X1_15 K hG hS (gv1 hy hi) dX1_copyFrom_13 (fun I2 hI2 H locs hG hS => ?_)
  have hw2_y : wf (I2 y) := by rw [hI2]; exact wf_gU rfl hw1_y
  have hw2_yo : wf (I2 yo) := by rw [hI2]; exact wf_other (by omega) hw1_yo
  have hq2_yo : I2 yo = I yo := by rw [hI2]; exact (gU_ne _ _ _ _ _ (by omega)).trans hq1_yo
  refine lv_aload_n hx hb dX1_copyFrom_16 rfl (lv_at hl 0 rfl) ?_
  refine gf_X1_21 K hG (gv1 hy hi) dX1_copyFrom_17 ?_
  refine lv_aload_n hx hb dX1_copyFrom_20 rfl (lv_at hl 1 rfl) ?_
  refine gf_X1_21 K hG (gv1 hyo hio) dX1_copyFrom_21 ?_
  refine g_kv (g_runV (As := [.ref (gA E yo 2 ((I2 yo 1 io 3).toNatClampNeg))]) (rest := []) K hml ca_X0_copyFrom q473 (m_X0_copyFrom l E J I2 y ((I2 y 1 i 3).toNatClampNeg) yo ((I2 yo 1 io 3).toNatClampNeg) hy (hw2_y.cart hi) hw2_y hyo (hw2_yo.cart hio) hw2_yo (by omega)) hG hS (gv2 hy (hw2_y.cart hi)) rfl rfl rfl rfl hl.1 (Nat.le_of_ble_eq_true rfl) ⟨by decide, by decide⟩ dX1_copyFrom_24 ⟨Nat.zero_le _, Nat.zero_le _⟩) hS (fun H locs hG hS => ?_)
  obtain ⟨I3, hI3⟩ : ∃ z, z = f_X0_copyFrom I2 y ((I2 y 1 i 3).toNatClampNeg) yo ((I2 yo 1 io 3).toNatClampNeg) := ⟨_, rfl⟩
  rw [← hI3] at hG
  have hw3_y : wf (I3 y) := by rw [hI3]; exact wf_X0_copyFrom I2 y ((I2 y 1 i 3).toNatClampNeg) yo ((I2 yo 1 io 3).toNatClampNeg) hy (hw2_y.cart hi) hw2_y hyo (hw2_yo.cart hio) hw2_yo (by omega)
  have hw3_yo : wf (I3 yo) := by rw [hI3]; exact wf_ne ((ne_X0_copyFrom I2 y ((I2 y 1 i 3).toNatClampNeg) yo ((I2 yo 1 io 3).toNatClampNeg) hy (hw2_y.cart hi) hw2_y hyo (hw2_yo.cart hio) hw2_yo (by omega) (y' := yo) (by omega))) hw2_yo
  have hq3_yo : I3 yo = I yo := by rw [hI3]; exact (ne_X0_copyFrom I2 y ((I2 y 1 i 3).toNatClampNeg) yo ((I2 yo 1 io 3).toNatClampNeg) hy (hw2_y.cart hi) hw2_y hyo (hw2_yo.cart hio) hw2_yo (by omega) (y' := yo) (by omega)).trans hq2_yo
  refine lv_aload_n hx hb dX1_copyFrom_27 rfl (lv_at hl 0 rfl) ?_
  refine lv_aload_n hx hb dX1_copyFrom_28 rfl (lv_at hl 1 rfl) ?_
  refine gf_X1_25 K hG (gv1 hyo hio) dX1_copyFrom_29 ?_
  refine pf_X1_25 K hG hS (gv1 hy hi) dX1_copyFrom_32 (fun I4 hI4 H locs hG hS => ?_)
  have hw4_y : wf (I4 y) := by rw [hI4]; exact wf_gU rfl hw3_y
  have hw4_yo : wf (I4 yo) := by rw [hI4]; exact wf_other (by omega) hw3_yo
  have hq4_yo : I4 yo = I yo := by rw [hI4]; exact (gU_ne _ _ _ _ _ (by omega)).trans hq3_yo
  refine lv_aload_n hx hb dX1_copyFrom_35 rfl (lv_at hl 0 rfl) ?_
  refine lv_aload_n hx hb dX1_copyFrom_36 rfl (lv_at hl 1 rfl) ?_
  refine gf_X1_28 K hG (gv1 hyo hio) dX1_copyFrom_37 ?_
  refine pf_X1_28 K hG hS (gv1 hy hi) dX1_copyFrom_40 (fun I5 hI5 H locs hG hS => ?_)
  have hw5_y : wf (I5 y) := by rw [hI5]; exact wf_gU rfl hw4_y
  have hw5_yo : wf (I5 yo) := by rw [hI5]; exact wf_other (by omega) hw4_yo
  have hq5_yo : I5 yo = I yo := by rw [hI5]; exact (gU_ne _ _ _ _ _ (by omega)).trans hq4_yo
  refine lv_aload_n hx hb dX1_copyFrom_43 rfl (lv_at hl 0 rfl) ?_
  refine lv_aload_n hx hb dX1_copyFrom_44 rfl (lv_at hl 1 rfl) ?_
  refine gf_X1_31 K hG (gv1 hyo hio) dX1_copyFrom_45 ?_
  refine pf_X1_31 K hG hS (gv1 hy hi) dX1_copyFrom_48 (fun I6 hI6 H locs hG hS => ?_)
  have hw6_y : wf (I6 y) := by rw [hI6]; exact wf_gU rfl hw5_y
  have hw6_yo : wf (I6 yo) := by rw [hI6]; exact wf_other (by omega) hw5_yo
  have hq6_yo : I6 yo = I yo := by rw [hI6]; exact (gU_ne _ _ _ _ _ (by omega)).trans hq5_yo
  refine lv_aload_n hx hb dX1_copyFrom_51 rfl (lv_at hl 0 rfl) ?_
  refine lv_aload_n hx hb dX1_copyFrom_52 rfl (lv_at hl 1 rfl) ?_
  refine gf_X1_34 K hG (gv1 hyo hio) dX1_copyFrom_53 ?_
  refine pf_X1_34 K hG hS (gv1 hy hi) (by rw [hq6_yo]; exact hz) dX1_copyFrom_56 (fun I7 hI7 H locs hG hS => ?_)
  have hw7_y : wf (I7 y) := by rw [hI7]; exact wf_gU rfl hw6_y
  have hw7_yo : wf (I7 yo) := by rw [hI7]; exact wf_other (by omega) hw6_yo
  have hq7_yo : I7 yo = I yo := by rw [hI7]; exact (gU_ne _ _ _ _ _ (by omega)).trans hq6_yo
  refine lv_aload_n hx hb dX1_copyFrom_59 rfl (lv_at hl 0 rfl) ?_
  refine lv_aload_n hx hb dX1_copyFrom_60 rfl (lv_at hl 1 rfl) ?_
  refine gf_X1_38 K hG (gv1 hyo hio) dX1_copyFrom_61 ?_
  refine pf_X1_38 K hG hS (gv1 hy hi) dX1_copyFrom_64 (fun I8 hI8 H locs hG hS => ?_)
  have hw8_y : wf (I8 y) := by rw [hI8]; exact wf_gU rfl hw7_y
  have hw8_yo : wf (I8 yo) := by rw [hI8]; exact wf_other (by omega) hw7_yo
  have hq8_yo : I8 yo = I yo := by rw [hI8]; exact (gU_ne _ _ _ _ _ (by omega)).trans hq7_yo
  refine lv_aload_n hx hb dX1_copyFrom_67 rfl (lv_at hl 0 rfl) ?_
  refine lv_aload_n hx hb dX1_copyFrom_68 rfl (lv_at hl 1 rfl) ?_
  refine gf_X1_41 K hG (gv1 hyo hio) dX1_copyFrom_69 ?_
  refine pf_X1_41 K hG hS (gv1 hy hi) dX1_copyFrom_72 (fun I9 hI9 H locs hG hS => ?_)
  have hw9_y : wf (I9 y) := by rw [hI9]; exact wf_gU rfl hw8_y
  have hw9_yo : wf (I9 yo) := by rw [hI9]; exact wf_other (by omega) hw8_yo
  have hq9_yo : I9 yo = I yo := by rw [hI9]; exact (gU_ne _ _ _ _ _ (by omega)).trans hq8_yo
  refine lv_aload_n hx hb dX1_copyFrom_75 rfl (lv_at hl 0 rfl) ?_
  refine lv_aload_n hx hb dX1_copyFrom_76 rfl (lv_at hl 1 rfl) ?_
  refine gf_X1_44 K hG (gv1 hyo hio) dX1_copyFrom_77 ?_
  refine pf_X1_44 K hG hS (gv1 hy hi) dX1_copyFrom_80 (fun I10 hI10 H locs hG hS => ?_)
  have hw10_y : wf (I10 y) := by rw [hI10]; exact wf_gU rfl hw9_y
  have hw10_yo : wf (I10 yo) := by rw [hI10]; exact wf_other (by omega) hw9_yo
  have hq10_yo : I10 yo = I yo := by rw [hI10]; exact (gU_ne _ _ _ _ _ (by omega)).trans hq9_yo
  refine lv_aload_n hx hb dX1_copyFrom_83 rfl (lv_at hl 0 rfl) ?_
  refine lv_aload_n hx hb dX1_copyFrom_84 rfl (lv_at hl 1 rfl) ?_
  refine gf_X1_47 K hG (gv1 hyo hio) dX1_copyFrom_85 ?_
  refine pf_X1_47 K hG hS (gv1 hy hi) dX1_copyFrom_88 (fun I11 hI11 H locs hG hS => ?_)
  have hw11_y : wf (I11 y) := by rw [hI11]; exact wf_gU rfl hw10_y
  have hw11_yo : wf (I11 yo) := by rw [hI11]; exact wf_other (by omega) hw10_yo
  have hq11_yo : I11 yo = I yo := by rw [hI11]; exact (gU_ne _ _ _ _ _ (by omega)).trans hq10_yo
  have eS : I11 = (f_X1_copyFrom I y i yo io) := (by simp only [f_X1_copyFrom, ← hI1, ← hI2, ← hI3, ← hI4, ← hI5, ← hI6, ← hI7, ← hI8, ← hI9, ← hI10, ← hI11])
  rw [eS] at hG
  exact g_vret K hG hS hr hlocks dX1_copyFrom_91
