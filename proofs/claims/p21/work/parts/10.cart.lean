/-! PRINTED by wip/gen (cls.py): X0 -/

theorem u3_at (Z : gY) (t i j : Nat) (x : Int32) : u3 Z t i j x t i j = x := by simp [u3]
theorem wf_ne {I I' : gI} {y : Nat} (e : I' y = I y) (h : wf (I y)) : wf (I' y) := by rw [e]; exact h
theorem kn_gU {I : gI} {y t i j : Nat} {x : Int32} (h : (t == 0 && j == 4) = false) : gU I y t i j x y 0 0 4 = I y 0 0 4 := by
  rw [gU_at]
  unfold u3
  rw [if_neg]
  rintro ⟨rfl, -, rfl⟩
  cases h
theorem km_gU {I : gI} {y t i j : Nat} {x : Int32} (h : (t == 0 && j == 5) = false) : gU I y t i j x y 0 0 5 = I y 0 0 5 := by
  rw [gU_at]
  unfold u3
  rw [if_neg]
  rintro ⟨rfl, -, rfl⟩
  cases h
theorem kn_gR {I : gI} {y t i : Nat} {g : Nat → Int32} (h : 0 < t) : gR I y t i g y 0 0 4 = I y 0 0 4 := by
  rw [gR_at]
  unfold urow
  rw [if_neg]
  rintro ⟨rfl, -⟩
  exact absurd h (by decide)
theorem kn_ne {I I' : gI} {y : Nat} (e : I' y = I y) : I' y 0 0 4 = I y 0 0 4 := by rw [e]
theorem rg_heapAt {z x : Int32} (h : isN z 8) (h1 : ¬ x < 0) (h2 : x < z) : vp_in (z - 1 - x) 8 := by
  obtain ⟨j, hj, rfl⟩ := nI_of h1
  obtain ⟨hk, hz⟩ := h
  generalize z.toNatClampNeg = k at hk hz
  subst hz
  have hlt : j < k := by
    rcases Nat.lt_or_ge j k with q | q
    · exact q
    · exact absurd h2 (nI_nlt q hj)
  have e1 : nI k - 1 = nI (k - 1) := by
    have := nI_pred (k - 1)
    rwa [show k - 1 + 1 = k by omega] at this
  rw [e1, pk_sub (by omega)]
  exact vp_in_nI (by omega) (by decide)
theorem rg_grow {z : Int32} (h : vp_in z 8) : isN (z + 1) 8 := by
  obtain ⟨j, hj, rfl⟩ := vp_in_of h (by decide)
  rw [nI_1]
  exact isN_nI (by omega) (by decide)
theorem rg_shrink {z : Int32} (h : isN z 8) (h0 : ¬ z ≤ 0) : isN (z - 1) 8 ∧ ¬ z - 1 < 0 ∧ 1 + (z - 1).toNatClampNeg ≤ 8 := by
  obtain ⟨hk, hz⟩ := h
  generalize z.toNatClampNeg = k at hk hz
  subst hz
  have hp : 0 < k := by
    rcases Nat.eq_zero_or_pos k with q | q
    · subst q; exact absurd (by decide) h0
    · exact q
  have e1 : nI k - 1 = nI (k - 1) := by
    have := nI_pred (k - 1)
    rwa [show k - 1 + 1 = k by omega] at this
  rw [e1, nI_clamp (by omega)]
  exact ⟨isN_nI (by omega) (by decide), nI_pos (by omega), by omega⟩

def f_X0_heapAt (I : gI) (y i : Nat) (x : Int32) : Int32 :=
  if x < 0 then
    (-1)
  else
    if x < (I y 2 i 1) then
      (I y 3 i ((((I y 2 i 1) - 1) - x).toNatClampNeg))
    else
      (-1)
set_option maxHeartbeats 4000000 in
set_option maxRecDepth 100000 in
theorem m_X0_heapAt (l : Launch) (E : gE) (J : Int64) (I : gI) (y i : Nat) (x : Int32) (hy : y < 2) (hi : i < 6) (hw : wf (I y)) : gMi l E J yX0_heapAt cX0_heapAt 2 (some .int) 0 0 [.ref (gA E y 2 i), .int x] I (f_X0_heapAt I y i x) I := by
  refine g_entry (lv := [(0, .ref (gA E y 2 i)), (1, .int x)]) (by decide) (Nat.le_of_ble_eq_true rfl) rfl ?_
  intro p e s m below meth c0 ls K hG hS hml hr hlocks hl
  have K : kx E p m c0 cX0_heapAt "HayThieves$Cart" _ s := K
  have hx := K.1
  have hb := K.2.1
  have hts := K.2.2.1
  have hown := K.2.2.2.1
  have hSt := K.2.2.2.2
  refine lv_iload_n hx hb dX0_heapAt_0 rfl (lv_at hl 1 rfl) ?_
  refine lv_if_lt (tgt := 12) hx hb dX0_heapAt_1 (by decide) (fun c1 => ?_) (fun c1 => ?_)
  · refine lv_iconst (v := (-1)) hx hb dX0_heapAt_12 (by decide) ?_
    refine lv_goto (tgt := 29) hx hb dX0_heapAt_13 (by decide) ?_
    exact g_iret K hG hS hr hlocks (by simp only [f_X0_heapAt, if_pos c1]) dX0_heapAt_29
  · refine lv_iload_n hx hb dX0_heapAt_4 rfl (lv_at hl 1 rfl) ?_
    refine lv_aload_n hx hb dX0_heapAt_5 rfl (lv_at hl 0 rfl) ?_
    refine gf_X0_15 K hG (gv2 hy hi) dX0_heapAt_6 ?_
    refine lv_icmp_lt (tgt := 16) hx hb dX0_heapAt_9 (by decide) (fun c2 => ?_) (fun c2 => ?_)
    · refine lv_aload_n hx hb dX0_heapAt_16 rfl (lv_at hl 0 rfl) ?_
      refine gf_X0_9 K hG (gv2 hy hi) dX0_heapAt_17 ?_
      refine lv_aload_n hx hb dX0_heapAt_20 rfl (lv_at hl 0 rfl) ?_
      refine gf_X0_15 K hG (gv2 hy hi) dX0_heapAt_21 ?_
      refine lv_iconst (v := 1) hx hb dX0_heapAt_24 (by decide) ?_
      refine lv_isub hx hb dX0_heapAt_25 ?_
      refine lv_iload_n hx hb dX0_heapAt_26 rfl (lv_at hl 1 rfl) ?_
      refine lv_isub hx hb dX0_heapAt_27 ?_
      refine g_iald K hG (gv3 hy hi) rfl (fun _ => rfl) (rg_heapAt ⟨hw.size hi, hw.sizeE hi⟩ c1 c2) dX0_heapAt_28 ?_
      exact g_iret K hG hS hr hlocks (by simp only [f_X0_heapAt, if_neg c1, if_pos c2]) dX0_heapAt_29
    · refine lv_iconst (v := (-1)) hx hb dX0_heapAt_12 (by decide) ?_
      refine lv_goto (tgt := 29) hx hb dX0_heapAt_13 (by decide) ?_
      exact g_iret K hG hS hr hlocks (by simp only [f_X0_heapAt, if_neg c1, if_neg c2]) dX0_heapAt_29
def f_X0_farHeap (I : gI) (y i : Nat) : Int32 :=
  if (I y 2 i 1) ≤ 0 then
    (-1)
  else
    (I y 3 i 0)
set_option maxHeartbeats 4000000 in
set_option maxRecDepth 100000 in
theorem m_X0_farHeap (l : Launch) (E : gE) (J : Int64) (I : gI) (y i : Nat) (hy : y < 2) (hi : i < 6) (hw : wf (I y)) : gMi l E J yX0_farHeap cX0_farHeap 1 (some .int) 0 0 [.ref (gA E y 2 i)] I (f_X0_farHeap I y i) I := by
  refine g_entry (lv := [(0, .ref (gA E y 2 i))]) (by decide) (Nat.le_of_ble_eq_true rfl) rfl ?_
  intro p e s m below meth c0 ls K hG hS hml hr hlocks hl
  have K : kx E p m c0 cX0_farHeap "HayThieves$Cart" _ s := K
  have hx := K.1
  have hb := K.2.1
  have hts := K.2.2.1
  have hown := K.2.2.2.1
  have hSt := K.2.2.2.2
  refine lv_aload_n hx hb dX0_farHeap_0 rfl (lv_at hl 0 rfl) ?_
  refine gf_X0_15 K hG (gv2 hy hi) dX0_farHeap_1 ?_
  refine lv_if_le (tgt := 16) hx hb dX0_farHeap_4 (by decide) (fun c1 => ?_) (fun c1 => ?_)
  · refine lv_iconst (v := (-1)) hx hb dX0_farHeap_16 (by decide) ?_
    exact g_iret K hG hS hr hlocks (by simp only [f_X0_farHeap, if_pos c1]) dX0_farHeap_17
  · refine lv_aload_n hx hb dX0_farHeap_7 rfl (lv_at hl 0 rfl) ?_
    refine gf_X0_9 K hG (gv2 hy hi) dX0_farHeap_8 ?_
    refine lv_iconst (v := 0) hx hb dX0_farHeap_11 (by decide) ?_
    refine g_iald K hG (gv3 hy hi) rfl (fun _ => rfl) (gin0 (by decide) (by decide)) dX0_farHeap_12 ?_
    rw [show ((0 : Int32)).toNatClampNeg = 0 from rfl]
    refine lv_goto (tgt := 17) hx hb dX0_farHeap_13 (by decide) ?_
    exact g_iret K hG hS hr hlocks (by simp only [f_X0_farHeap, if_neg c1]) dX0_farHeap_17
def f_X0_hasRoom (I : gI) (y i : Nat) : Int32 :=
  if 8 ≤ (I y 2 i 1) then
    0
  else
    1
set_option maxHeartbeats 4000000 in
set_option maxRecDepth 100000 in
theorem m_X0_hasRoom (l : Launch) (E : gE) (J : Int64) (I : gI) (y i : Nat) (hy : y < 2) (hi : i < 6) (hw : wf (I y)) : gMi l E J yX0_hasRoom cX0_hasRoom 1 (some .boolean) 0 0 [.ref (gA E y 2 i)] I (f_X0_hasRoom I y i) I := by
  refine g_entry (lv := [(0, .ref (gA E y 2 i))]) (by decide) (Nat.le_of_ble_eq_true rfl) rfl ?_
  intro p e s m below meth c0 ls K hG hS hml hr hlocks hl
  have K : kx E p m c0 cX0_hasRoom "HayThieves$Cart" _ s := K
  have hx := K.1
  have hb := K.2.1
  have hts := K.2.2.1
  have hown := K.2.2.2.1
  have hSt := K.2.2.2.2
  refine lv_aload_n hx hb dX0_hasRoom_0 rfl (lv_at hl 0 rfl) ?_
  refine gf_X0_15 K hG (gv2 hy hi) dX0_hasRoom_1 ?_
  refine lv_aload_n hx hb dX0_hasRoom_4 rfl (lv_at hl 0 rfl) ?_
  refine gf_X0_9 K hG (gv2 hy hi) dX0_hasRoom_5 ?_
  refine g_alen (a := 0) (n := 8) K hG (gv3 hy hi) rfl rfl (v := 8) rfl dX0_hasRoom_8 ?_
  refine lv_icmp_ge (tgt := 16) hx hb dX0_hasRoom_9 (by decide) (fun c1 => ?_) (fun c1 => ?_)
  · refine lv_iconst (v := 0) hx hb dX0_hasRoom_16 (by decide) ?_
    exact g_zret K hG hS hr hlocks (gvpZ gz0) (by simp only [f_X0_hasRoom, if_pos c1]) dX0_hasRoom_17
  · refine lv_iconst (v := 1) hx hb dX0_hasRoom_12 (by decide) ?_
    refine lv_goto (tgt := 17) hx hb dX0_hasRoom_13 (by decide) ?_
    exact g_zret K hG hS hr hlocks (gvpZ gz1) (by simp only [f_X0_hasRoom, if_neg c1]) dX0_hasRoom_17

theorem rg_room {I : gI} {y c : Nat} (h : isN (I y 2 c 1) 8) (hr : ¬ f_X0_hasRoom I y c = 0) : vp_in (I y 2 c 1) 8 := by
  obtain ⟨hk, hz⟩ := h
  have h8 : ¬ (8 : Int32) ≤ I y 2 c 1 := by
    intro q
    apply hr
    unfold f_X0_hasRoom
    rw [if_pos q]
  rw [hz] at h8 ⊢
  refine vp_in_nI ?_ (by decide)
  rcases Nat.lt_or_ge (I y 2 c 1).toNatClampNeg 8 with q | q
  · exact q
  · exact absurd (show nI 8 ≤ nI (I y 2 c 1).toNatClampNeg from nI_le q (by omega)) h8

def f_X0_putNear (I : gI) (y i : Nat) (x : Int32) : gI :=
  if (f_X0_hasRoom I y i) = 0 then
    I
  else
    let I1 := gU I y 3 i ((I y 2 i 1).toNatClampNeg) x
    let I2 := gU I1 y 2 i 1 ((I1 y 2 i 1) + 1)
    I2
set_option maxRecDepth 100000 in
theorem wf_X0_putNear (I : gI) (y i : Nat) (x : Int32) (hy : y < 2) (hi : i < 6) (hw : wf (I y)) : wf (f_X0_putNear I y i x y) := by
  by_cases c1 : (f_X0_hasRoom I y i) = 0
  · have eS : f_X0_putNear I y i x = I := by simp only [f_X0_putNear, if_pos c1]
    rw [eS]
    exact hw
  · obtain ⟨I1, hI1⟩ : ∃ z, z = gU I y 3 i ((I y 2 i 1).toNatClampNeg) x := ⟨_, rfl⟩
    have hw1_y : wf (I1 y) := by rw [hI1]; exact wf_gU rfl hw
    obtain ⟨I2, hI2⟩ : ∃ z, z = gU I1 y 2 i 1 ((I1 y 2 i 1) + 1) := ⟨_, rfl⟩
    have hw2_y : wf (I2 y) := by rw [hI2]; exact wf_size (rg_grow (show vp_in (I1 y 2 i 1) 8 from by rw [hI1, gU_at]; exact rg_room ⟨hw.size hi, hw.sizeE hi⟩ c1)) hw1_y
    have eS : f_X0_putNear I y i x = I2 := by simp only [f_X0_putNear, ← hI1, ← hI2, if_neg c1]
    rw [eS]
    exact hw2_y
set_option maxRecDepth 100000 in
theorem ne_X0_putNear (I : gI) (y i : Nat) (x : Int32) (hy : y < 2) (hi : i < 6) (hw : wf (I y)) {y' : Nat} (hne : y' ≠ y) : f_X0_putNear I y i x y' = I y' := by
  have hn : I y' = I y' := rfl
  by_cases c1 : (f_X0_hasRoom I y i) = 0
  · have eS : f_X0_putNear I y i x = I := by simp only [f_X0_putNear, if_pos c1]
    exact (congrFun eS y').trans hn
  · obtain ⟨I1, hI1⟩ : ∃ z, z = gU I y 3 i ((I y 2 i 1).toNatClampNeg) x := ⟨_, rfl⟩
    have hw1_y : wf (I1 y) := by rw [hI1]; exact wf_gU rfl hw
    have hn1 : I1 y' = I y' := by rw [hI1]; exact (gU_ne _ _ _ _ _ hne).trans hn
    obtain ⟨I2, hI2⟩ : ∃ z, z = gU I1 y 2 i 1 ((I1 y 2 i 1) + 1) := ⟨_, rfl⟩
    have hw2_y : wf (I2 y) := by rw [hI2]; exact wf_size (rg_grow (show vp_in (I1 y 2 i 1) 8 from by rw [hI1, gU_at]; exact rg_room ⟨hw.size hi, hw.sizeE hi⟩ c1)) hw1_y
    have hn2 : I2 y' = I y' := by rw [hI2]; exact (gU_ne _ _ _ _ _ hne).trans hn1
    have eS : f_X0_putNear I y i x = I2 := by simp only [f_X0_putNear, ← hI1, ← hI2, if_neg c1]
    exact (congrFun eS y').trans hn2
set_option maxRecDepth 100000 in
theorem kn_X0_putNear (I : gI) (y i : Nat) (x : Int32) (hy : y < 2) (hi : i < 6) (hw : wf (I y)) : f_X0_putNear I y i x y 0 0 4 = I y 0 0 4 := by
  have hn : I y 0 0 4 = I y 0 0 4 := rfl
  by_cases c1 : (f_X0_hasRoom I y i) = 0
  · have eS : f_X0_putNear I y i x = I := by simp only [f_X0_putNear, if_pos c1]
    exact (congrFun (congrFun (congrFun (congrFun eS y) 0) 0) 4).trans hn
  · obtain ⟨I1, hI1⟩ : ∃ z, z = gU I y 3 i ((I y 2 i 1).toNatClampNeg) x := ⟨_, rfl⟩
    have hw1_y : wf (I1 y) := by rw [hI1]; exact wf_gU rfl hw
    have hn1 : I1 y 0 0 4 = I y 0 0 4 := by rw [hI1]; exact (kn_gU rfl).trans hn
    obtain ⟨I2, hI2⟩ : ∃ z, z = gU I1 y 2 i 1 ((I1 y 2 i 1) + 1) := ⟨_, rfl⟩
    have hw2_y : wf (I2 y) := by rw [hI2]; exact wf_size (rg_grow (show vp_in (I1 y 2 i 1) 8 from by rw [hI1, gU_at]; exact rg_room ⟨hw.size hi, hw.sizeE hi⟩ c1)) hw1_y
    have hn2 : I2 y 0 0 4 = I y 0 0 4 := by rw [hI2]; exact (kn_gU rfl).trans hn1
    have eS : f_X0_putNear I y i x = I2 := by simp only [f_X0_putNear, ← hI1, ← hI2, if_neg c1]
    exact (congrFun (congrFun (congrFun (congrFun eS y) 0) 0) 4).trans hn2
set_option maxHeartbeats 4000000 in
set_option maxRecDepth 100000 in
theorem m_X0_putNear (l : Launch) (E : gE) (J : Int64) (I : gI) (y i : Nat) (x : Int32) (hy : y < 2) (hi : i < 6) (hw : wf (I y)) : gMv l E J yX0_putNear cX0_putNear 2 none 1 20 [.ref (gA E y 2 i), .int x] I (f_X0_putNear I y i x) := by
  refine g_entry (lv := [(0, .ref (gA E y 2 i)), (1, .int x)]) (by decide) (Nat.le_of_ble_eq_true rfl) rfl ?_
  intro p e s m below meth c0 ls K hG hS hml hr hlocks hl
  have K : kx E p m c0 cX0_putNear "HayThieves$Cart" _ s := K
  have hx := K.1
  have hb := K.2.1
  have hts := K.2.2.1
  have hown := K.2.2.2.1
  have hSt := K.2.2.2.2
  refine lv_aload_n hx hb dX0_putNear_0 rfl (lv_at hl 0 rfl) ?_
  refine g_ki (g_runV (As := []) (rest := []) K hml ca_X0_hasRoom q431 (m_X0_hasRoom l E J I y i hy hi hw) hG hS (gv2 hy hi) rfl rfl rfl rfl hl.1 (Nat.le_of_ble_eq_true rfl) ⟨by decide, by decide⟩ dX0_putNear_1 ⟨Nat.zero_le _, Nat.zero_le _⟩) hS (fun H locs hG hS => ?_)
  refine lv_if_eq (tgt := 27) hx hb dX0_putNear_4 (by decide) (fun c1 => ?_) (fun c1 => ?_)
  · have eS : I = (f_X0_putNear I y i x) := (by simp only [f_X0_putNear, if_pos c1])
    rw [eS] at hG
    exact g_vret K hG hS hr hlocks dX0_putNear_27
  · refine lv_aload_n hx hb dX0_putNear_7 rfl (lv_at hl 0 rfl) ?_
    refine gf_X0_9 K hG (gv2 hy hi) dX0_putNear_8 ?_
    refine lv_aload_n hx hb dX0_putNear_11 rfl (lv_at hl 0 rfl) ?_
    refine gf_X0_15 K hG (gv2 hy hi) dX0_putNear_12 ?_
    refine lv_iload_n hx hb dX0_putNear_15 rfl (lv_at hl 1 rfl) ?_
    refine g_iast K hG hS (gv3 hy hi) rfl (fun _ => rfl) (fun _ q => absurd q.1 (by decide)) (rg_room ⟨hw.size hi, hw.sizeE hi⟩ c1) dX0_putNear_16 (fun I1 hI1 H locs hG hS => ?_)
    have hw1_y : wf (I1 y) := by rw [hI1]; exact wf_gU rfl hw
    refine lv_aload_n hx hb dX0_putNear_17 rfl (lv_at hl 0 rfl) ?_
    refine lv_dup hx hb dX0_putNear_18 rfl ?_
    refine gf_X0_15 K hG (gv2 hy hi) dX0_putNear_19 ?_
    refine lv_iconst (v := 1) hx hb dX0_putNear_22 (by decide) ?_
    refine lv_iadd hx hb dX0_putNear_23 ?_
    refine pf_X0_15 K hG hS (gv2 hy hi) dX0_putNear_24 (fun I2 hI2 H locs hG hS => ?_)
    have hw2_y : wf (I2 y) := by rw [hI2]; exact wf_size (rg_grow (show vp_in (I1 y 2 i 1) 8 from by rw [hI1, gU_at]; exact rg_room ⟨hw.size hi, hw.sizeE hi⟩ c1)) hw1_y
    have eS : I2 = (f_X0_putNear I y i x) := (by simp only [f_X0_putNear, ← hI1, ← hI2, if_neg c1])
    rw [eS] at hG
    exact g_vret K hG hS hr hlocks dX0_putNear_27
def f_X0_takeNear_v (I : gI) (y i : Nat) : Int32 :=
  if (I y 2 i 1) ≤ 0 then
    (f_X0_heapAt I y i 0)
  else
    let I1 := gU I y 2 i 1 ((I y 2 i 1) - 1)
    (f_X0_heapAt I y i 0)
def f_X0_takeNear_s (I : gI) (y i : Nat) : gI :=
  if (I y 2 i 1) ≤ 0 then
    I
  else
    let I1 := gU I y 2 i 1 ((I y 2 i 1) - 1)
    I1
set_option maxRecDepth 100000 in
theorem wf_X0_takeNear (I : gI) (y i : Nat) (hy : y < 2) (hi : i < 6) (hw : wf (I y)) : wf (f_X0_takeNear_s I y i y) := by
  by_cases c1 : (I y 2 i 1) ≤ 0
  · have eS : f_X0_takeNear_s I y i = I := by simp only [f_X0_takeNear_s, if_pos c1]
    rw [eS]
    exact hw
  · obtain ⟨I1, hI1⟩ : ∃ z, z = gU I y 2 i 1 ((I y 2 i 1) - 1) := ⟨_, rfl⟩
    have hw1_y : wf (I1 y) := by rw [hI1]; exact wf_size (rg_shrink ⟨hw.size hi, hw.sizeE hi⟩ c1).1 hw
    have eS : f_X0_takeNear_s I y i = I1 := by simp only [f_X0_takeNear_s, ← hI1, if_neg c1]
    rw [eS]
    exact hw1_y
set_option maxRecDepth 100000 in
theorem ne_X0_takeNear (I : gI) (y i : Nat) (hy : y < 2) (hi : i < 6) (hw : wf (I y)) {y' : Nat} (hne : y' ≠ y) : f_X0_takeNear_s I y i y' = I y' := by
  have hn : I y' = I y' := rfl
  by_cases c1 : (I y 2 i 1) ≤ 0
  · have eS : f_X0_takeNear_s I y i = I := by simp only [f_X0_takeNear_s, if_pos c1]
    exact (congrFun eS y').trans hn
  · obtain ⟨I1, hI1⟩ : ∃ z, z = gU I y 2 i 1 ((I y 2 i 1) - 1) := ⟨_, rfl⟩
    have hw1_y : wf (I1 y) := by rw [hI1]; exact wf_size (rg_shrink ⟨hw.size hi, hw.sizeE hi⟩ c1).1 hw
    have hn1 : I1 y' = I y' := by rw [hI1]; exact (gU_ne _ _ _ _ _ hne).trans hn
    have eS : f_X0_takeNear_s I y i = I1 := by simp only [f_X0_takeNear_s, ← hI1, if_neg c1]
    exact (congrFun eS y').trans hn1
set_option maxRecDepth 100000 in
theorem kn_X0_takeNear (I : gI) (y i : Nat) (hy : y < 2) (hi : i < 6) (hw : wf (I y)) : f_X0_takeNear_s I y i y 0 0 4 = I y 0 0 4 := by
  have hn : I y 0 0 4 = I y 0 0 4 := rfl
  by_cases c1 : (I y 2 i 1) ≤ 0
  · have eS : f_X0_takeNear_s I y i = I := by simp only [f_X0_takeNear_s, if_pos c1]
    exact (congrFun (congrFun (congrFun (congrFun eS y) 0) 0) 4).trans hn
  · obtain ⟨I1, hI1⟩ : ∃ z, z = gU I y 2 i 1 ((I y 2 i 1) - 1) := ⟨_, rfl⟩
    have hw1_y : wf (I1 y) := by rw [hI1]; exact wf_size (rg_shrink ⟨hw.size hi, hw.sizeE hi⟩ c1).1 hw
    have hn1 : I1 y 0 0 4 = I y 0 0 4 := by rw [hI1]; exact (kn_gU rfl).trans hn
    have eS : f_X0_takeNear_s I y i = I1 := by simp only [f_X0_takeNear_s, ← hI1, if_neg c1]
    exact (congrFun (congrFun (congrFun (congrFun eS y) 0) 0) 4).trans hn1
set_option maxHeartbeats 4000000 in
set_option maxRecDepth 100000 in
theorem m_X0_takeNear (l : Launch) (E : gE) (J : Int64) (I : gI) (y i : Nat) (hy : y < 2) (hi : i < 6) (hw : wf (I y)) : gMi l E J yX0_takeNear cX0_takeNear 2 (some .int) 1 21 [.ref (gA E y 2 i)] I (f_X0_takeNear_v I y i) (f_X0_takeNear_s I y i) := by
  refine g_entry (lv := [(0, .ref (gA E y 2 i))]) (by decide) (Nat.le_of_ble_eq_true rfl) rfl ?_
  intro p e s m below meth c0 ls K hG hS hml hr hlocks hl
  have K : kx E p m c0 cX0_takeNear "HayThieves$Cart" _ s := K
  have hx := K.1
  have hb := K.2.1
  have hts := K.2.2.1
  have hown := K.2.2.2.1
  have hSt := K.2.2.2.2
  refine lv_aload_n hx hb dX0_takeNear_0 rfl (lv_at hl 0 rfl) ?_
  refine lv_iconst (v := 0) hx hb dX0_takeNear_1 (by decide) ?_
  refine g_ki (g_runV (As := [.int 0]) (rest := []) K hml ca_X0_heapAt q387 (m_X0_heapAt l E J I y i 0 hy hi hw) hG hS (gv2 hy hi) rfl rfl rfl rfl hl.1 (Nat.le_of_ble_eq_true rfl) ⟨by decide, by decide⟩ dX0_takeNear_2 ⟨Nat.zero_le _, Nat.zero_le _⟩) hS (fun H locs hG hS => ?_)
  refine lv_istore_n (lv' := [(1, .int (f_X0_heapAt I y i 0)), (0, .ref (gA E y 2 i))]) hx hb dX0_takeNear_5 rfl hl (by decide) rfl (fun ls hl => ?_)
  refine lv_aload_n hx hb dX0_takeNear_6 rfl (lv_at hl 1 rfl) ?_
  refine gf_X0_15 K hG (gv2 hy hi) dX0_takeNear_7 ?_
  refine lv_if_le (tgt := 23) hx hb dX0_takeNear_10 (by decide) (fun c1 => ?_) (fun c1 => ?_)
  · refine lv_iload_n hx hb dX0_takeNear_23 rfl (lv_at hl 0 rfl) ?_
    have eS : I = (f_X0_takeNear_s I y i) := (by simp only [f_X0_takeNear_s, if_pos c1])
    rw [eS] at hG
    exact g_iret K hG hS hr hlocks (by simp only [f_X0_takeNear_v, if_pos c1]) dX0_takeNear_24
  · refine lv_aload_n hx hb dX0_takeNear_13 rfl (lv_at hl 1 rfl) ?_
    refine lv_dup hx hb dX0_takeNear_14 rfl ?_
    refine gf_X0_15 K hG (gv2 hy hi) dX0_takeNear_15 ?_
    refine lv_iconst (v := 1) hx hb dX0_takeNear_18 (by decide) ?_
    refine lv_isub hx hb dX0_takeNear_19 ?_
    refine pf_X0_15 K hG hS (gv2 hy hi) dX0_takeNear_20 (fun I1 hI1 H locs hG hS => ?_)
    have hw1_y : wf (I1 y) := by rw [hI1]; exact wf_size (rg_shrink ⟨hw.size hi, hw.sizeE hi⟩ c1).1 hw
    refine lv_iload_n hx hb dX0_takeNear_23 rfl (lv_at hl 0 rfl) ?_
    have eS : I1 = (f_X0_takeNear_s I y i) := (by simp only [f_X0_takeNear_s, ← hI1, if_neg c1])
    rw [eS] at hG
    exact g_iret K hG hS hr hlocks (by simp only [f_X0_takeNear_v, ← hI1, if_neg c1]) dX0_takeNear_24
def f_X0_takeFar_v (I : gI) (y i : Nat) : Int32 :=
  if (I y 2 i 1) ≤ 0 then
    (f_X0_farHeap I y i)
  else
    let I1 := gU I y 2 i 1 ((I y 2 i 1) - 1)
    let I2 := gR I1 y 3 i (va_cpy (I1 y 3 i) (I1 y 3 i) 1 0 ((I1 y 2 i 1).toNatClampNeg))
    (f_X0_farHeap I y i)
def f_X0_takeFar_s (I : gI) (y i : Nat) : gI :=
  if (I y 2 i 1) ≤ 0 then
    I
  else
    let I1 := gU I y 2 i 1 ((I y 2 i 1) - 1)
    let I2 := gR I1 y 3 i (va_cpy (I1 y 3 i) (I1 y 3 i) 1 0 ((I1 y 2 i 1).toNatClampNeg))
    I2
set_option maxRecDepth 100000 in
theorem wf_X0_takeFar (I : gI) (y i : Nat) (hy : y < 2) (hi : i < 6) (hw : wf (I y)) : wf (f_X0_takeFar_s I y i y) := by
  by_cases c1 : (I y 2 i 1) ≤ 0
  · have eS : f_X0_takeFar_s I y i = I := by simp only [f_X0_takeFar_s, if_pos c1]
    rw [eS]
    exact hw
  · obtain ⟨I1, hI1⟩ : ∃ z, z = gU I y 2 i 1 ((I y 2 i 1) - 1) := ⟨_, rfl⟩
    have hw1_y : wf (I1 y) := by rw [hI1]; exact wf_size (rg_shrink ⟨hw.size hi, hw.sizeE hi⟩ c1).1 hw
    obtain ⟨I2, hI2⟩ : ∃ z, z = gR I1 y 3 i (va_cpy (I1 y 3 i) (I1 y 3 i) 1 0 ((I1 y 2 i 1).toNatClampNeg)) := ⟨_, rfl⟩
    have hw2_y : wf (I2 y) := by rw [hI2]; exact wf_gR (by decide) hw1_y
    have eS : f_X0_takeFar_s I y i = I2 := by simp only [f_X0_takeFar_s, ← hI1, ← hI2, if_neg c1]
    rw [eS]
    exact hw2_y
set_option maxRecDepth 100000 in
theorem ne_X0_takeFar (I : gI) (y i : Nat) (hy : y < 2) (hi : i < 6) (hw : wf (I y)) {y' : Nat} (hne : y' ≠ y) : f_X0_takeFar_s I y i y' = I y' := by
  have hn : I y' = I y' := rfl
  by_cases c1 : (I y 2 i 1) ≤ 0
  · have eS : f_X0_takeFar_s I y i = I := by simp only [f_X0_takeFar_s, if_pos c1]
    exact (congrFun eS y').trans hn
  · obtain ⟨I1, hI1⟩ : ∃ z, z = gU I y 2 i 1 ((I y 2 i 1) - 1) := ⟨_, rfl⟩
    have hw1_y : wf (I1 y) := by rw [hI1]; exact wf_size (rg_shrink ⟨hw.size hi, hw.sizeE hi⟩ c1).1 hw
    have hn1 : I1 y' = I y' := by rw [hI1]; exact (gU_ne _ _ _ _ _ hne).trans hn
    obtain ⟨I2, hI2⟩ : ∃ z, z = gR I1 y 3 i (va_cpy (I1 y 3 i) (I1 y 3 i) 1 0 ((I1 y 2 i 1).toNatClampNeg)) := ⟨_, rfl⟩
    have hw2_y : wf (I2 y) := by rw [hI2]; exact wf_gR (by decide) hw1_y
    have hn2 : I2 y' = I y' := by rw [hI2]; exact (gR_ne _ _ _ _ hne).trans hn1
    have eS : f_X0_takeFar_s I y i = I2 := by simp only [f_X0_takeFar_s, ← hI1, ← hI2, if_neg c1]
    exact (congrFun eS y').trans hn2
set_option maxRecDepth 100000 in
theorem kn_X0_takeFar (I : gI) (y i : Nat) (hy : y < 2) (hi : i < 6) (hw : wf (I y)) : f_X0_takeFar_s I y i y 0 0 4 = I y 0 0 4 := by
  have hn : I y 0 0 4 = I y 0 0 4 := rfl
  by_cases c1 : (I y 2 i 1) ≤ 0
  · have eS : f_X0_takeFar_s I y i = I := by simp only [f_X0_takeFar_s, if_pos c1]
    exact (congrFun (congrFun (congrFun (congrFun eS y) 0) 0) 4).trans hn
  · obtain ⟨I1, hI1⟩ : ∃ z, z = gU I y 2 i 1 ((I y 2 i 1) - 1) := ⟨_, rfl⟩
    have hw1_y : wf (I1 y) := by rw [hI1]; exact wf_size (rg_shrink ⟨hw.size hi, hw.sizeE hi⟩ c1).1 hw
    have hn1 : I1 y 0 0 4 = I y 0 0 4 := by rw [hI1]; exact (kn_gU rfl).trans hn
    obtain ⟨I2, hI2⟩ : ∃ z, z = gR I1 y 3 i (va_cpy (I1 y 3 i) (I1 y 3 i) 1 0 ((I1 y 2 i 1).toNatClampNeg)) := ⟨_, rfl⟩
    have hw2_y : wf (I2 y) := by rw [hI2]; exact wf_gR (by decide) hw1_y
    have hn2 : I2 y 0 0 4 = I y 0 0 4 := by rw [hI2]; exact (kn_gR (by decide)).trans hn1
    have eS : f_X0_takeFar_s I y i = I2 := by simp only [f_X0_takeFar_s, ← hI1, ← hI2, if_neg c1]
    exact (congrFun (congrFun (congrFun (congrFun eS y) 0) 0) 4).trans hn2
set_option maxHeartbeats 4000000 in
set_option maxRecDepth 100000 in
theorem m_X0_takeFar (l : Launch) (E : gE) (J : Int64) (I : gI) (y i : Nat) (hy : y < 2) (hi : i < 6) (hw : wf (I y)) : gMi l E J yX0_takeFar cX0_takeFar 2 (some .int) 1 40 [.ref (gA E y 2 i)] I (f_X0_takeFar_v I y i) (f_X0_takeFar_s I y i) := by
  refine g_entry (lv := [(0, .ref (gA E y 2 i))]) (by decide) (Nat.le_of_ble_eq_true rfl) rfl ?_
  intro p e s m below meth c0 ls K hG hS hml hr hlocks hl
  have K : kx E p m c0 cX0_takeFar "HayThieves$Cart" _ s := K
  have hx := K.1
  have hb := K.2.1
  have hts := K.2.2.1
  have hown := K.2.2.2.1
  have hSt := K.2.2.2.2
  refine lv_aload_n hx hb dX0_takeFar_0 rfl (lv_at hl 0 rfl) ?_
  refine g_ki (g_runV (As := []) (rest := []) K hml ca_X0_farHeap q453 (m_X0_farHeap l E J I y i hy hi hw) hG hS (gv2 hy hi) rfl rfl rfl rfl hl.1 (Nat.le_of_ble_eq_true rfl) ⟨by decide, by decide⟩ dX0_takeFar_1 ⟨Nat.zero_le _, Nat.zero_le _⟩) hS (fun H locs hG hS => ?_)
  refine lv_istore_n (lv' := [(1, .int (f_X0_farHeap I y i)), (0, .ref (gA E y 2 i))]) hx hb dX0_takeFar_4 rfl hl (by decide) rfl (fun ls hl => ?_)
  refine lv_aload_n hx hb dX0_takeFar_5 rfl (lv_at hl 1 rfl) ?_
  refine gf_X0_15 K hG (gv2 hy hi) dX0_takeFar_6 ?_
  refine lv_if_le (tgt := 39) hx hb dX0_takeFar_9 (by decide) (fun c1 => ?_) (fun c1 => ?_)
  · refine lv_iload_n hx hb dX0_takeFar_39 rfl (lv_at hl 0 rfl) ?_
    have eS : I = (f_X0_takeFar_s I y i) := (by simp only [f_X0_takeFar_s, if_pos c1])
    rw [eS] at hG
    exact g_iret K hG hS hr hlocks (by simp only [f_X0_takeFar_v, if_pos c1]) dX0_takeFar_40
  · refine lv_aload_n hx hb dX0_takeFar_12 rfl (lv_at hl 1 rfl) ?_
    refine lv_dup hx hb dX0_takeFar_13 rfl ?_
    refine gf_X0_15 K hG (gv2 hy hi) dX0_takeFar_14 ?_
    refine lv_iconst (v := 1) hx hb dX0_takeFar_17 (by decide) ?_
    refine lv_isub hx hb dX0_takeFar_18 ?_
    refine pf_X0_15 K hG hS (gv2 hy hi) dX0_takeFar_19 (fun I1 hI1 H locs hG hS => ?_)
    have hw1_y : wf (I1 y) := by rw [hI1]; exact wf_size (rg_shrink ⟨hw.size hi, hw.sizeE hi⟩ c1).1 hw
    refine lv_aload_n hx hb dX0_takeFar_22 rfl (lv_at hl 1 rfl) ?_
    refine gf_X0_9 K hG (gv2 hy hi) dX0_takeFar_23 ?_
    refine lv_iconst (v := 1) hx hb dX0_takeFar_26 (by decide) ?_
    refine lv_aload_n hx hb dX0_takeFar_27 rfl (lv_at hl 1 rfl) ?_
    refine gf_X0_9 K hG (gv2 hy hi) dX0_takeFar_28 ?_
    refine lv_iconst (v := 0) hx hb dX0_takeFar_31 (by decide) ?_
    refine lv_aload_n hx hb dX0_takeFar_32 rfl (lv_at hl 1 rfl) ?_
    refine gf_X0_15 K hG (gv2 hy hi) dX0_takeFar_33 ?_
    refine g_copy (a := 0) (ty := .int) K (hml.trans hl.1.symm) q454 hG hS (gv3 hy hi) (gv3 hy hi) rfl rfl (fun _ => rfl) (fun _ => rfl) (by decide) rfl rfl (by decide) (by decide) (by rw [hI1, gU_at, u3_at]; exact (rg_shrink ⟨hw.size hi, hw.sizeE hi⟩ c1).2.1) (by rw [hI1, gU_at, u3_at]; exact (rg_shrink ⟨hw.size hi, hw.sizeE hi⟩ c1).2.2) (by rw [hI1, gU_at, u3_at]; have := (rg_shrink ⟨hw.size hi, hw.sizeE hi⟩ c1).2.2; show 0 + _ ≤ 8; omega) (fun _ _ => rfl) (by decide) (by decide) dX0_takeFar_36 (fun I2 hI2 H locs hG hS => ?_)
    replace hI2 : I2 = gR I1 y 3 i (va_cpy (I1 y 3 i) (I1 y 3 i) 1 0 ((I1 y 2 i 1).toNatClampNeg)) := hI2
    have hw2_y : wf (I2 y) := by rw [hI2]; exact wf_gR (by decide) hw1_y
    refine lv_iload_n hx hb dX0_takeFar_39 rfl (lv_at hl 0 rfl) ?_
    have eS : I2 = (f_X0_takeFar_s I y i) := (by simp only [f_X0_takeFar_s, ← hI1, ← hI2, if_neg c1])
    rw [eS] at hG
    exact g_iret K hG hS hr hlocks (by simp only [f_X0_takeFar_v, ← hI1, ← hI2, if_neg c1]) dX0_takeFar_40
def f_X0_copyFrom (I : gI) (y i : Nat) (yo io : Nat) : gI :=
  let I1 := gR I y 3 i (va_cpy (I yo 3 io) (I y 3 i) 0 0 8)
  let I2 := gU I1 y 2 i 1 (I1 yo 2 io 1)
  I2
set_option maxRecDepth 100000 in
theorem wf_X0_copyFrom (I : gI) (y i : Nat) (yo io : Nat) (hy : y < 2) (hi : i < 6) (hw : wf (I y)) (hyo : yo < 2) (hio : io < 6) (hwo : wf (I yo)) (hne : yo ≠ y) : wf (f_X0_copyFrom I y i yo io y) := by
  obtain ⟨I1, hI1⟩ : ∃ z, z = gR I y 3 i (va_cpy (I yo 3 io) (I y 3 i) 0 0 8) := ⟨_, rfl⟩
  have hw1_y : wf (I1 y) := by rw [hI1]; exact wf_gR (by decide) hw
  have hw1_yo : wf (I1 yo) := by rw [hI1]; exact wf_otherR (by omega) hwo
  have hq1_yo : I1 yo = I yo := by rw [hI1]; exact gR_ne _ _ _ _ (by omega)
  obtain ⟨I2, hI2⟩ : ∃ z, z = gU I1 y 2 i 1 (I1 yo 2 io 1) := ⟨_, rfl⟩
  have hw2_y : wf (I2 y) := by rw [hI2]; exact wf_size (by rw [hq1_yo]; exact ⟨hwo.size hio, hwo.sizeE hio⟩) hw1_y
  have hw2_yo : wf (I2 yo) := by rw [hI2]; exact wf_other (by omega) hw1_yo
  have hq2_yo : I2 yo = I yo := by rw [hI2]; exact (gU_ne _ _ _ _ _ (by omega)).trans hq1_yo
  have eS : f_X0_copyFrom I y i yo io = I2 := by simp only [f_X0_copyFrom, ← hI1, ← hI2]
  rw [eS]
  exact hw2_y
set_option maxRecDepth 100000 in
theorem ne_X0_copyFrom (I : gI) (y i : Nat) (yo io : Nat) (hy : y < 2) (hi : i < 6) (hw : wf (I y)) (hyo : yo < 2) (hio : io < 6) (hwo : wf (I yo)) (hne : yo ≠ y) {y' : Nat} (hne : y' ≠ y) : f_X0_copyFrom I y i yo io y' = I y' := by
  have hn : I y' = I y' := rfl
  obtain ⟨I1, hI1⟩ : ∃ z, z = gR I y 3 i (va_cpy (I yo 3 io) (I y 3 i) 0 0 8) := ⟨_, rfl⟩
  have hw1_y : wf (I1 y) := by rw [hI1]; exact wf_gR (by decide) hw
  have hw1_yo : wf (I1 yo) := by rw [hI1]; exact wf_otherR (by omega) hwo
  have hq1_yo : I1 yo = I yo := by rw [hI1]; exact gR_ne _ _ _ _ (by omega)
  have hn1 : I1 y' = I y' := by rw [hI1]; exact (gR_ne _ _ _ _ hne).trans hn
  obtain ⟨I2, hI2⟩ : ∃ z, z = gU I1 y 2 i 1 (I1 yo 2 io 1) := ⟨_, rfl⟩
  have hw2_y : wf (I2 y) := by rw [hI2]; exact wf_size (by rw [hq1_yo]; exact ⟨hwo.size hio, hwo.sizeE hio⟩) hw1_y
  have hw2_yo : wf (I2 yo) := by rw [hI2]; exact wf_other (by omega) hw1_yo
  have hq2_yo : I2 yo = I yo := by rw [hI2]; exact (gU_ne _ _ _ _ _ (by omega)).trans hq1_yo
  have hn2 : I2 y' = I y' := by rw [hI2]; exact (gU_ne _ _ _ _ _ hne).trans hn1
  have eS : f_X0_copyFrom I y i yo io = I2 := by simp only [f_X0_copyFrom, ← hI1, ← hI2]
  exact (congrFun eS y').trans hn2
set_option maxRecDepth 100000 in
theorem kn_X0_copyFrom (I : gI) (y i : Nat) (yo io : Nat) (hy : y < 2) (hi : i < 6) (hw : wf (I y)) (hyo : yo < 2) (hio : io < 6) (hwo : wf (I yo)) (hne : yo ≠ y) : f_X0_copyFrom I y i yo io y 0 0 4 = I y 0 0 4 := by
  have hn : I y 0 0 4 = I y 0 0 4 := rfl
  obtain ⟨I1, hI1⟩ : ∃ z, z = gR I y 3 i (va_cpy (I yo 3 io) (I y 3 i) 0 0 8) := ⟨_, rfl⟩
  have hw1_y : wf (I1 y) := by rw [hI1]; exact wf_gR (by decide) hw
  have hw1_yo : wf (I1 yo) := by rw [hI1]; exact wf_otherR (by omega) hwo
  have hq1_yo : I1 yo = I yo := by rw [hI1]; exact gR_ne _ _ _ _ (by omega)
  have hn1 : I1 y 0 0 4 = I y 0 0 4 := by rw [hI1]; exact (kn_gR (by decide)).trans hn
  obtain ⟨I2, hI2⟩ : ∃ z, z = gU I1 y 2 i 1 (I1 yo 2 io 1) := ⟨_, rfl⟩
  have hw2_y : wf (I2 y) := by rw [hI2]; exact wf_size (by rw [hq1_yo]; exact ⟨hwo.size hio, hwo.sizeE hio⟩) hw1_y
  have hw2_yo : wf (I2 yo) := by rw [hI2]; exact wf_other (by omega) hw1_yo
  have hq2_yo : I2 yo = I yo := by rw [hI2]; exact (gU_ne _ _ _ _ _ (by omega)).trans hq1_yo
  have hn2 : I2 y 0 0 4 = I y 0 0 4 := by rw [hI2]; exact (kn_gU rfl).trans hn1
  have eS : f_X0_copyFrom I y i yo io = I2 := by simp only [f_X0_copyFrom, ← hI1, ← hI2]
  exact (congrFun (congrFun (congrFun (congrFun eS y) 0) 0) 4).trans hn2
set_option maxHeartbeats 4000000 in
set_option maxRecDepth 100000 in
theorem m_X0_copyFrom (l : Launch) (E : gE) (J : Int64) (I : gI) (y i : Nat) (yo io : Nat) (hy : y < 2) (hi : i < 6) (hw : wf (I y)) (hyo : yo < 2) (hio : io < 6) (hwo : wf (I yo)) (hne : yo ≠ y) : gMv l E J yX0_copyFrom cX0_copyFrom 2 none 1 40 [.ref (gA E y 2 i), .ref (gA E yo 2 io)] I (f_X0_copyFrom I y i yo io) := by
  refine g_entry (lv := [(0, .ref (gA E y 2 i)), (1, .ref (gA E yo 2 io))]) (by decide) (Nat.le_of_ble_eq_true rfl) rfl ?_
  intro p e s m below meth c0 ls K hG hS hml hr hlocks hl
  have K : kx E p m c0 cX0_copyFrom "HayThieves$Cart" _ s := K
  have hx := K.1
  have hb := K.2.1
  have hts := K.2.2.1
  have hown := K.2.2.2.1
  have hSt := K.2.2.2.2
  refine lv_aload_n hx hb dX0_copyFrom_0 rfl (lv_at hl 1 rfl) ?_
  refine gf_X0_9 K hG (gv2 hyo hio) dX0_copyFrom_1 ?_
  refine lv_iconst (v := 0) hx hb dX0_copyFrom_4 (by decide) ?_
  refine lv_aload_n hx hb dX0_copyFrom_5 rfl (lv_at hl 0 rfl) ?_
  refine gf_X0_9 K hG (gv2 hy hi) dX0_copyFrom_6 ?_
  refine lv_iconst (v := 0) hx hb dX0_copyFrom_9 (by decide) ?_
  refine lv_aload_n hx hb dX0_copyFrom_10 rfl (lv_at hl 0 rfl) ?_
  refine gf_X0_9 K hG (gv2 hy hi) dX0_copyFrom_11 ?_
  refine g_alen (a := 0) (n := 8) K hG (gv3 hy hi) rfl rfl (v := 8) rfl dX0_copyFrom_14 ?_
  refine g_copy (a := 0) (ty := .int) K (hml.trans hl.1.symm) q454 hG hS (gv3 hyo hio) (gv3 hy hi) rfl rfl (fun _ => rfl) (fun _ => rfl) (by decide) rfl rfl (by decide) (by decide) (by decide) (by decide) (by decide) (fun _ _ => rfl) (by decide) (by decide) dX0_copyFrom_15 (fun I1 hI1 H locs hG hS => ?_)
  replace hI1 : I1 = gR I y 3 i (va_cpy (I yo 3 io) (I y 3 i) 0 0 8) := hI1
  have hw1_y : wf (I1 y) := by rw [hI1]; exact wf_gR (by decide) hw
  have hw1_yo : wf (I1 yo) := by rw [hI1]; exact wf_otherR (by omega) hwo
  have hq1_yo : I1 yo = I yo := by rw [hI1]; exact gR_ne _ _ _ _ (by omega)
  refine lv_aload_n hx hb dX0_copyFrom_18 rfl (lv_at hl 0 rfl) ?_
  refine lv_aload_n hx hb dX0_copyFrom_19 rfl (lv_at hl 1 rfl) ?_
  refine gf_X0_15 K hG (gv2 hyo hio) dX0_copyFrom_20 ?_
  refine pf_X0_15 K hG hS (gv2 hy hi) dX0_copyFrom_23 (fun I2 hI2 H locs hG hS => ?_)
  have hw2_y : wf (I2 y) := by rw [hI2]; exact wf_size (by rw [hq1_yo]; exact ⟨hwo.size hio, hwo.sizeE hio⟩) hw1_y
  have hw2_yo : wf (I2 yo) := by rw [hI2]; exact wf_other (by omega) hw1_yo
  have hq2_yo : I2 yo = I yo := by rw [hI2]; exact (gU_ne _ _ _ _ _ (by omega)).trans hq1_yo
  have eS : I2 = (f_X0_copyFrom I y i yo io) := (by simp only [f_X0_copyFrom, ← hI1, ← hI2])
  rw [eS] at hG
  exact g_vret K hG hS hr hlocks dX0_copyFrom_26
