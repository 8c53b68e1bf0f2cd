/-! PRINTED by wip/gen (cls.py): X4c -/
def f_X4_mean (I : gI)  : UInt64 :=
  if (I 0 0 0 4) = 0 then
    FP.dconst0
  else
    (FP.ddiv (FP.i2d (f_X3_tell I 0 10)) (FP.i2d (I 0 0 0 4)))
set_option maxHeartbeats 4000000 in
set_option maxRecDepth 100000 in
theorem m_X4_mean (l : Launch) (E : gE) (J : Int64) (I : gI) (hw0 : wf (I 0)) : gMd l E J yX4_mean cX4_mean 1 (some .double) 4 86 [.ref (gA E 2 10 0)] I (f_X4_mean I) I := by
  refine g_entry (lv := [(0, .ref (gA E 2 10 0))]) (by decide) (Nat.le_of_ble_eq_true rfl) rfl ?_
  intro p e s m below meth c0 ls K hG hS hml hr hlocks hl
  have K : kx E p m c0 cX4_mean "HayThieves" _ s := K
  have hx := K.1
  have hb := K.2.1
  have hts := K.2.2.1
  have hown := K.2.2.2.1
  have hSt := K.2.2.2.2
  have hN := hw0.N
  have hM := hw0.M
  refine lv_aload_n hx hb dX4_mean_0 rfl (lv_at hl 0 rfl) ?_
  refine gf_X4_12 K hG rfl dX4_mean_1 ?_
  refine gf_X4_26 K hG (gv0 (by decide)) dX4_mean_4 ?_
  refine lv_if_ne (tgt := 12) hx hb dX4_mean_7 (by decide) (fun c1 => ?_) (fun c1 => ?_)
  · refine lv_aload_n hx hb dX4_mean_12 rfl (lv_at hl 0 rfl) ?_
    refine gf_X4_12 K hG rfl dX4_mean_13 ?_
    refine lv_bipush (v := 10) hx hb dX4_mean_16 (by decide) ?_
    refine g_ki (g_runV (As := [.int 10]) (rest := []) K hml ca_X3_tell q195 (m_X3_tell l E J I 0 10 (by decide) hw0) hG hS (gv0 (by decide)) rfl rfl rfl rfl hl.1 (Nat.le_of_ble_eq_true rfl) ⟨by decide, by decide⟩ dX4_mean_18 ⟨Nat.zero_le _, Nat.zero_le _⟩) hS (fun H locs hG hS => ?_)
    refine lv_i2d hx hb dX4_mean_21 ?_
    refine lv_aload_n hx hb dX4_mean_22 rfl (lv_at hl 0 rfl) ?_
    refine gf_X4_12 K hG rfl dX4_mean_23 ?_
    refine gf_X4_26 K hG (gv0 (by decide)) dX4_mean_26 ?_
    refine lv_i2d hx hb dX4_mean_29 ?_
    refine lv_ddiv hx hb dX4_mean_30 (dd_ne _ c1) ?_
    exact g_dret K hG hS hr hlocks (by simp only [f_X4_mean, if_neg c1]) dX4_mean_31
  · refine lv_dconst0 hx hb dX4_mean_10 ?_
    exact g_dret K hG hS hr hlocks (by simp only [f_X4_mean, if_pos c1]) dX4_mean_11
