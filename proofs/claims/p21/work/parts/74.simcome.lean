/-! PRINTED by wip/gen21/sim.py: 74.simcome -/
def f_S_come (I : gI) (x : Int32) : gI :=
  let q1 := cnt (I 5) 9
  let I1 := gset I 5 (pLoose (I 5) 8 (fun _ => 0))
  let I2 := gU I1 5 9 q1 0 x
  let I3 := gU I2 5 9 q1 1 0
  let I4 := gU I3 5 9 q1 2 0
  let I5 := gU I4 5 9 q1 3 (-1)
  let I6 := gU I5 5 9 q1 4 0
  let I7 := gU I6 5 9 q1 5 0
  let I8 := gU I7 5 9 q1 6 0
  let I9 := gU I8 5 9 q1 7 0
  let I10 := gset I9 5 (pMore (I9 5) 2)
  let q3 := cnt (I10 5) 9
  let I11 := gset I10 5 (pLoose (I10 5) 0 (fun _ => 0))
  let I12 := gset I11 5 (pMore (I11 5) 3)
  I12
def ok_S_come (I : gI) (x : Int32) : Prop :=
  cnt (I 5) 9 < 329 ∧
  ∀ q1, q1 = cnt (I 5) 9 →
  ∀ I1, I1 = gset I 5 (pLoose (I 5) 8 (fun _ => 0)) →
  ∀ I2, I2 = gU I1 5 9 q1 0 x →
  ∀ I3, I3 = gU I2 5 9 q1 1 0 →
  ∀ I4, I4 = gU I3 5 9 q1 2 0 →
  ∀ I5, I5 = gU I4 5 9 q1 3 (-1) →
  ∀ I6, I6 = gU I5 5 9 q1 4 0 →
  ∀ I7, I7 = gU I6 5 9 q1 5 0 →
  ∀ I8, I8 = gU I7 5 9 q1 6 0 →
  ∀ I9, I9 = gU I8 5 9 q1 7 0 →
  cnt (I1 5) 2 < 330 ∧
  ∀ I10, I10 = gset I9 5 (pMore (I9 5) 2) →
  cnt (I10 5) 9 < 329 ∧
  ∀ q3, q3 = cnt (I10 5) 9 →
  ∀ I11, I11 = gset I10 5 (pLoose (I10 5) 0 (fun _ => 0)) →
  cnt (I11 5) 3 < 330 ∧
  ∀ I12, I12 = gset I11 5 (pMore (I11 5) 3) →
  True
set_option maxHeartbeats 4000000 in
set_option maxRecDepth 100000 in
theorem m_S_come (l : Launch) (E : gE) (F : Nat → Prop) (J : Int64) (D : sD) (I : gI) (x : Int32) (hA : ∀ q, F q → gN E ≤ q)  (hok : ok_S_come I x) : sM l E yX5_come cX5_come 2 none 1 4 700 23 [.ref (D 0 0), .int x] (fun H => LW E F J D I H) (sQv E F J D I (f_S_come I x)) F := by
  refine s_entry (lv := [(0, .ref (D 0 0)), (1, .int x)]) (by decide) (Nat.le_of_ble_eq_true rfl) rfl ?_
  intro p e s m below meth c0 ls K hAO hG hS hml hr hlocks hl
  have hG : LW E F J D I s.heap := hG
  have K : kx E p m c0 cX5_come "HayThievesLaw$Sim" _ s := K
  have hx := K.1
  have hb := K.2.1
  have hts := K.2.2.1
  have hown := K.2.2.2.1
  have hSt := K.2.2.2.2
  unfold ok_S_come at hok
  refine lv_aload_n hx hb dX5_come_0 rfl (lv_at hl 0 rfl) ?_
  refine lv_aload_n hx hb dX5_come_1 rfl (lv_at hl 0 rfl) ?_
  refine sg_X5_15 K hG dX5_come_2 ?_
  refine lv_bipush (v := 8) hx hb dX5_come_5 (by decide) ?_
  obtain ⟨ho1, hok⟩ := hok
  have h9I1 : cnt (I 5) 9 < 329 := by rw [(show ∀ t, cnt (I 5) t = cnt (I 5) t from fun _ => rfl)]; exact ho1
  obtain ⟨q1, hq1⟩ : ∃ z, z = cnt (I 5) 9 := ⟨_, rfl⟩
  have hok := hok q1 hq1
  refine s_newi (N := 8) K hG hS rfl (by decide) (by omega) (Nat.le_of_ble_eq_true rfl) (Nat.le_of_ble_eq_true rfl) dX5_come_7 (fun a1 D1 hD1 I1 hI1 H hG hS => ?_)
  rw [← hq1]
  have eI1 : I1 5 = pLoose (I 5) 8 (fun _ => 0) := by rw [hI1, gset_at]
  have hok := hok I1 hI1
  have n9I1 : cnt (I1 5) 9 = cnt (I 5) 9 + 1 := by have h9 := (show cnt (I 5) 9 = cnt (I 5) 9 + 0 from rfl); have h8 := (show ∀ t, cnt (I 5) t = cnt (I 5) t from fun _ => rfl) 9; rw [eI1, cnt_loose9 (by omega)] <;> omega
  have kd1 : sKD D D1 (cnt (I 5) 9) := ⟨(show D1 0 0 = D 0 0 by rw [hD1]; rfl).trans (sKD.refl D (cnt (I 5) 9)).1, fun i hi => by rw [hD1, u2_eq, if_neg (by have := n9I1; omega)] <;> exact (sKD.refl D (cnt (I 5) 9)).2 i hi⟩
  conv in F0 _ _ _ _ => rw [← show D1 0 0 = D 0 0 from (by rw [hD1]; rfl)]
  conv in F0 _ _ _ _ => rw [← show D1 1 2 = D 1 2 from (by rw [hD1]; rfl)]
  rw [← show D1 0 0 = D 0 0 from (by rw [hD1]; rfl)] at hl
  refine lv_dup hx hb dX5_come_9 rfl ?_
  refine lv_iconst (v := 0) hx hb dX5_come_10 (by decide) ?_
  refine lv_iload_n hx hb dX5_come_11 rfl (lv_at hl 1 rfl) ?_
  refine s_iast K hG hS (t := 9) (by decide) (cv (show ∀ t, cnt (I1 5) t = cnt (I1 5) t from fun _ => rfl) (show q1 < cnt (I1 5) 9 by rw [hq1, eI1, cnt_loose9 (by omega)]; omega)) (by rw [(show ∀ t i, rln (I1 5) t i = rln (I1 5) t i from fun _ _ => rfl), (show rln (I1 5) 9 q1 = 8 by rw [hq1, eI1, rln_loose9 (by omega)])]; exact (show vp_in (nI 0) 8 from vp_in_nI (by decide) (by decide))) dX5_come_12 (fun I2 hI2 H locs hG hS => ?_)
  rw [show ((0 : Int32)).toNatClampNeg = 0 from rfl] at hI2
  have hok := hok I2 hI2
  have hc2 : ∀ t, cnt (I2 5) t = cnt (I1 5) t := fun t => by rw [hI2, gU_at, cnt_u3 (by decide), (show ∀ t, cnt (I1 5) t = cnt (I1 5) t from fun _ => rfl)]
  have hr2 : ∀ t i, rln (I2 5) t i = rln (I1 5) t i := fun t i => by rw [hI2, gU_at, rln_u3 (by decide), (show ∀ t i, rln (I1 5) t i = rln (I1 5) t i from fun _ _ => rfl)]
  refine lv_dup hx hb dX5_come_13 rfl ?_
  refine lv_iconst (v := 1) hx hb dX5_come_14 (by decide) ?_
  refine lv_iconst (v := 0) hx hb dX5_come_15 (by decide) ?_
  refine s_iast K hG hS (t := 9) (by decide) (cv hc2 (show q1 < cnt (I1 5) 9 by rw [hq1, eI1, cnt_loose9 (by omega)]; omega)) (by rw [hr2, (show rln (I1 5) 9 q1 = 8 by rw [hq1, eI1, rln_loose9 (by omega)])]; exact (show vp_in (nI 1) 8 from vp_in_nI (by decide) (by decide))) dX5_come_16 (fun I3 hI3 H locs hG hS => ?_)
  rw [show ((1 : Int32)).toNatClampNeg = 1 from rfl] at hI3
  have hok := hok I3 hI3
  have hc3 : ∀ t, cnt (I3 5) t = cnt (I1 5) t := fun t => by rw [hI3, gU_at, cnt_u3 (by decide), hc2]
  have hr3 : ∀ t i, rln (I3 5) t i = rln (I1 5) t i := fun t i => by rw [hI3, gU_at, rln_u3 (by decide), hr2]
  refine lv_dup hx hb dX5_come_17 rfl ?_
  refine lv_iconst (v := 2) hx hb dX5_come_18 (by decide) ?_
  refine lv_iconst (v := 0) hx hb dX5_come_19 (by decide) ?_
  refine s_iast K hG hS (t := 9) (by decide) (cv hc3 (show q1 < cnt (I1 5) 9 by rw [hq1, eI1, cnt_loose9 (by omega)]; omega)) (by rw [hr3, (show rln (I1 5) 9 q1 = 8 by rw [hq1, eI1, rln_loose9 (by omega)])]; exact (show vp_in (nI 2) 8 from vp_in_nI (by decide) (by decide))) dX5_come_20 (fun I4 hI4 H locs hG hS => ?_)
  rw [show ((2 : Int32)).toNatClampNeg = 2 from rfl] at hI4
  have hok := hok I4 hI4
  have hc4 : ∀ t, cnt (I4 5) t = cnt (I1 5) t := fun t => by rw [hI4, gU_at, cnt_u3 (by decide), hc3]
  have hr4 : ∀ t i, rln (I4 5) t i = rln (I1 5) t i := fun t i => by rw [hI4, gU_at, rln_u3 (by decide), hr3]
  refine lv_dup hx hb dX5_come_21 rfl ?_
  refine lv_iconst (v := 3) hx hb dX5_come_22 (by decide) ?_
  refine lv_iconst (v := (-1)) hx hb dX5_come_23 (by decide) ?_
  refine s_iast K hG hS (t := 9) (by decide) (cv hc4 (show q1 < cnt (I1 5) 9 by rw [hq1, eI1, cnt_loose9 (by omega)]; omega)) (by rw [hr4, (show rln (I1 5) 9 q1 = 8 by rw [hq1, eI1, rln_loose9 (by omega)])]; exact (show vp_in (nI 3) 8 from vp_in_nI (by decide) (by decide))) dX5_come_24 (fun I5 hI5 H locs hG hS => ?_)
  rw [show ((3 : Int32)).toNatClampNeg = 3 from rfl] at hI5
  have hok := hok I5 hI5
  have hc5 : ∀ t, cnt (I5 5) t = cnt (I1 5) t := fun t => by rw [hI5, gU_at, cnt_u3 (by decide), hc4]
  have hr5 : ∀ t i, rln (I5 5) t i = rln (I1 5) t i := fun t i => by rw [hI5, gU_at, rln_u3 (by decide), hr4]
  refine lv_dup hx hb dX5_come_25 rfl ?_
  refine lv_iconst (v := 4) hx hb dX5_come_26 (by decide) ?_
  refine lv_iconst (v := 0) hx hb dX5_come_27 (by decide) ?_
  refine s_iast K hG hS (t := 9) (by decide) (cv hc5 (show q1 < cnt (I1 5) 9 by rw [hq1, eI1, cnt_loose9 (by omega)]; omega)) (by rw [hr5, (show rln (I1 5) 9 q1 = 8 by rw [hq1, eI1, rln_loose9 (by omega)])]; exact (show vp_in (nI 4) 8 from vp_in_nI (by decide) (by decide))) dX5_come_28 (fun I6 hI6 H locs hG hS => ?_)
  rw [show ((4 : Int32)).toNatClampNeg = 4 from rfl] at hI6
  have hok := hok I6 hI6
  have hc6 : ∀ t, cnt (I6 5) t = cnt (I1 5) t := fun t => by rw [hI6, gU_at, cnt_u3 (by decide), hc5]
  have hr6 : ∀ t i, rln (I6 5) t i = rln (I1 5) t i := fun t i => by rw [hI6, gU_at, rln_u3 (by decide), hr5]
  refine lv_dup hx hb dX5_come_29 rfl ?_
  refine lv_iconst (v := 5) hx hb dX5_come_30 (by decide) ?_
  refine lv_iconst (v := 0) hx hb dX5_come_31 (by decide) ?_
  refine s_iast K hG hS (t := 9) (by decide) (cv hc6 (show q1 < cnt (I1 5) 9 by rw [hq1, eI1, cnt_loose9 (by omega)]; omega)) (by rw [hr6, (show rln (I1 5) 9 q1 = 8 by rw [hq1, eI1, rln_loose9 (by omega)])]; exact (show vp_in (nI 5) 8 from vp_in_nI (by decide) (by decide))) dX5_come_32 (fun I7 hI7 H locs hG hS => ?_)
  rw [show ((5 : Int32)).toNatClampNeg = 5 from rfl] at hI7
  have hok := hok I7 hI7
  have hc7 : ∀ t, cnt (I7 5) t = cnt (I1 5) t := fun t => by rw [hI7, gU_at, cnt_u3 (by decide), hc6]
  have hr7 : ∀ t i, rln (I7 5) t i = rln (I1 5) t i := fun t i => by rw [hI7, gU_at, rln_u3 (by decide), hr6]
  refine lv_dup hx hb dX5_come_33 rfl ?_
  refine lv_bipush (v := 6) hx hb dX5_come_34 (by decide) ?_
  refine lv_iconst (v := 0) hx hb dX5_come_36 (by decide) ?_
  refine s_iast K hG hS (t := 9) (by decide) (cv hc7 (show q1 < cnt (I1 5) 9 by rw [hq1, eI1, cnt_loose9 (by omega)]; omega)) (by rw [hr7, (show rln (I1 5) 9 q1 = 8 by rw [hq1, eI1, rln_loose9 (by omega)])]; exact (show vp_in (nI 6) 8 from vp_in_nI (by decide) (by decide))) dX5_come_37 (fun I8 hI8 H locs hG hS => ?_)
  rw [show ((6 : Int32)).toNatClampNeg = 6 from rfl] at hI8
  have hok := hok I8 hI8
  have hc8 : ∀ t, cnt (I8 5) t = cnt (I1 5) t := fun t => by rw [hI8, gU_at, cnt_u3 (by decide), hc7]
  have hr8 : ∀ t i, rln (I8 5) t i = rln (I1 5) t i := fun t i => by rw [hI8, gU_at, rln_u3 (by decide), hr7]
  refine lv_dup hx hb dX5_come_38 rfl ?_
  refine lv_bipush (v := 7) hx hb dX5_come_39 (by decide) ?_
  refine lv_iconst (v := 0) hx hb dX5_come_41 (by decide) ?_
  refine s_iast K hG hS (t := 9) (by decide) (cv hc8 (show q1 < cnt (I1 5) 9 by rw [hq1, eI1, cnt_loose9 (by omega)]; omega)) (by rw [hr8, (show rln (I1 5) 9 q1 = 8 by rw [hq1, eI1, rln_loose9 (by omega)])]; exact (show vp_in (nI 7) 8 from vp_in_nI (by decide) (by decide))) dX5_come_42 (fun I9 hI9 H locs hG hS => ?_)
  rw [show ((7 : Int32)).toNatClampNeg = 7 from rfl] at hI9
  have hok := hok I9 hI9
  have hc9 : ∀ t, cnt (I9 5) t = cnt (I1 5) t := fun t => by rw [hI9, gU_at, cnt_u3 (by decide), hc8]
  have hr9 : ∀ t i, rln (I9 5) t i = rln (I1 5) t i := fun t i => by rw [hI9, gU_at, rln_u3 (by decide), hr8]
  obtain ⟨ho2, hok⟩ := hok
  have hqI10 : q1 = cnt (I9 5) 9 - 1 := by have := n9I1; have := (show q1 = cnt (I 5) 9 + 0 by rw [hq1]; exact (show cnt (I 5) 9 = cnt (I 5) 9 + 0 by have h9 := (show cnt (I 5) 9 = cnt (I 5) 9 + 0 from rfl); have h8 := (show ∀ t, cnt (I 5) t = cnt (I 5) t from fun _ => rfl) 9; omega)); have := hc9 9; omega
  have h9I10 : 0 < cnt (I9 5) 9 := by have := n9I1; have := hc9 9; omega
  have hMI10 : cnt (I9 5) 2 < 330 := by rw [hc9]; exact ho2
  refine s_more K hAO hA hml hG hS (t := 2) (by decide) hqI10 h9I10 (by rw [hc9]; exact ho2) (fun _ => by rw [← hqI10, hr9, (show rln (I1 5) 9 q1 = 8 by rw [hq1, eI1, rln_loose9 (by omega)])]; rfl) hl.1 (Nat.le_of_ble_eq_true rfl) ⟨by decide, by decide⟩ ⟨(Nat.le_of_ble_eq_true rfl), (Nat.le_of_ble_eq_true rfl)⟩ q670 rfl (by decide +kernel) dX5_come_43 dX5_come_46 (fun a2 D2 hD2 I10 hI10 H locs hG hS => ?_)
  have eI10 : I10 5 = pMore (I9 5) 2 := by rw [hI10, gset_at]
  have hok := hok I10 hI10
  have n9I10 : cnt (I10 5) 9 = cnt (I 5) 9 + 0 := by have h9 := n9I1; have h8 := hc9 9; rw [eI10, cnt_more9 h9I10 (by decide)] <;> omega
  have kd2 : sKD D D2 (cnt (I 5) 9) := ⟨(show D2 0 0 = D1 0 0 by rw [hD2]; rfl).trans kd1.1, fun i hi => by rw [hD2, u2_eq, if_neg (by omega), u2_eq, if_neg (by omega)] <;> exact kd1.2 i hi⟩
  rw [← show D2 0 0 = D1 0 0 from (by rw [hD2, u2_eq, if_neg (by omega), u2_eq, if_neg (by omega)])] at hl
  refine lv_aload_n hx hb dX5_come_49 rfl (lv_at hl 0 rfl) ?_
  refine lv_aload_n hx hb dX5_come_50 rfl (lv_at hl 0 rfl) ?_
  refine sg_X5_19 K hG dX5_come_51 ?_
  refine lv_iconst (v := 0) hx hb dX5_come_54 (by decide) ?_
  obtain ⟨ho3, hok⟩ := hok
  have h9I11 : cnt (I10 5) 9 < 329 := by rw [(show ∀ t, cnt (I10 5) t = cnt (I10 5) t from fun _ => rfl)]; exact ho3
  obtain ⟨q3, hq3⟩ : ∃ z, z = cnt (I10 5) 9 := ⟨_, rfl⟩
  have hok := hok q3 hq3
  refine s_newi (N := 0) K hG hS rfl (by decide) (by omega) (Nat.le_of_ble_eq_true rfl) (Nat.le_of_ble_eq_true rfl) dX5_come_55 (fun a3 D3 hD3 I11 hI11 H hG hS => ?_)
  rw [← hq3]
  have eI11 : I11 5 = pLoose (I10 5) 0 (fun _ => 0) := by rw [hI11, gset_at]
  have hok := hok I11 hI11
  have n9I11 : cnt (I11 5) 9 = cnt (I 5) 9 + 1 := by have h9 := n9I10; have h8 := (show ∀ t, cnt (I10 5) t = cnt (I10 5) t from fun _ => rfl) 9; rw [eI11, cnt_loose9 (by omega)] <;> omega
  have kd3 : sKD D D3 (cnt (I 5) 9) := ⟨(show D3 0 0 = D2 0 0 by rw [hD3]; rfl).trans kd2.1, fun i hi => by rw [hD3, u2_eq, if_neg (by have := n9I11; omega)] <;> exact kd2.2 i hi⟩
  conv in F0 _ _ _ _ => rw [← show D3 0 0 = D2 0 0 from (by rw [hD3]; rfl)]
  conv in F0 _ _ _ _ => rw [← show D3 1 3 = D2 1 3 from (by rw [hD3]; rfl)]
  rw [← show D3 0 0 = D2 0 0 from (by rw [hD3]; rfl)] at hl
  obtain ⟨ho4, hok⟩ := hok
  have hqI12 : q3 = cnt (I11 5) 9 - 1 := by have := n9I11; have := (show q3 = cnt (I 5) 9 + 0 by rw [hq3]; exact (show cnt (I10 5) 9 = cnt (I 5) 9 + 0 by have h9 := n9I10; have h8 := (show ∀ t, cnt (I10 5) t = cnt (I10 5) t from fun _ => rfl) 9; omega)); have := (show ∀ t, cnt (I11 5) t = cnt (I11 5) t from fun _ => rfl) 9; omega
  have h9I12 : 0 < cnt (I11 5) 9 := by have := n9I11; have := (show ∀ t, cnt (I11 5) t = cnt (I11 5) t from fun _ => rfl) 9; omega
  have hMI12 : cnt (I11 5) 3 < 330 := by rw [(show ∀ t, cnt (I11 5) t = cnt (I11 5) t from fun _ => rfl)]; exact ho4
  refine s_more K hAO hA hml hG hS (t := 3) (by decide) hqI12 h9I12 (by rw [(show ∀ t, cnt (I11 5) t = cnt (I11 5) t from fun _ => rfl)]; exact ho4) (fun h => absurd rfl h) hl.1 (Nat.le_of_ble_eq_true rfl) ⟨by decide, by decide⟩ ⟨(Nat.le_of_ble_eq_true rfl), (Nat.le_of_ble_eq_true rfl)⟩ q672 rfl (by decide +kernel) dX5_come_57 dX5_come_60 (fun a4 D4 hD4 I12 hI12 H locs hG hS => ?_)
  have eI12 : I12 5 = pMore (I11 5) 3 := by rw [hI12, gset_at]
  have hok := hok I12 hI12
  have n9I12 : cnt (I12 5) 9 = cnt (I 5) 9 + 0 := by have h9 := n9I11; have h8 := (show ∀ t, cnt (I11 5) t = cnt (I11 5) t from fun _ => rfl) 9; rw [eI12, cnt_more9 h9I12 (by decide)] <;> omega
  have kd4 : sKD D D4 (cnt (I 5) 9) := ⟨(show D4 0 0 = D3 0 0 by rw [hD4]; rfl).trans kd3.1, fun i hi => by rw [hD4, u2_eq, if_neg (by omega), u2_eq, if_neg (by omega)] <;> exact kd3.2 i hi⟩
  rw [← show D4 0 0 = D3 0 0 from (by rw [hD4, u2_eq, if_neg (by omega), u2_eq, if_neg (by omega)])] at hl
  have eS : I12 = (f_S_come I x) := by simp only [f_S_come, ← hq1, ← hI1, ← hI2, ← hI3, ← hI4, ← hI5, ← hI6, ← hI7, ← hI8, ← hI9, ← hI10, ← hq3, ← hI11, ← hI12]
  rw [eS] at hG
  exact W.widen (k := 4) (n := 700) (Nat.le_of_ble_eq_true rfl) (Nat.le_of_ble_eq_true rfl) (s_vret K hG kd4 hS hr hlocks dX5_come_63)
def f_S_bring_l1 (x : Int32) : Nat → Nat → gI → gI
  | 0, i, I17 =>
    I17
  | n + 1, i, I17 =>
    if (I17 5 2 i 2) = 3 then
      let I18 := gU I17 5 2 i 2 0
      f_S_bring_l1 x n (i + 1) I18
    else
      f_S_bring_l1 x n (i + 1) I17
def ok_f_S_bring_l1 (x : Int32) : Nat → Nat → gI → Prop
  | 0, i, I17 =>
    True
  | n + 1, i, I17 =>
    (((I17 5 2 i 2) = 3) →
      ∀ I18, I18 = gU I17 5 2 i 2 0 →
      ok_f_S_bring_l1 x n (i + 1) I18) ∧
    (¬ ((I17 5 2 i 2) = 3) →
      ok_f_S_bring_l1 x n (i + 1) I17)
def f_S_bring (I : gI) (x : Int32) : gI :=
  let q1 := cnt (I 5) 9
  let I1 := gset I 5 (pLoose (I 5) 6 (fun _ => 0))
  let I2 := gU I1 5 9 q1 0 x
  let I3 := gU I2 5 9 q1 1 x
  let I4 := gU I3 5 9 q1 2 (nI (cnt (I1 5) 4))
  let I5 := gU I4 5 9 q1 3 (-1)
  let I6 := gU I5 5 9 q1 4 (-1)
  let I7 := gU I6 5 9 q1 5 0
  let I8 := gset I7 5 (pMore (I7 5) 5)
  let q3 := cnt (I8 5) 9
  let I9 := gset I8 5 (pLoose (I8 5) 6 (fun _ => 0))
  let I10 := gU I9 5 9 q3 0 x
  let I11 := gU I10 5 9 q3 1 ((nI (cnt (I9 5) 5)) - 1)
  let I12 := gU I11 5 9 q3 2 (I11 5 0 0 0)
  let I13 := gU I12 5 9 q3 3 (-1)
  let I14 := gU I13 5 9 q3 4 0
  let I15 := gU I14 5 9 q3 5 0
  let I16 := gset I15 5 (pMore (I15 5) 4)
  f_S_bring_l1 x (cnt (I16 5) 2) 0 I16
def ok_S_bring (I : gI) (x : Int32) : Prop :=
  cnt (I 5) 9 < 329 ∧
  ∀ q1, q1 = cnt (I 5) 9 →
  ∀ I1, I1 = gset I 5 (pLoose (I 5) 6 (fun _ => 0)) →
  ∀ I2, I2 = gU I1 5 9 q1 0 x →
  ∀ I3, I3 = gU I2 5 9 q1 1 x →
  ∀ I4, I4 = gU I3 5 9 q1 2 (nI (cnt (I1 5) 4)) →
  ∀ I5, I5 = gU I4 5 9 q1 3 (-1) →
  ∀ I6, I6 = gU I5 5 9 q1 4 (-1) →
  ∀ I7, I7 = gU I6 5 9 q1 5 0 →
  cnt (I1 5) 5 < 330 ∧
  ∀ I8, I8 = gset I7 5 (pMore (I7 5) 5) →
  cnt (I8 5) 9 < 329 ∧
  ∀ q3, q3 = cnt (I8 5) 9 →
  ∀ I9, I9 = gset I8 5 (pLoose (I8 5) 6 (fun _ => 0)) →
  ∀ I10, I10 = gU I9 5 9 q3 0 x →
  ∀ I11, I11 = gU I10 5 9 q3 1 ((nI (cnt (I9 5) 5)) - 1) →
  ∀ I12, I12 = gU I11 5 9 q3 2 (I11 5 0 0 0) →
  ∀ I13, I13 = gU I12 5 9 q3 3 (-1) →
  ∀ I14, I14 = gU I13 5 9 q3 4 0 →
  ∀ I15, I15 = gU I14 5 9 q3 5 0 →
  cnt (I9 5) 4 < 330 ∧
  ∀ I16, I16 = gset I15 5 (pMore (I15 5) 4) →
  ok_f_S_bring_l1 x (cnt (I16 5) 2) 0 I16
set_option maxHeartbeats 4000000 in
set_option maxRecDepth 100000 in
theorem m_S_bring (l : Launch) (E : gE) (F : Nat → Prop) (J : Int64) (D : sD) (I : gI) (x : Int32) (hA : ∀ q, F q → gN E ≤ q)  (hok : ok_S_bring I x) : sM l E yX5_bring cX5_bring 6 none 1 4 700 23 [.ref (D 0 0), .int x] (fun H => LW E F J D I H) (sQv E F J D I (f_S_bring I x)) F := by
  refine s_entry (lv := [(0, .ref (D 0 0)), (1, .int x)]) (by decide) (Nat.le_of_ble_eq_true rfl) rfl ?_
  intro p e s m below meth c0 ls K hAO hG hS hml hr hlocks hl
  have hG : LW E F J D I s.heap := hG
  have K : kx E p m c0 cX5_bring "HayThievesLaw$Sim" _ s := K
  have hx := K.1
  have hb := K.2.1
  have hts := K.2.2.1
  have hown := K.2.2.2.1
  have hSt := K.2.2.2.2
  unfold ok_S_bring at hok
  refine lv_aload_n hx hb dX5_bring_0 rfl (lv_at hl 0 rfl) ?_
  refine lv_aload_n hx hb dX5_bring_1 rfl (lv_at hl 0 rfl) ?_
  refine sg_X5_25 K hG dX5_bring_2 ?_
  refine lv_bipush (v := 6) hx hb dX5_bring_5 (by decide) ?_
  obtain ⟨ho1, hok⟩ := hok
  have h9I1 : cnt (I 5) 9 < 329 := by rw [(show ∀ t, cnt (I 5) t = cnt (I 5) t from fun _ => rfl)]; exact ho1
  obtain ⟨q1, hq1⟩ : ∃ z, z = cnt (I 5) 9 := ⟨_, rfl⟩
  have hok := hok q1 hq1
  refine s_newi (N := 6) K hG hS rfl (by decide) (by omega) (Nat.le_of_ble_eq_true rfl) (Nat.le_of_ble_eq_true rfl) dX5_bring_7 (fun a1 D1 hD1 I1 hI1 H hG hS => ?_)
  rw [← hq1]
  have eI1 : I1 5 = pLoose (I 5) 6 (fun _ => 0) := by rw [hI1, gset_at]
  have hok := hok I1 hI1
  have n9I1 : cnt (I1 5) 9 = cnt (I 5) 9 + 1 := by have h9 := (show cnt (I 5) 9 = cnt (I 5) 9 + 0 from rfl); have h8 := (show ∀ t, cnt (I 5) t = cnt (I 5) t from fun _ => rfl) 9; rw [eI1, cnt_loose9 (by omega)] <;> omega
  have kd1 : sKD D D1 (cnt (I 5) 9) := ⟨(show D1 0 0 = D 0 0 by rw [hD1]; rfl).trans (sKD.refl D (cnt (I 5) 9)).1, fun i hi => by rw [hD1, u2_eq, if_neg (by have := n9I1; omega)] <;> exact (sKD.refl D (cnt (I 5) 9)).2 i hi⟩
  conv in F0 _ _ _ _ => rw [← show D1 0 0 = D 0 0 from (by rw [hD1]; rfl)]
  conv in F0 _ _ _ _ => rw [← show D1 1 5 = D 1 5 from (by rw [hD1]; rfl)]
  rw [← show D1 0 0 = D 0 0 from (by rw [hD1]; rfl)] at hl
  refine lv_dup hx hb dX5_bring_9 rfl ?_
  refine lv_iconst (v := 0) hx hb dX5_bring_10 (by decide) ?_
  refine lv_iload_n hx hb dX5_bring_11 rfl (lv_at hl 1 rfl) ?_
  refine s_iast K hG hS (t := 9) (by decide) (cv (show ∀ t, cnt (I1 5) t = cnt (I1 5) t from fun _ => rfl) (show q1 < cnt (I1 5) 9 by rw [hq1, eI1, cnt_loose9 (by omega)]; omega)) (by rw [(show ∀ t i, rln (I1 5) t i = rln (I1 5) t i from fun _ _ => rfl), (show rln (I1 5) 9 q1 = 6 by rw [hq1, eI1, rln_loose9 (by omega)])]; exact (show vp_in (nI 0) 6 from vp_in_nI (by decide) (by decide))) dX5_bring_12 (fun I2 hI2 H locs hG hS => ?_)
  rw [show ((0 : Int32)).toNatClampNeg = 0 from rfl] at hI2
  have hok := hok I2 hI2
  have hc2 : ∀ t, cnt (I2 5) t = cnt (I1 5) t := fun t => by rw [hI2, gU_at, cnt_u3 (by decide), (show ∀ t, cnt (I1 5) t = cnt (I1 5) t from fun _ => rfl)]
  have hr2 : ∀ t i, rln (I2 5) t i = rln (I1 5) t i := fun t i => by rw [hI2, gU_at, rln_u3 (by decide), (show ∀ t i, rln (I1 5) t i = rln (I1 5) t i from fun _ _ => rfl)]
  refine lv_dup hx hb dX5_bring_13 rfl ?_
  refine lv_iconst (v := 1) hx hb dX5_bring_14 (by decide) ?_
  refine lv_iload_n hx hb dX5_bring_15 rfl (lv_at hl 1 rfl) ?_
  refine s_iast K hG hS (t := 9) (by decide) (cv hc2 (show q1 < cnt (I1 5) 9 by rw [hq1, eI1, cnt_loose9 (by omega)]; omega)) (by rw [hr2, (show rln (I1 5) 9 q1 = 6 by rw [hq1, eI1, rln_loose9 (by omega)])]; exact (show vp_in (nI 1) 6 from vp_in_nI (by decide) (by decide))) dX5_bring_16 (fun I3 hI3 H locs hG hS => ?_)
  rw [show ((1 : Int32)).toNatClampNeg = 1 from rfl] at hI3
  have hok := hok I3 hI3
  have hc3 : ∀ t, cnt (I3 5) t = cnt (I1 5) t := fun t => by rw [hI3, gU_at, cnt_u3 (by decide), hc2]
  have hr3 : ∀ t i, rln (I3 5) t i = rln (I1 5) t i := fun t i => by rw [hI3, gU_at, rln_u3 (by decide), hr2]
  refine lv_dup hx hb dX5_bring_17 rfl ?_
  refine lv_iconst (v := 2) hx hb dX5_bring_18 (by decide) ?_
  refine lv_aload_n hx hb dX5_bring_19 rfl (lv_at hl 0 rfl) ?_
  refine sg_X5_22 K hG dX5_bring_20 ?_
  refine s_alen1 K hG (t := 4) (by decide) dX5_bring_23 ?_
  rw [hG.b.c 4, hc3]
  refine s_iast K hG hS (t := 9) (by decide) (cv hc3 (show q1 < cnt (I1 5) 9 by rw [hq1, eI1, cnt_loose9 (by omega)]; omega)) (by rw [hr3, (show rln (I1 5) 9 q1 = 6 by rw [hq1, eI1, rln_loose9 (by omega)])]; exact (show vp_in (nI 2) 6 from vp_in_nI (by decide) (by decide))) dX5_bring_24 (fun I4 hI4 H locs hG hS => ?_)
  rw [show ((2 : Int32)).toNatClampNeg = 2 from rfl] at hI4
  have hok := hok I4 hI4
  have hc4 : ∀ t, cnt (I4 5) t = cnt (I1 5) t := fun t => by rw [hI4, gU_at, cnt_u3 (by decide), hc3]
  have hr4 : ∀ t i, rln (I4 5) t i = rln (I1 5) t i := fun t i => by rw [hI4, gU_at, rln_u3 (by decide), hr3]
  refine lv_dup hx hb dX5_bring_25 rfl ?_
  refine lv_iconst (v := 3) hx hb dX5_bring_26 (by decide) ?_
  refine lv_iconst (v := (-1)) hx hb dX5_bring_27 (by decide) ?_
  refine s_iast K hG hS (t := 9) (by decide) (cv hc4 (show q1 < cnt (I1 5) 9 by rw [hq1, eI1, cnt_loose9 (by omega)]; omega)) (by rw [hr4, (show rln (I1 5) 9 q1 = 6 by rw [hq1, eI1, rln_loose9 (by omega)])]; exact (show vp_in (nI 3) 6 from vp_in_nI (by decide) (by decide))) dX5_bring_28 (fun I5 hI5 H locs hG hS => ?_)
  rw [show ((3 : Int32)).toNatClampNeg = 3 from rfl] at hI5
  have hok := hok I5 hI5
  have hc5 : ∀ t, cnt (I5 5) t = cnt (I1 5) t := fun t => by rw [hI5, gU_at, cnt_u3 (by decide), hc4]
  have hr5 : ∀ t i, rln (I5 5) t i = rln (I1 5) t i := fun t i => by rw [hI5, gU_at, rln_u3 (by decide), hr4]
  refine lv_dup hx hb dX5_bring_29 rfl ?_
  refine lv_iconst (v := 4) hx hb dX5_bring_30 (by decide) ?_
  refine lv_iconst (v := (-1)) hx hb dX5_bring_31 (by decide) ?_
  refine s_iast K hG hS (t := 9) (by decide) (cv hc5 (show q1 < cnt (I1 5) 9 by rw [hq1, eI1, cnt_loose9 (by omega)]; omega)) (by rw [hr5, (show rln (I1 5) 9 q1 = 6 by rw [hq1, eI1, rln_loose9 (by omega)])]; exact (show vp_in (nI 4) 6 from vp_in_nI (by decide) (by decide))) dX5_bring_32 (fun I6 hI6 H locs hG hS => ?_)
  rw [show ((4 : Int32)).toNatClampNeg = 4 from rfl] at hI6
  have hok := hok I6 hI6
  have hc6 : ∀ t, cnt (I6 5) t = cnt (I1 5) t := fun t => by rw [hI6, gU_at, cnt_u3 (by decide), hc5]
  have hr6 : ∀ t i, rln (I6 5) t i = rln (I1 5) t i := fun t i => by rw [hI6, gU_at, rln_u3 (by decide), hr5]
  refine lv_dup hx hb dX5_bring_33 rfl ?_
  refine lv_iconst (v := 5) hx hb dX5_bring_34 (by decide) ?_
  refine lv_iconst (v := 0) hx hb dX5_bring_35 (by decide) ?_
  refine s_iast K hG hS (t := 9) (by decide) (cv hc6 (show q1 < cnt (I1 5) 9 by rw [hq1, eI1, cnt_loose9 (by omega)]; omega)) (by rw [hr6, (show rln (I1 5) 9 q1 = 6 by rw [hq1, eI1, rln_loose9 (by omega)])]; exact (show vp_in (nI 5) 6 from vp_in_nI (by decide) (by decide))) dX5_bring_36 (fun I7 hI7 H locs hG hS => ?_)
  rw [show ((5 : Int32)).toNatClampNeg = 5 from rfl] at hI7
  have hok := hok I7 hI7
  have hc7 : ∀ t, cnt (I7 5) t = cnt (I1 5) t := fun t => by rw [hI7, gU_at, cnt_u3 (by decide), hc6]
  have hr7 : ∀ t i, rln (I7 5) t i = rln (I1 5) t i := fun t i => by rw [hI7, gU_at, rln_u3 (by decide), hr6]
  obtain ⟨ho2, hok⟩ := hok
  have hqI8 : q1 = cnt (I7 5) 9 - 1 := by have := n9I1; have := (show q1 = cnt (I 5) 9 + 0 by rw [hq1]; exact (show cnt (I 5) 9 = cnt (I 5) 9 + 0 by have h9 := (show cnt (I 5) 9 = cnt (I 5) 9 + 0 from rfl); have h8 := (show ∀ t, cnt (I 5) t = cnt (I 5) t from fun _ => rfl) 9; omega)); have := hc7 9; omega
  have h9I8 : 0 < cnt (I7 5) 9 := by have := n9I1; have := hc7 9; omega
  have hMI8 : cnt (I7 5) 5 < 330 := by rw [hc7]; exact ho2
  refine s_more K hAO hA hml hG hS (t := 5) (by decide) hqI8 h9I8 (by rw [hc7]; exact ho2) (fun _ => by rw [← hqI8, hr7, (show rln (I1 5) 9 q1 = 6 by rw [hq1, eI1, rln_loose9 (by omega)])]; rfl) hl.1 (Nat.le_of_ble_eq_true rfl) ⟨by decide, by decide⟩ ⟨(Nat.le_of_ble_eq_true rfl), (Nat.le_of_ble_eq_true rfl)⟩ q676 rfl (by decide +kernel) dX5_bring_37 dX5_bring_40 (fun a2 D2 hD2 I8 hI8 H locs hG hS => ?_)
  have eI8 : I8 5 = pMore (I7 5) 5 := by rw [hI8, gset_at]
  have hok := hok I8 hI8
  have n9I8 : cnt (I8 5) 9 = cnt (I 5) 9 + 0 := by have h9 := n9I1; have h8 := hc7 9; rw [eI8, cnt_more9 h9I8 (by decide)] <;> omega
  have kd2 : sKD D D2 (cnt (I 5) 9) := ⟨(show D2 0 0 = D1 0 0 by rw [hD2]; rfl).trans kd1.1, fun i hi => by rw [hD2, u2_eq, if_neg (by omega), u2_eq, if_neg (by omega)] <;> exact kd1.2 i hi⟩
  rw [← show D2 0 0 = D1 0 0 from (by rw [hD2, u2_eq, if_neg (by omega), u2_eq, if_neg (by omega)])] at hl
  refine lv_aload_n hx hb dX5_bring_43 rfl (lv_at hl 0 rfl) ?_
  refine lv_aload_n hx hb dX5_bring_44 rfl (lv_at hl 0 rfl) ?_
  refine sg_X5_22 K hG dX5_bring_45 ?_
  refine lv_bipush (v := 6) hx hb dX5_bring_48 (by decide) ?_
  obtain ⟨ho3, hok⟩ := hok
  have h9I9 : cnt (I8 5) 9 < 329 := by rw [(show ∀ t, cnt (I8 5) t = cnt (I8 5) t from fun _ => rfl)]; exact ho3
  obtain ⟨q3, hq3⟩ : ∃ z, z = cnt (I8 5) 9 := ⟨_, rfl⟩
  have hok := hok q3 hq3
  refine s_newi (N := 6) K hG hS rfl (by decide) (by omega) (Nat.le_of_ble_eq_true rfl) (Nat.le_of_ble_eq_true rfl) dX5_bring_50 (fun a3 D3 hD3 I9 hI9 H hG hS => ?_)
  rw [← hq3]
  have eI9 : I9 5 = pLoose (I8 5) 6 (fun _ => 0) := by rw [hI9, gset_at]
  have hok := hok I9 hI9
  have n9I9 : cnt (I9 5) 9 = cnt (I 5) 9 + 1 := by have h9 := n9I8; have h8 := (show ∀ t, cnt (I8 5) t = cnt (I8 5) t from fun _ => rfl) 9; rw [eI9, cnt_loose9 (by omega)] <;> omega
  have kd3 : sKD D D3 (cnt (I 5) 9) := ⟨(show D3 0 0 = D2 0 0 by rw [hD3]; rfl).trans kd2.1, fun i hi => by rw [hD3, u2_eq, if_neg (by have := n9I9; omega)] <;> exact kd2.2 i hi⟩
  conv in F0 _ _ _ _ => rw [← show D3 0 0 = D2 0 0 from (by rw [hD3]; rfl)]
  conv in F0 _ _ _ _ => rw [← show D3 1 4 = D2 1 4 from (by rw [hD3]; rfl)]
  rw [← show D3 0 0 = D2 0 0 from (by rw [hD3]; rfl)] at hl
  refine lv_dup hx hb dX5_bring_52 rfl ?_
  refine lv_iconst (v := 0) hx hb dX5_bring_53 (by decide) ?_
  refine lv_iload_n hx hb dX5_bring_54 rfl (lv_at hl 1 rfl) ?_
  refine s_iast K hG hS (t := 9) (by decide) (cv (show ∀ t, cnt (I9 5) t = cnt (I9 5) t from fun _ => rfl) (show q3 < cnt (I9 5) 9 by rw [hq3, eI9, cnt_loose9 (by omega)]; omega)) (by rw [(show ∀ t i, rln (I9 5) t i = rln (I9 5) t i from fun _ _ => rfl), (show rln (I9 5) 9 q3 = 6 by rw [hq3, eI9, rln_loose9 (by omega)])]; exact (show vp_in (nI 0) 6 from vp_in_nI (by decide) (by decide))) dX5_bring_55 (fun I10 hI10 H locs hG hS => ?_)
  rw [show ((0 : Int32)).toNatClampNeg = 0 from rfl] at hI10
  have hok := hok I10 hI10
  have hc10 : ∀ t, cnt (I10 5) t = cnt (I9 5) t := fun t => by rw [hI10, gU_at, cnt_u3 (by decide), (show ∀ t, cnt (I9 5) t = cnt (I9 5) t from fun _ => rfl)]
  have hr10 : ∀ t i, rln (I10 5) t i = rln (I9 5) t i := fun t i => by rw [hI10, gU_at, rln_u3 (by decide), (show ∀ t i, rln (I9 5) t i = rln (I9 5) t i from fun _ _ => rfl)]
  refine lv_dup hx hb dX5_bring_56 rfl ?_
  refine lv_iconst (v := 1) hx hb dX5_bring_57 (by decide) ?_
  refine lv_aload_n hx hb dX5_bring_58 rfl (lv_at hl 0 rfl) ?_
  refine sg_X5_25 K hG dX5_bring_59 ?_
  refine s_alen1 K hG (t := 5) (by decide) dX5_bring_62 ?_
  rw [hG.b.c 5, hc10]
  refine lv_iconst (v := 1) hx hb dX5_bring_63 (by decide) ?_
  refine lv_isub hx hb dX5_bring_64 ?_
  refine s_iast K hG hS (t := 9) (by decide) (cv hc10 (show q3 < cnt (I9 5) 9 by rw [hq3, eI9, cnt_loose9 (by omega)]; omega)) (by rw [hr10, (show rln (I9 5) 9 q3 = 6 by rw [hq3, eI9, rln_loose9 (by omega)])]; exact (show vp_in (nI 1) 6 from vp_in_nI (by decide) (by decide))) dX5_bring_65 (fun I11 hI11 H locs hG hS => ?_)
  rw [show ((1 : Int32)).toNatClampNeg = 1 from rfl] at hI11
  have hok := hok I11 hI11
  have hc11 : ∀ t, cnt (I11 5) t = cnt (I9 5) t := fun t => by rw [hI11, gU_at, cnt_u3 (by decide), hc10]
  have hr11 : ∀ t i, rln (I11 5) t i = rln (I9 5) t i := fun t i => by rw [hI11, gU_at, rln_u3 (by decide), hr10]
  refine lv_dup hx hb dX5_bring_66 rfl ?_
  refine lv_iconst (v := 2) hx hb dX5_bring_67 (by decide) ?_
  refine lv_aload_n hx hb dX5_bring_68 rfl (lv_at hl 0 rfl) ?_
  refine sg_X5_33 K hG dX5_bring_69 ?_
  refine s_iast K hG hS (t := 9) (by decide) (cv hc11 (show q3 < cnt (I9 5) 9 by rw [hq3, eI9, cnt_loose9 (by omega)]; omega)) (by rw [hr11, (show rln (I9 5) 9 q3 = 6 by rw [hq3, eI9, rln_loose9 (by omega)])]; exact (show vp_in (nI 2) 6 from vp_in_nI (by decide) (by decide))) dX5_bring_72 (fun I12 hI12 H locs hG hS => ?_)
  rw [show ((2 : Int32)).toNatClampNeg = 2 from rfl] at hI12
  have hok := hok I12 hI12
  have hc12 : ∀ t, cnt (I12 5) t = cnt (I9 5) t := fun t => by rw [hI12, gU_at, cnt_u3 (by decide), hc11]
  have hr12 : ∀ t i, rln (I12 5) t i = rln (I9 5) t i := fun t i => by rw [hI12, gU_at, rln_u3 (by decide), hr11]
  refine lv_dup hx hb dX5_bring_73 rfl ?_
  refine lv_iconst (v := 3) hx hb dX5_bring_74 (by decide) ?_
  refine lv_iconst (v := (-1)) hx hb dX5_bring_75 (by decide) ?_
  refine s_iast K hG hS (t := 9) (by decide) (cv hc12 (show q3 < cnt (I9 5) 9 by rw [hq3, eI9, cnt_loose9 (by omega)]; omega)) (by rw [hr12, (show rln (I9 5) 9 q3 = 6 by rw [hq3, eI9, rln_loose9 (by omega)])]; exact (show vp_in (nI 3) 6 from vp_in_nI (by decide) (by decide))) dX5_bring_76 (fun I13 hI13 H locs hG hS => ?_)
  rw [show ((3 : Int32)).toNatClampNeg = 3 from rfl] at hI13
  have hok := hok I13 hI13
  have hc13 : ∀ t, cnt (I13 5) t = cnt (I9 5) t := fun t => by rw [hI13, gU_at, cnt_u3 (by decide), hc12]
  have hr13 : ∀ t i, rln (I13 5) t i = rln (I9 5) t i := fun t i => by rw [hI13, gU_at, rln_u3 (by decide), hr12]
  refine lv_dup hx hb dX5_bring_77 rfl ?_
  refine lv_iconst (v := 4) hx hb dX5_bring_78 (by decide) ?_
  refine lv_iconst (v := 0) hx hb dX5_bring_79 (by decide) ?_
  refine s_iast K hG hS (t := 9) (by decide) (cv hc13 (show q3 < cnt (I9 5) 9 by rw [hq3, eI9, cnt_loose9 (by omega)]; omega)) (by rw [hr13, (show rln (I9 5) 9 q3 = 6 by rw [hq3, eI9, rln_loose9 (by omega)])]; exact (show vp_in (nI 4) 6 from vp_in_nI (by decide) (by decide))) dX5_bring_80 (fun I14 hI14 H locs hG hS => ?_)
  rw [show ((4 : Int32)).toNatClampNeg = 4 from rfl] at hI14
  have hok := hok I14 hI14
  have hc14 : ∀ t, cnt (I14 5) t = cnt (I9 5) t := fun t => by rw [hI14, gU_at, cnt_u3 (by decide), hc13]
  have hr14 : ∀ t i, rln (I14 5) t i = rln (I9 5) t i := fun t i => by rw [hI14, gU_at, rln_u3 (by decide), hr13]
  refine lv_dup hx hb dX5_bring_81 rfl ?_
  refine lv_iconst (v := 5) hx hb dX5_bring_82 (by decide) ?_
  refine lv_iconst (v := 0) hx hb dX5_bring_83 (by decide) ?_
  refine s_iast K hG hS (t := 9) (by decide) (cv hc14 (show q3 < cnt (I9 5) 9 by rw [hq3, eI9, cnt_loose9 (by omega)]; omega)) (by rw [hr14, (show rln (I9 5) 9 q3 = 6 by rw [hq3, eI9, rln_loose9 (by omega)])]; exact (show vp_in (nI 5) 6 from vp_in_nI (by decide) (by decide))) dX5_bring_84 (fun I15 hI15 H locs hG hS => ?_)
  rw [show ((5 : Int32)).toNatClampNeg = 5 from rfl] at hI15
  have hok := hok I15 hI15
  have hc15 : ∀ t, cnt (I15 5) t = cnt (I9 5) t := fun t => by rw [hI15, gU_at, cnt_u3 (by decide), hc14]
  have hr15 : ∀ t i, rln (I15 5) t i = rln (I9 5) t i := fun t i => by rw [hI15, gU_at, rln_u3 (by decide), hr14]
  obtain ⟨ho4, hok⟩ := hok
  have hqI16 : q3 = cnt (I15 5) 9 - 1 := by have := n9I9; have := (show q3 = cnt (I 5) 9 + 0 by rw [hq3]; exact (show cnt (I8 5) 9 = cnt (I 5) 9 + 0 by have h9 := n9I8; have h8 := (show ∀ t, cnt (I8 5) t = cnt (I8 5) t from fun _ => rfl) 9; omega)); have := hc15 9; omega
  have h9I16 : 0 < cnt (I15 5) 9 := by have := n9I9; have := hc15 9; omega
  have hMI16 : cnt (I15 5) 4 < 330 := by rw [hc15]; exact ho4
  refine s_more K hAO hA hml hG hS (t := 4) (by decide) hqI16 h9I16 (by rw [hc15]; exact ho4) (fun _ => by rw [← hqI16, hr15, (show rln (I9 5) 9 q3 = 6 by rw [hq3, eI9, rln_loose9 (by omega)])]; rfl) hl.1 (Nat.le_of_ble_eq_true rfl) ⟨by decide, by decide⟩ ⟨(Nat.le_of_ble_eq_true rfl), (Nat.le_of_ble_eq_true rfl)⟩ q674 rfl (by decide +kernel) dX5_bring_85 dX5_bring_88 (fun a4 D4 hD4 I16 hI16 H locs hG hS => ?_)
  have eI16 : I16 5 = pMore (I15 5) 4 := by rw [hI16, gset_at]
  have hok := hok I16 hI16
  have n9I16 : cnt (I16 5) 9 = cnt (I 5) 9 + 0 := by have h9 := n9I9; have h8 := hc15 9; rw [eI16, cnt_more9 h9I16 (by decide)] <;> omega
  have kd4 : sKD D D4 (cnt (I 5) 9) := ⟨(show D4 0 0 = D3 0 0 by rw [hD4]; rfl).trans kd3.1, fun i hi => by rw [hD4, u2_eq, if_neg (by omega), u2_eq, if_neg (by omega)] <;> exact kd3.2 i hi⟩
  rw [← show D4 0 0 = D3 0 0 from (by rw [hD4, u2_eq, if_neg (by omega), u2_eq, if_neg (by omega)])] at hl
  refine lv_aload_n hx hb dX5_bring_91 rfl (lv_at hl 0 rfl) ?_
  refine sg_X5_15 K hG dX5_bring_92 ?_
  refine lv_astore_n (lv' := [(2, .ref (D4 1 2)), (0, .ref (D4 0 0)), (1, .int x)]) hx hb dX5_bring_95 rfl hl (by decide) rfl (fun ls hl => ?_)
  refine lv_aload_n hx hb dX5_bring_96 rfl (lv_at hl 0 rfl) ?_
  refine s_alen1 K hG (t := 2) (by decide) dX5_bring_97 ?_
  rw [hG.b.c 2, (show ∀ t, cnt (I16 5) t = cnt (I16 5) t from fun _ => rfl)]
  refine lv_istore_n (lv' := [(3, .int (nI (cnt (I16 5) 2))), (2, .ref (D4 1 2)), (0, .ref (D4 0 0)), (1, .int x)]) hx hb dX5_bring_98 rfl hl (by decide) rfl (fun ls hl => ?_)
  have hb2 := hG.b.cl 2
  rw [(show ∀ t, cnt (I16 5) t = cnt (I16 5) t from fun _ => rfl)] at hb2
  refine lv_iconst (v := 0) hx hb dX5_bring_99 (by decide) ?_
  refine lv_istore (lv' := [(4, .int 0), (3, .int (nI (cnt (I16 5) 2))), (2, .ref (D4 1 2)), (0, .ref (D4 0 0)), (1, .int x)]) hx hb dX5_bring_100 hl (by decide) rfl (fun ls hl => ?_)
  have hL : ∀ (n i : Nat)  (I17 : gI) (H : Heap) (locs : List Loc) (ls : Array Slot), i + n = cnt (I16 5) 2 → f_S_bring_l1 x n i I17 = (f_S_bring I x) → ok_f_S_bring_l1 x n i I17 → (∀ t, cnt (I17 5) t = cnt (I16 5) t) → (∀ t i, rln (I17 5) t i = rln (I16 5) t i) → LW E F J D4 I17 H → va_S F s.heap H locs → lv_has ls 6 [(4, .int (nI i)), (3, .int (nI (cnt (I16 5) 2))), (2, .ref (D4 1 2))] → W p l e (rmc 1 4 700 23) s m ([.ref (D 0 0), .int x] : List Value).toArray below meth c0 H locs 4 672 (MQ below (sQv E F J D I (f_S_bring I x)) ([.ref (D 0 0), .int x] : List Value).toArray s 4 700 F) (F0 m 102 ls []) := by
    intro n
    induction n with
    | zero =>
      intro i I17 H locs ls hin hT hok hcL hrL hG hS hl
      unfold ok_f_S_bring_l1 at hok
      refine lv_iload hx hb dX5_bring_102 (lv_at hl 0 rfl) ?_
      refine lv_iload_n hx hb dX5_bring_104 rfl (lv_at hl 1 rfl) ?_
      refine lv_icmp_ge (tgt := 133) hx hb dX5_bring_105 (by decide) (fun c5 => ?_) (fun c5 => ?_)
      · skip
        have eS : I17 = (f_S_bring I x) := by rw [← hT]; simp only [f_S_bring_l1, if_pos c5]
        rw [eS] at hG
        exact W.widen (k := 4) (n := 700) (Nat.le_of_ble_eq_true rfl) (Nat.le_of_ble_eq_true rfl) (s_vret K hG kd4 hS hr hlocks dX5_bring_133)
      · exact absurd (nI_le (by omega) (by have := hb2; omega)) c5
    | succ n ih =>
      intro i I17 H locs ls hin hT hok hcL hrL hG hS hl
      unfold ok_f_S_bring_l1 at hok
      refine lv_iload hx hb dX5_bring_102 (lv_at hl 0 rfl) ?_
      refine lv_iload_n hx hb dX5_bring_104 rfl (lv_at hl 1 rfl) ?_
      refine lv_icmp_ge (tgt := 133) hx hb dX5_bring_105 (by decide) (fun c6 => ?_) (fun c6 => ?_)
      · exact absurd c6 (nI_ge (by omega) (by have := hb2; omega))
      · skip
        refine lv_aload_n hx hb dX5_bring_108 rfl (lv_at hl 2 rfl) ?_
        refine lv_iload hx hb dX5_bring_109 (lv_at hl 0 rfl) ?_
        refine s_aald K hG (t := 2) (by decide) (vp_in_nI (cv hcL (show i < _ by omega)) (by have := hG.b.cl 2; omega)) dX5_bring_111 ?_
        rw [nI_clamp (by have := hG.b.cl 2; have := hcL 2; omega)]
        refine lv_astore (lv' := [(5, .ref (D4 2 i)), (4, .int (nI i)), (3, .int (nI (cnt (I16 5) 2))), (2, .ref (D4 1 2))]) hx hb dX5_bring_112 hl (by decide) rfl (fun ls hl => ?_)
        refine lv_aload hx hb dX5_bring_114 (lv_at hl 0 rfl) ?_
        refine lv_iconst (v := 2) hx hb dX5_bring_116 (by decide) ?_
        refine s_iald K hG (t := 2) (by decide) (cv hcL (show i < _ by omega)) (show vp_in (nI 2) 8 from vp_in_nI (by decide) (by decide)) dX5_bring_117 ?_
        rw [show ((2 : Int32)).toNatClampNeg = 2 from rfl]
        refine lv_iconst (v := 3) hx hb dX5_bring_118 (by decide) ?_
        refine lv_icmp_ne (tgt := 127) hx hb dX5_bring_119 (by decide) (fun c7 => ?_) (fun c7 => ?_)
        · have hok := hok.2 c7
          refine lv_iinc (v := (nI (i + 1))) (lv' := [(4, .int (nI (i + 1))), (5, .ref (D4 2 i)), (3, .int (nI (cnt (I16 5) 2))), (2, .ref (D4 1 2))]) hx hb dX5_bring_127 hl (k := 1) rfl (nI_add i 1) (by decide) rfl (fun ls hl => ?_)
          refine lv_goto (tgt := 102) hx hb dX5_bring_130 (by decide) ?_
          exact ih (i + 1) I17 _ _ _ (by omega) (by rw [← hT]; simp only [f_S_bring_l1, if_neg c6, if_neg c7]) hok hcL hrL hG hS (lv_sub hl [0, 2, 3] rfl)
        · have hok := hok.1 c7
          refine lv_aload hx hb dX5_bring_122 (lv_at hl 0 rfl) ?_
          refine lv_iconst (v := 2) hx hb dX5_bring_124 (by decide) ?_
          refine lv_iconst (v := 0) hx hb dX5_bring_125 (by decide) ?_
          refine s_iast K hG hS (t := 2) (by decide) (cv hcL (show i < _ by omega)) (show vp_in (nI 2) 8 from vp_in_nI (by decide) (by decide)) dX5_bring_126 (fun I18 hI18 H locs hG hS => ?_)
          rw [show ((2 : Int32)).toNatClampNeg = 2 from rfl] at hI18
          have hok := hok I18 hI18
          have hc18 : ∀ t, cnt (I18 5) t = cnt (I16 5) t := fun t => by rw [hI18, gU_at, cnt_u3 (by decide), hcL]
          have hr18 : ∀ t i, rln (I18 5) t i = rln (I16 5) t i := fun t i => by rw [hI18, gU_at, rln_u3 (by decide), hrL]
          refine lv_iinc (v := (nI (i + 1))) (lv' := [(4, .int (nI (i + 1))), (5, .ref (D4 2 i)), (3, .int (nI (cnt (I16 5) 2))), (2, .ref (D4 1 2))]) hx hb dX5_bring_127 hl (k := 1) rfl (nI_add i 1) (by decide) rfl (fun ls hl => ?_)
          refine lv_goto (tgt := 102) hx hb dX5_bring_130 (by decide) ?_
          exact ih (i + 1) I18 _ _ _ (by omega) (by rw [← hT]; simp only [f_S_bring_l1, ← hI18, if_neg c6, if_pos c7]) hok hc18 hr18 hG hS (lv_sub hl [0, 2, 3] rfl)
  exact hL (cnt (I16 5) 2) 0 I16 _ _ _ (Nat.zero_add _) (by simp only [f_S_bring, ← hq1, ← hI1, ← hI2, ← hI3, ← hI4, ← hI5, ← hI6, ← hI7, ← hI8, ← hq3, ← hI9, ← hI10, ← hI11, ← hI12, ← hI13, ← hI14, ← hI15, ← hI16]) hok (show ∀ t, cnt (I16 5) t = cnt (I16 5) t from fun _ => rfl) (show ∀ t i, rln (I16 5) t i = rln (I16 5) t i from fun _ _ => rfl) hG hS (lv_sub hl [0, 1, 2] rfl)
