/-! PRINTED by wip/gen21/sim.py: 72.simcounts -/
def f_S_counts_l1  (q1 : Nat) : Nat → Nat → gI → gI
  | 0, i, I15 =>
    I15
  | n + 1, i, I15 =>
    if (I15 5 4 i 3) < 0 then
      let I17 := gU I15 5 9 q1 3 ((I15 5 9 q1 3) + 0)
      if (I17 5 4 i 5) = 0 then
        let I19 := gU I17 5 9 q1 4 ((I17 5 9 q1 4) + 1)
        f_S_counts_l1 q1 n (i + 1) I19
      else
        let I18 := gU I17 5 9 q1 4 ((I17 5 9 q1 4) + 0)
        f_S_counts_l1 q1 n (i + 1) I18
    else
      let I20 := gU I15 5 9 q1 3 ((I15 5 9 q1 3) + 1)
      if (I20 5 4 i 5) = 0 then
        let I22 := gU I20 5 9 q1 4 ((I20 5 9 q1 4) + 1)
        f_S_counts_l1 q1 n (i + 1) I22
      else
        let I21 := gU I20 5 9 q1 4 ((I20 5 9 q1 4) + 0)
        f_S_counts_l1 q1 n (i + 1) I21
def ok_f_S_counts_l1  (q1 : Nat) : Nat → Nat → gI → Prop
  | 0, i, I15 =>
    True
  | n + 1, i, I15 =>
    (((I15 5 4 i 3) < 0) →
      ∀ I17, I17 = gU I15 5 9 q1 3 ((I15 5 9 q1 3) + 0) →
      (((I17 5 4 i 5) = 0) →
        ∀ I19, I19 = gU I17 5 9 q1 4 ((I17 5 9 q1 4) + 1) →
        ok_f_S_counts_l1 q1 n (i + 1) I19) ∧
      (¬ ((I17 5 4 i 5) = 0) →
        ∀ I18, I18 = gU I17 5 9 q1 4 ((I17 5 9 q1 4) + 0) →
        ok_f_S_counts_l1 q1 n (i + 1) I18)) ∧
    (¬ ((I15 5 4 i 3) < 0) →
      ∀ I20, I20 = gU I15 5 9 q1 3 ((I15 5 9 q1 3) + 1) →
      (((I20 5 4 i 5) = 0) →
        ∀ I22, I22 = gU I20 5 9 q1 4 ((I20 5 9 q1 4) + 1) →
        ok_f_S_counts_l1 q1 n (i + 1) I22) ∧
      (¬ ((I20 5 4 i 5) = 0) →
        ∀ I21, I21 = gU I20 5 9 q1 4 ((I20 5 9 q1 4) + 0) →
        ok_f_S_counts_l1 q1 n (i + 1) I21))
def f_S_counts_l2  (q1 : Nat) (I1 : gI) : Nat → Nat → gI → gI
  | 0, i, I23 =>
    I23
  | n + 1, i, I23 =>
    let I25 := gU I23 5 9 q1 5 ((I23 5 9 q1 5) + (nI (rln (I1 5) 3 i)))
    f_S_counts_l2 q1 I1 n (i + 1) I25
def ok_f_S_counts_l2  (q1 : Nat) (I1 : gI) : Nat → Nat → gI → Prop
  | 0, i, I23 =>
    True
  | n + 1, i, I23 =>
    ∀ I25, I25 = gU I23 5 9 q1 5 ((I23 5 9 q1 5) + (nI (rln (I1 5) 3 i))) →
    ok_f_S_counts_l2 q1 I1 n (i + 1) I25
def f_S_counts_l3  (q1 : Nat) : Nat → Nat → gI → gI
  | 0, i, I26 =>
    I26
  | n + 1, i, I26 =>
    if (I26 5 2 i 2) = 3 then
      let I30 := gU I26 5 9 q1 6 ((I26 5 9 q1 6) + 1)
      let I31 := gU I30 5 9 q1 10 ((I30 5 9 q1 10) + (I30 5 2 i 7))
      f_S_counts_l3 q1 n (i + 1) I31
    else
      let I28 := gU I26 5 9 q1 6 ((I26 5 9 q1 6) + 0)
      let I29 := gU I28 5 9 q1 10 ((I28 5 9 q1 10) + (I28 5 2 i 7))
      f_S_counts_l3 q1 n (i + 1) I29
def ok_f_S_counts_l3  (q1 : Nat) : Nat → Nat → gI → Prop
  | 0, i, I26 =>
    True
  | n + 1, i, I26 =>
    (((I26 5 2 i 2) = 3) →
      ∀ I30, I30 = gU I26 5 9 q1 6 ((I26 5 9 q1 6) + 1) →
      ∀ I31, I31 = gU I30 5 9 q1 10 ((I30 5 9 q1 10) + (I30 5 2 i 7)) →
      ok_f_S_counts_l3 q1 n (i + 1) I31) ∧
    (¬ ((I26 5 2 i 2) = 3) →
      ∀ I28, I28 = gU I26 5 9 q1 6 ((I26 5 9 q1 6) + 0) →
      ∀ I29, I29 = gU I28 5 9 q1 10 ((I28 5 9 q1 10) + (I28 5 2 i 7)) →
      ok_f_S_counts_l3 q1 n (i + 1) I29)
def f_S_counts (I : gI)  : gI :=
  let q1 := cnt (I 5) 9
  let I1 := gset I 5 (pLoose (I 5) 13 (fun _ => 0))
  let I2 := gU I1 5 9 q1 0 (I1 5 0 0 0)
  let I3 := gU I2 5 9 q1 1 (nI (cnt (I1 5) 2))
  let I4 := gU I3 5 9 q1 2 (nI (cnt (I1 5) 4))
  let I5 := gU I4 5 9 q1 3 0
  let I6 := gU I5 5 9 q1 4 0
  let I7 := gU I6 5 9 q1 5 0
  let I8 := gU I7 5 9 q1 6 0
  let I9 := gU I8 5 9 q1 7 (I8 5 0 0 6)
  let I10 := gU I9 5 9 q1 8 (I9 5 0 0 7)
  let I11 := gU I10 5 9 q1 9 (I10 5 0 0 8)
  let I12 := gU I11 5 9 q1 10 0
  let I13 := gU I12 5 9 q1 11 (f_S_pitched I12 (-1))
  let I14 := gU I13 5 9 q1 12 (I13 5 0 0 1)
  let I16 := (f_S_counts_l1 q1 (cnt (I1 5) 4) 0 I14)
  let I24 := (f_S_counts_l2 q1 I1 (cnt (I1 5) 3) 0 I16)
  let I27 := (f_S_counts_l3 q1 (cnt (I1 5) 2) 0 I24)
  I27
def ok_S_counts (I : gI)  : Prop :=
  cnt (I 5) 9 < 329 ∧
  ∀ q1, q1 = cnt (I 5) 9 →
  ∀ I1, I1 = gset I 5 (pLoose (I 5) 13 (fun _ => 0)) →
  ∀ I2, I2 = gU I1 5 9 q1 0 (I1 5 0 0 0) →
  ∀ I3, I3 = gU I2 5 9 q1 1 (nI (cnt (I1 5) 2)) →
  ∀ I4, I4 = gU I3 5 9 q1 2 (nI (cnt (I1 5) 4)) →
  ∀ I5, I5 = gU I4 5 9 q1 3 0 →
  ∀ I6, I6 = gU I5 5 9 q1 4 0 →
  ∀ I7, I7 = gU I6 5 9 q1 5 0 →
  ∀ I8, I8 = gU I7 5 9 q1 6 0 →
  ∀ I9, I9 = gU I8 5 9 q1 7 (I8 5 0 0 6) →
  ∀ I10, I10 = gU I9 5 9 q1 8 (I9 5 0 0 7) →
  ∀ I11, I11 = gU I10 5 9 q1 9 (I10 5 0 0 8) →
  ∀ I12, I12 = gU I11 5 9 q1 10 0 →
  ok_S_pitched I12 (-1) ∧
  ∀ I13, I13 = gU I12 5 9 q1 11 (f_S_pitched I12 (-1)) →
  ∀ I14, I14 = gU I13 5 9 q1 12 (I13 5 0 0 1) →
  ok_f_S_counts_l1 q1 (cnt (I1 5) 4) 0 I14 ∧
  ∀ I16, I16 = (f_S_counts_l1 q1 (cnt (I1 5) 4) 0 I14) →
  ok_f_S_counts_l2 q1 I1 (cnt (I1 5) 3) 0 I16 ∧
  ∀ I24, I24 = (f_S_counts_l2 q1 I1 (cnt (I1 5) 3) 0 I16) →
  ok_f_S_counts_l3 q1 (cnt (I1 5) 2) 0 I24 ∧
  ∀ I27, I27 = (f_S_counts_l3 q1 (cnt (I1 5) 2) 0 I24) →
  True
set_option maxHeartbeats 4000000 in
set_option maxRecDepth 100000 in
theorem m_S_counts (l : Launch) (E : gE) (F : Nat → Prop) (J : Int64) (D : sD) (I : gI)  (hA : ∀ q, F q → gN E ≤ q)  (hok : ok_S_counts I) : sM l E yX5_counts cX5_counts 6 (some (.array .int)) 1 1 13 26 [.ref (D 0 0)] (fun H => LW E F J D I H) (sQr E F J D I (f_S_counts I)) F := by
  refine s_entry (lv := [(0, .ref (D 0 0))]) (by decide) (Nat.le_of_ble_eq_true rfl) rfl ?_
  intro p e s m below meth c0 ls K hAO hG hS hml hr hlocks hl
  have hG : LW E F J D I s.heap := hG
  have K : kx E p m c0 cX5_counts "HayThievesLaw$Sim" _ s := K
  have hx := K.1
  have hb := K.2.1
  have hts := K.2.2.1
  have hown := K.2.2.2.1
  have hSt := K.2.2.2.2
  unfold ok_S_counts at hok
  refine lv_bipush (v := 13) hx hb dX5_counts_0 (by decide) ?_
  obtain ⟨ho1, hok⟩ := hok
  have h9I1 : cnt (I 5) 9 < 329 := by rw [(show ∀ t, cnt (I 5) t = cnt (I 5) t from fun _ => rfl)]; exact ho1
  obtain ⟨q1, hq1⟩ : ∃ z, z = cnt (I 5) 9 := ⟨_, rfl⟩
  have hok := hok q1 hq1
  refine s_newi (N := 13) K hG hS rfl (by decide) (by omega) (Nat.le_of_ble_eq_true rfl) (Nat.le_of_ble_eq_true rfl) dX5_counts_2 (fun a1 D1 hD1 I1 hI1 H hG hS => ?_)
  rw [← hq1]
  have eI1 : I1 5 = pLoose (I 5) 13 (fun _ => 0) := by rw [hI1, gset_at]
  have hok := hok I1 hI1
  have n9I1 : cnt (I1 5) 9 = cnt (I 5) 9 + 1 := by have h9 := (show cnt (I 5) 9 = cnt (I 5) 9 + 0 from rfl); have h8 := (show ∀ t, cnt (I 5) t = cnt (I 5) t from fun _ => rfl) 9; rw [eI1, cnt_loose9 (by omega)] <;> omega
  have kd1 : sKD D D1 (cnt (I 5) 9) := ⟨(show D1 0 0 = D 0 0 by rw [hD1]; rfl).trans (sKD.refl D (cnt (I 5) 9)).1, fun i hi => by rw [hD1, u2_eq, if_neg (by have := n9I1; omega)] <;> exact (sKD.refl D (cnt (I 5) 9)).2 i hi⟩
  rw [← show D1 0 0 = D 0 0 from (by rw [hD1]; rfl)] at hl
  refine lv_dup hx hb dX5_counts_4 rfl ?_
  refine lv_iconst (v := 0) hx hb dX5_counts_5 (by decide) ?_
  refine lv_aload_n hx hb dX5_counts_6 rfl (lv_at hl 0 rfl) ?_
  refine sg_X5_33 K hG dX5_counts_7 ?_
  refine s_iast K hG hS (t := 9) (by decide) (cv (show ∀ t, cnt (I1 5) t = cnt (I1 5) t from fun _ => rfl) (show q1 < cnt (I1 5) 9 by rw [hq1, eI1, cnt_loose9 (by omega)]; omega)) (by rw [(show ∀ t i, rln (I1 5) t i = rln (I1 5) t i from fun _ _ => rfl), (show rln (I1 5) 9 q1 = 13 by rw [hq1, eI1, rln_loose9 (by omega)])]; exact (show vp_in (nI 0) 13 from vp_in_nI (by decide) (by decide))) dX5_counts_10 (fun I2 hI2 H locs hG hS => ?_)
  rw [show ((0 : Int32)).toNatClampNeg = 0 from rfl] at hI2
  have hok := hok I2 hI2
  have hc2 : ∀ t, cnt (I2 5) t = cnt (I1 5) t := fun t => by rw [hI2, gU_at, cnt_u3 (by decide), (show ∀ t, cnt (I1 5) t = cnt (I1 5) t from fun _ => rfl)]
  have hr2 : ∀ t i, rln (I2 5) t i = rln (I1 5) t i := fun t i => by rw [hI2, gU_at, rln_u3 (by decide), (show ∀ t i, rln (I1 5) t i = rln (I1 5) t i from fun _ _ => rfl)]
  refine lv_dup hx hb dX5_counts_11 rfl ?_
  refine lv_iconst (v := 1) hx hb dX5_counts_12 (by decide) ?_
  refine lv_aload_n hx hb dX5_counts_13 rfl (lv_at hl 0 rfl) ?_
  refine sg_X5_15 K hG dX5_counts_14 ?_
  refine s_alen1 K hG (t := 2) (by decide) dX5_counts_17 ?_
  rw [hG.b.c 2, hc2]
  refine s_iast K hG hS (t := 9) (by decide) (cv hc2 (show q1 < cnt (I1 5) 9 by rw [hq1, eI1, cnt_loose9 (by omega)]; omega)) (by rw [hr2, (show rln (I1 5) 9 q1 = 13 by rw [hq1, eI1, rln_loose9 (by omega)])]; exact (show vp_in (nI 1) 13 from vp_in_nI (by decide) (by decide))) dX5_counts_18 (fun I3 hI3 H locs hG hS => ?_)
  rw [show ((1 : Int32)).toNatClampNeg = 1 from rfl] at hI3
  have hok := hok I3 hI3
  have hc3 : ∀ t, cnt (I3 5) t = cnt (I1 5) t := fun t => by rw [hI3, gU_at, cnt_u3 (by decide), hc2]
  have hr3 : ∀ t i, rln (I3 5) t i = rln (I1 5) t i := fun t i => by rw [hI3, gU_at, rln_u3 (by decide), hr2]
  refine lv_dup hx hb dX5_counts_19 rfl ?_
  refine lv_iconst (v := 2) hx hb dX5_counts_20 (by decide) ?_
  refine lv_aload_n hx hb dX5_counts_21 rfl (lv_at hl 0 rfl) ?_
  refine sg_X5_22 K hG dX5_counts_22 ?_
  refine s_alen1 K hG (t := 4) (by decide) dX5_counts_25 ?_
  rw [hG.b.c 4, hc3]
  refine s_iast K hG hS (t := 9) (by decide) (cv hc3 (show q1 < cnt (I1 5) 9 by rw [hq1, eI1, cnt_loose9 (by omega)]; omega)) (by rw [hr3, (show rln (I1 5) 9 q1 = 13 by rw [hq1, eI1, rln_loose9 (by omega)])]; exact (show vp_in (nI 2) 13 from vp_in_nI (by decide) (by decide))) dX5_counts_26 (fun I4 hI4 H locs hG hS => ?_)
  rw [show ((2 : Int32)).toNatClampNeg = 2 from rfl] at hI4
  have hok := hok I4 hI4
  have hc4 : ∀ t, cnt (I4 5) t = cnt (I1 5) t := fun t => by rw [hI4, gU_at, cnt_u3 (by decide), hc3]
  have hr4 : ∀ t i, rln (I4 5) t i = rln (I1 5) t i := fun t i => by rw [hI4, gU_at, rln_u3 (by decide), hr3]
  refine lv_dup hx hb dX5_counts_27 rfl ?_
  refine lv_iconst (v := 3) hx hb dX5_counts_28 (by decide) ?_
  refine lv_iconst (v := 0) hx hb dX5_counts_29 (by decide) ?_
  refine s_iast K hG hS (t := 9) (by decide) (cv hc4 (show q1 < cnt (I1 5) 9 by rw [hq1, eI1, cnt_loose9 (by omega)]; omega)) (by rw [hr4, (show rln (I1 5) 9 q1 = 13 by rw [hq1, eI1, rln_loose9 (by omega)])]; exact (show vp_in (nI 3) 13 from vp_in_nI (by decide) (by decide))) dX5_counts_30 (fun I5 hI5 H locs hG hS => ?_)
  rw [show ((3 : Int32)).toNatClampNeg = 3 from rfl] at hI5
  have hok := hok I5 hI5
  have hc5 : ∀ t, cnt (I5 5) t = cnt (I1 5) t := fun t => by rw [hI5, gU_at, cnt_u3 (by decide), hc4]
  have hr5 : ∀ t i, rln (I5 5) t i = rln (I1 5) t i := fun t i => by rw [hI5, gU_at, rln_u3 (by decide), hr4]
  refine lv_dup hx hb dX5_counts_31 rfl ?_
  refine lv_iconst (v := 4) hx hb dX5_counts_32 (by decide) ?_
  refine lv_iconst (v := 0) hx hb dX5_counts_33 (by decide) ?_
  refine s_iast K hG hS (t := 9) (by decide) (cv hc5 (show q1 < cnt (I1 5) 9 by rw [hq1, eI1, cnt_loose9 (by omega)]; omega)) (by rw [hr5, (show rln (I1 5) 9 q1 = 13 by rw [hq1, eI1, rln_loose9 (by omega)])]; exact (show vp_in (nI 4) 13 from vp_in_nI (by decide) (by decide))) dX5_counts_34 (fun I6 hI6 H locs hG hS => ?_)
  rw [show ((4 : Int32)).toNatClampNeg = 4 from rfl] at hI6
  have hok := hok I6 hI6
  have hc6 : ∀ t, cnt (I6 5) t = cnt (I1 5) t := fun t => by rw [hI6, gU_at, cnt_u3 (by decide), hc5]
  have hr6 : ∀ t i, rln (I6 5) t i = rln (I1 5) t i := fun t i => by rw [hI6, gU_at, rln_u3 (by decide), hr5]
  refine lv_dup hx hb dX5_counts_35 rfl ?_
  refine lv_iconst (v := 5) hx hb dX5_counts_36 (by decide) ?_
  refine lv_iconst (v := 0) hx hb dX5_counts_37 (by decide) ?_
  refine s_iast K hG hS (t := 9) (by decide) (cv hc6 (show q1 < cnt (I1 5) 9 by rw [hq1, eI1, cnt_loose9 (by omega)]; omega)) (by rw [hr6, (show rln (I1 5) 9 q1 = 13 by rw [hq1, eI1, rln_loose9 (by omega)])]; exact (show vp_in (nI 5) 13 from vp_in_nI (by decide) (by decide))) dX5_counts_38 (fun I7 hI7 H locs hG hS => ?_)
  rw [show ((5 : Int32)).toNatClampNeg = 5 from rfl] at hI7
  have hok := hok I7 hI7
  have hc7 : ∀ t, cnt (I7 5) t = cnt (I1 5) t := fun t => by rw [hI7, gU_at, cnt_u3 (by decide), hc6]
  have hr7 : ∀ t i, rln (I7 5) t i = rln (I1 5) t i := fun t i => by rw [hI7, gU_at, rln_u3 (by decide), hr6]
  refine lv_dup hx hb dX5_counts_39 rfl ?_
  refine lv_bipush (v := 6) hx hb dX5_counts_40 (by decide) ?_
  refine lv_iconst (v := 0) hx hb dX5_counts_42 (by decide) ?_
  refine s_iast K hG hS (t := 9) (by decide) (cv hc7 (show q1 < cnt (I1 5) 9 by rw [hq1, eI1, cnt_loose9 (by omega)]; omega)) (by rw [hr7, (show rln (I1 5) 9 q1 = 13 by rw [hq1, eI1, rln_loose9 (by omega)])]; exact (show vp_in (nI 6) 13 from vp_in_nI (by decide) (by decide))) dX5_counts_43 (fun I8 hI8 H locs hG hS => ?_)
  rw [show ((6 : Int32)).toNatClampNeg = 6 from rfl] at hI8
  have hok := hok I8 hI8
  have hc8 : ∀ t, cnt (I8 5) t = cnt (I1 5) t := fun t => by rw [hI8, gU_at, cnt_u3 (by decide), hc7]
  have hr8 : ∀ t i, rln (I8 5) t i = rln (I1 5) t i := fun t i => by rw [hI8, gU_at, rln_u3 (by decide), hr7]
  refine lv_dup hx hb dX5_counts_44 rfl ?_
  refine lv_bipush (v := 7) hx hb dX5_counts_45 (by decide) ?_
  refine lv_aload_n hx hb dX5_counts_47 rfl (lv_at hl 0 rfl) ?_
  refine sg_X5_40 K hG dX5_counts_48 ?_
  refine s_iast K hG hS (t := 9) (by decide) (cv hc8 (show q1 < cnt (I1 5) 9 by rw [hq1, eI1, cnt_loose9 (by omega)]; omega)) (by rw [hr8, (show rln (I1 5) 9 q1 = 13 by rw [hq1, eI1, rln_loose9 (by omega)])]; exact (show vp_in (nI 7) 13 from vp_in_nI (by decide) (by decide))) dX5_counts_51 (fun I9 hI9 H locs hG hS => ?_)
  rw [show ((7 : Int32)).toNatClampNeg = 7 from rfl] at hI9
  have hok := hok I9 hI9
  have hc9 : ∀ t, cnt (I9 5) t = cnt (I1 5) t := fun t => by rw [hI9, gU_at, cnt_u3 (by decide), hc8]
  have hr9 : ∀ t i, rln (I9 5) t i = rln (I1 5) t i := fun t i => by rw [hI9, gU_at, rln_u3 (by decide), hr8]
  refine lv_dup hx hb dX5_counts_52 rfl ?_
  refine lv_bipush (v := 8) hx hb dX5_counts_53 (by decide) ?_
  refine lv_aload_n hx hb dX5_counts_55 rfl (lv_at hl 0 rfl) ?_
  refine sg_X5_43 K hG dX5_counts_56 ?_
  refine s_iast K hG hS (t := 9) (by decide) (cv hc9 (show q1 < cnt (I1 5) 9 by rw [hq1, eI1, cnt_loose9 (by omega)]; omega)) (by rw [hr9, (show rln (I1 5) 9 q1 = 13 by rw [hq1, eI1, rln_loose9 (by omega)])]; exact (show vp_in (nI 8) 13 from vp_in_nI (by decide) (by decide))) dX5_counts_59 (fun I10 hI10 H locs hG hS => ?_)
  rw [show ((8 : Int32)).toNatClampNeg = 8 from rfl] at hI10
  have hok := hok I10 hI10
  have hc10 : ∀ t, cnt (I10 5) t = cnt (I1 5) t := fun t => by rw [hI10, gU_at, cnt_u3 (by decide), hc9]
  have hr10 : ∀ t i, rln (I10 5) t i = rln (I1 5) t i := fun t i => by rw [hI10, gU_at, rln_u3 (by decide), hr9]
  refine lv_dup hx hb dX5_counts_60 rfl ?_
  refine lv_bipush (v := 9) hx hb dX5_counts_61 (by decide) ?_
  refine lv_aload_n hx hb dX5_counts_63 rfl (lv_at hl 0 rfl) ?_
  refine sg_X5_46 K hG dX5_counts_64 ?_
  refine s_iast K hG hS (t := 9) (by decide) (cv hc10 (show q1 < cnt (I1 5) 9 by rw [hq1, eI1, cnt_loose9 (by omega)]; omega)) (by rw [hr10, (show rln (I1 5) 9 q1 = 13 by rw [hq1, eI1, rln_loose9 (by omega)])]; exact (show vp_in (nI 9) 13 from vp_in_nI (by decide) (by decide))) dX5_counts_67 (fun I11 hI11 H locs hG hS => ?_)
  rw [show ((9 : Int32)).toNatClampNeg = 9 from rfl] at hI11
  have hok := hok I11 hI11
  have hc11 : ∀ t, cnt (I11 5) t = cnt (I1 5) t := fun t => by rw [hI11, gU_at, cnt_u3 (by decide), hc10]
  have hr11 : ∀ t i, rln (I11 5) t i = rln (I1 5) t i := fun t i => by rw [hI11, gU_at, rln_u3 (by decide), hr10]
  refine lv_dup hx hb dX5_counts_68 rfl ?_
  refine lv_bipush (v := 10) hx hb dX5_counts_69 (by decide) ?_
  refine lv_iconst (v := 0) hx hb dX5_counts_71 (by decide) ?_
  refine s_iast K hG hS (t := 9) (by decide) (cv hc11 (show q1 < cnt (I1 5) 9 by rw [hq1, eI1, cnt_loose9 (by omega)]; omega)) (by rw [hr11, (show rln (I1 5) 9 q1 = 13 by rw [hq1, eI1, rln_loose9 (by omega)])]; exact (show vp_in (nI 10) 13 from vp_in_nI (by decide) (by decide))) dX5_counts_72 (fun I12 hI12 H locs hG hS => ?_)
  rw [show ((10 : Int32)).toNatClampNeg = 10 from rfl] at hI12
  have hok := hok I12 hI12
  have hc12 : ∀ t, cnt (I12 5) t = cnt (I1 5) t := fun t => by rw [hI12, gU_at, cnt_u3 (by decide), hc11]
  have hr12 : ∀ t i, rln (I12 5) t i = rln (I1 5) t i := fun t i => by rw [hI12, gU_at, rln_u3 (by decide), hr11]
  refine lv_dup hx hb dX5_counts_73 rfl ?_
  refine lv_bipush (v := 11) hx hb dX5_counts_74 (by decide) ?_
  refine lv_aload_n hx hb dX5_counts_76 rfl (lv_at hl 0 rfl) ?_
  refine lv_iconst (v := (-1)) hx hb dX5_counts_77 (by decide) ?_
  obtain ⟨ho2, hok⟩ := hok
  refine s_ki (s_runV (As := [.int (-1)]) (rest := [.int 11, .ref (D1 9 q1), .ref (D1 9 q1)]) K hAO hA hml ca_X5_pitched q520 (m_S_pitched l E F J D1 I12 (-1) hA ho2) hG hG hS rfl rfl hl.1 (Nat.le_of_ble_eq_true rfl) ⟨by decide, by decide⟩ dX5_counts_78 ⟨Nat.le_of_ble_eq_true rfl, Nat.le_of_ble_eq_true rfl⟩) hS (fun H locs hG hS => ?_)
  refine s_iast K hG hS (t := 9) (by decide) (cv hc12 (show q1 < cnt (I1 5) 9 by rw [hq1, eI1, cnt_loose9 (by omega)]; omega)) (by rw [hr12, (show rln (I1 5) 9 q1 = 13 by rw [hq1, eI1, rln_loose9 (by omega)])]; exact (show vp_in (nI 11) 13 from vp_in_nI (by decide) (by decide))) dX5_counts_81 (fun I13 hI13 H locs hG hS => ?_)
  rw [show ((11 : Int32)).toNatClampNeg = 11 from rfl] at hI13
  have hok := hok I13 hI13
  have hc13 : ∀ t, cnt (I13 5) t = cnt (I1 5) t := fun t => by rw [hI13, gU_at, cnt_u3 (by decide), hc12]
  have hr13 : ∀ t i, rln (I13 5) t i = rln (I1 5) t i := fun t i => by rw [hI13, gU_at, rln_u3 (by decide), hr12]
  refine lv_dup hx hb dX5_counts_82 rfl ?_
  refine lv_bipush (v := 12) hx hb dX5_counts_83 (by decide) ?_
  refine lv_aload_n hx hb dX5_counts_85 rfl (lv_at hl 0 rfl) ?_
  refine sg_X5_7 K hG dX5_counts_86 ?_
  refine s_iast K hG hS (t := 9) (by decide) (cv hc13 (show q1 < cnt (I1 5) 9 by rw [hq1, eI1, cnt_loose9 (by omega)]; omega)) (by rw [hr13, (show rln (I1 5) 9 q1 = 13 by rw [hq1, eI1, rln_loose9 (by omega)])]; exact (show vp_in (nI 12) 13 from vp_in_nI (by decide) (by decide))) dX5_counts_89 (fun I14 hI14 H locs hG hS => ?_)
  rw [show ((12 : Int32)).toNatClampNeg = 12 from rfl] at hI14
  have hok := hok I14 hI14
  have hc14 : ∀ t, cnt (I14 5) t = cnt (I1 5) t := fun t => by rw [hI14, gU_at, cnt_u3 (by decide), hc13]
  have hr14 : ∀ t i, rln (I14 5) t i = rln (I1 5) t i := fun t i => by rw [hI14, gU_at, rln_u3 (by decide), hr13]
  refine lv_astore_n (lv' := [(1, .ref (D1 9 q1)), (0, .ref (D1 0 0))]) hx hb dX5_counts_90 rfl hl (by decide) rfl (fun ls hl => ?_)
  refine lv_aload_n hx hb dX5_counts_91 rfl (lv_at hl 1 rfl) ?_
  refine sg_X5_22 K hG dX5_counts_92 ?_
  refine lv_astore_n (lv' := [(2, .ref (D1 1 4)), (1, .ref (D1 9 q1)), (0, .ref (D1 0 0))]) hx hb dX5_counts_95 rfl hl (by decide) rfl (fun ls hl => ?_)
  refine lv_aload_n hx hb dX5_counts_96 rfl (lv_at hl 0 rfl) ?_
  refine s_alen1 K hG (t := 4) (by decide) dX5_counts_97 ?_
  rw [hG.b.c 4, hc14]
  refine lv_istore_n (lv' := [(3, .int (nI (cnt (I1 5) 4))), (2, .ref (D1 1 4)), (1, .ref (D1 9 q1)), (0, .ref (D1 0 0))]) hx hb dX5_counts_98 rfl hl (by decide) rfl (fun ls hl => ?_)
  have hb4 := hG.b.cl 4
  rw [hc14] at hb4
  refine lv_iconst (v := 0) hx hb dX5_counts_99 (by decide) ?_
  refine lv_istore (lv' := [(4, .int 0), (3, .int (nI (cnt (I1 5) 4))), (2, .ref (D1 1 4)), (1, .ref (D1 9 q1)), (0, .ref (D1 0 0))]) hx hb dX5_counts_100 hl (by decide) rfl (fun ls hl => ?_)
  obtain ⟨ho3, hok⟩ := hok
  obtain ⟨I16, hI16⟩ : ∃ z, z = (f_S_counts_l1 q1 (cnt (I1 5) 4) 0 I14) := ⟨_, rfl⟩
  have hL_l1 : (∀ (H : Heap) (locs : List Loc) (ls : Array Slot), LW E F J D1 I16 H → (∀ t, cnt (I16 5) t = cnt (I1 5) t) → (∀ t i, rln (I16 5) t i = rln (I1 5) t i) → va_S F s.heap H locs → lv_has ls 6 [(3, .int (nI (cnt (I1 5) 4))), (2, .ref (D1 1 4)), (1, .ref (D1 9 q1)), (0, .ref (D1 0 0))] → W p l e (rmc 1 1 13 26) s m ([.ref (D 0 0)] : List Value).toArray below meth c0 H locs 1 13 (MQ below (sQr E F J D I (f_S_counts I)) ([.ref (D 0 0)] : List Value).toArray s 1 13 F) (F0 m 156 ls [])) → ∀ (n i : Nat)  (I15 : gI) (H : Heap) (locs : List Loc) (ls : Array Slot), i + n = cnt (I1 5) 4 → f_S_counts_l1 q1 n i I15 = I16 → ok_f_S_counts_l1 q1 n i I15 → (∀ t, cnt (I15 5) t = cnt (I1 5) t) → (∀ t i, rln (I15 5) t i = rln (I1 5) t i) → LW E F J D1 I15 H → va_S F s.heap H locs → lv_has ls 6 [(4, .int (nI i)), (3, .int (nI (cnt (I1 5) 4))), (2, .ref (D1 1 4)), (1, .ref (D1 9 q1)), (0, .ref (D1 0 0))] → W p l e (rmc 1 1 13 26) s m ([.ref (D 0 0)] : List Value).toArray below meth c0 H locs 1 13 (MQ below (sQr E F J D I (f_S_counts I)) ([.ref (D 0 0)] : List Value).toArray s 1 13 F) (F0 m 102 ls []) := by
    intro hkont n
    induction n with
    | zero =>
      intro i I15 H locs ls hin hT hok hcL hrL hG hS hl
      unfold ok_f_S_counts_l1 at hok
      refine lv_iload hx hb dX5_counts_102 (lv_at hl 0 rfl) ?_
      refine lv_iload_n hx hb dX5_counts_104 rfl (lv_at hl 1 rfl) ?_
      refine lv_icmp_ge (tgt := 156) hx hb dX5_counts_105 (by decide) (fun c4 => ?_) (fun c4 => ?_)
      · skip
        have eS : I15 = I16 := by rw [← hT]; simp only [f_S_counts_l1, if_pos c4]
        rw [eS] at hG
        exact hkont _ _ _ hG (by rw [← eS]; exact hcL) (by rw [← eS]; exact hrL) hS (lv_sub hl [1, 2, 3, 4] rfl)
      · exact absurd (nI_le (by omega) (by have := hb4; omega)) c4
    | succ n ih =>
      intro i I15 H locs ls hin hT hok hcL hrL hG hS hl
      unfold ok_f_S_counts_l1 at hok
      refine lv_iload hx hb dX5_counts_102 (lv_at hl 0 rfl) ?_
      refine lv_iload_n hx hb dX5_counts_104 rfl (lv_at hl 1 rfl) ?_
      refine lv_icmp_ge (tgt := 156) hx hb dX5_counts_105 (by decide) (fun c5 => ?_) (fun c5 => ?_)
      · exact absurd c5 (nI_ge (by omega) (by have := hb4; omega))
      · skip
        refine lv_aload_n hx hb dX5_counts_108 rfl (lv_at hl 2 rfl) ?_
        refine lv_iload hx hb dX5_counts_109 (lv_at hl 0 rfl) ?_
        refine s_aald K hG (t := 4) (by decide) (vp_in_nI (cv hcL (show i < _ by omega)) (by have := hG.b.cl 4; omega)) dX5_counts_111 ?_
        rw [nI_clamp (by have := hG.b.cl 4; have := hcL 4; omega)]
        refine lv_astore (lv' := [(5, .ref (D1 4 i)), (4, .int (nI i)), (3, .int (nI (cnt (I1 5) 4))), (2, .ref (D1 1 4)), (1, .ref (D1 9 q1)), (0, .ref (D1 0 0))]) hx hb dX5_counts_112 hl (by decide) rfl (fun ls hl => ?_)
        refine lv_aload_n hx hb dX5_counts_114 rfl (lv_at hl 4 rfl) ?_
        refine lv_iconst (v := 3) hx hb dX5_counts_115 (by decide) ?_
        refine lv_dup2_11 hx hb dX5_counts_116 rfl rfl ?_
        refine s_iald K hG (t := 9) (by decide) (cv hcL (show q1 < cnt (I1 5) 9 by rw [hq1, eI1, cnt_loose9 (by omega)]; omega)) (by rw [hrL, (show rln (I1 5) 9 q1 = 13 by rw [hq1, eI1, rln_loose9 (by omega)])]; exact (show vp_in (nI 3) 13 from vp_in_nI (by decide) (by decide))) dX5_counts_117 ?_
        rw [show ((3 : Int32)).toNatClampNeg = 3 from rfl]
        refine lv_aload hx hb dX5_counts_118 (lv_at hl 0 rfl) ?_
        refine lv_iconst (v := 3) hx hb dX5_counts_120 (by decide) ?_
        refine s_iald K hG (t := 4) (by decide) (cv hcL (show i < _ by omega)) (show vp_in (nI 3) 6 from vp_in_nI (by decide) (by decide)) dX5_counts_121 ?_
        rw [show ((3 : Int32)).toNatClampNeg = 3 from rfl]
        refine lv_if_lt (tgt := 129) hx hb dX5_counts_122 (by decide) (fun c6 => ?_) (fun c6 => ?_)
        · have hok := hok.1 c6
          refine lv_iconst (v := 0) hx hb dX5_counts_129 (by decide) ?_
          refine lv_iadd hx hb dX5_counts_130 ?_
          refine s_iast K hG hS (t := 9) (by decide) (cv hcL (show q1 < cnt (I1 5) 9 by rw [hq1, eI1, cnt_loose9 (by omega)]; omega)) (by rw [hrL, (show rln (I1 5) 9 q1 = 13 by rw [hq1, eI1, rln_loose9 (by omega)])]; exact (show vp_in (nI 3) 13 from vp_in_nI (by decide) (by decide))) dX5_counts_131 (fun I17 hI17 H locs hG hS => ?_)
          rw [show ((3 : Int32)).toNatClampNeg = 3 from rfl] at hI17
          have hok := hok I17 hI17
          have hc17 : ∀ t, cnt (I17 5) t = cnt (I1 5) t := fun t => by rw [hI17, gU_at, cnt_u3 (by decide), hcL]
          have hr17 : ∀ t i, rln (I17 5) t i = rln (I1 5) t i := fun t i => by rw [hI17, gU_at, rln_u3 (by decide), hrL]
          refine lv_aload_n hx hb dX5_counts_132 rfl (lv_at hl 4 rfl) ?_
          refine lv_iconst (v := 4) hx hb dX5_counts_133 (by decide) ?_
          refine lv_dup2_11 hx hb dX5_counts_134 rfl rfl ?_
          refine s_iald K hG (t := 9) (by decide) (cv hc17 (show q1 < cnt (I1 5) 9 by rw [hq1, eI1, cnt_loose9 (by omega)]; omega)) (by rw [hr17, (show rln (I1 5) 9 q1 = 13 by rw [hq1, eI1, rln_loose9 (by omega)])]; exact (show vp_in (nI 4) 13 from vp_in_nI (by decide) (by decide))) dX5_counts_135 ?_
          rw [show ((4 : Int32)).toNatClampNeg = 4 from rfl]
          refine lv_aload hx hb dX5_counts_136 (lv_at hl 0 rfl) ?_
          refine lv_iconst (v := 5) hx hb dX5_counts_138 (by decide) ?_
          refine s_iald K hG (t := 4) (by decide) (cv hc17 (show i < _ by omega)) (show vp_in (nI 5) 6 from vp_in_nI (by decide) (by decide)) dX5_counts_139 ?_
          rw [show ((5 : Int32)).toNatClampNeg = 5 from rfl]
          refine lv_if_ne (tgt := 147) hx hb dX5_counts_140 (by decide) (fun c7 => ?_) (fun c7 => ?_)
          · have hok := hok.2 c7
            refine lv_iconst (v := 0) hx hb dX5_counts_147 (by decide) ?_
            refine lv_iadd hx hb dX5_counts_148 ?_
            refine s_iast K hG hS (t := 9) (by decide) (cv hc17 (show q1 < cnt (I1 5) 9 by rw [hq1, eI1, cnt_loose9 (by omega)]; omega)) (by rw [hr17, (show rln (I1 5) 9 q1 = 13 by rw [hq1, eI1, rln_loose9 (by omega)])]; exact (show vp_in (nI 4) 13 from vp_in_nI (by decide) (by decide))) dX5_counts_149 (fun I18 hI18 H locs hG hS => ?_)
            rw [show ((4 : Int32)).toNatClampNeg = 4 from rfl] at hI18
            have hok := hok I18 hI18
            have hc18 : ∀ t, cnt (I18 5) t = cnt (I1 5) t := fun t => by rw [hI18, gU_at, cnt_u3 (by decide), hc17]
            have hr18 : ∀ t i, rln (I18 5) t i = rln (I1 5) t i := fun t i => by rw [hI18, gU_at, rln_u3 (by decide), hr17]
            refine lv_iinc (v := (nI (i + 1))) (lv' := [(4, .int (nI (i + 1))), (5, .ref (D1 4 i)), (3, .int (nI (cnt (I1 5) 4))), (2, .ref (D1 1 4)), (1, .ref (D1 9 q1)), (0, .ref (D1 0 0))]) hx hb dX5_counts_150 hl (k := 1) rfl (nI_add i 1) (by decide) rfl (fun ls hl => ?_)
            refine lv_goto (tgt := 102) hx hb dX5_counts_153 (by decide) ?_
            exact ih (i + 1) I18 _ _ _ (by omega) (by rw [← hT]; simp only [f_S_counts_l1, ← hI17, ← hI18, if_neg c5, if_pos c6, if_neg c7]) hok hc18 hr18 hG hS (lv_sub hl [0, 2, 3, 4, 5] rfl)
          · have hok := hok.1 c7
            refine lv_iconst (v := 1) hx hb dX5_counts_143 (by decide) ?_
            refine lv_goto (tgt := 148) hx hb dX5_counts_144 (by decide) ?_
            refine lv_iadd hx hb dX5_counts_148 ?_
            refine s_iast K hG hS (t := 9) (by decide) (cv hc17 (show q1 < cnt (I1 5) 9 by rw [hq1, eI1, cnt_loose9 (by omega)]; omega)) (by rw [hr17, (show rln (I1 5) 9 q1 = 13 by rw [hq1, eI1, rln_loose9 (by omega)])]; exact (show vp_in (nI 4) 13 from vp_in_nI (by decide) (by decide))) dX5_counts_149 (fun I19 hI19 H locs hG hS => ?_)
            rw [show ((4 : Int32)).toNatClampNeg = 4 from rfl] at hI19
            have hok := hok I19 hI19
            have hc19 : ∀ t, cnt (I19 5) t = cnt (I1 5) t := fun t => by rw [hI19, gU_at, cnt_u3 (by decide), hc17]
            have hr19 : ∀ t i, rln (I19 5) t i = rln (I1 5) t i := fun t i => by rw [hI19, gU_at, rln_u3 (by decide), hr17]
            refine lv_iinc (v := (nI (i + 1))) (lv' := [(4, .int (nI (i + 1))), (5, .ref (D1 4 i)), (3, .int (nI (cnt (I1 5) 4))), (2, .ref (D1 1 4)), (1, .ref (D1 9 q1)), (0, .ref (D1 0 0))]) hx hb dX5_counts_150 hl (k := 1) rfl (nI_add i 1) (by decide) rfl (fun ls hl => ?_)
            refine lv_goto (tgt := 102) hx hb dX5_counts_153 (by decide) ?_
            exact ih (i + 1) I19 _ _ _ (by omega) (by rw [← hT]; simp only [f_S_counts_l1, ← hI17, ← hI19, if_neg c5, if_pos c6, if_pos c7]) hok hc19 hr19 hG hS (lv_sub hl [0, 2, 3, 4, 5] rfl)
        · have hok := hok.2 c6
          refine lv_iconst (v := 1) hx hb dX5_counts_125 (by decide) ?_
          refine lv_goto (tgt := 130) hx hb dX5_counts_126 (by decide) ?_
          refine lv_iadd hx hb dX5_counts_130 ?_
          refine s_iast K hG hS (t := 9) (by decide) (cv hcL (show q1 < cnt (I1 5) 9 by rw [hq1, eI1, cnt_loose9 (by omega)]; omega)) (by rw [hrL, (show rln (I1 5) 9 q1 = 13 by rw [hq1, eI1, rln_loose9 (by omega)])]; exact (show vp_in (nI 3) 13 from vp_in_nI (by decide) (by decide))) dX5_counts_131 (fun I20 hI20 H locs hG hS => ?_)
          rw [show ((3 : Int32)).toNatClampNeg = 3 from rfl] at hI20
          have hok := hok I20 hI20
          have hc20 : ∀ t, cnt (I20 5) t = cnt (I1 5) t := fun t => by rw [hI20, gU_at, cnt_u3 (by decide), hcL]
          have hr20 : ∀ t i, rln (I20 5) t i = rln (I1 5) t i := fun t i => by rw [hI20, gU_at, rln_u3 (by decide), hrL]
          refine lv_aload_n hx hb dX5_counts_132 rfl (lv_at hl 4 rfl) ?_
          refine lv_iconst (v := 4) hx hb dX5_counts_133 (by decide) ?_
          refine lv_dup2_11 hx hb dX5_counts_134 rfl rfl ?_
          refine s_iald K hG (t := 9) (by decide) (cv hc20 (show q1 < cnt (I1 5) 9 by rw [hq1, eI1, cnt_loose9 (by omega)]; omega)) (by rw [hr20, (show rln (I1 5) 9 q1 = 13 by rw [hq1, eI1, rln_loose9 (by omega)])]; exact (show vp_in (nI 4) 13 from vp_in_nI (by decide) (by decide))) dX5_counts_135 ?_
          rw [show ((4 : Int32)).toNatClampNeg = 4 from rfl]
          refine lv_aload hx hb dX5_counts_136 (lv_at hl 0 rfl) ?_
          refine lv_iconst (v := 5) hx hb dX5_counts_138 (by decide) ?_
          refine s_iald K hG (t := 4) (by decide) (cv hc20 (show i < _ by omega)) (show vp_in (nI 5) 6 from vp_in_nI (by decide) (by decide)) dX5_counts_139 ?_
          rw [show ((5 : Int32)).toNatClampNeg = 5 from rfl]
          refine lv_if_ne (tgt := 147) hx hb dX5_counts_140 (by decide) (fun c8 => ?_) (fun c8 => ?_)
          · have hok := hok.2 c8
            refine lv_iconst (v := 0) hx hb dX5_counts_147 (by decide) ?_
            refine lv_iadd hx hb dX5_counts_148 ?_
            refine s_iast K hG hS (t := 9) (by decide) (cv hc20 (show q1 < cnt (I1 5) 9 by rw [hq1, eI1, cnt_loose9 (by omega)]; omega)) (by rw [hr20, (show rln (I1 5) 9 q1 = 13 by rw [hq1, eI1, rln_loose9 (by omega)])]; exact (show vp_in (nI 4) 13 from vp_in_nI (by decide) (by decide))) dX5_counts_149 (fun I21 hI21 H locs hG hS => ?_)
            rw [show ((4 : Int32)).toNatClampNeg = 4 from rfl] at hI21
            have hok := hok I21 hI21
            have hc21 : ∀ t, cnt (I21 5) t = cnt (I1 5) t := fun t => by rw [hI21, gU_at, cnt_u3 (by decide), hc20]
            have hr21 : ∀ t i, rln (I21 5) t i = rln (I1 5) t i := fun t i => by rw [hI21, gU_at, rln_u3 (by decide), hr20]
            refine lv_iinc (v := (nI (i + 1))) (lv' := [(4, .int (nI (i + 1))), (5, .ref (D1 4 i)), (3, .int (nI (cnt (I1 5) 4))), (2, .ref (D1 1 4)), (1, .ref (D1 9 q1)), (0, .ref (D1 0 0))]) hx hb dX5_counts_150 hl (k := 1) rfl (nI_add i 1) (by decide) rfl (fun ls hl => ?_)
            refine lv_goto (tgt := 102) hx hb dX5_counts_153 (by decide) ?_
            exact ih (i + 1) I21 _ _ _ (by omega) (by rw [← hT]; simp only [f_S_counts_l1, ← hI20, ← hI21, if_neg c5, if_neg c6, if_neg c8]) hok hc21 hr21 hG hS (lv_sub hl [0, 2, 3, 4, 5] rfl)
          · have hok := hok.1 c8
            refine lv_iconst (v := 1) hx hb dX5_counts_143 (by decide) ?_
            refine lv_goto (tgt := 148) hx hb dX5_counts_144 (by decide) ?_
            refine lv_iadd hx hb dX5_counts_148 ?_
            refine s_iast K hG hS (t := 9) (by decide) (cv hc20 (show q1 < cnt (I1 5) 9 by rw [hq1, eI1, cnt_loose9 (by omega)]; omega)) (by rw [hr20, (show rln (I1 5) 9 q1 = 13 by rw [hq1, eI1, rln_loose9 (by omega)])]; exact (show vp_in (nI 4) 13 from vp_in_nI (by decide) (by decide))) dX5_counts_149 (fun I22 hI22 H locs hG hS => ?_)
            rw [show ((4 : Int32)).toNatClampNeg = 4 from rfl] at hI22
            have hok := hok I22 hI22
            have hc22 : ∀ t, cnt (I22 5) t = cnt (I1 5) t := fun t => by rw [hI22, gU_at, cnt_u3 (by decide), hc20]
            have hr22 : ∀ t i, rln (I22 5) t i = rln (I1 5) t i := fun t i => by rw [hI22, gU_at, rln_u3 (by decide), hr20]
            refine lv_iinc (v := (nI (i + 1))) (lv' := [(4, .int (nI (i + 1))), (5, .ref (D1 4 i)), (3, .int (nI (cnt (I1 5) 4))), (2, .ref (D1 1 4)), (1, .ref (D1 9 q1)), (0, .ref (D1 0 0))]) hx hb dX5_counts_150 hl (k := 1) rfl (nI_add i 1) (by decide) rfl (fun ls hl => ?_)
            refine lv_goto (tgt := 102) hx hb dX5_counts_153 (by decide) ?_
            exact ih (i + 1) I22 _ _ _ (by omega) (by rw [← hT]; simp only [f_S_counts_l1, ← hI20, ← hI22, if_neg c5, if_neg c6, if_pos c8]) hok hc22 hr22 hG hS (lv_sub hl [0, 2, 3, 4, 5] rfl)
  refine hL_l1 (fun H locs ls hG hcI16 hrI16 hS hl => ?_) (cnt (I1 5) 4) 0 I14 _ _ _ (Nat.zero_add _) hI16.symm ho3 hc14 hr14 hG hS (lv_sub hl [0, 1, 2, 3, 4] rfl)
  have hok := hok I16 hI16
  refine lv_aload_n hx hb dX5_counts_156 rfl (lv_at hl 3 rfl) ?_
  refine sg_X5_19 K hG dX5_counts_157 ?_
  refine lv_astore_n (lv' := [(2, .ref (D1 1 3)), (3, .int (nI (cnt (I1 5) 4))), (1, .ref (D1 9 q1)), (0, .ref (D1 0 0))]) hx hb dX5_counts_160 rfl hl (by decide) rfl (fun ls hl => ?_)
  refine lv_aload_n hx hb dX5_counts_161 rfl (lv_at hl 0 rfl) ?_
  refine s_alen1 K hG (t := 3) (by decide) dX5_counts_162 ?_
  rw [hG.b.c 3, hcI16]
  refine lv_istore_n (lv' := [(3, .int (nI (cnt (I1 5) 3))), (2, .ref (D1 1 3)), (1, .ref (D1 9 q1)), (0, .ref (D1 0 0))]) hx hb dX5_counts_163 rfl hl (by decide) rfl (fun ls hl => ?_)
  have hb3 := hG.b.cl 3
  rw [hcI16] at hb3
  refine lv_iconst (v := 0) hx hb dX5_counts_164 (by decide) ?_
  refine lv_istore (lv' := [(4, .int 0), (3, .int (nI (cnt (I1 5) 3))), (2, .ref (D1 1 3)), (1, .ref (D1 9 q1)), (0, .ref (D1 0 0))]) hx hb dX5_counts_165 hl (by decide) rfl (fun ls hl => ?_)
  obtain ⟨ho9, hok⟩ := hok
  obtain ⟨I24, hI24⟩ : ∃ z, z = (f_S_counts_l2 q1 I1 (cnt (I1 5) 3) 0 I16) := ⟨_, rfl⟩
  have hL_l2 : (∀ (H : Heap) (locs : List Loc) (ls : Array Slot), LW E F J D1 I24 H → (∀ t, cnt (I24 5) t = cnt (I1 5) t) → (∀ t i, rln (I24 5) t i = rln (I1 5) t i) → va_S F s.heap H locs → lv_has ls 6 [(3, .int (nI (cnt (I1 5) 3))), (2, .ref (D1 1 3)), (1, .ref (D1 9 q1)), (0, .ref (D1 0 0))] → W p l e (rmc 1 1 13 26) s m ([.ref (D 0 0)] : List Value).toArray below meth c0 H locs 1 13 (MQ below (sQr E F J D I (f_S_counts I)) ([.ref (D 0 0)] : List Value).toArray s 1 13 F) (F0 m 194 ls [])) → ∀ (n i : Nat)  (I23 : gI) (H : Heap) (locs : List Loc) (ls : Array Slot), i + n = cnt (I1 5) 3 → f_S_counts_l2 q1 I1 n i I23 = I24 → ok_f_S_counts_l2 q1 I1 n i I23 → (∀ t, cnt (I23 5) t = cnt (I1 5) t) → (∀ t i, rln (I23 5) t i = rln (I1 5) t i) → LW E F J D1 I23 H → va_S F s.heap H locs → lv_has ls 6 [(4, .int (nI i)), (3, .int (nI (cnt (I1 5) 3))), (2, .ref (D1 1 3)), (1, .ref (D1 9 q1)), (0, .ref (D1 0 0))] → W p l e (rmc 1 1 13 26) s m ([.ref (D 0 0)] : List Value).toArray below meth c0 H locs 1 13 (MQ below (sQr E F J D I (f_S_counts I)) ([.ref (D 0 0)] : List Value).toArray s 1 13 F) (F0 m 167 ls []) := by
    intro hkont n
    induction n with
    | zero =>
      intro i I23 H locs ls hin hT hok hcL hrL hG hS hl
      unfold ok_f_S_counts_l2 at hok
      refine lv_iload hx hb dX5_counts_167 (lv_at hl 0 rfl) ?_
      refine lv_iload_n hx hb dX5_counts_169 rfl (lv_at hl 1 rfl) ?_
      refine lv_icmp_ge (tgt := 194) hx hb dX5_counts_170 (by decide) (fun c10 => ?_) (fun c10 => ?_)
      · skip
        have eS : I23 = I24 := by rw [← hT]; simp only [f_S_counts_l2, if_pos c10]
        rw [eS] at hG
        exact hkont _ _ _ hG (by rw [← eS]; exact hcL) (by rw [← eS]; exact hrL) hS (lv_sub hl [1, 2, 3, 4] rfl)
      · exact absurd (nI_le (by omega) (by have := hb3; omega)) c10
    | succ n ih =>
      intro i I23 H locs ls hin hT hok hcL hrL hG hS hl
      unfold ok_f_S_counts_l2 at hok
      refine lv_iload hx hb dX5_counts_167 (lv_at hl 0 rfl) ?_
      refine lv_iload_n hx hb dX5_counts_169 rfl (lv_at hl 1 rfl) ?_
      refine lv_icmp_ge (tgt := 194) hx hb dX5_counts_170 (by decide) (fun c11 => ?_) (fun c11 => ?_)
      · exact absurd c11 (nI_ge (by omega) (by have := hb3; omega))
      · skip
        refine lv_aload_n hx hb dX5_counts_173 rfl (lv_at hl 2 rfl) ?_
        refine lv_iload hx hb dX5_counts_174 (lv_at hl 0 rfl) ?_
        refine s_aald K hG (t := 3) (by decide) (vp_in_nI (cv hcL (show i < _ by omega)) (by have := hG.b.cl 3; omega)) dX5_counts_176 ?_
        rw [nI_clamp (by have := hG.b.cl 3; have := hcL 3; omega)]
        refine lv_astore (lv' := [(5, .ref (D1 3 i)), (4, .int (nI i)), (3, .int (nI (cnt (I1 5) 3))), (2, .ref (D1 1 3)), (1, .ref (D1 9 q1)), (0, .ref (D1 0 0))]) hx hb dX5_counts_177 hl (by decide) rfl (fun ls hl => ?_)
        refine lv_aload_n hx hb dX5_counts_179 rfl (lv_at hl 4 rfl) ?_
        refine lv_iconst (v := 5) hx hb dX5_counts_180 (by decide) ?_
        refine lv_dup2_11 hx hb dX5_counts_181 rfl rfl ?_
        refine s_iald K hG (t := 9) (by decide) (cv hcL (show q1 < cnt (I1 5) 9 by rw [hq1, eI1, cnt_loose9 (by omega)]; omega)) (by rw [hrL, (show rln (I1 5) 9 q1 = 13 by rw [hq1, eI1, rln_loose9 (by omega)])]; exact (show vp_in (nI 5) 13 from vp_in_nI (by decide) (by decide))) dX5_counts_182 ?_
        rw [show ((5 : Int32)).toNatClampNeg = 5 from rfl]
        refine lv_aload hx hb dX5_counts_183 (lv_at hl 0 rfl) ?_
        refine s_alen K hG (t := 3) (by decide) (cv hcL (show i < _ by omega)) rfl dX5_counts_185 ?_
        rw [hrL]
        refine lv_iadd hx hb dX5_counts_186 ?_
        refine s_iast K hG hS (t := 9) (by decide) (cv hcL (show q1 < cnt (I1 5) 9 by rw [hq1, eI1, cnt_loose9 (by omega)]; omega)) (by rw [hrL, (show rln (I1 5) 9 q1 = 13 by rw [hq1, eI1, rln_loose9 (by omega)])]; exact (show vp_in (nI 5) 13 from vp_in_nI (by decide) (by decide))) dX5_counts_187 (fun I25 hI25 H locs hG hS => ?_)
        rw [show ((5 : Int32)).toNatClampNeg = 5 from rfl] at hI25
        have hok := hok I25 hI25
        have hc25 : ∀ t, cnt (I25 5) t = cnt (I1 5) t := fun t => by rw [hI25, gU_at, cnt_u3 (by decide), hcL]
        have hr25 : ∀ t i, rln (I25 5) t i = rln (I1 5) t i := fun t i => by rw [hI25, gU_at, rln_u3 (by decide), hrL]
        refine lv_iinc (v := (nI (i + 1))) (lv' := [(4, .int (nI (i + 1))), (5, .ref (D1 3 i)), (3, .int (nI (cnt (I1 5) 3))), (2, .ref (D1 1 3)), (1, .ref (D1 9 q1)), (0, .ref (D1 0 0))]) hx hb dX5_counts_188 hl (k := 1) rfl (nI_add i 1) (by decide) rfl (fun ls hl => ?_)
        refine lv_goto (tgt := 167) hx hb dX5_counts_191 (by decide) ?_
        exact ih (i + 1) I25 _ _ _ (by omega) (by rw [← hT]; simp only [f_S_counts_l2, ← hI25, if_neg c11]) hok hc25 hr25 hG hS (lv_sub hl [0, 2, 3, 4, 5] rfl)
  refine hL_l2 (fun H locs ls hG hcI24 hrI24 hS hl => ?_) (cnt (I1 5) 3) 0 I16 _ _ _ (Nat.zero_add _) hI24.symm ho9 hcI16 hrI16 hG hS (lv_sub hl [0, 1, 2, 3, 4] rfl)
  have hok := hok I24 hI24
  refine lv_aload_n hx hb dX5_counts_194 rfl (lv_at hl 3 rfl) ?_
  refine sg_X5_15 K hG dX5_counts_195 ?_
  refine lv_astore_n (lv' := [(2, .ref (D1 1 2)), (3, .int (nI (cnt (I1 5) 3))), (1, .ref (D1 9 q1)), (0, .ref (D1 0 0))]) hx hb dX5_counts_198 rfl hl (by decide) rfl (fun ls hl => ?_)
  refine lv_aload_n hx hb dX5_counts_199 rfl (lv_at hl 0 rfl) ?_
  refine s_alen1 K hG (t := 2) (by decide) dX5_counts_200 ?_
  rw [hG.b.c 2, hcI24]
  refine lv_istore_n (lv' := [(3, .int (nI (cnt (I1 5) 2))), (2, .ref (D1 1 2)), (1, .ref (D1 9 q1)), (0, .ref (D1 0 0))]) hx hb dX5_counts_201 rfl hl (by decide) rfl (fun ls hl => ?_)
  have hb2 := hG.b.cl 2
  rw [hcI24] at hb2
  refine lv_iconst (v := 0) hx hb dX5_counts_202 (by decide) ?_
  refine lv_istore (lv' := [(4, .int 0), (3, .int (nI (cnt (I1 5) 2))), (2, .ref (D1 1 2)), (1, .ref (D1 9 q1)), (0, .ref (D1 0 0))]) hx hb dX5_counts_203 hl (by decide) rfl (fun ls hl => ?_)
  obtain ⟨ho12, hok⟩ := hok
  obtain ⟨I27, hI27⟩ : ∃ z, z = (f_S_counts_l3 q1 (cnt (I1 5) 2) 0 I24) := ⟨_, rfl⟩
  have hL_l3 : (∀ (H : Heap) (locs : List Loc) (ls : Array Slot), LW E F J D1 I27 H → (∀ t, cnt (I27 5) t = cnt (I1 5) t) → (∀ t i, rln (I27 5) t i = rln (I1 5) t i) → va_S F s.heap H locs → lv_has ls 6 [(3, .int (nI (cnt (I1 5) 2))), (2, .ref (D1 1 2)), (1, .ref (D1 9 q1)), (0, .ref (D1 0 0))] → W p l e (rmc 1 1 13 26) s m ([.ref (D 0 0)] : List Value).toArray below meth c0 H locs 1 13 (MQ below (sQr E F J D I (f_S_counts I)) ([.ref (D 0 0)] : List Value).toArray s 1 13 F) (F0 m 255 ls [])) → ∀ (n i : Nat)  (I26 : gI) (H : Heap) (locs : List Loc) (ls : Array Slot), i + n = cnt (I1 5) 2 → f_S_counts_l3 q1 n i I26 = I27 → ok_f_S_counts_l3 q1 n i I26 → (∀ t, cnt (I26 5) t = cnt (I1 5) t) → (∀ t i, rln (I26 5) t i = rln (I1 5) t i) → LW E F J D1 I26 H → va_S F s.heap H locs → lv_has ls 6 [(4, .int (nI i)), (3, .int (nI (cnt (I1 5) 2))), (2, .ref (D1 1 2)), (1, .ref (D1 9 q1)), (0, .ref (D1 0 0))] → W p l e (rmc 1 1 13 26) s m ([.ref (D 0 0)] : List Value).toArray below meth c0 H locs 1 13 (MQ below (sQr E F J D I (f_S_counts I)) ([.ref (D 0 0)] : List Value).toArray s 1 13 F) (F0 m 205 ls []) := by
    intro hkont n
    induction n with
    | zero =>
      intro i I26 H locs ls hin hT hok hcL hrL hG hS hl
      unfold ok_f_S_counts_l3 at hok
      refine lv_iload hx hb dX5_counts_205 (lv_at hl 0 rfl) ?_
      refine lv_iload_n hx hb dX5_counts_207 rfl (lv_at hl 1 rfl) ?_
      refine lv_icmp_ge (tgt := 255) hx hb dX5_counts_208 (by decide) (fun c13 => ?_) (fun c13 => ?_)
      · skip
        have eS : I26 = I27 := by rw [← hT]; simp only [f_S_counts_l3, if_pos c13]
        rw [eS] at hG
        exact hkont _ _ _ hG (by rw [← eS]; exact hcL) (by rw [← eS]; exact hrL) hS (lv_sub hl [1, 2, 3, 4] rfl)
      · exact absurd (nI_le (by omega) (by have := hb2; omega)) c13
    | succ n ih =>
      intro i I26 H locs ls hin hT hok hcL hrL hG hS hl
      unfold ok_f_S_counts_l3 at hok
      refine lv_iload hx hb dX5_counts_205 (lv_at hl 0 rfl) ?_
      refine lv_iload_n hx hb dX5_counts_207 rfl (lv_at hl 1 rfl) ?_
      refine lv_icmp_ge (tgt := 255) hx hb dX5_counts_208 (by decide) (fun c14 => ?_) (fun c14 => ?_)
      · exact absurd c14 (nI_ge (by omega) (by have := hb2; omega))
      · skip
        refine lv_aload_n hx hb dX5_counts_211 rfl (lv_at hl 2 rfl) ?_
        refine lv_iload hx hb dX5_counts_212 (lv_at hl 0 rfl) ?_
        refine s_aald K hG (t := 2) (by decide) (vp_in_nI (cv hcL (show i < _ by omega)) (by have := hG.b.cl 2; omega)) dX5_counts_214 ?_
        rw [nI_clamp (by have := hG.b.cl 2; have := hcL 2; omega)]
        refine lv_astore (lv' := [(5, .ref (D1 2 i)), (4, .int (nI i)), (3, .int (nI (cnt (I1 5) 2))), (2, .ref (D1 1 2)), (1, .ref (D1 9 q1)), (0, .ref (D1 0 0))]) hx hb dX5_counts_215 hl (by decide) rfl (fun ls hl => ?_)
        refine lv_aload_n hx hb dX5_counts_217 rfl (lv_at hl 4 rfl) ?_
        refine lv_bipush (v := 6) hx hb dX5_counts_218 (by decide) ?_
        refine lv_dup2_11 hx hb dX5_counts_220 rfl rfl ?_
        refine s_iald K hG (t := 9) (by decide) (cv hcL (show q1 < cnt (I1 5) 9 by rw [hq1, eI1, cnt_loose9 (by omega)]; omega)) (by rw [hrL, (show rln (I1 5) 9 q1 = 13 by rw [hq1, eI1, rln_loose9 (by omega)])]; exact (show vp_in (nI 6) 13 from vp_in_nI (by decide) (by decide))) dX5_counts_221 ?_
        rw [show ((6 : Int32)).toNatClampNeg = 6 from rfl]
        refine lv_aload hx hb dX5_counts_222 (lv_at hl 0 rfl) ?_
        refine lv_iconst (v := 2) hx hb dX5_counts_224 (by decide) ?_
        refine s_iald K hG (t := 2) (by decide) (cv hcL (show i < _ by omega)) (show vp_in (nI 2) 8 from vp_in_nI (by decide) (by decide)) dX5_counts_225 ?_
        rw [show ((2 : Int32)).toNatClampNeg = 2 from rfl]
        refine lv_iconst (v := 3) hx hb dX5_counts_226 (by decide) ?_
        refine lv_icmp_ne (tgt := 234) hx hb dX5_counts_227 (by decide) (fun c15 => ?_) (fun c15 => ?_)
        · have hok := hok.2 c15
          refine lv_iconst (v := 0) hx hb dX5_counts_234 (by decide) ?_
          refine lv_iadd hx hb dX5_counts_235 ?_
          refine s_iast K hG hS (t := 9) (by decide) (cv hcL (show q1 < cnt (I1 5) 9 by rw [hq1, eI1, cnt_loose9 (by omega)]; omega)) (by rw [hrL, (show rln (I1 5) 9 q1 = 13 by rw [hq1, eI1, rln_loose9 (by omega)])]; exact (show vp_in (nI 6) 13 from vp_in_nI (by decide) (by decide))) dX5_counts_236 (fun I28 hI28 H locs hG hS => ?_)
          rw [show ((6 : Int32)).toNatClampNeg = 6 from rfl] at hI28
          have hok := hok I28 hI28
          have hc28 : ∀ t, cnt (I28 5) t = cnt (I1 5) t := fun t => by rw [hI28, gU_at, cnt_u3 (by decide), hcL]
          have hr28 : ∀ t i, rln (I28 5) t i = rln (I1 5) t i := fun t i => by rw [hI28, gU_at, rln_u3 (by decide), hrL]
          refine lv_aload_n hx hb dX5_counts_237 rfl (lv_at hl 4 rfl) ?_
          refine lv_bipush (v := 10) hx hb dX5_counts_238 (by decide) ?_
          refine lv_dup2_11 hx hb dX5_counts_240 rfl rfl ?_
          refine s_iald K hG (t := 9) (by decide) (cv hc28 (show q1 < cnt (I1 5) 9 by rw [hq1, eI1, cnt_loose9 (by omega)]; omega)) (by rw [hr28, (show rln (I1 5) 9 q1 = 13 by rw [hq1, eI1, rln_loose9 (by omega)])]; exact (show vp_in (nI 10) 13 from vp_in_nI (by decide) (by decide))) dX5_counts_241 ?_
          rw [show ((10 : Int32)).toNatClampNeg = 10 from rfl]
          refine lv_aload hx hb dX5_counts_242 (lv_at hl 0 rfl) ?_
          refine lv_bipush (v := 7) hx hb dX5_counts_244 (by decide) ?_
          refine s_iald K hG (t := 2) (by decide) (cv hc28 (show i < _ by omega)) (show vp_in (nI 7) 8 from vp_in_nI (by decide) (by decide)) dX5_counts_246 ?_
          rw [show ((7 : Int32)).toNatClampNeg = 7 from rfl]
          refine lv_iadd hx hb dX5_counts_247 ?_
          refine s_iast K hG hS (t := 9) (by decide) (cv hc28 (show q1 < cnt (I1 5) 9 by rw [hq1, eI1, cnt_loose9 (by omega)]; omega)) (by rw [hr28, (show rln (I1 5) 9 q1 = 13 by rw [hq1, eI1, rln_loose9 (by omega)])]; exact (show vp_in (nI 10) 13 from vp_in_nI (by decide) (by decide))) dX5_counts_248 (fun I29 hI29 H locs hG hS => ?_)
          rw [show ((10 : Int32)).toNatClampNeg = 10 from rfl] at hI29
          have hok := hok I29 hI29
          have hc29 : ∀ t, cnt (I29 5) t = cnt (I1 5) t := fun t => by rw [hI29, gU_at, cnt_u3 (by decide), hc28]
          have hr29 : ∀ t i, rln (I29 5) t i = rln (I1 5) t i := fun t i => by rw [hI29, gU_at, rln_u3 (by decide), hr28]
          refine lv_iinc (v := (nI (i + 1))) (lv' := [(4, .int (nI (i + 1))), (5, .ref (D1 2 i)), (3, .int (nI (cnt (I1 5) 2))), (2, .ref (D1 1 2)), (1, .ref (D1 9 q1)), (0, .ref (D1 0 0))]) hx hb dX5_counts_249 hl (k := 1) rfl (nI_add i 1) (by decide) rfl (fun ls hl => ?_)
          refine lv_goto (tgt := 205) hx hb dX5_counts_252 (by decide) ?_
          exact ih (i + 1) I29 _ _ _ (by omega) (by rw [← hT]; simp only [f_S_counts_l3, ← hI28, ← hI29, if_neg c14, if_neg c15]) hok hc29 hr29 hG hS (lv_sub hl [0, 2, 3, 4, 5] rfl)
        · have hok := hok.1 c15
          refine lv_iconst (v := 1) hx hb dX5_counts_230 (by decide) ?_
          refine lv_goto (tgt := 235) hx hb dX5_counts_231 (by decide) ?_
          refine lv_iadd hx hb dX5_counts_235 ?_
          refine s_iast K hG hS (t := 9) (by decide) (cv hcL (show q1 < cnt (I1 5) 9 by rw [hq1, eI1, cnt_loose9 (by omega)]; omega)) (by rw [hrL, (show rln (I1 5) 9 q1 = 13 by rw [hq1, eI1, rln_loose9 (by omega)])]; exact (show vp_in (nI 6) 13 from vp_in_nI (by decide) (by decide))) dX5_counts_236 (fun I30 hI30 H locs hG hS => ?_)
          rw [show ((6 : Int32)).toNatClampNeg = 6 from rfl] at hI30
          have hok := hok I30 hI30
          have hc30 : ∀ t, cnt (I30 5) t = cnt (I1 5) t := fun t => by rw [hI30, gU_at, cnt_u3 (by decide), hcL]
          have hr30 : ∀ t i, rln (I30 5) t i = rln (I1 5) t i := fun t i => by rw [hI30, gU_at, rln_u3 (by decide), hrL]
          refine lv_aload_n hx hb dX5_counts_237 rfl (lv_at hl 4 rfl) ?_
          refine lv_bipush (v := 10) hx hb dX5_counts_238 (by decide) ?_
          refine lv_dup2_11 hx hb dX5_counts_240 rfl rfl ?_
          refine s_iald K hG (t := 9) (by decide) (cv hc30 (show q1 < cnt (I1 5) 9 by rw [hq1, eI1, cnt_loose9 (by omega)]; omega)) (by rw [hr30, (show rln (I1 5) 9 q1 = 13 by rw [hq1, eI1, rln_loose9 (by omega)])]; exact (show vp_in (nI 10) 13 from vp_in_nI (by decide) (by decide))) dX5_counts_241 ?_
          rw [show ((10 : Int32)).toNatClampNeg = 10 from rfl]
          refine lv_aload hx hb dX5_counts_242 (lv_at hl 0 rfl) ?_
          refine lv_bipush (v := 7) hx hb dX5_counts_244 (by decide) ?_
          refine s_iald K hG (t := 2) (by decide) (cv hc30 (show i < _ by omega)) (show vp_in (nI 7) 8 from vp_in_nI (by decide) (by decide)) dX5_counts_246 ?_
          rw [show ((7 : Int32)).toNatClampNeg = 7 from rfl]
          refine lv_iadd hx hb dX5_counts_247 ?_
          refine s_iast K hG hS (t := 9) (by decide) (cv hc30 (show q1 < cnt (I1 5) 9 by rw [hq1, eI1, cnt_loose9 (by omega)]; omega)) (by rw [hr30, (show rln (I1 5) 9 q1 = 13 by rw [hq1, eI1, rln_loose9 (by omega)])]; exact (show vp_in (nI 10) 13 from vp_in_nI (by decide) (by decide))) dX5_counts_248 (fun I31 hI31 H locs hG hS => ?_)
          rw [show ((10 : Int32)).toNatClampNeg = 10 from rfl] at hI31
          have hok := hok I31 hI31
          have hc31 : ∀ t, cnt (I31 5) t = cnt (I1 5) t := fun t => by rw [hI31, gU_at, cnt_u3 (by decide), hc30]
          have hr31 : ∀ t i, rln (I31 5) t i = rln (I1 5) t i := fun t i => by rw [hI31, gU_at, rln_u3 (by decide), hr30]
          refine lv_iinc (v := (nI (i + 1))) (lv' := [(4, .int (nI (i + 1))), (5, .ref (D1 2 i)), (3, .int (nI (cnt (I1 5) 2))), (2, .ref (D1 1 2)), (1, .ref (D1 9 q1)), (0, .ref (D1 0 0))]) hx hb dX5_counts_249 hl (k := 1) rfl (nI_add i 1) (by decide) rfl (fun ls hl => ?_)
          refine lv_goto (tgt := 205) hx hb dX5_counts_252 (by decide) ?_
          exact ih (i + 1) I31 _ _ _ (by omega) (by rw [← hT]; simp only [f_S_counts_l3, ← hI30, ← hI31, if_neg c14, if_pos c15]) hok hc31 hr31 hG hS (lv_sub hl [0, 2, 3, 4, 5] rfl)
  refine hL_l3 (fun H locs ls hG hcI27 hrI27 hS hl => ?_) (cnt (I1 5) 2) 0 I24 _ _ _ (Nat.zero_add _) hI27.symm ho12 hcI24 hrI24 hG hS (lv_sub hl [0, 1, 2, 3, 4] rfl)
  have hok := hok I27 hI27
  refine lv_aload_n hx hb dX5_counts_255 rfl (lv_at hl 2 rfl) ?_
  have eS : I27 = (f_S_counts I) := by simp only [f_S_counts, ← hq1, ← hI1, ← hI2, ← hI3, ← hI4, ← hI5, ← hI6, ← hI7, ← hI8, ← hI9, ← hI10, ← hI11, ← hI12, ← hI13, ← hI14, ← hI16, ← hI24, ← hI27]
  rw [eS] at hG
  exact W.aret (v := .ref (D1 9 q1)) hx hb hr (Or.inr ⟨_, rfl⟩) (Or.inr ⟨_, rfl⟩) (fun t ht hW => ⟨⟨(), _, rfl, trivial, D1, kd1, by rw [← hq1], by rw [ht]; exact hG⟩, hS.F ht⟩) hS.2.2 dX5_counts_256 hlocks
