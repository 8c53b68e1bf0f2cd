/-! PRINTED by wip/gen21/sim.py: 70.simwork -/
def f_S_work_l1 (k : Nat) (q8 : Nat) : Nat → Nat → gI → gI
  | 0, i, I25 =>
    I25
  | n + 1, i, I25 =>
    let I27 := gU I25 5 9 q8 i (I25 5 3 k (i - 1))
    f_S_work_l1 k q8 n (i + 1) I27
def ok_f_S_work_l1 (k : Nat) (q8 : Nat) : Nat → Nat → gI → Prop
  | 0, i, I25 =>
    True
  | n + 1, i, I25 =>
    ∀ I27, I27 = gU I25 5 9 q8 i (I25 5 3 k (i - 1)) →
    ok_f_S_work_l1 k q8 n (i + 1) I27
def f_S_work_l2 (k : Nat) : Nat → Nat → gI → Int32
  | 0, i, I30 =>
    (nI i)
  | n + 1, i, I30 =>
    if (I30 5 2 i 2) = 3 then
      (nI i)
    else
      f_S_work_l2 k n (i + 1) I30
def ok_f_S_work_l2 (k : Nat) : Nat → Nat → gI → Prop
  | 0, i, I30 =>
    True
  | n + 1, i, I30 =>
    (((I30 5 2 i 2) = 3) →
      True) ∧
    (¬ ((I30 5 2 i 2) = 3) →
      ok_f_S_work_l2 k n (i + 1) I30)
def f_S_work (I : gI) (k : Nat) : gI :=
  if (I 5 5 ((I 5 2 k 3).toNatClampNeg) 0) = (I 5 5 ((I 5 2 k 3).toNatClampNeg) 1) then
    if (I 5 5 ((I 5 2 k 3).toNatClampNeg) 0) ≤ (I 5 0 0 1) then
      let I3 := gU I 5 5 ((I 5 2 k 3).toNatClampNeg) 1 (if 0 < ((I 5 5 ((I 5 2 k 3).toNatClampNeg) 1) - (I 5 2 k 0)) then ((I 5 5 ((I 5 2 k 3).toNatClampNeg) 1) - (I 5 2 k 0)) else 0)
      if (I3 5 5 ((I 5 2 k 3).toNatClampNeg) 1) = 0 then
        let I4 := f_S_end I3 k (I3 5 2 k 3)
        I4
      else
        I3
    else
      if 8 ≤ (nI (rln (I 5) 3 k)) then
        let I5 := gU I 5 5 ((I 5 2 k 3).toNatClampNeg) 1 (if 0 < ((I 5 5 ((I 5 2 k 3).toNatClampNeg) 1) - (I 5 2 k 0)) then ((I 5 5 ((I 5 2 k 3).toNatClampNeg) 1) - (I 5 2 k 0)) else 0)
        if (I5 5 5 ((I 5 2 k 3).toNatClampNeg) 1) = 0 then
          let I6 := f_S_end I5 k (I5 5 2 k 3)
          I6
        else
          I5
      else
        let q4 := cnt (I 5) 9
        let I7 := gset I 5 (pLoose (I 5) 6 (fun _ => 0))
        let I8 := gU I7 5 9 q4 0 ((I7 5 5 ((I 5 2 k 3).toNatClampNeg) 0) / 2)
        let I9 := gU I8 5 9 q4 1 ((I8 5 5 ((I 5 2 k 3).toNatClampNeg) 0) / 2)
        let I10 := gU I9 5 9 q4 2 (I9 5 5 ((I 5 2 k 3).toNatClampNeg) 2)
        let I11 := gU I10 5 9 q4 3 (I10 5 2 k 3)
        let I12 := gU I11 5 9 q4 4 (nI ((cnt (I 5) 5) + 1))
        let I13 := gU I12 5 9 q4 5 0
        let I14 := gset I13 5 (pMore (I13 5) 5)
        let q6 := cnt (I14 5) 9
        let I15 := gset I14 5 (pLoose (I14 5) 6 (fun _ => 0))
        let I16 := gU I15 5 9 q6 0 ((I15 5 5 ((I 5 2 k 3).toNatClampNeg) 0) - ((I15 5 5 ((I 5 2 k 3).toNatClampNeg) 0) / 2))
        let I17 := gU I16 5 9 q6 1 ((I16 5 5 ((I 5 2 k 3).toNatClampNeg) 0) - ((I16 5 5 ((I 5 2 k 3).toNatClampNeg) 0) / 2))
        let I18 := gU I17 5 9 q6 2 (I17 5 5 ((I 5 2 k 3).toNatClampNeg) 2)
        let I19 := gU I18 5 9 q6 3 (I18 5 2 k 3)
        let I20 := gU I19 5 9 q6 4 (nI (cnt (I 5) 5))
        let I21 := gU I20 5 9 q6 5 0
        let I22 := gset I21 5 (pMore (I21 5) 5)
        let q8 := cnt (I22 5) 9
        let I23 := gset I22 5 (pLoose (I22 5) ((rln (I22 5) 3 k) + 1) (fun _ => 0))
        let I24 := gU I23 5 9 q8 0 (nI ((cnt (I 5) 5) + 1))
        let I26 := (f_S_work_l1 k q8 (((rln (I22 5) 3 k) + 1) - 1) 1 I24)
        let I28 := gset I26 5 (pCart (I26 5) k)
        let I29 := gU I28 5 2 k 3 (nI (cnt (I 5) 5))
        let I30 := gU I29 5 0 0 7 ((I29 5 0 0 7) + 1)
        let d31 := (f_S_work_l2 k (cnt (I28 5) 2) 0 I30)
        if (nI (cnt (I28 5) 2)) ≤ d31 then
          I30
        else
          let I32 := gU I30 5 2 d31.toNatClampNeg 2 0
          I32
  else
    let I1 := gU I 5 5 ((I 5 2 k 3).toNatClampNeg) 1 (if 0 < ((I 5 5 ((I 5 2 k 3).toNatClampNeg) 1) - (I 5 2 k 0)) then ((I 5 5 ((I 5 2 k 3).toNatClampNeg) 1) - (I 5 2 k 0)) else 0)
    if (I1 5 5 ((I 5 2 k 3).toNatClampNeg) 1) = 0 then
      let I2 := f_S_end I1 k (I1 5 2 k 3)
      I2
    else
      I1
def ok_S_work (I : gI) (k : Nat) : Prop :=
  vp_in (I 5 2 k 3) (cnt (I 5) 5) ∧
  (((I 5 5 ((I 5 2 k 3).toNatClampNeg) 0) = (I 5 5 ((I 5 2 k 3).toNatClampNeg) 1)) →
    (((I 5 5 ((I 5 2 k 3).toNatClampNeg) 0) ≤ (I 5 0 0 1)) →
      ∀ I3, I3 = gU I 5 5 ((I 5 2 k 3).toNatClampNeg) 1 (if 0 < ((I 5 5 ((I 5 2 k 3).toNatClampNeg) 1) - (I 5 2 k 0)) then ((I 5 5 ((I 5 2 k 3).toNatClampNeg) 1) - (I 5 2 k 0)) else 0) →
      (((I3 5 5 ((I 5 2 k 3).toNatClampNeg) 1) = 0) →
        ok_S_end I3 k (I3 5 2 k 3) ∧
        ∀ I4, I4 = f_S_end I3 k (I3 5 2 k 3) →
        True) ∧
      (¬ ((I3 5 5 ((I 5 2 k 3).toNatClampNeg) 1) = 0) →
        True)) ∧
    (¬ ((I 5 5 ((I 5 2 k 3).toNatClampNeg) 0) ≤ (I 5 0 0 1)) →
      ((8 ≤ (nI (rln (I 5) 3 k))) →
        ∀ I5, I5 = gU I 5 5 ((I 5 2 k 3).toNatClampNeg) 1 (if 0 < ((I 5 5 ((I 5 2 k 3).toNatClampNeg) 1) - (I 5 2 k 0)) then ((I 5 5 ((I 5 2 k 3).toNatClampNeg) 1) - (I 5 2 k 0)) else 0) →
        (((I5 5 5 ((I 5 2 k 3).toNatClampNeg) 1) = 0) →
          ok_S_end I5 k (I5 5 2 k 3) ∧
          ∀ I6, I6 = f_S_end I5 k (I5 5 2 k 3) →
          True) ∧
        (¬ ((I5 5 5 ((I 5 2 k 3).toNatClampNeg) 1) = 0) →
          True)) ∧
      (¬ (8 ≤ (nI (rln (I 5) 3 k))) →
        cnt (I 5) 9 < 329 ∧
        ∀ q4, q4 = cnt (I 5) 9 →
        ∀ I7, I7 = gset I 5 (pLoose (I 5) 6 (fun _ => 0)) →
        ∀ I8, I8 = gU I7 5 9 q4 0 ((I7 5 5 ((I 5 2 k 3).toNatClampNeg) 0) / 2) →
        ∀ I9, I9 = gU I8 5 9 q4 1 ((I8 5 5 ((I 5 2 k 3).toNatClampNeg) 0) / 2) →
        ∀ I10, I10 = gU I9 5 9 q4 2 (I9 5 5 ((I 5 2 k 3).toNatClampNeg) 2) →
        ∀ I11, I11 = gU I10 5 9 q4 3 (I10 5 2 k 3) →
        ∀ I12, I12 = gU I11 5 9 q4 4 (nI ((cnt (I 5) 5) + 1)) →
        ∀ I13, I13 = gU I12 5 9 q4 5 0 →
        cnt (I7 5) 5 < 330 ∧
        ∀ I14, I14 = gset I13 5 (pMore (I13 5) 5) →
        cnt (I14 5) 9 < 329 ∧
        ∀ q6, q6 = cnt (I14 5) 9 →
        ∀ I15, I15 = gset I14 5 (pLoose (I14 5) 6 (fun _ => 0)) →
        ∀ I16, I16 = gU I15 5 9 q6 0 ((I15 5 5 ((I 5 2 k 3).toNatClampNeg) 0) - ((I15 5 5 ((I 5 2 k 3).toNatClampNeg) 0) / 2)) →
        ∀ I17, I17 = gU I16 5 9 q6 1 ((I16 5 5 ((I 5 2 k 3).toNatClampNeg) 0) - ((I16 5 5 ((I 5 2 k 3).toNatClampNeg) 0) / 2)) →
        ∀ I18, I18 = gU I17 5 9 q6 2 (I17 5 5 ((I 5 2 k 3).toNatClampNeg) 2) →
        ∀ I19, I19 = gU I18 5 9 q6 3 (I18 5 2 k 3) →
        ∀ I20, I20 = gU I19 5 9 q6 4 (nI (cnt (I 5) 5)) →
        ∀ I21, I21 = gU I20 5 9 q6 5 0 →
        cnt (I15 5) 5 < 330 ∧
        ∀ I22, I22 = gset I21 5 (pMore (I21 5) 5) →
        cnt (I22 5) 9 < 329 ∧
        ((rln (I22 5) 3 k) + 1) ≤ 330 ∧
        ∀ q8, q8 = cnt (I22 5) 9 →
        ∀ I23, I23 = gset I22 5 (pLoose (I22 5) ((rln (I22 5) 3 k) + 1) (fun _ => 0)) →
        ∀ I24, I24 = gU I23 5 9 q8 0 (nI ((cnt (I 5) 5) + 1)) →
        ok_f_S_work_l1 k q8 (((rln (I22 5) 3 k) + 1) - 1) 1 I24 ∧
        ∀ I26, I26 = (f_S_work_l1 k q8 (((rln (I22 5) 3 k) + 1) - 1) 1 I24) →
        ∀ I28, I28 = gset I26 5 (pCart (I26 5) k) →
        ∀ I29, I29 = gU I28 5 2 k 3 (nI (cnt (I 5) 5)) →
        ∀ I30, I30 = gU I29 5 0 0 7 ((I29 5 0 0 7) + 1) →
        ok_f_S_work_l2 k (cnt (I28 5) 2) 0 I30 ∧
        ∀ d31, d31 = (f_S_work_l2 k (cnt (I28 5) 2) 0 I30) →
        (((nI (cnt (I28 5) 2)) ≤ d31) →
          True) ∧
        (¬ ((nI (cnt (I28 5) 2)) ≤ d31) →
          vp_in d31 (cnt (I28 5) 2) ∧
          ∀ I32, I32 = gU I30 5 2 d31.toNatClampNeg 2 0 →
          True)))) ∧
  (¬ ((I 5 5 ((I 5 2 k 3).toNatClampNeg) 0) = (I 5 5 ((I 5 2 k 3).toNatClampNeg) 1)) →
    ∀ I1, I1 = gU I 5 5 ((I 5 2 k 3).toNatClampNeg) 1 (if 0 < ((I 5 5 ((I 5 2 k 3).toNatClampNeg) 1) - (I 5 2 k 0)) then ((I 5 5 ((I 5 2 k 3).toNatClampNeg) 1) - (I 5 2 k 0)) else 0) →
    (((I1 5 5 ((I 5 2 k 3).toNatClampNeg) 1) = 0) →
      ok_S_end I1 k (I1 5 2 k 3) ∧
      ∀ I2, I2 = f_S_end I1 k (I1 5 2 k 3) →
      True) ∧
    (¬ ((I1 5 5 ((I 5 2 k 3).toNatClampNeg) 1) = 0) →
      True))
set_option maxHeartbeats 4000000 in
set_option maxRecDepth 100000 in
theorem m_S_work (l : Launch) (E : gE) (F : Nat → Prop) (J : Int64) (D : sD) (I : gI) (k : Nat) (hA : ∀ q, F q → gN E ≤ q) (hk : k < cnt (I 5) 2) (hk3 : k < cnt (I 5) 3) (hok : ok_S_work I k) : sM l E yX5_work cX5_work 7 none 1 6 1020 30 [.ref (D 0 0), .int (nI k)] (fun H => LW E F J D I H) (sQv E F J D I (f_S_work I k)) F := by
  refine s_entry (lv := [(0, .ref (D 0 0)), (1, .int (nI k))]) (by decide) (Nat.le_of_ble_eq_true rfl) rfl ?_
  intro p e s m below meth c0 ls K hAO hG hS hml hr hlocks hl
  have hG : LW E F J D I s.heap := hG
  have K : kx E p m c0 cX5_work "HayThievesLaw$Sim" _ s := K
  have hx := K.1
  have hb := K.2.1
  have hts := K.2.2.1
  have hown := K.2.2.2.1
  have hSt := K.2.2.2.2
  unfold ok_S_work at hok
  have hb5 := hG.b.cl 5
  have hb2k := hG.b.cl 2
  refine lv_aload_n hx hb dX5_work_0 rfl (lv_at hl 0 rfl) ?_
  refine sg_X5_15 K hG dX5_work_1 ?_
  refine lv_iload_n hx hb dX5_work_4 rfl (lv_at hl 1 rfl) ?_
  refine s_aald K hG (t := 2) (by decide) (vp_in_nI (cv (show ∀ t, cnt (I 5) t = cnt (I 5) t from fun _ => rfl) hk) (by have := hG.b.cl 2; omega)) dX5_work_5 ?_
  rw [nI_clamp (by have := hG.b.cl 2; omega)]
  refine lv_astore_n (lv' := [(2, .ref (D 2 k)), (0, .ref (D 0 0)), (1, .int (nI k))]) hx hb dX5_work_6 rfl hl (by decide) rfl (fun ls hl => ?_)
  refine lv_aload_n hx hb dX5_work_7 rfl (lv_at hl 1 rfl) ?_
  refine sg_X5_25 K hG dX5_work_8 ?_
  refine lv_aload_n hx hb dX5_work_11 rfl (lv_at hl 0 rfl) ?_
  refine lv_iconst (v := 3) hx hb dX5_work_12 (by decide) ?_
  refine s_iald K hG (t := 2) (by decide) (cv (show ∀ t, cnt (I 5) t = cnt (I 5) t from fun _ => rfl) hk) (show vp_in (nI 3) 8 from vp_in_nI (by decide) (by decide)) dX5_work_13 ?_
  rw [show ((3 : Int32)).toNatClampNeg = 3 from rfl]
  obtain ⟨ho1, hok⟩ := hok
  refine s_aald K hG (t := 5) (by decide) (by rw [(show ∀ t, cnt (I 5) t = cnt (I 5) t from fun _ => rfl)]; exact ho1) dX5_work_14 ?_
  refine lv_astore_n (lv' := [(3, .ref (D 5 ((I 5 2 k 3).toNatClampNeg))), (2, .ref (D 2 k)), (0, .ref (D 0 0)), (1, .int (nI k))]) hx hb dX5_work_15 rfl hl (by decide) rfl (fun ls hl => ?_)
  refine lv_aload_n hx hb dX5_work_16 rfl (lv_at hl 0 rfl) ?_
  refine lv_iconst (v := 0) hx hb dX5_work_17 (by decide) ?_
  refine s_iald K hG (t := 5) (by decide) (cv (show ∀ t, cnt (I 5) t = cnt (I 5) t from fun _ => rfl) (vp_lt ho1)) (show vp_in (nI 0) 6 from vp_in_nI (by decide) (by decide)) dX5_work_18 ?_
  rw [show ((0 : Int32)).toNatClampNeg = 0 from rfl]
  refine lv_aload_n hx hb dX5_work_19 rfl (lv_at hl 0 rfl) ?_
  refine lv_iconst (v := 1) hx hb dX5_work_20 (by decide) ?_
  refine s_iald K hG (t := 5) (by decide) (cv (show ∀ t, cnt (I 5) t = cnt (I 5) t from fun _ => rfl) (vp_lt ho1)) (show vp_in (nI 1) 6 from vp_in_nI (by decide) (by decide)) dX5_work_21 ?_
  rw [show ((1 : Int32)).toNatClampNeg = 1 from rfl]
  refine lv_icmp_ne (tgt := 298) hx hb dX5_work_22 (by decide) (fun c2 => ?_) (fun c2 => ?_)
  · have hok := hok.2 c2
    refine lv_aload_n hx hb dX5_work_298 rfl (lv_at hl 0 rfl) ?_
    refine lv_iconst (v := 1) hx hb dX5_work_299 (by decide) ?_
    refine lv_iconst (v := 0) hx hb dX5_work_300 (by decide) ?_
    refine lv_aload_n hx hb dX5_work_301 rfl (lv_at hl 0 rfl) ?_
    refine lv_iconst (v := 1) hx hb dX5_work_302 (by decide) ?_
    refine s_iald K hG (t := 5) (by decide) (cv (show ∀ t, cnt (I 5) t = cnt (I 5) t from fun _ => rfl) (vp_lt ho1)) (show vp_in (nI 1) 6 from vp_in_nI (by decide) (by decide)) dX5_work_303 ?_
    rw [show ((1 : Int32)).toNatClampNeg = 1 from rfl]
    refine lv_aload_n hx hb dX5_work_304 rfl (lv_at hl 1 rfl) ?_
    refine lv_iconst (v := 0) hx hb dX5_work_305 (by decide) ?_
    refine s_iald K hG (t := 2) (by decide) (cv (show ∀ t, cnt (I 5) t = cnt (I 5) t from fun _ => rfl) hk) (show vp_in (nI 0) 8 from vp_in_nI (by decide) (by decide)) dX5_work_306 ?_
    rw [show ((0 : Int32)).toNatClampNeg = 0 from rfl]
    refine lv_isub hx hb dX5_work_307 ?_
    refine va_mmax hx hb (hml.trans hl.1.symm) hown (hts _ q549) (hts _ q550) (hts _ q14) (hts _ q551) (by decide) (Nat.le_of_ble_eq_true rfl) (Nat.zero_le _) (Nat.zero_le _) dX5_work_308 ?_
    refine s_iast K hG hS (t := 5) (by decide) (cv (show ∀ t, cnt (I 5) t = cnt (I 5) t from fun _ => rfl) (vp_lt ho1)) (show vp_in (nI 1) 6 from vp_in_nI (by decide) (by decide)) dX5_work_311 (fun I1 hI1 H locs hG hS => ?_)
    rw [show ((1 : Int32)).toNatClampNeg = 1 from rfl] at hI1
    have hok := hok I1 hI1
    have hc1 : ∀ t, cnt (I1 5) t = cnt (I 5) t := fun t => by rw [hI1, gU_at, cnt_u3 (by decide), (show ∀ t, cnt (I 5) t = cnt (I 5) t from fun _ => rfl)]
    have hr1 : ∀ t i, rln (I1 5) t i = rln (I 5) t i := fun t i => by rw [hI1, gU_at, rln_u3 (by decide), (show ∀ t i, rln (I 5) t i = rln (I 5) t i from fun _ _ => rfl)]
    refine lv_aload_n hx hb dX5_work_312 rfl (lv_at hl 0 rfl) ?_
    refine lv_iconst (v := 1) hx hb dX5_work_313 (by decide) ?_
    refine s_iald K hG (t := 5) (by decide) (cv hc1 (vp_lt ho1)) (show vp_in (nI 1) 6 from vp_in_nI (by decide) (by decide)) dX5_work_314 ?_
    rw [show ((1 : Int32)).toNatClampNeg = 1 from rfl]
    refine lv_if_ne (tgt := 326) hx hb dX5_work_315 (by decide) (fun c3 => ?_) (fun c3 => ?_)
    · have hok := hok.2 c3
      have eS : I1 = (f_S_work I k) := by simp only [f_S_work, ← hI1, if_neg c2, if_neg c3]
      rw [eS] at hG
      exact W.widen (k := 6) (n := 1020) (Nat.le_of_ble_eq_true rfl) (Nat.le_of_ble_eq_true rfl) (s_vret K hG (sKD.refl D (cnt (I 5) 9)) hS hr hlocks dX5_work_326)
    · have hok := hok.1 c3
      refine lv_aload_n hx hb dX5_work_318 rfl (lv_at hl 2 rfl) ?_
      refine lv_aload_n hx hb dX5_work_319 rfl (lv_at hl 1 rfl) ?_
      refine lv_aload_n hx hb dX5_work_320 rfl (lv_at hl 1 rfl) ?_
      refine lv_iconst (v := 3) hx hb dX5_work_321 (by decide) ?_
      refine s_iald K hG (t := 2) (by decide) (cv hc1 hk) (show vp_in (nI 3) 8 from vp_in_nI (by decide) (by decide)) dX5_work_322 ?_
      rw [show ((3 : Int32)).toNatClampNeg = 3 from rfl]
      obtain ⟨ho4, hok⟩ := hok
      refine s_kv (s_runV (As := [.ref (D 2 k), .int (I1 5 2 k 3)]) (rest := []) K hAO hA hml ca_X5_end q533 (m_S_end l E F J D I1 k (I1 5 2 k 3) hA (cv hc1 hk) ho4) hG hG hS rfl rfl hl.1 (Nat.le_of_ble_eq_true rfl) ⟨by decide, by decide⟩ dX5_work_323 ⟨Nat.le_of_ble_eq_true rfl, Nat.le_of_ble_eq_true rfl⟩) hS (fun D1 hD1 H locs hG hS => ?_)
      obtain ⟨I2, hI2⟩ : ∃ z, z = f_S_end I1 k (I1 5 2 k 3) := ⟨_, rfl⟩
      rw [← hI2] at hG
      have hok := hok I2 hI2
      have hl : lv_has ls 7 [(0, .ref (D 0 0)), (1, .int (nI k))] := lv_sub hl [2, 3] rfl
      rw [← show D1 0 0 = D 0 0 from hD1.1] at hl
      have eS : I2 = (f_S_work I k) := by simp only [f_S_work, ← hI1, ← hI2, if_neg c2, if_pos c3]
      rw [eS] at hG
      exact W.widen (k := 6) (n := 1020) (Nat.le_of_ble_eq_true rfl) (Nat.le_of_ble_eq_true rfl) (s_vret K hG ((sKD.refl D (cnt (I 5) 9)).tr hD1 (hc1 9)) hS hr hlocks dX5_work_326)
  · have hok := hok.1 c2
    refine lv_aload_n hx hb dX5_work_25 rfl (lv_at hl 0 rfl) ?_
    refine lv_iconst (v := 0) hx hb dX5_work_26 (by decide) ?_
    refine s_iald K hG (t := 5) (by decide) (cv (show ∀ t, cnt (I 5) t = cnt (I 5) t from fun _ => rfl) (vp_lt ho1)) (show vp_in (nI 0) 6 from vp_in_nI (by decide) (by decide)) dX5_work_27 ?_
    rw [show ((0 : Int32)).toNatClampNeg = 0 from rfl]
    refine lv_aload_n hx hb dX5_work_28 rfl (lv_at hl 2 rfl) ?_
    refine sg_X5_7 K hG dX5_work_29 ?_
    refine lv_icmp_le (tgt := 298) hx hb dX5_work_32 (by decide) (fun c5 => ?_) (fun c5 => ?_)
    · have hok := hok.1 c5
      refine lv_aload_n hx hb dX5_work_298 rfl (lv_at hl 0 rfl) ?_
      refine lv_iconst (v := 1) hx hb dX5_work_299 (by decide) ?_
      refine lv_iconst (v := 0) hx hb dX5_work_300 (by decide) ?_
      refine lv_aload_n hx hb dX5_work_301 rfl (lv_at hl 0 rfl) ?_
      refine lv_iconst (v := 1) hx hb dX5_work_302 (by decide) ?_
      refine s_iald K hG (t := 5) (by decide) (cv (show ∀ t, cnt (I 5) t = cnt (I 5) t from fun _ => rfl) (vp_lt ho1)) (show vp_in (nI 1) 6 from vp_in_nI (by decide) (by decide)) dX5_work_303 ?_
      rw [show ((1 : Int32)).toNatClampNeg = 1 from rfl]
      refine lv_aload_n hx hb dX5_work_304 rfl (lv_at hl 1 rfl) ?_
      refine lv_iconst (v := 0) hx hb dX5_work_305 (by decide) ?_
      refine s_iald K hG (t := 2) (by decide) (cv (show ∀ t, cnt (I 5) t = cnt (I 5) t from fun _ => rfl) hk) (show vp_in (nI 0) 8 from vp_in_nI (by decide) (by decide)) dX5_work_306 ?_
      rw [show ((0 : Int32)).toNatClampNeg = 0 from rfl]
      refine lv_isub hx hb dX5_work_307 ?_
      refine va_mmax hx hb (hml.trans hl.1.symm) hown (hts _ q549) (hts _ q550) (hts _ q14) (hts _ q551) (by decide) (Nat.le_of_ble_eq_true rfl) (Nat.zero_le _) (Nat.zero_le _) dX5_work_308 ?_
      refine s_iast K hG hS (t := 5) (by decide) (cv (show ∀ t, cnt (I 5) t = cnt (I 5) t from fun _ => rfl) (vp_lt ho1)) (show vp_in (nI 1) 6 from vp_in_nI (by decide) (by decide)) dX5_work_311 (fun I3 hI3 H locs hG hS => ?_)
      rw [show ((1 : Int32)).toNatClampNeg = 1 from rfl] at hI3
      have hok := hok I3 hI3
      have hc3 : ∀ t, cnt (I3 5) t = cnt (I 5) t := fun t => by rw [hI3, gU_at, cnt_u3 (by decide), (show ∀ t, cnt (I 5) t = cnt (I 5) t from fun _ => rfl)]
      have hr3 : ∀ t i, rln (I3 5) t i = rln (I 5) t i := fun t i => by rw [hI3, gU_at, rln_u3 (by decide), (show ∀ t i, rln (I 5) t i = rln (I 5) t i from fun _ _ => rfl)]
      refine lv_aload_n hx hb dX5_work_312 rfl (lv_at hl 0 rfl) ?_
      refine lv_iconst (v := 1) hx hb dX5_work_313 (by decide) ?_
      refine s_iald K hG (t := 5) (by decide) (cv hc3 (vp_lt ho1)) (show vp_in (nI 1) 6 from vp_in_nI (by decide) (by decide)) dX5_work_314 ?_
      rw [show ((1 : Int32)).toNatClampNeg = 1 from rfl]
      refine lv_if_ne (tgt := 326) hx hb dX5_work_315 (by decide) (fun c6 => ?_) (fun c6 => ?_)
      · have hok := hok.2 c6
        have eS : I3 = (f_S_work I k) := by simp only [f_S_work, ← hI3, if_pos c2, if_pos c5, if_neg c6]
        rw [eS] at hG
        exact W.widen (k := 6) (n := 1020) (Nat.le_of_ble_eq_true rfl) (Nat.le_of_ble_eq_true rfl) (s_vret K hG (sKD.refl D (cnt (I 5) 9)) hS hr hlocks dX5_work_326)
      · have hok := hok.1 c6
        refine lv_aload_n hx hb dX5_work_318 rfl (lv_at hl 2 rfl) ?_
        refine lv_aload_n hx hb dX5_work_319 rfl (lv_at hl 1 rfl) ?_
        refine lv_aload_n hx hb dX5_work_320 rfl (lv_at hl 1 rfl) ?_
        refine lv_iconst (v := 3) hx hb dX5_work_321 (by decide) ?_
        refine s_iald K hG (t := 2) (by decide) (cv hc3 hk) (show vp_in (nI 3) 8 from vp_in_nI (by decide) (by decide)) dX5_work_322 ?_
        rw [show ((3 : Int32)).toNatClampNeg = 3 from rfl]
        obtain ⟨ho7, hok⟩ := hok
        refine s_kv (s_runV (As := [.ref (D 2 k), .int (I3 5 2 k 3)]) (rest := []) K hAO hA hml ca_X5_end q533 (m_S_end l E F J D I3 k (I3 5 2 k 3) hA (cv hc3 hk) ho7) hG hG hS rfl rfl hl.1 (Nat.le_of_ble_eq_true rfl) ⟨by decide, by decide⟩ dX5_work_323 ⟨Nat.le_of_ble_eq_true rfl, Nat.le_of_ble_eq_true rfl⟩) hS (fun D2 hD2 H locs hG hS => ?_)
        obtain ⟨I4, hI4⟩ : ∃ z, z = f_S_end I3 k (I3 5 2 k 3) := ⟨_, rfl⟩
        rw [← hI4] at hG
        have hok := hok I4 hI4
        have hl : lv_has ls 7 [(0, .ref (D 0 0)), (1, .int (nI k))] := lv_sub hl [2, 3] rfl
        rw [← show D2 0 0 = D 0 0 from hD2.1] at hl
        have eS : I4 = (f_S_work I k) := by simp only [f_S_work, ← hI3, ← hI4, if_pos c2, if_pos c5, if_pos c6]
        rw [eS] at hG
        exact W.widen (k := 6) (n := 1020) (Nat.le_of_ble_eq_true rfl) (Nat.le_of_ble_eq_true rfl) (s_vret K hG ((sKD.refl D (cnt (I 5) 9)).tr hD2 (hc3 9)) hS hr hlocks dX5_work_326)
    · have hok := hok.2 c5
      refine lv_aload_n hx hb dX5_work_35 rfl (lv_at hl 2 rfl) ?_
      refine sg_X5_19 K hG dX5_work_36 ?_
      refine lv_iload_n hx hb dX5_work_39 rfl (lv_at hl 3 rfl) ?_
      refine s_aald K hG (t := 3) (by decide) (vp_in_nI (cv (show ∀ t, cnt (I 5) t = cnt (I 5) t from fun _ => rfl) hk3) (by have := hG.b.cl 3; omega)) dX5_work_40 ?_
      rw [nI_clamp (by have := hG.b.cl 2; omega)]
      refine s_alen K hG (t := 3) (by decide) (cv (show ∀ t, cnt (I 5) t = cnt (I 5) t from fun _ => rfl) hk3) rfl dX5_work_41 ?_
      rw [(show ∀ t i, rln (I 5) t i = rln (I 5) t i from fun _ _ => rfl)]
      refine lv_bipush (v := 8) hx hb dX5_work_42 (by decide) ?_
      refine lv_icmp_ge (tgt := 298) hx hb dX5_work_44 (by decide) (fun c8 => ?_) (fun c8 => ?_)
      · have hok := hok.1 c8
        refine lv_aload_n hx hb dX5_work_298 rfl (lv_at hl 0 rfl) ?_
        refine lv_iconst (v := 1) hx hb dX5_work_299 (by decide) ?_
        refine lv_iconst (v := 0) hx hb dX5_work_300 (by decide) ?_
        refine lv_aload_n hx hb dX5_work_301 rfl (lv_at hl 0 rfl) ?_
        refine lv_iconst (v := 1) hx hb dX5_work_302 (by decide) ?_
        refine s_iald K hG (t := 5) (by decide) (cv (show ∀ t, cnt (I 5) t = cnt (I 5) t from fun _ => rfl) (vp_lt ho1)) (show vp_in (nI 1) 6 from vp_in_nI (by decide) (by decide)) dX5_work_303 ?_
        rw [show ((1 : Int32)).toNatClampNeg = 1 from rfl]
        refine lv_aload_n hx hb dX5_work_304 rfl (lv_at hl 1 rfl) ?_
        refine lv_iconst (v := 0) hx hb dX5_work_305 (by decide) ?_
        refine s_iald K hG (t := 2) (by decide) (cv (show ∀ t, cnt (I 5) t = cnt (I 5) t from fun _ => rfl) hk) (show vp_in (nI 0) 8 from vp_in_nI (by decide) (by decide)) dX5_work_306 ?_
        rw [show ((0 : Int32)).toNatClampNeg = 0 from rfl]
        refine lv_isub hx hb dX5_work_307 ?_
        refine va_mmax hx hb (hml.trans hl.1.symm) hown (hts _ q549) (hts _ q550) (hts _ q14) (hts _ q551) (by decide) (Nat.le_of_ble_eq_true rfl) (Nat.zero_le _) (Nat.zero_le _) dX5_work_308 ?_
        refine s_iast K hG hS (t := 5) (by decide) (cv (show ∀ t, cnt (I 5) t = cnt (I 5) t from fun _ => rfl) (vp_lt ho1)) (show vp_in (nI 1) 6 from vp_in_nI (by decide) (by decide)) dX5_work_311 (fun I5 hI5 H locs hG hS => ?_)
        rw [show ((1 : Int32)).toNatClampNeg = 1 from rfl] at hI5
        have hok := hok I5 hI5
        have hc5 : ∀ t, cnt (I5 5) t = cnt (I 5) t := fun t => by rw [hI5, gU_at, cnt_u3 (by decide), (show ∀ t, cnt (I 5) t = cnt (I 5) t from fun _ => rfl)]
        have hr5 : ∀ t i, rln (I5 5) t i = rln (I 5) t i := fun t i => by rw [hI5, gU_at, rln_u3 (by decide), (show ∀ t i, rln (I 5) t i = rln (I 5) t i from fun _ _ => rfl)]
        refine lv_aload_n hx hb dX5_work_312 rfl (lv_at hl 0 rfl) ?_
        refine lv_iconst (v := 1) hx hb dX5_work_313 (by decide) ?_
        refine s_iald K hG (t := 5) (by decide) (cv hc5 (vp_lt ho1)) (show vp_in (nI 1) 6 from vp_in_nI (by decide) (by decide)) dX5_work_314 ?_
        rw [show ((1 : Int32)).toNatClampNeg = 1 from rfl]
        refine lv_if_ne (tgt := 326) hx hb dX5_work_315 (by decide) (fun c9 => ?_) (fun c9 => ?_)
        · have hok := hok.2 c9
          have eS : I5 = (f_S_work I k) := by simp only [f_S_work, ← hI5, if_pos c2, if_neg c5, if_pos c8, if_neg c9]
          rw [eS] at hG
          exact W.widen (k := 6) (n := 1020) (Nat.le_of_ble_eq_true rfl) (Nat.le_of_ble_eq_true rfl) (s_vret K hG (sKD.refl D (cnt (I 5) 9)) hS hr hlocks dX5_work_326)
        · have hok := hok.1 c9
          refine lv_aload_n hx hb dX5_work_318 rfl (lv_at hl 2 rfl) ?_
          refine lv_aload_n hx hb dX5_work_319 rfl (lv_at hl 1 rfl) ?_
          refine lv_aload_n hx hb dX5_work_320 rfl (lv_at hl 1 rfl) ?_
          refine lv_iconst (v := 3) hx hb dX5_work_321 (by decide) ?_
          refine s_iald K hG (t := 2) (by decide) (cv hc5 hk) (show vp_in (nI 3) 8 from vp_in_nI (by decide) (by decide)) dX5_work_322 ?_
          rw [show ((3 : Int32)).toNatClampNeg = 3 from rfl]
          obtain ⟨ho10, hok⟩ := hok
          refine s_kv (s_runV (As := [.ref (D 2 k), .int (I5 5 2 k 3)]) (rest := []) K hAO hA hml ca_X5_end q533 (m_S_end l E F J D I5 k (I5 5 2 k 3) hA (cv hc5 hk) ho10) hG hG hS rfl rfl hl.1 (Nat.le_of_ble_eq_true rfl) ⟨by decide, by decide⟩ dX5_work_323 ⟨Nat.le_of_ble_eq_true rfl, Nat.le_of_ble_eq_true rfl⟩) hS (fun D3 hD3 H locs hG hS => ?_)
          obtain ⟨I6, hI6⟩ : ∃ z, z = f_S_end I5 k (I5 5 2 k 3) := ⟨_, rfl⟩
          rw [← hI6] at hG
          have hok := hok I6 hI6
          have hl : lv_has ls 7 [(0, .ref (D 0 0)), (1, .int (nI k))] := lv_sub hl [2, 3] rfl
          rw [← show D3 0 0 = D 0 0 from hD3.1] at hl
          have eS : I6 = (f_S_work I k) := by simp only [f_S_work, ← hI5, ← hI6, if_pos c2, if_neg c5, if_pos c8, if_pos c9]
          rw [eS] at hG
          exact W.widen (k := 6) (n := 1020) (Nat.le_of_ble_eq_true rfl) (Nat.le_of_ble_eq_true rfl) (s_vret K hG ((sKD.refl D (cnt (I 5) 9)).tr hD3 (hc5 9)) hS hr hlocks dX5_work_326)
      · have hok := hok.2 c8
        refine lv_aload_n hx hb dX5_work_47 rfl (lv_at hl 2 rfl) ?_
        refine sg_X5_25 K hG dX5_work_48 ?_
        refine s_alen1 K hG (t := 5) (by decide) dX5_work_51 ?_
        rw [hG.b.c 5, (show ∀ t, cnt (I 5) t = cnt (I 5) t from fun _ => rfl)]
        refine lv_istore (lv' := [(4, .int (nI (cnt (I 5) 5))), (3, .ref (D 5 ((I 5 2 k 3).toNatClampNeg))), (2, .ref (D 2 k)), (0, .ref (D 0 0)), (1, .int (nI k))]) hx hb dX5_work_52 hl (by decide) rfl (fun ls hl => ?_)
        refine lv_aload_n hx hb dX5_work_54 rfl (lv_at hl 3 rfl) ?_
        refine lv_aload_n hx hb dX5_work_55 rfl (lv_at hl 3 rfl) ?_
        refine sg_X5_25 K hG dX5_work_56 ?_
        refine lv_bipush (v := 6) hx hb dX5_work_59 (by decide) ?_
        obtain ⟨ho11, hok⟩ := hok
        have h9I7 : cnt (I 5) 9 < 329 := by rw [(show ∀ t, cnt (I 5) t = cnt (I 5) t from fun _ => rfl)]; exact ho11
        obtain ⟨q4, hq4⟩ : ∃ z, z = cnt (I 5) 9 := ⟨_, rfl⟩
        have hok := hok q4 hq4
        refine s_newi (N := 6) K hG hS rfl (by decide) (by omega) (Nat.le_of_ble_eq_true rfl) (Nat.le_of_ble_eq_true rfl) dX5_work_61 (fun a4 D4 hD4 I7 hI7 H hG hS => ?_)
        rw [← hq4]
        have eI7 : I7 5 = pLoose (I 5) 6 (fun _ => 0) := by rw [hI7, gset_at]
        have hok := hok I7 hI7
        have v1 : k < cnt (I7 5) 2 := by rw [eI7, cnt_loose (by decide)]; exact cv (show ∀ t, cnt (I 5) t = cnt (I 5) t from fun _ => rfl) hk
        have v2 : k < cnt (I7 5) 3 := by rw [eI7, cnt_loose (by decide)]; exact cv (show ∀ t, cnt (I 5) t = cnt (I 5) t from fun _ => rfl) hk3
        have v3 : (I 5 2 k 3).toNatClampNeg < cnt (I7 5) 5 := by rw [eI7, cnt_loose (by decide)]; exact cv (show ∀ t, cnt (I 5) t = cnt (I 5) t from fun _ => rfl) (vp_lt ho1)
        have n9I7 : cnt (I7 5) 9 = cnt (I 5) 9 + 1 := by have h9 := (show cnt (I 5) 9 = cnt (I 5) 9 + 0 from rfl); have h8 := (show ∀ t, cnt (I 5) t = cnt (I 5) t from fun _ => rfl) 9; rw [eI7, cnt_loose9 (by omega)] <;> omega
        have kd4 : sKD D D4 (cnt (I 5) 9) := ⟨(show D4 0 0 = D 0 0 by rw [hD4]; rfl).trans (sKD.refl D (cnt (I 5) 9)).1, fun i hi => by rw [hD4, u2_eq, if_neg (by have := n9I7; omega)] <;> exact (sKD.refl D (cnt (I 5) 9)).2 i hi⟩
        conv in F0 _ _ _ _ => rw [← show D4 0 0 = D 0 0 from (by rw [hD4]; rfl)]
        conv in F0 _ _ _ _ => rw [← show D4 1 5 = D 1 5 from (by rw [hD4]; rfl)]
        rw [← show D4 5 ((I 5 2 k 3).toNatClampNeg) = D 5 ((I 5 2 k 3).toNatClampNeg) from (by rw [hD4]; rfl)] at hl
        rw [← show D4 2 k = D 2 k from (by rw [hD4]; rfl)] at hl
        rw [← show D4 0 0 = D 0 0 from (by rw [hD4]; rfl)] at hl
        refine lv_dup hx hb dX5_work_63 rfl ?_
        refine lv_iconst (v := 0) hx hb dX5_work_64 (by decide) ?_
        refine lv_aload_n hx hb dX5_work_65 rfl (lv_at hl 1 rfl) ?_
        refine lv_iconst (v := 0) hx hb dX5_work_66 (by decide) ?_
        refine s_iald K hG (t := 5) (by decide) (cv (show ∀ t, cnt (I7 5) t = cnt (I7 5) t from fun _ => rfl) v3) (show vp_in (nI 0) 6 from vp_in_nI (by decide) (by decide)) dX5_work_67 ?_
        rw [show ((0 : Int32)).toNatClampNeg = 0 from rfl]
        refine lv_iconst (v := 2) hx hb dX5_work_68 (by decide) ?_
        refine lv_idiv hx hb dX5_work_69 (by decide) ?_
        refine s_iast K hG hS (t := 9) (by decide) (cv (show ∀ t, cnt (I7 5) t = cnt (I7 5) t from fun _ => rfl) (show q4 < cnt (I7 5) 9 by rw [hq4, eI7, cnt_loose9 (by omega)]; omega)) (by rw [(show ∀ t i, rln (I7 5) t i = rln (I7 5) t i from fun _ _ => rfl), (show rln (I7 5) 9 q4 = 6 by rw [hq4, eI7, rln_loose9 (by omega)])]; exact (show vp_in (nI 0) 6 from vp_in_nI (by decide) (by decide))) dX5_work_70 (fun I8 hI8 H locs hG hS => ?_)
        rw [show ((0 : Int32)).toNatClampNeg = 0 from rfl] at hI8
        have hok := hok I8 hI8
        have hc8 : ∀ t, cnt (I8 5) t = cnt (I7 5) t := fun t => by rw [hI8, gU_at, cnt_u3 (by decide), (show ∀ t, cnt (I7 5) t = cnt (I7 5) t from fun _ => rfl)]
        have hr8 : ∀ t i, rln (I8 5) t i = rln (I7 5) t i := fun t i => by rw [hI8, gU_at, rln_u3 (by decide), (show ∀ t i, rln (I7 5) t i = rln (I7 5) t i from fun _ _ => rfl)]
        refine lv_dup hx hb dX5_work_71 rfl ?_
        refine lv_iconst (v := 1) hx hb dX5_work_72 (by decide) ?_
        refine lv_aload_n hx hb dX5_work_73 rfl (lv_at hl 1 rfl) ?_
        refine lv_iconst (v := 0) hx hb dX5_work_74 (by decide) ?_
        refine s_iald K hG (t := 5) (by decide) (cv hc8 v3) (show vp_in (nI 0) 6 from vp_in_nI (by decide) (by decide)) dX5_work_75 ?_
        rw [show ((0 : Int32)).toNatClampNeg = 0 from rfl]
        refine lv_iconst (v := 2) hx hb dX5_work_76 (by decide) ?_
        refine lv_idiv hx hb dX5_work_77 (by decide) ?_
        refine s_iast K hG hS (t := 9) (by decide) (cv hc8 (show q4 < cnt (I7 5) 9 by rw [hq4, eI7, cnt_loose9 (by omega)]; omega)) (by rw [hr8, (show rln (I7 5) 9 q4 = 6 by rw [hq4, eI7, rln_loose9 (by omega)])]; exact (show vp_in (nI 1) 6 from vp_in_nI (by decide) (by decide))) dX5_work_78 (fun I9 hI9 H locs hG hS => ?_)
        rw [show ((1 : Int32)).toNatClampNeg = 1 from rfl] at hI9
        have hok := hok I9 hI9
        have hc9 : ∀ t, cnt (I9 5) t = cnt (I7 5) t := fun t => by rw [hI9, gU_at, cnt_u3 (by decide), hc8]
        have hr9 : ∀ t i, rln (I9 5) t i = rln (I7 5) t i := fun t i => by rw [hI9, gU_at, rln_u3 (by decide), hr8]
        refine lv_dup hx hb dX5_work_79 rfl ?_
        refine lv_iconst (v := 2) hx hb dX5_work_80 (by decide) ?_
        refine lv_aload_n hx hb dX5_work_81 rfl (lv_at hl 1 rfl) ?_
        refine lv_iconst (v := 2) hx hb dX5_work_82 (by decide) ?_
        refine s_iald K hG (t := 5) (by decide) (cv hc9 v3) (show vp_in (nI 2) 6 from vp_in_nI (by decide) (by decide)) dX5_work_83 ?_
        rw [show ((2 : Int32)).toNatClampNeg = 2 from rfl]
        refine s_iast K hG hS (t := 9) (by decide) (cv hc9 (show q4 < cnt (I7 5) 9 by rw [hq4, eI7, cnt_loose9 (by omega)]; omega)) (by rw [hr9, (show rln (I7 5) 9 q4 = 6 by rw [hq4, eI7, rln_loose9 (by omega)])]; exact (show vp_in (nI 2) 6 from vp_in_nI (by decide) (by decide))) dX5_work_84 (fun I10 hI10 H locs hG hS => ?_)
        rw [show ((2 : Int32)).toNatClampNeg = 2 from rfl] at hI10
        have hok := hok I10 hI10
        have hc10 : ∀ t, cnt (I10 5) t = cnt (I7 5) t := fun t => by rw [hI10, gU_at, cnt_u3 (by decide), hc9]
        have hr10 : ∀ t i, rln (I10 5) t i = rln (I7 5) t i := fun t i => by rw [hI10, gU_at, rln_u3 (by decide), hr9]
        refine lv_dup hx hb dX5_work_85 rfl ?_
        refine lv_iconst (v := 3) hx hb dX5_work_86 (by decide) ?_
        refine lv_aload_n hx hb dX5_work_87 rfl (lv_at hl 2 rfl) ?_
        refine lv_iconst (v := 3) hx hb dX5_work_88 (by decide) ?_
        refine s_iald K hG (t := 2) (by decide) (cv hc10 v1) (show vp_in (nI 3) 8 from vp_in_nI (by decide) (by decide)) dX5_work_89 ?_
        rw [show ((3 : Int32)).toNatClampNeg = 3 from rfl]
        refine s_iast K hG hS (t := 9) (by decide) (cv hc10 (show q4 < cnt (I7 5) 9 by rw [hq4, eI7, cnt_loose9 (by omega)]; omega)) (by rw [hr10, (show rln (I7 5) 9 q4 = 6 by rw [hq4, eI7, rln_loose9 (by omega)])]; exact (show vp_in (nI 3) 6 from vp_in_nI (by decide) (by decide))) dX5_work_90 (fun I11 hI11 H locs hG hS => ?_)
        rw [show ((3 : Int32)).toNatClampNeg = 3 from rfl] at hI11
        have hok := hok I11 hI11
        have hc11 : ∀ t, cnt (I11 5) t = cnt (I7 5) t := fun t => by rw [hI11, gU_at, cnt_u3 (by decide), hc10]
        have hr11 : ∀ t i, rln (I11 5) t i = rln (I7 5) t i := fun t i => by rw [hI11, gU_at, rln_u3 (by decide), hr10]
        refine lv_dup hx hb dX5_work_91 rfl ?_
        refine lv_iconst (v := 4) hx hb dX5_work_92 (by decide) ?_
        refine lv_iload hx hb dX5_work_93 (lv_at hl 0 rfl) ?_
        refine lv_iconst (v := 1) hx hb dX5_work_95 (by decide) ?_
        refine lv_iadd hx hb dX5_work_96 ?_
        rw [show ((nI (cnt (I 5) 5)) : Int32) + 1 = nI ((cnt (I 5) 5) + 1) from nI_add (cnt (I 5) 5) 1]
        refine s_iast K hG hS (t := 9) (by decide) (cv hc11 (show q4 < cnt (I7 5) 9 by rw [hq4, eI7, cnt_loose9 (by omega)]; omega)) (by rw [hr11, (show rln (I7 5) 9 q4 = 6 by rw [hq4, eI7, rln_loose9 (by omega)])]; exact (show vp_in (nI 4) 6 from vp_in_nI (by decide) (by decide))) dX5_work_97 (fun I12 hI12 H locs hG hS => ?_)
        rw [show ((4 : Int32)).toNatClampNeg = 4 from rfl] at hI12
        have hok := hok I12 hI12
        have hc12 : ∀ t, cnt (I12 5) t = cnt (I7 5) t := fun t => by rw [hI12, gU_at, cnt_u3 (by decide), hc11]
        have hr12 : ∀ t i, rln (I12 5) t i = rln (I7 5) t i := fun t i => by rw [hI12, gU_at, rln_u3 (by decide), hr11]
        refine lv_dup hx hb dX5_work_98 rfl ?_
        refine lv_iconst (v := 5) hx hb dX5_work_99 (by decide) ?_
        refine lv_iconst (v := 0) hx hb dX5_work_100 (by decide) ?_
        refine s_iast K hG hS (t := 9) (by decide) (cv hc12 (show q4 < cnt (I7 5) 9 by rw [hq4, eI7, cnt_loose9 (by omega)]; omega)) (by rw [hr12, (show rln (I7 5) 9 q4 = 6 by rw [hq4, eI7, rln_loose9 (by omega)])]; exact (show vp_in (nI 5) 6 from vp_in_nI (by decide) (by decide))) dX5_work_101 (fun I13 hI13 H locs hG hS => ?_)
        rw [show ((5 : Int32)).toNatClampNeg = 5 from rfl] at hI13
        have hok := hok I13 hI13
        have hc13 : ∀ t, cnt (I13 5) t = cnt (I7 5) t := fun t => by rw [hI13, gU_at, cnt_u3 (by decide), hc12]
        have hr13 : ∀ t i, rln (I13 5) t i = rln (I7 5) t i := fun t i => by rw [hI13, gU_at, rln_u3 (by decide), hr12]
        obtain ⟨ho12, hok⟩ := hok
        have hqI14 : q4 = cnt (I13 5) 9 - 1 := by have := n9I7; have := (show q4 = cnt (I 5) 9 + 0 by rw [hq4]; exact (show cnt (I 5) 9 = cnt (I 5) 9 + 0 by have h9 := (show cnt (I 5) 9 = cnt (I 5) 9 + 0 from rfl); have h8 := (show ∀ t, cnt (I 5) t = cnt (I 5) t from fun _ => rfl) 9; omega)); have := hc13 9; omega
        have h9I14 : 0 < cnt (I13 5) 9 := by have := n9I7; have := hc13 9; omega
        have hMI14 : cnt (I13 5) 5 < 330 := by rw [hc13]; exact ho12
        refine s_more K hAO hA hml hG hS (t := 5) (by decide) hqI14 h9I14 (by rw [hc13]; exact ho12) (fun _ => by rw [← hqI14, hr13, (show rln (I7 5) 9 q4 = 6 by rw [hq4, eI7, rln_loose9 (by omega)])]; rfl) hl.1 (Nat.le_of_ble_eq_true rfl) ⟨by decide, by decide⟩ ⟨(Nat.le_of_ble_eq_true rfl), (Nat.le_of_ble_eq_true rfl)⟩ q676 rfl (by decide +kernel) dX5_work_102 dX5_work_105 (fun a5 D5 hD5 I14 hI14 H locs hG hS => ?_)
        have eI14 : I14 5 = pMore (I13 5) 5 := by rw [hI14, gset_at]
        have hok := hok I14 hI14
        have v5 : k < cnt (I14 5) 2 := by rw [eI14]; exact Nat.lt_of_lt_of_le (cv hc13 v1) (cnt_more_ge (by decide) (by decide) hMI14)
        have v6 : k < cnt (I14 5) 3 := by rw [eI14]; exact Nat.lt_of_lt_of_le (cv hc13 v2) (cnt_more_ge (by decide) (by decide) hMI14)
        have v7 : (I 5 2 k 3).toNatClampNeg < cnt (I14 5) 5 := by rw [eI14]; exact Nat.lt_of_lt_of_le (cv hc13 v3) (cnt_more_ge (by decide) (by decide) hMI14)
        have n9I14 : cnt (I14 5) 9 = cnt (I 5) 9 + 0 := by have h9 := n9I7; have h8 := hc13 9; rw [eI14, cnt_more9 h9I14 (by decide)] <;> omega
        have kd8 : sKD D D5 (cnt (I 5) 9) := ⟨(show D5 0 0 = D4 0 0 by rw [hD5]; rfl).trans kd4.1, fun i hi => by rw [hD5, u2_eq, if_neg (by omega), u2_eq, if_neg (by omega)] <;> exact kd4.2 i hi⟩
        rw [← show D5 5 ((I 5 2 k 3).toNatClampNeg) = D4 5 ((I 5 2 k 3).toNatClampNeg) from (by have := (cv hc13 v3); rw [hD5, u2_eq, if_neg (by have := (cv hc13 v3); omega), u2_eq, if_neg (by omega)])] at hl
        rw [← show D5 2 k = D4 2 k from (by rw [hD5, u2_eq, if_neg (by omega), u2_eq, if_neg (by omega)])] at hl
        rw [← show D5 0 0 = D4 0 0 from (by rw [hD5, u2_eq, if_neg (by omega), u2_eq, if_neg (by omega)])] at hl
        refine lv_aload_n hx hb dX5_work_108 rfl (lv_at hl 3 rfl) ?_
        refine lv_aload_n hx hb dX5_work_109 rfl (lv_at hl 3 rfl) ?_
        refine sg_X5_25 K hG dX5_work_110 ?_
        refine lv_bipush (v := 6) hx hb dX5_work_113 (by decide) ?_
        obtain ⟨ho13, hok⟩ := hok
        have h9I15 : cnt (I14 5) 9 < 329 := by rw [(show ∀ t, cnt (I14 5) t = cnt (I14 5) t from fun _ => rfl)]; exact ho13
        obtain ⟨q6, hq6⟩ : ∃ z, z = cnt (I14 5) 9 := ⟨_, rfl⟩
        have hok := hok q6 hq6
        refine s_newi (N := 6) K hG hS rfl (by decide) (by omega) (Nat.le_of_ble_eq_true rfl) (Nat.le_of_ble_eq_true rfl) dX5_work_115 (fun a6 D6 hD6 I15 hI15 H hG hS => ?_)
        rw [← hq6]
        have eI15 : I15 5 = pLoose (I14 5) 6 (fun _ => 0) := by rw [hI15, gset_at]
        have hok := hok I15 hI15
        have v9 : k < cnt (I15 5) 2 := by rw [eI15, cnt_loose (by decide)]; exact cv (show ∀ t, cnt (I14 5) t = cnt (I14 5) t from fun _ => rfl) v5
        have v10 : k < cnt (I15 5) 3 := by rw [eI15, cnt_loose (by decide)]; exact cv (show ∀ t, cnt (I14 5) t = cnt (I14 5) t from fun _ => rfl) v6
        have v11 : (I 5 2 k 3).toNatClampNeg < cnt (I15 5) 5 := by rw [eI15, cnt_loose (by decide)]; exact cv (show ∀ t, cnt (I14 5) t = cnt (I14 5) t from fun _ => rfl) v7
        have n9I15 : cnt (I15 5) 9 = cnt (I 5) 9 + 1 := by have h9 := n9I14; have h8 := (show ∀ t, cnt (I14 5) t = cnt (I14 5) t from fun _ => rfl) 9; rw [eI15, cnt_loose9 (by omega)] <;> omega
        have kd12 : sKD D D6 (cnt (I 5) 9) := ⟨(show D6 0 0 = D5 0 0 by rw [hD6]; rfl).trans kd8.1, fun i hi => by rw [hD6, u2_eq, if_neg (by have := n9I15; omega)] <;> exact kd8.2 i hi⟩
        conv in F0 _ _ _ _ => rw [← show D6 0 0 = D5 0 0 from (by rw [hD6]; rfl)]
        conv in F0 _ _ _ _ => rw [← show D6 1 5 = D5 1 5 from (by rw [hD6]; rfl)]
        rw [← show D6 5 ((I 5 2 k 3).toNatClampNeg) = D5 5 ((I 5 2 k 3).toNatClampNeg) from (by rw [hD6]; rfl)] at hl
        rw [← show D6 2 k = D5 2 k from (by rw [hD6]; rfl)] at hl
        rw [← show D6 0 0 = D5 0 0 from (by rw [hD6]; rfl)] at hl
        refine lv_dup hx hb dX5_work_117 rfl ?_
        refine lv_iconst (v := 0) hx hb dX5_work_118 (by decide) ?_
        refine lv_aload_n hx hb dX5_work_119 rfl (lv_at hl 1 rfl) ?_
        refine lv_iconst (v := 0) hx hb dX5_work_120 (by decide) ?_
        refine s_iald K hG (t := 5) (by decide) (cv (show ∀ t, cnt (I15 5) t = cnt (I15 5) t from fun _ => rfl) v11) (show vp_in (nI 0) 6 from vp_in_nI (by decide) (by decide)) dX5_work_121 ?_
        rw [show ((0 : Int32)).toNatClampNeg = 0 from rfl]
        refine lv_aload_n hx hb dX5_work_122 rfl (lv_at hl 1 rfl) ?_
        refine lv_iconst (v := 0) hx hb dX5_work_123 (by decide) ?_
        refine s_iald K hG (t := 5) (by decide) (cv (show ∀ t, cnt (I15 5) t = cnt (I15 5) t from fun _ => rfl) v11) (show vp_in (nI 0) 6 from vp_in_nI (by decide) (by decide)) dX5_work_124 ?_
        rw [show ((0 : Int32)).toNatClampNeg = 0 from rfl]
        refine lv_iconst (v := 2) hx hb dX5_work_125 (by decide) ?_
        refine lv_idiv hx hb dX5_work_126 (by decide) ?_
        refine lv_isub hx hb dX5_work_127 ?_
        refine s_iast K hG hS (t := 9) (by decide) (cv (show ∀ t, cnt (I15 5) t = cnt (I15 5) t from fun _ => rfl) (show q6 < cnt (I15 5) 9 by rw [hq6, eI15, cnt_loose9 (by omega)]; omega)) (by rw [(show ∀ t i, rln (I15 5) t i = rln (I15 5) t i from fun _ _ => rfl), (show rln (I15 5) 9 q6 = 6 by rw [hq6, eI15, rln_loose9 (by omega)])]; exact (show vp_in (nI 0) 6 from vp_in_nI (by decide) (by decide))) dX5_work_128 (fun I16 hI16 H locs hG hS => ?_)
        rw [show ((0 : Int32)).toNatClampNeg = 0 from rfl] at hI16
        have hok := hok I16 hI16
        have hc16 : ∀ t, cnt (I16 5) t = cnt (I15 5) t := fun t => by rw [hI16, gU_at, cnt_u3 (by decide), (show ∀ t, cnt (I15 5) t = cnt (I15 5) t from fun _ => rfl)]
        have hr16 : ∀ t i, rln (I16 5) t i = rln (I15 5) t i := fun t i => by rw [hI16, gU_at, rln_u3 (by decide), (show ∀ t i, rln (I15 5) t i = rln (I15 5) t i from fun _ _ => rfl)]
        refine lv_dup hx hb dX5_work_129 rfl ?_
        refine lv_iconst (v := 1) hx hb dX5_work_130 (by decide) ?_
        refine lv_aload_n hx hb dX5_work_131 rfl (lv_at hl 1 rfl) ?_
        refine lv_iconst (v := 0) hx hb dX5_work_132 (by decide) ?_
        refine s_iald K hG (t := 5) (by decide) (cv hc16 v11) (show vp_in (nI 0) 6 from vp_in_nI (by decide) (by decide)) dX5_work_133 ?_
        rw [show ((0 : Int32)).toNatClampNeg = 0 from rfl]
        refine lv_aload_n hx hb dX5_work_134 rfl (lv_at hl 1 rfl) ?_
        refine lv_iconst (v := 0) hx hb dX5_work_135 (by decide) ?_
        refine s_iald K hG (t := 5) (by decide) (cv hc16 v11) (show vp_in (nI 0) 6 from vp_in_nI (by decide) (by decide)) dX5_work_136 ?_
        rw [show ((0 : Int32)).toNatClampNeg = 0 from rfl]
        refine lv_iconst (v := 2) hx hb dX5_work_137 (by decide) ?_
        refine lv_idiv hx hb dX5_work_138 (by decide) ?_
        refine lv_isub hx hb dX5_work_139 ?_
        refine s_iast K hG hS (t := 9) (by decide) (cv hc16 (show q6 < cnt (I15 5) 9 by rw [hq6, eI15, cnt_loose9 (by omega)]; omega)) (by rw [hr16, (show rln (I15 5) 9 q6 = 6 by rw [hq6, eI15, rln_loose9 (by omega)])]; exact (show vp_in (nI 1) 6 from vp_in_nI (by decide) (by decide))) dX5_work_140 (fun I17 hI17 H locs hG hS => ?_)
        rw [show ((1 : Int32)).toNatClampNeg = 1 from rfl] at hI17
        have hok := hok I17 hI17
        have hc17 : ∀ t, cnt (I17 5) t = cnt (I15 5) t := fun t => by rw [hI17, gU_at, cnt_u3 (by decide), hc16]
        have hr17 : ∀ t i, rln (I17 5) t i = rln (I15 5) t i := fun t i => by rw [hI17, gU_at, rln_u3 (by decide), hr16]
        refine lv_dup hx hb dX5_work_141 rfl ?_
        refine lv_iconst (v := 2) hx hb dX5_work_142 (by decide) ?_
        refine lv_aload_n hx hb dX5_work_143 rfl (lv_at hl 1 rfl) ?_
        refine lv_iconst (v := 2) hx hb dX5_work_144 (by decide) ?_
        refine s_iald K hG (t := 5) (by decide) (cv hc17 v11) (show vp_in (nI 2) 6 from vp_in_nI (by decide) (by decide)) dX5_work_145 ?_
        rw [show ((2 : Int32)).toNatClampNeg = 2 from rfl]
        refine s_iast K hG hS (t := 9) (by decide) (cv hc17 (show q6 < cnt (I15 5) 9 by rw [hq6, eI15, cnt_loose9 (by omega)]; omega)) (by rw [hr17, (show rln (I15 5) 9 q6 = 6 by rw [hq6, eI15, rln_loose9 (by omega)])]; exact (show vp_in (nI 2) 6 from vp_in_nI (by decide) (by decide))) dX5_work_146 (fun I18 hI18 H locs hG hS => ?_)
        rw [show ((2 : Int32)).toNatClampNeg = 2 from rfl] at hI18
        have hok := hok I18 hI18
        have hc18 : ∀ t, cnt (I18 5) t = cnt (I15 5) t := fun t => by rw [hI18, gU_at, cnt_u3 (by decide), hc17]
        have hr18 : ∀ t i, rln (I18 5) t i = rln (I15 5) t i := fun t i => by rw [hI18, gU_at, rln_u3 (by decide), hr17]
        refine lv_dup hx hb dX5_work_147 rfl ?_
        refine lv_iconst (v := 3) hx hb dX5_work_148 (by decide) ?_
        refine lv_aload_n hx hb dX5_work_149 rfl (lv_at hl 2 rfl) ?_
        refine lv_iconst (v := 3) hx hb dX5_work_150 (by decide) ?_
        refine s_iald K hG (t := 2) (by decide) (cv hc18 v9) (show vp_in (nI 3) 8 from vp_in_nI (by decide) (by decide)) dX5_work_151 ?_
        rw [show ((3 : Int32)).toNatClampNeg = 3 from rfl]
        refine s_iast K hG hS (t := 9) (by decide) (cv hc18 (show q6 < cnt (I15 5) 9 by rw [hq6, eI15, cnt_loose9 (by omega)]; omega)) (by rw [hr18, (show rln (I15 5) 9 q6 = 6 by rw [hq6, eI15, rln_loose9 (by omega)])]; exact (show vp_in (nI 3) 6 from vp_in_nI (by decide) (by decide))) dX5_work_152 (fun I19 hI19 H locs hG hS => ?_)
        rw [show ((3 : Int32)).toNatClampNeg = 3 from rfl] at hI19
        have hok := hok I19 hI19
        have hc19 : ∀ t, cnt (I19 5) t = cnt (I15 5) t := fun t => by rw [hI19, gU_at, cnt_u3 (by decide), hc18]
        have hr19 : ∀ t i, rln (I19 5) t i = rln (I15 5) t i := fun t i => by rw [hI19, gU_at, rln_u3 (by decide), hr18]
        refine lv_dup hx hb dX5_work_153 rfl ?_
        refine lv_iconst (v := 4) hx hb dX5_work_154 (by decide) ?_
        refine lv_iload hx hb dX5_work_155 (lv_at hl 0 rfl) ?_
        refine s_iast K hG hS (t := 9) (by decide) (cv hc19 (show q6 < cnt (I15 5) 9 by rw [hq6, eI15, cnt_loose9 (by omega)]; omega)) (by rw [hr19, (show rln (I15 5) 9 q6 = 6 by rw [hq6, eI15, rln_loose9 (by omega)])]; exact (show vp_in (nI 4) 6 from vp_in_nI (by decide) (by decide))) dX5_work_157 (fun I20 hI20 H locs hG hS => ?_)
        rw [show ((4 : Int32)).toNatClampNeg = 4 from rfl] at hI20
        have hok := hok I20 hI20
        have hc20 : ∀ t, cnt (I20 5) t = cnt (I15 5) t := fun t => by rw [hI20, gU_at, cnt_u3 (by decide), hc19]
        have hr20 : ∀ t i, rln (I20 5) t i = rln (I15 5) t i := fun t i => by rw [hI20, gU_at, rln_u3 (by decide), hr19]
        refine lv_dup hx hb dX5_work_158 rfl ?_
        refine lv_iconst (v := 5) hx hb dX5_work_159 (by decide) ?_
        refine lv_iconst (v := 0) hx hb dX5_work_160 (by decide) ?_
        refine s_iast K hG hS (t := 9) (by decide) (cv hc20 (show q6 < cnt (I15 5) 9 by rw [hq6, eI15, cnt_loose9 (by omega)]; omega)) (by rw [hr20, (show rln (I15 5) 9 q6 = 6 by rw [hq6, eI15, rln_loose9 (by omega)])]; exact (show vp_in (nI 5) 6 from vp_in_nI (by decide) (by decide))) dX5_work_161 (fun I21 hI21 H locs hG hS => ?_)
        rw [show ((5 : Int32)).toNatClampNeg = 5 from rfl] at hI21
        have hok := hok I21 hI21
        have hc21 : ∀ t, cnt (I21 5) t = cnt (I15 5) t := fun t => by rw [hI21, gU_at, cnt_u3 (by decide), hc20]
        have hr21 : ∀ t i, rln (I21 5) t i = rln (I15 5) t i := fun t i => by rw [hI21, gU_at, rln_u3 (by decide), hr20]
        obtain ⟨ho14, hok⟩ := hok
        have hqI22 : q6 = cnt (I21 5) 9 - 1 := by have := n9I15; have := (show q6 = cnt (I 5) 9 + 0 by rw [hq6]; exact (show cnt (I14 5) 9 = cnt (I 5) 9 + 0 by have h9 := n9I14; have h8 := (show ∀ t, cnt (I14 5) t = cnt (I14 5) t from fun _ => rfl) 9; omega)); have := hc21 9; omega
        have h9I22 : 0 < cnt (I21 5) 9 := by have := n9I15; have := hc21 9; omega
        have hMI22 : cnt (I21 5) 5 < 330 := by rw [hc21]; exact ho14
        refine s_more K hAO hA hml hG hS (t := 5) (by decide) hqI22 h9I22 (by rw [hc21]; exact ho14) (fun _ => by rw [← hqI22, hr21, (show rln (I15 5) 9 q6 = 6 by rw [hq6, eI15, rln_loose9 (by omega)])]; rfl) hl.1 (Nat.le_of_ble_eq_true rfl) ⟨by decide, by decide⟩ ⟨(Nat.le_of_ble_eq_true rfl), (Nat.le_of_ble_eq_true rfl)⟩ q676 rfl (by decide +kernel) dX5_work_162 dX5_work_165 (fun a7 D7 hD7 I22 hI22 H locs hG hS => ?_)
        have eI22 : I22 5 = pMore (I21 5) 5 := by rw [hI22, gset_at]
        have hok := hok I22 hI22
        have v13 : k < cnt (I22 5) 2 := by rw [eI22]; exact Nat.lt_of_lt_of_le (cv hc21 v9) (cnt_more_ge (by decide) (by decide) hMI22)
        have v14 : k < cnt (I22 5) 3 := by rw [eI22]; exact Nat.lt_of_lt_of_le (cv hc21 v10) (cnt_more_ge (by decide) (by decide) hMI22)
        have v15 : (I 5 2 k 3).toNatClampNeg < cnt (I22 5) 5 := by rw [eI22]; exact Nat.lt_of_lt_of_le (cv hc21 v11) (cnt_more_ge (by decide) (by decide) hMI22)
        have n9I22 : cnt (I22 5) 9 = cnt (I 5) 9 + 0 := by have h9 := n9I15; have h8 := hc21 9; rw [eI22, cnt_more9 h9I22 (by decide)] <;> omega
        have kd16 : sKD D D7 (cnt (I 5) 9) := ⟨(show D7 0 0 = D6 0 0 by rw [hD7]; rfl).trans kd12.1, fun i hi => by rw [hD7, u2_eq, if_neg (by omega), u2_eq, if_neg (by omega)] <;> exact kd12.2 i hi⟩
        rw [← show D7 5 ((I 5 2 k 3).toNatClampNeg) = D6 5 ((I 5 2 k 3).toNatClampNeg) from (by have := (cv hc21 v11); rw [hD7, u2_eq, if_neg (by have := (cv hc21 v11); omega), u2_eq, if_neg (by omega)])] at hl
        rw [← show D7 2 k = D6 2 k from (by rw [hD7, u2_eq, if_neg (by omega), u2_eq, if_neg (by omega)])] at hl
        rw [← show D7 0 0 = D6 0 0 from (by rw [hD7, u2_eq, if_neg (by omega), u2_eq, if_neg (by omega)])] at hl
        refine lv_aload_n hx hb dX5_work_168 rfl (lv_at hl 3 rfl) ?_
        refine sg_X5_19 K hG dX5_work_169 ?_
        refine lv_iload_n hx hb dX5_work_172 rfl (lv_at hl 4 rfl) ?_
        refine s_aald K hG (t := 3) (by decide) (vp_in_nI (cv (show ∀ t, cnt (I22 5) t = cnt (I22 5) t from fun _ => rfl) v14) (by have := hG.b.cl 3; omega)) dX5_work_173 ?_
        rw [nI_clamp (by have := hG.b.cl 2; omega)]
        refine s_alen K hG (t := 3) (by decide) (cv (show ∀ t, cnt (I22 5) t = cnt (I22 5) t from fun _ => rfl) v14) rfl dX5_work_174 ?_
        rw [(show ∀ t i, rln (I22 5) t i = rln (I22 5) t i from fun _ _ => rfl)]
        refine lv_iconst (v := 1) hx hb dX5_work_175 (by decide) ?_
        refine lv_iadd hx hb dX5_work_176 ?_
        rw [show ((nI (rln (I22 5) 3 k)) : Int32) + 1 = nI ((rln (I22 5) 3 k) + 1) from nI_add (rln (I22 5) 3 k) 1]
        obtain ⟨ho15, hok⟩ := hok
        obtain ⟨ho16, hok⟩ := hok
        have h9I23 : cnt (I22 5) 9 < 329 := by rw [(show ∀ t, cnt (I22 5) t = cnt (I22 5) t from fun _ => rfl)]; exact ho15
        obtain ⟨q8, hq8⟩ : ∃ z, z = cnt (I22 5) 9 := ⟨_, rfl⟩
        have hok := hok q8 hq8
        refine s_newi (N := ((rln (I22 5) 3 k) + 1)) K hG hS rfl ho16 (by omega) (Nat.le_of_ble_eq_true rfl) (by show 672 + ((rln (I22 5) 3 k) + 1) ≤ 1020; omega) dX5_work_177 (fun a8 D8 hD8 I23 hI23 H hG hS => ?_)
        rw [← hq8]
        have eI23 : I23 5 = pLoose (I22 5) ((rln (I22 5) 3 k) + 1) (fun _ => 0) := by rw [hI23, gset_at]
        refine W.widen (k := 5) (n := 1002) (by omega) (by have := ho16; omega) ?_
        have hok := hok I23 hI23
        have v17 : k < cnt (I23 5) 2 := by rw [eI23, cnt_loose (by decide)]; exact cv (show ∀ t, cnt (I22 5) t = cnt (I22 5) t from fun _ => rfl) v13
        have v18 : k < cnt (I23 5) 3 := by rw [eI23, cnt_loose (by decide)]; exact cv (show ∀ t, cnt (I22 5) t = cnt (I22 5) t from fun _ => rfl) v14
        have v19 : (I 5 2 k 3).toNatClampNeg < cnt (I23 5) 5 := by rw [eI23, cnt_loose (by decide)]; exact cv (show ∀ t, cnt (I22 5) t = cnt (I22 5) t from fun _ => rfl) v15
        have n9I23 : cnt (I23 5) 9 = cnt (I 5) 9 + 1 := by have h9 := n9I22; have h8 := (show ∀ t, cnt (I22 5) t = cnt (I22 5) t from fun _ => rfl) 9; rw [eI23, cnt_loose9 (by omega)] <;> omega
        have kd20 : sKD D D8 (cnt (I 5) 9) := ⟨(show D8 0 0 = D7 0 0 by rw [hD8]; rfl).trans kd16.1, fun i hi => by rw [hD8, u2_eq, if_neg (by have := n9I23; omega)] <;> exact kd16.2 i hi⟩
        rw [← show D8 5 ((I 5 2 k 3).toNatClampNeg) = D7 5 ((I 5 2 k 3).toNatClampNeg) from (by rw [hD8]; rfl)] at hl
        rw [← show D8 2 k = D7 2 k from (by rw [hD8]; rfl)] at hl
        rw [← show D8 0 0 = D7 0 0 from (by rw [hD8]; rfl)] at hl
        refine lv_astore (lv' := [(5, .ref (D8 9 q8)), (4, .int (nI (cnt (I 5) 5))), (3, .ref (D8 5 ((I 5 2 k 3).toNatClampNeg))), (2, .ref (D8 2 k)), (0, .ref (D8 0 0)), (1, .int (nI k))]) hx hb dX5_work_179 hl (by decide) rfl (fun ls hl => ?_)
        have hrl := hG.b.rl 3 k
        rw [(show ∀ t i, rln (I23 5) t i = rln (I23 5) t i from fun _ _ => rfl)] at hrl
        have hrk : rln (I23 5) 3 k = rln (I22 5) 3 k := by rw [eI23, rln_loose (by omega)]
        refine lv_aload hx hb dX5_work_181 (lv_at hl 0 rfl) ?_
        refine lv_iconst (v := 0) hx hb dX5_work_183 (by decide) ?_
        refine lv_iload hx hb dX5_work_184 (lv_at hl 1 rfl) ?_
        refine lv_iconst (v := 1) hx hb dX5_work_186 (by decide) ?_
        refine lv_iadd hx hb dX5_work_187 ?_
        rw [show ((nI (cnt (I 5) 5)) : Int32) + 1 = nI ((cnt (I 5) 5) + 1) from nI_add (cnt (I 5) 5) 1]
        refine s_iast K hG hS (t := 9) (by decide) (cv (show ∀ t, cnt (I23 5) t = cnt (I23 5) t from fun _ => rfl) (show q8 < cnt (I23 5) 9 by rw [hq8, eI23, cnt_loose9 (by omega)]; omega)) (by rw [(show ∀ t i, rln (I23 5) t i = rln (I23 5) t i from fun _ _ => rfl), (show rln (I23 5) 9 q8 = ((rln (I22 5) 3 k) + 1) by rw [hq8, eI23, rln_loose9 (by omega)])]; exact gin0 (by omega) (by omega)) dX5_work_188 (fun I24 hI24 H locs hG hS => ?_)
        rw [show ((0 : Int32)).toNatClampNeg = 0 from rfl] at hI24
        have hok := hok I24 hI24
        have hc24 : ∀ t, cnt (I24 5) t = cnt (I23 5) t := fun t => by rw [hI24, gU_at, cnt_u3 (by decide), (show ∀ t, cnt (I23 5) t = cnt (I23 5) t from fun _ => rfl)]
        have hr24 : ∀ t i, rln (I24 5) t i = rln (I23 5) t i := fun t i => by rw [hI24, gU_at, rln_u3 (by decide), (show ∀ t i, rln (I23 5) t i = rln (I23 5) t i from fun _ _ => rfl)]
        refine lv_iconst (v := 1) hx hb dX5_work_189 (by decide) ?_
        refine lv_istore (lv' := [(6, .int 1), (5, .ref (D8 9 q8)), (4, .int (nI (cnt (I 5) 5))), (3, .ref (D8 5 ((I 5 2 k 3).toNatClampNeg))), (2, .ref (D8 2 k)), (0, .ref (D8 0 0)), (1, .int (nI k))]) hx hb dX5_work_190 hl (by decide) rfl (fun ls hl => ?_)
        obtain ⟨ho17, hok⟩ := hok
        obtain ⟨I26, hI26⟩ : ∃ z, z = (f_S_work_l1 k q8 (((rln (I22 5) 3 k) + 1) - 1) 1 I24) := ⟨_, rfl⟩
        have hL_l1 : (∀ (H : Heap) (locs : List Loc) (ls : Array Slot), LW E F J D8 I26 H → (∀ t, cnt (I26 5) t = cnt (I23 5) t) → (∀ t i, rln (I26 5) t i = rln (I23 5) t i) → va_S F s.heap H locs → lv_has ls 7 [(5, .ref (D8 9 q8)), (4, .int (nI (cnt (I 5) 5))), (2, .ref (D8 2 k)), (0, .ref (D8 0 0)), (1, .int (nI k))] → W p l e (rmc 1 6 1020 30) s m ([.ref (D 0 0), .int (nI k)] : List Value).toArray below meth c0 H locs 5 1002 (MQ below (sQv E F J D I (f_S_work I k)) ([.ref (D 0 0), .int (nI k)] : List Value).toArray s 6 1020 F) (F0 m 222 ls [])) → ∀ (n i : Nat)  (I25 : gI) (H : Heap) (locs : List Loc) (ls : Array Slot), 1 ≤ i ∧ i + n = ((rln (I22 5) 3 k) + 1) → f_S_work_l1 k q8 n i I25 = I26 → ok_f_S_work_l1 k q8 n i I25 → (∀ t, cnt (I25 5) t = cnt (I23 5) t) → (∀ t i, rln (I25 5) t i = rln (I23 5) t i) → LW E F J D8 I25 H → va_S F s.heap H locs → lv_has ls 7 [(6, .int (nI i)), (5, .ref (D8 9 q8)), (4, .int (nI (cnt (I 5) 5))), (2, .ref (D8 2 k)), (0, .ref (D8 0 0)), (1, .int (nI k))] → W p l e (rmc 1 6 1020 30) s m ([.ref (D 0 0), .int (nI k)] : List Value).toArray below meth c0 H locs 5 1002 (MQ below (sQv E F J D I (f_S_work I k)) ([.ref (D 0 0), .int (nI k)] : List Value).toArray s 6 1020 F) (F0 m 192 ls []) := by
          intro hkont n
          induction n with
          | zero =>
            intro i I25 H locs ls hin hT hok hcL hrL hG hS hl
            unfold ok_f_S_work_l1 at hok
            refine lv_iload hx hb dX5_work_192 (lv_at hl 0 rfl) ?_
            refine lv_aload hx hb dX5_work_194 (lv_at hl 1 rfl) ?_
            refine s_alen K hG (t := 9) (by decide) (cv hcL (show q8 < cnt (I23 5) 9 by rw [hq8, eI23, cnt_loose9 (by omega)]; omega)) rfl dX5_work_196 ?_
            rw [hrL, (show rln (I23 5) 9 q8 = ((rln (I22 5) 3 k) + 1) by rw [hq8, eI23, rln_loose9 (by omega)])]
            refine lv_icmp_ge (tgt := 222) hx hb dX5_work_197 (by decide) (fun c18 => ?_) (fun c18 => ?_)
            · skip
              have eS : I25 = I26 := by rw [← hT]; simp only [f_S_work_l1, if_pos c18]
              rw [eS] at hG
              exact hkont _ _ _ hG (by rw [← eS]; exact hcL) (by rw [← eS]; exact hrL) hS (lv_sub hl [1, 2, 3, 4, 5] rfl)
            · exact absurd (nI_le (by omega) (by omega)) c18
          | succ n ih =>
            intro i I25 H locs ls hin hT hok hcL hrL hG hS hl
            unfold ok_f_S_work_l1 at hok
            refine lv_iload hx hb dX5_work_192 (lv_at hl 0 rfl) ?_
            refine lv_aload hx hb dX5_work_194 (lv_at hl 1 rfl) ?_
            refine s_alen K hG (t := 9) (by decide) (cv hcL (show q8 < cnt (I23 5) 9 by rw [hq8, eI23, cnt_loose9 (by omega)]; omega)) rfl dX5_work_196 ?_
            rw [hrL, (show rln (I23 5) 9 q8 = ((rln (I22 5) 3 k) + 1) by rw [hq8, eI23, rln_loose9 (by omega)])]
            refine lv_icmp_ge (tgt := 222) hx hb dX5_work_197 (by decide) (fun c19 => ?_) (fun c19 => ?_)
            · exact absurd c19 (nI_ge (by omega) (by omega))
            · skip
              refine lv_aload hx hb dX5_work_200 (lv_at hl 1 rfl) ?_
              refine lv_iload hx hb dX5_work_202 (lv_at hl 0 rfl) ?_
              refine lv_aload_n hx hb dX5_work_204 rfl (lv_at hl 4 rfl) ?_
              refine sg_X5_19 K hG dX5_work_205 ?_
              refine lv_iload_n hx hb dX5_work_208 rfl (lv_at hl 5 rfl) ?_
              refine s_aald K hG (t := 3) (by decide) (vp_in_nI (cv hcL v18) (by have := hG.b.cl 3; omega)) dX5_work_209 ?_
              rw [nI_clamp (by have := hG.b.cl 2; omega)]
              refine lv_iload hx hb dX5_work_210 (lv_at hl 0 rfl) ?_
              refine lv_iconst (v := 1) hx hb dX5_work_212 (by decide) ?_
              refine lv_isub hx hb dX5_work_213 ?_
              rw [zc_sub1 (by omega)]
              refine s_iald K hG (t := 3) (by decide) (cv hcL v18) (by rw [hrL]; exact vp_in_nI (by omega) (by omega)) dX5_work_214 ?_
              rw [nI_clamp (by omega)]
              refine s_iast K hG hS (t := 9) (by decide) (cv hcL (show q8 < cnt (I23 5) 9 by rw [hq8, eI23, cnt_loose9 (by omega)]; omega)) (by rw [hrL, (show rln (I23 5) 9 q8 = ((rln (I22 5) 3 k) + 1) by rw [hq8, eI23, rln_loose9 (by omega)])]; exact vp_in_nI (by omega) (by omega)) dX5_work_215 (fun I27 hI27 H locs hG hS => ?_)
              rw [nI_clamp (by have := hin; omega)] at hI27
              have hok := hok I27 hI27
              have hc27 : ∀ t, cnt (I27 5) t = cnt (I23 5) t := fun t => by rw [hI27, gU_at, cnt_u3 (by decide), hcL]
              have hr27 : ∀ t i, rln (I27 5) t i = rln (I23 5) t i := fun t i => by rw [hI27, gU_at, rln_u3 (by decide), hrL]
              refine lv_iinc (v := (nI (i + 1))) (lv' := [(6, .int (nI (i + 1))), (5, .ref (D8 9 q8)), (4, .int (nI (cnt (I 5) 5))), (2, .ref (D8 2 k)), (0, .ref (D8 0 0)), (1, .int (nI k))]) hx hb dX5_work_216 hl (k := 0) rfl (nI_add i 1) (by decide) rfl (fun ls hl => ?_)
              refine lv_goto (tgt := 192) hx hb dX5_work_219 (by decide) ?_
              exact ih (i + 1) I27 _ _ _ (by omega) (by rw [← hT]; simp only [f_S_work_l1, ← hI27, if_neg c19]) hok hc27 hr27 hG hS (lv_sub hl [0, 1, 2, 3, 4, 5] rfl)
        refine hL_l1 (fun H locs ls hG hcI26 hrI26 hS hl => ?_) (((rln (I22 5) 3 k) + 1) - 1) 1 I24 _ _ _ ⟨Nat.le_refl 1, by omega⟩ hI26.symm ho17 hc24 hr24 hG hS (lv_sub hl [0, 1, 2, 4, 5, 6] rfl)
        have hok := hok I26 hI26
        refine lv_aload_n hx hb dX5_work_222 rfl (lv_at hl 3 rfl) ?_
        refine sg_X5_19 K hG dX5_work_223 ?_
        refine lv_iload_n hx hb dX5_work_226 rfl (lv_at hl 4 rfl) ?_
        refine lv_aload hx hb dX5_work_227 (lv_at hl 0 rfl) ?_
        have hqI28 : q8 = cnt (I26 5) 9 - 1 := by have := n9I23; have := (show q8 = cnt (I 5) 9 + 0 by rw [hq8]; exact (show cnt (I22 5) 9 = cnt (I 5) 9 + 0 by have h9 := n9I22; have h8 := (show ∀ t, cnt (I22 5) t = cnt (I22 5) t from fun _ => rfl) 9; omega)); have := hcI26 9; omega
        have h9I28 : 0 < cnt (I26 5) 9 := by have := n9I23; have := hcI26 9; omega
        rw [hqI28]
        refine s_cart K hAO hG hS (vp_in_nI (cv hcI26 v18) (by have := hG.b.cl 3; omega)) h9I28 dX5_work_229 (fun D9 hD9 I28 hI28 H locs hG hS => ?_)
        rw [nI_clamp (by have := hG.b.cl 2; omega)] at hD9 hI28
        have eI28 : I28 5 = pCart (I26 5) k := by rw [hI28, gset_at]
        have hok := hok I28 hI28
        have v21 : k < cnt (I28 5) 2 := by rw [eI28, cnt_cart (by decide)]; exact cv hcI26 v17
        have v22 : k < cnt (I28 5) 3 := by rw [eI28, cnt_cart (by decide)]; exact cv hcI26 v18
        have v23 : (I 5 2 k 3).toNatClampNeg < cnt (I28 5) 5 := by rw [eI28, cnt_cart (by decide)]; exact cv hcI26 v19
        have n9I28 : cnt (I28 5) 9 = cnt (I 5) 9 + 0 := by have h9 := n9I23; have h8 := hcI26 9; rw [eI28, cnt_cart9 h9I28] <;> omega
        have kd24 : sKD D D9 (cnt (I 5) 9) := ⟨(show D9 0 0 = D8 0 0 by rw [hD9]; rfl).trans kd20.1, fun i hi => by rw [hD9, u2_eq, if_neg (by omega)] <;> exact kd20.2 i hi⟩
        rw [← show D9 9 q8 = D8 9 q8 from (by rw [hD9, u2_eq, if_neg (by omega)])] at hl
        rw [← show D9 2 k = D8 2 k from (by rw [hD9, u2_eq, if_neg (by omega)])] at hl
        rw [← show D9 0 0 = D8 0 0 from (by rw [hD9, u2_eq, if_neg (by omega)])] at hl
        refine lv_aload_n hx hb dX5_work_230 rfl (lv_at hl 2 rfl) ?_
        refine lv_iconst (v := 3) hx hb dX5_work_231 (by decide) ?_
        refine lv_iload hx hb dX5_work_232 (lv_at hl 1 rfl) ?_
        refine s_iast K hG hS (t := 2) (by decide) (cv (show ∀ t, cnt (I28 5) t = cnt (I28 5) t from fun _ => rfl) v21) (show vp_in (nI 3) 8 from vp_in_nI (by decide) (by decide)) dX5_work_234 (fun I29 hI29 H locs hG hS => ?_)
        rw [show ((3 : Int32)).toNatClampNeg = 3 from rfl] at hI29
        have hok := hok I29 hI29
        have hc29 : ∀ t, cnt (I29 5) t = cnt (I28 5) t := fun t => by rw [hI29, gU_at, cnt_u3 (by decide), (show ∀ t, cnt (I28 5) t = cnt (I28 5) t from fun _ => rfl)]
        have hr29 : ∀ t i, rln (I29 5) t i = rln (I28 5) t i := fun t i => by rw [hI29, gU_at, rln_u3 (by decide), (show ∀ t i, rln (I28 5) t i = rln (I28 5) t i from fun _ _ => rfl)]
        refine lv_aload_n hx hb dX5_work_235 rfl (lv_at hl 3 rfl) ?_
        refine lv_dup hx hb dX5_work_236 rfl ?_
        refine sg_X5_43 K hG dX5_work_237 ?_
        refine lv_iconst (v := 1) hx hb dX5_work_240 (by decide) ?_
        refine lv_iadd hx hb dX5_work_241 ?_
        refine sp_X5_43 K hG hS dX5_work_242 (fun I30 hI30 H locs hG hS => ?_)
        have hok := hok I30 hI30
        have hc30 : ∀ t, cnt (I30 5) t = cnt (I28 5) t := fun t => by rw [hI30, gU_at, cnt_u3 (by decide), hc29]
        have hr30 : ∀ t i, rln (I30 5) t i = rln (I28 5) t i := fun t i => by rw [hI30, gU_at, rln_u3 (by decide), hr29]
        have hb2 := hG.b.cl 2
        rw [hc30] at hb2
        refine lv_iconst (v := 0) hx hb dX5_work_245 (by decide) ?_
        refine lv_istore (lv' := [(6, .int 0), (5, .ref (D9 9 q8)), (4, .int (nI (cnt (I 5) 5))), (2, .ref (D9 2 k)), (0, .ref (D9 0 0)), (1, .int (nI k))]) hx hb dX5_work_246 hl (by decide) rfl (fun ls hl => ?_)
        obtain ⟨ho20, hok⟩ := hok
        obtain ⟨d31, hd31⟩ : ∃ z, z = (f_S_work_l2 k (cnt (I28 5) 2) 0 I30) := ⟨_, rfl⟩
        have hL_l2 : (∀ (H : Heap) (locs : List Loc) (ls : Array Slot), LW E F J D9 I30 H → va_S F s.heap H locs → lv_has ls 7 [(5, .ref (D9 9 q8)), (4, .int (nI (cnt (I 5) 5))), (2, .ref (D9 2 k)), (0, .ref (D9 0 0)), (1, .int (nI k)), (6, .int d31)] → W p l e (rmc 1 6 1020 30) s m ([.ref (D 0 0), .int (nI k)] : List Value).toArray below meth c0 H locs 5 1002 (MQ below (sQv E F J D I (f_S_work I k)) ([.ref (D 0 0), .int (nI k)] : List Value).toArray s 6 1020 F) (F0 m 277 ls [])) → ∀ (n i : Nat)  (H : Heap) (locs : List Loc) (ls : Array Slot), i + n = cnt (I28 5) 2 → f_S_work_l2 k n i I30 = d31 → ok_f_S_work_l2 k n i I30 → LW E F J D9 I30 H → va_S F s.heap H locs → lv_has ls 7 [(6, .int (nI i)), (5, .ref (D9 9 q8)), (4, .int (nI (cnt (I 5) 5))), (2, .ref (D9 2 k)), (0, .ref (D9 0 0)), (1, .int (nI k))] → W p l e (rmc 1 6 1020 30) s m ([.ref (D 0 0), .int (nI k)] : List Value).toArray below meth c0 H locs 5 1002 (MQ below (sQv E F J D I (f_S_work I k)) ([.ref (D 0 0), .int (nI k)] : List Value).toArray s 6 1020 F) (F0 m 248 ls []) := by
          intro hkont n
          induction n with
          | zero =>
            intro i H locs ls hin hT hok hG hS hl
            unfold ok_f_S_work_l2 at hok
            refine lv_iload hx hb dX5_work_248 (lv_at hl 0 rfl) ?_
            refine lv_aload_n hx hb dX5_work_250 rfl (lv_at hl 4 rfl) ?_
            refine sg_X5_15 K hG dX5_work_251 ?_
            refine s_alen1 K hG (t := 2) (by decide) dX5_work_254 ?_
            rw [hG.b.c 2, hc30]
            refine lv_icmp_ge (tgt := 277) hx hb dX5_work_255 (by decide) (fun c21 => ?_) (fun c21 => ?_)
            · skip
              have eV : (nI i) = d31 := by rw [← hT]; simp only [f_S_work_l2, if_pos c21]
              rw [eV] at hl
              exact hkont _ _ _ hG hS (lv_sub hl [1, 2, 3, 4, 5, 0] rfl)
            · exact absurd (nI_le (by omega) (by have := hb2; omega)) c21
          | succ n ih =>
            intro i H locs ls hin hT hok hG hS hl
            unfold ok_f_S_work_l2 at hok
            refine lv_iload hx hb dX5_work_248 (lv_at hl 0 rfl) ?_
            refine lv_aload_n hx hb dX5_work_250 rfl (lv_at hl 4 rfl) ?_
            refine sg_X5_15 K hG dX5_work_251 ?_
            refine s_alen1 K hG (t := 2) (by decide) dX5_work_254 ?_
            rw [hG.b.c 2, hc30]
            refine lv_icmp_ge (tgt := 277) hx hb dX5_work_255 (by decide) (fun c22 => ?_) (fun c22 => ?_)
            · exact absurd c22 (nI_ge (by omega) (by have := hb2; omega))
            · skip
              refine lv_aload_n hx hb dX5_work_258 rfl (lv_at hl 4 rfl) ?_
              refine sg_X5_15 K hG dX5_work_259 ?_
              refine lv_iload hx hb dX5_work_262 (lv_at hl 0 rfl) ?_
              refine s_aald K hG (t := 2) (by decide) (vp_in_nI (cv hc30 (show i < _ by omega)) (by have := hG.b.cl 2; omega)) dX5_work_264 ?_
              rw [nI_clamp (by have := hG.b.cl 2; omega)]
              refine lv_iconst (v := 2) hx hb dX5_work_265 (by decide) ?_
              refine s_iald K hG (t := 2) (by decide) (cv hc30 (show i < _ by omega)) (show vp_in (nI 2) 8 from vp_in_nI (by decide) (by decide)) dX5_work_266 ?_
              rw [show ((2 : Int32)).toNatClampNeg = 2 from rfl]
              refine lv_iconst (v := 3) hx hb dX5_work_267 (by decide) ?_
              refine lv_icmp_eq (tgt := 277) hx hb dX5_work_268 (by decide) (fun c23 => ?_) (fun c23 => ?_)
              · have hok := hok.1 c23
                have eV : (nI i) = d31 := by rw [← hT]; simp only [f_S_work_l2, if_neg c22, if_pos c23]
                rw [eV] at hl
                exact hkont _ _ _ hG hS (lv_sub hl [1, 2, 3, 4, 5, 0] rfl)
              · have hok := hok.2 c23
                refine lv_iinc (v := (nI (i + 1))) (lv' := [(6, .int (nI (i + 1))), (5, .ref (D9 9 q8)), (4, .int (nI (cnt (I 5) 5))), (2, .ref (D9 2 k)), (0, .ref (D9 0 0)), (1, .int (nI k))]) hx hb dX5_work_271 hl (k := 0) rfl (nI_add i 1) (by decide) rfl (fun ls hl => ?_)
                refine lv_goto (tgt := 248) hx hb dX5_work_274 (by decide) ?_
                exact ih (i + 1) _ _ _ (by omega) (by rw [← hT]; simp only [f_S_work_l2, if_neg c22, if_neg c23]) hok hG hS (lv_sub hl [0, 1, 2, 3, 4, 5] rfl)
        refine hL_l2 (fun H locs ls hG hS hl => ?_) (cnt (I28 5) 2) 0 _ _ _ (Nat.zero_add _) hd31.symm ho20 hG hS (lv_sub hl [0, 1, 2, 3, 4, 5] rfl)
        have hok := hok d31 hd31
        refine lv_iload hx hb dX5_work_277 (lv_at hl 5 rfl) ?_
        refine lv_aload_n hx hb dX5_work_279 rfl (lv_at hl 3 rfl) ?_
        refine sg_X5_15 K hG dX5_work_280 ?_
        refine s_alen1 K hG (t := 2) (by decide) dX5_work_283 ?_
        rw [hG.b.c 2, hc30]
        refine lv_icmp_ge (tgt := 297) hx hb dX5_work_284 (by decide) (fun c24 => ?_) (fun c24 => ?_)
        · have hok := hok.1 c24
          have eS : I30 = (f_S_work I k) := by simp only [f_S_work, ← hq4, ← hI7, ← hI8, ← hI9, ← hI10, ← hI11, ← hI12, ← hI13, ← hI14, ← hq6, ← hI15, ← hI16, ← hI17, ← hI18, ← hI19, ← hI20, ← hI21, ← hI22, ← hq8, ← hI23, ← hI24, ← hI26, ← hI28, ← hI29, ← hI30, ← hd31, if_pos c2, if_neg c5, if_neg c8, if_pos c24]
          rw [eS] at hG
          exact W.widen (k := 6) (n := 1020) (Nat.le_of_ble_eq_true rfl) (Nat.le_of_ble_eq_true rfl) (s_vret K hG kd24 hS hr hlocks dX5_work_297)
        · have hok := hok.2 c24
          refine lv_aload_n hx hb dX5_work_287 rfl (lv_at hl 3 rfl) ?_
          refine sg_X5_15 K hG dX5_work_288 ?_
          refine lv_iload hx hb dX5_work_291 (lv_at hl 5 rfl) ?_
          obtain ⟨ho25, hok⟩ := hok
          refine s_aald K hG (t := 2) (by decide) (by rw [hc30]; exact ho25) dX5_work_293 ?_
          refine lv_iconst (v := 2) hx hb dX5_work_294 (by decide) ?_
          refine lv_iconst (v := 0) hx hb dX5_work_295 (by decide) ?_
          refine s_iast K hG hS (t := 2) (by decide) (cv hc30 (vp_lt ho25)) (show vp_in (nI 2) 8 from vp_in_nI (by decide) (by decide)) dX5_work_296 (fun I32 hI32 H locs hG hS => ?_)
          rw [show ((2 : Int32)).toNatClampNeg = 2 from rfl] at hI32
          have hok := hok I32 hI32
          have hc32 : ∀ t, cnt (I32 5) t = cnt (I28 5) t := fun t => by rw [hI32, gU_at, cnt_u3 (by decide), hc30]
          have hr32 : ∀ t i, rln (I32 5) t i = rln (I28 5) t i := fun t i => by rw [hI32, gU_at, rln_u3 (by decide), hr30]
          have eS : I32 = (f_S_work I k) := by simp only [f_S_work, ← hq4, ← hI7, ← hI8, ← hI9, ← hI10, ← hI11, ← hI12, ← hI13, ← hI14, ← hq6, ← hI15, ← hI16, ← hI17, ← hI18, ← hI19, ← hI20, ← hI21, ← hI22, ← hq8, ← hI23, ← hI24, ← hI26, ← hI28, ← hI29, ← hI30, ← hd31, ← hI32, if_pos c2, if_neg c5, if_neg c8, if_neg c24]
          rw [eS] at hG
          exact W.widen (k := 6) (n := 1020) (Nat.le_of_ble_eq_true rfl) (Nat.le_of_ble_eq_true rfl) (s_vret K hG kd24 hS hr hlocks dX5_work_297)
