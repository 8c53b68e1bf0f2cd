/-! PRINTED by wip/gen21/sim.py: 71.simturn -/
def f_S_turn_l1 (k : Nat) (I : gI) : Nat → Nat → gI → gI
  | 0, i, I1 =>
    if 0 ≤ (f_S_victim I1 k) then
      let I3 := gU I1 5 2 k 2 1
      let I4 := gU I3 5 2 k 3 (I3 5 3 ((f_S_victim I1 k).toNatClampNeg) (((nI (rln (I 5) 3 ((f_S_victim I1 k).toNatClampNeg))) - 1).toNatClampNeg))
      let I5 := gset I4 5 (pLess (I4 5) ((f_S_victim I1 k).toNatClampNeg) 0)
      let I6 := gU I5 5 2 k 5 ((I5 5 2 k 5) + 1)
      let I7 := gU I6 5 2 ((f_S_victim I1 k).toNatClampNeg) 6 ((I6 5 2 ((f_S_victim I1 k).toNatClampNeg) 6) + 1)
      let I8 := gU I7 5 4 ((I7 5 5 ((I7 5 2 k 3).toNatClampNeg) 2).toNatClampNeg) 4 ((I7 5 4 ((I7 5 5 ((I7 5 2 k 3).toNatClampNeg) 2).toNatClampNeg) 4) + 1)
      let I9 := gU I8 5 0 0 6 ((I8 5 0 0 6) + 1)
      I9
    else
      let I10 := gU I1 5 2 k 7 ((I1 5 2 k 7) + 1)
      let I11 := gU I10 5 2 k 4 (((I 5 2 k 4) + 1) - ((I 5 2 k 4) + 1) / 3 * 3)
      if (I 5 2 k 4) = 2 then
        let I12 := gU I11 5 2 k 2 3
        I12
      else
        I11
  | n + 1, i, I1 =>
    if (I1 5 4 i 5) = 1 then
      f_S_turn_l1 k I n (i + 1) I1
    else
      let I13 := gU I1 5 4 i 5 1
      let I14 := gU I13 5 2 k 2 1
      let I15 := gU I14 5 2 k 3 (I14 5 4 i 1)
      I15
def ok_f_S_turn_l1 (k : Nat) (I : gI) : Nat → Nat → gI → Prop
  | 0, i, I1 =>
    ok_S_victim I1 k ∧
    ((0 ≤ (f_S_victim I1 k)) →
      ∀ I3, I3 = gU I1 5 2 k 2 1 →
      vp_in (f_S_victim I1 k) (cnt (I 5) 3) ∧
      vp_in ((nI (rln (I 5) 3 ((f_S_victim I1 k).toNatClampNeg))) - 1) (rln (I 5) 3 ((f_S_victim I1 k).toNatClampNeg)) ∧
      ∀ I4, I4 = gU I3 5 2 k 3 (I3 5 3 ((f_S_victim I1 k).toNatClampNeg) (((nI (rln (I 5) 3 ((f_S_victim I1 k).toNatClampNeg))) - 1).toNatClampNeg)) →
      0 < rln (I 5) 3 ((f_S_victim I1 k).toNatClampNeg) ∧
      cnt (I 5) 9 < 329 ∧
      (f_S_victim I1 k) = nI ((f_S_victim I1 k).toNatClampNeg) ∧
      ∀ I5, I5 = gset I4 5 (pLess (I4 5) ((f_S_victim I1 k).toNatClampNeg) 0) →
      ∀ I6, I6 = gU I5 5 2 k 5 ((I5 5 2 k 5) + 1) →
      vp_in (f_S_victim I1 k) (cnt (I5 5) 2) ∧
      ∀ I7, I7 = gU I6 5 2 ((f_S_victim I1 k).toNatClampNeg) 6 ((I6 5 2 ((f_S_victim I1 k).toNatClampNeg) 6) + 1) →
      vp_in (I7 5 2 k 3) (cnt (I5 5) 5) ∧
      vp_in (I7 5 5 ((I7 5 2 k 3).toNatClampNeg) 2) (cnt (I5 5) 4) ∧
      ∀ I8, I8 = gU I7 5 4 ((I7 5 5 ((I7 5 2 k 3).toNatClampNeg) 2).toNatClampNeg) 4 ((I7 5 4 ((I7 5 5 ((I7 5 2 k 3).toNatClampNeg) 2).toNatClampNeg) 4) + 1) →
      ∀ I9, I9 = gU I8 5 0 0 6 ((I8 5 0 0 6) + 1) →
      True) ∧
    (¬ (0 ≤ (f_S_victim I1 k)) →
      ∀ I10, I10 = gU I1 5 2 k 7 ((I1 5 2 k 7) + 1) →
      ∀ I11, I11 = gU I10 5 2 k 4 (((I 5 2 k 4) + 1) - ((I 5 2 k 4) + 1) / 3 * 3) →
      (((I 5 2 k 4) = 2) →
        ∀ I12, I12 = gU I11 5 2 k 2 3 →
        True) ∧
      (¬ ((I 5 2 k 4) = 2) →
        True))
  | n + 1, i, I1 =>
    (((I1 5 4 i 5) = 1) →
      ok_f_S_turn_l1 k I n (i + 1) I1) ∧
    (¬ ((I1 5 4 i 5) = 1) →
      ∀ I13, I13 = gU I1 5 4 i 5 1 →
      ∀ I14, I14 = gU I13 5 2 k 2 1 →
      ∀ I15, I15 = gU I14 5 2 k 3 (I14 5 4 i 1) →
      True)
def f_S_turn (I : gI) (k : Nat) : gI :=
  if (I 5 2 k 2) = 3 then
    I
  else
    let I1 := gU I 5 2 k 4 0
    if (I1 5 2 k 2) = 2 then
      let I21 := gU I1 5 0 0 8 ((I1 5 0 0 8) + 1)
      let I22 := f_S_end I21 k (I21 5 2 k 3)
      I22
    else
      if (I1 5 2 k 2) = 0 then
        if (nI (rln (I 5) 3 k)) ≤ 0 then
          if (I1 5 2 k 2) = 1 then
            let I16 := f_S_work I1 k
            I16
          else
            f_S_turn_l1 k I (cnt (I 5) 4) 0 I1
        else
          let I17 := gU I1 5 2 k 2 1
          let I18 := gU I17 5 2 k 3 (I17 5 3 k 0)
          let I19 := gset I18 5 (pLess (I18 5) k 1)
          let I20 := f_S_work I19 k
          I20
      else
        let I2 := f_S_work I1 k
        I2
def ok_S_turn (I : gI) (k : Nat) : Prop :=
  (((I 5 2 k 2) = 3) →
    True) ∧
  (¬ ((I 5 2 k 2) = 3) →
    ∀ I1, I1 = gU I 5 2 k 4 0 →
    (((I1 5 2 k 2) = 2) →
      ∀ I21, I21 = gU I1 5 0 0 8 ((I1 5 0 0 8) + 1) →
      ok_S_end I21 k (I21 5 2 k 3) ∧
      ∀ I22, I22 = f_S_end I21 k (I21 5 2 k 3) →
      True) ∧
    (¬ ((I1 5 2 k 2) = 2) →
      (((I1 5 2 k 2) = 0) →
        (((nI (rln (I 5) 3 k)) ≤ 0) →
          (((I1 5 2 k 2) = 1) →
            ok_S_work I1 k ∧
            ∀ I16, I16 = f_S_work I1 k →
            True) ∧
          (¬ ((I1 5 2 k 2) = 1) →
            ok_f_S_turn_l1 k I (cnt (I 5) 4) 0 I1)) ∧
        (¬ ((nI (rln (I 5) 3 k)) ≤ 0) →
          ∀ I17, I17 = gU I1 5 2 k 2 1 →
          vp_in 0 (rln (I 5) 3 k) ∧
          ∀ I18, I18 = gU I17 5 2 k 3 (I17 5 3 k 0) →
          0 < rln (I 5) 3 k ∧
          cnt (I 5) 9 < 329 ∧
          ∀ I19, I19 = gset I18 5 (pLess (I18 5) k 1) →
          ok_S_work I19 k ∧
          cnt (I19 5) 9 = cnt (I 5) 9 ∧
          ∀ I20, I20 = f_S_work I19 k →
          True)) ∧
      (¬ ((I1 5 2 k 2) = 0) →
        ok_S_work I1 k ∧
        ∀ I2, I2 = f_S_work I1 k →
        True)))
set_option maxHeartbeats 4000000 in
set_option maxRecDepth 100000 in
theorem m_S_turn (l : Launch) (E : gE) (F : Nat → Prop) (J : Int64) (D : sD) (I : gI) (k : Nat) (hA : ∀ q, F q → gN E ≤ q) (hk : k < cnt (I 5) 2) (hk3 : k < cnt (I 5) 3) (hd : I 5 2 k 2 = 0 ∨ I 5 2 k 2 = 1 ∨ I 5 2 k 2 = 2 ∨ I 5 2 k 2 = 3) (hok : ok_S_turn I k) : sM l E yX5_turn cX5_turn 8 none 2 8 1400 56 [.ref (D 0 0), .int (nI k)] (fun H => LW E F J D I H) (sQv E F J D I (f_S_turn I k)) F := by
  refine s_entry (lv := [(0, .ref (D 0 0)), (1, .int (nI k))]) (by decide) (Nat.le_of_ble_eq_true rfl) rfl ?_
  intro p e s m below meth c0 ls K hAO hG hS hml hr hlocks hl
  have hG : LW E F J D I s.heap := hG
  have K : kx E p m c0 cX5_turn "HayThievesLaw$Sim" _ s := K
  have hx := K.1
  have hb := K.2.1
  have hts := K.2.2.1
  have hown := K.2.2.2.1
  have hSt := K.2.2.2.2
  unfold ok_S_turn at hok
  have hb2k := hG.b.cl 2
  refine lv_aload_n hx hb dX5_turn_0 rfl (lv_at hl 0 rfl) ?_
  refine sg_X5_15 K hG dX5_turn_1 ?_
  refine lv_iload_n hx hb dX5_turn_4 rfl (lv_at hl 1 rfl) ?_
  refine s_aald K hG (t := 2) (by decide) (vp_in_nI (cv (show ∀ t, cnt (I 5) t = cnt (I 5) t from fun _ => rfl) hk) (by have := hG.b.cl 2; omega)) dX5_turn_5 ?_
  rw [nI_clamp (by have := hb2k; omega)]
  refine lv_astore_n (lv' := [(2, .ref (D 2 k)), (0, .ref (D 0 0)), (1, .int (nI k))]) hx hb dX5_turn_6 rfl hl (by decide) rfl (fun ls hl => ?_)
  refine lv_aload_n hx hb dX5_turn_7 rfl (lv_at hl 0 rfl) ?_
  refine lv_iconst (v := 2) hx hb dX5_turn_8 (by decide) ?_
  refine s_iald K hG (t := 2) (by decide) (cv (show ∀ t, cnt (I 5) t = cnt (I 5) t from fun _ => rfl) hk) (show vp_in (nI 2) 8 from vp_in_nI (by decide) (by decide)) dX5_turn_9 ?_
  rw [show ((2 : Int32)).toNatClampNeg = 2 from rfl]
  refine lv_iconst (v := 3) hx hb dX5_turn_10 (by decide) ?_
  refine lv_icmp_ne (tgt := 15) hx hb dX5_turn_11 (by decide) (fun c1 => ?_) (fun c1 => ?_)
  · have hok := hok.2 c1
    refine lv_aload_n hx hb dX5_turn_15 rfl (lv_at hl 0 rfl) ?_
    refine lv_iconst (v := 4) hx hb dX5_turn_16 (by decide) ?_
    refine s_iald K hG (t := 2) (by decide) (cv (show ∀ t, cnt (I 5) t = cnt (I 5) t from fun _ => rfl) hk) (show vp_in (nI 4) 8 from vp_in_nI (by decide) (by decide)) dX5_turn_17 ?_
    rw [show ((4 : Int32)).toNatClampNeg = 4 from rfl]
    refine lv_istore_n (lv' := [(3, .int (I 5 2 k 4)), (2, .ref (D 2 k)), (0, .ref (D 0 0)), (1, .int (nI k))]) hx hb dX5_turn_18 rfl hl (by decide) rfl (fun ls hl => ?_)
    refine lv_aload_n hx hb dX5_turn_19 rfl (lv_at hl 1 rfl) ?_
    refine lv_iconst (v := 4) hx hb dX5_turn_20 (by decide) ?_
    refine lv_iconst (v := 0) hx hb dX5_turn_21 (by decide) ?_
    refine s_iast K hG hS (t := 2) (by decide) (cv (show ∀ t, cnt (I 5) t = cnt (I 5) t from fun _ => rfl) hk) (show vp_in (nI 4) 8 from vp_in_nI (by decide) (by decide)) dX5_turn_22 (fun I1 hI1 H locs hG hS => ?_)
    rw [show ((4 : Int32)).toNatClampNeg = 4 from rfl] at hI1
    have hok := hok I1 hI1
    have hc1 : ∀ t, cnt (I1 5) t = cnt (I 5) t := fun t => by rw [hI1, gU_at, cnt_u3 (by decide), (show ∀ t, cnt (I 5) t = cnt (I 5) t from fun _ => rfl)]
    have hr1 : ∀ t i, rln (I1 5) t i = rln (I 5) t i := fun t i => by rw [hI1, gU_at, rln_u3 (by decide), (show ∀ t i, rln (I 5) t i = rln (I 5) t i from fun _ _ => rfl)]
    refine lv_aload_n hx hb dX5_turn_23 rfl (lv_at hl 1 rfl) ?_
    refine lv_iconst (v := 2) hx hb dX5_turn_24 (by decide) ?_
    refine s_iald K hG (t := 2) (by decide) (cv hc1 hk) (show vp_in (nI 2) 8 from vp_in_nI (by decide) (by decide)) dX5_turn_25 ?_
    rw [show ((2 : Int32)).toNatClampNeg = 2 from rfl]
    refine lv_iconst (v := 2) hx hb dX5_turn_26 (by decide) ?_
    refine lv_icmp_ne (tgt := 49) hx hb dX5_turn_27 (by decide) (fun c2 => ?_) (fun c2 => ?_)
    · have hok := hok.2 c2
      refine lv_aload_n hx hb dX5_turn_49 rfl (lv_at hl 1 rfl) ?_
      refine lv_iconst (v := 2) hx hb dX5_turn_50 (by decide) ?_
      refine s_iald K hG (t := 2) (by decide) (cv hc1 hk) (show vp_in (nI 2) 8 from vp_in_nI (by decide) (by decide)) dX5_turn_51 ?_
      rw [show ((2 : Int32)).toNatClampNeg = 2 from rfl]
      refine lv_if_ne (tgt := 96) hx hb dX5_turn_52 (by decide) (fun c3 => ?_) (fun c3 => ?_)
      · have hok := hok.2 c3
        refine lv_aload_n hx hb dX5_turn_96 rfl (lv_at hl 1 rfl) ?_
        refine lv_iconst (v := 2) hx hb dX5_turn_97 (by decide) ?_
        refine s_iald K hG (t := 2) (by decide) (cv hc1 hk) (show vp_in (nI 2) 8 from vp_in_nI (by decide) (by decide)) dX5_turn_98 ?_
        rw [show ((2 : Int32)).toNatClampNeg = 2 from rfl]
        refine lv_iconst (v := 1) hx hb dX5_turn_99 (by decide) ?_
        refine lv_icmp_ne (tgt := 109) hx hb dX5_turn_100 (by decide) (fun c4 => ?_) (fun c4 => ?_)
        · have e9 : I1 5 2 k 2 = I 5 2 k 2 := by rw [hI1, gU_at, u3_eq, if_neg (by omega)]
          rw [e9] at c4 c3 c2
          rcases hd with z | z | z | z
          · exact absurd z c3
          · exact absurd z c4
          · exact absurd z c2
          · exact absurd z c1
        · skip
          refine lv_aload_n hx hb dX5_turn_103 rfl (lv_at hl 2 rfl) ?_
          refine lv_iload_n hx hb dX5_turn_104 rfl (lv_at hl 3 rfl) ?_
          obtain ⟨ho5, hok⟩ := hok
          refine s_kv (s_runV (As := [.int (nI k)]) (rest := []) K hAO hA hml ca_X5_work q540 (m_S_work l E F J D I1 k hA (cv hc1 hk) (cv hc1 hk3) ho5) hG hG hS rfl rfl hl.1 (Nat.le_of_ble_eq_true rfl) ⟨by decide, by decide⟩ dX5_turn_105 ⟨Nat.le_of_ble_eq_true rfl, Nat.le_of_ble_eq_true rfl⟩) hS (fun D1 hD1 H locs hG hS => ?_)
          obtain ⟨I2, hI2⟩ : ∃ z, z = f_S_work I1 k := ⟨_, rfl⟩
          rw [← hI2] at hG
          have hok := hok I2 hI2
          have hl : lv_has ls 8 [(3, .int (I 5 2 k 4)), (0, .ref (D 0 0)), (1, .int (nI k))] := lv_sub hl [0, 2, 3] rfl
          rw [← show D1 0 0 = D 0 0 from hD1.1] at hl
          have eS : I2 = (f_S_turn I k) := by simp only [f_S_turn, ← hI1, ← hI2, if_neg c1, if_neg c2, if_neg c3, if_pos c4]
          rw [eS] at hG
          exact W.widen (k := 8) (n := 1400) (Nat.le_of_ble_eq_true rfl) (Nat.le_of_ble_eq_true rfl) (s_vret K hG ((sKD.refl D (cnt (I 5) 9)).tr hD1 (hc1 9)) hS hr hlocks dX5_turn_108)
      · have hok := hok.1 c3
        refine lv_aload_n hx hb dX5_turn_55 rfl (lv_at hl 2 rfl) ?_
        refine sg_X5_19 K hG dX5_turn_56 ?_
        refine lv_iload_n hx hb dX5_turn_59 rfl (lv_at hl 3 rfl) ?_
        refine s_aald K hG (t := 3) (by decide) (vp_in_nI (cv hc1 hk3) (by have := hG.b.cl 3; omega)) dX5_turn_60 ?_
        rw [nI_clamp (by have := hb2k; omega)]
        refine s_alen K hG (t := 3) (by decide) (cv hc1 hk3) rfl dX5_turn_61 ?_
        rw [hr1]
        refine lv_if_le (tgt := 96) hx hb dX5_turn_62 (by decide) (fun c6 => ?_) (fun c6 => ?_)
        · have hok := hok.1 c6
          refine lv_aload_n hx hb dX5_turn_96 rfl (lv_at hl 1 rfl) ?_
          refine lv_iconst (v := 2) hx hb dX5_turn_97 (by decide) ?_
          refine s_iald K hG (t := 2) (by decide) (cv hc1 hk) (show vp_in (nI 2) 8 from vp_in_nI (by decide) (by decide)) dX5_turn_98 ?_
          rw [show ((2 : Int32)).toNatClampNeg = 2 from rfl]
          refine lv_iconst (v := 1) hx hb dX5_turn_99 (by decide) ?_
          refine lv_icmp_ne (tgt := 109) hx hb dX5_turn_100 (by decide) (fun c7 => ?_) (fun c7 => ?_)
          · have hok := hok.2 c7
            refine lv_aload_n hx hb dX5_turn_109 rfl (lv_at hl 2 rfl) ?_
            refine sg_X5_22 K hG dX5_turn_110 ?_
            refine lv_astore (lv' := [(4, .ref (D 1 4)), (3, .int (I 5 2 k 4)), (2, .ref (D 2 k)), (0, .ref (D 0 0)), (1, .int (nI k))]) hx hb dX5_turn_113 hl (by decide) rfl (fun ls hl => ?_)
            refine lv_aload hx hb dX5_turn_115 (lv_at hl 0 rfl) ?_
            refine s_alen1 K hG (t := 4) (by decide) dX5_turn_117 ?_
            rw [hG.b.c 4, hc1]
            refine lv_istore (lv' := [(5, .int (nI (cnt (I 5) 4))), (4, .ref (D 1 4)), (3, .int (I 5 2 k 4)), (2, .ref (D 2 k)), (0, .ref (D 0 0)), (1, .int (nI k))]) hx hb dX5_turn_118 hl (by decide) rfl (fun ls hl => ?_)
            have hb4 := hG.b.cl 4
            rw [hc1] at hb4
            refine lv_iconst (v := 0) hx hb dX5_turn_120 (by decide) ?_
            refine lv_istore (lv' := [(6, .int 0), (5, .int (nI (cnt (I 5) 4))), (4, .ref (D 1 4)), (3, .int (I 5 2 k 4)), (2, .ref (D 2 k)), (0, .ref (D 0 0)), (1, .int (nI k))]) hx hb dX5_turn_121 hl (by decide) rfl (fun ls hl => ?_)
            have hL : ∀ (n i : Nat)  (H : Heap) (locs : List Loc) (ls : Array Slot), i + n = cnt (I 5) 4 → f_S_turn_l1 k I n i I1 = (f_S_turn I k) → ok_f_S_turn_l1 k I n i I1 → LW E F J D I1 H → va_S F s.heap H locs → lv_has ls 8 [(6, .int (nI i)), (5, .int (nI (cnt (I 5) 4))), (4, .ref (D 1 4)), (3, .int (I 5 2 k 4)), (2, .ref (D 2 k)), (0, .ref (D 0 0)), (1, .int (nI k))] → W p l e (rmc 2 8 1400 56) s m ([.ref (D 0 0), .int (nI k)] : List Value).toArray below meth c0 H locs 0 0 (MQ below (sQv E F J D I (f_S_turn I k)) ([.ref (D 0 0), .int (nI k)] : List Value).toArray s 8 1400 F) (F0 m 123 ls []) := by
              intro n
              induction n with
              | zero =>
                intro i H locs ls hin hT hok hG hS hl
                unfold ok_f_S_turn_l1 at hok
                refine lv_iload hx hb dX5_turn_123 (lv_at hl 0 rfl) ?_
                refine lv_iload hx hb dX5_turn_125 (lv_at hl 1 rfl) ?_
                refine lv_icmp_ge (tgt := 171) hx hb dX5_turn_127 (by decide) (fun c8 => ?_) (fun c8 => ?_)
                · skip
                  refine lv_aload_n hx hb dX5_turn_171 rfl (lv_at hl 5 rfl) ?_
                  refine lv_iload_n hx hb dX5_turn_172 rfl (lv_at hl 6 rfl) ?_
                  obtain ⟨ho9, hok⟩ := hok
                  refine s_ki (s_runV (As := [.int (nI k)]) (rest := []) K hAO hA hml ca_X5_victim q552 (m_S_victim l E F J D I1 k hA (cv hc1 hk) ho9) hG hG hS rfl rfl hl.1 (Nat.le_of_ble_eq_true rfl) ⟨by decide, by decide⟩ dX5_turn_173 ⟨Nat.le_of_ble_eq_true rfl, Nat.le_of_ble_eq_true rfl⟩) hS (fun H locs hG hS => ?_)
                  refine lv_istore (lv' := [(4, .int (f_S_victim I1 k)), (6, .int (nI i)), (5, .int (nI (cnt (I 5) 4))), (3, .int (I 5 2 k 4)), (2, .ref (D 2 k)), (0, .ref (D 0 0)), (1, .int (nI k))]) hx hb dX5_turn_176 hl (by decide) rfl (fun ls hl => ?_)
                  refine lv_iload hx hb dX5_turn_178 (lv_at hl 0 rfl) ?_
                  refine lv_if_ge (tgt := 209) hx hb dX5_turn_180 (by decide) (fun c10 => ?_) (fun c10 => ?_)
                  · have hok := hok.1 c10
                    refine lv_aload_n hx hb dX5_turn_209 rfl (lv_at hl 4 rfl) ?_
                    refine lv_iconst (v := 2) hx hb dX5_turn_210 (by decide) ?_
                    refine lv_iconst (v := 1) hx hb dX5_turn_211 (by decide) ?_
                    refine s_iast K hG hS (t := 2) (by decide) (cv hc1 hk) (show vp_in (nI 2) 8 from vp_in_nI (by decide) (by decide)) dX5_turn_212 (fun I3 hI3 H locs hG hS => ?_)
                    rw [show ((2 : Int32)).toNatClampNeg = 2 from rfl] at hI3
                    have hok := hok I3 hI3
                    have hc3 : ∀ t, cnt (I3 5) t = cnt (I 5) t := fun t => by rw [hI3, gU_at, cnt_u3 (by decide), hc1]
                    have hr3 : ∀ t i, rln (I3 5) t i = rln (I 5) t i := fun t i => by rw [hI3, gU_at, rln_u3 (by decide), hr1]
                    refine lv_aload_n hx hb dX5_turn_213 rfl (lv_at hl 4 rfl) ?_
                    refine lv_iconst (v := 3) hx hb dX5_turn_214 (by decide) ?_
                    refine lv_aload_n hx hb dX5_turn_215 rfl (lv_at hl 5 rfl) ?_
                    refine sg_X5_19 K hG dX5_turn_216 ?_
                    refine lv_iload hx hb dX5_turn_219 (lv_at hl 0 rfl) ?_
                    obtain ⟨ho11, hok⟩ := hok
                    refine s_aald K hG (t := 3) (by decide) (by rw [hc3]; exact ho11) dX5_turn_221 ?_
                    refine lv_aload_n hx hb dX5_turn_222 rfl (lv_at hl 5 rfl) ?_
                    refine sg_X5_19 K hG dX5_turn_223 ?_
                    refine lv_iload hx hb dX5_turn_226 (lv_at hl 0 rfl) ?_
                    refine s_aald K hG (t := 3) (by decide) (by rw [hc3]; exact ho11) dX5_turn_228 ?_
                    refine s_alen K hG (t := 3) (by decide) (cv hc3 (vp_lt ho11)) rfl dX5_turn_229 ?_
                    rw [hr3]
                    refine lv_iconst (v := 1) hx hb dX5_turn_230 (by decide) ?_
                    refine lv_isub hx hb dX5_turn_231 ?_
                    obtain ⟨ho12, hok⟩ := hok
                    refine s_iald K hG (t := 3) (by decide) (cv hc3 (vp_lt ho11)) (by rw [hr3]; exact ho12) dX5_turn_232 ?_
                    refine s_iast K hG hS (t := 2) (by decide) (cv hc3 hk) (show vp_in (nI 3) 8 from vp_in_nI (by decide) (by decide)) dX5_turn_233 (fun I4 hI4 H locs hG hS => ?_)
                    rw [show ((3 : Int32)).toNatClampNeg = 3 from rfl] at hI4
                    have hok := hok I4 hI4
                    have hc4 : ∀ t, cnt (I4 5) t = cnt (I 5) t := fun t => by rw [hI4, gU_at, cnt_u3 (by decide), hc3]
                    have hr4 : ∀ t i, rln (I4 5) t i = rln (I 5) t i := fun t i => by rw [hI4, gU_at, rln_u3 (by decide), hr3]
                    refine lv_aload_n hx hb dX5_turn_234 rfl (lv_at hl 5 rfl) ?_
                    refine sg_X5_19 K hG dX5_turn_235 ?_
                    refine lv_iload hx hb dX5_turn_238 (lv_at hl 0 rfl) ?_
                    refine lv_aload_n hx hb dX5_turn_240 rfl (lv_at hl 5 rfl) ?_
                    refine sg_X5_19 K hG dX5_turn_241 ?_
                    refine lv_iload hx hb dX5_turn_244 (lv_at hl 0 rfl) ?_
                    refine s_aald K hG (t := 3) (by decide) (by rw [hc4]; exact ho11) dX5_turn_246 ?_
                    refine lv_iconst (v := 0) hx hb dX5_turn_247 (by decide) ?_
                    obtain ⟨ho13, hok⟩ := hok
                    obtain ⟨ho14, hok⟩ := hok
                    obtain ⟨ho15, hok⟩ := hok
                    have h9I5 : cnt (I4 5) 9 < 329 := by rw [hc4]; exact ho14
                    refine s_less K hAO hA hml hG hS (k := ((f_S_victim I1 k).toNatClampNeg)) ho15 (cv hc4 (vp_lt ho11)) (by rw [hr4]; exact ho13) (by omega) hl.1 (Nat.le_of_ble_eq_true rfl) ⟨by decide, by decide⟩ ⟨(Nat.le_of_ble_eq_true rfl), (Nat.le_of_ble_eq_true rfl)⟩ dX5_turn_248 dX5_turn_251 (fun a2 D2 hD2 gD2 I5 hI5 H locs hG hS => ?_)
                    have eI5 : I5 5 = pLess (I4 5) ((f_S_victim I1 k).toNatClampNeg) 0 := by rw [hI5, gset_at]
                    have hok := hok I5 hI5
                    have v1 : k < cnt (I5 5) 2 := by rw [eI5, cnt_less (by omega)]; exact cv hc4 hk
                    have v2 : k < cnt (I5 5) 3 := by rw [eI5, cnt_less (by omega)]; exact cv hc4 hk3
                    have v3 : (f_S_victim I1 k).toNatClampNeg < cnt (I5 5) 3 := by rw [eI5, cnt_less (by omega)]; exact cv hc4 (vp_lt ho11)
                    have n9I5 : cnt (I5 5) 9 = cnt (I 5) 9 + 0 := by have h9 := (show cnt (I 5) 9 = cnt (I 5) 9 + 0 from rfl); have h8 := hc4 9; rw [eI5, cnt_less (by omega)] <;> omega
                    have kd4 : sKD D D2 (cnt (I 5) 9) := ⟨(hD2 0 0 (by decide) (by decide)).trans (sKD.refl D (cnt (I 5) 9)).1, fun i hi => by rw [gD2 i (by have := (show cnt (I4 5) 9 = cnt (I 5) 9 + 0 by have h9 := (show cnt (I 5) 9 = cnt (I 5) 9 + 0 from rfl); have h8 := hc4 9; omega); omega)] <;> exact (sKD.refl D (cnt (I 5) 9)).2 i hi⟩
                    rw [← show D2 2 k = D 2 k from (hD2 _ _ (by decide) (by decide))] at hl
                    rw [← show D2 0 0 = D 0 0 from (hD2 _ _ (by decide) (by decide))] at hl
                    refine lv_aload_n hx hb dX5_turn_252 rfl (lv_at hl 4 rfl) ?_
                    refine lv_iconst (v := 5) hx hb dX5_turn_253 (by decide) ?_
                    refine lv_dup2_11 hx hb dX5_turn_254 rfl rfl ?_
                    refine s_iald K hG (t := 2) (by decide) (cv (show ∀ t, cnt (I5 5) t = cnt (I5 5) t from fun _ => rfl) v1) (show vp_in (nI 5) 8 from vp_in_nI (by decide) (by decide)) dX5_turn_255 ?_
                    rw [show ((5 : Int32)).toNatClampNeg = 5 from rfl]
                    refine lv_iconst (v := 1) hx hb dX5_turn_256 (by decide) ?_
                    refine lv_iadd hx hb dX5_turn_257 ?_
                    refine s_iast K hG hS (t := 2) (by decide) (cv (show ∀ t, cnt (I5 5) t = cnt (I5 5) t from fun _ => rfl) v1) (show vp_in (nI 5) 8 from vp_in_nI (by decide) (by decide)) dX5_turn_258 (fun I6 hI6 H locs hG hS => ?_)
                    rw [show ((5 : Int32)).toNatClampNeg = 5 from rfl] at hI6
                    have hok := hok I6 hI6
                    have hc6 : ∀ t, cnt (I6 5) t = cnt (I5 5) t := fun t => by rw [hI6, gU_at, cnt_u3 (by decide), (show ∀ t, cnt (I5 5) t = cnt (I5 5) t from fun _ => rfl)]
                    have hr6 : ∀ t i, rln (I6 5) t i = rln (I5 5) t i := fun t i => by rw [hI6, gU_at, rln_u3 (by decide), (show ∀ t i, rln (I5 5) t i = rln (I5 5) t i from fun _ _ => rfl)]
                    refine lv_aload_n hx hb dX5_turn_259 rfl (lv_at hl 5 rfl) ?_
                    refine sg_X5_15 K hG dX5_turn_260 ?_
                    refine lv_iload hx hb dX5_turn_263 (lv_at hl 0 rfl) ?_
                    obtain ⟨ho16, hok⟩ := hok
                    refine s_aald K hG (t := 2) (by decide) (by rw [hc6]; exact ho16) dX5_turn_265 ?_
                    refine lv_bipush (v := 6) hx hb dX5_turn_266 (by decide) ?_
                    refine lv_dup2_11 hx hb dX5_turn_268 rfl rfl ?_
                    refine s_iald K hG (t := 2) (by decide) (cv hc6 (vp_lt ho16)) (show vp_in (nI 6) 8 from vp_in_nI (by decide) (by decide)) dX5_turn_269 ?_
                    rw [show ((6 : Int32)).toNatClampNeg = 6 from rfl]
                    refine lv_iconst (v := 1) hx hb dX5_turn_270 (by decide) ?_
                    refine lv_iadd hx hb dX5_turn_271 ?_
                    refine s_iast K hG hS (t := 2) (by decide) (cv hc6 (vp_lt ho16)) (show vp_in (nI 6) 8 from vp_in_nI (by decide) (by decide)) dX5_turn_272 (fun I7 hI7 H locs hG hS => ?_)
                    rw [show ((6 : Int32)).toNatClampNeg = 6 from rfl] at hI7
                    have hok := hok I7 hI7
                    have hc7 : ∀ t, cnt (I7 5) t = cnt (I5 5) t := fun t => by rw [hI7, gU_at, cnt_u3 (by decide), hc6]
                    have hr7 : ∀ t i, rln (I7 5) t i = rln (I5 5) t i := fun t i => by rw [hI7, gU_at, rln_u3 (by decide), hr6]
                    refine lv_aload_n hx hb dX5_turn_273 rfl (lv_at hl 5 rfl) ?_
                    refine sg_X5_22 K hG dX5_turn_274 ?_
                    refine lv_aload_n hx hb dX5_turn_277 rfl (lv_at hl 5 rfl) ?_
                    refine sg_X5_25 K hG dX5_turn_278 ?_
                    refine lv_aload_n hx hb dX5_turn_281 rfl (lv_at hl 4 rfl) ?_
                    refine lv_iconst (v := 3) hx hb dX5_turn_282 (by decide) ?_
                    refine s_iald K hG (t := 2) (by decide) (cv hc7 v1) (show vp_in (nI 3) 8 from vp_in_nI (by decide) (by decide)) dX5_turn_283 ?_
                    rw [show ((3 : Int32)).toNatClampNeg = 3 from rfl]
                    obtain ⟨ho17, hok⟩ := hok
                    refine s_aald K hG (t := 5) (by decide) (by rw [hc7]; exact ho17) dX5_turn_284 ?_
                    refine lv_iconst (v := 2) hx hb dX5_turn_285 (by decide) ?_
                    refine s_iald K hG (t := 5) (by decide) (cv hc7 (vp_lt ho17)) (show vp_in (nI 2) 6 from vp_in_nI (by decide) (by decide)) dX5_turn_286 ?_
                    rw [show ((2 : Int32)).toNatClampNeg = 2 from rfl]
                    obtain ⟨ho18, hok⟩ := hok
                    refine s_aald K hG (t := 4) (by decide) (by rw [hc7]; exact ho18) dX5_turn_287 ?_
                    refine lv_iconst (v := 4) hx hb dX5_turn_288 (by decide) ?_
                    refine lv_dup2_11 hx hb dX5_turn_289 rfl rfl ?_
                    refine s_iald K hG (t := 4) (by decide) (cv hc7 (vp_lt ho18)) (show vp_in (nI 4) 6 from vp_in_nI (by decide) (by decide)) dX5_turn_290 ?_
                    rw [show ((4 : Int32)).toNatClampNeg = 4 from rfl]
                    refine lv_iconst (v := 1) hx hb dX5_turn_291 (by decide) ?_
                    refine lv_iadd hx hb dX5_turn_292 ?_
                    refine s_iast K hG hS (t := 4) (by decide) (cv hc7 (vp_lt ho18)) (show vp_in (nI 4) 6 from vp_in_nI (by decide) (by decide)) dX5_turn_293 (fun I8 hI8 H locs hG hS => ?_)
                    rw [show ((4 : Int32)).toNatClampNeg = 4 from rfl] at hI8
                    have hok := hok I8 hI8
                    have hc8 : ∀ t, cnt (I8 5) t = cnt (I5 5) t := fun t => by rw [hI8, gU_at, cnt_u3 (by decide), hc7]
                    have hr8 : ∀ t i, rln (I8 5) t i = rln (I5 5) t i := fun t i => by rw [hI8, gU_at, rln_u3 (by decide), hr7]
                    refine lv_aload_n hx hb dX5_turn_294 rfl (lv_at hl 5 rfl) ?_
                    refine lv_dup hx hb dX5_turn_295 rfl ?_
                    refine sg_X5_40 K hG dX5_turn_296 ?_
                    refine lv_iconst (v := 1) hx hb dX5_turn_299 (by decide) ?_
                    refine lv_iadd hx hb dX5_turn_300 ?_
                    refine sp_X5_40 K hG hS dX5_turn_301 (fun I9 hI9 H locs hG hS => ?_)
                    have hok := hok I9 hI9
                    have hc9 : ∀ t, cnt (I9 5) t = cnt (I5 5) t := fun t => by rw [hI9, gU_at, cnt_u3 (by decide), hc8]
                    have hr9 : ∀ t i, rln (I9 5) t i = rln (I5 5) t i := fun t i => by rw [hI9, gU_at, rln_u3 (by decide), hr8]
                    have eS : I9 = (f_S_turn I k) := by rw [← hT]; simp only [f_S_turn_l1, ← hI3, ← hI4, ← hI5, ← hI6, ← hI7, ← hI8, ← hI9, if_pos c8, if_pos c10]
                    rw [eS] at hG
                    exact W.widen (k := 8) (n := 1400) (Nat.le_of_ble_eq_true rfl) (Nat.le_of_ble_eq_true rfl) (s_vret K hG kd4 hS hr hlocks dX5_turn_304)
                  · have hok := hok.2 c10
                    refine lv_aload_n hx hb dX5_turn_183 rfl (lv_at hl 4 rfl) ?_
                    refine lv_bipush (v := 7) hx hb dX5_turn_184 (by decide) ?_
                    refine lv_dup2_11 hx hb dX5_turn_186 rfl rfl ?_
                    refine s_iald K hG (t := 2) (by decide) (cv hc1 hk) (show vp_in (nI 7) 8 from vp_in_nI (by decide) (by decide)) dX5_turn_187 ?_
                    rw [show ((7 : Int32)).toNatClampNeg = 7 from rfl]
                    refine lv_iconst (v := 1) hx hb dX5_turn_188 (by decide) ?_
                    refine lv_iadd hx hb dX5_turn_189 ?_
                    refine s_iast K hG hS (t := 2) (by decide) (cv hc1 hk) (show vp_in (nI 7) 8 from vp_in_nI (by decide) (by decide)) dX5_turn_190 (fun I10 hI10 H locs hG hS => ?_)
                    rw [show ((7 : Int32)).toNatClampNeg = 7 from rfl] at hI10
                    have hok := hok I10 hI10
                    have hc10 : ∀ t, cnt (I10 5) t = cnt (I 5) t := fun t => by rw [hI10, gU_at, cnt_u3 (by decide), hc1]
                    have hr10 : ∀ t i, rln (I10 5) t i = rln (I 5) t i := fun t i => by rw [hI10, gU_at, rln_u3 (by decide), hr1]
                    refine lv_aload_n hx hb dX5_turn_191 rfl (lv_at hl 4 rfl) ?_
                    refine lv_iconst (v := 4) hx hb dX5_turn_192 (by decide) ?_
                    refine lv_iload_n hx hb dX5_turn_193 rfl (lv_at hl 3 rfl) ?_
                    refine lv_iconst (v := 1) hx hb dX5_turn_194 (by decide) ?_
                    refine lv_iadd hx hb dX5_turn_195 ?_
                    refine lv_iconst (v := 3) hx hb dX5_turn_196 (by decide) ?_
                    refine lv_irem hx hb dX5_turn_197 (by decide) ?_
                    refine s_iast K hG hS (t := 2) (by decide) (cv hc10 hk) (show vp_in (nI 4) 8 from vp_in_nI (by decide) (by decide)) dX5_turn_198 (fun I11 hI11 H locs hG hS => ?_)
                    rw [show ((4 : Int32)).toNatClampNeg = 4 from rfl] at hI11
                    have hok := hok I11 hI11
                    have hc11 : ∀ t, cnt (I11 5) t = cnt (I 5) t := fun t => by rw [hI11, gU_at, cnt_u3 (by decide), hc10]
                    have hr11 : ∀ t i, rln (I11 5) t i = rln (I 5) t i := fun t i => by rw [hI11, gU_at, rln_u3 (by decide), hr10]
                    refine lv_iload_n hx hb dX5_turn_199 rfl (lv_at hl 3 rfl) ?_
                    refine lv_iconst (v := 2) hx hb dX5_turn_200 (by decide) ?_
                    refine lv_icmp_ne (tgt := 208) hx hb dX5_turn_201 (by decide) (fun c19 => ?_) (fun c19 => ?_)
                    · have hok := hok.2 c19
                      have eS : I11 = (f_S_turn I k) := by rw [← hT]; simp only [f_S_turn_l1, ← hI10, ← hI11, if_pos c8, if_neg c10, if_neg c19]
                      rw [eS] at hG
                      exact W.widen (k := 8) (n := 1400) (Nat.le_of_ble_eq_true rfl) (Nat.le_of_ble_eq_true rfl) (s_vret K hG (sKD.refl D (cnt (I 5) 9)) hS hr hlocks dX5_turn_208)
                    · have hok := hok.1 c19
                      refine lv_aload_n hx hb dX5_turn_204 rfl (lv_at hl 4 rfl) ?_
                      refine lv_iconst (v := 2) hx hb dX5_turn_205 (by decide) ?_
                      refine lv_iconst (v := 3) hx hb dX5_turn_206 (by decide) ?_
                      refine s_iast K hG hS (t := 2) (by decide) (cv hc11 hk) (show vp_in (nI 2) 8 from vp_in_nI (by decide) (by decide)) dX5_turn_207 (fun I12 hI12 H locs hG hS => ?_)
                      rw [show ((2 : Int32)).toNatClampNeg = 2 from rfl] at hI12
                      have hok := hok I12 hI12
                      have hc12 : ∀ t, cnt (I12 5) t = cnt (I 5) t := fun t => by rw [hI12, gU_at, cnt_u3 (by decide), hc11]
                      have hr12 : ∀ t i, rln (I12 5) t i = rln (I 5) t i := fun t i => by rw [hI12, gU_at, rln_u3 (by decide), hr11]
                      have eS : I12 = (f_S_turn I k) := by rw [← hT]; simp only [f_S_turn_l1, ← hI10, ← hI11, ← hI12, if_pos c8, if_neg c10, if_pos c19]
                      rw [eS] at hG
                      exact W.widen (k := 8) (n := 1400) (Nat.le_of_ble_eq_true rfl) (Nat.le_of_ble_eq_true rfl) (s_vret K hG (sKD.refl D (cnt (I 5) 9)) hS hr hlocks dX5_turn_208)
                · exact absurd (nI_le (by omega) (by omega)) c8
              | succ n ih =>
                intro i H locs ls hin hT hok hG hS hl
                unfold ok_f_S_turn_l1 at hok
                refine lv_iload hx hb dX5_turn_123 (lv_at hl 0 rfl) ?_
                refine lv_iload hx hb dX5_turn_125 (lv_at hl 1 rfl) ?_
                refine lv_icmp_ge (tgt := 171) hx hb dX5_turn_127 (by decide) (fun c20 => ?_) (fun c20 => ?_)
                · exact absurd c20 (nI_ge (by omega) (by omega))
                · skip
                  refine lv_aload hx hb dX5_turn_130 (lv_at hl 2 rfl) ?_
                  refine lv_iload hx hb dX5_turn_132 (lv_at hl 0 rfl) ?_
                  refine s_aald K hG (t := 4) (by decide) (vp_in_nI (cv hc1 (show i < _ by omega)) (by have := hG.b.cl 4; omega)) dX5_turn_134 ?_
                  rw [nI_clamp (by have := hb4; omega)]
                  refine lv_astore (lv' := [(7, .ref (D 4 i)), (6, .int (nI i)), (5, .int (nI (cnt (I 5) 4))), (4, .ref (D 1 4)), (3, .int (I 5 2 k 4)), (2, .ref (D 2 k)), (0, .ref (D 0 0)), (1, .int (nI k))]) hx hb dX5_turn_135 hl (by decide) rfl (fun ls hl => ?_)
                  refine lv_aload hx hb dX5_turn_137 (lv_at hl 0 rfl) ?_
                  refine lv_iconst (v := 5) hx hb dX5_turn_139 (by decide) ?_
                  refine s_iald K hG (t := 4) (by decide) (cv hc1 (show i < _ by omega)) (show vp_in (nI 5) 6 from vp_in_nI (by decide) (by decide)) dX5_turn_140 ?_
                  rw [show ((5 : Int32)).toNatClampNeg = 5 from rfl]
                  refine lv_iconst (v := 1) hx hb dX5_turn_141 (by decide) ?_
                  refine lv_icmp_ne (tgt := 148) hx hb dX5_turn_142 (by decide) (fun c21 => ?_) (fun c21 => ?_)
                  · have hok := hok.2 c21
                    refine lv_aload hx hb dX5_turn_148 (lv_at hl 0 rfl) ?_
                    refine lv_iconst (v := 5) hx hb dX5_turn_150 (by decide) ?_
                    refine lv_iconst (v := 1) hx hb dX5_turn_151 (by decide) ?_
                    refine s_iast K hG hS (t := 4) (by decide) (cv hc1 (show i < _ by omega)) (show vp_in (nI 5) 6 from vp_in_nI (by decide) (by decide)) dX5_turn_152 (fun I13 hI13 H locs hG hS => ?_)
                    rw [show ((5 : Int32)).toNatClampNeg = 5 from rfl] at hI13
                    have hok := hok I13 hI13
                    have hc13 : ∀ t, cnt (I13 5) t = cnt (I 5) t := fun t => by rw [hI13, gU_at, cnt_u3 (by decide), hc1]
                    have hr13 : ∀ t i, rln (I13 5) t i = rln (I 5) t i := fun t i => by rw [hI13, gU_at, rln_u3 (by decide), hr1]
                    refine lv_aload_n hx hb dX5_turn_153 rfl (lv_at hl 5 rfl) ?_
                    refine lv_iconst (v := 2) hx hb dX5_turn_154 (by decide) ?_
                    refine lv_iconst (v := 1) hx hb dX5_turn_155 (by decide) ?_
                    refine s_iast K hG hS (t := 2) (by decide) (cv hc13 hk) (show vp_in (nI 2) 8 from vp_in_nI (by decide) (by decide)) dX5_turn_156 (fun I14 hI14 H locs hG hS => ?_)
                    rw [show ((2 : Int32)).toNatClampNeg = 2 from rfl] at hI14
                    have hok := hok I14 hI14
                    have hc14 : ∀ t, cnt (I14 5) t = cnt (I 5) t := fun t => by rw [hI14, gU_at, cnt_u3 (by decide), hc13]
                    have hr14 : ∀ t i, rln (I14 5) t i = rln (I 5) t i := fun t i => by rw [hI14, gU_at, rln_u3 (by decide), hr13]
                    refine lv_aload_n hx hb dX5_turn_157 rfl (lv_at hl 5 rfl) ?_
                    refine lv_iconst (v := 3) hx hb dX5_turn_158 (by decide) ?_
                    refine lv_aload hx hb dX5_turn_159 (lv_at hl 0 rfl) ?_
                    refine lv_iconst (v := 1) hx hb dX5_turn_161 (by decide) ?_
                    refine s_iald K hG (t := 4) (by decide) (cv hc14 (show i < _ by omega)) (show vp_in (nI 1) 6 from vp_in_nI (by decide) (by decide)) dX5_turn_162 ?_
                    rw [show ((1 : Int32)).toNatClampNeg = 1 from rfl]
                    refine s_iast K hG hS (t := 2) (by decide) (cv hc14 hk) (show vp_in (nI 3) 8 from vp_in_nI (by decide) (by decide)) dX5_turn_163 (fun I15 hI15 H locs hG hS => ?_)
                    rw [show ((3 : Int32)).toNatClampNeg = 3 from rfl] at hI15
                    have hok := hok I15 hI15
                    have hc15 : ∀ t, cnt (I15 5) t = cnt (I 5) t := fun t => by rw [hI15, gU_at, cnt_u3 (by decide), hc14]
                    have hr15 : ∀ t i, rln (I15 5) t i = rln (I 5) t i := fun t i => by rw [hI15, gU_at, rln_u3 (by decide), hr14]
                    have eS : I15 = (f_S_turn I k) := by rw [← hT]; simp only [f_S_turn_l1, ← hI13, ← hI14, ← hI15, if_neg c20, if_neg c21]
                    rw [eS] at hG
                    exact W.widen (k := 8) (n := 1400) (Nat.le_of_ble_eq_true rfl) (Nat.le_of_ble_eq_true rfl) (s_vret K hG (sKD.refl D (cnt (I 5) 9)) hS hr hlocks dX5_turn_164)
                  · have hok := hok.1 c21
                    refine lv_goto (tgt := 165) hx hb dX5_turn_145 (by decide) ?_
                    refine lv_iinc (v := (nI (i + 1))) (lv' := [(6, .int (nI (i + 1))), (7, .ref (D 4 i)), (5, .int (nI (cnt (I 5) 4))), (4, .ref (D 1 4)), (3, .int (I 5 2 k 4)), (2, .ref (D 2 k)), (0, .ref (D 0 0)), (1, .int (nI k))]) hx hb dX5_turn_165 hl (k := 1) rfl (nI_add i 1) (by decide) rfl (fun ls hl => ?_)
                    refine lv_goto (tgt := 123) hx hb dX5_turn_168 (by decide) ?_
                    exact ih (i + 1) _ _ _ (by omega) (by rw [← hT]; simp only [f_S_turn_l1, if_neg c20, if_pos c21]) hok hG hS (lv_sub hl [0, 2, 3, 4, 5, 6, 7] rfl)
            exact hL (cnt (I 5) 4) 0 _ _ _ (Nat.zero_add _) (by simp only [f_S_turn, ← hI1, if_neg c1, if_neg c2, if_pos c3, if_pos c6, if_neg c7]) hok hG hS (lv_sub hl [0, 1, 2, 3, 4, 5, 6] rfl)
          · have hok := hok.1 c7
            refine lv_aload_n hx hb dX5_turn_103 rfl (lv_at hl 2 rfl) ?_
            refine lv_iload_n hx hb dX5_turn_104 rfl (lv_at hl 3 rfl) ?_
            obtain ⟨ho22, hok⟩ := hok
            refine s_kv (s_runV (As := [.int (nI k)]) (rest := []) K hAO hA hml ca_X5_work q540 (m_S_work l E F J D I1 k hA (cv hc1 hk) (cv hc1 hk3) ho22) hG hG hS rfl rfl hl.1 (Nat.le_of_ble_eq_true rfl) ⟨by decide, by decide⟩ dX5_turn_105 ⟨Nat.le_of_ble_eq_true rfl, Nat.le_of_ble_eq_true rfl⟩) hS (fun D3 hD3 H locs hG hS => ?_)
            obtain ⟨I16, hI16⟩ : ∃ z, z = f_S_work I1 k := ⟨_, rfl⟩
            rw [← hI16] at hG
            have hok := hok I16 hI16
            have hl : lv_has ls 8 [(3, .int (I 5 2 k 4)), (0, .ref (D 0 0)), (1, .int (nI k))] := lv_sub hl [0, 2, 3] rfl
            rw [← show D3 0 0 = D 0 0 from hD3.1] at hl
            have eS : I16 = (f_S_turn I k) := by simp only [f_S_turn, ← hI1, ← hI16, if_neg c1, if_neg c2, if_pos c3, if_pos c6, if_pos c7]
            rw [eS] at hG
            exact W.widen (k := 8) (n := 1400) (Nat.le_of_ble_eq_true rfl) (Nat.le_of_ble_eq_true rfl) (s_vret K hG ((sKD.refl D (cnt (I 5) 9)).tr hD3 (hc1 9)) hS hr hlocks dX5_turn_108)
        · have hok := hok.2 c6
          refine lv_aload_n hx hb dX5_turn_65 rfl (lv_at hl 1 rfl) ?_
          refine lv_iconst (v := 2) hx hb dX5_turn_66 (by decide) ?_
          refine lv_iconst (v := 1) hx hb dX5_turn_67 (by decide) ?_
          refine s_iast K hG hS (t := 2) (by decide) (cv hc1 hk) (show vp_in (nI 2) 8 from vp_in_nI (by decide) (by decide)) dX5_turn_68 (fun I17 hI17 H locs hG hS => ?_)
          rw [show ((2 : Int32)).toNatClampNeg = 2 from rfl] at hI17
          have hok := hok I17 hI17
          have hc17 : ∀ t, cnt (I17 5) t = cnt (I 5) t := fun t => by rw [hI17, gU_at, cnt_u3 (by decide), hc1]
          have hr17 : ∀ t i, rln (I17 5) t i = rln (I 5) t i := fun t i => by rw [hI17, gU_at, rln_u3 (by decide), hr1]
          refine lv_aload_n hx hb dX5_turn_69 rfl (lv_at hl 1 rfl) ?_
          refine lv_iconst (v := 3) hx hb dX5_turn_70 (by decide) ?_
          refine lv_aload_n hx hb dX5_turn_71 rfl (lv_at hl 2 rfl) ?_
          refine sg_X5_19 K hG dX5_turn_72 ?_
          refine lv_iload_n hx hb dX5_turn_75 rfl (lv_at hl 3 rfl) ?_
          refine s_aald K hG (t := 3) (by decide) (vp_in_nI (cv hc17 hk3) (by have := hG.b.cl 3; omega)) dX5_turn_76 ?_
          rw [nI_clamp (by have := hb2k; omega)]
          refine lv_iconst (v := 0) hx hb dX5_turn_77 (by decide) ?_
          obtain ⟨ho23, hok⟩ := hok
          refine s_iald K hG (t := 3) (by decide) (cv hc17 hk3) (by rw [hr17]; exact ho23) dX5_turn_78 ?_
          rw [show ((0 : Int32)).toNatClampNeg = 0 from rfl]
          refine s_iast K hG hS (t := 2) (by decide) (cv hc17 hk) (show vp_in (nI 3) 8 from vp_in_nI (by decide) (by decide)) dX5_turn_79 (fun I18 hI18 H locs hG hS => ?_)
          rw [show ((3 : Int32)).toNatClampNeg = 3 from rfl] at hI18
          have hok := hok I18 hI18
          have hc18 : ∀ t, cnt (I18 5) t = cnt (I 5) t := fun t => by rw [hI18, gU_at, cnt_u3 (by decide), hc17]
          have hr18 : ∀ t i, rln (I18 5) t i = rln (I 5) t i := fun t i => by rw [hI18, gU_at, rln_u3 (by decide), hr17]
          refine lv_aload_n hx hb dX5_turn_80 rfl (lv_at hl 2 rfl) ?_
          refine sg_X5_19 K hG dX5_turn_81 ?_
          refine lv_iload_n hx hb dX5_turn_84 rfl (lv_at hl 3 rfl) ?_
          refine lv_aload_n hx hb dX5_turn_85 rfl (lv_at hl 2 rfl) ?_
          refine sg_X5_19 K hG dX5_turn_86 ?_
          refine lv_iload_n hx hb dX5_turn_89 rfl (lv_at hl 3 rfl) ?_
          refine s_aald K hG (t := 3) (by decide) (vp_in_nI (cv hc18 hk3) (by have := hG.b.cl 3; omega)) dX5_turn_90 ?_
          rw [nI_clamp (by have := hb2k; omega)]
          refine lv_iconst (v := 1) hx hb dX5_turn_91 (by decide) ?_
          obtain ⟨ho24, hok⟩ := hok
          obtain ⟨ho25, hok⟩ := hok
          have h9I19 : cnt (I18 5) 9 < 329 := by rw [hc18]; exact ho25
          refine s_less K hAO hA hml hG hS (k := k) rfl (cv hc18 hk3) (by rw [hr18]; exact ho24) (by omega) hl.1 (Nat.le_of_ble_eq_true rfl) ⟨by decide, by decide⟩ ⟨(Nat.le_of_ble_eq_true rfl), (Nat.le_of_ble_eq_true rfl)⟩ dX5_turn_92 dX5_turn_95 (fun a4 D4 hD4 gD4 I19 hI19 H locs hG hS => ?_)
          have eI19 : I19 5 = pLess (I18 5) k 1 := by rw [hI19, gset_at]
          have hok := hok I19 hI19
          have v5 : k < cnt (I19 5) 2 := by rw [eI19, cnt_less (by omega)]; exact cv hc18 hk
          have v6 : k < cnt (I19 5) 3 := by rw [eI19, cnt_less (by omega)]; exact cv hc18 hk3
          have n9I19 : cnt (I19 5) 9 = cnt (I 5) 9 + 0 := by have h9 := (show cnt (I 5) 9 = cnt (I 5) 9 + 0 from rfl); have h8 := hc18 9; rw [eI19, cnt_less (by omega)] <;> omega
          have kd7 : sKD D D4 (cnt (I 5) 9) := ⟨(hD4 0 0 (by decide) (by decide)).trans (sKD.refl D (cnt (I 5) 9)).1, fun i hi => by rw [gD4 i (by have := (show cnt (I18 5) 9 = cnt (I 5) 9 + 0 by have h9 := (show cnt (I 5) 9 = cnt (I 5) 9 + 0 from rfl); have h8 := hc18 9; omega); omega)] <;> exact (sKD.refl D (cnt (I 5) 9)).2 i hi⟩
          rw [← show D4 2 k = D 2 k from (hD4 _ _ (by decide) (by decide))] at hl
          rw [← show D4 0 0 = D 0 0 from (hD4 _ _ (by decide) (by decide))] at hl
          refine lv_aload_n hx hb dX5_turn_96 rfl (lv_at hl 1 rfl) ?_
          refine lv_iconst (v := 2) hx hb dX5_turn_97 (by decide) ?_
          refine s_iald K hG (t := 2) (by decide) (cv (show ∀ t, cnt (I19 5) t = cnt (I19 5) t from fun _ => rfl) v5) (show vp_in (nI 2) 8 from vp_in_nI (by decide) (by decide)) dX5_turn_98 ?_
          rw [show ((2 : Int32)).toNatClampNeg = 2 from rfl]
          refine lv_iconst (v := 1) hx hb dX5_turn_99 (by decide) ?_
          refine lv_icmp_ne (tgt := 109) hx hb dX5_turn_100 (by decide) (fun c26 => ?_) (fun c26 => ?_)
          · exact absurd (show I19 5 2 k 2 = 1 by rw [eI19, less_at (by decide) (by omega), hI18, gU_at, u3_eq, if_neg (by omega), hI17, gU_at, u3_at]) c26
          · skip
            refine lv_aload_n hx hb dX5_turn_103 rfl (lv_at hl 2 rfl) ?_
            refine lv_iload_n hx hb dX5_turn_104 rfl (lv_at hl 3 rfl) ?_
            obtain ⟨ho27, hok⟩ := hok
            obtain ⟨ho28, hok⟩ := hok
            refine s_kv (s_runV (As := [.int (nI k)]) (rest := []) K hAO hA hml ca_X5_work q540 (m_S_work l E F J D4 I19 k hA (cv (show ∀ t, cnt (I19 5) t = cnt (I19 5) t from fun _ => rfl) v5) (cv (show ∀ t, cnt (I19 5) t = cnt (I19 5) t from fun _ => rfl) v6) ho27) hG hG hS rfl rfl hl.1 (Nat.le_of_ble_eq_true rfl) ⟨by decide, by decide⟩ dX5_turn_105 ⟨Nat.le_of_ble_eq_true rfl, Nat.le_of_ble_eq_true rfl⟩) hS (fun D5 hD5 H locs hG hS => ?_)
            obtain ⟨I20, hI20⟩ : ∃ z, z = f_S_work I19 k := ⟨_, rfl⟩
            rw [← hI20] at hG
            have hok := hok I20 hI20
            have hl : lv_has ls 8 [(3, .int (I 5 2 k 4)), (0, .ref (D4 0 0)), (1, .int (nI k))] := lv_sub hl [0, 2, 3] rfl
            rw [← show D5 0 0 = D4 0 0 from hD5.1] at hl
            have eS : I20 = (f_S_turn I k) := by simp only [f_S_turn, ← hI1, ← hI17, ← hI18, ← hI19, ← hI20, if_neg c1, if_neg c2, if_pos c3, if_neg c6, if_pos c26]
            rw [eS] at hG
            exact W.widen (k := 8) (n := 1400) (Nat.le_of_ble_eq_true rfl) (Nat.le_of_ble_eq_true rfl) (s_vret K hG (kd7.tr hD5 ho28) hS hr hlocks dX5_turn_108)
    · have hok := hok.1 c2
      refine lv_aload_n hx hb dX5_turn_30 rfl (lv_at hl 2 rfl) ?_
      refine lv_dup hx hb dX5_turn_31 rfl ?_
      refine sg_X5_46 K hG dX5_turn_32 ?_
      refine lv_iconst (v := 1) hx hb dX5_turn_35 (by decide) ?_
      refine lv_iadd hx hb dX5_turn_36 ?_
      refine sp_X5_46 K hG hS dX5_turn_37 (fun I21 hI21 H locs hG hS => ?_)
      have hok := hok I21 hI21
      have hc21 : ∀ t, cnt (I21 5) t = cnt (I 5) t := fun t => by rw [hI21, gU_at, cnt_u3 (by decide), hc1]
      have hr21 : ∀ t i, rln (I21 5) t i = rln (I 5) t i := fun t i => by rw [hI21, gU_at, rln_u3 (by decide), hr1]
      refine lv_aload_n hx hb dX5_turn_40 rfl (lv_at hl 2 rfl) ?_
      refine lv_aload_n hx hb dX5_turn_41 rfl (lv_at hl 1 rfl) ?_
      refine lv_aload_n hx hb dX5_turn_42 rfl (lv_at hl 1 rfl) ?_
      refine lv_iconst (v := 3) hx hb dX5_turn_43 (by decide) ?_
      refine s_iald K hG (t := 2) (by decide) (cv hc21 hk) (show vp_in (nI 3) 8 from vp_in_nI (by decide) (by decide)) dX5_turn_44 ?_
      rw [show ((3 : Int32)).toNatClampNeg = 3 from rfl]
      obtain ⟨ho29, hok⟩ := hok
      refine s_kv (s_runV (As := [.ref (D 2 k), .int (I21 5 2 k 3)]) (rest := []) K hAO hA hml ca_X5_end q533 (m_S_end l E F J D I21 k (I21 5 2 k 3) hA (cv hc21 hk) ho29) hG hG hS rfl rfl hl.1 (Nat.le_of_ble_eq_true rfl) ⟨by decide, by decide⟩ dX5_turn_45 ⟨Nat.le_of_ble_eq_true rfl, Nat.le_of_ble_eq_true rfl⟩) hS (fun D6 hD6 H locs hG hS => ?_)
      obtain ⟨I22, hI22⟩ : ∃ z, z = f_S_end I21 k (I21 5 2 k 3) := ⟨_, rfl⟩
      rw [← hI22] at hG
      have hok := hok I22 hI22
      have hl : lv_has ls 8 [(3, .int (I 5 2 k 4)), (0, .ref (D 0 0)), (1, .int (nI k))] := lv_sub hl [0, 2, 3] rfl
      rw [← show D6 0 0 = D 0 0 from hD6.1] at hl
      have eS : I22 = (f_S_turn I k) := by simp only [f_S_turn, ← hI1, ← hI21, ← hI22, if_neg c1, if_pos c2]
      rw [eS] at hG
      exact W.widen (k := 8) (n := 1400) (Nat.le_of_ble_eq_true rfl) (Nat.le_of_ble_eq_true rfl) (s_vret K hG ((sKD.refl D (cnt (I 5) 9)).tr hD6 (hc21 9)) hS hr hlocks dX5_turn_48)
  · have hok := hok.1 c1
    have eS : I = (f_S_turn I k) := by simp only [f_S_turn, if_pos c1]
    rw [eS] at hG
    exact W.widen (k := 8) (n := 1400) (Nat.le_of_ble_eq_true rfl) (Nat.le_of_ble_eq_true rfl) (s_vret K hG (sKD.refl D (cnt (I 5) 9)) hS hr hlocks dX5_turn_14)
