/-! PRINTED by wip/gen21/sim.py: 67.simend -/
def f_S_end (I : gI) (k : Nat) (x : Int32) : gI :=
  let I1 := gU I 5 5 x.toNatClampNeg 5 1
  let I2 := gU I1 5 2 k 2 0
  if 0 ≤ (I2 5 5 x.toNatClampNeg 3) then
    if (I2 5 5 ((I2 5 5 x.toNatClampNeg 4).toNatClampNeg) 5) = 1 then
      let I3 := gU I2 5 2 k 2 2
      let I4 := gU I3 5 2 k 3 (I3 5 5 x.toNatClampNeg 3)
      I4
    else
      I2
  else
    let I5 := gU I2 5 4 ((I2 5 5 x.toNatClampNeg 2).toNatClampNeg) 3 (I2 5 0 0 0)
    I5
def ok_S_end (I : gI) (k : Nat) (x : Int32) : Prop :=
  vp_in x (cnt (I 5) 5) ∧
  ∀ I1, I1 = gU I 5 5 x.toNatClampNeg 5 1 →
  ∀ I2, I2 = gU I1 5 2 k 2 0 →
  ((0 ≤ (I2 5 5 x.toNatClampNeg 3)) →
    vp_in (I2 5 5 x.toNatClampNeg 4) (cnt (I 5) 5) ∧
    (((I2 5 5 ((I2 5 5 x.toNatClampNeg 4).toNatClampNeg) 5) = 1) →
      ∀ I3, I3 = gU I2 5 2 k 2 2 →
      ∀ I4, I4 = gU I3 5 2 k 3 (I3 5 5 x.toNatClampNeg 3) →
      True) ∧
    (¬ ((I2 5 5 ((I2 5 5 x.toNatClampNeg 4).toNatClampNeg) 5) = 1) →
      True)) ∧
  (¬ (0 ≤ (I2 5 5 x.toNatClampNeg 3)) →
    vp_in (I2 5 5 x.toNatClampNeg 2) (cnt (I 5) 4) ∧
    ∀ I5, I5 = gU I2 5 4 ((I2 5 5 x.toNatClampNeg 2).toNatClampNeg) 3 (I2 5 0 0 0) →
    True)
set_option maxHeartbeats 4000000 in
set_option maxRecDepth 100000 in
theorem m_S_end (l : Launch) (E : gE) (F : Nat → Prop) (J : Int64) (D : sD) (I : gI) (k : Nat) (x : Int32) (hA : ∀ q, F q → gN E ≤ q) (hk : k < cnt (I 5) 2) (hok : ok_S_end I k x) : sM l E yX5_end cX5_end 4 none 0 0 0 0 [.ref (D 0 0), .ref (D 2 k), .int x] (fun H => LW E F J D I H) (sQv E F J D I (f_S_end I k x)) F := by
  refine s_entry (lv := [(0, .ref (D 0 0)), (1, .ref (D 2 k)), (2, .int x)]) (by decide) (Nat.le_of_ble_eq_true rfl) rfl ?_
  intro p e s m below meth c0 ls K hAO hG hS hml hr hlocks hl
  have hG : LW E F J D I s.heap := hG
  have K : kx E p m c0 cX5_end "HayThievesLaw$Sim" _ s := K
  have hx := K.1
  have hb := K.2.1
  have hts := K.2.2.1
  have hown := K.2.2.2.1
  have hSt := K.2.2.2.2
  unfold ok_S_end at hok
  have hb5 := hG.b.cl 5
  refine lv_aload_n hx hb dX5_end_0 rfl (lv_at hl 0 rfl) ?_
  refine sg_X5_25 K hG dX5_end_1 ?_
  refine lv_iload_n hx hb dX5_end_4 rfl (lv_at hl 2 rfl) ?_
  obtain ⟨ho1, hok⟩ := hok
  refine s_aald K hG (t := 5) (by decide) (by rw [(show ∀ t, cnt (I 5) t = cnt (I 5) t from fun _ => rfl)]; exact ho1) dX5_end_5 ?_
  refine lv_astore_n (lv' := [(3, .ref (D 5 x.toNatClampNeg)), (0, .ref (D 0 0)), (1, .ref (D 2 k)), (2, .int x)]) hx hb dX5_end_6 rfl hl (by decide) rfl (fun ls hl => ?_)
  refine lv_aload_n hx hb dX5_end_7 rfl (lv_at hl 0 rfl) ?_
  refine lv_iconst (v := 5) hx hb dX5_end_8 (by decide) ?_
  refine lv_iconst (v := 1) hx hb dX5_end_9 (by decide) ?_
  refine s_iast K hG hS (t := 5) (by decide) (cv (show ∀ t, cnt (I 5) t = cnt (I 5) t from fun _ => rfl) (vp_lt ho1)) (show vp_in (nI 5) 6 from vp_in_nI (by decide) (by decide)) dX5_end_10 (fun I1 hI1 H locs hG hS => ?_)
  rw [show ((5 : Int32)).toNatClampNeg = 5 from rfl] at hI1
  have hok := hok I1 hI1
  have hc1 : ∀ t, cnt (I1 5) t = cnt (I 5) t := fun t => by rw [hI1, gU_at, cnt_u3 (by decide), (show ∀ t, cnt (I 5) t = cnt (I 5) t from fun _ => rfl)]
  have hr1 : ∀ t i, rln (I1 5) t i = rln (I 5) t i := fun t i => by rw [hI1, gU_at, rln_u3 (by decide), (show ∀ t i, rln (I 5) t i = rln (I 5) t i from fun _ _ => rfl)]
  refine lv_aload_n hx hb dX5_end_11 rfl (lv_at hl 2 rfl) ?_
  refine lv_iconst (v := 2) hx hb dX5_end_12 (by decide) ?_
  refine lv_iconst (v := 0) hx hb dX5_end_13 (by decide) ?_
  refine s_iast K hG hS (t := 2) (by decide) (cv hc1 hk) (show vp_in (nI 2) 8 from vp_in_nI (by decide) (by decide)) dX5_end_14 (fun I2 hI2 H locs hG hS => ?_)
  rw [show ((2 : Int32)).toNatClampNeg = 2 from rfl] at hI2
  have hok := hok I2 hI2
  have hc2 : ∀ t, cnt (I2 5) t = cnt (I 5) t := fun t => by rw [hI2, gU_at, cnt_u3 (by decide), hc1]
  have hr2 : ∀ t i, rln (I2 5) t i = rln (I 5) t i := fun t i => by rw [hI2, gU_at, rln_u3 (by decide), hr1]
  refine lv_aload_n hx hb dX5_end_15 rfl (lv_at hl 0 rfl) ?_
  refine lv_iconst (v := 3) hx hb dX5_end_16 (by decide) ?_
  refine s_iald K hG (t := 5) (by decide) (cv hc2 (vp_lt ho1)) (show vp_in (nI 3) 6 from vp_in_nI (by decide) (by decide)) dX5_end_17 ?_
  rw [show ((3 : Int32)).toNatClampNeg = 3 from rfl]
  refine lv_if_ge (tgt := 38) hx hb dX5_end_18 (by decide) (fun c2 => ?_) (fun c2 => ?_)
  · have hok := hok.1 c2
    refine lv_aload_n hx hb dX5_end_38 rfl (lv_at hl 1 rfl) ?_
    refine sg_X5_25 K hG dX5_end_39 ?_
    refine lv_aload_n hx hb dX5_end_42 rfl (lv_at hl 0 rfl) ?_
    refine lv_iconst (v := 4) hx hb dX5_end_43 (by decide) ?_
    refine s_iald K hG (t := 5) (by decide) (cv hc2 (vp_lt ho1)) (show vp_in (nI 4) 6 from vp_in_nI (by decide) (by decide)) dX5_end_44 ?_
    rw [show ((4 : Int32)).toNatClampNeg = 4 from rfl]
    obtain ⟨ho3, hok⟩ := hok
    refine s_aald K hG (t := 5) (by decide) (by rw [hc2]; exact ho3) dX5_end_45 ?_
    refine lv_iconst (v := 5) hx hb dX5_end_46 (by decide) ?_
    refine s_iald K hG (t := 5) (by decide) (cv hc2 (vp_lt ho3)) (show vp_in (nI 5) 6 from vp_in_nI (by decide) (by decide)) dX5_end_47 ?_
    rw [show ((5 : Int32)).toNatClampNeg = 5 from rfl]
    refine lv_iconst (v := 1) hx hb dX5_end_48 (by decide) ?_
    refine lv_icmp_ne (tgt := 62) hx hb dX5_end_49 (by decide) (fun c4 => ?_) (fun c4 => ?_)
    · have hok := hok.2 c4
      have eS : I2 = (f_S_end I k x) := by simp only [f_S_end, ← hI1, ← hI2, if_pos c2, if_neg c4]
      rw [eS] at hG
      exact W.widen (k := 0) (n := 0) (Nat.le_of_ble_eq_true rfl) (Nat.le_of_ble_eq_true rfl) (s_vret K hG (sKD.refl D (cnt (I 5) 9)) hS hr hlocks dX5_end_62)
    · have hok := hok.1 c4
      refine lv_aload_n hx hb dX5_end_52 rfl (lv_at hl 2 rfl) ?_
      refine lv_iconst (v := 2) hx hb dX5_end_53 (by decide) ?_
      refine lv_iconst (v := 2) hx hb dX5_end_54 (by decide) ?_
      refine s_iast K hG hS (t := 2) (by decide) (cv hc2 hk) (show vp_in (nI 2) 8 from vp_in_nI (by decide) (by decide)) dX5_end_55 (fun I3 hI3 H locs hG hS => ?_)
      rw [show ((2 : Int32)).toNatClampNeg = 2 from rfl] at hI3
      have hok := hok I3 hI3
      have hc3 : ∀ t, cnt (I3 5) t = cnt (I 5) t := fun t => by rw [hI3, gU_at, cnt_u3 (by decide), hc2]
      have hr3 : ∀ t i, rln (I3 5) t i = rln (I 5) t i := fun t i => by rw [hI3, gU_at, rln_u3 (by decide), hr2]
      refine lv_aload_n hx hb dX5_end_56 rfl (lv_at hl 2 rfl) ?_
      refine lv_iconst (v := 3) hx hb dX5_end_57 (by decide) ?_
      refine lv_aload_n hx hb dX5_end_58 rfl (lv_at hl 0 rfl) ?_
      refine lv_iconst (v := 3) hx hb dX5_end_59 (by decide) ?_
      refine s_iald K hG (t := 5) (by decide) (cv hc3 (vp_lt ho1)) (show vp_in (nI 3) 6 from vp_in_nI (by decide) (by decide)) dX5_end_60 ?_
      rw [show ((3 : Int32)).toNatClampNeg = 3 from rfl]
      refine s_iast K hG hS (t := 2) (by decide) (cv hc3 hk) (show vp_in (nI 3) 8 from vp_in_nI (by decide) (by decide)) dX5_end_61 (fun I4 hI4 H locs hG hS => ?_)
      rw [show ((3 : Int32)).toNatClampNeg = 3 from rfl] at hI4
      have hok := hok I4 hI4
      have hc4 : ∀ t, cnt (I4 5) t = cnt (I 5) t := fun t => by rw [hI4, gU_at, cnt_u3 (by decide), hc3]
      have hr4 : ∀ t i, rln (I4 5) t i = rln (I 5) t i := fun t i => by rw [hI4, gU_at, rln_u3 (by decide), hr3]
      have eS : I4 = (f_S_end I k x) := by simp only [f_S_end, ← hI1, ← hI2, ← hI3, ← hI4, if_pos c2, if_pos c4]
      rw [eS] at hG
      exact W.widen (k := 0) (n := 0) (Nat.le_of_ble_eq_true rfl) (Nat.le_of_ble_eq_true rfl) (s_vret K hG (sKD.refl D (cnt (I 5) 9)) hS hr hlocks dX5_end_62)
  · have hok := hok.2 c2
    refine lv_aload_n hx hb dX5_end_21 rfl (lv_at hl 1 rfl) ?_
    refine sg_X5_22 K hG dX5_end_22 ?_
    refine lv_aload_n hx hb dX5_end_25 rfl (lv_at hl 0 rfl) ?_
    refine lv_iconst (v := 2) hx hb dX5_end_26 (by decide) ?_
    refine s_iald K hG (t := 5) (by decide) (cv hc2 (vp_lt ho1)) (show vp_in (nI 2) 6 from vp_in_nI (by decide) (by decide)) dX5_end_27 ?_
    rw [show ((2 : Int32)).toNatClampNeg = 2 from rfl]
    obtain ⟨ho5, hok⟩ := hok
    refine s_aald K hG (t := 4) (by decide) (by rw [hc2]; exact ho5) dX5_end_28 ?_
    refine lv_iconst (v := 3) hx hb dX5_end_29 (by decide) ?_
    refine lv_aload_n hx hb dX5_end_30 rfl (lv_at hl 1 rfl) ?_
    refine sg_X5_33 K hG dX5_end_31 ?_
    refine s_iast K hG hS (t := 4) (by decide) (cv hc2 (vp_lt ho5)) (show vp_in (nI 3) 6 from vp_in_nI (by decide) (by decide)) dX5_end_34 (fun I5 hI5 H locs hG hS => ?_)
    rw [show ((3 : Int32)).toNatClampNeg = 3 from rfl] at hI5
    have hok := hok I5 hI5
    have hc5 : ∀ t, cnt (I5 5) t = cnt (I 5) t := fun t => by rw [hI5, gU_at, cnt_u3 (by decide), hc2]
    have hr5 : ∀ t i, rln (I5 5) t i = rln (I 5) t i := fun t i => by rw [hI5, gU_at, rln_u3 (by decide), hr2]
    refine lv_goto (tgt := 62) hx hb dX5_end_35 (by decide) ?_
    have eS : I5 = (f_S_end I k x) := by simp only [f_S_end, ← hI1, ← hI2, ← hI5, if_neg c2]
    rw [eS] at hG
    exact W.widen (k := 0) (n := 0) (Nat.le_of_ble_eq_true rfl) (Nat.le_of_ble_eq_true rfl) (s_vret K hG (sKD.refl D (cnt (I 5) 9)) hS hr hlocks dX5_end_62)
def f_S_pitched_l1 (x : Int32) : Nat → Nat → Int32 → gI → Int32
  | 0, i, a, I =>
    a
  | n + 1, i, a, I =>
    if x < 0 then
      f_S_pitched_l1 x n (i + 1) (a + ((I 5 5 i 0) - (I 5 5 i 1))) I
    else
      if (I 5 5 i 2) = x then
        f_S_pitched_l1 x n (i + 1) (a + ((I 5 5 i 0) - (I 5 5 i 1))) I
      else
        f_S_pitched_l1 x n (i + 1) (a + 0) I
def ok_f_S_pitched_l1 (x : Int32) : Nat → Nat → Int32 → gI → Prop
  | 0, i, a, I =>
    True
  | n + 1, i, a, I =>
    ((x < 0) →
      ok_f_S_pitched_l1 x n (i + 1) (a + ((I 5 5 i 0) - (I 5 5 i 1))) I) ∧
    (¬ (x < 0) →
      (((I 5 5 i 2) = x) →
        ok_f_S_pitched_l1 x n (i + 1) (a + ((I 5 5 i 0) - (I 5 5 i 1))) I) ∧
      (¬ ((I 5 5 i 2) = x) →
        ok_f_S_pitched_l1 x n (i + 1) (a + 0) I))
def f_S_pitched (I : gI) (x : Int32) : Int32 :=
  f_S_pitched_l1 x (cnt (I 5) 5) 0 0 I
def ok_S_pitched (I : gI) (x : Int32) : Prop :=
  ok_f_S_pitched_l1 x (cnt (I 5) 5) 0 0 I
set_option maxHeartbeats 4000000 in
set_option maxRecDepth 100000 in
theorem m_S_pitched (l : Launch) (E : gE) (F : Nat → Prop) (J : Int64) (D : sD) (I : gI) (x : Int32) (hA : ∀ q, F q → gN E ≤ q)  (hok : ok_S_pitched I x) : sM l E yX5_pitched cX5_pitched 7 (some .int) 0 0 0 0 [.ref (D 0 0), .int x] (fun H => LW E F J D I H) (sQi E F J D I (f_S_pitched I x)) F := by
  refine s_entry (lv := [(0, .ref (D 0 0)), (1, .int x)]) (by decide) (Nat.le_of_ble_eq_true rfl) rfl ?_
  intro p e s m below meth c0 ls K hAO hG hS hml hr hlocks hl
  have hG : LW E F J D I s.heap := hG
  have K : kx E p m c0 cX5_pitched "HayThievesLaw$Sim" _ s := K
  have hx := K.1
  have hb := K.2.1
  have hts := K.2.2.1
  have hown := K.2.2.2.1
  have hSt := K.2.2.2.2
  unfold ok_S_pitched at hok
  refine lv_iconst (v := 0) hx hb dX5_pitched_0 (by decide) ?_
  refine lv_istore_n (lv' := [(2, .int 0), (0, .ref (D 0 0)), (1, .int x)]) hx hb dX5_pitched_1 rfl hl (by decide) rfl (fun ls hl => ?_)
  refine lv_aload_n hx hb dX5_pitched_2 rfl (lv_at hl 1 rfl) ?_
  refine sg_X5_25 K hG dX5_pitched_3 ?_
  refine lv_astore_n (lv' := [(3, .ref (D 1 5)), (2, .int 0), (0, .ref (D 0 0)), (1, .int x)]) hx hb dX5_pitched_6 rfl hl (by decide) rfl (fun ls hl => ?_)
  refine lv_aload_n hx hb dX5_pitched_7 rfl (lv_at hl 0 rfl) ?_
  refine s_alen1 K hG (t := 5) (by decide) dX5_pitched_8 ?_
  rw [hG.b.c 5, (show ∀ t, cnt (I 5) t = cnt (I 5) t from fun _ => rfl)]
  refine lv_istore (lv' := [(4, .int (nI (cnt (I 5) 5))), (3, .ref (D 1 5)), (2, .int 0), (0, .ref (D 0 0)), (1, .int x)]) hx hb dX5_pitched_9 hl (by decide) rfl (fun ls hl => ?_)
  refine lv_iconst (v := 0) hx hb dX5_pitched_11 (by decide) ?_
  refine lv_istore (lv' := [(5, .int 0), (4, .int (nI (cnt (I 5) 5))), (3, .ref (D 1 5)), (2, .int 0), (0, .ref (D 0 0)), (1, .int x)]) hx hb dX5_pitched_12 hl (by decide) rfl (fun ls hl => ?_)
  have hL : ∀ (n i : Nat) (a : Int32) (H : Heap) (locs : List Loc) (ls : Array Slot), i + n = cnt (I 5) 5 → f_S_pitched_l1 x n i a I = (f_S_pitched I x) → ok_f_S_pitched_l1 x n i a I → LW E F J D I H → va_S F s.heap H locs → lv_has ls 7 [(5, .int (nI i)), (2, .int a), (4, .int (nI (cnt (I 5) 5))), (3, .ref (D 1 5)), (0, .ref (D 0 0)), (1, .int x)] → W p l e (rmc 0 0 0 0) s m ([.ref (D 0 0), .int x] : List Value).toArray below meth c0 H locs 0 0 (MQ below (sQi E F J D I (f_S_pitched I x)) ([.ref (D 0 0), .int x] : List Value).toArray s 0 0 F) (F0 m 14 ls []) := by
    intro n
    induction n with
    | zero =>
      intro i a H locs ls hin hT hok hG hS hl
      unfold ok_f_S_pitched_l1 at hok
      refine lv_iload hx hb dX5_pitched_14 (lv_at hl 0 rfl) ?_
      refine lv_iload hx hb dX5_pitched_16 (lv_at hl 2 rfl) ?_
      refine lv_icmp_ge (tgt := 61) hx hb dX5_pitched_18 (by decide) (fun c1 => ?_) (fun c1 => ?_)
      · skip
        refine lv_iload_n hx hb dX5_pitched_61 rfl (lv_at hl 1 rfl) ?_
        exact s_iret K hG hS hr hlocks (by rw [← hT]; simp only [f_S_pitched_l1, if_pos c1]) dX5_pitched_62
      · exact absurd (nI_le (by omega) (by have := hG.b.cl 5; omega)) c1
    | succ n ih =>
      intro i a H locs ls hin hT hok hG hS hl
      unfold ok_f_S_pitched_l1 at hok
      refine lv_iload hx hb dX5_pitched_14 (lv_at hl 0 rfl) ?_
      refine lv_iload hx hb dX5_pitched_16 (lv_at hl 2 rfl) ?_
      refine lv_icmp_ge (tgt := 61) hx hb dX5_pitched_18 (by decide) (fun c2 => ?_) (fun c2 => ?_)
      · exact absurd c2 (nI_ge (by omega) (by have := hG.b.cl 5; omega))
      · skip
        refine lv_aload_n hx hb dX5_pitched_21 rfl (lv_at hl 3 rfl) ?_
        refine lv_iload hx hb dX5_pitched_22 (lv_at hl 0 rfl) ?_
        refine s_aald K hG (t := 5) (by decide) (vp_in_nI (cv (show ∀ t, cnt (I 5) t = cnt (I 5) t from fun _ => rfl) (show i < _ by omega)) (by have := hG.b.cl 5; omega)) dX5_pitched_24 ?_
        rw [nI_clamp (by have := hG.b.cl 5; omega)]
        refine lv_astore (lv' := [(6, .ref (D 5 i)), (5, .int (nI i)), (2, .int a), (4, .int (nI (cnt (I 5) 5))), (3, .ref (D 1 5)), (0, .ref (D 0 0)), (1, .int x)]) hx hb dX5_pitched_25 hl (by decide) rfl (fun ls hl => ?_)
        refine lv_iload_n hx hb dX5_pitched_27 rfl (lv_at hl 2 rfl) ?_
        refine lv_iload_n hx hb dX5_pitched_28 rfl (lv_at hl 6 rfl) ?_
        refine lv_if_lt (tgt := 40) hx hb dX5_pitched_29 (by decide) (fun c3 => ?_) (fun c3 => ?_)
        · have hok := hok.1 c3
          refine lv_aload hx hb dX5_pitched_40 (lv_at hl 0 rfl) ?_
          refine lv_iconst (v := 0) hx hb dX5_pitched_42 (by decide) ?_
          refine s_iald K hG (t := 5) (by decide) (cv (show ∀ t, cnt (I 5) t = cnt (I 5) t from fun _ => rfl) (show i < _ by omega)) (show vp_in (nI 0) 6 from vp_in_nI (by decide) (by decide)) dX5_pitched_43 ?_
          rw [show ((0 : Int32)).toNatClampNeg = 0 from rfl]
          refine lv_aload hx hb dX5_pitched_44 (lv_at hl 0 rfl) ?_
          refine lv_iconst (v := 1) hx hb dX5_pitched_46 (by decide) ?_
          refine s_iald K hG (t := 5) (by decide) (cv (show ∀ t, cnt (I 5) t = cnt (I 5) t from fun _ => rfl) (show i < _ by omega)) (show vp_in (nI 1) 6 from vp_in_nI (by decide) (by decide)) dX5_pitched_47 ?_
          rw [show ((1 : Int32)).toNatClampNeg = 1 from rfl]
          refine lv_isub hx hb dX5_pitched_48 ?_
          refine lv_goto (tgt := 53) hx hb dX5_pitched_49 (by decide) ?_
          refine lv_iadd hx hb dX5_pitched_53 ?_
          refine lv_istore_n (lv' := [(2, .int (a + ((I 5 5 i 0) - (I 5 5 i 1)))), (6, .ref (D 5 i)), (5, .int (nI i)), (4, .int (nI (cnt (I 5) 5))), (3, .ref (D 1 5)), (0, .ref (D 0 0)), (1, .int x)]) hx hb dX5_pitched_54 rfl hl (by decide) rfl (fun ls hl => ?_)
          refine lv_iinc (v := (nI (i + 1))) (lv' := [(5, .int (nI (i + 1))), (2, .int (a + ((I 5 5 i 0) - (I 5 5 i 1)))), (6, .ref (D 5 i)), (4, .int (nI (cnt (I 5) 5))), (3, .ref (D 1 5)), (0, .ref (D 0 0)), (1, .int x)]) hx hb dX5_pitched_55 hl (k := 2) rfl (nI_add i 1) (by decide) rfl (fun ls hl => ?_)
          refine lv_goto (tgt := 14) hx hb dX5_pitched_58 (by decide) ?_
          exact ih (i + 1) (a + ((I 5 5 i 0) - (I 5 5 i 1))) _ _ _ (by omega) (by rw [← hT]; simp only [f_S_pitched_l1, if_neg c2, if_pos c3]) hok hG hS (lv_sub hl [0, 1, 3, 4, 5, 6] rfl)
        · have hok := hok.2 c3
          refine lv_aload hx hb dX5_pitched_32 (lv_at hl 0 rfl) ?_
          refine lv_iconst (v := 2) hx hb dX5_pitched_34 (by decide) ?_
          refine s_iald K hG (t := 5) (by decide) (cv (show ∀ t, cnt (I 5) t = cnt (I 5) t from fun _ => rfl) (show i < _ by omega)) (show vp_in (nI 2) 6 from vp_in_nI (by decide) (by decide)) dX5_pitched_35 ?_
          rw [show ((2 : Int32)).toNatClampNeg = 2 from rfl]
          refine lv_iload_n hx hb dX5_pitched_36 rfl (lv_at hl 6 rfl) ?_
          refine lv_icmp_ne (tgt := 52) hx hb dX5_pitched_37 (by decide) (fun c4 => ?_) (fun c4 => ?_)
          · have hok := hok.2 c4
            refine lv_iconst (v := 0) hx hb dX5_pitched_52 (by decide) ?_
            refine lv_iadd hx hb dX5_pitched_53 ?_
            refine lv_istore_n (lv' := [(2, .int (a + 0)), (6, .ref (D 5 i)), (5, .int (nI i)), (4, .int (nI (cnt (I 5) 5))), (3, .ref (D 1 5)), (0, .ref (D 0 0)), (1, .int x)]) hx hb dX5_pitched_54 rfl hl (by decide) rfl (fun ls hl => ?_)
            refine lv_iinc (v := (nI (i + 1))) (lv' := [(5, .int (nI (i + 1))), (2, .int (a + 0)), (6, .ref (D 5 i)), (4, .int (nI (cnt (I 5) 5))), (3, .ref (D 1 5)), (0, .ref (D 0 0)), (1, .int x)]) hx hb dX5_pitched_55 hl (k := 2) rfl (nI_add i 1) (by decide) rfl (fun ls hl => ?_)
            refine lv_goto (tgt := 14) hx hb dX5_pitched_58 (by decide) ?_
            exact ih (i + 1) (a + 0) _ _ _ (by omega) (by rw [← hT]; simp only [f_S_pitched_l1, if_neg c2, if_neg c3, if_neg c4]) hok hG hS (lv_sub hl [0, 1, 3, 4, 5, 6] rfl)
          · have hok := hok.1 c4
            refine lv_aload hx hb dX5_pitched_40 (lv_at hl 0 rfl) ?_
            refine lv_iconst (v := 0) hx hb dX5_pitched_42 (by decide) ?_
            refine s_iald K hG (t := 5) (by decide) (cv (show ∀ t, cnt (I 5) t = cnt (I 5) t from fun _ => rfl) (show i < _ by omega)) (show vp_in (nI 0) 6 from vp_in_nI (by decide) (by decide)) dX5_pitched_43 ?_
            rw [show ((0 : Int32)).toNatClampNeg = 0 from rfl]
            refine lv_aload hx hb dX5_pitched_44 (lv_at hl 0 rfl) ?_
            refine lv_iconst (v := 1) hx hb dX5_pitched_46 (by decide) ?_
            refine s_iald K hG (t := 5) (by decide) (cv (show ∀ t, cnt (I 5) t = cnt (I 5) t from fun _ => rfl) (show i < _ by omega)) (show vp_in (nI 1) 6 from vp_in_nI (by decide) (by decide)) dX5_pitched_47 ?_
            rw [show ((1 : Int32)).toNatClampNeg = 1 from rfl]
            refine lv_isub hx hb dX5_pitched_48 ?_
            refine lv_goto (tgt := 53) hx hb dX5_pitched_49 (by decide) ?_
            refine lv_iadd hx hb dX5_pitched_53 ?_
            refine lv_istore_n (lv' := [(2, .int (a + ((I 5 5 i 0) - (I 5 5 i 1)))), (6, .ref (D 5 i)), (5, .int (nI i)), (4, .int (nI (cnt (I 5) 5))), (3, .ref (D 1 5)), (0, .ref (D 0 0)), (1, .int x)]) hx hb dX5_pitched_54 rfl hl (by decide) rfl (fun ls hl => ?_)
            refine lv_iinc (v := (nI (i + 1))) (lv' := [(5, .int (nI (i + 1))), (2, .int (a + ((I 5 5 i 0) - (I 5 5 i 1)))), (6, .ref (D 5 i)), (4, .int (nI (cnt (I 5) 5))), (3, .ref (D 1 5)), (0, .ref (D 0 0)), (1, .int x)]) hx hb dX5_pitched_55 hl (k := 2) rfl (nI_add i 1) (by decide) rfl (fun ls hl => ?_)
            refine lv_goto (tgt := 14) hx hb dX5_pitched_58 (by decide) ?_
            exact ih (i + 1) (a + ((I 5 5 i 0) - (I 5 5 i 1))) _ _ _ (by omega) (by rw [← hT]; simp only [f_S_pitched_l1, if_neg c2, if_neg c3, if_pos c4]) hok hG hS (lv_sub hl [0, 1, 3, 4, 5, 6] rfl)
  exact hL (cnt (I 5) 5) 0 0 _ _ _ (Nat.zero_add _) (by simp only [f_S_pitched]) hok hG hS (lv_sub hl [0, 3, 1, 2, 4, 5] rfl)
def f_S_made_l1 (x : Int32) : Nat → Nat → Int32 → gI → Int32
  | 0, i, a, I =>
    a
  | n + 1, i, a, I =>
    if (I 5 5 i 2) = x then
      f_S_made_l1 x n (i + 1) (a + 1) I
    else
      f_S_made_l1 x n (i + 1) (a + 0) I
def ok_f_S_made_l1 (x : Int32) : Nat → Nat → Int32 → gI → Prop
  | 0, i, a, I =>
    True
  | n + 1, i, a, I =>
    (((I 5 5 i 2) = x) →
      ok_f_S_made_l1 x n (i + 1) (a + 1) I) ∧
    (¬ ((I 5 5 i 2) = x) →
      ok_f_S_made_l1 x n (i + 1) (a + 0) I)
def f_S_made (I : gI) (x : Int32) : Int32 :=
  f_S_made_l1 x (cnt (I 5) 5) 0 0 I
def ok_S_made (I : gI) (x : Int32) : Prop :=
  ok_f_S_made_l1 x (cnt (I 5) 5) 0 0 I
set_option maxHeartbeats 4000000 in
set_option maxRecDepth 100000 in
theorem m_S_made (l : Launch) (E : gE) (F : Nat → Prop) (J : Int64) (D : sD) (I : gI) (x : Int32) (hA : ∀ q, F q → gN E ≤ q)  (hok : ok_S_made I x) : sM l E yX5_made cX5_made 7 (some .int) 0 0 0 0 [.ref (D 0 0), .int x] (fun H => LW E F J D I H) (sQi E F J D I (f_S_made I x)) F := by
  refine s_entry (lv := [(0, .ref (D 0 0)), (1, .int x)]) (by decide) (Nat.le_of_ble_eq_true rfl) rfl ?_
  intro p e s m below meth c0 ls K hAO hG hS hml hr hlocks hl
  have hG : LW E F J D I s.heap := hG
  have K : kx E p m c0 cX5_made "HayThievesLaw$Sim" _ s := K
  have hx := K.1
  have hb := K.2.1
  have hts := K.2.2.1
  have hown := K.2.2.2.1
  have hSt := K.2.2.2.2
  unfold ok_S_made at hok
  refine lv_iconst (v := 0) hx hb dX5_made_0 (by decide) ?_
  refine lv_istore_n (lv' := [(2, .int 0), (0, .ref (D 0 0)), (1, .int x)]) hx hb dX5_made_1 rfl hl (by decide) rfl (fun ls hl => ?_)
  refine lv_aload_n hx hb dX5_made_2 rfl (lv_at hl 1 rfl) ?_
  refine sg_X5_25 K hG dX5_made_3 ?_
  refine lv_astore_n (lv' := [(3, .ref (D 1 5)), (2, .int 0), (0, .ref (D 0 0)), (1, .int x)]) hx hb dX5_made_6 rfl hl (by decide) rfl (fun ls hl => ?_)
  refine lv_aload_n hx hb dX5_made_7 rfl (lv_at hl 0 rfl) ?_
  refine s_alen1 K hG (t := 5) (by decide) dX5_made_8 ?_
  rw [hG.b.c 5, (show ∀ t, cnt (I 5) t = cnt (I 5) t from fun _ => rfl)]
  refine lv_istore (lv' := [(4, .int (nI (cnt (I 5) 5))), (3, .ref (D 1 5)), (2, .int 0), (0, .ref (D 0 0)), (1, .int x)]) hx hb dX5_made_9 hl (by decide) rfl (fun ls hl => ?_)
  refine lv_iconst (v := 0) hx hb dX5_made_11 (by decide) ?_
  refine lv_istore (lv' := [(5, .int 0), (4, .int (nI (cnt (I 5) 5))), (3, .ref (D 1 5)), (2, .int 0), (0, .ref (D 0 0)), (1, .int x)]) hx hb dX5_made_12 hl (by decide) rfl (fun ls hl => ?_)
  have hL : ∀ (n i : Nat) (a : Int32) (H : Heap) (locs : List Loc) (ls : Array Slot), i + n = cnt (I 5) 5 → f_S_made_l1 x n i a I = (f_S_made I x) → ok_f_S_made_l1 x n i a I → LW E F J D I H → va_S F s.heap H locs → lv_has ls 7 [(5, .int (nI i)), (2, .int a), (4, .int (nI (cnt (I 5) 5))), (3, .ref (D 1 5)), (0, .ref (D 0 0)), (1, .int x)] → W p l e (rmc 0 0 0 0) s m ([.ref (D 0 0), .int x] : List Value).toArray below meth c0 H locs 0 0 (MQ below (sQi E F J D I (f_S_made I x)) ([.ref (D 0 0), .int x] : List Value).toArray s 0 0 F) (F0 m 14 ls []) := by
    intro n
    induction n with
    | zero =>
      intro i a H locs ls hin hT hok hG hS hl
      unfold ok_f_S_made_l1 at hok
      refine lv_iload hx hb dX5_made_14 (lv_at hl 0 rfl) ?_
      refine lv_iload hx hb dX5_made_16 (lv_at hl 2 rfl) ?_
      refine lv_icmp_ge (tgt := 49) hx hb dX5_made_18 (by decide) (fun c1 => ?_) (fun c1 => ?_)
      · skip
        refine lv_iload_n hx hb dX5_made_49 rfl (lv_at hl 1 rfl) ?_
        exact s_iret K hG hS hr hlocks (by rw [← hT]; simp only [f_S_made_l1, if_pos c1]) dX5_made_50
      · exact absurd (nI_le (by omega) (by have := hG.b.cl 5; omega)) c1
    | succ n ih =>
      intro i a H locs ls hin hT hok hG hS hl
      unfold ok_f_S_made_l1 at hok
      refine lv_iload hx hb dX5_made_14 (lv_at hl 0 rfl) ?_
      refine lv_iload hx hb dX5_made_16 (lv_at hl 2 rfl) ?_
      refine lv_icmp_ge (tgt := 49) hx hb dX5_made_18 (by decide) (fun c2 => ?_) (fun c2 => ?_)
      · exact absurd c2 (nI_ge (by omega) (by have := hG.b.cl 5; omega))
      · skip
        refine lv_aload_n hx hb dX5_made_21 rfl (lv_at hl 3 rfl) ?_
        refine lv_iload hx hb dX5_made_22 (lv_at hl 0 rfl) ?_
        refine s_aald K hG (t := 5) (by decide) (vp_in_nI (cv (show ∀ t, cnt (I 5) t = cnt (I 5) t from fun _ => rfl) (show i < _ by omega)) (by have := hG.b.cl 5; omega)) dX5_made_24 ?_
        rw [nI_clamp (by have := hG.b.cl 5; omega)]
        refine lv_astore (lv' := [(6, .ref (D 5 i)), (5, .int (nI i)), (2, .int a), (4, .int (nI (cnt (I 5) 5))), (3, .ref (D 1 5)), (0, .ref (D 0 0)), (1, .int x)]) hx hb dX5_made_25 hl (by decide) rfl (fun ls hl => ?_)
        refine lv_iload_n hx hb dX5_made_27 rfl (lv_at hl 2 rfl) ?_
        refine lv_aload hx hb dX5_made_28 (lv_at hl 0 rfl) ?_
        refine lv_iconst (v := 2) hx hb dX5_made_30 (by decide) ?_
        refine s_iald K hG (t := 5) (by decide) (cv (show ∀ t, cnt (I 5) t = cnt (I 5) t from fun _ => rfl) (show i < _ by omega)) (show vp_in (nI 2) 6 from vp_in_nI (by decide) (by decide)) dX5_made_31 ?_
        rw [show ((2 : Int32)).toNatClampNeg = 2 from rfl]
        refine lv_iload_n hx hb dX5_made_32 rfl (lv_at hl 6 rfl) ?_
        refine lv_icmp_ne (tgt := 40) hx hb dX5_made_33 (by decide) (fun c3 => ?_) (fun c3 => ?_)
        · have hok := hok.2 c3
          refine lv_iconst (v := 0) hx hb dX5_made_40 (by decide) ?_
          refine lv_iadd hx hb dX5_made_41 ?_
          refine lv_istore_n (lv' := [(2, .int (a + 0)), (6, .ref (D 5 i)), (5, .int (nI i)), (4, .int (nI (cnt (I 5) 5))), (3, .ref (D 1 5)), (0, .ref (D 0 0)), (1, .int x)]) hx hb dX5_made_42 rfl hl (by decide) rfl (fun ls hl => ?_)
          refine lv_iinc (v := (nI (i + 1))) (lv' := [(5, .int (nI (i + 1))), (2, .int (a + 0)), (6, .ref (D 5 i)), (4, .int (nI (cnt (I 5) 5))), (3, .ref (D 1 5)), (0, .ref (D 0 0)), (1, .int x)]) hx hb dX5_made_43 hl (k := 2) rfl (nI_add i 1) (by decide) rfl (fun ls hl => ?_)
          refine lv_goto (tgt := 14) hx hb dX5_made_46 (by decide) ?_
          exact ih (i + 1) (a + 0) _ _ _ (by omega) (by rw [← hT]; simp only [f_S_made_l1, if_neg c2, if_neg c3]) hok hG hS (lv_sub hl [0, 1, 3, 4, 5, 6] rfl)
        · have hok := hok.1 c3
          refine lv_iconst (v := 1) hx hb dX5_made_36 (by decide) ?_
          refine lv_goto (tgt := 41) hx hb dX5_made_37 (by decide) ?_
          refine lv_iadd hx hb dX5_made_41 ?_
          refine lv_istore_n (lv' := [(2, .int (a + 1)), (6, .ref (D 5 i)), (5, .int (nI i)), (4, .int (nI (cnt (I 5) 5))), (3, .ref (D 1 5)), (0, .ref (D 0 0)), (1, .int x)]) hx hb dX5_made_42 rfl hl (by decide) rfl (fun ls hl => ?_)
          refine lv_iinc (v := (nI (i + 1))) (lv' := [(5, .int (nI (i + 1))), (2, .int (a + 1)), (6, .ref (D 5 i)), (4, .int (nI (cnt (I 5) 5))), (3, .ref (D 1 5)), (0, .ref (D 0 0)), (1, .int x)]) hx hb dX5_made_43 hl (k := 2) rfl (nI_add i 1) (by decide) rfl (fun ls hl => ?_)
          refine lv_goto (tgt := 14) hx hb dX5_made_46 (by decide) ?_
          exact ih (i + 1) (a + 1) _ _ _ (by omega) (by rw [← hT]; simp only [f_S_made_l1, if_neg c2, if_pos c3]) hok hG hS (lv_sub hl [0, 1, 3, 4, 5, 6] rfl)
  exact hL (cnt (I 5) 5) 0 0 _ _ _ (Nat.zero_add _) (by simp only [f_S_made]) hok hG hS (lv_sub hl [0, 3, 1, 2, 4, 5] rfl)
