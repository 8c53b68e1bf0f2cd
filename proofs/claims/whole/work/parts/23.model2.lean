/-! PRINTED by wip/gen (ref.py): X6b -/
def ok_X6_come (I : gI) (x : Int32) : Prop :=
  ∀ I1, I1 = gU I 2 11 0 0 0 →
  ok_X6_isIn I1 x 1 9 ∧
  (((f_X6_isIn I1 x 1 9) = 0) →
    ok_X6_no I1 1 ∧
    ∀ I5, I5 = f_X6_no_s I1 1 →
    True) ∧
  (¬ ((f_X6_isIn I1 x 1 9) = 0) →
    (((I1 2 11 0 1) = 6) →
      ok_X6_no I1 2 ∧
      ∀ I4, I4 = f_X6_no_s I1 2 →
      True) ∧
    (¬ ((I1 2 11 0 1) = 6) →
      vp_in (I1 2 11 0 1) 6 ∧
      ∀ I2, I2 = gU I1 2 12 0 ((I1 2 11 0 1).toNatClampNeg) x →
      ∀ I3, I3 = gU I2 2 11 0 1 ((I2 2 11 0 1) + 1) →
      True))
def f_X6_come_v (I : gI) (x : Int32) : Int32 :=
  let I1 := gU I 2 11 0 0 0
  if (f_X6_isIn I1 x 1 9) = 0 then
    let I5 := f_X6_no_s I1 1
    (f_X6_no_v I1 1)
  else
    if (I1 2 11 0 1) = 6 then
      let I4 := f_X6_no_s I1 2
      (f_X6_no_v I1 2)
    else
      let I2 := gU I1 2 12 0 ((I1 2 11 0 1).toNatClampNeg) x
      let I3 := gU I2 2 11 0 1 ((I2 2 11 0 1) + 1)
      ((I3 2 11 0 1) - 1)
def f_X6_come_s (I : gI) (x : Int32) : gI :=
  let I1 := gU I 2 11 0 0 0
  if (f_X6_isIn I1 x 1 9) = 0 then
    let I5 := f_X6_no_s I1 1
    I5
  else
    if (I1 2 11 0 1) = 6 then
      let I4 := f_X6_no_s I1 2
      I4
    else
      let I2 := gU I1 2 12 0 ((I1 2 11 0 1).toNatClampNeg) x
      let I3 := gU I2 2 11 0 1 ((I2 2 11 0 1) + 1)
      I3
set_option maxHeartbeats 4000000 in
set_option maxRecDepth 100000 in
theorem m_X6_come (l : Launch) (E : gE) (J : Int64) (I : gI) (x : Int32) (hok : ok_X6_come I x) : gMi l E J yX6_come cX6_come 2 (some .int) 1 22 [.ref (gA E 2 11 0), .int x] I (f_X6_come_v I x) (f_X6_come_s I x) := by
  refine g_entry (lv := [(0, .ref (gA E 2 11 0)), (1, .int x)]) (by decide) (Nat.le_of_ble_eq_true rfl) rfl ?_
  intro p e s m below meth c0 ls K hG hS hml hr hlocks hl
  have K : kx E p m c0 cX6_come "HayThievesModel" _ s := K
  have hx := K.1
  have hb := K.2.1
  have hts := K.2.2.1
  have hown := K.2.2.2.1
  have hSt := K.2.2.2.2
  unfold ok_X6_come at hok
  refine lv_aload_n hx hb dX6_come_0 rfl (lv_at hl 0 rfl) ?_
  refine lv_iconst (v := 0) hx hb dX6_come_1 (by decide) ?_
  refine pf_X6_36 K hG hS rfl dX6_come_2 (fun I1 hI1 H locs hG hS => ?_)
  have hok := hok I1 hI1
  refine lv_iload_n hx hb dX6_come_5 rfl (lv_at hl 1 rfl) ?_
  refine lv_iconst (v := 1) hx hb dX6_come_6 (by decide) ?_
  refine lv_bipush (v := 9) hx hb dX6_come_7 (by decide) ?_
  obtain ⟨ho1, hok⟩ := hok
  refine g_ki (g_runS (As := [.int x, .int 1, .int 9]) (rest := []) K hml ca_X6_isIn q782 (m_X6_isIn l E J I1 x 1 9 ho1) hG hS rfl hl.1 (Nat.le_of_ble_eq_true rfl) ⟨by decide, by decide⟩ dX6_come_9 ⟨Nat.zero_le _, Nat.zero_le _⟩) hS (fun H locs hG hS => ?_)
  refine lv_if_ne (tgt := 21) hx hb dX6_come_12 (by decide) (fun c2 => ?_) (fun c2 => ?_)
  · have hok := hok.2 c2
    refine lv_aload_n hx hb dX6_come_21 rfl (lv_at hl 0 rfl) ?_
    refine gf_X6_39 K hG rfl dX6_come_22 ?_
    refine lv_bipush (v := 6) hx hb dX6_come_25 (by decide) ?_
    refine lv_icmp_ne (tgt := 36) hx hb dX6_come_27 (by decide) (fun c3 => ?_) (fun c3 => ?_)
    · have hok := hok.2 c3
      refine lv_aload_n hx hb dX6_come_36 rfl (lv_at hl 0 rfl) ?_
      refine gf_X6_9 K hG rfl dX6_come_37 ?_
      refine lv_aload_n hx hb dX6_come_40 rfl (lv_at hl 0 rfl) ?_
      refine gf_X6_39 K hG rfl dX6_come_41 ?_
      refine lv_iload_n hx hb dX6_come_44 rfl (lv_at hl 1 rfl) ?_
      obtain ⟨ho4, hok⟩ := hok
      refine g_iast K hG hS rfl rfl (fun _ => rfl) (fun _ q => absurd q.1 (by decide)) ho4 dX6_come_45 (fun I2 hI2 H locs hG hS => ?_)
      have hok := hok I2 hI2
      refine lv_aload_n hx hb dX6_come_46 rfl (lv_at hl 0 rfl) ?_
      refine lv_dup hx hb dX6_come_47 rfl ?_
      refine gf_X6_39 K hG rfl dX6_come_48 ?_
      refine lv_iconst (v := 1) hx hb dX6_come_51 (by decide) ?_
      refine lv_iadd hx hb dX6_come_52 ?_
      refine pf_X6_39 K hG hS rfl dX6_come_53 (fun I3 hI3 H locs hG hS => ?_)
      have hok := hok I3 hI3
      refine lv_aload_n hx hb dX6_come_56 rfl (lv_at hl 0 rfl) ?_
      refine gf_X6_39 K hG rfl dX6_come_57 ?_
      refine lv_iconst (v := 1) hx hb dX6_come_60 (by decide) ?_
      refine lv_isub hx hb dX6_come_61 ?_
      have eS : I3 = (f_X6_come_s I x) := (by simp only [f_X6_come_s, ← hI1, ← hI2, ← hI3, if_neg c2, if_neg c3])
      rw [eS] at hG
      exact g_iret K hG hS hr hlocks (by simp only [f_X6_come_v, ← hI1, ← hI2, ← hI3, if_neg c2, if_neg c3]) dX6_come_62
    · have hok := hok.1 c3
      refine lv_aload_n hx hb dX6_come_30 rfl (lv_at hl 0 rfl) ?_
      refine lv_iconst (v := 2) hx hb dX6_come_31 (by decide) ?_
      obtain ⟨ho5, hok⟩ := hok
      refine g_ki (g_runV (As := [.int 2]) (rest := []) K hml ca_X6_no q785 (m_X6_no l E J I1 2 ho5) hG hS rfl rfl rfl rfl rfl hl.1 (Nat.le_of_ble_eq_true rfl) ⟨by decide, by decide⟩ dX6_come_32 ⟨Nat.zero_le _, Nat.zero_le _⟩) hS (fun H locs hG hS => ?_)
      obtain ⟨I4, hI4⟩ : ∃ z, z = f_X6_no_s I1 2 := ⟨_, rfl⟩
      rw [← hI4] at hG
      have hok := hok I4 hI4
      have eS : I4 = (f_X6_come_s I x) := (by simp only [f_X6_come_s, ← hI1, ← hI4, if_neg c2, if_pos c3])
      rw [eS] at hG
      exact g_iret K hG hS hr hlocks (by simp only [f_X6_come_v, ← hI1, ← hI4, if_neg c2, if_pos c3]) dX6_come_35
  · have hok := hok.1 c2
    refine lv_aload_n hx hb dX6_come_15 rfl (lv_at hl 0 rfl) ?_
    refine lv_iconst (v := 1) hx hb dX6_come_16 (by decide) ?_
    obtain ⟨ho6, hok⟩ := hok
    refine g_ki (g_runV (As := [.int 1]) (rest := []) K hml ca_X6_no q785 (m_X6_no l E J I1 1 ho6) hG hS rfl rfl rfl rfl rfl hl.1 (Nat.le_of_ble_eq_true rfl) ⟨by decide, by decide⟩ dX6_come_17 ⟨Nat.zero_le _, Nat.zero_le _⟩) hS (fun H locs hG hS => ?_)
    obtain ⟨I5, hI5⟩ : ∃ z, z = f_X6_no_s I1 1 := ⟨_, rfl⟩
    rw [← hI5] at hG
    have hok := hok I5 hI5
    have eS : I5 = (f_X6_come_s I x) := (by simp only [f_X6_come_s, ← hI1, ← hI5, if_pos c2])
    rw [eS] at hG
    exact g_iret K hG hS hr hlocks (by simp only [f_X6_come_v, ← hI1, ← hI5, if_pos c2]) dX6_come_20
def ok_X6_setWay (I : gI) (x b : Int32) : Prop :=
  ∀ I1, I1 = gU I 2 11 0 0 0 →
  ok_X6_isLad I1 x ∧
  (((f_X6_isLad I1 x) = 0) →
    ok_X6_no I1 1 ∧
    ∀ I2, I2 = f_X6_no_s I1 1 →
    True) ∧
  (¬ ((f_X6_isLad I1 x) = 0) →
    ok_X6_isIn I1 b 0 2 ∧
    (((f_X6_isIn I1 b 0 2) = 0) →
      ok_X6_no I1 1 ∧
      ∀ I4, I4 = f_X6_no_s I1 1 →
      True) ∧
    (¬ ((f_X6_isIn I1 b 0 2) = 0) →
      vp_in x 6 ∧
      ∀ I3, I3 = gU I1 2 13 0 x.toNatClampNeg b →
      True))
def f_X6_setWay_v (I : gI) (x b : Int32) : Int32 :=
  let I1 := gU I 2 11 0 0 0
  if (f_X6_isLad I1 x) = 0 then
    let I2 := f_X6_no_s I1 1
    (f_X6_no_v I1 1)
  else
    if (f_X6_isIn I1 b 0 2) = 0 then
      let I4 := f_X6_no_s I1 1
      (f_X6_no_v I1 1)
    else
      let I3 := gU I1 2 13 0 x.toNatClampNeg b
      (I1 2 13 0 x.toNatClampNeg)
def f_X6_setWay_s (I : gI) (x b : Int32) : gI :=
  let I1 := gU I 2 11 0 0 0
  if (f_X6_isLad I1 x) = 0 then
    let I2 := f_X6_no_s I1 1
    I2
  else
    if (f_X6_isIn I1 b 0 2) = 0 then
      let I4 := f_X6_no_s I1 1
      I4
    else
      let I3 := gU I1 2 13 0 x.toNatClampNeg b
      I3
set_option maxHeartbeats 4000000 in
set_option maxRecDepth 100000 in
theorem m_X6_setWay (l : Launch) (E : gE) (J : Int64) (I : gI) (x b : Int32) (hok : ok_X6_setWay I x b) : gMi l E J yX6_setWay cX6_setWay 4 (some .int) 2 43 [.ref (gA E 2 11 0), .int x, .int b] I (f_X6_setWay_v I x b) (f_X6_setWay_s I x b) := by
  refine g_entry (lv := [(0, .ref (gA E 2 11 0)), (1, .int x), (2, .int b)]) (by decide) (Nat.le_of_ble_eq_true rfl) rfl ?_
  intro p e s m below meth c0 ls K hG hS hml hr hlocks hl
  have K : kx E p m c0 cX6_setWay "HayThievesModel" _ s := K
  have hx := K.1
  have hb := K.2.1
  have hts := K.2.2.1
  have hown := K.2.2.2.1
  have hSt := K.2.2.2.2
  unfold ok_X6_setWay at hok
  refine lv_aload_n hx hb dX6_setWay_0 rfl (lv_at hl 0 rfl) ?_
  refine lv_iconst (v := 0) hx hb dX6_setWay_1 (by decide) ?_
  refine pf_X6_36 K hG hS rfl dX6_setWay_2 (fun I1 hI1 H locs hG hS => ?_)
  have hok := hok I1 hI1
  refine lv_aload_n hx hb dX6_setWay_5 rfl (lv_at hl 0 rfl) ?_
  refine lv_iload_n hx hb dX6_setWay_6 rfl (lv_at hl 1 rfl) ?_
  obtain ⟨ho1, hok⟩ := hok
  refine g_ki (g_runV (As := [.int x]) (rest := []) K hml ca_X6_isLad q793 (m_X6_isLad l E J I1 x ho1) hG hS rfl rfl rfl rfl rfl hl.1 (Nat.le_of_ble_eq_true rfl) ⟨by decide, by decide⟩ dX6_setWay_7 ⟨Nat.zero_le _, Nat.zero_le _⟩) hS (fun H locs hG hS => ?_)
  refine lv_if_eq (tgt := 22) hx hb dX6_setWay_10 (by decide) (fun c2 => ?_) (fun c2 => ?_)
  · have hok := hok.1 c2
    refine lv_aload_n hx hb dX6_setWay_22 rfl (lv_at hl 0 rfl) ?_
    refine lv_iconst (v := 1) hx hb dX6_setWay_23 (by decide) ?_
    obtain ⟨ho3, hok⟩ := hok
    refine g_ki (g_runV (As := [.int 1]) (rest := []) K hml ca_X6_no q785 (m_X6_no l E J I1 1 ho3) hG hS rfl rfl rfl rfl rfl hl.1 (Nat.le_of_ble_eq_true rfl) ⟨by decide, by decide⟩ dX6_setWay_24 ⟨Nat.zero_le _, Nat.zero_le _⟩) hS (fun H locs hG hS => ?_)
    obtain ⟨I2, hI2⟩ : ∃ z, z = f_X6_no_s I1 1 := ⟨_, rfl⟩
    rw [← hI2] at hG
    have hok := hok I2 hI2
    have eS : I2 = (f_X6_setWay_s I x b) := (by simp only [f_X6_setWay_s, ← hI1, ← hI2, if_pos c2])
    rw [eS] at hG
    exact g_iret K hG hS hr hlocks (by simp only [f_X6_setWay_v, ← hI1, ← hI2, if_pos c2]) dX6_setWay_27
  · have hok := hok.2 c2
    refine lv_iload_n hx hb dX6_setWay_13 rfl (lv_at hl 2 rfl) ?_
    refine lv_iconst (v := 0) hx hb dX6_setWay_14 (by decide) ?_
    refine lv_iconst (v := 2) hx hb dX6_setWay_15 (by decide) ?_
    obtain ⟨ho4, hok⟩ := hok
    refine g_ki (g_runS (As := [.int b, .int 0, .int 2]) (rest := []) K hml ca_X6_isIn q782 (m_X6_isIn l E J I1 b 0 2 ho4) hG hS rfl hl.1 (Nat.le_of_ble_eq_true rfl) ⟨by decide, by decide⟩ dX6_setWay_16 ⟨Nat.zero_le _, Nat.zero_le _⟩) hS (fun H locs hG hS => ?_)
    refine lv_if_ne (tgt := 28) hx hb dX6_setWay_19 (by decide) (fun c5 => ?_) (fun c5 => ?_)
    · have hok := hok.2 c5
      refine lv_aload_n hx hb dX6_setWay_28 rfl (lv_at hl 0 rfl) ?_
      refine gf_X6_13 K hG rfl dX6_setWay_29 ?_
      refine lv_iload_n hx hb dX6_setWay_32 rfl (lv_at hl 1 rfl) ?_
      obtain ⟨ho6, hok⟩ := hok
      refine g_iald K hG rfl rfl (fun _ => rfl) ho6 dX6_setWay_33 ?_
      refine lv_istore_n (lv' := [(3, .int (I1 2 13 0 x.toNatClampNeg)), (0, .ref (gA E 2 11 0)), (1, .int x), (2, .int b)]) hx hb dX6_setWay_34 rfl hl (by decide) rfl (fun ls hl => ?_)
      refine lv_aload_n hx hb dX6_setWay_35 rfl (lv_at hl 1 rfl) ?_
      refine gf_X6_13 K hG rfl dX6_setWay_36 ?_
      refine lv_iload_n hx hb dX6_setWay_39 rfl (lv_at hl 2 rfl) ?_
      refine lv_iload_n hx hb dX6_setWay_40 rfl (lv_at hl 3 rfl) ?_
      refine g_iast K hG hS rfl rfl (fun _ => rfl) (fun _ q => absurd q.1 (by decide)) ho6 dX6_setWay_41 (fun I3 hI3 H locs hG hS => ?_)
      have hok := hok I3 hI3
      refine lv_iload_n hx hb dX6_setWay_42 rfl (lv_at hl 0 rfl) ?_
      have eS : I3 = (f_X6_setWay_s I x b) := (by simp only [f_X6_setWay_s, ← hI1, ← hI3, if_neg c2, if_neg c5])
      rw [eS] at hG
      exact g_iret K hG hS hr hlocks (by simp only [f_X6_setWay_v, ← hI1, ← hI3, if_neg c2, if_neg c5]) dX6_setWay_43
    · have hok := hok.1 c5
      refine lv_aload_n hx hb dX6_setWay_22 rfl (lv_at hl 0 rfl) ?_
      refine lv_iconst (v := 1) hx hb dX6_setWay_23 (by decide) ?_
      obtain ⟨ho7, hok⟩ := hok
      refine g_ki (g_runV (As := [.int 1]) (rest := []) K hml ca_X6_no q785 (m_X6_no l E J I1 1 ho7) hG hS rfl rfl rfl rfl rfl hl.1 (Nat.le_of_ble_eq_true rfl) ⟨by decide, by decide⟩ dX6_setWay_24 ⟨Nat.zero_le _, Nat.zero_le _⟩) hS (fun H locs hG hS => ?_)
      obtain ⟨I4, hI4⟩ : ∃ z, z = f_X6_no_s I1 1 := ⟨_, rfl⟩
      rw [← hI4] at hG
      have hok := hok I4 hI4
      have eS : I4 = (f_X6_setWay_s I x b) := (by simp only [f_X6_setWay_s, ← hI1, ← hI4, if_neg c2, if_pos c5])
      rw [eS] at hG
      exact g_iret K hG hS hr hlocks (by simp only [f_X6_setWay_v, ← hI1, ← hI4, if_neg c2, if_pos c5]) dX6_setWay_27
def ok_X6_setFork (I : gI) (x : Int32) : Prop :=
  ∀ I1, I1 = gU I 2 11 0 0 0 →
  ok_X6_isIn I1 x 4 60 ∧
  (((f_X6_isIn I1 x 4 60) = 0) →
    ok_X6_no I1 1 ∧
    ∀ I3, I3 = f_X6_no_s I1 1 →
    True) ∧
  (¬ ((f_X6_isIn I1 x 4 60) = 0) →
    ∀ I2, I2 = gU I1 2 11 0 7 x →
    True)
def f_X6_setFork_v (I : gI) (x : Int32) : Int32 :=
  let I1 := gU I 2 11 0 0 0
  if (f_X6_isIn I1 x 4 60) = 0 then
    let I3 := f_X6_no_s I1 1
    (f_X6_no_v I1 1)
  else
    let I2 := gU I1 2 11 0 7 x
    (I1 2 11 0 7)
def f_X6_setFork_s (I : gI) (x : Int32) : gI :=
  let I1 := gU I 2 11 0 0 0
  if (f_X6_isIn I1 x 4 60) = 0 then
    let I3 := f_X6_no_s I1 1
    I3
  else
    let I2 := gU I1 2 11 0 7 x
    I2
set_option maxHeartbeats 4000000 in
set_option maxRecDepth 100000 in
theorem m_X6_setFork (l : Launch) (E : gE) (J : Int64) (I : gI) (x : Int32) (hok : ok_X6_setFork I x) : gMi l E J yX6_setFork cX6_setFork 3 (some .int) 1 22 [.ref (gA E 2 11 0), .int x] I (f_X6_setFork_v I x) (f_X6_setFork_s I x) := by
  refine g_entry (lv := [(0, .ref (gA E 2 11 0)), (1, .int x)]) (by decide) (Nat.le_of_ble_eq_true rfl) rfl ?_
  intro p e s m below meth c0 ls K hG hS hml hr hlocks hl
  have K : kx E p m c0 cX6_setFork "HayThievesModel" _ s := K
  have hx := K.1
  have hb := K.2.1
  have hts := K.2.2.1
  have hown := K.2.2.2.1
  have hSt := K.2.2.2.2
  unfold ok_X6_setFork at hok
  refine lv_aload_n hx hb dX6_setFork_0 rfl (lv_at hl 0 rfl) ?_
  refine lv_iconst (v := 0) hx hb dX6_setFork_1 (by decide) ?_
  refine pf_X6_36 K hG hS rfl dX6_setFork_2 (fun I1 hI1 H locs hG hS => ?_)
  have hok := hok I1 hI1
  refine lv_iload_n hx hb dX6_setFork_5 rfl (lv_at hl 1 rfl) ?_
  refine lv_iconst (v := 4) hx hb dX6_setFork_6 (by decide) ?_
  refine lv_bipush (v := 60) hx hb dX6_setFork_7 (by decide) ?_
  obtain ⟨ho1, hok⟩ := hok
  refine g_ki (g_runS (As := [.int x, .int 4, .int 60]) (rest := []) K hml ca_X6_isIn q782 (m_X6_isIn l E J I1 x 4 60 ho1) hG hS rfl hl.1 (Nat.le_of_ble_eq_true rfl) ⟨by decide, by decide⟩ dX6_setFork_9 ⟨Nat.zero_le _, Nat.zero_le _⟩) hS (fun H locs hG hS => ?_)
  refine lv_if_ne (tgt := 21) hx hb dX6_setFork_12 (by decide) (fun c2 => ?_) (fun c2 => ?_)
  · have hok := hok.2 c2
    refine lv_aload_n hx hb dX6_setFork_21 rfl (lv_at hl 0 rfl) ?_
    refine gf_X6_22 K hG rfl dX6_setFork_22 ?_
    refine lv_istore_n (lv' := [(2, .int (I1 2 11 0 7)), (0, .ref (gA E 2 11 0)), (1, .int x)]) hx hb dX6_setFork_25 rfl hl (by decide) rfl (fun ls hl => ?_)
    refine lv_aload_n hx hb dX6_setFork_26 rfl (lv_at hl 1 rfl) ?_
    refine lv_iload_n hx hb dX6_setFork_27 rfl (lv_at hl 2 rfl) ?_
    refine pf_X6_22 K hG hS rfl dX6_setFork_28 (fun I2 hI2 H locs hG hS => ?_)
    have hok := hok I2 hI2
    refine lv_iload_n hx hb dX6_setFork_31 rfl (lv_at hl 0 rfl) ?_
    have eS : I2 = (f_X6_setFork_s I x) := (by simp only [f_X6_setFork_s, ← hI1, ← hI2, if_neg c2])
    rw [eS] at hG
    exact g_iret K hG hS hr hlocks (by simp only [f_X6_setFork_v, ← hI1, ← hI2, if_neg c2]) dX6_setFork_32
  · have hok := hok.1 c2
    refine lv_aload_n hx hb dX6_setFork_15 rfl (lv_at hl 0 rfl) ?_
    refine lv_iconst (v := 1) hx hb dX6_setFork_16 (by decide) ?_
    obtain ⟨ho3, hok⟩ := hok
    refine g_ki (g_runV (As := [.int 1]) (rest := []) K hml ca_X6_no q785 (m_X6_no l E J I1 1 ho3) hG hS rfl rfl rfl rfl rfl hl.1 (Nat.le_of_ble_eq_true rfl) ⟨by decide, by decide⟩ dX6_setFork_17 ⟨Nat.zero_le _, Nat.zero_le _⟩) hS (fun H locs hG hS => ?_)
    obtain ⟨I3, hI3⟩ : ∃ z, z = f_X6_no_s I1 1 := ⟨_, rfl⟩
    rw [← hI3] at hG
    have hok := hok I3 hI3
    have eS : I3 = (f_X6_setFork_s I x) := (by simp only [f_X6_setFork_s, ← hI1, ← hI3, if_pos c2])
    rw [eS] at hG
    exact g_iret K hG hS hr hlocks (by simp only [f_X6_setFork_v, ← hI1, ← hI3, if_pos c2]) dX6_setFork_20
def f_X6_bring_l1_v (x : Int32) : Nat → Nat → gI → Int32
  | 0, i, I9 =>
    let I10 := gU I9 2 11 0 4 ((I9 2 11 0 4) + 1)
    ((I10 2 11 0 4) - 1)
  | n + 1, i, I9 =>
    if (I9 3 25 0 i) = 3 then
      let I11 := gU I9 3 25 0 i 0
      f_X6_bring_l1_v x n (i + 1) I11
    else
      f_X6_bring_l1_v x n (i + 1) I9
def f_X6_bring_l1_s (x : Int32) : Nat → Nat → gI → gI
  | 0, i, I9 =>
    let I10 := gU I9 2 11 0 4 ((I9 2 11 0 4) + 1)
    I10
  | n + 1, i, I9 =>
    if (I9 3 25 0 i) = 3 then
      let I11 := gU I9 3 25 0 i 0
      f_X6_bring_l1_s x n (i + 1) I11
    else
      f_X6_bring_l1_s x n (i + 1) I9
def ok_f_X6_bring_l1 (x : Int32) : Nat → Nat → gI → Prop
  | 0, i, I9 =>
    (I9 2 11 0 1) = nI (i + 0) ∧
    ∀ I10, I10 = gU I9 2 11 0 4 ((I9 2 11 0 4) + 1) →
    True
  | n + 1, i, I9 =>
    (I9 2 11 0 1) = nI (i + (n + 1)) ∧
    (((I9 3 25 0 i) = 3) →
      ∀ I11, I11 = gU I9 3 25 0 i 0 →
      ok_f_X6_bring_l1 x n (i + 1) I11) ∧
    (¬ ((I9 3 25 0 i) = 3) →
      ok_f_X6_bring_l1 x n (i + 1) I9)
def ok_X6_bring (I : gI) (x : Int32) : Prop :=
  ∀ I1, I1 = gU I 2 11 0 0 0 →
  ok_X6_isIn I1 x 1 60 ∧
  (((f_X6_isIn I1 x 1 60) = 0) →
    ok_X6_no I1 1 ∧
    ∀ I13, I13 = f_X6_no_s I1 1 →
    True) ∧
  (¬ ((f_X6_isIn I1 x 1 60) = 0) →
    (((I1 2 11 0 4) = 10) →
      ok_X6_no I1 2 ∧
      ∀ I12, I12 = f_X6_no_s I1 2 →
      True) ∧
    (¬ ((I1 2 11 0 4) = 10) →
      vp_in (I1 2 11 0 4) 10 ∧
      ∀ I2, I2 = gU I1 2 14 0 ((I1 2 11 0 4).toNatClampNeg) x →
      vp_in (I2 2 11 0 4) 10 ∧
      ∀ I3, I3 = gU I2 2 15 0 ((I2 2 11 0 4).toNatClampNeg) (I2 3 20 0 0) →
      vp_in (I3 2 11 0 4) 10 ∧
      ∀ I4, I4 = gU I3 3 33 0 ((I3 2 11 0 4).toNatClampNeg) 0 →
      vp_in (I4 2 11 0 4) 10 ∧
      ∀ I5, I5 = gU I4 3 35 0 ((I4 2 11 0 4).toNatClampNeg) (-1) →
      vp_in (I5 2 11 0 4) 10 ∧
      ∀ I6, I6 = gU I5 3 36 0 ((I5 2 11 0 4).toNatClampNeg) 1 →
      ok_X5_add I6 3 x (I6 2 11 0 4) (-1) ∧
      ∀ I7, I7 = f_X5_add_s I6 3 x (I6 2 11 0 4) (-1) →
      vp_in (I6 2 11 0 4) 10 ∧
      ∀ I8, I8 = gU I7 3 34 0 ((I6 2 11 0 4).toNatClampNeg) (f_X5_add_v I6 3 x (I6 2 11 0 4) (-1)) →
      isN (I8 2 11 0 1) 6 ∧
      ok_f_X6_bring_l1 x ((I8 2 11 0 1).toNatClampNeg) 0 I8))
def f_X6_bring_v (I : gI) (x : Int32) : Int32 :=
  let I1 := gU I 2 11 0 0 0
  if (f_X6_isIn I1 x 1 60) = 0 then
    let I13 := f_X6_no_s I1 1
    (f_X6_no_v I1 1)
  else
    if (I1 2 11 0 4) = 10 then
      let I12 := f_X6_no_s I1 2
      (f_X6_no_v I1 2)
    else
      let I2 := gU I1 2 14 0 ((I1 2 11 0 4).toNatClampNeg) x
      let I3 := gU I2 2 15 0 ((I2 2 11 0 4).toNatClampNeg) (I2 3 20 0 0)
      let I4 := gU I3 3 33 0 ((I3 2 11 0 4).toNatClampNeg) 0
      let I5 := gU I4 3 35 0 ((I4 2 11 0 4).toNatClampNeg) (-1)
      let I6 := gU I5 3 36 0 ((I5 2 11 0 4).toNatClampNeg) 1
      let I7 := f_X5_add_s I6 3 x (I6 2 11 0 4) (-1)
      let I8 := gU I7 3 34 0 ((I6 2 11 0 4).toNatClampNeg) (f_X5_add_v I6 3 x (I6 2 11 0 4) (-1))
      f_X6_bring_l1_v x ((I8 2 11 0 1).toNatClampNeg) 0 I8
def f_X6_bring_s (I : gI) (x : Int32) : gI :=
  let I1 := gU I 2 11 0 0 0
  if (f_X6_isIn I1 x 1 60) = 0 then
    let I13 := f_X6_no_s I1 1
    I13
  else
    if (I1 2 11 0 4) = 10 then
      let I12 := f_X6_no_s I1 2
      I12
    else
      let I2 := gU I1 2 14 0 ((I1 2 11 0 4).toNatClampNeg) x
      let I3 := gU I2 2 15 0 ((I2 2 11 0 4).toNatClampNeg) (I2 3 20 0 0)
      let I4 := gU I3 3 33 0 ((I3 2 11 0 4).toNatClampNeg) 0
      let I5 := gU I4 3 35 0 ((I4 2 11 0 4).toNatClampNeg) (-1)
      let I6 := gU I5 3 36 0 ((I5 2 11 0 4).toNatClampNeg) 1
      let I7 := f_X5_add_s I6 3 x (I6 2 11 0 4) (-1)
      let I8 := gU I7 3 34 0 ((I6 2 11 0 4).toNatClampNeg) (f_X5_add_v I6 3 x (I6 2 11 0 4) (-1))
      f_X6_bring_l1_s x ((I8 2 11 0 1).toNatClampNeg) 0 I8
set_option maxHeartbeats 4000000 in
set_option maxRecDepth 100000 in
theorem m_X6_bring (l : Launch) (E : gE) (J : Int64) (I : gI) (x : Int32) (hok : ok_X6_bring I x) : gMi l E J yX6_bring cX6_bring 3 (some .int) 1 23 [.ref (gA E 2 11 0), .int x] I (f_X6_bring_v I x) (f_X6_bring_s I x) := by
  refine g_entry (lv := [(0, .ref (gA E 2 11 0)), (1, .int x)]) (by decide) (Nat.le_of_ble_eq_true rfl) rfl ?_
  intro p e s m below meth c0 ls K hG hS hml hr hlocks hl
  have K : kx E p m c0 cX6_bring "HayThievesModel" _ s := K
  have hx := K.1
  have hb := K.2.1
  have hts := K.2.2.1
  have hown := K.2.2.2.1
  have hSt := K.2.2.2.2
  unfold ok_X6_bring at hok
  refine lv_aload_n hx hb dX6_bring_0 rfl (lv_at hl 0 rfl) ?_
  refine lv_iconst (v := 0) hx hb dX6_bring_1 (by decide) ?_
  refine pf_X6_36 K hG hS rfl dX6_bring_2 (fun I1 hI1 H locs hG hS => ?_)
  have hok := hok I1 hI1
  refine lv_iload_n hx hb dX6_bring_5 rfl (lv_at hl 1 rfl) ?_
  refine lv_iconst (v := 1) hx hb dX6_bring_6 (by decide) ?_
  refine lv_bipush (v := 60) hx hb dX6_bring_7 (by decide) ?_
  obtain ⟨ho1, hok⟩ := hok
  refine g_ki (g_runS (As := [.int x, .int 1, .int 60]) (rest := []) K hml ca_X6_isIn q782 (m_X6_isIn l E J I1 x 1 60 ho1) hG hS rfl hl.1 (Nat.le_of_ble_eq_true rfl) ⟨by decide, by decide⟩ dX6_bring_9 ⟨Nat.zero_le _, Nat.zero_le _⟩) hS (fun H locs hG hS => ?_)
  refine lv_if_ne (tgt := 21) hx hb dX6_bring_12 (by decide) (fun c2 => ?_) (fun c2 => ?_)
  · have hok := hok.2 c2
    refine lv_aload_n hx hb dX6_bring_21 rfl (lv_at hl 0 rfl) ?_
    refine gf_X6_46 K hG rfl dX6_bring_22 ?_
    refine lv_bipush (v := 10) hx hb dX6_bring_25 (by decide) ?_
    refine lv_icmp_ne (tgt := 36) hx hb dX6_bring_27 (by decide) (fun c3 => ?_) (fun c3 => ?_)
    · have hok := hok.2 c3
      refine lv_aload_n hx hb dX6_bring_36 rfl (lv_at hl 0 rfl) ?_
      refine gf_X6_16 K hG rfl dX6_bring_37 ?_
      refine lv_aload_n hx hb dX6_bring_40 rfl (lv_at hl 0 rfl) ?_
      refine gf_X6_46 K hG rfl dX6_bring_41 ?_
      refine lv_iload_n hx hb dX6_bring_44 rfl (lv_at hl 1 rfl) ?_
      obtain ⟨ho4, hok⟩ := hok
      refine g_iast K hG hS rfl rfl (fun _ => rfl) (fun _ q => absurd q.1 (by decide)) ho4 dX6_bring_45 (fun I2 hI2 H locs hG hS => ?_)
      have hok := hok I2 hI2
      refine lv_aload_n hx hb dX6_bring_46 rfl (lv_at hl 0 rfl) ?_
      refine gf_X6_19 K hG rfl dX6_bring_47 ?_
      refine lv_aload_n hx hb dX6_bring_50 rfl (lv_at hl 0 rfl) ?_
      refine gf_X6_46 K hG rfl dX6_bring_51 ?_
      refine lv_aload_n hx hb dX6_bring_54 rfl (lv_at hl 0 rfl) ?_
      refine gf_X6_29 K hG rfl dX6_bring_55 ?_
      refine gf_X6_120 K hG (gvs (Or.inl rfl) 20 rfl) dX6_bring_58 ?_
      obtain ⟨ho5, hok⟩ := hok
      refine g_iast K hG hS rfl rfl (fun _ => rfl) (fun _ q => absurd q.1 (by decide)) ho5 dX6_bring_61 (fun I3 hI3 H locs hG hS => ?_)
      have hok := hok I3 hI3
      refine lv_aload_n hx hb dX6_bring_62 rfl (lv_at hl 0 rfl) ?_
      refine gf_X6_29 K hG rfl dX6_bring_63 ?_
      refine gf_X6_63 K hG (gvs (Or.inl rfl) 20 rfl) dX6_bring_66 ?_
      refine lv_aload_n hx hb dX6_bring_69 rfl (lv_at hl 0 rfl) ?_
      refine gf_X6_46 K hG rfl dX6_bring_70 ?_
      refine lv_iconst (v := 0) hx hb dX6_bring_73 (by decide) ?_
      obtain ⟨ho6, hok⟩ := hok
      refine g_iast K hG hS (gvs (Or.inl rfl) 33 rfl) rfl (fun _ => rfl) (fun _ q => absurd q.1 (by decide)) ho6 dX6_bring_74 (fun I4 hI4 H locs hG hS => ?_)
      have hok := hok I4 hI4
      refine lv_aload_n hx hb dX6_bring_75 rfl (lv_at hl 0 rfl) ?_
      refine gf_X6_29 K hG rfl dX6_bring_76 ?_
      refine gf_X6_134 K hG (gvs (Or.inl rfl) 20 rfl) dX6_bring_79 ?_
      refine lv_aload_n hx hb dX6_bring_82 rfl (lv_at hl 0 rfl) ?_
      refine gf_X6_46 K hG rfl dX6_bring_83 ?_
      refine lv_iconst (v := (-1)) hx hb dX6_bring_86 (by decide) ?_
      obtain ⟨ho7, hok⟩ := hok
      refine g_iast K hG hS (gvs (Or.inl rfl) 35 rfl) rfl (fun _ => rfl) (fun _ q => absurd q.1 (by decide)) ho7 dX6_bring_87 (fun I5 hI5 H locs hG hS => ?_)
      have hok := hok I5 hI5
      refine lv_aload_n hx hb dX6_bring_88 rfl (lv_at hl 0 rfl) ?_
      refine gf_X6_29 K hG rfl dX6_bring_89 ?_
      refine gf_X6_137 K hG (gvs (Or.inl rfl) 20 rfl) dX6_bring_92 ?_
      refine lv_aload_n hx hb dX6_bring_95 rfl (lv_at hl 0 rfl) ?_
      refine gf_X6_46 K hG rfl dX6_bring_96 ?_
      refine lv_iconst (v := 1) hx hb dX6_bring_99 (by decide) ?_
      obtain ⟨ho8, hok⟩ := hok
      refine g_iast K hG hS (gvs (Or.inl rfl) 36 rfl) rfl (fun _ => rfl) (fun _ q => absurd q.1 (by decide)) ho8 dX6_bring_100 (fun I6 hI6 H locs hG hS => ?_)
      have hok := hok I6 hI6
      refine lv_aload_n hx hb dX6_bring_101 rfl (lv_at hl 0 rfl) ?_
      refine gf_X6_29 K hG rfl dX6_bring_102 ?_
      refine gf_X6_113 K hG (gvs (Or.inl rfl) 20 rfl) dX6_bring_105 ?_
      refine lv_aload_n hx hb dX6_bring_108 rfl (lv_at hl 0 rfl) ?_
      refine gf_X6_46 K hG rfl dX6_bring_109 ?_
      refine lv_aload_n hx hb dX6_bring_112 rfl (lv_at hl 0 rfl) ?_
      refine gf_X6_29 K hG rfl dX6_bring_113 ?_
      refine lv_iload_n hx hb dX6_bring_116 rfl (lv_at hl 1 rfl) ?_
      refine lv_aload_n hx hb dX6_bring_117 rfl (lv_at hl 0 rfl) ?_
      refine gf_X6_46 K hG rfl dX6_bring_118 ?_
      refine lv_iconst (v := (-1)) hx hb dX6_bring_121 (by decide) ?_
      obtain ⟨ho9, hok⟩ := hok
      refine g_ki (g_runV (As := [.int x, .int (I6 2 11 0 4), .int (-1)]) (rest := [.int (I6 2 11 0 4), .ref (gA E 3 34 0)]) K hml ca_X5_add q805 (m_X5_add l E J I6 3 x (I6 2 11 0 4) (-1) (Or.inl rfl) ho9) hG hS (gvs (Or.inl rfl) 20 rfl) rfl rfl rfl rfl hl.1 (Nat.le_of_ble_eq_true rfl) ⟨by decide, by decide⟩ dX6_bring_122 ⟨Nat.zero_le _, Nat.zero_le _⟩) hS (fun H locs hG hS => ?_)
      obtain ⟨I7, hI7⟩ : ∃ z, z = f_X5_add_s I6 3 x (I6 2 11 0 4) (-1) := ⟨_, rfl⟩
      rw [← hI7] at hG
      have hok := hok I7 hI7
      obtain ⟨ho10, hok⟩ := hok
      refine g_iast K hG hS (gvs (Or.inl rfl) 34 rfl) rfl (fun _ => rfl) (fun _ q => absurd q.1 (by decide)) ho10 dX6_bring_125 (fun I8 hI8 H locs hG hS => ?_)
      have hok := hok I8 hI8
      refine lv_iconst (v := 0) hx hb dX6_bring_126 (by decide) ?_
      refine lv_istore_n (lv' := [(2, .int 0), (0, .ref (gA E 2 11 0)), (1, .int x)]) hx hb dX6_bring_127 rfl hl (by decide) rfl (fun ls hl => ?_)
      obtain ⟨ho11, hok⟩ := hok
      have hNb := ho11.1
      have hL_l1 : ∀ (n i : Nat)  (I9 : gI) (H : Heap) (locs : List Loc) (ls : Array Slot), i + n = (I8 2 11 0 1).toNatClampNeg → f_X6_bring_l1_v x n i I9 = f_X6_bring_v I x → f_X6_bring_l1_s x n i I9 = (f_X6_bring_s I x) → ok_f_X6_bring_l1 x n i I9 → GW E J I9 H → va_S (gF E) s.heap H locs → lv_has ls 3 [(2, .int (nI i)), (0, .ref (gA E 2 11 0))] → W p l e (grm 1 23) s m ([.ref (gA E 2 11 0), .int x] : List Value).toArray below meth c0 H locs 0 0 (MQ below (va_Qi (fun z9 (_ : Unit) => z9 = f_X6_bring_v I x) (fun _ t => GW E J (f_X6_bring_s I x) t.heap) (gF E)) ([.ref (gA E 2 11 0), .int x] : List Value).toArray s 0 0 (gF E)) (F0 m 128 ls []) := by
        intro n
        induction n with
        | zero =>
          intro i I9 H locs ls hin hTv hTs hok hG hS hl
          unfold ok_f_X6_bring_l1 at hok
          obtain ⟨ho12, hok⟩ := hok
          refine lv_iload_n hx hb dX6_bring_128 rfl (lv_at hl 0 rfl) ?_
          refine lv_aload_n hx hb dX6_bring_129 rfl (lv_at hl 1 rfl) ?_
          refine gf_X6_39 K hG rfl dX6_bring_130 ?_
          refine lv_icmp_ge (tgt := 165) hx hb dX6_bring_133 (by decide) (fun c13 => ?_) (fun c13 => ?_)
          · skip
            refine lv_aload_n hx hb dX6_bring_165 rfl (lv_at hl 1 rfl) ?_
            refine lv_dup hx hb dX6_bring_166 rfl ?_
            refine gf_X6_46 K hG rfl dX6_bring_167 ?_
            refine lv_iconst (v := 1) hx hb dX6_bring_170 (by decide) ?_
            refine lv_iadd hx hb dX6_bring_171 ?_
            refine pf_X6_46 K hG hS rfl dX6_bring_172 (fun I10 hI10 H locs hG hS => ?_)
            have hok := hok I10 hI10
            refine lv_aload_n hx hb dX6_bring_175 rfl (lv_at hl 1 rfl) ?_
            refine gf_X6_46 K hG rfl dX6_bring_176 ?_
            refine lv_iconst (v := 1) hx hb dX6_bring_179 (by decide) ?_
            refine lv_isub hx hb dX6_bring_180 ?_
            have eS : I10 = (f_X6_bring_s I x) := (by rw [← hTs]; simp only [f_X6_bring_l1_s, ← hI10, if_pos c13])
            rw [eS] at hG
            exact g_iret K hG hS hr hlocks (by rw [← hTv]; simp only [f_X6_bring_l1_v, ← hI10, if_pos c13]) dX6_bring_181
          · exact absurd (lp_ge ho12 (by omega) rfl) c13
        | succ n ih =>
          intro i I9 H locs ls hin hTv hTs hok hG hS hl
          unfold ok_f_X6_bring_l1 at hok
          obtain ⟨ho14, hok⟩ := hok
          refine lv_iload_n hx hb dX6_bring_128 rfl (lv_at hl 0 rfl) ?_
          refine lv_aload_n hx hb dX6_bring_129 rfl (lv_at hl 1 rfl) ?_
          refine gf_X6_39 K hG rfl dX6_bring_130 ?_
          refine lv_icmp_ge (tgt := 165) hx hb dX6_bring_133 (by decide) (fun c15 => ?_) (fun c15 => ?_)
          · exact absurd c15 (lp_nge ho14 (by omega) rfl)
          · skip
            refine lv_aload_n hx hb dX6_bring_136 rfl (lv_at hl 1 rfl) ?_
            refine gf_X6_29 K hG rfl dX6_bring_137 ?_
            refine gf_X6_66 K hG (gvs (Or.inl rfl) 20 rfl) dX6_bring_140 ?_
            refine lv_iload_n hx hb dX6_bring_143 rfl (lv_at hl 0 rfl) ?_
            refine g_iald K hG (gvs (Or.inl rfl) 25 rfl) rfl (fun _ => rfl) (vp_in_nI (Nat.lt_of_lt_of_le (show i < 6 by omega) (by decide)) (by decide)) dX6_bring_144 ?_
            rw [nI_clamp (Nat.lt_trans (show i < 6 by omega) (by decide))]
            refine lv_iconst (v := 3) hx hb dX6_bring_145 (by decide) ?_
            refine lv_icmp_ne (tgt := 159) hx hb dX6_bring_146 (by decide) (fun c16 => ?_) (fun c16 => ?_)
            · have hok := hok.2 c16
              refine lv_iinc (v := (nI (i + 1))) (lv' := [(2, .int (nI (i + 1))), (0, .ref (gA E 2 11 0))]) hx hb dX6_bring_159 hl (k := 0) rfl (nI_add i 1) (by decide) rfl (fun ls hl => ?_)
              refine lv_goto (tgt := 128) hx hb dX6_bring_162 (by decide) ?_
              exact ih (i + 1) I9 _ _ _ (by omega) (by rw [← hTv]; simp only [f_X6_bring_l1_v, if_neg c15, if_neg c16]) (by rw [← hTs]; simp only [f_X6_bring_l1_s, if_neg c15, if_neg c16]) hok hG hS (lv_sub hl [0, 1] rfl)
            · have hok := hok.1 c16
              refine lv_aload_n hx hb dX6_bring_149 rfl (lv_at hl 1 rfl) ?_
              refine gf_X6_29 K hG rfl dX6_bring_150 ?_
              refine gf_X6_66 K hG (gvs (Or.inl rfl) 20 rfl) dX6_bring_153 ?_
              refine lv_iload_n hx hb dX6_bring_156 rfl (lv_at hl 0 rfl) ?_
              refine lv_iconst (v := 0) hx hb dX6_bring_157 (by decide) ?_
              refine g_iast K hG hS (gvs (Or.inl rfl) 25 rfl) rfl (fun _ => rfl) (fun _ q => absurd q.1 (by decide)) (vp_in_nI (Nat.lt_of_lt_of_le (show i < 6 by omega) (by decide)) (by decide)) dX6_bring_158 (fun I11 hI11 H locs hG hS => ?_)
              rw [nI_clamp (Nat.lt_trans (show i < 6 by omega) (by decide))] at hI11
              have hok := hok I11 hI11
              refine lv_iinc (v := (nI (i + 1))) (lv' := [(2, .int (nI (i + 1))), (0, .ref (gA E 2 11 0))]) hx hb dX6_bring_159 hl (k := 0) rfl (nI_add i 1) (by decide) rfl (fun ls hl => ?_)
              refine lv_goto (tgt := 128) hx hb dX6_bring_162 (by decide) ?_
              exact ih (i + 1) I11 _ _ _ (by omega) (by rw [← hTv]; simp only [f_X6_bring_l1_v, ← hI11, if_neg c15, if_pos c16]) (by rw [← hTs]; simp only [f_X6_bring_l1_s, ← hI11, if_neg c15, if_pos c16]) hok hG hS (lv_sub hl [0, 1] rfl)
      exact hL_l1 ((I8 2 11 0 1).toNatClampNeg) 0 I8 _ _ _ (Nat.zero_add _) (by simp only [f_X6_bring_v, ← hI1, ← hI2, ← hI3, ← hI4, ← hI5, ← hI6, ← hI7, ← hI8, if_neg c2, if_neg c3]) (by simp only [f_X6_bring_s, ← hI1, ← hI2, ← hI3, ← hI4, ← hI5, ← hI6, ← hI7, ← hI8, if_neg c2, if_neg c3]) hok hG hS (lv_sub hl [0, 1] rfl)
    · have hok := hok.1 c3
      refine lv_aload_n hx hb dX6_bring_30 rfl (lv_at hl 0 rfl) ?_
      refine lv_iconst (v := 2) hx hb dX6_bring_31 (by decide) ?_
      obtain ⟨ho17, hok⟩ := hok
      refine g_ki (g_runV (As := [.int 2]) (rest := []) K hml ca_X6_no q785 (m_X6_no l E J I1 2 ho17) hG hS rfl rfl rfl rfl rfl hl.1 (Nat.le_of_ble_eq_true rfl) ⟨by decide, by decide⟩ dX6_bring_32 ⟨Nat.zero_le _, Nat.zero_le _⟩) hS (fun H locs hG hS => ?_)
      obtain ⟨I12, hI12⟩ : ∃ z, z = f_X6_no_s I1 2 := ⟨_, rfl⟩
      rw [← hI12] at hG
      have hok := hok I12 hI12
      have eS : I12 = (f_X6_bring_s I x) := (by simp only [f_X6_bring_s, ← hI1, ← hI12, if_neg c2, if_pos c3])
      rw [eS] at hG
      exact g_iret K hG hS hr hlocks (by simp only [f_X6_bring_v, ← hI1, ← hI12, if_neg c2, if_pos c3]) dX6_bring_35
  · have hok := hok.1 c2
    refine lv_aload_n hx hb dX6_bring_15 rfl (lv_at hl 0 rfl) ?_
    refine lv_iconst (v := 1) hx hb dX6_bring_16 (by decide) ?_
    obtain ⟨ho18, hok⟩ := hok
    refine g_ki (g_runV (As := [.int 1]) (rest := []) K hml ca_X6_no q785 (m_X6_no l E J I1 1 ho18) hG hS rfl rfl rfl rfl rfl hl.1 (Nat.le_of_ble_eq_true rfl) ⟨by decide, by decide⟩ dX6_bring_17 ⟨Nat.zero_le _, Nat.zero_le _⟩) hS (fun H locs hG hS => ?_)
    obtain ⟨I13, hI13⟩ : ∃ z, z = f_X6_no_s I1 1 := ⟨_, rfl⟩
    rw [← hI13] at hG
    have hok := hok I13 hI13
    have eS : I13 = (f_X6_bring_s I x) := (by simp only [f_X6_bring_s, ← hI1, ← hI13, if_pos c2])
    rw [eS] at hG
    exact g_iret K hG hS hr hlocks (by simp only [f_X6_bring_v, ← hI1, ← hI13, if_pos c2]) dX6_bring_20
def f_X6_swap_l1_v (x b : Int32) : Nat → Nat → gI → Int32
  | 0, i, I3 =>
    let I4 := gU I3 3 31 0 x.toNatClampNeg (I3 3 31 0 b.toNatClampNeg)
    let I5 := gU I4 3 31 0 b.toNatClampNeg (I3 3 31 0 x.toNatClampNeg)
    (I5 3 31 0 x.toNatClampNeg)
  | n + 1, i, I3 =>
    let I6 := gU I3 3 32 0 (((8 * x) + (nI i)).toNatClampNeg) (I3 3 32 0 (((8 * b) + (nI i)).toNatClampNeg))
    let I7 := gU I6 3 32 0 (((8 * b) + (nI i)).toNatClampNeg) (I3 3 32 0 (((8 * x) + (nI i)).toNatClampNeg))
    f_X6_swap_l1_v x b n (i + 1) I7
def f_X6_swap_l1_s (x b : Int32) : Nat → Nat → gI → gI
  | 0, i, I3 =>
    let I4 := gU I3 3 31 0 x.toNatClampNeg (I3 3 31 0 b.toNatClampNeg)
    let I5 := gU I4 3 31 0 b.toNatClampNeg (I3 3 31 0 x.toNatClampNeg)
    I5
  | n + 1, i, I3 =>
    let I6 := gU I3 3 32 0 (((8 * x) + (nI i)).toNatClampNeg) (I3 3 32 0 (((8 * b) + (nI i)).toNatClampNeg))
    let I7 := gU I6 3 32 0 (((8 * b) + (nI i)).toNatClampNeg) (I3 3 32 0 (((8 * x) + (nI i)).toNatClampNeg))
    f_X6_swap_l1_s x b n (i + 1) I7
def ok_f_X6_swap_l1 (x b : Int32) : Nat → Nat → gI → Prop
  | 0, i, I3 =>
    vp_in x 6 ∧
    vp_in b 6 ∧
    ∀ I4, I4 = gU I3 3 31 0 x.toNatClampNeg (I3 3 31 0 b.toNatClampNeg) →
    ∀ I5, I5 = gU I4 3 31 0 b.toNatClampNeg (I3 3 31 0 x.toNatClampNeg) →
    True
  | n + 1, i, I3 =>
    vp_in ((8 * x) + (nI i)) 48 ∧
    vp_in ((8 * b) + (nI i)) 48 ∧
    ∀ I6, I6 = gU I3 3 32 0 (((8 * x) + (nI i)).toNatClampNeg) (I3 3 32 0 (((8 * b) + (nI i)).toNatClampNeg)) →
    ∀ I7, I7 = gU I6 3 32 0 (((8 * b) + (nI i)).toNatClampNeg) (I3 3 32 0 (((8 * x) + (nI i)).toNatClampNeg)) →
    ok_f_X6_swap_l1 x b n (i + 1) I7
def ok_X6_swap (I : gI) (x b : Int32) : Prop :=
  ∀ I1, I1 = gU I 2 11 0 0 0 →
  ok_X6_isLad I1 x ∧
  (((f_X6_isLad I1 x) = 0) →
    ok_X6_no I1 1 ∧
    ∀ I2, I2 = f_X6_no_s I1 1 →
    True) ∧
  (¬ ((f_X6_isLad I1 x) = 0) →
    ok_X6_isLad I1 b ∧
    (((f_X6_isLad I1 b) = 0) →
      ok_X6_no I1 1 ∧
      ∀ I9, I9 = f_X6_no_s I1 1 →
      True) ∧
    (¬ ((f_X6_isLad I1 b) = 0) →
      ((x = b) →
        ok_X6_no I1 2 ∧
        ∀ I8, I8 = f_X6_no_s I1 2 →
        True) ∧
      (¬ (x = b) →
        ok_f_X6_swap_l1 x b 8 0 I1)))
def f_X6_swap_v (I : gI) (x b : Int32) : Int32 :=
  let I1 := gU I 2 11 0 0 0
  if (f_X6_isLad I1 x) = 0 then
    let I2 := f_X6_no_s I1 1
    (f_X6_no_v I1 1)
  else
    if (f_X6_isLad I1 b) = 0 then
      let I9 := f_X6_no_s I1 1
      (f_X6_no_v I1 1)
    else
      if x = b then
        let I8 := f_X6_no_s I1 2
        (f_X6_no_v I1 2)
      else
        f_X6_swap_l1_v x b 8 0 I1
def f_X6_swap_s (I : gI) (x b : Int32) : gI :=
  let I1 := gU I 2 11 0 0 0
  if (f_X6_isLad I1 x) = 0 then
    let I2 := f_X6_no_s I1 1
    I2
  else
    if (f_X6_isLad I1 b) = 0 then
      let I9 := f_X6_no_s I1 1
      I9
    else
      if x = b then
        let I8 := f_X6_no_s I1 2
        I8
      else
        f_X6_swap_l1_s x b 8 0 I1
set_option maxHeartbeats 4000000 in
set_option maxRecDepth 100000 in
theorem m_X6_swap (l : Launch) (E : gE) (J : Int64) (I : gI) (x b : Int32) (hok : ok_X6_swap I x b) : gMi l E J yX6_swap cX6_swap 5 (some .int) 2 43 [.ref (gA E 2 11 0), .int x, .int b] I (f_X6_swap_v I x b) (f_X6_swap_s I x b) := by
  refine g_entry (lv := [(0, .ref (gA E 2 11 0)), (1, .int x), (2, .int b)]) (by decide) (Nat.le_of_ble_eq_true rfl) rfl ?_
  intro p e s m below meth c0 ls K hG hS hml hr hlocks hl
  have K : kx E p m c0 cX6_swap "HayThievesModel" _ s := K
  have hx := K.1
  have hb := K.2.1
  have hts := K.2.2.1
  have hown := K.2.2.2.1
  have hSt := K.2.2.2.2
  unfold ok_X6_swap at hok
  refine lv_aload_n hx hb dX6_swap_0 rfl (lv_at hl 0 rfl) ?_
  refine lv_iconst (v := 0) hx hb dX6_swap_1 (by decide) ?_
  refine pf_X6_36 K hG hS rfl dX6_swap_2 (fun I1 hI1 H locs hG hS => ?_)
  have hok := hok I1 hI1
  refine lv_aload_n hx hb dX6_swap_5 rfl (lv_at hl 0 rfl) ?_
  refine lv_iload_n hx hb dX6_swap_6 rfl (lv_at hl 1 rfl) ?_
  obtain ⟨ho1, hok⟩ := hok
  refine g_ki (g_runV (As := [.int x]) (rest := []) K hml ca_X6_isLad q793 (m_X6_isLad l E J I1 x ho1) hG hS rfl rfl rfl rfl rfl hl.1 (Nat.le_of_ble_eq_true rfl) ⟨by decide, by decide⟩ dX6_swap_7 ⟨Nat.zero_le _, Nat.zero_le _⟩) hS (fun H locs hG hS => ?_)
  refine lv_if_eq (tgt := 21) hx hb dX6_swap_10 (by decide) (fun c2 => ?_) (fun c2 => ?_)
  · have hok := hok.1 c2
    refine lv_aload_n hx hb dX6_swap_21 rfl (lv_at hl 0 rfl) ?_
    refine lv_iconst (v := 1) hx hb dX6_swap_22 (by decide) ?_
    obtain ⟨ho3, hok⟩ := hok
    refine g_ki (g_runV (As := [.int 1]) (rest := []) K hml ca_X6_no q785 (m_X6_no l E J I1 1 ho3) hG hS rfl rfl rfl rfl rfl hl.1 (Nat.le_of_ble_eq_true rfl) ⟨by decide, by decide⟩ dX6_swap_23 ⟨Nat.zero_le _, Nat.zero_le _⟩) hS (fun H locs hG hS => ?_)
    obtain ⟨I2, hI2⟩ : ∃ z, z = f_X6_no_s I1 1 := ⟨_, rfl⟩
    rw [← hI2] at hG
    have hok := hok I2 hI2
    have eS : I2 = (f_X6_swap_s I x b) := (by simp only [f_X6_swap_s, ← hI1, ← hI2, if_pos c2])
    rw [eS] at hG
    exact g_iret K hG hS hr hlocks (by simp only [f_X6_swap_v, ← hI1, ← hI2, if_pos c2]) dX6_swap_26
  · have hok := hok.2 c2
    refine lv_aload_n hx hb dX6_swap_13 rfl (lv_at hl 0 rfl) ?_
    refine lv_iload_n hx hb dX6_swap_14 rfl (lv_at hl 2 rfl) ?_
    obtain ⟨ho4, hok⟩ := hok
    refine g_ki (g_runV (As := [.int b]) (rest := []) K hml ca_X6_isLad q793 (m_X6_isLad l E J I1 b ho4) hG hS rfl rfl rfl rfl rfl hl.1 (Nat.le_of_ble_eq_true rfl) ⟨by decide, by decide⟩ dX6_swap_15 ⟨Nat.zero_le _, Nat.zero_le _⟩) hS (fun H locs hG hS => ?_)
    refine lv_if_ne (tgt := 27) hx hb dX6_swap_18 (by decide) (fun c5 => ?_) (fun c5 => ?_)
    · have hok := hok.2 c5
      refine lv_iload_n hx hb dX6_swap_27 rfl (lv_at hl 1 rfl) ?_
      refine lv_iload_n hx hb dX6_swap_28 rfl (lv_at hl 2 rfl) ?_
      refine lv_icmp_ne (tgt := 38) hx hb dX6_swap_29 (by decide) (fun c6 => ?_) (fun c6 => ?_)
      · have hok := hok.2 c6
        refine lv_iconst (v := 0) hx hb dX6_swap_38 (by decide) ?_
        refine lv_istore_n (lv' := [(3, .int 0), (0, .ref (gA E 2 11 0)), (1, .int x), (2, .int b)]) hx hb dX6_swap_39 rfl hl (by decide) rfl (fun ls hl => ?_)
        have hL_l1 : ∀ (n i : Nat)  (I3 : gI) (H : Heap) (locs : List Loc) (ls : Array Slot), i + n = 8 → f_X6_swap_l1_v x b n i I3 = f_X6_swap_v I x b → f_X6_swap_l1_s x b n i I3 = (f_X6_swap_s I x b) → ok_f_X6_swap_l1 x b n i I3 → GW E J I3 H → va_S (gF E) s.heap H locs → lv_has ls 5 [(3, .int (nI i)), (0, .ref (gA E 2 11 0)), (1, .int x), (2, .int b)] → W p l e (grm 2 43) s m ([.ref (gA E 2 11 0), .int x, .int b] : List Value).toArray below meth c0 H locs 0 0 (MQ below (va_Qi (fun z9 (_ : Unit) => z9 = f_X6_swap_v I x b) (fun _ t => GW E J (f_X6_swap_s I x b) t.heap) (gF E)) ([.ref (gA E 2 11 0), .int x, .int b] : List Value).toArray s 0 0 (gF E)) (F0 m 40 ls []) := by
          intro n
          induction n with
          | zero =>
            intro i I3 H locs ls hin hTv hTs hok hG hS hl
            unfold ok_f_X6_swap_l1 at hok
            refine lv_iload_n hx hb dX6_swap_40 rfl (lv_at hl 0 rfl) ?_
            refine lv_bipush (v := 8) hx hb dX6_swap_41 (by decide) ?_
            refine lv_icmp_ge (tgt := 112) hx hb dX6_swap_43 (by decide) (fun c7 => ?_) (fun c7 => ?_)
            · skip
              refine lv_aload_n hx hb dX6_swap_112 rfl (lv_at hl 1 rfl) ?_
              refine gf_X6_29 K hG rfl dX6_swap_113 ?_
              refine gf_X6_49 K hG (gvs (Or.inl rfl) 20 rfl) dX6_swap_116 ?_
              refine lv_iload_n hx hb dX6_swap_119 rfl (lv_at hl 2 rfl) ?_
              obtain ⟨ho8, hok⟩ := hok
              refine g_iald K hG (gvs (Or.inl rfl) 31 rfl) rfl (fun _ => rfl) ho8 dX6_swap_120 ?_
              refine lv_istore_n (lv' := [(3, .int (I3 3 31 0 x.toNatClampNeg)), (0, .ref (gA E 2 11 0)), (1, .int x), (2, .int b)]) hx hb dX6_swap_121 rfl hl (by decide) rfl (fun ls hl => ?_)
              refine lv_aload_n hx hb dX6_swap_122 rfl (lv_at hl 1 rfl) ?_
              refine gf_X6_29 K hG rfl dX6_swap_123 ?_
              refine gf_X6_49 K hG (gvs (Or.inl rfl) 20 rfl) dX6_swap_126 ?_
              refine lv_iload_n hx hb dX6_swap_129 rfl (lv_at hl 2 rfl) ?_
              refine lv_aload_n hx hb dX6_swap_130 rfl (lv_at hl 1 rfl) ?_
              refine gf_X6_29 K hG rfl dX6_swap_131 ?_
              refine gf_X6_49 K hG (gvs (Or.inl rfl) 20 rfl) dX6_swap_134 ?_
              refine lv_iload_n hx hb dX6_swap_137 rfl (lv_at hl 3 rfl) ?_
              obtain ⟨ho9, hok⟩ := hok
              refine g_iald K hG (gvs (Or.inl rfl) 31 rfl) rfl (fun _ => rfl) ho9 dX6_swap_138 ?_
              refine g_iast K hG hS (gvs (Or.inl rfl) 31 rfl) rfl (fun _ => rfl) (fun _ q => absurd q.1 (by decide)) ho8 dX6_swap_139 (fun I4 hI4 H locs hG hS => ?_)
              have hok := hok I4 hI4
              refine lv_aload_n hx hb dX6_swap_140 rfl (lv_at hl 1 rfl) ?_
              refine gf_X6_29 K hG rfl dX6_swap_141 ?_
              refine gf_X6_49 K hG (gvs (Or.inl rfl) 20 rfl) dX6_swap_144 ?_
              refine lv_iload_n hx hb dX6_swap_147 rfl (lv_at hl 3 rfl) ?_
              refine lv_iload_n hx hb dX6_swap_148 rfl (lv_at hl 0 rfl) ?_
              refine g_iast K hG hS (gvs (Or.inl rfl) 31 rfl) rfl (fun _ => rfl) (fun _ q => absurd q.1 (by decide)) ho9 dX6_swap_149 (fun I5 hI5 H locs hG hS => ?_)
              have hok := hok I5 hI5
              refine lv_aload_n hx hb dX6_swap_150 rfl (lv_at hl 1 rfl) ?_
              refine gf_X6_29 K hG rfl dX6_swap_151 ?_
              refine gf_X6_49 K hG (gvs (Or.inl rfl) 20 rfl) dX6_swap_154 ?_
              refine lv_iload_n hx hb dX6_swap_157 rfl (lv_at hl 2 rfl) ?_
              refine g_iald K hG (gvs (Or.inl rfl) 31 rfl) rfl (fun _ => rfl) ho8 dX6_swap_158 ?_
              have eS : I5 = (f_X6_swap_s I x b) := (by rw [← hTs]; simp only [f_X6_swap_l1_s, ← hI4, ← hI5, if_pos c7])
              rw [eS] at hG
              exact g_iret K hG hS hr hlocks (by rw [← hTv]; simp only [f_X6_swap_l1_v, ← hI4, ← hI5, if_pos c7]) dX6_swap_159
            · exact absurd (lp_ge (show (8 : Int32) = nI 8 from rfl) (by omega) hin) c7
          | succ n ih =>
            intro i I3 H locs ls hin hTv hTs hok hG hS hl
            unfold ok_f_X6_swap_l1 at hok
            refine lv_iload_n hx hb dX6_swap_40 rfl (lv_at hl 0 rfl) ?_
            refine lv_bipush (v := 8) hx hb dX6_swap_41 (by decide) ?_
            refine lv_icmp_ge (tgt := 112) hx hb dX6_swap_43 (by decide) (fun c10 => ?_) (fun c10 => ?_)
            · exact absurd c10 (lp_nge (show (8 : Int32) = nI 8 from rfl) (by omega) hin)
            · skip
              refine lv_aload_n hx hb dX6_swap_46 rfl (lv_at hl 1 rfl) ?_
              refine gf_X6_29 K hG rfl dX6_swap_47 ?_
              refine gf_X6_144 K hG (gvs (Or.inl rfl) 20 rfl) dX6_swap_50 ?_
              refine lv_bipush (v := 8) hx hb dX6_swap_53 (by decide) ?_
              refine lv_iload_n hx hb dX6_swap_55 rfl (lv_at hl 2 rfl) ?_
              refine lv_imul hx hb dX6_swap_56 ?_
              refine lv_iload_n hx hb dX6_swap_57 rfl (lv_at hl 0 rfl) ?_
              refine lv_iadd hx hb dX6_swap_58 ?_
              obtain ⟨ho11, hok⟩ := hok
              refine g_iald K hG (gvs (Or.inl rfl) 32 rfl) rfl (fun _ => rfl) ho11 dX6_swap_59 ?_
              refine lv_istore (lv' := [(4, .int (I3 3 32 0 (((8 * x) + (nI i)).toNatClampNeg))), (3, .int (nI i)), (0, .ref (gA E 2 11 0)), (1, .int x), (2, .int b)]) hx hb dX6_swap_60 hl (by decide) rfl (fun ls hl => ?_)
              refine lv_aload_n hx hb dX6_swap_62 rfl (lv_at hl 2 rfl) ?_
              refine gf_X6_29 K hG rfl dX6_swap_63 ?_
              refine gf_X6_144 K hG (gvs (Or.inl rfl) 20 rfl) dX6_swap_66 ?_
              refine lv_bipush (v := 8) hx hb dX6_swap_69 (by decide) ?_
              refine lv_iload_n hx hb dX6_swap_71 rfl (lv_at hl 3 rfl) ?_
              refine lv_imul hx hb dX6_swap_72 ?_
              refine lv_iload_n hx hb dX6_swap_73 rfl (lv_at hl 1 rfl) ?_
              refine lv_iadd hx hb dX6_swap_74 ?_
              refine lv_aload_n hx hb dX6_swap_75 rfl (lv_at hl 2 rfl) ?_
              refine gf_X6_29 K hG rfl dX6_swap_76 ?_
              refine gf_X6_144 K hG (gvs (Or.inl rfl) 20 rfl) dX6_swap_79 ?_
              refine lv_bipush (v := 8) hx hb dX6_swap_82 (by decide) ?_
              refine lv_iload_n hx hb dX6_swap_84 rfl (lv_at hl 4 rfl) ?_
              refine lv_imul hx hb dX6_swap_85 ?_
              refine lv_iload_n hx hb dX6_swap_86 rfl (lv_at hl 1 rfl) ?_
              refine lv_iadd hx hb dX6_swap_87 ?_
              obtain ⟨ho12, hok⟩ := hok
              refine g_iald K hG (gvs (Or.inl rfl) 32 rfl) rfl (fun _ => rfl) ho12 dX6_swap_88 ?_
              refine g_iast K hG hS (gvs (Or.inl rfl) 32 rfl) rfl (fun _ => rfl) (fun _ q => absurd q.1 (by decide)) ho11 dX6_swap_89 (fun I6 hI6 H locs hG hS => ?_)
              have hok := hok I6 hI6
              refine lv_aload_n hx hb dX6_swap_90 rfl (lv_at hl 2 rfl) ?_
              refine gf_X6_29 K hG rfl dX6_swap_91 ?_
              refine gf_X6_144 K hG (gvs (Or.inl rfl) 20 rfl) dX6_swap_94 ?_
              refine lv_bipush (v := 8) hx hb dX6_swap_97 (by decide) ?_
              refine lv_iload_n hx hb dX6_swap_99 rfl (lv_at hl 4 rfl) ?_
              refine lv_imul hx hb dX6_swap_100 ?_
              refine lv_iload_n hx hb dX6_swap_101 rfl (lv_at hl 1 rfl) ?_
              refine lv_iadd hx hb dX6_swap_102 ?_
              refine lv_iload hx hb dX6_swap_103 (lv_at hl 0 rfl) ?_
              refine g_iast K hG hS (gvs (Or.inl rfl) 32 rfl) rfl (fun _ => rfl) (fun _ q => absurd q.1 (by decide)) ho12 dX6_swap_105 (fun I7 hI7 H locs hG hS => ?_)
              have hok := hok I7 hI7
              refine lv_iinc (v := (nI (i + 1))) (lv' := [(3, .int (nI (i + 1))), (4, .int (I3 3 32 0 (((8 * x) + (nI i)).toNatClampNeg))), (0, .ref (gA E 2 11 0)), (1, .int x), (2, .int b)]) hx hb dX6_swap_106 hl (k := 1) rfl (nI_add i 1) (by decide) rfl (fun ls hl => ?_)
              refine lv_goto (tgt := 40) hx hb dX6_swap_109 (by decide) ?_
              exact ih (i + 1) I7 _ _ _ (by omega) (by rw [← hTv]; simp only [f_X6_swap_l1_v, ← hI6, ← hI7, if_neg c10]) (by rw [← hTs]; simp only [f_X6_swap_l1_s, ← hI6, ← hI7, if_neg c10]) hok hG hS (lv_sub hl [0, 2, 3, 4] rfl)
        exact hL_l1 8 0 I1 _ _ _ (Nat.zero_add _) (by simp only [f_X6_swap_v, ← hI1, if_neg c2, if_neg c5, if_neg c6]) (by simp only [f_X6_swap_s, ← hI1, if_neg c2, if_neg c5, if_neg c6]) hok hG hS (lv_sub hl [0, 1, 2, 3] rfl)
      · have hok := hok.1 c6
        refine lv_aload_n hx hb dX6_swap_32 rfl (lv_at hl 0 rfl) ?_
        refine lv_iconst (v := 2) hx hb dX6_swap_33 (by decide) ?_
        obtain ⟨ho13, hok⟩ := hok
        refine g_ki (g_runV (As := [.int 2]) (rest := []) K hml ca_X6_no q785 (m_X6_no l E J I1 2 ho13) hG hS rfl rfl rfl rfl rfl hl.1 (Nat.le_of_ble_eq_true rfl) ⟨by decide, by decide⟩ dX6_swap_34 ⟨Nat.zero_le _, Nat.zero_le _⟩) hS (fun H locs hG hS => ?_)
        obtain ⟨I8, hI8⟩ : ∃ z, z = f_X6_no_s I1 2 := ⟨_, rfl⟩
        rw [← hI8] at hG
        have hok := hok I8 hI8
        have eS : I8 = (f_X6_swap_s I x b) := (by simp only [f_X6_swap_s, ← hI1, ← hI8, if_neg c2, if_neg c5, if_pos c6])
        rw [eS] at hG
        exact g_iret K hG hS hr hlocks (by simp only [f_X6_swap_v, ← hI1, ← hI8, if_neg c2, if_neg c5, if_pos c6]) dX6_swap_37
    · have hok := hok.1 c5
      refine lv_aload_n hx hb dX6_swap_21 rfl (lv_at hl 0 rfl) ?_
      refine lv_iconst (v := 1) hx hb dX6_swap_22 (by decide) ?_
      obtain ⟨ho14, hok⟩ := hok
      refine g_ki (g_runV (As := [.int 1]) (rest := []) K hml ca_X6_no q785 (m_X6_no l E J I1 1 ho14) hG hS rfl rfl rfl rfl rfl hl.1 (Nat.le_of_ble_eq_true rfl) ⟨by decide, by decide⟩ dX6_swap_23 ⟨Nat.zero_le _, Nat.zero_le _⟩) hS (fun H locs hG hS => ?_)
      obtain ⟨I9, hI9⟩ : ∃ z, z = f_X6_no_s I1 1 := ⟨_, rfl⟩
      rw [← hI9] at hG
      have hok := hok I9 hI9
      have eS : I9 = (f_X6_swap_s I x b) := (by simp only [f_X6_swap_s, ← hI1, ← hI9, if_neg c2, if_pos c5])
      rw [eS] at hG
      exact g_iret K hG hS hr hlocks (by simp only [f_X6_swap_v, ← hI1, ← hI9, if_neg c2, if_pos c5]) dX6_swap_26
def ok_X6_wake (I : gI) (x : Int32) : Prop :=
  ∀ I1, I1 = gU I 2 11 0 0 0 →
  ok_X6_isLad I1 x ∧
  (((f_X6_isLad I1 x) = 0) →
    ok_X6_no I1 1 ∧
    ∀ I4, I4 = f_X6_no_s I1 1 →
    True) ∧
  (¬ ((f_X6_isLad I1 x) = 0) →
    vp_in x 6 ∧
    (((I1 3 25 0 x.toNatClampNeg) = 3) →
      ∀ I2, I2 = gU I1 3 25 0 x.toNatClampNeg 0 →
      ok_X6_sleepers I2 3 ∧
      True) ∧
    (¬ ((I1 3 25 0 x.toNatClampNeg) = 3) →
      ok_X6_no I1 2 ∧
      ∀ I3, I3 = f_X6_no_s I1 2 →
      True))
def f_X6_wake_v (I : gI) (x : Int32) : Int32 :=
  let I1 := gU I 2 11 0 0 0
  if (f_X6_isLad I1 x) = 0 then
    let I4 := f_X6_no_s I1 1
    (f_X6_no_v I1 1)
  else
    if (I1 3 25 0 x.toNatClampNeg) = 3 then
      let I2 := gU I1 3 25 0 x.toNatClampNeg 0
      (f_X6_sleepers I2 3)
    else
      let I3 := f_X6_no_s I1 2
      (f_X6_no_v I1 2)
def f_X6_wake_s (I : gI) (x : Int32) : gI :=
  let I1 := gU I 2 11 0 0 0
  if (f_X6_isLad I1 x) = 0 then
    let I4 := f_X6_no_s I1 1
    I4
  else
    if (I1 3 25 0 x.toNatClampNeg) = 3 then
      let I2 := gU I1 3 25 0 x.toNatClampNeg 0
      I2
    else
      let I3 := f_X6_no_s I1 2
      I3
set_option maxHeartbeats 4000000 in
set_option maxRecDepth 100000 in
theorem m_X6_wake (l : Launch) (E : gE) (J : Int64) (I : gI) (x : Int32) (hok : ok_X6_wake I x) : gMi l E J yX6_wake cX6_wake 2 (some .int) 2 43 [.ref (gA E 2 11 0), .int x] I (f_X6_wake_v I x) (f_X6_wake_s I x) := by
  refine g_entry (lv := [(0, .ref (gA E 2 11 0)), (1, .int x)]) (by decide) (Nat.le_of_ble_eq_true rfl) rfl ?_
  intro p e s m below meth c0 ls K hG hS hml hr hlocks hl
  have K : kx E p m c0 cX6_wake "HayThievesModel" _ s := K
  have hx := K.1
  have hb := K.2.1
  have hts := K.2.2.1
  have hown := K.2.2.2.1
  have hSt := K.2.2.2.2
  unfold ok_X6_wake at hok
  refine lv_aload_n hx hb dX6_wake_0 rfl (lv_at hl 0 rfl) ?_
  refine lv_iconst (v := 0) hx hb dX6_wake_1 (by decide) ?_
  refine pf_X6_36 K hG hS rfl dX6_wake_2 (fun I1 hI1 H locs hG hS => ?_)
  have hok := hok I1 hI1
  refine lv_aload_n hx hb dX6_wake_5 rfl (lv_at hl 0 rfl) ?_
  refine lv_iload_n hx hb dX6_wake_6 rfl (lv_at hl 1 rfl) ?_
  obtain ⟨ho1, hok⟩ := hok
  refine g_ki (g_runV (As := [.int x]) (rest := []) K hml ca_X6_isLad q793 (m_X6_isLad l E J I1 x ho1) hG hS rfl rfl rfl rfl rfl hl.1 (Nat.le_of_ble_eq_true rfl) ⟨by decide, by decide⟩ dX6_wake_7 ⟨Nat.zero_le _, Nat.zero_le _⟩) hS (fun H locs hG hS => ?_)
  refine lv_if_ne (tgt := 19) hx hb dX6_wake_10 (by decide) (fun c2 => ?_) (fun c2 => ?_)
  · have hok := hok.2 c2
    refine lv_aload_n hx hb dX6_wake_19 rfl (lv_at hl 0 rfl) ?_
    refine gf_X6_29 K hG rfl dX6_wake_20 ?_
    refine gf_X6_66 K hG (gvs (Or.inl rfl) 20 rfl) dX6_wake_23 ?_
    refine lv_iload_n hx hb dX6_wake_26 rfl (lv_at hl 1 rfl) ?_
    obtain ⟨ho3, hok⟩ := hok
    refine g_iald K hG (gvs (Or.inl rfl) 25 rfl) rfl (fun _ => rfl) ho3 dX6_wake_27 ?_
    refine lv_iconst (v := 3) hx hb dX6_wake_28 (by decide) ?_
    refine lv_icmp_eq (tgt := 38) hx hb dX6_wake_29 (by decide) (fun c4 => ?_) (fun c4 => ?_)
    · have hok := hok.1 c4
      refine lv_aload_n hx hb dX6_wake_38 rfl (lv_at hl 0 rfl) ?_
      refine gf_X6_29 K hG rfl dX6_wake_39 ?_
      refine gf_X6_66 K hG (gvs (Or.inl rfl) 20 rfl) dX6_wake_42 ?_
      refine lv_iload_n hx hb dX6_wake_45 rfl (lv_at hl 1 rfl) ?_
      refine lv_iconst (v := 0) hx hb dX6_wake_46 (by decide) ?_
      refine g_iast K hG hS (gvs (Or.inl rfl) 25 rfl) rfl (fun _ => rfl) (fun _ q => absurd q.1 (by decide)) ho3 dX6_wake_47 (fun I2 hI2 H locs hG hS => ?_)
      have hok := hok I2 hI2
      refine lv_aload_n hx hb dX6_wake_48 rfl (lv_at hl 0 rfl) ?_
      refine lv_aload_n hx hb dX6_wake_49 rfl (lv_at hl 0 rfl) ?_
      refine gf_X6_29 K hG rfl dX6_wake_50 ?_
      obtain ⟨ho5, hok⟩ := hok
      refine g_ki (g_runV (As := [.ref (gA E 3 20 0)]) (rest := []) K hml ca_X6_sleepers q817 (m_X6_sleepers l E J I2 3 (Or.inl rfl) ho5) hG hS rfl rfl rfl rfl rfl hl.1 (Nat.le_of_ble_eq_true rfl) ⟨by decide, by decide⟩ dX6_wake_53 ⟨Nat.zero_le _, Nat.zero_le _⟩) hS (fun H locs hG hS => ?_)
      have eS : I2 = (f_X6_wake_s I x) := (by simp only [f_X6_wake_s, ← hI1, ← hI2, if_neg c2, if_pos c4])
      rw [eS] at hG
      exact g_iret K hG hS hr hlocks (by simp only [f_X6_wake_v, ← hI1, ← hI2, if_neg c2, if_pos c4]) dX6_wake_56
    · have hok := hok.2 c4
      refine lv_aload_n hx hb dX6_wake_32 rfl (lv_at hl 0 rfl) ?_
      refine lv_iconst (v := 2) hx hb dX6_wake_33 (by decide) ?_
      obtain ⟨ho6, hok⟩ := hok
      refine g_ki (g_runV (As := [.int 2]) (rest := []) K hml ca_X6_no q785 (m_X6_no l E J I1 2 ho6) hG hS rfl rfl rfl rfl rfl hl.1 (Nat.le_of_ble_eq_true rfl) ⟨by decide, by decide⟩ dX6_wake_34 ⟨Nat.zero_le _, Nat.zero_le _⟩) hS (fun H locs hG hS => ?_)
      obtain ⟨I3, hI3⟩ : ∃ z, z = f_X6_no_s I1 2 := ⟨_, rfl⟩
      rw [← hI3] at hG
      have hok := hok I3 hI3
      have eS : I3 = (f_X6_wake_s I x) := (by simp only [f_X6_wake_s, ← hI1, ← hI3, if_neg c2, if_neg c4])
      rw [eS] at hG
      exact g_iret K hG hS hr hlocks (by simp only [f_X6_wake_v, ← hI1, ← hI3, if_neg c2, if_neg c4]) dX6_wake_37
  · have hok := hok.1 c2
    refine lv_aload_n hx hb dX6_wake_13 rfl (lv_at hl 0 rfl) ?_
    refine lv_iconst (v := 1) hx hb dX6_wake_14 (by decide) ?_
    obtain ⟨ho7, hok⟩ := hok
    refine g_ki (g_runV (As := [.int 1]) (rest := []) K hml ca_X6_no q785 (m_X6_no l E J I1 1 ho7) hG hS rfl rfl rfl rfl rfl hl.1 (Nat.le_of_ble_eq_true rfl) ⟨by decide, by decide⟩ dX6_wake_15 ⟨Nat.zero_le _, Nat.zero_le _⟩) hS (fun H locs hG hS => ?_)
    obtain ⟨I4, hI4⟩ : ∃ z, z = f_X6_no_s I1 1 := ⟨_, rfl⟩
    rw [← hI4] at hG
    have hok := hok I4 hI4
    have eS : I4 = (f_X6_wake_s I x) := (by simp only [f_X6_wake_s, ← hI1, ← hI4, if_pos c2])
    rw [eS] at hG
    exact g_iret K hG hS hr hlocks (by simp only [f_X6_wake_v, ← hI1, ← hI4, if_pos c2]) dX6_wake_18
def ok_X6_lad (I : gI) (x b : Int32) : Prop :=
  ∀ I1, I1 = gU I 2 11 0 0 0 →
  ok_X6_isLad I1 x ∧
  (((f_X6_isLad I1 x) = 0) →
    ok_X6_no I1 1 ∧
    ∀ I2, I2 = f_X6_no_s I1 1 →
    True) ∧
  (¬ ((f_X6_isLad I1 x) = 0) →
    ok_X6_isIn I1 b 0 8 ∧
    (((f_X6_isIn I1 b 0 8) = 0) →
      ok_X6_no I1 1 ∧
      ∀ I3, I3 = f_X6_no_s I1 1 →
      True) ∧
    (¬ ((f_X6_isIn I1 b 0 8) = 0) →
      ok_X6_ladTold I1 x b ∧
      True))
def f_X6_lad_v (I : gI) (x b : Int32) : Int32 :=
  let I1 := gU I 2 11 0 0 0
  if (f_X6_isLad I1 x) = 0 then
    let I2 := f_X6_no_s I1 1
    (f_X6_no_v I1 1)
  else
    if (f_X6_isIn I1 b 0 8) = 0 then
      let I3 := f_X6_no_s I1 1
      (f_X6_no_v I1 1)
    else
      (f_X6_ladTold I1 x b)
def f_X6_lad_s (I : gI) (x b : Int32) : gI :=
  let I1 := gU I 2 11 0 0 0
  if (f_X6_isLad I1 x) = 0 then
    let I2 := f_X6_no_s I1 1
    I2
  else
    if (f_X6_isIn I1 b 0 8) = 0 then
      let I3 := f_X6_no_s I1 1
      I3
    else
      I1
set_option maxHeartbeats 4000000 in
set_option maxRecDepth 100000 in
theorem m_X6_lad (l : Launch) (E : gE) (J : Int64) (I : gI) (x b : Int32) (hok : ok_X6_lad I x b) : gMi l E J yX6_lad cX6_lad 3 (some .int) 2 43 [.ref (gA E 2 11 0), .int x, .int b] I (f_X6_lad_v I x b) (f_X6_lad_s I x b) := by
  refine g_entry (lv := [(0, .ref (gA E 2 11 0)), (1, .int x), (2, .int b)]) (by decide) (Nat.le_of_ble_eq_true rfl) rfl ?_
  intro p e s m below meth c0 ls K hG hS hml hr hlocks hl
  have K : kx E p m c0 cX6_lad "HayThievesModel" _ s := K
  have hx := K.1
  have hb := K.2.1
  have hts := K.2.2.1
  have hown := K.2.2.2.1
  have hSt := K.2.2.2.2
  unfold ok_X6_lad at hok
  refine lv_aload_n hx hb dX6_lad_0 rfl (lv_at hl 0 rfl) ?_
  refine lv_iconst (v := 0) hx hb dX6_lad_1 (by decide) ?_
  refine pf_X6_36 K hG hS rfl dX6_lad_2 (fun I1 hI1 H locs hG hS => ?_)
  have hok := hok I1 hI1
  refine lv_aload_n hx hb dX6_lad_5 rfl (lv_at hl 0 rfl) ?_
  refine lv_iload_n hx hb dX6_lad_6 rfl (lv_at hl 1 rfl) ?_
  obtain ⟨ho1, hok⟩ := hok
  refine g_ki (g_runV (As := [.int x]) (rest := []) K hml ca_X6_isLad q793 (m_X6_isLad l E J I1 x ho1) hG hS rfl rfl rfl rfl rfl hl.1 (Nat.le_of_ble_eq_true rfl) ⟨by decide, by decide⟩ dX6_lad_7 ⟨Nat.zero_le _, Nat.zero_le _⟩) hS (fun H locs hG hS => ?_)
  refine lv_if_eq (tgt := 32) hx hb dX6_lad_10 (by decide) (fun c2 => ?_) (fun c2 => ?_)
  · have hok := hok.1 c2
    refine lv_aload_n hx hb dX6_lad_32 rfl (lv_at hl 0 rfl) ?_
    refine lv_iconst (v := 1) hx hb dX6_lad_33 (by decide) ?_
    obtain ⟨ho3, hok⟩ := hok
    refine g_ki (g_runV (As := [.int 1]) (rest := []) K hml ca_X6_no q785 (m_X6_no l E J I1 1 ho3) hG hS rfl rfl rfl rfl rfl hl.1 (Nat.le_of_ble_eq_true rfl) ⟨by decide, by decide⟩ dX6_lad_34 ⟨Nat.zero_le _, Nat.zero_le _⟩) hS (fun H locs hG hS => ?_)
    obtain ⟨I2, hI2⟩ : ∃ z, z = f_X6_no_s I1 1 := ⟨_, rfl⟩
    rw [← hI2] at hG
    have hok := hok I2 hI2
    have eS : I2 = (f_X6_lad_s I x b) := (by simp only [f_X6_lad_s, ← hI1, ← hI2, if_pos c2])
    rw [eS] at hG
    exact g_iret K hG hS hr hlocks (by simp only [f_X6_lad_v, ← hI1, ← hI2, if_pos c2]) dX6_lad_37
  · have hok := hok.2 c2
    refine lv_iload_n hx hb dX6_lad_13 rfl (lv_at hl 2 rfl) ?_
    refine lv_iconst (v := 0) hx hb dX6_lad_14 (by decide) ?_
    refine lv_bipush (v := 8) hx hb dX6_lad_15 (by decide) ?_
    obtain ⟨ho4, hok⟩ := hok
    refine g_ki (g_runS (As := [.int b, .int 0, .int 8]) (rest := []) K hml ca_X6_isIn q782 (m_X6_isIn l E J I1 b 0 8 ho4) hG hS rfl hl.1 (Nat.le_of_ble_eq_true rfl) ⟨by decide, by decide⟩ dX6_lad_17 ⟨Nat.zero_le _, Nat.zero_le _⟩) hS (fun H locs hG hS => ?_)
    refine lv_if_eq (tgt := 32) hx hb dX6_lad_20 (by decide) (fun c5 => ?_) (fun c5 => ?_)
    · have hok := hok.1 c5
      refine lv_aload_n hx hb dX6_lad_32 rfl (lv_at hl 0 rfl) ?_
      refine lv_iconst (v := 1) hx hb dX6_lad_33 (by decide) ?_
      obtain ⟨ho6, hok⟩ := hok
      refine g_ki (g_runV (As := [.int 1]) (rest := []) K hml ca_X6_no q785 (m_X6_no l E J I1 1 ho6) hG hS rfl rfl rfl rfl rfl hl.1 (Nat.le_of_ble_eq_true rfl) ⟨by decide, by decide⟩ dX6_lad_34 ⟨Nat.zero_le _, Nat.zero_le _⟩) hS (fun H locs hG hS => ?_)
      obtain ⟨I3, hI3⟩ : ∃ z, z = f_X6_no_s I1 1 := ⟨_, rfl⟩
      rw [← hI3] at hG
      have hok := hok I3 hI3
      have eS : I3 = (f_X6_lad_s I x b) := (by simp only [f_X6_lad_s, ← hI1, ← hI3, if_neg c2, if_pos c5])
      rw [eS] at hG
      exact g_iret K hG hS hr hlocks (by simp only [f_X6_lad_v, ← hI1, ← hI3, if_neg c2, if_pos c5]) dX6_lad_37
    · have hok := hok.2 c5
      refine lv_aload_n hx hb dX6_lad_23 rfl (lv_at hl 0 rfl) ?_
      refine lv_iload_n hx hb dX6_lad_24 rfl (lv_at hl 1 rfl) ?_
      refine lv_iload_n hx hb dX6_lad_25 rfl (lv_at hl 2 rfl) ?_
      obtain ⟨ho7, hok⟩ := hok
      refine g_ki (g_runV (As := [.int x, .int b]) (rest := []) K hml ca_X6_ladTold q825 (m_X6_ladTold l E J I1 x b ho7) hG hS rfl rfl rfl rfl rfl hl.1 (Nat.le_of_ble_eq_true rfl) ⟨by decide, by decide⟩ dX6_lad_26 ⟨Nat.zero_le _, Nat.zero_le _⟩) hS (fun H locs hG hS => ?_)
      refine lv_goto (tgt := 37) hx hb dX6_lad_29 (by decide) ?_
      have eS : I1 = (f_X6_lad_s I x b) := (by simp only [f_X6_lad_s, ← hI1, if_neg c2, if_neg c5])
      rw [eS] at hG
      exact g_iret K hG hS hr hlocks (by simp only [f_X6_lad_v, ← hI1, if_neg c2, if_neg c5]) dX6_lad_37
def ok_X6_cart (I : gI) (x b : Int32) : Prop :=
  ∀ I1, I1 = gU I 2 11 0 0 0 →
  ok_X6_isLad I1 x ∧
  (((f_X6_isLad I1 x) = 0) →
    ok_X6_no I1 1 ∧
    ∀ I2, I2 = f_X6_no_s I1 1 →
    True) ∧
  (¬ ((f_X6_isLad I1 x) = 0) →
    vp_in x 6 ∧
    ok_X6_isIn I1 b 0 ((I1 3 31 0 x.toNatClampNeg) - 1) ∧
    (((f_X6_isIn I1 b 0 ((I1 3 31 0 x.toNatClampNeg) - 1)) = 0) →
      ok_X6_no I1 1 ∧
      ∀ I3, I3 = f_X6_no_s I1 1 →
      True) ∧
    (¬ ((f_X6_isIn I1 b 0 ((I1 3 31 0 x.toNatClampNeg) - 1)) = 0) →
      vp_in ((8 * x) + b) 48 ∧
      vp_in (I1 3 32 0 (((8 * x) + b).toNatClampNeg)) 600 ∧
      True))
def f_X6_cart_v (I : gI) (x b : Int32) : Int32 :=
  let I1 := gU I 2 11 0 0 0
  if (f_X6_isLad I1 x) = 0 then
    let I2 := f_X6_no_s I1 1
    (f_X6_no_v I1 1)
  else
    if (f_X6_isIn I1 b 0 ((I1 3 31 0 x.toNatClampNeg) - 1)) = 0 then
      let I3 := f_X6_no_s I1 1
      (f_X6_no_v I1 1)
    else
      (I1 3 40 0 ((I1 3 32 0 (((8 * x) + b).toNatClampNeg)).toNatClampNeg))
def f_X6_cart_s (I : gI) (x b : Int32) : gI :=
  let I1 := gU I 2 11 0 0 0
  if (f_X6_isLad I1 x) = 0 then
    let I2 := f_X6_no_s I1 1
    I2
  else
    if (f_X6_isIn I1 b 0 ((I1 3 31 0 x.toNatClampNeg) - 1)) = 0 then
      let I3 := f_X6_no_s I1 1
      I3
    else
      I1
set_option maxHeartbeats 4000000 in
set_option maxRecDepth 100000 in
theorem m_X6_cart (l : Launch) (E : gE) (J : Int64) (I : gI) (x b : Int32) (hok : ok_X6_cart I x b) : gMi l E J yX6_cart cX6_cart 3 (some .int) 2 43 [.ref (gA E 2 11 0), .int x, .int b] I (f_X6_cart_v I x b) (f_X6_cart_s I x b) := by
  refine g_entry (lv := [(0, .ref (gA E 2 11 0)), (1, .int x), (2, .int b)]) (by decide) (Nat.le_of_ble_eq_true rfl) rfl ?_
  intro p e s m below meth c0 ls K hG hS hml hr hlocks hl
  have K : kx E p m c0 cX6_cart "HayThievesModel" _ s := K
  have hx := K.1
  have hb := K.2.1
  have hts := K.2.2.1
  have hown := K.2.2.2.1
  have hSt := K.2.2.2.2
  unfold ok_X6_cart at hok
  refine lv_aload_n hx hb dX6_cart_0 rfl (lv_at hl 0 rfl) ?_
  refine lv_iconst (v := 0) hx hb dX6_cart_1 (by decide) ?_
  refine pf_X6_36 K hG hS rfl dX6_cart_2 (fun I1 hI1 H locs hG hS => ?_)
  have hok := hok I1 hI1
  refine lv_aload_n hx hb dX6_cart_5 rfl (lv_at hl 0 rfl) ?_
  refine lv_iload_n hx hb dX6_cart_6 rfl (lv_at hl 1 rfl) ?_
  obtain ⟨ho1, hok⟩ := hok
  refine g_ki (g_runV (As := [.int x]) (rest := []) K hml ca_X6_isLad q793 (m_X6_isLad l E J I1 x ho1) hG hS rfl rfl rfl rfl rfl hl.1 (Nat.le_of_ble_eq_true rfl) ⟨by decide, by decide⟩ dX6_cart_7 ⟨Nat.zero_le _, Nat.zero_le _⟩) hS (fun H locs hG hS => ?_)
  refine lv_if_eq (tgt := 57) hx hb dX6_cart_10 (by decide) (fun c2 => ?_) (fun c2 => ?_)
  · have hok := hok.1 c2
    refine lv_aload_n hx hb dX6_cart_57 rfl (lv_at hl 0 rfl) ?_
    refine lv_iconst (v := 1) hx hb dX6_cart_58 (by decide) ?_
    obtain ⟨ho3, hok⟩ := hok
    refine g_ki (g_runV (As := [.int 1]) (rest := []) K hml ca_X6_no q785 (m_X6_no l E J I1 1 ho3) hG hS rfl rfl rfl rfl rfl hl.1 (Nat.le_of_ble_eq_true rfl) ⟨by decide, by decide⟩ dX6_cart_59 ⟨Nat.zero_le _, Nat.zero_le _⟩) hS (fun H locs hG hS => ?_)
    obtain ⟨I2, hI2⟩ : ∃ z, z = f_X6_no_s I1 1 := ⟨_, rfl⟩
    rw [← hI2] at hG
    have hok := hok I2 hI2
    have eS : I2 = (f_X6_cart_s I x b) := (by simp only [f_X6_cart_s, ← hI1, ← hI2, if_pos c2])
    rw [eS] at hG
    exact g_iret K hG hS hr hlocks (by simp only [f_X6_cart_v, ← hI1, ← hI2, if_pos c2]) dX6_cart_62
  · have hok := hok.2 c2
    refine lv_iload_n hx hb dX6_cart_13 rfl (lv_at hl 2 rfl) ?_
    refine lv_iconst (v := 0) hx hb dX6_cart_14 (by decide) ?_
    refine lv_aload_n hx hb dX6_cart_15 rfl (lv_at hl 0 rfl) ?_
    refine gf_X6_29 K hG rfl dX6_cart_16 ?_
    refine gf_X6_49 K hG (gvs (Or.inl rfl) 20 rfl) dX6_cart_19 ?_
    refine lv_iload_n hx hb dX6_cart_22 rfl (lv_at hl 1 rfl) ?_
    obtain ⟨ho4, hok⟩ := hok
    refine g_iald K hG (gvs (Or.inl rfl) 31 rfl) rfl (fun _ => rfl) ho4 dX6_cart_23 ?_
    refine lv_iconst (v := 1) hx hb dX6_cart_24 (by decide) ?_
    refine lv_isub hx hb dX6_cart_25 ?_
    obtain ⟨ho5, hok⟩ := hok
    refine g_ki (g_runS (As := [.int b, .int 0, .int ((I1 3 31 0 x.toNatClampNeg) - 1)]) (rest := []) K hml ca_X6_isIn q782 (m_X6_isIn l E J I1 b 0 ((I1 3 31 0 x.toNatClampNeg) - 1) ho5) hG hS rfl hl.1 (Nat.le_of_ble_eq_true rfl) ⟨by decide, by decide⟩ dX6_cart_26 ⟨Nat.zero_le _, Nat.zero_le _⟩) hS (fun H locs hG hS => ?_)
    refine lv_if_eq (tgt := 57) hx hb dX6_cart_29 (by decide) (fun c6 => ?_) (fun c6 => ?_)
    · have hok := hok.1 c6
      refine lv_aload_n hx hb dX6_cart_57 rfl (lv_at hl 0 rfl) ?_
      refine lv_iconst (v := 1) hx hb dX6_cart_58 (by decide) ?_
      obtain ⟨ho7, hok⟩ := hok
      refine g_ki (g_runV (As := [.int 1]) (rest := []) K hml ca_X6_no q785 (m_X6_no l E J I1 1 ho7) hG hS rfl rfl rfl rfl rfl hl.1 (Nat.le_of_ble_eq_true rfl) ⟨by decide, by decide⟩ dX6_cart_59 ⟨Nat.zero_le _, Nat.zero_le _⟩) hS (fun H locs hG hS => ?_)
      obtain ⟨I3, hI3⟩ : ∃ z, z = f_X6_no_s I1 1 := ⟨_, rfl⟩
      rw [← hI3] at hG
      have hok := hok I3 hI3
      have eS : I3 = (f_X6_cart_s I x b) := (by simp only [f_X6_cart_s, ← hI1, ← hI3, if_neg c2, if_pos c6])
      rw [eS] at hG
      exact g_iret K hG hS hr hlocks (by simp only [f_X6_cart_v, ← hI1, ← hI3, if_neg c2, if_pos c6]) dX6_cart_62
    · have hok := hok.2 c6
      refine lv_aload_n hx hb dX6_cart_32 rfl (lv_at hl 0 rfl) ?_
      refine gf_X6_29 K hG rfl dX6_cart_33 ?_
      refine gf_X6_52 K hG (gvs (Or.inl rfl) 20 rfl) dX6_cart_36 ?_
      refine lv_aload_n hx hb dX6_cart_39 rfl (lv_at hl 0 rfl) ?_
      refine gf_X6_29 K hG rfl dX6_cart_40 ?_
      refine gf_X6_144 K hG (gvs (Or.inl rfl) 20 rfl) dX6_cart_43 ?_
      refine lv_bipush (v := 8) hx hb dX6_cart_46 (by decide) ?_
      refine lv_iload_n hx hb dX6_cart_48 rfl (lv_at hl 1 rfl) ?_
      refine lv_imul hx hb dX6_cart_49 ?_
      refine lv_iload_n hx hb dX6_cart_50 rfl (lv_at hl 2 rfl) ?_
      refine lv_iadd hx hb dX6_cart_51 ?_
      obtain ⟨ho8, hok⟩ := hok
      refine g_iald K hG (gvs (Or.inl rfl) 32 rfl) rfl (fun _ => rfl) ho8 dX6_cart_52 ?_
      obtain ⟨ho9, hok⟩ := hok
      refine g_iald K hG (gvs (Or.inl rfl) 40 rfl) rfl (fun _ => rfl) ho9 dX6_cart_53 ?_
      refine lv_goto (tgt := 62) hx hb dX6_cart_54 (by decide) ?_
      have eS : I1 = (f_X6_cart_s I x b) := (by simp only [f_X6_cart_s, ← hI1, if_neg c2, if_neg c6])
      rw [eS] at hG
      exact g_iret K hG hS hr hlocks (by simp only [f_X6_cart_v, ← hI1, if_neg c2, if_neg c6]) dX6_cart_62
def ok_X6_load (I : gI) (x b : Int32) : Prop :=
  ∀ I1, I1 = gU I 2 11 0 0 0 →
  ok_X6_isLoad I1 x ∧
  (((f_X6_isLoad I1 x) = 0) →
    ok_X6_no I1 1 ∧
    ∀ I2, I2 = f_X6_no_s I1 1 →
    True) ∧
  (¬ ((f_X6_isLoad I1 x) = 0) →
    ok_X6_isIn I1 b 0 6 ∧
    (((f_X6_isIn I1 b 0 6) = 0) →
      ok_X6_no I1 1 ∧
      ∀ I3, I3 = f_X6_no_s I1 1 →
      True) ∧
    (¬ ((f_X6_isIn I1 b 0 6) = 0) →
      ok_X6_loadTold I1 x b ∧
      True))
def f_X6_load_v (I : gI) (x b : Int32) : Int32 :=
  let I1 := gU I 2 11 0 0 0
  if (f_X6_isLoad I1 x) = 0 then
    let I2 := f_X6_no_s I1 1
    (f_X6_no_v I1 1)
  else
    if (f_X6_isIn I1 b 0 6) = 0 then
      let I3 := f_X6_no_s I1 1
      (f_X6_no_v I1 1)
    else
      (f_X6_loadTold I1 x b)
def f_X6_load_s (I : gI) (x b : Int32) : gI :=
  let I1 := gU I 2 11 0 0 0
  if (f_X6_isLoad I1 x) = 0 then
    let I2 := f_X6_no_s I1 1
    I2
  else
    if (f_X6_isIn I1 b 0 6) = 0 then
      let I3 := f_X6_no_s I1 1
      I3
    else
      I1
set_option maxHeartbeats 4000000 in
set_option maxRecDepth 100000 in
theorem m_X6_load (l : Launch) (E : gE) (J : Int64) (I : gI) (x b : Int32) (hok : ok_X6_load I x b) : gMi l E J yX6_load cX6_load 3 (some .int) 2 43 [.ref (gA E 2 11 0), .int x, .int b] I (f_X6_load_v I x b) (f_X6_load_s I x b) := by
  refine g_entry (lv := [(0, .ref (gA E 2 11 0)), (1, .int x), (2, .int b)]) (by decide) (Nat.le_of_ble_eq_true rfl) rfl ?_
  intro p e s m below meth c0 ls K hG hS hml hr hlocks hl
  have K : kx E p m c0 cX6_load "HayThievesModel" _ s := K
  have hx := K.1
  have hb := K.2.1
  have hts := K.2.2.1
  have hown := K.2.2.2.1
  have hSt := K.2.2.2.2
  unfold ok_X6_load at hok
  refine lv_aload_n hx hb dX6_load_0 rfl (lv_at hl 0 rfl) ?_
  refine lv_iconst (v := 0) hx hb dX6_load_1 (by decide) ?_
  refine pf_X6_36 K hG hS rfl dX6_load_2 (fun I1 hI1 H locs hG hS => ?_)
  have hok := hok I1 hI1
  refine lv_aload_n hx hb dX6_load_5 rfl (lv_at hl 0 rfl) ?_
  refine lv_iload_n hx hb dX6_load_6 rfl (lv_at hl 1 rfl) ?_
  obtain ⟨ho1, hok⟩ := hok
  refine g_ki (g_runV (As := [.int x]) (rest := []) K hml ca_X6_isLoad q841 (m_X6_isLoad l E J I1 x ho1) hG hS rfl rfl rfl rfl rfl hl.1 (Nat.le_of_ble_eq_true rfl) ⟨by decide, by decide⟩ dX6_load_7 ⟨Nat.zero_le _, Nat.zero_le _⟩) hS (fun H locs hG hS => ?_)
  refine lv_if_eq (tgt := 32) hx hb dX6_load_10 (by decide) (fun c2 => ?_) (fun c2 => ?_)
  · have hok := hok.1 c2
    refine lv_aload_n hx hb dX6_load_32 rfl (lv_at hl 0 rfl) ?_
    refine lv_iconst (v := 1) hx hb dX6_load_33 (by decide) ?_
    obtain ⟨ho3, hok⟩ := hok
    refine g_ki (g_runV (As := [.int 1]) (rest := []) K hml ca_X6_no q785 (m_X6_no l E J I1 1 ho3) hG hS rfl rfl rfl rfl rfl hl.1 (Nat.le_of_ble_eq_true rfl) ⟨by decide, by decide⟩ dX6_load_34 ⟨Nat.zero_le _, Nat.zero_le _⟩) hS (fun H locs hG hS => ?_)
    obtain ⟨I2, hI2⟩ : ∃ z, z = f_X6_no_s I1 1 := ⟨_, rfl⟩
    rw [← hI2] at hG
    have hok := hok I2 hI2
    have eS : I2 = (f_X6_load_s I x b) := (by simp only [f_X6_load_s, ← hI1, ← hI2, if_pos c2])
    rw [eS] at hG
    exact g_iret K hG hS hr hlocks (by simp only [f_X6_load_v, ← hI1, ← hI2, if_pos c2]) dX6_load_37
  · have hok := hok.2 c2
    refine lv_iload_n hx hb dX6_load_13 rfl (lv_at hl 2 rfl) ?_
    refine lv_iconst (v := 0) hx hb dX6_load_14 (by decide) ?_
    refine lv_bipush (v := 6) hx hb dX6_load_15 (by decide) ?_
    obtain ⟨ho4, hok⟩ := hok
    refine g_ki (g_runS (As := [.int b, .int 0, .int 6]) (rest := []) K hml ca_X6_isIn q782 (m_X6_isIn l E J I1 b 0 6 ho4) hG hS rfl hl.1 (Nat.le_of_ble_eq_true rfl) ⟨by decide, by decide⟩ dX6_load_17 ⟨Nat.zero_le _, Nat.zero_le _⟩) hS (fun H locs hG hS => ?_)
    refine lv_if_eq (tgt := 32) hx hb dX6_load_20 (by decide) (fun c5 => ?_) (fun c5 => ?_)
    · have hok := hok.1 c5
      refine lv_aload_n hx hb dX6_load_32 rfl (lv_at hl 0 rfl) ?_
      refine lv_iconst (v := 1) hx hb dX6_load_33 (by decide) ?_
      obtain ⟨ho6, hok⟩ := hok
      refine g_ki (g_runV (As := [.int 1]) (rest := []) K hml ca_X6_no q785 (m_X6_no l E J I1 1 ho6) hG hS rfl rfl rfl rfl rfl hl.1 (Nat.le_of_ble_eq_true rfl) ⟨by decide, by decide⟩ dX6_load_34 ⟨Nat.zero_le _, Nat.zero_le _⟩) hS (fun H locs hG hS => ?_)
      obtain ⟨I3, hI3⟩ : ∃ z, z = f_X6_no_s I1 1 := ⟨_, rfl⟩
      rw [← hI3] at hG
      have hok := hok I3 hI3
      have eS : I3 = (f_X6_load_s I x b) := (by simp only [f_X6_load_s, ← hI1, ← hI3, if_neg c2, if_pos c5])
      rw [eS] at hG
      exact g_iret K hG hS hr hlocks (by simp only [f_X6_load_v, ← hI1, ← hI3, if_neg c2, if_pos c5]) dX6_load_37
    · have hok := hok.2 c5
      refine lv_aload_n hx hb dX6_load_23 rfl (lv_at hl 0 rfl) ?_
      refine lv_iload_n hx hb dX6_load_24 rfl (lv_at hl 1 rfl) ?_
      refine lv_iload_n hx hb dX6_load_25 rfl (lv_at hl 2 rfl) ?_
      obtain ⟨ho7, hok⟩ := hok
      refine g_ki (g_runV (As := [.int x, .int b]) (rest := []) K hml ca_X6_loadTold q845 (m_X6_loadTold l E J I1 x b ho7) hG hS rfl rfl rfl rfl rfl hl.1 (Nat.le_of_ble_eq_true rfl) ⟨by decide, by decide⟩ dX6_load_26 ⟨Nat.zero_le _, Nat.zero_le _⟩) hS (fun H locs hG hS => ?_)
      refine lv_goto (tgt := 37) hx hb dX6_load_29 (by decide) ?_
      have eS : I1 = (f_X6_load_s I x b) := (by simp only [f_X6_load_s, ← hI1, if_neg c2, if_neg c5])
      rw [eS] at hG
      exact g_iret K hG hS hr hlocks (by simp only [f_X6_load_v, ← hI1, if_neg c2, if_neg c5]) dX6_load_37
def ok_X6_count (I : gI) (x : Int32) : Prop :=
  ∀ I1, I1 = gU I 2 11 0 0 0 →
  ok_X6_isIn I1 x 0 12 ∧
  (((f_X6_isIn I1 x 0 12) = 0) →
    ok_X6_no I1 1 ∧
    ∀ I2, I2 = f_X6_no_s I1 1 →
    True) ∧
  (¬ ((f_X6_isIn I1 x 0 12) = 0) →
    ok_X6_counted I1 3 x ∧
    True)
def f_X6_count_v (I : gI) (x : Int32) : Int32 :=
  let I1 := gU I 2 11 0 0 0
  if (f_X6_isIn I1 x 0 12) = 0 then
    let I2 := f_X6_no_s I1 1
    (f_X6_no_v I1 1)
  else
    (f_X6_counted I1 3 x)
def f_X6_count_s (I : gI) (x : Int32) : gI :=
  let I1 := gU I 2 11 0 0 0
  if (f_X6_isIn I1 x 0 12) = 0 then
    let I2 := f_X6_no_s I1 1
    I2
  else
    I1
set_option maxHeartbeats 4000000 in
set_option maxRecDepth 100000 in
theorem m_X6_count (l : Launch) (E : gE) (J : Int64) (I : gI) (x : Int32) (hok : ok_X6_count I x) : gMi l E J yX6_count cX6_count 2 (some .int) 2 46 [.ref (gA E 2 11 0), .int x] I (f_X6_count_v I x) (f_X6_count_s I x) := by
  refine g_entry (lv := [(0, .ref (gA E 2 11 0)), (1, .int x)]) (by decide) (Nat.le_of_ble_eq_true rfl) rfl ?_
  intro p e s m below meth c0 ls K hG hS hml hr hlocks hl
  have K : kx E p m c0 cX6_count "HayThievesModel" _ s := K
  have hx := K.1
  have hb := K.2.1
  have hts := K.2.2.1
  have hown := K.2.2.2.1
  have hSt := K.2.2.2.2
  unfold ok_X6_count at hok
  refine lv_aload_n hx hb dX6_count_0 rfl (lv_at hl 0 rfl) ?_
  refine lv_iconst (v := 0) hx hb dX6_count_1 (by decide) ?_
  refine pf_X6_36 K hG hS rfl dX6_count_2 (fun I1 hI1 H locs hG hS => ?_)
  have hok := hok I1 hI1
  refine lv_iload_n hx hb dX6_count_5 rfl (lv_at hl 1 rfl) ?_
  refine lv_iconst (v := 0) hx hb dX6_count_6 (by decide) ?_
  refine lv_bipush (v := 12) hx hb dX6_count_7 (by decide) ?_
  obtain ⟨ho1, hok⟩ := hok
  refine g_ki (g_runS (As := [.int x, .int 0, .int 12]) (rest := []) K hml ca_X6_isIn q782 (m_X6_isIn l E J I1 x 0 12 ho1) hG hS rfl hl.1 (Nat.le_of_ble_eq_true rfl) ⟨by decide, by decide⟩ dX6_count_9 ⟨Nat.zero_le _, Nat.zero_le _⟩) hS (fun H locs hG hS => ?_)
  refine lv_if_eq (tgt := 27) hx hb dX6_count_12 (by decide) (fun c2 => ?_) (fun c2 => ?_)
  · have hok := hok.1 c2
    refine lv_aload_n hx hb dX6_count_27 rfl (lv_at hl 0 rfl) ?_
    refine lv_iconst (v := 1) hx hb dX6_count_28 (by decide) ?_
    obtain ⟨ho3, hok⟩ := hok
    refine g_ki (g_runV (As := [.int 1]) (rest := []) K hml ca_X6_no q785 (m_X6_no l E J I1 1 ho3) hG hS rfl rfl rfl rfl rfl hl.1 (Nat.le_of_ble_eq_true rfl) ⟨by decide, by decide⟩ dX6_count_29 ⟨Nat.zero_le _, Nat.zero_le _⟩) hS (fun H locs hG hS => ?_)
    obtain ⟨I2, hI2⟩ : ∃ z, z = f_X6_no_s I1 1 := ⟨_, rfl⟩
    rw [← hI2] at hG
    have hok := hok I2 hI2
    have eS : I2 = (f_X6_count_s I x) := (by simp only [f_X6_count_s, ← hI1, ← hI2, if_pos c2])
    rw [eS] at hG
    exact g_iret K hG hS hr hlocks (by simp only [f_X6_count_v, ← hI1, ← hI2, if_pos c2]) dX6_count_32
  · have hok := hok.2 c2
    refine lv_aload_n hx hb dX6_count_15 rfl (lv_at hl 0 rfl) ?_
    refine lv_aload_n hx hb dX6_count_16 rfl (lv_at hl 0 rfl) ?_
    refine gf_X6_29 K hG rfl dX6_count_17 ?_
    refine lv_iload_n hx hb dX6_count_20 rfl (lv_at hl 1 rfl) ?_
    obtain ⟨ho4, hok⟩ := hok
    refine g_ki (g_runV (As := [.ref (gA E 3 20 0), .int x]) (rest := []) K hml ca_X6_counted q853 (m_X6_counted l E J I1 3 x (Or.inl rfl) ho4) hG hS rfl rfl rfl rfl rfl hl.1 (Nat.le_of_ble_eq_true rfl) ⟨by decide, by decide⟩ dX6_count_21 ⟨Nat.zero_le _, Nat.zero_le _⟩) hS (fun H locs hG hS => ?_)
    refine lv_goto (tgt := 32) hx hb dX6_count_24 (by decide) ?_
    have eS : I1 = (f_X6_count_s I x) := (by simp only [f_X6_count_s, ← hI1, if_neg c2])
    rw [eS] at hG
    exact g_iret K hG hS hr hlocks (by simp only [f_X6_count_v, ← hI1, if_neg c2]) dX6_count_32
def ok_X6_victim (I : gI) (x : Int32) : Prop :=
  ∀ I1, I1 = gU I 2 11 0 0 0 →
  ok_X6_isLad I1 x ∧
  (((f_X6_isLad I1 x) = 0) →
    ok_X6_no I1 1 ∧
    ∀ I2, I2 = f_X6_no_s I1 1 →
    True) ∧
  (¬ ((f_X6_isLad I1 x) = 0) →
    ok_X6_victimOf I1 3 x ∧
    True)
def f_X6_victim_v (I : gI) (x : Int32) : Int32 :=
  let I1 := gU I 2 11 0 0 0
  if (f_X6_isLad I1 x) = 0 then
    let I2 := f_X6_no_s I1 1
    (f_X6_no_v I1 1)
  else
    (f_X6_victimOf I1 3 x)
def f_X6_victim_s (I : gI) (x : Int32) : gI :=
  let I1 := gU I 2 11 0 0 0
  if (f_X6_isLad I1 x) = 0 then
    let I2 := f_X6_no_s I1 1
    I2
  else
    I1
set_option maxHeartbeats 4000000 in
set_option maxRecDepth 100000 in
theorem m_X6_victim (l : Launch) (E : gE) (J : Int64) (I : gI) (x : Int32) (hok : ok_X6_victim I x) : gMi l E J yX6_victim cX6_victim 2 (some .int) 3 69 [.ref (gA E 2 11 0), .int x] I (f_X6_victim_v I x) (f_X6_victim_s I x) := by
  refine g_entry (lv := [(0, .ref (gA E 2 11 0)), (1, .int x)]) (by decide) (Nat.le_of_ble_eq_true rfl) rfl ?_
  intro p e s m below meth c0 ls K hG hS hml hr hlocks hl
  have K : kx E p m c0 cX6_victim "HayThievesModel" _ s := K
  have hx := K.1
  have hb := K.2.1
  have hts := K.2.2.1
  have hown := K.2.2.2.1
  have hSt := K.2.2.2.2
  unfold ok_X6_victim at hok
  refine lv_aload_n hx hb dX6_victim_0 rfl (lv_at hl 0 rfl) ?_
  refine lv_iconst (v := 0) hx hb dX6_victim_1 (by decide) ?_
  refine pf_X6_36 K hG hS rfl dX6_victim_2 (fun I1 hI1 H locs hG hS => ?_)
  have hok := hok I1 hI1
  refine lv_aload_n hx hb dX6_victim_5 rfl (lv_at hl 0 rfl) ?_
  refine lv_iload_n hx hb dX6_victim_6 rfl (lv_at hl 1 rfl) ?_
  obtain ⟨ho1, hok⟩ := hok
  refine g_ki (g_runV (As := [.int x]) (rest := []) K hml ca_X6_isLad q793 (m_X6_isLad l E J I1 x ho1) hG hS rfl rfl rfl rfl rfl hl.1 (Nat.le_of_ble_eq_true rfl) ⟨by decide, by decide⟩ dX6_victim_7 ⟨Nat.zero_le _, Nat.zero_le _⟩) hS (fun H locs hG hS => ?_)
  refine lv_if_eq (tgt := 25) hx hb dX6_victim_10 (by decide) (fun c2 => ?_) (fun c2 => ?_)
  · have hok := hok.1 c2
    refine lv_aload_n hx hb dX6_victim_25 rfl (lv_at hl 0 rfl) ?_
    refine lv_iconst (v := 1) hx hb dX6_victim_26 (by decide) ?_
    obtain ⟨ho3, hok⟩ := hok
    refine g_ki (g_runV (As := [.int 1]) (rest := []) K hml ca_X6_no q785 (m_X6_no l E J I1 1 ho3) hG hS rfl rfl rfl rfl rfl hl.1 (Nat.le_of_ble_eq_true rfl) ⟨by decide, by decide⟩ dX6_victim_27 ⟨Nat.zero_le _, Nat.zero_le _⟩) hS (fun H locs hG hS => ?_)
    obtain ⟨I2, hI2⟩ : ∃ z, z = f_X6_no_s I1 1 := ⟨_, rfl⟩
    rw [← hI2] at hG
    have hok := hok I2 hI2
    have eS : I2 = (f_X6_victim_s I x) := (by simp only [f_X6_victim_s, ← hI1, ← hI2, if_pos c2])
    rw [eS] at hG
    exact g_iret K hG hS hr hlocks (by simp only [f_X6_victim_v, ← hI1, ← hI2, if_pos c2]) dX6_victim_30
  · have hok := hok.2 c2
    refine lv_aload_n hx hb dX6_victim_13 rfl (lv_at hl 0 rfl) ?_
    refine lv_aload_n hx hb dX6_victim_14 rfl (lv_at hl 0 rfl) ?_
    refine gf_X6_29 K hG rfl dX6_victim_15 ?_
    refine lv_iload_n hx hb dX6_victim_18 rfl (lv_at hl 1 rfl) ?_
    obtain ⟨ho4, hok⟩ := hok
    refine g_ki (g_runV (As := [.ref (gA E 3 20 0), .int x]) (rest := []) K hml ca_X6_victimOf q869 (m_X6_victimOf l E J I1 3 x (Or.inl rfl) ho4) hG hS rfl rfl rfl rfl rfl hl.1 (Nat.le_of_ble_eq_true rfl) ⟨by decide, by decide⟩ dX6_victim_19 ⟨Nat.zero_le _, Nat.zero_le _⟩) hS (fun H locs hG hS => ?_)
    refine lv_goto (tgt := 30) hx hb dX6_victim_22 (by decide) ?_
    have eS : I1 = (f_X6_victim_s I x) := (by simp only [f_X6_victim_s, ← hI1, if_neg c2])
    rw [eS] at hG
    exact g_iret K hG hS hr hlocks (by simp only [f_X6_victim_v, ← hI1, if_neg c2]) dX6_victim_30
def f_X6_thief_l1_v  : Nat → Nat → Int32 → gI → Int32
  | 0, i, a, I1 =>
    a
  | n + 1, i, a, I1 =>
    if a = (-1) then
      f_X6_thief_l1_v n (i + 1) (nI i) I1
    else
      if (I1 3 28 0 i) ≤ (I1 3 28 0 a.toNatClampNeg) then
        f_X6_thief_l1_v n (i + 1) a I1
      else
        f_X6_thief_l1_v n (i + 1) (nI i) I1
def f_X6_thief_l1_s  : Nat → Nat → Int32 → gI → gI
  | 0, i, a, I1 =>
    I1
  | n + 1, i, a, I1 =>
    if a = (-1) then
      f_X6_thief_l1_s n (i + 1) (nI i) I1
    else
      if (I1 3 28 0 i) ≤ (I1 3 28 0 a.toNatClampNeg) then
        f_X6_thief_l1_s n (i + 1) a I1
      else
        f_X6_thief_l1_s n (i + 1) (nI i) I1
def ok_f_X6_thief_l1  : Nat → Nat → Int32 → gI → Prop
  | 0, i, a, I1 =>
    True
  | n + 1, i, a, I1 =>
    ((a = (-1)) →
      ok_f_X6_thief_l1 n (i + 1) (nI i) I1) ∧
    (¬ (a = (-1)) →
      vp_in a 6 ∧
      (((I1 3 28 0 i) ≤ (I1 3 28 0 a.toNatClampNeg)) →
        ok_f_X6_thief_l1 n (i + 1) a I1) ∧
      (¬ ((I1 3 28 0 i) ≤ (I1 3 28 0 a.toNatClampNeg)) →
        ok_f_X6_thief_l1 n (i + 1) (nI i) I1))
def ok_X6_thief (I : gI)  : Prop :=
  ∀ I1, I1 = gU I 2 11 0 0 0 →
  isN (I1 2 11 0 1) 6 ∧
  ok_f_X6_thief_l1 ((I1 2 11 0 1).toNatClampNeg) 0 (-1) I1
def f_X6_thief_v (I : gI)  : Int32 :=
  let I1 := gU I 2 11 0 0 0
  f_X6_thief_l1_v ((I1 2 11 0 1).toNatClampNeg) 0 (-1) I1
def f_X6_thief_s (I : gI)  : gI :=
  let I1 := gU I 2 11 0 0 0
  f_X6_thief_l1_s ((I1 2 11 0 1).toNatClampNeg) 0 (-1) I1
set_option maxHeartbeats 4000000 in
set_option maxRecDepth 100000 in
theorem m_X6_thief (l : Launch) (E : gE) (J : Int64) (I : gI)  (hok : ok_X6_thief I) : gMi l E J yX6_thief cX6_thief 3 (some .int) 0 0 [.ref (gA E 2 11 0)] I (f_X6_thief_v I) (f_X6_thief_s I) := by
  refine g_entry (lv := [(0, .ref (gA E 2 11 0))]) (by decide) (Nat.le_of_ble_eq_true rfl) rfl ?_
  intro p e s m below meth c0 ls K hG hS hml hr hlocks hl
  have K : kx E p m c0 cX6_thief "HayThievesModel" _ s := K
  have hx := K.1
  have hb := K.2.1
  have hts := K.2.2.1
  have hown := K.2.2.2.1
  have hSt := K.2.2.2.2
  unfold ok_X6_thief at hok
  refine lv_aload_n hx hb dX6_thief_0 rfl (lv_at hl 0 rfl) ?_
  refine lv_iconst (v := 0) hx hb dX6_thief_1 (by decide) ?_
  refine pf_X6_36 K hG hS rfl dX6_thief_2 (fun I1 hI1 H locs hG hS => ?_)
  have hok := hok I1 hI1
  refine lv_iconst (v := (-1)) hx hb dX6_thief_5 (by decide) ?_
  refine lv_istore_n (lv' := [(1, .int (-1)), (0, .ref (gA E 2 11 0))]) hx hb dX6_thief_6 rfl hl (by decide) rfl (fun ls hl => ?_)
  refine lv_iconst (v := 0) hx hb dX6_thief_7 (by decide) ?_
  refine lv_istore_n (lv' := [(2, .int 0), (1, .int (-1)), (0, .ref (gA E 2 11 0))]) hx hb dX6_thief_8 rfl hl (by decide) rfl (fun ls hl => ?_)
  obtain ⟨ho1, hok⟩ := hok
  have hNb := ho1.1
  have hL_l1 : ∀ (n i : Nat) (a : Int32) (H : Heap) (locs : List Loc) (ls : Array Slot), i + n = (I1 2 11 0 1).toNatClampNeg → f_X6_thief_l1_v n i a I1 = f_X6_thief_v I → f_X6_thief_l1_s n i a I1 = (f_X6_thief_s I) → ok_f_X6_thief_l1 n i a I1 → GW E J I1 H → va_S (gF E) s.heap H locs → lv_has ls 3 [(2, .int (nI i)), (1, .int a), (0, .ref (gA E 2 11 0))] → W p l e (grm 0 0) s m ([.ref (gA E 2 11 0)] : List Value).toArray below meth c0 H locs 0 0 (MQ below (va_Qi (fun z9 (_ : Unit) => z9 = f_X6_thief_v I) (fun _ t => GW E J (f_X6_thief_s I) t.heap) (gF E)) ([.ref (gA E 2 11 0)] : List Value).toArray s 0 0 (gF E)) (F0 m 9 ls []) := by
    intro n
    induction n with
    | zero =>
      intro i a H locs ls hin hTv hTs hok hG hS hl
      unfold ok_f_X6_thief_l1 at hok
      refine lv_iload_n hx hb dX6_thief_9 rfl (lv_at hl 0 rfl) ?_
      refine lv_aload_n hx hb dX6_thief_10 rfl (lv_at hl 2 rfl) ?_
      refine gf_X6_39 K hG rfl dX6_thief_11 ?_
      refine lv_icmp_ge (tgt := 51) hx hb dX6_thief_14 (by decide) (fun c2 => ?_) (fun c2 => ?_)
      · skip
        refine lv_iload_n hx hb dX6_thief_51 rfl (lv_at hl 1 rfl) ?_
        have eS : I1 = (f_X6_thief_s I) := (by rw [← hTs]; simp only [f_X6_thief_l1_s, if_pos c2])
        rw [eS] at hG
        exact g_iret K hG hS hr hlocks (by rw [← hTv]; simp only [f_X6_thief_l1_v, if_pos c2]) dX6_thief_52
      · exact absurd (lp_ge ho1.2 (by omega) hin) c2
    | succ n ih =>
      intro i a H locs ls hin hTv hTs hok hG hS hl
      unfold ok_f_X6_thief_l1 at hok
      refine lv_iload_n hx hb dX6_thief_9 rfl (lv_at hl 0 rfl) ?_
      refine lv_aload_n hx hb dX6_thief_10 rfl (lv_at hl 2 rfl) ?_
      refine gf_X6_39 K hG rfl dX6_thief_11 ?_
      refine lv_icmp_ge (tgt := 51) hx hb dX6_thief_14 (by decide) (fun c3 => ?_) (fun c3 => ?_)
      · exact absurd c3 (lp_nge ho1.2 (by omega) hin)
      · skip
        refine lv_iload_n hx hb dX6_thief_17 rfl (lv_at hl 1 rfl) ?_
        refine lv_iconst (v := (-1)) hx hb dX6_thief_18 (by decide) ?_
        refine lv_icmp_eq (tgt := 43) hx hb dX6_thief_19 (by decide) (fun c4 => ?_) (fun c4 => ?_)
        · have hok := hok.1 c4
          refine lv_iload_n hx hb dX6_thief_43 rfl (lv_at hl 0 rfl) ?_
          refine lv_istore_n (lv' := [(1, .int (nI i)), (2, .int (nI i)), (0, .ref (gA E 2 11 0))]) hx hb dX6_thief_44 rfl hl (by decide) rfl (fun ls hl => ?_)
          refine lv_iinc (v := (nI (i + 1))) (lv' := [(2, .int (nI (i + 1))), (1, .int (nI i)), (0, .ref (gA E 2 11 0))]) hx hb dX6_thief_45 hl (k := 1) rfl (nI_add i 1) (by decide) rfl (fun ls hl => ?_)
          refine lv_goto (tgt := 9) hx hb dX6_thief_48 (by decide) ?_
          exact ih (i + 1) (nI i) _ _ _ (by omega) (by rw [← hTv]; simp only [f_X6_thief_l1_v, if_neg c3, if_pos c4]) (by rw [← hTs]; simp only [f_X6_thief_l1_s, if_neg c3, if_pos c4]) hok hG hS (lv_sub hl [0, 1, 2] rfl)
        · have hok := hok.2 c4
          refine lv_aload_n hx hb dX6_thief_22 rfl (lv_at hl 2 rfl) ?_
          refine gf_X6_29 K hG rfl dX6_thief_23 ?_
          refine gf_X6_153 K hG (gvs (Or.inl rfl) 20 rfl) dX6_thief_26 ?_
          refine lv_iload_n hx hb dX6_thief_29 rfl (lv_at hl 0 rfl) ?_
          refine g_iald K hG (gvs (Or.inl rfl) 28 rfl) rfl (fun _ => rfl) (vp_in_nI (Nat.lt_of_lt_of_le (show i < 6 by omega) (by decide)) (by decide)) dX6_thief_30 ?_
          rw [nI_clamp (Nat.lt_trans (show i < 6 by omega) (by decide))]
          refine lv_aload_n hx hb dX6_thief_31 rfl (lv_at hl 2 rfl) ?_
          refine gf_X6_29 K hG rfl dX6_thief_32 ?_
          refine gf_X6_153 K hG (gvs (Or.inl rfl) 20 rfl) dX6_thief_35 ?_
          refine lv_iload_n hx hb dX6_thief_38 rfl (lv_at hl 1 rfl) ?_
          obtain ⟨ho5, hok⟩ := hok
          refine g_iald K hG (gvs (Or.inl rfl) 28 rfl) rfl (fun _ => rfl) ho5 dX6_thief_39 ?_
          refine lv_icmp_le (tgt := 45) hx hb dX6_thief_40 (by decide) (fun c6 => ?_) (fun c6 => ?_)
          · have hok := hok.1 c6
            refine lv_iinc (v := (nI (i + 1))) (lv' := [(2, .int (nI (i + 1))), (1, .int a), (0, .ref (gA E 2 11 0))]) hx hb dX6_thief_45 hl (k := 0) rfl (nI_add i 1) (by decide) rfl (fun ls hl => ?_)
            refine lv_goto (tgt := 9) hx hb dX6_thief_48 (by decide) ?_
            exact ih (i + 1) a _ _ _ (by omega) (by rw [← hTv]; simp only [f_X6_thief_l1_v, if_neg c3, if_neg c4, if_pos c6]) (by rw [← hTs]; simp only [f_X6_thief_l1_s, if_neg c3, if_neg c4, if_pos c6]) hok hG hS (lv_sub hl [0, 1, 2] rfl)
          · have hok := hok.2 c6
            refine lv_iload_n hx hb dX6_thief_43 rfl (lv_at hl 0 rfl) ?_
            refine lv_istore_n (lv' := [(1, .int (nI i)), (2, .int (nI i)), (0, .ref (gA E 2 11 0))]) hx hb dX6_thief_44 rfl hl (by decide) rfl (fun ls hl => ?_)
            refine lv_iinc (v := (nI (i + 1))) (lv' := [(2, .int (nI (i + 1))), (1, .int (nI i)), (0, .ref (gA E 2 11 0))]) hx hb dX6_thief_45 hl (k := 1) rfl (nI_add i 1) (by decide) rfl (fun ls hl => ?_)
            refine lv_goto (tgt := 9) hx hb dX6_thief_48 (by decide) ?_
            exact ih (i + 1) (nI i) _ _ _ (by omega) (by rw [← hTv]; simp only [f_X6_thief_l1_v, if_neg c3, if_neg c4, if_neg c6]) (by rw [← hTs]; simp only [f_X6_thief_l1_s, if_neg c3, if_neg c4, if_neg c6]) hok hG hS (lv_sub hl [0, 1, 2] rfl)
  exact hL_l1 ((I1 2 11 0 1).toNatClampNeg) 0 (-1) _ _ _ (Nat.zero_add _) (by simp only [f_X6_thief_v, ← hI1]) (by simp only [f_X6_thief_s, ← hI1]) hok hG hS (lv_sub hl [0, 1, 2] rfl)
def ok_X6_pass_ (I : gI) (x : Int32) : Prop :=
  ∀ I1, I1 = gU I 2 11 0 0 0 →
  ok_X6_isIn I1 x 1 60 ∧
  (((f_X6_isIn I1 x 1 60) = 0) →
    ok_X6_no I1 1 ∧
    ∀ I3, I3 = f_X6_no_s I1 1 →
    True) ∧
  (¬ ((f_X6_isIn I1 x 1 60) = 0) →
    ok_X6_loadsThat I1 3 2 ∧
    ok_X6_passAll I1 3 x (I1 2 11 0 7) ∧
    ∀ I2, I2 = f_X6_passAll_s I1 3 x (I1 2 11 0 7) →
    ok_X6_loadsThat I2 3 2 ∧
    True)
def f_X6_pass__v (I : gI) (x : Int32) : Int32 :=
  let I1 := gU I 2 11 0 0 0
  if (f_X6_isIn I1 x 1 60) = 0 then
    let I3 := f_X6_no_s I1 1
    (f_X6_no_v I1 1)
  else
    let I2 := f_X6_passAll_s I1 3 x (I1 2 11 0 7)
    ((f_X6_loadsThat I2 3 2) - (f_X6_loadsThat I1 3 2))
def f_X6_pass__s (I : gI) (x : Int32) : gI :=
  let I1 := gU I 2 11 0 0 0
  if (f_X6_isIn I1 x 1 60) = 0 then
    let I3 := f_X6_no_s I1 1
    I3
  else
    let I2 := f_X6_passAll_s I1 3 x (I1 2 11 0 7)
    I2
set_option maxHeartbeats 4000000 in
set_option maxRecDepth 100000 in
theorem m_X6_pass_ (l : Launch) (E : gE) (J : Int64) (I : gI) (x : Int32) (hok : ok_X6_pass_ I x) : gMi l E J yX6_pass_ cX6_pass_ 3 (some .int) 6 159 [.ref (gA E 2 11 0), .int x] I (f_X6_pass__v I x) (f_X6_pass__s I x) := by
  refine g_entry (lv := [(0, .ref (gA E 2 11 0)), (1, .int x)]) (by decide) (Nat.le_of_ble_eq_true rfl) rfl ?_
  intro p e s m below meth c0 ls K hG hS hml hr hlocks hl
  have K : kx E p m c0 cX6_pass_ "HayThievesModel" _ s := K
  have hx := K.1
  have hb := K.2.1
  have hts := K.2.2.1
  have hown := K.2.2.2.1
  have hSt := K.2.2.2.2
  unfold ok_X6_pass_ at hok
  refine lv_aload_n hx hb dX6_pass__0 rfl (lv_at hl 0 rfl) ?_
  refine lv_iconst (v := 0) hx hb dX6_pass__1 (by decide) ?_
  refine pf_X6_36 K hG hS rfl dX6_pass__2 (fun I1 hI1 H locs hG hS => ?_)
  have hok := hok I1 hI1
  refine lv_iload_n hx hb dX6_pass__5 rfl (lv_at hl 1 rfl) ?_
  refine lv_iconst (v := 1) hx hb dX6_pass__6 (by decide) ?_
  refine lv_bipush (v := 60) hx hb dX6_pass__7 (by decide) ?_
  obtain ⟨ho1, hok⟩ := hok
  refine g_ki (g_runS (As := [.int x, .int 1, .int 60]) (rest := []) K hml ca_X6_isIn q782 (m_X6_isIn l E J I1 x 1 60 ho1) hG hS rfl hl.1 (Nat.le_of_ble_eq_true rfl) ⟨by decide, by decide⟩ dX6_pass__9 ⟨Nat.zero_le _, Nat.zero_le _⟩) hS (fun H locs hG hS => ?_)
  refine lv_if_ne (tgt := 21) hx hb dX6_pass__12 (by decide) (fun c2 => ?_) (fun c2 => ?_)
  · have hok := hok.2 c2
    refine lv_aload_n hx hb dX6_pass__21 rfl (lv_at hl 0 rfl) ?_
    refine lv_aload_n hx hb dX6_pass__22 rfl (lv_at hl 0 rfl) ?_
    refine gf_X6_29 K hG rfl dX6_pass__23 ?_
    refine lv_iconst (v := 2) hx hb dX6_pass__26 (by decide) ?_
    obtain ⟨ho3, hok⟩ := hok
    refine g_ki (g_runV (As := [.ref (gA E 3 20 0), .int 2]) (rest := []) K hml ca_X6_loadsThat q857 (m_X6_loadsThat l E J I1 3 2 (Or.inl rfl) ho3) hG hS rfl rfl rfl rfl rfl hl.1 (Nat.le_of_ble_eq_true rfl) ⟨by decide, by decide⟩ dX6_pass__27 ⟨Nat.zero_le _, Nat.zero_le _⟩) hS (fun H locs hG hS => ?_)
    refine lv_istore_n (lv' := [(2, .int (f_X6_loadsThat I1 3 2)), (0, .ref (gA E 2 11 0)), (1, .int x)]) hx hb dX6_pass__30 rfl hl (by decide) rfl (fun ls hl => ?_)
    refine lv_aload_n hx hb dX6_pass__31 rfl (lv_at hl 1 rfl) ?_
    refine lv_aload_n hx hb dX6_pass__32 rfl (lv_at hl 1 rfl) ?_
    refine lv_aload_n hx hb dX6_pass__33 rfl (lv_at hl 1 rfl) ?_
    refine gf_X6_29 K hG rfl dX6_pass__34 ?_
    refine lv_iload_n hx hb dX6_pass__37 rfl (lv_at hl 2 rfl) ?_
    refine lv_aload_n hx hb dX6_pass__38 rfl (lv_at hl 1 rfl) ?_
    refine gf_X6_22 K hG rfl dX6_pass__39 ?_
    obtain ⟨ho4, hok⟩ := hok
    refine g_kr (g_runV (As := [.ref (gA E 3 20 0), .int x, .int (I1 2 11 0 7)]) (rest := [.ref (gA E 2 11 0)]) K hml ca_X6_passAll q889 (m_X6_passAll l E J I1 3 x (I1 2 11 0 7) (Or.inl rfl) ho4) hG hS rfl rfl rfl rfl rfl hl.1 (Nat.le_of_ble_eq_true rfl) ⟨by decide, by decide⟩ dX6_pass__42 ⟨Nat.zero_le _, Nat.zero_le _⟩) hS (fun H locs hG hS => ?_)
    obtain ⟨I2, hI2⟩ : ∃ z, z = f_X6_passAll_s I1 3 x (I1 2 11 0 7) := ⟨_, rfl⟩
    rw [← hI2] at hG
    have hok := hok I2 hI2
    refine lv_iconst (v := 2) hx hb dX6_pass__45 (by decide) ?_
    obtain ⟨ho5, hok⟩ := hok
    refine g_ki (g_runV (As := [.ref (gA E 3 20 0), .int 2]) (rest := []) K hml ca_X6_loadsThat q857 (m_X6_loadsThat l E J I2 3 2 (Or.inl rfl) ho5) hG hS rfl rfl rfl rfl rfl hl.1 (Nat.le_of_ble_eq_true rfl) ⟨by decide, by decide⟩ dX6_pass__46 ⟨Nat.zero_le _, Nat.zero_le _⟩) hS (fun H locs hG hS => ?_)
    refine lv_iload_n hx hb dX6_pass__49 rfl (lv_at hl 0 rfl) ?_
    refine lv_isub hx hb dX6_pass__50 ?_
    have eS : I2 = (f_X6_pass__s I x) := (by simp only [f_X6_pass__s, ← hI1, ← hI2, if_neg c2])
    rw [eS] at hG
    exact g_iret K hG hS hr hlocks (by simp only [f_X6_pass__v, ← hI1, ← hI2, if_neg c2]) dX6_pass__51
  · have hok := hok.1 c2
    refine lv_aload_n hx hb dX6_pass__15 rfl (lv_at hl 0 rfl) ?_
    refine lv_iconst (v := 1) hx hb dX6_pass__16 (by decide) ?_
    obtain ⟨ho6, hok⟩ := hok
    refine g_ki (g_runV (As := [.int 1]) (rest := []) K hml ca_X6_no q785 (m_X6_no l E J I1 1 ho6) hG hS rfl rfl rfl rfl rfl hl.1 (Nat.le_of_ble_eq_true rfl) ⟨by decide, by decide⟩ dX6_pass__17 ⟨Nat.zero_le _, Nat.zero_le _⟩) hS (fun H locs hG hS => ?_)
    obtain ⟨I3, hI3⟩ : ∃ z, z = f_X6_no_s I1 1 := ⟨_, rfl⟩
    rw [← hI3] at hG
    have hok := hok I3 hI3
    have eS : I3 = (f_X6_pass__s I x) := (by simp only [f_X6_pass__s, ← hI1, ← hI3, if_pos c2])
    rw [eS] at hG
    exact g_iret K hG hS hr hlocks (by simp only [f_X6_pass__v, ← hI1, ← hI3, if_pos c2]) dX6_pass__20
def f_X6_until_l1_v (x : Int32) : Nat → Nat → gI → Int32
  | 0, i, I3 =>
    (-1)
  | n + 1, i, I3 =>
    if (I3 4 33 0 x.toNatClampNeg) = 2 then
      (nI i)
    else
      let I4 := f_X6_pass I3 4 (I3 2 11 0 7)
      f_X6_until_l1_v x n (i + 1) I4
def f_X6_until_l1_s (x : Int32) : Nat → Nat → gI → gI
  | 0, i, I3 =>
    I3
  | n + 1, i, I3 =>
    if (I3 4 33 0 x.toNatClampNeg) = 2 then
      I3
    else
      let I4 := f_X6_pass I3 4 (I3 2 11 0 7)
      f_X6_until_l1_s x n (i + 1) I4
def ok_f_X6_until_l1 (x : Int32) : Nat → Nat → gI → Prop
  | 0, i, I3 =>
    True
  | n + 1, i, I3 =>
    vp_in x 10 ∧
    (((I3 4 33 0 x.toNatClampNeg) = 2) →
      True) ∧
    (¬ ((I3 4 33 0 x.toNatClampNeg) = 2) →
      ok_X6_pass I3 4 (I3 2 11 0 7) ∧
      ∀ I4, I4 = f_X6_pass I3 4 (I3 2 11 0 7) →
      ok_f_X6_until_l1 x n (i + 1) I4)
def ok_X6_until (I : gI) (x : Int32) : Prop :=
  ∀ I1, I1 = gU I 2 11 0 0 0 →
  ok_X6_isLoad I1 x ∧
  (((f_X6_isLoad I1 x) = 0) →
    ok_X6_no I1 1 ∧
    ∀ I5, I5 = f_X6_no_s I1 1 →
    True) ∧
  (¬ ((f_X6_isLoad I1 x) = 0) →
    ok_X5_become I1 4 3 ∧
    ∀ I2, I2 = f_X5_become_s I1 4 3 →
    ok_f_X6_until_l1 x 301 0 I2)
def f_X6_until_v (I : gI) (x : Int32) : Int32 :=
  let I1 := gU I 2 11 0 0 0
  if (f_X6_isLoad I1 x) = 0 then
    let I5 := f_X6_no_s I1 1
    (f_X6_no_v I1 1)
  else
    let I2 := f_X5_become_s I1 4 3
    f_X6_until_l1_v x 301 0 I2
def f_X6_until_s (I : gI) (x : Int32) : gI :=
  let I1 := gU I 2 11 0 0 0
  if (f_X6_isLoad I1 x) = 0 then
    let I5 := f_X6_no_s I1 1
    I5
  else
    let I2 := f_X5_become_s I1 4 3
    f_X6_until_l1_s x 301 0 I2
set_option maxHeartbeats 4000000 in
set_option maxRecDepth 100000 in
theorem m_X6_until (l : Launch) (E : gE) (J : Int64) (I : gI) (x : Int32) (hok : ok_X6_until I x) : gMi l E J yX6_until cX6_until 3 (some .int) 5 135 [.ref (gA E 2 11 0), .int x] I (f_X6_until_v I x) (f_X6_until_s I x) := by
  refine g_entry (lv := [(0, .ref (gA E 2 11 0)), (1, .int x)]) (by decide) (Nat.le_of_ble_eq_true rfl) rfl ?_
  intro p e s m below meth c0 ls K hG hS hml hr hlocks hl
  have K : kx E p m c0 cX6_until "HayThievesModel" _ s := K
  have hx := K.1
  have hb := K.2.1
  have hts := K.2.2.1
  have hown := K.2.2.2.1
  have hSt := K.2.2.2.2
  unfold ok_X6_until at hok
  refine lv_aload_n hx hb dX6_until_0 rfl (lv_at hl 0 rfl) ?_
  refine lv_iconst (v := 0) hx hb dX6_until_1 (by decide) ?_
  refine pf_X6_36 K hG hS rfl dX6_until_2 (fun I1 hI1 H locs hG hS => ?_)
  have hok := hok I1 hI1
  refine lv_aload_n hx hb dX6_until_5 rfl (lv_at hl 0 rfl) ?_
  refine lv_iload_n hx hb dX6_until_6 rfl (lv_at hl 1 rfl) ?_
  obtain ⟨ho1, hok⟩ := hok
  refine g_ki (g_runV (As := [.int x]) (rest := []) K hml ca_X6_isLoad q841 (m_X6_isLoad l E J I1 x ho1) hG hS rfl rfl rfl rfl rfl hl.1 (Nat.le_of_ble_eq_true rfl) ⟨by decide, by decide⟩ dX6_until_7 ⟨Nat.zero_le _, Nat.zero_le _⟩) hS (fun H locs hG hS => ?_)
  refine lv_if_ne (tgt := 19) hx hb dX6_until_10 (by decide) (fun c2 => ?_) (fun c2 => ?_)
  · have hok := hok.2 c2
    refine lv_aload_n hx hb dX6_until_19 rfl (lv_at hl 0 rfl) ?_
    refine gf_X6_33 K hG rfl dX6_until_20 ?_
    refine lv_aload_n hx hb dX6_until_23 rfl (lv_at hl 0 rfl) ?_
    refine gf_X6_29 K hG rfl dX6_until_24 ?_
    obtain ⟨ho3, hok⟩ := hok
    refine g_kr (g_runV (As := [.ref (gA E 3 20 0)]) (rest := []) K hml ca_X5_become q949 (m_X5_become l E J I1 4 3 (Or.inr rfl) (Or.inl rfl) ho3) hG hS (gvs (Or.inr rfl) 20 rfl) rfl rfl rfl rfl hl.1 (Nat.le_of_ble_eq_true rfl) ⟨by decide, by decide⟩ dX6_until_27 ⟨Nat.zero_le _, Nat.zero_le _⟩) hS (fun H locs hG hS => ?_)
    obtain ⟨I2, hI2⟩ : ∃ z, z = f_X5_become_s I1 4 3 := ⟨_, rfl⟩
    rw [← hI2] at hG
    have hok := hok I2 hI2
    refine lv_pop hx hb dX6_until_30 rfl ?_
    refine lv_iconst (v := 0) hx hb dX6_until_31 (by decide) ?_
    refine lv_istore_n (lv' := [(2, .int 0), (0, .ref (gA E 2 11 0)), (1, .int x)]) hx hb dX6_until_32 rfl hl (by decide) rfl (fun ls hl => ?_)
    have hL_l1 : ∀ (n i : Nat)  (I3 : gI) (H : Heap) (locs : List Loc) (ls : Array Slot), i + n = 301 → f_X6_until_l1_v x n i I3 = f_X6_until_v I x → f_X6_until_l1_s x n i I3 = (f_X6_until_s I x) → ok_f_X6_until_l1 x n i I3 → GW E J I3 H → va_S (gF E) s.heap H locs → lv_has ls 3 [(2, .int (nI i)), (0, .ref (gA E 2 11 0)), (1, .int x)] → W p l e (grm 5 135) s m ([.ref (gA E 2 11 0), .int x] : List Value).toArray below meth c0 H locs 0 0 (MQ below (va_Qi (fun z9 (_ : Unit) => z9 = f_X6_until_v I x) (fun _ t => GW E J (f_X6_until_s I x) t.heap) (gF E)) ([.ref (gA E 2 11 0), .int x] : List Value).toArray s 0 0 (gF E)) (F0 m 33 ls []) := by
      intro n
      induction n with
      | zero =>
        intro i I3 H locs ls hin hTv hTs hok hG hS hl
        unfold ok_f_X6_until_l1 at hok
        refine lv_iload_n hx hb dX6_until_33 rfl (lv_at hl 0 rfl) ?_
        refine lv_sipush (v := 300) hx hb dX6_until_34 (by decide) ?_
        refine lv_icmp_gt (tgt := 73) hx hb dX6_until_37 (by decide) (fun c4 => ?_) (fun c4 => ?_)
        · skip
          refine lv_iconst (v := (-1)) hx hb dX6_until_73 (by decide) ?_
          have eS : I3 = (f_X6_until_s I x) := (by rw [← hTs]; simp only [f_X6_until_l1_s, if_pos c4])
          rw [eS] at hG
          exact g_iret K hG hS hr hlocks (by rw [← hTv]; simp only [f_X6_until_l1_v, if_pos c4]) dX6_until_74
        · exact absurd (show nI 300 < nI i from nI_lt (by omega) (by omega)) c4
      | succ n ih =>
        intro i I3 H locs ls hin hTv hTs hok hG hS hl
        unfold ok_f_X6_until_l1 at hok
        refine lv_iload_n hx hb dX6_until_33 rfl (lv_at hl 0 rfl) ?_
        refine lv_sipush (v := 300) hx hb dX6_until_34 (by decide) ?_
        refine lv_icmp_gt (tgt := 73) hx hb dX6_until_37 (by decide) (fun c5 => ?_) (fun c5 => ?_)
        · exact absurd c5 (show ¬ nI 300 < nI i from nI_nlt (by omega) (by omega))
        · skip
          refine lv_aload_n hx hb dX6_until_40 rfl (lv_at hl 1 rfl) ?_
          refine gf_X6_33 K hG rfl dX6_until_41 ?_
          refine gf_X6_63 K hG (gvs (Or.inr rfl) 20 rfl) dX6_until_44 ?_
          refine lv_iload_n hx hb dX6_until_47 rfl (lv_at hl 2 rfl) ?_
          obtain ⟨ho6, hok⟩ := hok
          refine g_iald K hG (gvs (Or.inr rfl) 33 rfl) rfl (fun _ => rfl) ho6 dX6_until_48 ?_
          refine lv_iconst (v := 2) hx hb dX6_until_49 (by decide) ?_
          refine lv_icmp_ne (tgt := 55) hx hb dX6_until_50 (by decide) (fun c7 => ?_) (fun c7 => ?_)
          · have hok := hok.2 c7
            refine lv_aload_n hx hb dX6_until_55 rfl (lv_at hl 1 rfl) ?_
            refine lv_aload_n hx hb dX6_until_56 rfl (lv_at hl 1 rfl) ?_
            refine gf_X6_33 K hG rfl dX6_until_57 ?_
            refine lv_aload_n hx hb dX6_until_60 rfl (lv_at hl 1 rfl) ?_
            refine gf_X6_22 K hG rfl dX6_until_61 ?_
            obtain ⟨ho8, hok⟩ := hok
            refine g_kv (g_runV (As := [.ref (gA E 4 20 0), .int (I3 2 11 0 7)]) (rest := []) K hml ca_X6_pass q893 (m_X6_pass l E J I3 4 (I3 2 11 0 7) (Or.inr rfl) ho8) hG hS rfl rfl rfl rfl rfl hl.1 (Nat.le_of_ble_eq_true rfl) ⟨by decide, by decide⟩ dX6_until_64 ⟨Nat.zero_le _, Nat.zero_le _⟩) hS (fun H locs hG hS => ?_)
            obtain ⟨I4, hI4⟩ : ∃ z, z = f_X6_pass I3 4 (I3 2 11 0 7) := ⟨_, rfl⟩
            rw [← hI4] at hG
            have hok := hok I4 hI4
            refine lv_iinc (v := (nI (i + 1))) (lv' := [(2, .int (nI (i + 1))), (0, .ref (gA E 2 11 0)), (1, .int x)]) hx hb dX6_until_67 hl (k := 0) rfl (nI_add i 1) (by decide) rfl (fun ls hl => ?_)
            refine lv_goto (tgt := 33) hx hb dX6_until_70 (by decide) ?_
            exact ih (i + 1) I4 _ _ _ (by omega) (by rw [← hTv]; simp only [f_X6_until_l1_v, ← hI4, if_neg c5, if_neg c7]) (by rw [← hTs]; simp only [f_X6_until_l1_s, ← hI4, if_neg c5, if_neg c7]) hok hG hS (lv_sub hl [0, 1, 2] rfl)
          · have hok := hok.1 c7
            refine lv_iload_n hx hb dX6_until_53 rfl (lv_at hl 0 rfl) ?_
            have eS : I3 = (f_X6_until_s I x) := (by rw [← hTs]; simp only [f_X6_until_l1_s, if_neg c5, if_pos c7])
            rw [eS] at hG
            exact g_iret K hG hS hr hlocks (by rw [← hTv]; simp only [f_X6_until_l1_v, if_neg c5, if_pos c7]) dX6_until_54
    exact hL_l1 301 0 I2 _ _ _ (Nat.zero_add _) (by simp only [f_X6_until_v, ← hI1, ← hI2, if_neg c2]) (by simp only [f_X6_until_s, ← hI1, ← hI2, if_neg c2]) hok hG hS (lv_sub hl [0, 1, 2] rfl)
  · have hok := hok.1 c2
    refine lv_aload_n hx hb dX6_until_13 rfl (lv_at hl 0 rfl) ?_
    refine lv_iconst (v := 1) hx hb dX6_until_14 (by decide) ?_
    obtain ⟨ho9, hok⟩ := hok
    refine g_ki (g_runV (As := [.int 1]) (rest := []) K hml ca_X6_no q785 (m_X6_no l E J I1 1 ho9) hG hS rfl rfl rfl rfl rfl hl.1 (Nat.le_of_ble_eq_true rfl) ⟨by decide, by decide⟩ dX6_until_15 ⟨Nat.zero_le _, Nat.zero_le _⟩) hS (fun H locs hG hS => ?_)
    obtain ⟨I5, hI5⟩ : ∃ z, z = f_X6_no_s I1 1 := ⟨_, rfl⟩
    rw [← hI5] at hG
    have hok := hok I5 hI5
    have eS : I5 = (f_X6_until_s I x) := (by simp only [f_X6_until_s, ← hI1, ← hI5, if_pos c2])
    rw [eS] at hG
    exact g_iret K hG hS hr hlocks (by simp only [f_X6_until_v, ← hI1, ← hI5, if_pos c2]) dX6_until_18
def ok_X6_foresee (I : gI) (x b : Int32) : Prop :=
  ∀ I1, I1 = gU I 2 11 0 0 0 →
  ok_X6_isIn I1 x 1 60 ∧
  (((f_X6_isIn I1 x 1 60) = 0) →
    ok_X6_no I1 1 ∧
    ∀ I5, I5 = f_X6_no_s I1 1 →
    True) ∧
  (¬ ((f_X6_isIn I1 x 1 60) = 0) →
    ok_X6_isIn I1 b 3 11 ∧
    (((f_X6_isIn I1 b 3 11) = 0) →
      ok_X6_no I1 2 ∧
      ∀ I4, I4 = f_X6_no_s I1 2 →
      True) ∧
    (¬ ((f_X6_isIn I1 b 3 11) = 0) →
      ok_X5_become I1 4 3 ∧
      ∀ I2, I2 = f_X5_become_s I1 4 3 →
      ok_X6_passAll I2 4 x (I2 2 11 0 7) ∧
      ∀ I3, I3 = f_X6_passAll_s I2 4 x (I2 2 11 0 7) →
      ok_X6_counted I3 4 b ∧
      True))
def f_X6_foresee_v (I : gI) (x b : Int32) : Int32 :=
  let I1 := gU I 2 11 0 0 0
  if (f_X6_isIn I1 x 1 60) = 0 then
    let I5 := f_X6_no_s I1 1
    (f_X6_no_v I1 1)
  else
    if (f_X6_isIn I1 b 3 11) = 0 then
      let I4 := f_X6_no_s I1 2
      (f_X6_no_v I1 2)
    else
      let I2 := f_X5_become_s I1 4 3
      let I3 := f_X6_passAll_s I2 4 x (I2 2 11 0 7)
      (f_X6_counted I3 4 b)
def f_X6_foresee_s (I : gI) (x b : Int32) : gI :=
  let I1 := gU I 2 11 0 0 0
  if (f_X6_isIn I1 x 1 60) = 0 then
    let I5 := f_X6_no_s I1 1
    I5
  else
    if (f_X6_isIn I1 b 3 11) = 0 then
      let I4 := f_X6_no_s I1 2
      I4
    else
      let I2 := f_X5_become_s I1 4 3
      let I3 := f_X6_passAll_s I2 4 x (I2 2 11 0 7)
      I3
set_option maxHeartbeats 4000000 in
set_option maxRecDepth 100000 in
theorem m_X6_foresee (l : Launch) (E : gE) (J : Int64) (I : gI) (x b : Int32) (hok : ok_X6_foresee I x b) : gMi l E J yX6_foresee cX6_foresee 3 (some .int) 6 159 [.ref (gA E 2 11 0), .int x, .int b] I (f_X6_foresee_v I x b) (f_X6_foresee_s I x b) := by
  refine g_entry (lv := [(0, .ref (gA E 2 11 0)), (1, .int x), (2, .int b)]) (by decide) (Nat.le_of_ble_eq_true rfl) rfl ?_
  intro p e s m below meth c0 ls K hG hS hml hr hlocks hl
  have K : kx E p m c0 cX6_foresee "HayThievesModel" _ s := K
  have hx := K.1
  have hb := K.2.1
  have hts := K.2.2.1
  have hown := K.2.2.2.1
  have hSt := K.2.2.2.2
  unfold ok_X6_foresee at hok
  refine lv_aload_n hx hb dX6_foresee_0 rfl (lv_at hl 0 rfl) ?_
  refine lv_iconst (v := 0) hx hb dX6_foresee_1 (by decide) ?_
  refine pf_X6_36 K hG hS rfl dX6_foresee_2 (fun I1 hI1 H locs hG hS => ?_)
  have hok := hok I1 hI1
  refine lv_iload_n hx hb dX6_foresee_5 rfl (lv_at hl 1 rfl) ?_
  refine lv_iconst (v := 1) hx hb dX6_foresee_6 (by decide) ?_
  refine lv_bipush (v := 60) hx hb dX6_foresee_7 (by decide) ?_
  obtain ⟨ho1, hok⟩ := hok
  refine g_ki (g_runS (As := [.int x, .int 1, .int 60]) (rest := []) K hml ca_X6_isIn q782 (m_X6_isIn l E J I1 x 1 60 ho1) hG hS rfl hl.1 (Nat.le_of_ble_eq_true rfl) ⟨by decide, by decide⟩ dX6_foresee_9 ⟨Nat.zero_le _, Nat.zero_le _⟩) hS (fun H locs hG hS => ?_)
  refine lv_if_ne (tgt := 21) hx hb dX6_foresee_12 (by decide) (fun c2 => ?_) (fun c2 => ?_)
  · have hok := hok.2 c2
    refine lv_iload_n hx hb dX6_foresee_21 rfl (lv_at hl 2 rfl) ?_
    refine lv_iconst (v := 3) hx hb dX6_foresee_22 (by decide) ?_
    refine lv_bipush (v := 11) hx hb dX6_foresee_23 (by decide) ?_
    obtain ⟨ho3, hok⟩ := hok
    refine g_ki (g_runS (As := [.int b, .int 3, .int 11]) (rest := []) K hml ca_X6_isIn q782 (m_X6_isIn l E J I1 b 3 11 ho3) hG hS rfl hl.1 (Nat.le_of_ble_eq_true rfl) ⟨by decide, by decide⟩ dX6_foresee_25 ⟨Nat.zero_le _, Nat.zero_le _⟩) hS (fun H locs hG hS => ?_)
    refine lv_if_ne (tgt := 37) hx hb dX6_foresee_28 (by decide) (fun c4 => ?_) (fun c4 => ?_)
    · have hok := hok.2 c4
      refine lv_aload_n hx hb dX6_foresee_37 rfl (lv_at hl 0 rfl) ?_
      refine lv_aload_n hx hb dX6_foresee_38 rfl (lv_at hl 0 rfl) ?_
      refine lv_aload_n hx hb dX6_foresee_39 rfl (lv_at hl 0 rfl) ?_
      refine gf_X6_33 K hG rfl dX6_foresee_40 ?_
      refine lv_aload_n hx hb dX6_foresee_43 rfl (lv_at hl 0 rfl) ?_
      refine gf_X6_29 K hG rfl dX6_foresee_44 ?_
      obtain ⟨ho5, hok⟩ := hok
      refine g_kr (g_runV (As := [.ref (gA E 3 20 0)]) (rest := [.ref (gA E 2 11 0), .ref (gA E 2 11 0)]) K hml ca_X5_become q949 (m_X5_become l E J I1 4 3 (Or.inr rfl) (Or.inl rfl) ho5) hG hS (gvs (Or.inr rfl) 20 rfl) rfl rfl rfl rfl hl.1 (Nat.le_of_ble_eq_true rfl) ⟨by decide, by decide⟩ dX6_foresee_47 ⟨Nat.zero_le _, Nat.zero_le _⟩) hS (fun H locs hG hS => ?_)
      obtain ⟨I2, hI2⟩ : ∃ z, z = f_X5_become_s I1 4 3 := ⟨_, rfl⟩
      rw [← hI2] at hG
      have hok := hok I2 hI2
      refine lv_iload_n hx hb dX6_foresee_50 rfl (lv_at hl 1 rfl) ?_
      refine lv_aload_n hx hb dX6_foresee_51 rfl (lv_at hl 0 rfl) ?_
      refine gf_X6_22 K hG rfl dX6_foresee_52 ?_
      obtain ⟨ho6, hok⟩ := hok
      refine g_kr (g_runV (As := [.ref (gA E 4 20 0), .int x, .int (I2 2 11 0 7)]) (rest := [.ref (gA E 2 11 0)]) K hml ca_X6_passAll q889 (m_X6_passAll l E J I2 4 x (I2 2 11 0 7) (Or.inr rfl) ho6) hG hS rfl rfl rfl rfl rfl hl.1 (Nat.le_of_ble_eq_true rfl) ⟨by decide, by decide⟩ dX6_foresee_55 ⟨Nat.zero_le _, Nat.zero_le _⟩) hS (fun H locs hG hS => ?_)
      obtain ⟨I3, hI3⟩ : ∃ z, z = f_X6_passAll_s I2 4 x (I2 2 11 0 7) := ⟨_, rfl⟩
      rw [← hI3] at hG
      have hok := hok I3 hI3
      refine lv_iload_n hx hb dX6_foresee_58 rfl (lv_at hl 2 rfl) ?_
      obtain ⟨ho7, hok⟩ := hok
      refine g_ki (g_runV (As := [.ref (gA E 4 20 0), .int b]) (rest := []) K hml ca_X6_counted q853 (m_X6_counted l E J I3 4 b (Or.inr rfl) ho7) hG hS rfl rfl rfl rfl rfl hl.1 (Nat.le_of_ble_eq_true rfl) ⟨by decide, by decide⟩ dX6_foresee_59 ⟨Nat.zero_le _, Nat.zero_le _⟩) hS (fun H locs hG hS => ?_)
      have eS : I3 = (f_X6_foresee_s I x b) := (by simp only [f_X6_foresee_s, ← hI1, ← hI2, ← hI3, if_neg c2, if_neg c4])
      rw [eS] at hG
      exact g_iret K hG hS hr hlocks (by simp only [f_X6_foresee_v, ← hI1, ← hI2, ← hI3, if_neg c2, if_neg c4]) dX6_foresee_62
    · have hok := hok.1 c4
      refine lv_aload_n hx hb dX6_foresee_31 rfl (lv_at hl 0 rfl) ?_
      refine lv_iconst (v := 2) hx hb dX6_foresee_32 (by decide) ?_
      obtain ⟨ho8, hok⟩ := hok
      refine g_ki (g_runV (As := [.int 2]) (rest := []) K hml ca_X6_no q785 (m_X6_no l E J I1 2 ho8) hG hS rfl rfl rfl rfl rfl hl.1 (Nat.le_of_ble_eq_true rfl) ⟨by decide, by decide⟩ dX6_foresee_33 ⟨Nat.zero_le _, Nat.zero_le _⟩) hS (fun H locs hG hS => ?_)
      obtain ⟨I4, hI4⟩ : ∃ z, z = f_X6_no_s I1 2 := ⟨_, rfl⟩
      rw [← hI4] at hG
      have hok := hok I4 hI4
      have eS : I4 = (f_X6_foresee_s I x b) := (by simp only [f_X6_foresee_s, ← hI1, ← hI4, if_neg c2, if_pos c4])
      rw [eS] at hG
      exact g_iret K hG hS hr hlocks (by simp only [f_X6_foresee_v, ← hI1, ← hI4, if_neg c2, if_pos c4]) dX6_foresee_36
  · have hok := hok.1 c2
    refine lv_aload_n hx hb dX6_foresee_15 rfl (lv_at hl 0 rfl) ?_
    refine lv_iconst (v := 1) hx hb dX6_foresee_16 (by decide) ?_
    obtain ⟨ho9, hok⟩ := hok
    refine g_ki (g_runV (As := [.int 1]) (rest := []) K hml ca_X6_no q785 (m_X6_no l E J I1 1 ho9) hG hS rfl rfl rfl rfl rfl hl.1 (Nat.le_of_ble_eq_true rfl) ⟨by decide, by decide⟩ dX6_foresee_17 ⟨Nat.zero_le _, Nat.zero_le _⟩) hS (fun H locs hG hS => ?_)
    obtain ⟨I5, hI5⟩ : ∃ z, z = f_X6_no_s I1 1 := ⟨_, rfl⟩
    rw [← hI5] at hG
    have hok := hok I5 hI5
    have eS : I5 = (f_X6_foresee_s I x b) := (by simp only [f_X6_foresee_s, ← hI1, ← hI5, if_pos c2])
    rw [eS] at hG
    exact g_iret K hG hS hr hlocks (by simp only [f_X6_foresee_v, ← hI1, ← hI5, if_pos c2]) dX6_foresee_20
def f_X6_advise_l1_v (x : Int32) : Nat → Nat → Int32 → Int32 → gI → Int32
  | 0, i, a, b, I2 =>
    a
  | n + 1, i, a, b, I2 =>
    let I3 := f_X5_become_s I2 4 3
    let I4 := f_X6_passAll_s I3 4 x (gsz i)
    if b < (I4 4 20 0 4) then
      f_X6_advise_l1_v x n (i + 1) (gsz i) (I4 4 20 0 4) I4
    else
      f_X6_advise_l1_v x n (i + 1) a b I4
def f_X6_advise_l1_s (x : Int32) : Nat → Nat → Int32 → Int32 → gI → gI
  | 0, i, a, b, I2 =>
    I2
  | n + 1, i, a, b, I2 =>
    let I3 := f_X5_become_s I2 4 3
    let I4 := f_X6_passAll_s I3 4 x (gsz i)
    if b < (I4 4 20 0 4) then
      f_X6_advise_l1_s x n (i + 1) (gsz i) (I4 4 20 0 4) I4
    else
      f_X6_advise_l1_s x n (i + 1) a b I4
def ok_f_X6_advise_l1 (x : Int32) : Nat → Nat → Int32 → Int32 → gI → Prop
  | 0, i, a, b, I2 =>
    True
  | n + 1, i, a, b, I2 =>
    ok_X5_become I2 4 3 ∧
    ∀ I3, I3 = f_X5_become_s I2 4 3 →
    ok_X6_passAll I3 4 x (gsz i) ∧
    ∀ I4, I4 = f_X6_passAll_s I3 4 x (gsz i) →
    ((b < (I4 4 20 0 4)) →
      ok_f_X6_advise_l1 x n (i + 1) (gsz i) (I4 4 20 0 4) I4) ∧
    (¬ (b < (I4 4 20 0 4)) →
      ok_f_X6_advise_l1 x n (i + 1) a b I4)
def ok_X6_advise (I : gI) (x : Int32) : Prop :=
  ∀ I1, I1 = gU I 2 11 0 0 0 →
  ok_X6_isIn I1 x 1 40 ∧
  (((f_X6_isIn I1 x 1 40) = 0) →
    ok_X6_no I1 1 ∧
    ∀ I5, I5 = f_X6_no_s I1 1 →
    True) ∧
  (¬ ((f_X6_isIn I1 x 1 40) = 0) →
    ok_f_X6_advise_l1 x 5 0 0 (-1) I1)
def f_X6_advise_v (I : gI) (x : Int32) : Int32 :=
  let I1 := gU I 2 11 0 0 0
  if (f_X6_isIn I1 x 1 40) = 0 then
    let I5 := f_X6_no_s I1 1
    (f_X6_no_v I1 1)
  else
    f_X6_advise_l1_v x 5 0 0 (-1) I1
def f_X6_advise_s (I : gI) (x : Int32) : gI :=
  let I1 := gU I 2 11 0 0 0
  if (f_X6_isIn I1 x 1 40) = 0 then
    let I5 := f_X6_no_s I1 1
    I5
  else
    f_X6_advise_l1_s x 5 0 0 (-1) I1
set_option maxHeartbeats 4000000 in
set_option maxRecDepth 100000 in
theorem m_X6_advise (l : Launch) (E : gE) (J : Int64) (I : gI) (x : Int32) (hok : ok_X6_advise I x) : gMi l E J yX6_advise cX6_advise 9 (some .int) 6 159 [.ref (gA E 2 11 0), .int x] I (f_X6_advise_v I x) (f_X6_advise_s I x) := by
  refine g_entry (lv := [(0, .ref (gA E 2 11 0)), (1, .int x)]) (by decide) (Nat.le_of_ble_eq_true rfl) rfl ?_
  intro p e s m below meth c0 ls K hG hS hml hr hlocks hl
  have K : kx E p m c0 cX6_advise "HayThievesModel" _ s := K
  have hx := K.1
  have hb := K.2.1
  have hts := K.2.2.1
  have hown := K.2.2.2.1
  have hSt := K.2.2.2.2
  obtain ⟨tS, hZ9, hT9⟩ := hSt.2.2.2.2.2.1
  unfold ok_X6_advise at hok
  refine lv_aload_n hx hb dX6_advise_0 rfl (lv_at hl 0 rfl) ?_
  refine lv_iconst (v := 0) hx hb dX6_advise_1 (by decide) ?_
  refine pf_X6_36 K hG hS rfl dX6_advise_2 (fun I1 hI1 H locs hG hS => ?_)
  have hok := hok I1 hI1
  refine lv_iload_n hx hb dX6_advise_5 rfl (lv_at hl 1 rfl) ?_
  refine lv_iconst (v := 1) hx hb dX6_advise_6 (by decide) ?_
  refine lv_bipush (v := 40) hx hb dX6_advise_7 (by decide) ?_
  obtain ⟨ho1, hok⟩ := hok
  refine g_ki (g_runS (As := [.int x, .int 1, .int 40]) (rest := []) K hml ca_X6_isIn q782 (m_X6_isIn l E J I1 x 1 40 ho1) hG hS rfl hl.1 (Nat.le_of_ble_eq_true rfl) ⟨by decide, by decide⟩ dX6_advise_9 ⟨Nat.zero_le _, Nat.zero_le _⟩) hS (fun H locs hG hS => ?_)
  refine lv_if_ne (tgt := 21) hx hb dX6_advise_12 (by decide) (fun c2 => ?_) (fun c2 => ?_)
  · have hok := hok.2 c2
    refine lv_iconst (v := 0) hx hb dX6_advise_21 (by decide) ?_
    refine lv_istore_n (lv' := [(2, .int 0), (0, .ref (gA E 2 11 0)), (1, .int x)]) hx hb dX6_advise_22 rfl hl (by decide) rfl (fun ls hl => ?_)
    refine lv_iconst (v := (-1)) hx hb dX6_advise_23 (by decide) ?_
    refine lv_istore_n (lv' := [(3, .int (-1)), (2, .int 0), (0, .ref (gA E 2 11 0)), (1, .int x)]) hx hb dX6_advise_24 rfl hl (by decide) rfl (fun ls hl => ?_)
    refine va_gets hx hb hZ9 hS hown (hts _ q964) (fun _ h => h) dX6_advise_25 ?_
    refine lv_astore (lv' := [(4, .ref tS), (3, .int (-1)), (2, .int 0), (0, .ref (gA E 2 11 0)), (1, .int x)]) hx hb dX6_advise_28 hl (by decide) rfl (fun ls hl => ?_)
    refine lv_aload hx hb dX6_advise_30 (lv_at hl 0 rfl) ?_
    refine va_tlen hx hb hT9 hS (v := 5) rfl dX6_advise_32 ?_
    refine lv_istore (lv' := [(5, .int 5), (4, .ref tS), (3, .int (-1)), (2, .int 0), (0, .ref (gA E 2 11 0)), (1, .int x)]) hx hb dX6_advise_33 hl (by decide) rfl (fun ls hl => ?_)
    refine lv_iconst (v := 0) hx hb dX6_advise_35 (by decide) ?_
    refine lv_istore (lv' := [(6, .int 0), (5, .int 5), (4, .ref tS), (3, .int (-1)), (2, .int 0), (0, .ref (gA E 2 11 0)), (1, .int x)]) hx hb dX6_advise_36 hl (by decide) rfl (fun ls hl => ?_)
    have hL_l1 : ∀ (n i : Nat) (a : Int32) (b : Int32) (I2 : gI) (H : Heap) (locs : List Loc) (ls : Array Slot), i + n = 5 → f_X6_advise_l1_v x n i a b I2 = f_X6_advise_v I x → f_X6_advise_l1_s x n i a b I2 = (f_X6_advise_s I x) → ok_f_X6_advise_l1 x n i a b I2 → GW E J I2 H → va_S (gF E) s.heap H locs → lv_has ls 9 [(6, .int (nI i)), (2, .int a), (3, .int b), (5, .int 5), (4, .ref tS), (0, .ref (gA E 2 11 0)), (1, .int x)] → W p l e (grm 6 159) s m ([.ref (gA E 2 11 0), .int x] : List Value).toArray below meth c0 H locs 0 0 (MQ below (va_Qi (fun z9 (_ : Unit) => z9 = f_X6_advise_v I x) (fun _ t => GW E J (f_X6_advise_s I x) t.heap) (gF E)) ([.ref (gA E 2 11 0), .int x] : List Value).toArray s 0 0 (gF E)) (F0 m 38 ls []) := by
      intro n
      induction n with
      | zero =>
        intro i a b I2 H locs ls hin hTv hTs hok hG hS hl
        unfold ok_f_X6_advise_l1 at hok
        refine lv_iload hx hb dX6_advise_38 (lv_at hl 0 rfl) ?_
        refine lv_iload hx hb dX6_advise_40 (lv_at hl 3 rfl) ?_
        refine lv_icmp_ge (tgt := 96) hx hb dX6_advise_42 (by decide) (fun c3 => ?_) (fun c3 => ?_)
        · skip
          refine lv_iload_n hx hb dX6_advise_96 rfl (lv_at hl 1 rfl) ?_
          have eS : I2 = (f_X6_advise_s I x) := (by rw [← hTs]; simp only [f_X6_advise_l1_s, if_pos c3])
          rw [eS] at hG
          exact g_iret K hG hS hr hlocks (by rw [← hTv]; simp only [f_X6_advise_l1_v, if_pos c3]) dX6_advise_97
        · exact absurd (lp_ge (show (5 : Int32) = nI 5 from rfl) (by omega) hin) c3
      | succ n ih =>
        intro i a b I2 H locs ls hin hTv hTs hok hG hS hl
        unfold ok_f_X6_advise_l1 at hok
        refine lv_iload hx hb dX6_advise_38 (lv_at hl 0 rfl) ?_
        refine lv_iload hx hb dX6_advise_40 (lv_at hl 3 rfl) ?_
        refine lv_icmp_ge (tgt := 96) hx hb dX6_advise_42 (by decide) (fun c4 => ?_) (fun c4 => ?_)
        · exact absurd c4 (lp_nge (show (5 : Int32) = nI 5 from rfl) (by omega) hin)
        · skip
          refine lv_aload hx hb dX6_advise_45 (lv_at hl 4 rfl) ?_
          refine lv_iload hx hb dX6_advise_47 (lv_at hl 0 rfl) ?_
          refine va_ti hx hb hT9 hS (vp_in_nI (by omega) (by decide)) (v := .int (gsz i)) (by show Value.int (gsz (nI i).toNatClampNeg) = _; rw [nI_clamp (by omega)]) dX6_advise_49 ?_
          refine lv_istore (lv' := [(7, .int (gsz i)), (6, .int (nI i)), (2, .int a), (3, .int b), (5, .int 5), (4, .ref tS), (0, .ref (gA E 2 11 0)), (1, .int x)]) hx hb dX6_advise_50 hl (by decide) rfl (fun ls hl => ?_)
          refine lv_aload_n hx hb dX6_advise_52 rfl (lv_at hl 6 rfl) ?_
          refine lv_aload_n hx hb dX6_advise_53 rfl (lv_at hl 6 rfl) ?_
          refine gf_X6_33 K hG rfl dX6_advise_54 ?_
          refine lv_aload_n hx hb dX6_advise_57 rfl (lv_at hl 6 rfl) ?_
          refine gf_X6_29 K hG rfl dX6_advise_58 ?_
          obtain ⟨ho5, hok⟩ := hok
          refine g_kr (g_runV (As := [.ref (gA E 3 20 0)]) (rest := [.ref (gA E 2 11 0)]) K hml ca_X5_become q949 (m_X5_become l E J I2 4 3 (Or.inr rfl) (Or.inl rfl) ho5) hG hS (gvs (Or.inr rfl) 20 rfl) rfl rfl rfl rfl hl.1 (Nat.le_of_ble_eq_true rfl) ⟨by decide, by decide⟩ dX6_advise_61 ⟨Nat.zero_le _, Nat.zero_le _⟩) hS (fun H locs hG hS => ?_)
          obtain ⟨I3, hI3⟩ : ∃ z, z = f_X5_become_s I2 4 3 := ⟨_, rfl⟩
          rw [← hI3] at hG
          have hok := hok I3 hI3
          refine lv_iload_n hx hb dX6_advise_64 rfl (lv_at hl 7 rfl) ?_
          refine lv_iload hx hb dX6_advise_65 (lv_at hl 0 rfl) ?_
          obtain ⟨ho6, hok⟩ := hok
          refine g_kr (g_runV (As := [.ref (gA E 4 20 0), .int x, .int (gsz i)]) (rest := []) K hml ca_X6_passAll q889 (m_X6_passAll l E J I3 4 x (gsz i) (Or.inr rfl) ho6) hG hS rfl rfl rfl rfl rfl hl.1 (Nat.le_of_ble_eq_true rfl) ⟨by decide, by decide⟩ dX6_advise_67 ⟨Nat.zero_le _, Nat.zero_le _⟩) hS (fun H locs hG hS => ?_)
          obtain ⟨I4, hI4⟩ : ∃ z, z = f_X6_passAll_s I3 4 x (gsz i) := ⟨_, rfl⟩
          rw [← hI4] at hG
          have hok := hok I4 hI4
          refine gf_X6_194 K hG (gvs (Or.inr rfl) 20 rfl) dX6_advise_70 ?_
          refine lv_istore (lv' := [(8, .int (I4 4 20 0 4)), (7, .int (gsz i)), (6, .int (nI i)), (2, .int a), (3, .int b), (5, .int 5), (4, .ref tS), (0, .ref (gA E 2 11 0)), (1, .int x)]) hx hb dX6_advise_73 hl (by decide) rfl (fun ls hl => ?_)
          refine lv_iload hx hb dX6_advise_75 (lv_at hl 0 rfl) ?_
          refine lv_iload_n hx hb dX6_advise_77 rfl (lv_at hl 4 rfl) ?_
          refine lv_icmp_gt (tgt := 84) hx hb dX6_advise_78 (by decide) (fun c7 => ?_) (fun c7 => ?_)
          · have hok := hok.1 c7
            refine lv_iload hx hb dX6_advise_84 (lv_at hl 1 rfl) ?_
            refine lv_istore_n (lv' := [(2, .int (gsz i)), (8, .int (I4 4 20 0 4)), (7, .int (gsz i)), (6, .int (nI i)), (3, .int b), (5, .int 5), (4, .ref tS), (0, .ref (gA E 2 11 0)), (1, .int x)]) hx hb dX6_advise_86 rfl hl (by decide) rfl (fun ls hl => ?_)
            refine lv_iload hx hb dX6_advise_87 (lv_at hl 1 rfl) ?_
            refine lv_istore_n (lv' := [(3, .int (I4 4 20 0 4)), (2, .int (gsz i)), (8, .int (I4 4 20 0 4)), (7, .int (gsz i)), (6, .int (nI i)), (5, .int 5), (4, .ref tS), (0, .ref (gA E 2 11 0)), (1, .int x)]) hx hb dX6_advise_89 rfl hl (by decide) rfl (fun ls hl => ?_)
            refine lv_iinc (v := (nI (i + 1))) (lv' := [(6, .int (nI (i + 1))), (3, .int (I4 4 20 0 4)), (2, .int (gsz i)), (8, .int (I4 4 20 0 4)), (7, .int (gsz i)), (5, .int 5), (4, .ref tS), (0, .ref (gA E 2 11 0)), (1, .int x)]) hx hb dX6_advise_90 hl (k := 4) rfl (nI_add i 1) (by decide) rfl (fun ls hl => ?_)
            refine lv_goto (tgt := 38) hx hb dX6_advise_93 (by decide) ?_
            exact ih (i + 1) (gsz i) (I4 4 20 0 4) I4 _ _ _ (by omega) (by rw [← hTv]; simp only [f_X6_advise_l1_v, ← hI3, ← hI4, if_neg c4, if_pos c7]) (by rw [← hTs]; simp only [f_X6_advise_l1_s, ← hI3, ← hI4, if_neg c4, if_pos c7]) hok hG hS (lv_sub hl [0, 2, 1, 5, 6, 7, 8] rfl)
          · have hok := hok.2 c7
            refine lv_goto (tgt := 90) hx hb dX6_advise_81 (by decide) ?_
            refine lv_iinc (v := (nI (i + 1))) (lv' := [(6, .int (nI (i + 1))), (8, .int (I4 4 20 0 4)), (7, .int (gsz i)), (2, .int a), (3, .int b), (5, .int 5), (4, .ref tS), (0, .ref (gA E 2 11 0)), (1, .int x)]) hx hb dX6_advise_90 hl (k := 2) rfl (nI_add i 1) (by decide) rfl (fun ls hl => ?_)
            refine lv_goto (tgt := 38) hx hb dX6_advise_93 (by decide) ?_
            exact ih (i + 1) a b I4 _ _ _ (by omega) (by rw [← hTv]; simp only [f_X6_advise_l1_v, ← hI3, ← hI4, if_neg c4, if_neg c7]) (by rw [← hTs]; simp only [f_X6_advise_l1_s, ← hI3, ← hI4, if_neg c4, if_neg c7]) hok hG hS (lv_sub hl [0, 3, 4, 5, 6, 7, 8] rfl)
    exact hL_l1 5 0 0 (-1) I1 _ _ _ (Nat.zero_add _) (by simp only [f_X6_advise_v, ← hI1, if_neg c2]) (by simp only [f_X6_advise_s, ← hI1, if_neg c2]) hok hG hS (lv_sub hl [0, 4, 3, 1, 2, 5, 6] rfl)
  · have hok := hok.1 c2
    refine lv_aload_n hx hb dX6_advise_15 rfl (lv_at hl 0 rfl) ?_
    refine lv_iconst (v := 1) hx hb dX6_advise_16 (by decide) ?_
    obtain ⟨ho8, hok⟩ := hok
    refine g_ki (g_runV (As := [.int 1]) (rest := []) K hml ca_X6_no q785 (m_X6_no l E J I1 1 ho8) hG hS rfl rfl rfl rfl rfl hl.1 (Nat.le_of_ble_eq_true rfl) ⟨by decide, by decide⟩ dX6_advise_17 ⟨Nat.zero_le _, Nat.zero_le _⟩) hS (fun H locs hG hS => ?_)
    obtain ⟨I5, hI5⟩ : ∃ z, z = f_X6_no_s I1 1 := ⟨_, rfl⟩
    rw [← hI5] at hG
    have hok := hok I5 hI5
    have eS : I5 = (f_X6_advise_s I x) := (by simp only [f_X6_advise_s, ← hI1, ← hI5, if_pos c2])
    rw [eS] at hG
    exact g_iret K hG hS hr hlocks (by simp only [f_X6_advise_v, ← hI1, ← hI5, if_pos c2]) dX6_advise_20
