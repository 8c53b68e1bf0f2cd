/-! PRINTED by wip/gen (ref.py): X6 -/
def ok_X6_thrown (I : gI)  : Prop :=
  True
def f_X6_thrown (I : gI)  : Int32 :=
  (I 2 11 0 0)
set_option maxHeartbeats 4000000 in
set_option maxRecDepth 100000 in
theorem m_X6_thrown (l : Launch) (E : gE) (J : Int64) (I : gI)  (hok : ok_X6_thrown I) : gMi l E J yX6_thrown cX6_thrown 1 (some .int) 0 0 [.ref (gA E 2 11 0)] I (f_X6_thrown I) I := by
  refine g_entry (lv := [(0, .ref (gA E 2 11 0))]) (by decide) (Nat.le_of_ble_eq_true rfl) rfl ?_
  intro p e s m below meth c0 ls K hG hS hml hr hlocks hl
  have K : kx E p m c0 cX6_thrown "HayThievesModel" _ s := K
  have hx := K.1
  have hb := K.2.1
  have hts := K.2.2.1
  have hown := K.2.2.2.1
  have hSt := K.2.2.2.2
  unfold ok_X6_thrown at hok
  refine lv_aload_n hx hb dX6_thrown_0 rfl (lv_at hl 0 rfl) ?_
  refine gf_X6_36 K hG rfl dX6_thrown_1 ?_
  exact g_iret K hG hS hr hlocks (by simp only [f_X6_thrown]) dX6_thrown_4
def ok_X6_no (I : gI) (x : Int32) : Prop :=
  ∀ I1, I1 = gU I 2 11 0 0 x →
  True
def f_X6_no_v (I : gI) (x : Int32) : Int32 :=
  let I1 := gU I 2 11 0 0 x
  0
def f_X6_no_s (I : gI) (x : Int32) : gI :=
  let I1 := gU I 2 11 0 0 x
  I1
set_option maxHeartbeats 4000000 in
set_option maxRecDepth 100000 in
theorem m_X6_no (l : Launch) (E : gE) (J : Int64) (I : gI) (x : Int32) (hok : ok_X6_no I x) : gMi l E J yX6_no cX6_no 2 (some .int) 0 0 [.ref (gA E 2 11 0), .int x] I (f_X6_no_v I x) (f_X6_no_s I x) := by
  refine g_entry (lv := [(0, .ref (gA E 2 11 0)), (1, .int x)]) (by decide) (Nat.le_of_ble_eq_true rfl) rfl ?_
  intro p e s m below meth c0 ls K hG hS hml hr hlocks hl
  have K : kx E p m c0 cX6_no "HayThievesModel" _ s := K
  have hx := K.1
  have hb := K.2.1
  have hts := K.2.2.1
  have hown := K.2.2.2.1
  have hSt := K.2.2.2.2
  unfold ok_X6_no at hok
  refine lv_aload_n hx hb dX6_no_0 rfl (lv_at hl 0 rfl) ?_
  refine lv_iload_n hx hb dX6_no_1 rfl (lv_at hl 1 rfl) ?_
  refine pf_X6_36 K hG hS rfl dX6_no_2 (fun I1 hI1 H locs hG hS => ?_)
  have hok := hok I1 hI1
  refine lv_iconst (v := 0) hx hb dX6_no_5 (by decide) ?_
  have eS : I1 = (f_X6_no_s I x) := (by simp only [f_X6_no_s, ← hI1])
  rw [eS] at hG
  exact g_iret K hG hS hr hlocks (by simp only [f_X6_no_v, ← hI1]) dX6_no_6
def ok_X6_isIn (I : gI) (x a b : Int32) : Prop :=
  ((x < a) →
    True) ∧
  (¬ (x < a) →
    ((b < x) →
      True) ∧
    (¬ (b < x) →
      True))
def f_X6_isIn (I : gI) (x a b : Int32) : Int32 :=
  if x < a then
    0
  else
    if b < x then
      0
    else
      1
set_option maxHeartbeats 4000000 in
set_option maxRecDepth 100000 in
theorem m_X6_isIn (l : Launch) (E : gE) (J : Int64) (I : gI) (x a b : Int32) (hok : ok_X6_isIn I x a b) : gMi l E J yX6_isIn cX6_isIn 3 (some .boolean) 0 0 [.int x, .int a, .int b] I (f_X6_isIn I x a b) I := by
  refine g_entry (lv := [(0, .int x), (1, .int a), (2, .int b)]) (by decide) (Nat.le_of_ble_eq_true rfl) rfl ?_
  intro p e s m below meth c0 ls K hG hS hml hr hlocks hl
  have K : kx E p m c0 cX6_isIn "HayThievesModel" _ s := K
  have hx := K.1
  have hb := K.2.1
  have hts := K.2.2.1
  have hown := K.2.2.2.1
  have hSt := K.2.2.2.2
  unfold ok_X6_isIn at hok
  refine lv_iload_n hx hb dX6_isIn_0 rfl (lv_at hl 0 rfl) ?_
  refine lv_iload_n hx hb dX6_isIn_1 rfl (lv_at hl 1 rfl) ?_
  refine lv_icmp_lt (tgt := 14) hx hb dX6_isIn_2 (by decide) (fun c1 => ?_) (fun c1 => ?_)
  · have hok := hok.1 c1
    refine lv_iconst (v := 0) hx hb dX6_isIn_14 (by decide) ?_
    exact g_zret K hG hS hr hlocks (gvpZ gz0) (by simp only [f_X6_isIn, if_pos c1]) dX6_isIn_15
  · have hok := hok.2 c1
    refine lv_iload_n hx hb dX6_isIn_5 rfl (lv_at hl 0 rfl) ?_
    refine lv_iload_n hx hb dX6_isIn_6 rfl (lv_at hl 2 rfl) ?_
    refine lv_icmp_gt (tgt := 14) hx hb dX6_isIn_7 (by decide) (fun c2 => ?_) (fun c2 => ?_)
    · have hok := hok.1 c2
      refine lv_iconst (v := 0) hx hb dX6_isIn_14 (by decide) ?_
      exact g_zret K hG hS hr hlocks (gvpZ gz0) (by simp only [f_X6_isIn, if_neg c1, if_pos c2]) dX6_isIn_15
    · have hok := hok.2 c2
      refine lv_iconst (v := 1) hx hb dX6_isIn_10 (by decide) ?_
      refine lv_goto (tgt := 15) hx hb dX6_isIn_11 (by decide) ?_
      exact g_zret K hG hS hr hlocks (gvpZ gz1) (by simp only [f_X6_isIn, if_neg c1, if_neg c2]) dX6_isIn_15

theorem gz_isIn (I : gI) (x a b : Int32) : f_X6_isIn I x a b = 0 ∨ f_X6_isIn I x a b = 1 := by
  unfold f_X6_isIn
  split
  · exact Or.inl rfl
  · split
    · exact Or.inl rfl
    · exact Or.inr rfl

def ok_X6_isLad (I : gI) (x : Int32) : Prop :=
  ok_X6_isIn I x 0 ((I 2 11 0 1) - 1) ∧
  True
def f_X6_isLad (I : gI) (x : Int32) : Int32 :=
  (f_X6_isIn I x 0 ((I 2 11 0 1) - 1))
set_option maxHeartbeats 4000000 in
set_option maxRecDepth 100000 in
theorem m_X6_isLad (l : Launch) (E : gE) (J : Int64) (I : gI) (x : Int32) (hok : ok_X6_isLad I x) : gMi l E J yX6_isLad cX6_isLad 2 (some .boolean) 1 22 [.ref (gA E 2 11 0), .int x] I (f_X6_isLad I x) I := by
  refine g_entry (lv := [(0, .ref (gA E 2 11 0)), (1, .int x)]) (by decide) (Nat.le_of_ble_eq_true rfl) rfl ?_
  intro p e s m below meth c0 ls K hG hS hml hr hlocks hl
  have K : kx E p m c0 cX6_isLad "HayThievesModel" _ s := K
  have hx := K.1
  have hb := K.2.1
  have hts := K.2.2.1
  have hown := K.2.2.2.1
  have hSt := K.2.2.2.2
  unfold ok_X6_isLad at hok
  refine lv_iload_n hx hb dX6_isLad_0 rfl (lv_at hl 1 rfl) ?_
  refine lv_iconst (v := 0) hx hb dX6_isLad_1 (by decide) ?_
  refine lv_aload_n hx hb dX6_isLad_2 rfl (lv_at hl 0 rfl) ?_
  refine gf_X6_39 K hG rfl dX6_isLad_3 ?_
  refine lv_iconst (v := 1) hx hb dX6_isLad_6 (by decide) ?_
  refine lv_isub hx hb dX6_isLad_7 ?_
  obtain ⟨ho1, hok⟩ := hok
  refine g_ki (g_runS (As := [.int x, .int 0, .int ((I 2 11 0 1) - 1)]) (rest := []) K hml ca_X6_isIn q782 (m_X6_isIn l E J I x 0 ((I 2 11 0 1) - 1) ho1) hG hS rfl hl.1 (Nat.le_of_ble_eq_true rfl) ⟨by decide, by decide⟩ dX6_isLad_8 ⟨Nat.zero_le _, Nat.zero_le _⟩) hS (fun H locs hG hS => ?_)
  exact g_zret K hG hS hr hlocks (gvpZ (gz_isIn _ _ _ _)) (by simp only [f_X6_isLad]) dX6_isLad_11
def ok_X6_isLoad (I : gI) (x : Int32) : Prop :=
  ok_X6_isIn I x 0 ((I 2 11 0 4) - 1) ∧
  True
def f_X6_isLoad (I : gI) (x : Int32) : Int32 :=
  (f_X6_isIn I x 0 ((I 2 11 0 4) - 1))
set_option maxHeartbeats 4000000 in
set_option maxRecDepth 100000 in
theorem m_X6_isLoad (l : Launch) (E : gE) (J : Int64) (I : gI) (x : Int32) (hok : ok_X6_isLoad I x) : gMi l E J yX6_isLoad cX6_isLoad 2 (some .boolean) 1 22 [.ref (gA E 2 11 0), .int x] I (f_X6_isLoad I x) I := by
  refine g_entry (lv := [(0, .ref (gA E 2 11 0)), (1, .int x)]) (by decide) (Nat.le_of_ble_eq_true rfl) rfl ?_
  intro p e s m below meth c0 ls K hG hS hml hr hlocks hl
  have K : kx E p m c0 cX6_isLoad "HayThievesModel" _ s := K
  have hx := K.1
  have hb := K.2.1
  have hts := K.2.2.1
  have hown := K.2.2.2.1
  have hSt := K.2.2.2.2
  unfold ok_X6_isLoad at hok
  refine lv_iload_n hx hb dX6_isLoad_0 rfl (lv_at hl 1 rfl) ?_
  refine lv_iconst (v := 0) hx hb dX6_isLoad_1 (by decide) ?_
  refine lv_aload_n hx hb dX6_isLoad_2 rfl (lv_at hl 0 rfl) ?_
  refine gf_X6_46 K hG rfl dX6_isLoad_3 ?_
  refine lv_iconst (v := 1) hx hb dX6_isLoad_6 (by decide) ?_
  refine lv_isub hx hb dX6_isLoad_7 ?_
  obtain ⟨ho1, hok⟩ := hok
  refine g_ki (g_runS (As := [.int x, .int 0, .int ((I 2 11 0 4) - 1)]) (rest := []) K hml ca_X6_isIn q782 (m_X6_isIn l E J I x 0 ((I 2 11 0 4) - 1) ho1) hG hS rfl hl.1 (Nat.le_of_ble_eq_true rfl) ⟨by decide, by decide⟩ dX6_isLoad_8 ⟨Nat.zero_le _, Nat.zero_le _⟩) hS (fun H locs hG hS => ?_)
  exact g_zret K hG hS hr hlocks (gvpZ (gz_isIn _ _ _ _)) (by simp only [f_X6_isLoad]) dX6_isLoad_11
def ok_X6_rank (I : gI) (y : Nat) (x a : Int32) : Prop :=
  vp_in x 6 ∧
  (((I 2 13 0 x.toNatClampNeg) = 0) →
    True) ∧
  (¬ ((I 2 13 0 x.toNatClampNeg) = 0) →
    (((I 2 13 0 x.toNatClampNeg) = 1) →
      vp_in a 6 ∧
      True) ∧
    (¬ ((I 2 13 0 x.toNatClampNeg) = 1) →
      ok_X5_far I y a ∧
      vp_in (f_X5_far I y a) 600 ∧
      True))
def f_X6_rank (I : gI) (y : Nat) (x a : Int32) : Int32 :=
  if (I 2 13 0 x.toNatClampNeg) = 0 then
    0
  else
    if (I 2 13 0 x.toNatClampNeg) = 1 then
      (I y 31 0 a.toNatClampNeg)
    else
      (I y 40 0 ((f_X5_far I y a).toNatClampNeg))
set_option maxHeartbeats 4000000 in
set_option maxRecDepth 100000 in
theorem m_X6_rank (l : Launch) (E : gE) (J : Int64) (I : gI) (y : Nat) (x a : Int32) (hy : y = 3 ∨ y = 4) (hok : ok_X6_rank I y x a) : gMi l E J yX6_rank cX6_rank 4 (some .int) 1 21 [.ref (gA E 2 11 0), .ref (gA E y 20 0), .int x, .int a] I (f_X6_rank I y x a) I := by
  refine g_entry (lv := [(0, .ref (gA E 2 11 0)), (1, .ref (gA E y 20 0)), (2, .int x), (3, .int a)]) (by decide) (Nat.le_of_ble_eq_true rfl) rfl ?_
  intro p e s m below meth c0 ls K hG hS hml hr hlocks hl
  have K : kx E p m c0 cX6_rank "HayThievesModel" _ s := K
  have hx := K.1
  have hb := K.2.1
  have hts := K.2.2.1
  have hown := K.2.2.2.1
  have hSt := K.2.2.2.2
  unfold ok_X6_rank at hok
  refine lv_aload_n hx hb dX6_rank_0 rfl (lv_at hl 0 rfl) ?_
  refine gf_X6_13 K hG rfl dX6_rank_1 ?_
  refine lv_iload_n hx hb dX6_rank_4 rfl (lv_at hl 2 rfl) ?_
  obtain ⟨ho1, hok⟩ := hok
  refine g_iald K hG rfl rfl (fun _ => rfl) ho1 dX6_rank_5 ?_
  refine lv_if_ne (tgt := 13) hx hb dX6_rank_6 (by decide) (fun c2 => ?_) (fun c2 => ?_)
  · have hok := hok.2 c2
    refine lv_aload_n hx hb dX6_rank_13 rfl (lv_at hl 0 rfl) ?_
    refine gf_X6_13 K hG rfl dX6_rank_14 ?_
    refine lv_iload_n hx hb dX6_rank_17 rfl (lv_at hl 2 rfl) ?_
    refine g_iald K hG rfl rfl (fun _ => rfl) ho1 dX6_rank_18 ?_
    refine lv_iconst (v := 1) hx hb dX6_rank_19 (by decide) ?_
    refine lv_icmp_ne (tgt := 32) hx hb dX6_rank_20 (by decide) (fun c3 => ?_) (fun c3 => ?_)
    · have hok := hok.2 c3
      refine lv_aload_n hx hb dX6_rank_32 rfl (lv_at hl 1 rfl) ?_
      refine gf_X6_52 K hG (gvs hy 20 rfl) dX6_rank_33 ?_
      refine lv_aload_n hx hb dX6_rank_36 rfl (lv_at hl 1 rfl) ?_
      refine lv_iload_n hx hb dX6_rank_37 rfl (lv_at hl 3 rfl) ?_
      obtain ⟨ho4, hok⟩ := hok
      refine g_ki (g_runV (As := [.int a]) (rest := [.ref (gA E y 40 0)]) K hml ca_X5_far q877 (m_X5_far l E J I y a hy ho4) hG hS (gvs hy 20 rfl) rfl rfl rfl rfl hl.1 (Nat.le_of_ble_eq_true rfl) ⟨by decide, by decide⟩ dX6_rank_38 ⟨Nat.zero_le _, Nat.zero_le _⟩) hS (fun H locs hG hS => ?_)
      obtain ⟨ho5, hok⟩ := hok
      refine g_iald K hG (gvs hy 40 rfl) rfl (fun _ => rfl) ho5 dX6_rank_41 ?_
      exact g_iret K hG hS hr hlocks (by simp only [f_X6_rank, if_neg c2, if_neg c3]) dX6_rank_42
    · have hok := hok.1 c3
      refine lv_aload_n hx hb dX6_rank_23 rfl (lv_at hl 1 rfl) ?_
      refine gf_X6_49 K hG (gvs hy 20 rfl) dX6_rank_24 ?_
      refine lv_iload_n hx hb dX6_rank_27 rfl (lv_at hl 3 rfl) ?_
      obtain ⟨ho6, hok⟩ := hok
      refine g_iald K hG (gvs hy 31 rfl) rfl (fun _ => rfl) ho6 dX6_rank_28 ?_
      refine lv_goto (tgt := 42) hx hb dX6_rank_29 (by decide) ?_
      exact g_iret K hG hS hr hlocks (by simp only [f_X6_rank, if_neg c2, if_pos c3]) dX6_rank_42
  · have hok := hok.1 c2
    refine lv_iconst (v := 0) hx hb dX6_rank_9 (by decide) ?_
    refine lv_goto (tgt := 42) hx hb dX6_rank_10 (by decide) ?_
    exact g_iret K hG hS hr hlocks (by simp only [f_X6_rank, if_pos c2]) dX6_rank_42
def f_X6_victimOf_l1 (y : Nat) (x : Int32) : Nat → Nat → Int32 → gI → Int32
  | 0, i, a, I =>
    a
  | n + 1, i, a, I =>
    if (I 2 13 0 x.toNatClampNeg) = 0 then
      if (I y 31 0 (((x + (nI i)) - (x + (nI i)) / (I 2 11 0 1) * (I 2 11 0 1)).toNatClampNeg)) = 0 then
        f_X6_victimOf_l1 y x n (i + 1) a I
      else
        if a = (-1) then
          f_X6_victimOf_l1 y x n (i + 1) ((x + (nI i)) - (x + (nI i)) / (I 2 11 0 1) * (I 2 11 0 1)) I
        else
          if (f_X6_rank I y x ((x + (nI i)) - (x + (nI i)) / (I 2 11 0 1) * (I 2 11 0 1))) ≤ (f_X6_rank I y x a) then
            f_X6_victimOf_l1 y x n (i + 1) a I
          else
            f_X6_victimOf_l1 y x n (i + 1) ((x + (nI i)) - (x + (nI i)) / (I 2 11 0 1) * (I 2 11 0 1)) I
    else
      if x < (nI i) then
        if (I y 31 0 i) = 0 then
          f_X6_victimOf_l1 y x n (i + 1) a I
        else
          if a = (-1) then
            f_X6_victimOf_l1 y x n (i + 1) (nI i) I
          else
            if (f_X6_rank I y x (nI i)) ≤ (f_X6_rank I y x a) then
              f_X6_victimOf_l1 y x n (i + 1) a I
            else
              f_X6_victimOf_l1 y x n (i + 1) (nI i) I
      else
        if (I y 31 0 (((nI i) - 1).toNatClampNeg)) = 0 then
          f_X6_victimOf_l1 y x n (i + 1) a I
        else
          if a = (-1) then
            f_X6_victimOf_l1 y x n (i + 1) ((nI i) - 1) I
          else
            if (f_X6_rank I y x ((nI i) - 1)) ≤ (f_X6_rank I y x a) then
              f_X6_victimOf_l1 y x n (i + 1) a I
            else
              f_X6_victimOf_l1 y x n (i + 1) ((nI i) - 1) I
def ok_f_X6_victimOf_l1 (y : Nat) (x : Int32) : Nat → Nat → Int32 → gI → Prop
  | 0, i, a, I =>
    True
  | n + 1, i, a, I =>
    vp_in x 6 ∧
    (((I 2 13 0 x.toNatClampNeg) = 0) →
      ¬ (I 2 11 0 1) = 0 ∧
      vp_in ((x + (nI i)) - (x + (nI i)) / (I 2 11 0 1) * (I 2 11 0 1)) 6 ∧
      (((I y 31 0 (((x + (nI i)) - (x + (nI i)) / (I 2 11 0 1) * (I 2 11 0 1)).toNatClampNeg)) = 0) →
        ok_f_X6_victimOf_l1 y x n (i + 1) a I) ∧
      (¬ ((I y 31 0 (((x + (nI i)) - (x + (nI i)) / (I 2 11 0 1) * (I 2 11 0 1)).toNatClampNeg)) = 0) →
        ((a = (-1)) →
          ok_f_X6_victimOf_l1 y x n (i + 1) ((x + (nI i)) - (x + (nI i)) / (I 2 11 0 1) * (I 2 11 0 1)) I) ∧
        (¬ (a = (-1)) →
          ok_X6_rank I y x ((x + (nI i)) - (x + (nI i)) / (I 2 11 0 1) * (I 2 11 0 1)) ∧
          ok_X6_rank I y x a ∧
          (((f_X6_rank I y x ((x + (nI i)) - (x + (nI i)) / (I 2 11 0 1) * (I 2 11 0 1))) ≤ (f_X6_rank I y x a)) →
            ok_f_X6_victimOf_l1 y x n (i + 1) a I) ∧
          (¬ ((f_X6_rank I y x ((x + (nI i)) - (x + (nI i)) / (I 2 11 0 1) * (I 2 11 0 1))) ≤ (f_X6_rank I y x a)) →
            ok_f_X6_victimOf_l1 y x n (i + 1) ((x + (nI i)) - (x + (nI i)) / (I 2 11 0 1) * (I 2 11 0 1)) I)))) ∧
    (¬ ((I 2 13 0 x.toNatClampNeg) = 0) →
      ((x < (nI i)) →
        (((I y 31 0 i) = 0) →
          ok_f_X6_victimOf_l1 y x n (i + 1) a I) ∧
        (¬ ((I y 31 0 i) = 0) →
          ((a = (-1)) →
            ok_f_X6_victimOf_l1 y x n (i + 1) (nI i) I) ∧
          (¬ (a = (-1)) →
            ok_X6_rank I y x (nI i) ∧
            ok_X6_rank I y x a ∧
            (((f_X6_rank I y x (nI i)) ≤ (f_X6_rank I y x a)) →
              ok_f_X6_victimOf_l1 y x n (i + 1) a I) ∧
            (¬ ((f_X6_rank I y x (nI i)) ≤ (f_X6_rank I y x a)) →
              ok_f_X6_victimOf_l1 y x n (i + 1) (nI i) I)))) ∧
      (¬ (x < (nI i)) →
        vp_in ((nI i) - 1) 6 ∧
        (((I y 31 0 (((nI i) - 1).toNatClampNeg)) = 0) →
          ok_f_X6_victimOf_l1 y x n (i + 1) a I) ∧
        (¬ ((I y 31 0 (((nI i) - 1).toNatClampNeg)) = 0) →
          ((a = (-1)) →
            ok_f_X6_victimOf_l1 y x n (i + 1) ((nI i) - 1) I) ∧
          (¬ (a = (-1)) →
            ok_X6_rank I y x ((nI i) - 1) ∧
            ok_X6_rank I y x a ∧
            (((f_X6_rank I y x ((nI i) - 1)) ≤ (f_X6_rank I y x a)) →
              ok_f_X6_victimOf_l1 y x n (i + 1) a I) ∧
            (¬ ((f_X6_rank I y x ((nI i) - 1)) ≤ (f_X6_rank I y x a)) →
              ok_f_X6_victimOf_l1 y x n (i + 1) ((nI i) - 1) I)))))
def ok_X6_victimOf (I : gI) (y : Nat) (x : Int32) : Prop :=
  isN (I 2 11 0 1) 6 ∧
  ok_f_X6_victimOf_l1 y x ((I 2 11 0 1).toNatClampNeg - 1) 1 (-1) I
def f_X6_victimOf (I : gI) (y : Nat) (x : Int32) : Int32 :=
  f_X6_victimOf_l1 y x ((I 2 11 0 1).toNatClampNeg - 1) 1 (-1) I
set_option maxHeartbeats 4000000 in
set_option maxRecDepth 100000 in
theorem m_X6_victimOf (l : Launch) (E : gE) (J : Int64) (I : gI) (y : Nat) (x : Int32) (hy : y = 3 ∨ y = 4) (hok : ok_X6_victimOf I y x) : gMi l E J yX6_victimOf cX6_victimOf 6 (some .int) 2 44 [.ref (gA E 2 11 0), .ref (gA E y 20 0), .int x] I (f_X6_victimOf I y x) I := by
  refine g_entry (lv := [(0, .ref (gA E 2 11 0)), (1, .ref (gA E y 20 0)), (2, .int x)]) (by decide) (Nat.le_of_ble_eq_true rfl) rfl ?_
  intro p e s m below meth c0 ls K hG hS hml hr hlocks hl
  have K : kx E p m c0 cX6_victimOf "HayThievesModel" _ s := K
  have hx := K.1
  have hb := K.2.1
  have hts := K.2.2.1
  have hown := K.2.2.2.1
  have hSt := K.2.2.2.2
  unfold ok_X6_victimOf at hok
  refine lv_iconst (v := (-1)) hx hb dX6_victimOf_0 (by decide) ?_
  refine lv_istore_n (lv' := [(3, .int (-1)), (0, .ref (gA E 2 11 0)), (1, .ref (gA E y 20 0)), (2, .int x)]) hx hb dX6_victimOf_1 rfl hl (by decide) rfl (fun ls hl => ?_)
  refine lv_iconst (v := 1) hx hb dX6_victimOf_2 (by decide) ?_
  refine lv_istore (lv' := [(4, .int 1), (3, .int (-1)), (0, .ref (gA E 2 11 0)), (1, .ref (gA E y 20 0)), (2, .int x)]) hx hb dX6_victimOf_3 hl (by decide) rfl (fun ls hl => ?_)
  obtain ⟨ho1, hok⟩ := hok
  have hNb := ho1.1
  have hL_l1 : ∀ (n i : Nat) (a : Int32) (H : Heap) (locs : List Loc) (ls : Array Slot), i + n = (max (I 2 11 0 1).toNatClampNeg 1) → 1 ≤ i → f_X6_victimOf_l1 y x n i a I = f_X6_victimOf I y x → ok_f_X6_victimOf_l1 y x n i a I → GW E J I H → va_S (gF E) s.heap H locs → lv_has ls 6 [(4, .int (nI i)), (3, .int a), (0, .ref (gA E 2 11 0)), (1, .ref (gA E y 20 0)), (2, .int x)] → W p l e (grm 2 44) s m ([.ref (gA E 2 11 0), .ref (gA E y 20 0), .int x] : List Value).toArray below meth c0 H locs 0 0 (MQ below (va_Qi (fun z9 (_ : Unit) => z9 = f_X6_victimOf I y x) (fun _ t => GW E J I t.heap) (gF E)) ([.ref (gA E 2 11 0), .ref (gA E y 20 0), .int x] : List Value).toArray s 0 0 (gF E)) (F0 m 5 ls []) := by
    intro n
    induction n with
    | zero =>
      intro i a H locs ls hin hi1 hTv hok hG hS hl
      unfold ok_f_X6_victimOf_l1 at hok
      refine lv_iload hx hb dX6_victimOf_5 (lv_at hl 0 rfl) ?_
      refine lv_aload_n hx hb dX6_victimOf_7 rfl (lv_at hl 2 rfl) ?_
      refine gf_X6_39 K hG rfl dX6_victimOf_8 ?_
      refine lv_icmp_ge (tgt := 97) hx hb dX6_victimOf_11 (by decide) (fun c2 => ?_) (fun c2 => ?_)
      · skip
        refine lv_iload_n hx hb dX6_victimOf_97 rfl (lv_at hl 1 rfl) ?_
        exact g_iret K hG hS hr hlocks (by rw [← hTv]; simp only [f_X6_victimOf_l1, if_pos c2]) dX6_victimOf_98
      · exact absurd (lp_ge2 ho1.2 (by omega) (by omega)) c2
    | succ n ih =>
      intro i a H locs ls hin hi1 hTv hok hG hS hl
      unfold ok_f_X6_victimOf_l1 at hok
      refine lv_iload hx hb dX6_victimOf_5 (lv_at hl 0 rfl) ?_
      refine lv_aload_n hx hb dX6_victimOf_7 rfl (lv_at hl 2 rfl) ?_
      refine gf_X6_39 K hG rfl dX6_victimOf_8 ?_
      refine lv_icmp_ge (tgt := 97) hx hb dX6_victimOf_11 (by decide) (fun c3 => ?_) (fun c3 => ?_)
      · exact absurd c3 (lp_nge2 ho1.2 (by omega) (by omega))
      · skip
        refine lv_aload_n hx hb dX6_victimOf_14 rfl (lv_at hl 2 rfl) ?_
        refine gf_X6_13 K hG rfl dX6_victimOf_15 ?_
        refine lv_iload_n hx hb dX6_victimOf_18 rfl (lv_at hl 4 rfl) ?_
        obtain ⟨ho4, hok⟩ := hok
        refine g_iald K hG rfl rfl (fun _ => rfl) ho4 dX6_victimOf_19 ?_
        refine lv_if_ne (tgt := 35) hx hb dX6_victimOf_20 (by decide) (fun c5 => ?_) (fun c5 => ?_)
        · have hok := hok.2 c5
          refine lv_iload hx hb dX6_victimOf_35 (lv_at hl 0 rfl) ?_
          refine lv_iload_n hx hb dX6_victimOf_37 rfl (lv_at hl 4 rfl) ?_
          refine lv_icmp_gt (tgt := 48) hx hb dX6_victimOf_38 (by decide) (fun c6 => ?_) (fun c6 => ?_)
          · have hok := hok.1 c6
            refine lv_iload hx hb dX6_victimOf_48 (lv_at hl 0 rfl) ?_
            refine lv_istore (lv' := [(5, .int (nI i)), (4, .int (nI i)), (3, .int a), (0, .ref (gA E 2 11 0)), (1, .ref (gA E y 20 0)), (2, .int x)]) hx hb dX6_victimOf_50 hl (by decide) rfl (fun ls hl => ?_)
            refine lv_aload_n hx hb dX6_victimOf_52 rfl (lv_at hl 4 rfl) ?_
            refine gf_X6_49 K hG (gvs hy 20 rfl) dX6_victimOf_53 ?_
            refine lv_iload hx hb dX6_victimOf_56 (lv_at hl 0 rfl) ?_
            refine g_iald K hG (gvs hy 31 rfl) rfl (fun _ => rfl) (vp_in_nI (Nat.lt_of_lt_of_le (show i < 6 by omega) (by decide)) (by decide)) dX6_victimOf_58 ?_
            rw [nI_clamp (Nat.lt_trans (show i < 6 by omega) (by decide))]
            refine lv_if_ne (tgt := 65) hx hb dX6_victimOf_59 (by decide) (fun c7 => ?_) (fun c7 => ?_)
            · have hok := hok.2 c7
              refine lv_iload_n hx hb dX6_victimOf_65 rfl (lv_at hl 2 rfl) ?_
              refine lv_iconst (v := (-1)) hx hb dX6_victimOf_66 (by decide) ?_
              refine lv_icmp_eq (tgt := 88) hx hb dX6_victimOf_67 (by decide) (fun c8 => ?_) (fun c8 => ?_)
              · have hok := hok.1 c8
                refine lv_iload hx hb dX6_victimOf_88 (lv_at hl 0 rfl) ?_
                refine lv_istore_n (lv' := [(3, .int (nI i)), (5, .int (nI i)), (4, .int (nI i)), (0, .ref (gA E 2 11 0)), (1, .ref (gA E y 20 0)), (2, .int x)]) hx hb dX6_victimOf_90 rfl hl (by decide) rfl (fun ls hl => ?_)
                refine lv_iinc (v := (nI (i + 1))) (lv' := [(4, .int (nI (i + 1))), (3, .int (nI i)), (5, .int (nI i)), (0, .ref (gA E 2 11 0)), (1, .ref (gA E y 20 0)), (2, .int x)]) hx hb dX6_victimOf_91 hl (k := 2) rfl (nI_add i 1) (by decide) rfl (fun ls hl => ?_)
                refine lv_goto (tgt := 5) hx hb dX6_victimOf_94 (by decide) ?_
                exact ih (i + 1) (nI i) _ _ _ (by omega) (by omega) (by rw [← hTv]; simp only [f_X6_victimOf_l1, if_neg c3, if_neg c5, if_pos c6, if_neg c7, if_pos c8]) hok hG hS (lv_sub hl [0, 1, 3, 4, 5] rfl)
              · have hok := hok.2 c8
                refine lv_aload_n hx hb dX6_victimOf_70 rfl (lv_at hl 3 rfl) ?_
                refine lv_aload_n hx hb dX6_victimOf_71 rfl (lv_at hl 4 rfl) ?_
                refine lv_iload_n hx hb dX6_victimOf_72 rfl (lv_at hl 5 rfl) ?_
                refine lv_iload hx hb dX6_victimOf_73 (lv_at hl 0 rfl) ?_
                obtain ⟨ho9, hok⟩ := hok
                refine g_ki (g_runV (As := [.ref (gA E y 20 0), .int x, .int (nI i)]) (rest := []) K hml ca_X6_rank q873 (m_X6_rank l E J I y x (nI i) hy ho9) hG hS rfl rfl rfl rfl rfl hl.1 (Nat.le_of_ble_eq_true rfl) ⟨by decide, by decide⟩ dX6_victimOf_75 ⟨Nat.zero_le _, Nat.zero_le _⟩) hS (fun H locs hG hS => ?_)
                refine lv_aload_n hx hb dX6_victimOf_78 rfl (lv_at hl 3 rfl) ?_
                refine lv_aload_n hx hb dX6_victimOf_79 rfl (lv_at hl 4 rfl) ?_
                refine lv_iload_n hx hb dX6_victimOf_80 rfl (lv_at hl 5 rfl) ?_
                refine lv_iload_n hx hb dX6_victimOf_81 rfl (lv_at hl 2 rfl) ?_
                obtain ⟨ho10, hok⟩ := hok
                refine g_ki (g_runV (As := [.ref (gA E y 20 0), .int x, .int a]) (rest := [.int (f_X6_rank I y x (nI i))]) K hml ca_X6_rank q873 (m_X6_rank l E J I y x a hy ho10) hG hS rfl rfl rfl rfl rfl hl.1 (Nat.le_of_ble_eq_true rfl) ⟨by decide, by decide⟩ dX6_victimOf_82 ⟨Nat.zero_le _, Nat.zero_le _⟩) hS (fun H locs hG hS => ?_)
                refine lv_icmp_le (tgt := 91) hx hb dX6_victimOf_85 (by decide) (fun c11 => ?_) (fun c11 => ?_)
                · have hok := hok.1 c11
                  refine lv_iinc (v := (nI (i + 1))) (lv' := [(4, .int (nI (i + 1))), (5, .int (nI i)), (3, .int a), (0, .ref (gA E 2 11 0)), (1, .ref (gA E y 20 0)), (2, .int x)]) hx hb dX6_victimOf_91 hl (k := 1) rfl (nI_add i 1) (by decide) rfl (fun ls hl => ?_)
                  refine lv_goto (tgt := 5) hx hb dX6_victimOf_94 (by decide) ?_
                  exact ih (i + 1) a _ _ _ (by omega) (by omega) (by rw [← hTv]; simp only [f_X6_victimOf_l1, if_neg c3, if_neg c5, if_pos c6, if_neg c7, if_neg c8, if_pos c11]) hok hG hS (lv_sub hl [0, 2, 3, 4, 5] rfl)
                · have hok := hok.2 c11
                  refine lv_iload hx hb dX6_victimOf_88 (lv_at hl 0 rfl) ?_
                  refine lv_istore_n (lv' := [(3, .int (nI i)), (5, .int (nI i)), (4, .int (nI i)), (0, .ref (gA E 2 11 0)), (1, .ref (gA E y 20 0)), (2, .int x)]) hx hb dX6_victimOf_90 rfl hl (by decide) rfl (fun ls hl => ?_)
                  refine lv_iinc (v := (nI (i + 1))) (lv' := [(4, .int (nI (i + 1))), (3, .int (nI i)), (5, .int (nI i)), (0, .ref (gA E 2 11 0)), (1, .ref (gA E y 20 0)), (2, .int x)]) hx hb dX6_victimOf_91 hl (k := 2) rfl (nI_add i 1) (by decide) rfl (fun ls hl => ?_)
                  refine lv_goto (tgt := 5) hx hb dX6_victimOf_94 (by decide) ?_
                  exact ih (i + 1) (nI i) _ _ _ (by omega) (by omega) (by rw [← hTv]; simp only [f_X6_victimOf_l1, if_neg c3, if_neg c5, if_pos c6, if_neg c7, if_neg c8, if_neg c11]) hok hG hS (lv_sub hl [0, 1, 3, 4, 5] rfl)
            · have hok := hok.1 c7
              refine lv_goto (tgt := 91) hx hb dX6_victimOf_62 (by decide) ?_
              refine lv_iinc (v := (nI (i + 1))) (lv' := [(4, .int (nI (i + 1))), (5, .int (nI i)), (3, .int a), (0, .ref (gA E 2 11 0)), (1, .ref (gA E y 20 0)), (2, .int x)]) hx hb dX6_victimOf_91 hl (k := 1) rfl (nI_add i 1) (by decide) rfl (fun ls hl => ?_)
              refine lv_goto (tgt := 5) hx hb dX6_victimOf_94 (by decide) ?_
              exact ih (i + 1) a _ _ _ (by omega) (by omega) (by rw [← hTv]; simp only [f_X6_victimOf_l1, if_neg c3, if_neg c5, if_pos c6, if_pos c7]) hok hG hS (lv_sub hl [0, 2, 3, 4, 5] rfl)
          · have hok := hok.2 c6
            refine lv_iload hx hb dX6_victimOf_41 (lv_at hl 0 rfl) ?_
            refine lv_iconst (v := 1) hx hb dX6_victimOf_43 (by decide) ?_
            refine lv_isub hx hb dX6_victimOf_44 ?_
            refine lv_goto (tgt := 50) hx hb dX6_victimOf_45 (by decide) ?_
            refine lv_istore (lv' := [(5, .int ((nI i) - 1)), (4, .int (nI i)), (3, .int a), (0, .ref (gA E 2 11 0)), (1, .ref (gA E y 20 0)), (2, .int x)]) hx hb dX6_victimOf_50 hl (by decide) rfl (fun ls hl => ?_)
            refine lv_aload_n hx hb dX6_victimOf_52 rfl (lv_at hl 4 rfl) ?_
            refine gf_X6_49 K hG (gvs hy 20 rfl) dX6_victimOf_53 ?_
            refine lv_iload hx hb dX6_victimOf_56 (lv_at hl 0 rfl) ?_
            obtain ⟨ho12, hok⟩ := hok
            refine g_iald K hG (gvs hy 31 rfl) rfl (fun _ => rfl) ho12 dX6_victimOf_58 ?_
            refine lv_if_ne (tgt := 65) hx hb dX6_victimOf_59 (by decide) (fun c13 => ?_) (fun c13 => ?_)
            · have hok := hok.2 c13
              refine lv_iload_n hx hb dX6_victimOf_65 rfl (lv_at hl 2 rfl) ?_
              refine lv_iconst (v := (-1)) hx hb dX6_victimOf_66 (by decide) ?_
              refine lv_icmp_eq (tgt := 88) hx hb dX6_victimOf_67 (by decide) (fun c14 => ?_) (fun c14 => ?_)
              · have hok := hok.1 c14
                refine lv_iload hx hb dX6_victimOf_88 (lv_at hl 0 rfl) ?_
                refine lv_istore_n (lv' := [(3, .int ((nI i) - 1)), (5, .int ((nI i) - 1)), (4, .int (nI i)), (0, .ref (gA E 2 11 0)), (1, .ref (gA E y 20 0)), (2, .int x)]) hx hb dX6_victimOf_90 rfl hl (by decide) rfl (fun ls hl => ?_)
                refine lv_iinc (v := (nI (i + 1))) (lv' := [(4, .int (nI (i + 1))), (3, .int ((nI i) - 1)), (5, .int ((nI i) - 1)), (0, .ref (gA E 2 11 0)), (1, .ref (gA E y 20 0)), (2, .int x)]) hx hb dX6_victimOf_91 hl (k := 2) rfl (nI_add i 1) (by decide) rfl (fun ls hl => ?_)
                refine lv_goto (tgt := 5) hx hb dX6_victimOf_94 (by decide) ?_
                exact ih (i + 1) ((nI i) - 1) _ _ _ (by omega) (by omega) (by rw [← hTv]; simp only [f_X6_victimOf_l1, if_neg c3, if_neg c5, if_neg c6, if_neg c13, if_pos c14]) hok hG hS (lv_sub hl [0, 1, 3, 4, 5] rfl)
              · have hok := hok.2 c14
                refine lv_aload_n hx hb dX6_victimOf_70 rfl (lv_at hl 3 rfl) ?_
                refine lv_aload_n hx hb dX6_victimOf_71 rfl (lv_at hl 4 rfl) ?_
                refine lv_iload_n hx hb dX6_victimOf_72 rfl (lv_at hl 5 rfl) ?_
                refine lv_iload hx hb dX6_victimOf_73 (lv_at hl 0 rfl) ?_
                obtain ⟨ho15, hok⟩ := hok
                refine g_ki (g_runV (As := [.ref (gA E y 20 0), .int x, .int ((nI i) - 1)]) (rest := []) K hml ca_X6_rank q873 (m_X6_rank l E J I y x ((nI i) - 1) hy ho15) hG hS rfl rfl rfl rfl rfl hl.1 (Nat.le_of_ble_eq_true rfl) ⟨by decide, by decide⟩ dX6_victimOf_75 ⟨Nat.zero_le _, Nat.zero_le _⟩) hS (fun H locs hG hS => ?_)
                refine lv_aload_n hx hb dX6_victimOf_78 rfl (lv_at hl 3 rfl) ?_
                refine lv_aload_n hx hb dX6_victimOf_79 rfl (lv_at hl 4 rfl) ?_
                refine lv_iload_n hx hb dX6_victimOf_80 rfl (lv_at hl 5 rfl) ?_
                refine lv_iload_n hx hb dX6_victimOf_81 rfl (lv_at hl 2 rfl) ?_
                obtain ⟨ho16, hok⟩ := hok
                refine g_ki (g_runV (As := [.ref (gA E y 20 0), .int x, .int a]) (rest := [.int (f_X6_rank I y x ((nI i) - 1))]) K hml ca_X6_rank q873 (m_X6_rank l E J I y x a hy ho16) hG hS rfl rfl rfl rfl rfl hl.1 (Nat.le_of_ble_eq_true rfl) ⟨by decide, by decide⟩ dX6_victimOf_82 ⟨Nat.zero_le _, Nat.zero_le _⟩) hS (fun H locs hG hS => ?_)
                refine lv_icmp_le (tgt := 91) hx hb dX6_victimOf_85 (by decide) (fun c17 => ?_) (fun c17 => ?_)
                · have hok := hok.1 c17
                  refine lv_iinc (v := (nI (i + 1))) (lv' := [(4, .int (nI (i + 1))), (5, .int ((nI i) - 1)), (3, .int a), (0, .ref (gA E 2 11 0)), (1, .ref (gA E y 20 0)), (2, .int x)]) hx hb dX6_victimOf_91 hl (k := 1) rfl (nI_add i 1) (by decide) rfl (fun ls hl => ?_)
                  refine lv_goto (tgt := 5) hx hb dX6_victimOf_94 (by decide) ?_
                  exact ih (i + 1) a _ _ _ (by omega) (by omega) (by rw [← hTv]; simp only [f_X6_victimOf_l1, if_neg c3, if_neg c5, if_neg c6, if_neg c13, if_neg c14, if_pos c17]) hok hG hS (lv_sub hl [0, 2, 3, 4, 5] rfl)
                · have hok := hok.2 c17
                  refine lv_iload hx hb dX6_victimOf_88 (lv_at hl 0 rfl) ?_
                  refine lv_istore_n (lv' := [(3, .int ((nI i) - 1)), (5, .int ((nI i) - 1)), (4, .int (nI i)), (0, .ref (gA E 2 11 0)), (1, .ref (gA E y 20 0)), (2, .int x)]) hx hb dX6_victimOf_90 rfl hl (by decide) rfl (fun ls hl => ?_)
                  refine lv_iinc (v := (nI (i + 1))) (lv' := [(4, .int (nI (i + 1))), (3, .int ((nI i) - 1)), (5, .int ((nI i) - 1)), (0, .ref (gA E 2 11 0)), (1, .ref (gA E y 20 0)), (2, .int x)]) hx hb dX6_victimOf_91 hl (k := 2) rfl (nI_add i 1) (by decide) rfl (fun ls hl => ?_)
                  refine lv_goto (tgt := 5) hx hb dX6_victimOf_94 (by decide) ?_
                  exact ih (i + 1) ((nI i) - 1) _ _ _ (by omega) (by omega) (by rw [← hTv]; simp only [f_X6_victimOf_l1, if_neg c3, if_neg c5, if_neg c6, if_neg c13, if_neg c14, if_neg c17]) hok hG hS (lv_sub hl [0, 1, 3, 4, 5] rfl)
            · have hok := hok.1 c13
              refine lv_goto (tgt := 91) hx hb dX6_victimOf_62 (by decide) ?_
              refine lv_iinc (v := (nI (i + 1))) (lv' := [(4, .int (nI (i + 1))), (5, .int ((nI i) - 1)), (3, .int a), (0, .ref (gA E 2 11 0)), (1, .ref (gA E y 20 0)), (2, .int x)]) hx hb dX6_victimOf_91 hl (k := 1) rfl (nI_add i 1) (by decide) rfl (fun ls hl => ?_)
              refine lv_goto (tgt := 5) hx hb dX6_victimOf_94 (by decide) ?_
              exact ih (i + 1) a _ _ _ (by omega) (by omega) (by rw [← hTv]; simp only [f_X6_victimOf_l1, if_neg c3, if_neg c5, if_neg c6, if_pos c13]) hok hG hS (lv_sub hl [0, 2, 3, 4, 5] rfl)
        · have hok := hok.1 c5
          refine lv_iload_n hx hb dX6_victimOf_23 rfl (lv_at hl 4 rfl) ?_
          refine lv_iload hx hb dX6_victimOf_24 (lv_at hl 0 rfl) ?_
          refine lv_iadd hx hb dX6_victimOf_26 ?_
          refine lv_aload_n hx hb dX6_victimOf_27 rfl (lv_at hl 2 rfl) ?_
          refine gf_X6_39 K hG rfl dX6_victimOf_28 ?_
          obtain ⟨ho18, hok⟩ := hok
          refine lv_irem hx hb dX6_victimOf_31 ho18 ?_
          refine lv_goto (tgt := 50) hx hb dX6_victimOf_32 (by decide) ?_
          refine lv_istore (lv' := [(5, .int ((x + (nI i)) - (x + (nI i)) / (I 2 11 0 1) * (I 2 11 0 1))), (4, .int (nI i)), (3, .int a), (0, .ref (gA E 2 11 0)), (1, .ref (gA E y 20 0)), (2, .int x)]) hx hb dX6_victimOf_50 hl (by decide) rfl (fun ls hl => ?_)
          refine lv_aload_n hx hb dX6_victimOf_52 rfl (lv_at hl 4 rfl) ?_
          refine gf_X6_49 K hG (gvs hy 20 rfl) dX6_victimOf_53 ?_
          refine lv_iload hx hb dX6_victimOf_56 (lv_at hl 0 rfl) ?_
          obtain ⟨ho19, hok⟩ := hok
          refine g_iald K hG (gvs hy 31 rfl) rfl (fun _ => rfl) ho19 dX6_victimOf_58 ?_
          refine lv_if_ne (tgt := 65) hx hb dX6_victimOf_59 (by decide) (fun c20 => ?_) (fun c20 => ?_)
          · have hok := hok.2 c20
            refine lv_iload_n hx hb dX6_victimOf_65 rfl (lv_at hl 2 rfl) ?_
            refine lv_iconst (v := (-1)) hx hb dX6_victimOf_66 (by decide) ?_
            refine lv_icmp_eq (tgt := 88) hx hb dX6_victimOf_67 (by decide) (fun c21 => ?_) (fun c21 => ?_)
            · have hok := hok.1 c21
              refine lv_iload hx hb dX6_victimOf_88 (lv_at hl 0 rfl) ?_
              refine lv_istore_n (lv' := [(3, .int ((x + (nI i)) - (x + (nI i)) / (I 2 11 0 1) * (I 2 11 0 1))), (5, .int ((x + (nI i)) - (x + (nI i)) / (I 2 11 0 1) * (I 2 11 0 1))), (4, .int (nI i)), (0, .ref (gA E 2 11 0)), (1, .ref (gA E y 20 0)), (2, .int x)]) hx hb dX6_victimOf_90 rfl hl (by decide) rfl (fun ls hl => ?_)
              refine lv_iinc (v := (nI (i + 1))) (lv' := [(4, .int (nI (i + 1))), (3, .int ((x + (nI i)) - (x + (nI i)) / (I 2 11 0 1) * (I 2 11 0 1))), (5, .int ((x + (nI i)) - (x + (nI i)) / (I 2 11 0 1) * (I 2 11 0 1))), (0, .ref (gA E 2 11 0)), (1, .ref (gA E y 20 0)), (2, .int x)]) hx hb dX6_victimOf_91 hl (k := 2) rfl (nI_add i 1) (by decide) rfl (fun ls hl => ?_)
              refine lv_goto (tgt := 5) hx hb dX6_victimOf_94 (by decide) ?_
              exact ih (i + 1) ((x + (nI i)) - (x + (nI i)) / (I 2 11 0 1) * (I 2 11 0 1)) _ _ _ (by omega) (by omega) (by rw [← hTv]; simp only [f_X6_victimOf_l1, if_neg c3, if_pos c5, if_neg c20, if_pos c21]) hok hG hS (lv_sub hl [0, 1, 3, 4, 5] rfl)
            · have hok := hok.2 c21
              refine lv_aload_n hx hb dX6_victimOf_70 rfl (lv_at hl 3 rfl) ?_
              refine lv_aload_n hx hb dX6_victimOf_71 rfl (lv_at hl 4 rfl) ?_
              refine lv_iload_n hx hb dX6_victimOf_72 rfl (lv_at hl 5 rfl) ?_
              refine lv_iload hx hb dX6_victimOf_73 (lv_at hl 0 rfl) ?_
              obtain ⟨ho22, hok⟩ := hok
              refine g_ki (g_runV (As := [.ref (gA E y 20 0), .int x, .int ((x + (nI i)) - (x + (nI i)) / (I 2 11 0 1) * (I 2 11 0 1))]) (rest := []) K hml ca_X6_rank q873 (m_X6_rank l E J I y x ((x + (nI i)) - (x + (nI i)) / (I 2 11 0 1) * (I 2 11 0 1)) hy ho22) hG hS rfl rfl rfl rfl rfl hl.1 (Nat.le_of_ble_eq_true rfl) ⟨by decide, by decide⟩ dX6_victimOf_75 ⟨Nat.zero_le _, Nat.zero_le _⟩) hS (fun H locs hG hS => ?_)
              refine lv_aload_n hx hb dX6_victimOf_78 rfl (lv_at hl 3 rfl) ?_
              refine lv_aload_n hx hb dX6_victimOf_79 rfl (lv_at hl 4 rfl) ?_
              refine lv_iload_n hx hb dX6_victimOf_80 rfl (lv_at hl 5 rfl) ?_
              refine lv_iload_n hx hb dX6_victimOf_81 rfl (lv_at hl 2 rfl) ?_
              obtain ⟨ho23, hok⟩ := hok
              refine g_ki (g_runV (As := [.ref (gA E y 20 0), .int x, .int a]) (rest := [.int (f_X6_rank I y x ((x + (nI i)) - (x + (nI i)) / (I 2 11 0 1) * (I 2 11 0 1)))]) K hml ca_X6_rank q873 (m_X6_rank l E J I y x a hy ho23) hG hS rfl rfl rfl rfl rfl hl.1 (Nat.le_of_ble_eq_true rfl) ⟨by decide, by decide⟩ dX6_victimOf_82 ⟨Nat.zero_le _, Nat.zero_le _⟩) hS (fun H locs hG hS => ?_)
              refine lv_icmp_le (tgt := 91) hx hb dX6_victimOf_85 (by decide) (fun c24 => ?_) (fun c24 => ?_)
              · have hok := hok.1 c24
                refine lv_iinc (v := (nI (i + 1))) (lv' := [(4, .int (nI (i + 1))), (5, .int ((x + (nI i)) - (x + (nI i)) / (I 2 11 0 1) * (I 2 11 0 1))), (3, .int a), (0, .ref (gA E 2 11 0)), (1, .ref (gA E y 20 0)), (2, .int x)]) hx hb dX6_victimOf_91 hl (k := 1) rfl (nI_add i 1) (by decide) rfl (fun ls hl => ?_)
                refine lv_goto (tgt := 5) hx hb dX6_victimOf_94 (by decide) ?_
                exact ih (i + 1) a _ _ _ (by omega) (by omega) (by rw [← hTv]; simp only [f_X6_victimOf_l1, if_neg c3, if_pos c5, if_neg c20, if_neg c21, if_pos c24]) hok hG hS (lv_sub hl [0, 2, 3, 4, 5] rfl)
              · have hok := hok.2 c24
                refine lv_iload hx hb dX6_victimOf_88 (lv_at hl 0 rfl) ?_
                refine lv_istore_n (lv' := [(3, .int ((x + (nI i)) - (x + (nI i)) / (I 2 11 0 1) * (I 2 11 0 1))), (5, .int ((x + (nI i)) - (x + (nI i)) / (I 2 11 0 1) * (I 2 11 0 1))), (4, .int (nI i)), (0, .ref (gA E 2 11 0)), (1, .ref (gA E y 20 0)), (2, .int x)]) hx hb dX6_victimOf_90 rfl hl (by decide) rfl (fun ls hl => ?_)
                refine lv_iinc (v := (nI (i + 1))) (lv' := [(4, .int (nI (i + 1))), (3, .int ((x + (nI i)) - (x + (nI i)) / (I 2 11 0 1) * (I 2 11 0 1))), (5, .int ((x + (nI i)) - (x + (nI i)) / (I 2 11 0 1) * (I 2 11 0 1))), (0, .ref (gA E 2 11 0)), (1, .ref (gA E y 20 0)), (2, .int x)]) hx hb dX6_victimOf_91 hl (k := 2) rfl (nI_add i 1) (by decide) rfl (fun ls hl => ?_)
                refine lv_goto (tgt := 5) hx hb dX6_victimOf_94 (by decide) ?_
                exact ih (i + 1) ((x + (nI i)) - (x + (nI i)) / (I 2 11 0 1) * (I 2 11 0 1)) _ _ _ (by omega) (by omega) (by rw [← hTv]; simp only [f_X6_victimOf_l1, if_neg c3, if_pos c5, if_neg c20, if_neg c21, if_neg c24]) hok hG hS (lv_sub hl [0, 1, 3, 4, 5] rfl)
          · have hok := hok.1 c20
            refine lv_goto (tgt := 91) hx hb dX6_victimOf_62 (by decide) ?_
            refine lv_iinc (v := (nI (i + 1))) (lv' := [(4, .int (nI (i + 1))), (5, .int ((x + (nI i)) - (x + (nI i)) / (I 2 11 0 1) * (I 2 11 0 1))), (3, .int a), (0, .ref (gA E 2 11 0)), (1, .ref (gA E y 20 0)), (2, .int x)]) hx hb dX6_victimOf_91 hl (k := 1) rfl (nI_add i 1) (by decide) rfl (fun ls hl => ?_)
            refine lv_goto (tgt := 5) hx hb dX6_victimOf_94 (by decide) ?_
            exact ih (i + 1) a _ _ _ (by omega) (by omega) (by rw [← hTv]; simp only [f_X6_victimOf_l1, if_neg c3, if_pos c5, if_pos c20]) hok hG hS (lv_sub hl [0, 2, 3, 4, 5] rfl)
  exact hL_l1 ((I 2 11 0 1).toNatClampNeg - 1) 1 (-1) _ _ _ (by omega) (Nat.le_refl 1) (by simp only [f_X6_victimOf]) hok hG hS (lv_sub hl [0, 1, 2, 3, 4] rfl)
def f_X6_inYard_l1 (y : Nat) : Nat → Nat → gI → Int32
  | 0, i, I =>
    (-1)
  | n + 1, i, I =>
    if (I y 33 0 i) = 0 then
      (nI i)
    else
      f_X6_inYard_l1 y n (i + 1) I
def ok_f_X6_inYard_l1 (y : Nat) : Nat → Nat → gI → Prop
  | 0, i, I =>
    True
  | n + 1, i, I =>
    (((I y 33 0 i) = 0) →
      True) ∧
    (¬ ((I y 33 0 i) = 0) →
      ok_f_X6_inYard_l1 y n (i + 1) I)
def ok_X6_inYard (I : gI) (y : Nat) : Prop :=
  isN (I 2 11 0 4) 10 ∧
  ok_f_X6_inYard_l1 y ((I 2 11 0 4).toNatClampNeg) 0 I
def f_X6_inYard (I : gI) (y : Nat) : Int32 :=
  f_X6_inYard_l1 y ((I 2 11 0 4).toNatClampNeg) 0 I
set_option maxHeartbeats 4000000 in
set_option maxRecDepth 100000 in
theorem m_X6_inYard (l : Launch) (E : gE) (J : Int64) (I : gI) (y : Nat) (hy : y = 3 ∨ y = 4) (hok : ok_X6_inYard I y) : gMi l E J yX6_inYard cX6_inYard 3 (some .int) 0 0 [.ref (gA E 2 11 0), .ref (gA E y 20 0)] I (f_X6_inYard I y) I := by
  refine g_entry (lv := [(0, .ref (gA E 2 11 0)), (1, .ref (gA E y 20 0))]) (by decide) (Nat.le_of_ble_eq_true rfl) rfl ?_
  intro p e s m below meth c0 ls K hG hS hml hr hlocks hl
  have K : kx E p m c0 cX6_inYard "HayThievesModel" _ s := K
  have hx := K.1
  have hb := K.2.1
  have hts := K.2.2.1
  have hown := K.2.2.2.1
  have hSt := K.2.2.2.2
  unfold ok_X6_inYard at hok
  refine lv_iconst (v := 0) hx hb dX6_inYard_0 (by decide) ?_
  refine lv_istore_n (lv' := [(2, .int 0), (0, .ref (gA E 2 11 0)), (1, .ref (gA E y 20 0))]) hx hb dX6_inYard_1 rfl hl (by decide) rfl (fun ls hl => ?_)
  obtain ⟨ho1, hok⟩ := hok
  have hNb := ho1.1
  have hL_l1 : ∀ (n i : Nat)  (H : Heap) (locs : List Loc) (ls : Array Slot), i + n = (I 2 11 0 4).toNatClampNeg → f_X6_inYard_l1 y n i I = f_X6_inYard I y → ok_f_X6_inYard_l1 y n i I → GW E J I H → va_S (gF E) s.heap H locs → lv_has ls 3 [(2, .int (nI i)), (0, .ref (gA E 2 11 0)), (1, .ref (gA E y 20 0))] → W p l e (grm 0 0) s m ([.ref (gA E 2 11 0), .ref (gA E y 20 0)] : List Value).toArray below meth c0 H locs 0 0 (MQ below (va_Qi (fun z9 (_ : Unit) => z9 = f_X6_inYard I y) (fun _ t => GW E J I t.heap) (gF E)) ([.ref (gA E 2 11 0), .ref (gA E y 20 0)] : List Value).toArray s 0 0 (gF E)) (F0 m 2 ls []) := by
    intro n
    induction n with
    | zero =>
      intro i H locs ls hin hTv hok hG hS hl
      unfold ok_f_X6_inYard_l1 at hok
      refine lv_iload_n hx hb dX6_inYard_2 rfl (lv_at hl 0 rfl) ?_
      refine lv_aload_n hx hb dX6_inYard_3 rfl (lv_at hl 1 rfl) ?_
      refine gf_X6_46 K hG rfl dX6_inYard_4 ?_
      refine lv_icmp_ge (tgt := 27) hx hb dX6_inYard_7 (by decide) (fun c2 => ?_) (fun c2 => ?_)
      · skip
        refine lv_iconst (v := (-1)) hx hb dX6_inYard_27 (by decide) ?_
        exact g_iret K hG hS hr hlocks (by rw [← hTv]; simp only [f_X6_inYard_l1, if_pos c2]) dX6_inYard_28
      · exact absurd (lp_ge ho1.2 (by omega) hin) c2
    | succ n ih =>
      intro i H locs ls hin hTv hok hG hS hl
      unfold ok_f_X6_inYard_l1 at hok
      refine lv_iload_n hx hb dX6_inYard_2 rfl (lv_at hl 0 rfl) ?_
      refine lv_aload_n hx hb dX6_inYard_3 rfl (lv_at hl 1 rfl) ?_
      refine gf_X6_46 K hG rfl dX6_inYard_4 ?_
      refine lv_icmp_ge (tgt := 27) hx hb dX6_inYard_7 (by decide) (fun c3 => ?_) (fun c3 => ?_)
      · exact absurd c3 (lp_nge ho1.2 (by omega) hin)
      · skip
        refine lv_aload_n hx hb dX6_inYard_10 rfl (lv_at hl 2 rfl) ?_
        refine gf_X6_63 K hG (gvs hy 20 rfl) dX6_inYard_11 ?_
        refine lv_iload_n hx hb dX6_inYard_14 rfl (lv_at hl 0 rfl) ?_
        refine g_iald K hG (gvs hy 33 rfl) rfl (fun _ => rfl) (vp_in_nI (Nat.lt_of_lt_of_le (show i < 10 by omega) (by decide)) (by decide)) dX6_inYard_15 ?_
        rw [nI_clamp (Nat.lt_trans (show i < 10 by omega) (by decide))]
        refine lv_if_ne (tgt := 21) hx hb dX6_inYard_16 (by decide) (fun c4 => ?_) (fun c4 => ?_)
        · have hok := hok.2 c4
          refine lv_iinc (v := (nI (i + 1))) (lv' := [(2, .int (nI (i + 1))), (0, .ref (gA E 2 11 0)), (1, .ref (gA E y 20 0))]) hx hb dX6_inYard_21 hl (k := 0) rfl (nI_add i 1) (by decide) rfl (fun ls hl => ?_)
          refine lv_goto (tgt := 2) hx hb dX6_inYard_24 (by decide) ?_
          exact ih (i + 1) _ _ _ (by omega) (by rw [← hTv]; simp only [f_X6_inYard_l1, if_neg c3, if_neg c4]) hok hG hS (lv_sub hl [0, 1, 2] rfl)
        · have hok := hok.1 c4
          refine lv_iload_n hx hb dX6_inYard_19 rfl (lv_at hl 0 rfl) ?_
          exact g_iret K hG hS hr hlocks (by rw [← hTv]; simp only [f_X6_inYard_l1, if_neg c3, if_pos c4]) dX6_inYard_20
  exact hL_l1 ((I 2 11 0 4).toNatClampNeg) 0 _ _ _ (Nat.zero_add _) (by simp only [f_X6_inYard]) hok hG hS (lv_sub hl [0, 1, 2] rfl)
def ok_X6_turn (I : gI) (y : Nat) (x b : Int32) : Prop :=
  vp_in x 6 ∧
  (((I y 25 0 x.toNatClampNeg) = 3) →
    True) ∧
  (¬ ((I y 25 0 x.toNatClampNeg) = 3) →
    (((I y 25 0 x.toNatClampNeg) = 2) →
      ∀ I36, I36 = gU I y 20 0 3 ((I y 20 0 3) + 1) →
      ∀ I37, I37 = gU I36 y 27 0 x.toNatClampNeg 0 →
      ok_X5_finish I37 y x (I37 y 26 0 x.toNatClampNeg) ∧
      ∀ I38, I38 = f_X5_finish I37 y x (I37 y 26 0 x.toNatClampNeg) →
      True) ∧
    (¬ ((I y 25 0 x.toNatClampNeg) = 2) →
      (((I y 25 0 x.toNatClampNeg) = 0) →
        (((I y 31 0 x.toNatClampNeg) ≤ 0) →
          (((I y 25 0 x.toNatClampNeg) = 1) →
            ∀ I18, I18 = gU I y 27 0 x.toNatClampNeg 0 →
            vp_in (I y 26 0 x.toNatClampNeg) 600 ∧
            (((I18 y 41 0 ((I y 26 0 x.toNatClampNeg).toNatClampNeg)) = (I18 y 40 0 ((I y 26 0 x.toNatClampNeg).toNatClampNeg))) →
              (((I18 y 40 0 ((I y 26 0 x.toNatClampNeg).toNatClampNeg)) ≤ b) →
                ok_X5_pitch I18 y x (I y 26 0 x.toNatClampNeg) (I18 2 12 0 x.toNatClampNeg) ∧
                ∀ I20, I20 = f_X5_pitch I18 y x (I y 26 0 x.toNatClampNeg) (I18 2 12 0 x.toNatClampNeg) →
                True) ∧
              (¬ ((I18 y 40 0 ((I y 26 0 x.toNatClampNeg).toNatClampNeg)) ≤ b) →
                ((8 ≤ (I18 y 31 0 x.toNatClampNeg)) →
                  ok_X5_pitch I18 y x (I y 26 0 x.toNatClampNeg) (I18 2 12 0 x.toNatClampNeg) ∧
                  ∀ I21, I21 = f_X5_pitch I18 y x (I y 26 0 x.toNatClampNeg) (I18 2 12 0 x.toNatClampNeg) →
                  True) ∧
                (¬ (8 ≤ (I18 y 31 0 x.toNatClampNeg)) →
                  ok_X5_forkIt I18 y x (I y 26 0 x.toNatClampNeg) ∧
                  ∀ I22, I22 = f_X5_forkIt I18 y x (I y 26 0 x.toNatClampNeg) →
                  True))) ∧
            (¬ ((I18 y 41 0 ((I y 26 0 x.toNatClampNeg).toNatClampNeg)) = (I18 y 40 0 ((I y 26 0 x.toNatClampNeg).toNatClampNeg))) →
              ok_X5_pitch I18 y x (I y 26 0 x.toNatClampNeg) (I18 2 12 0 x.toNatClampNeg) ∧
              ∀ I19, I19 = f_X5_pitch I18 y x (I y 26 0 x.toNatClampNeg) (I18 2 12 0 x.toNatClampNeg) →
              True)) ∧
          (¬ ((I y 25 0 x.toNatClampNeg) = 1) →
            ok_X6_inYard I y ∧
            ok_X6_victimOf I y x ∧
            (((f_X6_inYard I y) = (-1)) →
              (((f_X6_victimOf I y x) = (-1)) →
                ok_X5_rest I y x ∧
                ∀ I17, I17 = f_X5_rest I y x →
                True) ∧
              (¬ ((f_X6_victimOf I y x) = (-1)) →
                ∀ I15, I15 = gU I y 27 0 x.toNatClampNeg 0 →
                ok_X5_steal I15 y x (f_X6_victimOf I y x) ∧
                ∀ I16, I16 = f_X5_steal I15 y x (f_X6_victimOf I y x) →
                True)) ∧
            (¬ ((f_X6_inYard I y) = (-1)) →
              ∀ I12, I12 = gU I y 27 0 x.toNatClampNeg 0 →
              vp_in (f_X6_inYard I y) 10 ∧
              ∀ I13, I13 = gU I12 y 33 0 ((f_X6_inYard I y).toNatClampNeg) 1 →
              ok_X5_hold I13 y x (I13 y 34 0 ((f_X6_inYard I y).toNatClampNeg)) ∧
              ∀ I14, I14 = f_X5_hold I13 y x (I13 y 34 0 ((f_X6_inYard I y).toNatClampNeg)) →
              True))) ∧
        (¬ ((I y 31 0 x.toNatClampNeg) ≤ 0) →
          ok_X5_takeNear I y x ∧
          ∀ I23, I23 = f_X5_takeNear_s I y x →
          ok_X5_hold I23 y x (f_X5_takeNear_v I y x) ∧
          ∀ I24, I24 = f_X5_hold I23 y x (f_X5_takeNear_v I y x) →
          (((I24 y 25 0 x.toNatClampNeg) = 1) →
            ∀ I31, I31 = gU I24 y 27 0 x.toNatClampNeg 0 →
            vp_in (I24 y 26 0 x.toNatClampNeg) 600 ∧
            (((I31 y 41 0 ((I24 y 26 0 x.toNatClampNeg).toNatClampNeg)) = (I31 y 40 0 ((I24 y 26 0 x.toNatClampNeg).toNatClampNeg))) →
              (((I31 y 40 0 ((I24 y 26 0 x.toNatClampNeg).toNatClampNeg)) ≤ b) →
                ok_X5_pitch I31 y x (I24 y 26 0 x.toNatClampNeg) (I31 2 12 0 x.toNatClampNeg) ∧
                ∀ I33, I33 = f_X5_pitch I31 y x (I24 y 26 0 x.toNatClampNeg) (I31 2 12 0 x.toNatClampNeg) →
                True) ∧
              (¬ ((I31 y 40 0 ((I24 y 26 0 x.toNatClampNeg).toNatClampNeg)) ≤ b) →
                ((8 ≤ (I31 y 31 0 x.toNatClampNeg)) →
                  ok_X5_pitch I31 y x (I24 y 26 0 x.toNatClampNeg) (I31 2 12 0 x.toNatClampNeg) ∧
                  ∀ I34, I34 = f_X5_pitch I31 y x (I24 y 26 0 x.toNatClampNeg) (I31 2 12 0 x.toNatClampNeg) →
                  True) ∧
                (¬ (8 ≤ (I31 y 31 0 x.toNatClampNeg)) →
                  ok_X5_forkIt I31 y x (I24 y 26 0 x.toNatClampNeg) ∧
                  ∀ I35, I35 = f_X5_forkIt I31 y x (I24 y 26 0 x.toNatClampNeg) →
                  True))) ∧
            (¬ ((I31 y 41 0 ((I24 y 26 0 x.toNatClampNeg).toNatClampNeg)) = (I31 y 40 0 ((I24 y 26 0 x.toNatClampNeg).toNatClampNeg))) →
              ok_X5_pitch I31 y x (I24 y 26 0 x.toNatClampNeg) (I31 2 12 0 x.toNatClampNeg) ∧
              ∀ I32, I32 = f_X5_pitch I31 y x (I24 y 26 0 x.toNatClampNeg) (I31 2 12 0 x.toNatClampNeg) →
              True)) ∧
          (¬ ((I24 y 25 0 x.toNatClampNeg) = 1) →
            ok_X6_inYard I24 y ∧
            ok_X6_victimOf I24 y x ∧
            (((f_X6_inYard I24 y) = (-1)) →
              (((f_X6_victimOf I24 y x) = (-1)) →
                ok_X5_rest I24 y x ∧
                ∀ I30, I30 = f_X5_rest I24 y x →
                True) ∧
              (¬ ((f_X6_victimOf I24 y x) = (-1)) →
                ∀ I28, I28 = gU I24 y 27 0 x.toNatClampNeg 0 →
                ok_X5_steal I28 y x (f_X6_victimOf I24 y x) ∧
                ∀ I29, I29 = f_X5_steal I28 y x (f_X6_victimOf I24 y x) →
                True)) ∧
            (¬ ((f_X6_inYard I24 y) = (-1)) →
              ∀ I25, I25 = gU I24 y 27 0 x.toNatClampNeg 0 →
              vp_in (f_X6_inYard I24 y) 10 ∧
              ∀ I26, I26 = gU I25 y 33 0 ((f_X6_inYard I24 y).toNatClampNeg) 1 →
              ok_X5_hold I26 y x (I26 y 34 0 ((f_X6_inYard I24 y).toNatClampNeg)) ∧
              ∀ I27, I27 = f_X5_hold I26 y x (I26 y 34 0 ((f_X6_inYard I24 y).toNatClampNeg)) →
              True)))) ∧
      (¬ ((I y 25 0 x.toNatClampNeg) = 0) →
        (((I y 25 0 x.toNatClampNeg) = 1) →
          ∀ I7, I7 = gU I y 27 0 x.toNatClampNeg 0 →
          vp_in (I y 26 0 x.toNatClampNeg) 600 ∧
          (((I7 y 41 0 ((I y 26 0 x.toNatClampNeg).toNatClampNeg)) = (I7 y 40 0 ((I y 26 0 x.toNatClampNeg).toNatClampNeg))) →
            (((I7 y 40 0 ((I y 26 0 x.toNatClampNeg).toNatClampNeg)) ≤ b) →
              ok_X5_pitch I7 y x (I y 26 0 x.toNatClampNeg) (I7 2 12 0 x.toNatClampNeg) ∧
              ∀ I9, I9 = f_X5_pitch I7 y x (I y 26 0 x.toNatClampNeg) (I7 2 12 0 x.toNatClampNeg) →
              True) ∧
            (¬ ((I7 y 40 0 ((I y 26 0 x.toNatClampNeg).toNatClampNeg)) ≤ b) →
              ((8 ≤ (I7 y 31 0 x.toNatClampNeg)) →
                ok_X5_pitch I7 y x (I y 26 0 x.toNatClampNeg) (I7 2 12 0 x.toNatClampNeg) ∧
                ∀ I10, I10 = f_X5_pitch I7 y x (I y 26 0 x.toNatClampNeg) (I7 2 12 0 x.toNatClampNeg) →
                True) ∧
              (¬ (8 ≤ (I7 y 31 0 x.toNatClampNeg)) →
                ok_X5_forkIt I7 y x (I y 26 0 x.toNatClampNeg) ∧
                ∀ I11, I11 = f_X5_forkIt I7 y x (I y 26 0 x.toNatClampNeg) →
                True))) ∧
          (¬ ((I7 y 41 0 ((I y 26 0 x.toNatClampNeg).toNatClampNeg)) = (I7 y 40 0 ((I y 26 0 x.toNatClampNeg).toNatClampNeg))) →
            ok_X5_pitch I7 y x (I y 26 0 x.toNatClampNeg) (I7 2 12 0 x.toNatClampNeg) ∧
            ∀ I8, I8 = f_X5_pitch I7 y x (I y 26 0 x.toNatClampNeg) (I7 2 12 0 x.toNatClampNeg) →
            True)) ∧
        (¬ ((I y 25 0 x.toNatClampNeg) = 1) →
          ok_X6_inYard I y ∧
          ok_X6_victimOf I y x ∧
          (((f_X6_inYard I y) = (-1)) →
            (((f_X6_victimOf I y x) = (-1)) →
              ok_X5_rest I y x ∧
              ∀ I6, I6 = f_X5_rest I y x →
              True) ∧
            (¬ ((f_X6_victimOf I y x) = (-1)) →
              ∀ I4, I4 = gU I y 27 0 x.toNatClampNeg 0 →
              ok_X5_steal I4 y x (f_X6_victimOf I y x) ∧
              ∀ I5, I5 = f_X5_steal I4 y x (f_X6_victimOf I y x) →
              True)) ∧
          (¬ ((f_X6_inYard I y) = (-1)) →
            ∀ I1, I1 = gU I y 27 0 x.toNatClampNeg 0 →
            vp_in (f_X6_inYard I y) 10 ∧
            ∀ I2, I2 = gU I1 y 33 0 ((f_X6_inYard I y).toNatClampNeg) 1 →
            ok_X5_hold I2 y x (I2 y 34 0 ((f_X6_inYard I y).toNatClampNeg)) ∧
            ∀ I3, I3 = f_X5_hold I2 y x (I2 y 34 0 ((f_X6_inYard I y).toNatClampNeg)) →
            True)))))
def f_X6_turn (I : gI) (y : Nat) (x b : Int32) : gI :=
  if (I y 25 0 x.toNatClampNeg) = 3 then
    I
  else
    if (I y 25 0 x.toNatClampNeg) = 2 then
      let I36 := gU I y 20 0 3 ((I y 20 0 3) + 1)
      let I37 := gU I36 y 27 0 x.toNatClampNeg 0
      let I38 := f_X5_finish I37 y x (I37 y 26 0 x.toNatClampNeg)
      I38
    else
      if (I y 25 0 x.toNatClampNeg) = 0 then
        if (I y 31 0 x.toNatClampNeg) ≤ 0 then
          if (I y 25 0 x.toNatClampNeg) = 1 then
            let I18 := gU I y 27 0 x.toNatClampNeg 0
            if (I18 y 41 0 ((I y 26 0 x.toNatClampNeg).toNatClampNeg)) = (I18 y 40 0 ((I y 26 0 x.toNatClampNeg).toNatClampNeg)) then
              if (I18 y 40 0 ((I y 26 0 x.toNatClampNeg).toNatClampNeg)) ≤ b then
                let I20 := f_X5_pitch I18 y x (I y 26 0 x.toNatClampNeg) (I18 2 12 0 x.toNatClampNeg)
                I20
              else
                if 8 ≤ (I18 y 31 0 x.toNatClampNeg) then
                  let I21 := f_X5_pitch I18 y x (I y 26 0 x.toNatClampNeg) (I18 2 12 0 x.toNatClampNeg)
                  I21
                else
                  let I22 := f_X5_forkIt I18 y x (I y 26 0 x.toNatClampNeg)
                  I22
            else
              let I19 := f_X5_pitch I18 y x (I y 26 0 x.toNatClampNeg) (I18 2 12 0 x.toNatClampNeg)
              I19
          else
            if (f_X6_inYard I y) = (-1) then
              if (f_X6_victimOf I y x) = (-1) then
                let I17 := f_X5_rest I y x
                I17
              else
                let I15 := gU I y 27 0 x.toNatClampNeg 0
                let I16 := f_X5_steal I15 y x (f_X6_victimOf I y x)
                I16
            else
              let I12 := gU I y 27 0 x.toNatClampNeg 0
              let I13 := gU I12 y 33 0 ((f_X6_inYard I y).toNatClampNeg) 1
              let I14 := f_X5_hold I13 y x (I13 y 34 0 ((f_X6_inYard I y).toNatClampNeg))
              I14
        else
          let I23 := f_X5_takeNear_s I y x
          let I24 := f_X5_hold I23 y x (f_X5_takeNear_v I y x)
          if (I24 y 25 0 x.toNatClampNeg) = 1 then
            let I31 := gU I24 y 27 0 x.toNatClampNeg 0
            if (I31 y 41 0 ((I24 y 26 0 x.toNatClampNeg).toNatClampNeg)) = (I31 y 40 0 ((I24 y 26 0 x.toNatClampNeg).toNatClampNeg)) then
              if (I31 y 40 0 ((I24 y 26 0 x.toNatClampNeg).toNatClampNeg)) ≤ b then
                let I33 := f_X5_pitch I31 y x (I24 y 26 0 x.toNatClampNeg) (I31 2 12 0 x.toNatClampNeg)
                I33
              else
                if 8 ≤ (I31 y 31 0 x.toNatClampNeg) then
                  let I34 := f_X5_pitch I31 y x (I24 y 26 0 x.toNatClampNeg) (I31 2 12 0 x.toNatClampNeg)
                  I34
                else
                  let I35 := f_X5_forkIt I31 y x (I24 y 26 0 x.toNatClampNeg)
                  I35
            else
              let I32 := f_X5_pitch I31 y x (I24 y 26 0 x.toNatClampNeg) (I31 2 12 0 x.toNatClampNeg)
              I32
          else
            if (f_X6_inYard I24 y) = (-1) then
              if (f_X6_victimOf I24 y x) = (-1) then
                let I30 := f_X5_rest I24 y x
                I30
              else
                let I28 := gU I24 y 27 0 x.toNatClampNeg 0
                let I29 := f_X5_steal I28 y x (f_X6_victimOf I24 y x)
                I29
            else
              let I25 := gU I24 y 27 0 x.toNatClampNeg 0
              let I26 := gU I25 y 33 0 ((f_X6_inYard I24 y).toNatClampNeg) 1
              let I27 := f_X5_hold I26 y x (I26 y 34 0 ((f_X6_inYard I24 y).toNatClampNeg))
              I27
      else
        if (I y 25 0 x.toNatClampNeg) = 1 then
          let I7 := gU I y 27 0 x.toNatClampNeg 0
          if (I7 y 41 0 ((I y 26 0 x.toNatClampNeg).toNatClampNeg)) = (I7 y 40 0 ((I y 26 0 x.toNatClampNeg).toNatClampNeg)) then
            if (I7 y 40 0 ((I y 26 0 x.toNatClampNeg).toNatClampNeg)) ≤ b then
              let I9 := f_X5_pitch I7 y x (I y 26 0 x.toNatClampNeg) (I7 2 12 0 x.toNatClampNeg)
              I9
            else
              if 8 ≤ (I7 y 31 0 x.toNatClampNeg) then
                let I10 := f_X5_pitch I7 y x (I y 26 0 x.toNatClampNeg) (I7 2 12 0 x.toNatClampNeg)
                I10
              else
                let I11 := f_X5_forkIt I7 y x (I y 26 0 x.toNatClampNeg)
                I11
          else
            let I8 := f_X5_pitch I7 y x (I y 26 0 x.toNatClampNeg) (I7 2 12 0 x.toNatClampNeg)
            I8
        else
          if (f_X6_inYard I y) = (-1) then
            if (f_X6_victimOf I y x) = (-1) then
              let I6 := f_X5_rest I y x
              I6
            else
              let I4 := gU I y 27 0 x.toNatClampNeg 0
              let I5 := f_X5_steal I4 y x (f_X6_victimOf I y x)
              I5
          else
            let I1 := gU I y 27 0 x.toNatClampNeg 0
            let I2 := gU I1 y 33 0 ((f_X6_inYard I y).toNatClampNeg) 1
            let I3 := f_X5_hold I2 y x (I2 y 34 0 ((f_X6_inYard I y).toNatClampNeg))
            I3
set_option maxRecDepth 100000 in
theorem ne_X6_turn (I : gI) (y : Nat) (x b : Int32) (hy : y = 3 ∨ y = 4) {y' : Nat} (hne : y' ≠ y) : f_X6_turn I y x b y' = I y' := by
  have hn : I y' = I y' := rfl
  by_cases c2 : (I y 25 0 x.toNatClampNeg) = 3
  · have eS : f_X6_turn I y x b = I := by simp only [f_X6_turn, if_pos c2]
    exact (congrFun eS y').trans hn
  · by_cases c3 : (I y 25 0 x.toNatClampNeg) = 2
    · obtain ⟨I36, hI36⟩ : ∃ z, z = gU I y 20 0 3 ((I y 20 0 3) + 1) := ⟨_, rfl⟩
      have hn36 : I36 y' = I y' := by rw [hI36]; exact (gU_ne _ _ _ _ _ hne).trans hn
      obtain ⟨I37, hI37⟩ : ∃ z, z = gU I36 y 27 0 x.toNatClampNeg 0 := ⟨_, rfl⟩
      have hn37 : I37 y' = I y' := by rw [hI37]; exact (gU_ne _ _ _ _ _ hne).trans hn36
      obtain ⟨I38, hI38⟩ : ∃ z, z = f_X5_finish I37 y x (I37 y 26 0 x.toNatClampNeg) := ⟨_, rfl⟩
      have hn38 : I38 y' = I y' := by rw [hI38]; exact (ne_X5_finish I37 y x (I37 y 26 0 x.toNatClampNeg) hy (y' := y') hne).trans hn37
      have eS : f_X6_turn I y x b = I38 := by simp only [f_X6_turn, ← hI36, ← hI37, ← hI38, if_neg c2, if_pos c3]
      exact (congrFun eS y').trans hn38
    · by_cases c4 : (I y 25 0 x.toNatClampNeg) = 0
      · by_cases c24 : (I y 31 0 x.toNatClampNeg) ≤ 0
        · by_cases c25 : (I y 25 0 x.toNatClampNeg) = 1
          · obtain ⟨I18, hI18⟩ : ∃ z, z = gU I y 27 0 x.toNatClampNeg 0 := ⟨_, rfl⟩
            have hn18 : I18 y' = I y' := by rw [hI18]; exact (gU_ne _ _ _ _ _ hne).trans hn
            by_cases c37 : (I18 y 41 0 ((I y 26 0 x.toNatClampNeg).toNatClampNeg)) = (I18 y 40 0 ((I y 26 0 x.toNatClampNeg).toNatClampNeg))
            · by_cases c39 : (I18 y 40 0 ((I y 26 0 x.toNatClampNeg).toNatClampNeg)) ≤ b
              · obtain ⟨I20, hI20⟩ : ∃ z, z = f_X5_pitch I18 y x (I y 26 0 x.toNatClampNeg) (I18 2 12 0 x.toNatClampNeg) := ⟨_, rfl⟩
                have hn20 : I20 y' = I y' := by rw [hI20]; exact (ne_X5_pitch I18 y x (I y 26 0 x.toNatClampNeg) (I18 2 12 0 x.toNatClampNeg) hy (y' := y') hne).trans hn18
                have eS : f_X6_turn I y x b = I20 := by simp only [f_X6_turn, ← hI18, ← hI20, if_neg c2, if_neg c3, if_pos c4, if_pos c24, if_pos c25, if_pos c37, if_pos c39]
                exact (congrFun eS y').trans hn20
              · by_cases c41 : 8 ≤ (I18 y 31 0 x.toNatClampNeg)
                · obtain ⟨I21, hI21⟩ : ∃ z, z = f_X5_pitch I18 y x (I y 26 0 x.toNatClampNeg) (I18 2 12 0 x.toNatClampNeg) := ⟨_, rfl⟩
                  have hn21 : I21 y' = I y' := by rw [hI21]; exact (ne_X5_pitch I18 y x (I y 26 0 x.toNatClampNeg) (I18 2 12 0 x.toNatClampNeg) hy (y' := y') hne).trans hn18
                  have eS : f_X6_turn I y x b = I21 := by simp only [f_X6_turn, ← hI18, ← hI21, if_neg c2, if_neg c3, if_pos c4, if_pos c24, if_pos c25, if_pos c37, if_neg c39, if_pos c41]
                  exact (congrFun eS y').trans hn21
                · obtain ⟨I22, hI22⟩ : ∃ z, z = f_X5_forkIt I18 y x (I y 26 0 x.toNatClampNeg) := ⟨_, rfl⟩
                  have hn22 : I22 y' = I y' := by rw [hI22]; exact (ne_X5_forkIt I18 y x (I y 26 0 x.toNatClampNeg) hy (y' := y') hne).trans hn18
                  have eS : f_X6_turn I y x b = I22 := by simp only [f_X6_turn, ← hI18, ← hI22, if_neg c2, if_neg c3, if_pos c4, if_pos c24, if_pos c25, if_pos c37, if_neg c39, if_neg c41]
                  exact (congrFun eS y').trans hn22
            · obtain ⟨I19, hI19⟩ : ∃ z, z = f_X5_pitch I18 y x (I y 26 0 x.toNatClampNeg) (I18 2 12 0 x.toNatClampNeg) := ⟨_, rfl⟩
              have hn19 : I19 y' = I y' := by rw [hI19]; exact (ne_X5_pitch I18 y x (I y 26 0 x.toNatClampNeg) (I18 2 12 0 x.toNatClampNeg) hy (y' := y') hne).trans hn18
              have eS : f_X6_turn I y x b = I19 := by simp only [f_X6_turn, ← hI18, ← hI19, if_neg c2, if_neg c3, if_pos c4, if_pos c24, if_pos c25, if_neg c37]
              exact (congrFun eS y').trans hn19
          · by_cases c28 : (f_X6_inYard I y) = (-1)
            · by_cases c32 : (f_X6_victimOf I y x) = (-1)
              · obtain ⟨I17, hI17⟩ : ∃ z, z = f_X5_rest I y x := ⟨_, rfl⟩
                have hn17 : I17 y' = I y' := by rw [hI17]; exact (ne_X5_rest I y x hy (y' := y') hne).trans hn
                have eS : f_X6_turn I y x b = I17 := by simp only [f_X6_turn, ← hI17, if_neg c2, if_neg c3, if_pos c4, if_pos c24, if_neg c25, if_pos c28, if_pos c32]
                exact (congrFun eS y').trans hn17
              · obtain ⟨I15, hI15⟩ : ∃ z, z = gU I y 27 0 x.toNatClampNeg 0 := ⟨_, rfl⟩
                have hn15 : I15 y' = I y' := by rw [hI15]; exact (gU_ne _ _ _ _ _ hne).trans hn
                obtain ⟨I16, hI16⟩ : ∃ z, z = f_X5_steal I15 y x (f_X6_victimOf I y x) := ⟨_, rfl⟩
                have hn16 : I16 y' = I y' := by rw [hI16]; exact (ne_X5_steal I15 y x (f_X6_victimOf I y x) hy (y' := y') hne).trans hn15
                have eS : f_X6_turn I y x b = I16 := by simp only [f_X6_turn, ← hI15, ← hI16, if_neg c2, if_neg c3, if_pos c4, if_pos c24, if_neg c25, if_pos c28, if_neg c32]
                exact (congrFun eS y').trans hn16
            · obtain ⟨I12, hI12⟩ : ∃ z, z = gU I y 27 0 x.toNatClampNeg 0 := ⟨_, rfl⟩
              have hn12 : I12 y' = I y' := by rw [hI12]; exact (gU_ne _ _ _ _ _ hne).trans hn
              obtain ⟨I13, hI13⟩ : ∃ z, z = gU I12 y 33 0 ((f_X6_inYard I y).toNatClampNeg) 1 := ⟨_, rfl⟩
              have hn13 : I13 y' = I y' := by rw [hI13]; exact (gU_ne _ _ _ _ _ hne).trans hn12
              obtain ⟨I14, hI14⟩ : ∃ z, z = f_X5_hold I13 y x (I13 y 34 0 ((f_X6_inYard I y).toNatClampNeg)) := ⟨_, rfl⟩
              have hn14 : I14 y' = I y' := by rw [hI14]; exact (ne_X5_hold I13 y x (I13 y 34 0 ((f_X6_inYard I y).toNatClampNeg)) hy (y' := y') hne).trans hn13
              have eS : f_X6_turn I y x b = I14 := by simp only [f_X6_turn, ← hI12, ← hI13, ← hI14, if_neg c2, if_neg c3, if_pos c4, if_pos c24, if_neg c25, if_neg c28]
              exact (congrFun eS y').trans hn14
        · obtain ⟨I23, hI23⟩ : ∃ z, z = f_X5_takeNear_s I y x := ⟨_, rfl⟩
          have hn23 : I23 y' = I y' := by rw [hI23]; exact (ne_X5_takeNear I y x hy (y' := y') hne).trans hn
          obtain ⟨I24, hI24⟩ : ∃ z, z = f_X5_hold I23 y x (f_X5_takeNear_v I y x) := ⟨_, rfl⟩
          have hn24 : I24 y' = I y' := by rw [hI24]; exact (ne_X5_hold I23 y x (f_X5_takeNear_v I y x) hy (y' := y') hne).trans hn23
          by_cases c46 : (I24 y 25 0 x.toNatClampNeg) = 1
          · obtain ⟨I31, hI31⟩ : ∃ z, z = gU I24 y 27 0 x.toNatClampNeg 0 := ⟨_, rfl⟩
            have hn31 : I31 y' = I y' := by rw [hI31]; exact (gU_ne _ _ _ _ _ hne).trans hn24
            by_cases c58 : (I31 y 41 0 ((I24 y 26 0 x.toNatClampNeg).toNatClampNeg)) = (I31 y 40 0 ((I24 y 26 0 x.toNatClampNeg).toNatClampNeg))
            · by_cases c60 : (I31 y 40 0 ((I24 y 26 0 x.toNatClampNeg).toNatClampNeg)) ≤ b
              · obtain ⟨I33, hI33⟩ : ∃ z, z = f_X5_pitch I31 y x (I24 y 26 0 x.toNatClampNeg) (I31 2 12 0 x.toNatClampNeg) := ⟨_, rfl⟩
                have hn33 : I33 y' = I y' := by rw [hI33]; exact (ne_X5_pitch I31 y x (I24 y 26 0 x.toNatClampNeg) (I31 2 12 0 x.toNatClampNeg) hy (y' := y') hne).trans hn31
                have eS : f_X6_turn I y x b = I33 := by simp only [f_X6_turn, ← hI23, ← hI24, ← hI31, ← hI33, if_neg c2, if_neg c3, if_pos c4, if_neg c24, if_pos c46, if_pos c58, if_pos c60]
                exact (congrFun eS y').trans hn33
              · by_cases c62 : 8 ≤ (I31 y 31 0 x.toNatClampNeg)
                · obtain ⟨I34, hI34⟩ : ∃ z, z = f_X5_pitch I31 y x (I24 y 26 0 x.toNatClampNeg) (I31 2 12 0 x.toNatClampNeg) := ⟨_, rfl⟩
                  have hn34 : I34 y' = I y' := by rw [hI34]; exact (ne_X5_pitch I31 y x (I24 y 26 0 x.toNatClampNeg) (I31 2 12 0 x.toNatClampNeg) hy (y' := y') hne).trans hn31
                  have eS : f_X6_turn I y x b = I34 := by simp only [f_X6_turn, ← hI23, ← hI24, ← hI31, ← hI34, if_neg c2, if_neg c3, if_pos c4, if_neg c24, if_pos c46, if_pos c58, if_neg c60, if_pos c62]
                  exact (congrFun eS y').trans hn34
                · obtain ⟨I35, hI35⟩ : ∃ z, z = f_X5_forkIt I31 y x (I24 y 26 0 x.toNatClampNeg) := ⟨_, rfl⟩
                  have hn35 : I35 y' = I y' := by rw [hI35]; exact (ne_X5_forkIt I31 y x (I24 y 26 0 x.toNatClampNeg) hy (y' := y') hne).trans hn31
                  have eS : f_X6_turn I y x b = I35 := by simp only [f_X6_turn, ← hI23, ← hI24, ← hI31, ← hI35, if_neg c2, if_neg c3, if_pos c4, if_neg c24, if_pos c46, if_pos c58, if_neg c60, if_neg c62]
                  exact (congrFun eS y').trans hn35
            · obtain ⟨I32, hI32⟩ : ∃ z, z = f_X5_pitch I31 y x (I24 y 26 0 x.toNatClampNeg) (I31 2 12 0 x.toNatClampNeg) := ⟨_, rfl⟩
              have hn32 : I32 y' = I y' := by rw [hI32]; exact (ne_X5_pitch I31 y x (I24 y 26 0 x.toNatClampNeg) (I31 2 12 0 x.toNatClampNeg) hy (y' := y') hne).trans hn31
              have eS : f_X6_turn I y x b = I32 := by simp only [f_X6_turn, ← hI23, ← hI24, ← hI31, ← hI32, if_neg c2, if_neg c3, if_pos c4, if_neg c24, if_pos c46, if_neg c58]
              exact (congrFun eS y').trans hn32
          · by_cases c49 : (f_X6_inYard I24 y) = (-1)
            · by_cases c53 : (f_X6_victimOf I24 y x) = (-1)
              · obtain ⟨I30, hI30⟩ : ∃ z, z = f_X5_rest I24 y x := ⟨_, rfl⟩
                have hn30 : I30 y' = I y' := by rw [hI30]; exact (ne_X5_rest I24 y x hy (y' := y') hne).trans hn24
                have eS : f_X6_turn I y x b = I30 := by simp only [f_X6_turn, ← hI23, ← hI24, ← hI30, if_neg c2, if_neg c3, if_pos c4, if_neg c24, if_neg c46, if_pos c49, if_pos c53]
                exact (congrFun eS y').trans hn30
              · obtain ⟨I28, hI28⟩ : ∃ z, z = gU I24 y 27 0 x.toNatClampNeg 0 := ⟨_, rfl⟩
                have hn28 : I28 y' = I y' := by rw [hI28]; exact (gU_ne _ _ _ _ _ hne).trans hn24
                obtain ⟨I29, hI29⟩ : ∃ z, z = f_X5_steal I28 y x (f_X6_victimOf I24 y x) := ⟨_, rfl⟩
                have hn29 : I29 y' = I y' := by rw [hI29]; exact (ne_X5_steal I28 y x (f_X6_victimOf I24 y x) hy (y' := y') hne).trans hn28
                have eS : f_X6_turn I y x b = I29 := by simp only [f_X6_turn, ← hI23, ← hI24, ← hI28, ← hI29, if_neg c2, if_neg c3, if_pos c4, if_neg c24, if_neg c46, if_pos c49, if_neg c53]
                exact (congrFun eS y').trans hn29
            · obtain ⟨I25, hI25⟩ : ∃ z, z = gU I24 y 27 0 x.toNatClampNeg 0 := ⟨_, rfl⟩
              have hn25 : I25 y' = I y' := by rw [hI25]; exact (gU_ne _ _ _ _ _ hne).trans hn24
              obtain ⟨I26, hI26⟩ : ∃ z, z = gU I25 y 33 0 ((f_X6_inYard I24 y).toNatClampNeg) 1 := ⟨_, rfl⟩
              have hn26 : I26 y' = I y' := by rw [hI26]; exact (gU_ne _ _ _ _ _ hne).trans hn25
              obtain ⟨I27, hI27⟩ : ∃ z, z = f_X5_hold I26 y x (I26 y 34 0 ((f_X6_inYard I24 y).toNatClampNeg)) := ⟨_, rfl⟩
              have hn27 : I27 y' = I y' := by rw [hI27]; exact (ne_X5_hold I26 y x (I26 y 34 0 ((f_X6_inYard I24 y).toNatClampNeg)) hy (y' := y') hne).trans hn26
              have eS : f_X6_turn I y x b = I27 := by simp only [f_X6_turn, ← hI23, ← hI24, ← hI25, ← hI26, ← hI27, if_neg c2, if_neg c3, if_pos c4, if_neg c24, if_neg c46, if_neg c49]
              exact (congrFun eS y').trans hn27
      · by_cases c5 : (I y 25 0 x.toNatClampNeg) = 1
        · obtain ⟨I7, hI7⟩ : ∃ z, z = gU I y 27 0 x.toNatClampNeg 0 := ⟨_, rfl⟩
          have hn7 : I7 y' = I y' := by rw [hI7]; exact (gU_ne _ _ _ _ _ hne).trans hn
          by_cases c17 : (I7 y 41 0 ((I y 26 0 x.toNatClampNeg).toNatClampNeg)) = (I7 y 40 0 ((I y 26 0 x.toNatClampNeg).toNatClampNeg))
          · by_cases c19 : (I7 y 40 0 ((I y 26 0 x.toNatClampNeg).toNatClampNeg)) ≤ b
            · obtain ⟨I9, hI9⟩ : ∃ z, z = f_X5_pitch I7 y x (I y 26 0 x.toNatClampNeg) (I7 2 12 0 x.toNatClampNeg) := ⟨_, rfl⟩
              have hn9 : I9 y' = I y' := by rw [hI9]; exact (ne_X5_pitch I7 y x (I y 26 0 x.toNatClampNeg) (I7 2 12 0 x.toNatClampNeg) hy (y' := y') hne).trans hn7
              have eS : f_X6_turn I y x b = I9 := by simp only [f_X6_turn, ← hI7, ← hI9, if_neg c2, if_neg c3, if_neg c4, if_pos c5, if_pos c17, if_pos c19]
              exact (congrFun eS y').trans hn9
            · by_cases c21 : 8 ≤ (I7 y 31 0 x.toNatClampNeg)
              · obtain ⟨I10, hI10⟩ : ∃ z, z = f_X5_pitch I7 y x (I y 26 0 x.toNatClampNeg) (I7 2 12 0 x.toNatClampNeg) := ⟨_, rfl⟩
                have hn10 : I10 y' = I y' := by rw [hI10]; exact (ne_X5_pitch I7 y x (I y 26 0 x.toNatClampNeg) (I7 2 12 0 x.toNatClampNeg) hy (y' := y') hne).trans hn7
                have eS : f_X6_turn I y x b = I10 := by simp only [f_X6_turn, ← hI7, ← hI10, if_neg c2, if_neg c3, if_neg c4, if_pos c5, if_pos c17, if_neg c19, if_pos c21]
                exact (congrFun eS y').trans hn10
              · obtain ⟨I11, hI11⟩ : ∃ z, z = f_X5_forkIt I7 y x (I y 26 0 x.toNatClampNeg) := ⟨_, rfl⟩
                have hn11 : I11 y' = I y' := by rw [hI11]; exact (ne_X5_forkIt I7 y x (I y 26 0 x.toNatClampNeg) hy (y' := y') hne).trans hn7
                have eS : f_X6_turn I y x b = I11 := by simp only [f_X6_turn, ← hI7, ← hI11, if_neg c2, if_neg c3, if_neg c4, if_pos c5, if_pos c17, if_neg c19, if_neg c21]
                exact (congrFun eS y').trans hn11
          · obtain ⟨I8, hI8⟩ : ∃ z, z = f_X5_pitch I7 y x (I y 26 0 x.toNatClampNeg) (I7 2 12 0 x.toNatClampNeg) := ⟨_, rfl⟩
            have hn8 : I8 y' = I y' := by rw [hI8]; exact (ne_X5_pitch I7 y x (I y 26 0 x.toNatClampNeg) (I7 2 12 0 x.toNatClampNeg) hy (y' := y') hne).trans hn7
            have eS : f_X6_turn I y x b = I8 := by simp only [f_X6_turn, ← hI7, ← hI8, if_neg c2, if_neg c3, if_neg c4, if_pos c5, if_neg c17]
            exact (congrFun eS y').trans hn8
        · by_cases c8 : (f_X6_inYard I y) = (-1)
          · by_cases c12 : (f_X6_victimOf I y x) = (-1)
            · obtain ⟨I6, hI6⟩ : ∃ z, z = f_X5_rest I y x := ⟨_, rfl⟩
              have hn6 : I6 y' = I y' := by rw [hI6]; exact (ne_X5_rest I y x hy (y' := y') hne).trans hn
              have eS : f_X6_turn I y x b = I6 := by simp only [f_X6_turn, ← hI6, if_neg c2, if_neg c3, if_neg c4, if_neg c5, if_pos c8, if_pos c12]
              exact (congrFun eS y').trans hn6
            · obtain ⟨I4, hI4⟩ : ∃ z, z = gU I y 27 0 x.toNatClampNeg 0 := ⟨_, rfl⟩
              have hn4 : I4 y' = I y' := by rw [hI4]; exact (gU_ne _ _ _ _ _ hne).trans hn
              obtain ⟨I5, hI5⟩ : ∃ z, z = f_X5_steal I4 y x (f_X6_victimOf I y x) := ⟨_, rfl⟩
              have hn5 : I5 y' = I y' := by rw [hI5]; exact (ne_X5_steal I4 y x (f_X6_victimOf I y x) hy (y' := y') hne).trans hn4
              have eS : f_X6_turn I y x b = I5 := by simp only [f_X6_turn, ← hI4, ← hI5, if_neg c2, if_neg c3, if_neg c4, if_neg c5, if_pos c8, if_neg c12]
              exact (congrFun eS y').trans hn5
          · obtain ⟨I1, hI1⟩ : ∃ z, z = gU I y 27 0 x.toNatClampNeg 0 := ⟨_, rfl⟩
            have hn1 : I1 y' = I y' := by rw [hI1]; exact (gU_ne _ _ _ _ _ hne).trans hn
            obtain ⟨I2, hI2⟩ : ∃ z, z = gU I1 y 33 0 ((f_X6_inYard I y).toNatClampNeg) 1 := ⟨_, rfl⟩
            have hn2 : I2 y' = I y' := by rw [hI2]; exact (gU_ne _ _ _ _ _ hne).trans hn1
            obtain ⟨I3, hI3⟩ : ∃ z, z = f_X5_hold I2 y x (I2 y 34 0 ((f_X6_inYard I y).toNatClampNeg)) := ⟨_, rfl⟩
            have hn3 : I3 y' = I y' := by rw [hI3]; exact (ne_X5_hold I2 y x (I2 y 34 0 ((f_X6_inYard I y).toNatClampNeg)) hy (y' := y') hne).trans hn2
            have eS : f_X6_turn I y x b = I3 := by simp only [f_X6_turn, ← hI1, ← hI2, ← hI3, if_neg c2, if_neg c3, if_neg c4, if_neg c5, if_neg c8]
            exact (congrFun eS y').trans hn3
set_option maxHeartbeats 4000000 in
set_option maxRecDepth 100000 in
theorem m_X6_turn (l : Launch) (E : gE) (J : Int64) (I : gI) (y : Nat) (x b : Int32) (hy : y = 3 ∨ y = 4) (hok : ok_X6_turn I y x b) : gMv l E J yX6_turn cX6_turn 6 none 3 87 [.ref (gA E 2 11 0), .ref (gA E y 20 0), .int x, .int b] I (f_X6_turn I y x b) := by
  refine g_entry (lv := [(0, .ref (gA E 2 11 0)), (1, .ref (gA E y 20 0)), (2, .int x), (3, .int b)]) (by decide) (Nat.le_of_ble_eq_true rfl) rfl ?_
  intro p e s m below meth c0 ls K hG hS hml hr hlocks hl
  have K : kx E p m c0 cX6_turn "HayThievesModel" _ s := K
  have hx := K.1
  have hb := K.2.1
  have hts := K.2.2.1
  have hown := K.2.2.2.1
  have hSt := K.2.2.2.2
  unfold ok_X6_turn at hok
  refine lv_aload_n hx hb dX6_turn_0 rfl (lv_at hl 1 rfl) ?_
  refine gf_X6_66 K hG (gvs hy 20 rfl) dX6_turn_1 ?_
  refine lv_iload_n hx hb dX6_turn_4 rfl (lv_at hl 2 rfl) ?_
  obtain ⟨ho1, hok⟩ := hok
  refine g_iald K hG (gvs hy 25 rfl) rfl (fun _ => rfl) ho1 dX6_turn_5 ?_
  refine lv_iconst (v := 3) hx hb dX6_turn_6 (by decide) ?_
  refine lv_icmp_ne (tgt := 11) hx hb dX6_turn_7 (by decide) (fun c2 => ?_) (fun c2 => ?_)
  · have hok := hok.2 c2
    refine lv_aload_n hx hb dX6_turn_11 rfl (lv_at hl 1 rfl) ?_
    refine gf_X6_66 K hG (gvs hy 20 rfl) dX6_turn_12 ?_
    refine lv_iload_n hx hb dX6_turn_15 rfl (lv_at hl 2 rfl) ?_
    refine g_iald K hG (gvs hy 25 rfl) rfl (fun _ => rfl) ho1 dX6_turn_16 ?_
    refine lv_iconst (v := 2) hx hb dX6_turn_17 (by decide) ?_
    refine lv_icmp_ne (tgt := 50) hx hb dX6_turn_18 (by decide) (fun c3 => ?_) (fun c3 => ?_)
    · have hok := hok.2 c3
      refine lv_aload_n hx hb dX6_turn_50 rfl (lv_at hl 1 rfl) ?_
      refine gf_X6_66 K hG (gvs hy 20 rfl) dX6_turn_51 ?_
      refine lv_iload_n hx hb dX6_turn_54 rfl (lv_at hl 2 rfl) ?_
      refine g_iald K hG (gvs hy 25 rfl) rfl (fun _ => rfl) ho1 dX6_turn_55 ?_
      refine lv_if_ne (tgt := 78) hx hb dX6_turn_56 (by decide) (fun c4 => ?_) (fun c4 => ?_)
      · have hok := hok.2 c4
        refine lv_aload_n hx hb dX6_turn_78 rfl (lv_at hl 1 rfl) ?_
        refine gf_X6_66 K hG (gvs hy 20 rfl) dX6_turn_79 ?_
        refine lv_iload_n hx hb dX6_turn_82 rfl (lv_at hl 2 rfl) ?_
        refine g_iald K hG (gvs hy 25 rfl) rfl (fun _ => rfl) ho1 dX6_turn_83 ?_
        refine lv_iconst (v := 1) hx hb dX6_turn_84 (by decide) ?_
        refine lv_icmp_ne (tgt := 166) hx hb dX6_turn_85 (by decide) (fun c5 => ?_) (fun c5 => ?_)
        · have hok := hok.2 c5
          refine lv_aload_n hx hb dX6_turn_166 rfl (lv_at hl 0 rfl) ?_
          refine lv_aload_n hx hb dX6_turn_167 rfl (lv_at hl 1 rfl) ?_
          obtain ⟨ho6, hok⟩ := hok
          refine g_ki (g_runV (As := [.ref (gA E y 20 0)]) (rest := []) K hml ca_X6_inYard q931 (m_X6_inYard l E J I y hy ho6) hG hS rfl rfl rfl rfl rfl hl.1 (Nat.le_of_ble_eq_true rfl) ⟨by decide, by decide⟩ dX6_turn_168 ⟨Nat.zero_le _, Nat.zero_le _⟩) hS (fun H locs hG hS => ?_)
          refine lv_istore (lv' := [(4, .int (f_X6_inYard I y)), (0, .ref (gA E 2 11 0)), (1, .ref (gA E y 20 0)), (2, .int x), (3, .int b)]) hx hb dX6_turn_171 hl (by decide) rfl (fun ls hl => ?_)
          refine lv_aload_n hx hb dX6_turn_173 rfl (lv_at hl 1 rfl) ?_
          refine lv_aload_n hx hb dX6_turn_174 rfl (lv_at hl 2 rfl) ?_
          refine lv_iload_n hx hb dX6_turn_175 rfl (lv_at hl 3 rfl) ?_
          obtain ⟨ho7, hok⟩ := hok
          refine g_ki (g_runV (As := [.ref (gA E y 20 0), .int x]) (rest := []) K hml ca_X6_victimOf q869 (m_X6_victimOf l E J I y x hy ho7) hG hS rfl rfl rfl rfl rfl hl.1 (Nat.le_of_ble_eq_true rfl) ⟨by decide, by decide⟩ dX6_turn_176 ⟨Nat.zero_le _, Nat.zero_le _⟩) hS (fun H locs hG hS => ?_)
          refine lv_istore (lv' := [(5, .int (f_X6_victimOf I y x)), (4, .int (f_X6_inYard I y)), (0, .ref (gA E 2 11 0)), (1, .ref (gA E y 20 0)), (2, .int x), (3, .int b)]) hx hb dX6_turn_179 hl (by decide) rfl (fun ls hl => ?_)
          refine lv_iload hx hb dX6_turn_181 (lv_at hl 1 rfl) ?_
          refine lv_iconst (v := (-1)) hx hb dX6_turn_183 (by decide) ?_
          refine lv_icmp_ne (tgt := 199) hx hb dX6_turn_184 (by decide) (fun c8 => ?_) (fun c8 => ?_)
          · have hok := hok.2 c8
            refine lv_aload_n hx hb dX6_turn_199 rfl (lv_at hl 3 rfl) ?_
            refine gf_X6_72 K hG (gvs hy 20 rfl) dX6_turn_200 ?_
            refine lv_iload_n hx hb dX6_turn_203 rfl (lv_at hl 4 rfl) ?_
            refine lv_iconst (v := 0) hx hb dX6_turn_204 (by decide) ?_
            refine g_iast K hG hS (gvs hy 27 rfl) rfl (fun _ => rfl) (fun _ q => absurd q.1 (by decide)) ho1 dX6_turn_205 (fun I1 hI1 H locs hG hS => ?_)
            have hok := hok I1 hI1
            refine lv_iload hx hb dX6_turn_206 (lv_at hl 1 rfl) ?_
            refine lv_iconst (v := (-1)) hx hb dX6_turn_208 (by decide) ?_
            refine lv_icmp_ne (tgt := 222) hx hb dX6_turn_209 (by decide) (fun c9 => ?_) (fun c9 => ?_)
            · skip
              refine lv_aload_n hx hb dX6_turn_222 rfl (lv_at hl 3 rfl) ?_
              refine gf_X6_63 K hG (gvs hy 20 rfl) dX6_turn_223 ?_
              refine lv_iload hx hb dX6_turn_226 (lv_at hl 1 rfl) ?_
              refine lv_iconst (v := 1) hx hb dX6_turn_228 (by decide) ?_
              obtain ⟨ho10, hok⟩ := hok
              refine g_iast K hG hS (gvs hy 33 rfl) rfl (fun _ => rfl) (fun _ q => absurd q.1 (by decide)) ho10 dX6_turn_229 (fun I2 hI2 H locs hG hS => ?_)
              have hok := hok I2 hI2
              refine lv_aload_n hx hb dX6_turn_230 rfl (lv_at hl 3 rfl) ?_
              refine lv_iload_n hx hb dX6_turn_231 rfl (lv_at hl 4 rfl) ?_
              refine lv_aload_n hx hb dX6_turn_232 rfl (lv_at hl 3 rfl) ?_
              refine gf_X6_113 K hG (gvs hy 20 rfl) dX6_turn_233 ?_
              refine lv_iload hx hb dX6_turn_236 (lv_at hl 1 rfl) ?_
              refine g_iald K hG (gvs hy 34 rfl) rfl (fun _ => rfl) ho10 dX6_turn_238 ?_
              obtain ⟨ho11, hok⟩ := hok
              refine g_kv (g_runV (As := [.int x, .int (I2 y 34 0 ((f_X6_inYard I y).toNatClampNeg))]) (rest := []) K hml ca_X5_hold q910 (m_X5_hold l E J I2 y x (I2 y 34 0 ((f_X6_inYard I y).toNatClampNeg)) hy ho11) hG hS (gvs hy 20 rfl) rfl rfl rfl rfl hl.1 (Nat.le_of_ble_eq_true rfl) ⟨by decide, by decide⟩ dX6_turn_239 ⟨Nat.zero_le _, Nat.zero_le _⟩) hS (fun H locs hG hS => ?_)
              obtain ⟨I3, hI3⟩ : ∃ z, z = f_X5_hold I2 y x (I2 y 34 0 ((f_X6_inYard I y).toNatClampNeg)) := ⟨_, rfl⟩
              rw [← hI3] at hG
              have hok := hok I3 hI3
              have eS : I3 = (f_X6_turn I y x b) := (by simp only [f_X6_turn, ← hI1, ← hI2, ← hI3, if_neg c2, if_neg c3, if_neg c4, if_neg c5, if_neg c8, if_neg c9])
              rw [eS] at hG
              exact g_vret K hG hS hr hlocks dX6_turn_242
            · exact absurd c9 c8
          · have hok := hok.1 c8
            refine lv_iload hx hb dX6_turn_187 (lv_at hl 0 rfl) ?_
            refine lv_iconst (v := (-1)) hx hb dX6_turn_189 (by decide) ?_
            refine lv_icmp_ne (tgt := 199) hx hb dX6_turn_190 (by decide) (fun c12 => ?_) (fun c12 => ?_)
            · have hok := hok.2 c12
              refine lv_aload_n hx hb dX6_turn_199 rfl (lv_at hl 3 rfl) ?_
              refine gf_X6_72 K hG (gvs hy 20 rfl) dX6_turn_200 ?_
              refine lv_iload_n hx hb dX6_turn_203 rfl (lv_at hl 4 rfl) ?_
              refine lv_iconst (v := 0) hx hb dX6_turn_204 (by decide) ?_
              refine g_iast K hG hS (gvs hy 27 rfl) rfl (fun _ => rfl) (fun _ q => absurd q.1 (by decide)) ho1 dX6_turn_205 (fun I4 hI4 H locs hG hS => ?_)
              have hok := hok I4 hI4
              refine lv_iload hx hb dX6_turn_206 (lv_at hl 1 rfl) ?_
              refine lv_iconst (v := (-1)) hx hb dX6_turn_208 (by decide) ?_
              refine lv_icmp_ne (tgt := 222) hx hb dX6_turn_209 (by decide) (fun c13 => ?_) (fun c13 => ?_)
              · exact absurd c8 c13
              · skip
                refine lv_aload_n hx hb dX6_turn_212 rfl (lv_at hl 3 rfl) ?_
                refine lv_iload_n hx hb dX6_turn_213 rfl (lv_at hl 4 rfl) ?_
                refine lv_iload hx hb dX6_turn_214 (lv_at hl 0 rfl) ?_
                obtain ⟨ho14, hok⟩ := hok
                refine g_kv (g_runV (As := [.int x, .int (f_X6_victimOf I y x)]) (rest := []) K hml ca_X5_steal q939 (m_X5_steal l E J I4 y x (f_X6_victimOf I y x) hy ho14) hG hS (gvs hy 20 rfl) rfl rfl rfl rfl hl.1 (Nat.le_of_ble_eq_true rfl) ⟨by decide, by decide⟩ dX6_turn_216 ⟨Nat.zero_le _, Nat.zero_le _⟩) hS (fun H locs hG hS => ?_)
                obtain ⟨I5, hI5⟩ : ∃ z, z = f_X5_steal I4 y x (f_X6_victimOf I y x) := ⟨_, rfl⟩
                rw [← hI5] at hG
                have hok := hok I5 hI5
                refine lv_goto (tgt := 242) hx hb dX6_turn_219 (by decide) ?_
                have eS : I5 = (f_X6_turn I y x b) := (by simp only [f_X6_turn, ← hI4, ← hI5, if_neg c2, if_neg c3, if_neg c4, if_neg c5, if_pos c8, if_neg c12, if_pos c13])
                rw [eS] at hG
                exact g_vret K hG hS hr hlocks dX6_turn_242
            · have hok := hok.1 c12
              refine lv_aload_n hx hb dX6_turn_193 rfl (lv_at hl 3 rfl) ?_
              refine lv_iload_n hx hb dX6_turn_194 rfl (lv_at hl 4 rfl) ?_
              obtain ⟨ho15, hok⟩ := hok
              refine g_kv (g_runV (As := [.int x]) (rest := []) K hml ca_X5_rest q935 (m_X5_rest l E J I y x hy ho15) hG hS (gvs hy 20 rfl) rfl rfl rfl rfl hl.1 (Nat.le_of_ble_eq_true rfl) ⟨by decide, by decide⟩ dX6_turn_195 ⟨Nat.zero_le _, Nat.zero_le _⟩) hS (fun H locs hG hS => ?_)
              obtain ⟨I6, hI6⟩ : ∃ z, z = f_X5_rest I y x := ⟨_, rfl⟩
              rw [← hI6] at hG
              have hok := hok I6 hI6
              have eS : I6 = (f_X6_turn I y x b) := (by simp only [f_X6_turn, ← hI6, if_neg c2, if_neg c3, if_neg c4, if_neg c5, if_pos c8, if_pos c12])
              rw [eS] at hG
              exact g_vret K hG hS hr hlocks dX6_turn_198
        · have hok := hok.1 c5
          refine lv_aload_n hx hb dX6_turn_88 rfl (lv_at hl 1 rfl) ?_
          refine gf_X6_75 K hG (gvs hy 20 rfl) dX6_turn_89 ?_
          refine lv_iload_n hx hb dX6_turn_92 rfl (lv_at hl 2 rfl) ?_
          refine g_iald K hG (gvs hy 26 rfl) rfl (fun _ => rfl) ho1 dX6_turn_93 ?_
          refine lv_istore (lv' := [(4, .int (I y 26 0 x.toNatClampNeg)), (0, .ref (gA E 2 11 0)), (1, .ref (gA E y 20 0)), (2, .int x), (3, .int b)]) hx hb dX6_turn_94 hl (by decide) rfl (fun ls hl => ?_)
          refine lv_aload_n hx hb dX6_turn_96 rfl (lv_at hl 2 rfl) ?_
          refine gf_X6_72 K hG (gvs hy 20 rfl) dX6_turn_97 ?_
          refine lv_iload_n hx hb dX6_turn_100 rfl (lv_at hl 3 rfl) ?_
          refine lv_iconst (v := 0) hx hb dX6_turn_101 (by decide) ?_
          refine g_iast K hG hS (gvs hy 27 rfl) rfl (fun _ => rfl) (fun _ q => absurd q.1 (by decide)) ho1 dX6_turn_102 (fun I7 hI7 H locs hG hS => ?_)
          have hok := hok I7 hI7
          refine lv_aload_n hx hb dX6_turn_103 rfl (lv_at hl 2 rfl) ?_
          refine gf_X6_88 K hG (gvs hy 20 rfl) dX6_turn_104 ?_
          refine lv_iload hx hb dX6_turn_107 (lv_at hl 0 rfl) ?_
          obtain ⟨ho16, hok⟩ := hok
          refine g_iald K hG (gvs hy 41 rfl) rfl (fun _ => rfl) ho16 dX6_turn_109 ?_
          refine lv_aload_n hx hb dX6_turn_110 rfl (lv_at hl 2 rfl) ?_
          refine gf_X6_52 K hG (gvs hy 20 rfl) dX6_turn_111 ?_
          refine lv_iload hx hb dX6_turn_114 (lv_at hl 0 rfl) ?_
          refine g_iald K hG (gvs hy 40 rfl) rfl (fun _ => rfl) ho16 dX6_turn_116 ?_
          refine lv_icmp_ne (tgt := 152) hx hb dX6_turn_117 (by decide) (fun c17 => ?_) (fun c17 => ?_)
          · have hok := hok.2 c17
            refine lv_aload_n hx hb dX6_turn_152 rfl (lv_at hl 2 rfl) ?_
            refine lv_iload_n hx hb dX6_turn_153 rfl (lv_at hl 3 rfl) ?_
            refine lv_iload hx hb dX6_turn_154 (lv_at hl 0 rfl) ?_
            refine lv_aload_n hx hb dX6_turn_156 rfl (lv_at hl 1 rfl) ?_
            refine gf_X6_9 K hG rfl dX6_turn_157 ?_
            refine lv_iload_n hx hb dX6_turn_160 rfl (lv_at hl 3 rfl) ?_
            refine g_iald K hG rfl rfl (fun _ => rfl) ho1 dX6_turn_161 ?_
            obtain ⟨ho18, hok⟩ := hok
            refine g_kv (g_runV (As := [.int x, .int (I y 26 0 x.toNatClampNeg), .int (I7 2 12 0 x.toNatClampNeg)]) (rest := []) K hml ca_X5_pitch q923 (m_X5_pitch l E J I7 y x (I y 26 0 x.toNatClampNeg) (I7 2 12 0 x.toNatClampNeg) hy ho18) hG hS (gvs hy 20 rfl) rfl rfl rfl rfl hl.1 (Nat.le_of_ble_eq_true rfl) ⟨by decide, by decide⟩ dX6_turn_162 ⟨Nat.zero_le _, Nat.zero_le _⟩) hS (fun H locs hG hS => ?_)
            obtain ⟨I8, hI8⟩ : ∃ z, z = f_X5_pitch I7 y x (I y 26 0 x.toNatClampNeg) (I7 2 12 0 x.toNatClampNeg) := ⟨_, rfl⟩
            rw [← hI8] at hG
            have hok := hok I8 hI8
            have eS : I8 = (f_X6_turn I y x b) := (by simp only [f_X6_turn, ← hI7, ← hI8, if_neg c2, if_neg c3, if_neg c4, if_pos c5, if_neg c17])
            rw [eS] at hG
            exact g_vret K hG hS hr hlocks dX6_turn_165
          · have hok := hok.1 c17
            refine lv_aload_n hx hb dX6_turn_120 rfl (lv_at hl 2 rfl) ?_
            refine gf_X6_52 K hG (gvs hy 20 rfl) dX6_turn_121 ?_
            refine lv_iload hx hb dX6_turn_124 (lv_at hl 0 rfl) ?_
            refine g_iald K hG (gvs hy 40 rfl) rfl (fun _ => rfl) ho16 dX6_turn_126 ?_
            refine lv_iload_n hx hb dX6_turn_127 rfl (lv_at hl 4 rfl) ?_
            refine lv_icmp_le (tgt := 152) hx hb dX6_turn_128 (by decide) (fun c19 => ?_) (fun c19 => ?_)
            · have hok := hok.1 c19
              refine lv_aload_n hx hb dX6_turn_152 rfl (lv_at hl 2 rfl) ?_
              refine lv_iload_n hx hb dX6_turn_153 rfl (lv_at hl 3 rfl) ?_
              refine lv_iload hx hb dX6_turn_154 (lv_at hl 0 rfl) ?_
              refine lv_aload_n hx hb dX6_turn_156 rfl (lv_at hl 1 rfl) ?_
              refine gf_X6_9 K hG rfl dX6_turn_157 ?_
              refine lv_iload_n hx hb dX6_turn_160 rfl (lv_at hl 3 rfl) ?_
              refine g_iald K hG rfl rfl (fun _ => rfl) ho1 dX6_turn_161 ?_
              obtain ⟨ho20, hok⟩ := hok
              refine g_kv (g_runV (As := [.int x, .int (I y 26 0 x.toNatClampNeg), .int (I7 2 12 0 x.toNatClampNeg)]) (rest := []) K hml ca_X5_pitch q923 (m_X5_pitch l E J I7 y x (I y 26 0 x.toNatClampNeg) (I7 2 12 0 x.toNatClampNeg) hy ho20) hG hS (gvs hy 20 rfl) rfl rfl rfl rfl hl.1 (Nat.le_of_ble_eq_true rfl) ⟨by decide, by decide⟩ dX6_turn_162 ⟨Nat.zero_le _, Nat.zero_le _⟩) hS (fun H locs hG hS => ?_)
              obtain ⟨I9, hI9⟩ : ∃ z, z = f_X5_pitch I7 y x (I y 26 0 x.toNatClampNeg) (I7 2 12 0 x.toNatClampNeg) := ⟨_, rfl⟩
              rw [← hI9] at hG
              have hok := hok I9 hI9
              have eS : I9 = (f_X6_turn I y x b) := (by simp only [f_X6_turn, ← hI7, ← hI9, if_neg c2, if_neg c3, if_neg c4, if_pos c5, if_pos c17, if_pos c19])
              rw [eS] at hG
              exact g_vret K hG hS hr hlocks dX6_turn_165
            · have hok := hok.2 c19
              refine lv_aload_n hx hb dX6_turn_131 rfl (lv_at hl 2 rfl) ?_
              refine gf_X6_49 K hG (gvs hy 20 rfl) dX6_turn_132 ?_
              refine lv_iload_n hx hb dX6_turn_135 rfl (lv_at hl 3 rfl) ?_
              refine g_iald K hG (gvs hy 31 rfl) rfl (fun _ => rfl) ho1 dX6_turn_136 ?_
              refine lv_bipush (v := 8) hx hb dX6_turn_137 (by decide) ?_
              refine lv_icmp_ge (tgt := 152) hx hb dX6_turn_139 (by decide) (fun c21 => ?_) (fun c21 => ?_)
              · have hok := hok.1 c21
                refine lv_aload_n hx hb dX6_turn_152 rfl (lv_at hl 2 rfl) ?_
                refine lv_iload_n hx hb dX6_turn_153 rfl (lv_at hl 3 rfl) ?_
                refine lv_iload hx hb dX6_turn_154 (lv_at hl 0 rfl) ?_
                refine lv_aload_n hx hb dX6_turn_156 rfl (lv_at hl 1 rfl) ?_
                refine gf_X6_9 K hG rfl dX6_turn_157 ?_
                refine lv_iload_n hx hb dX6_turn_160 rfl (lv_at hl 3 rfl) ?_
                refine g_iald K hG rfl rfl (fun _ => rfl) ho1 dX6_turn_161 ?_
                obtain ⟨ho22, hok⟩ := hok
                refine g_kv (g_runV (As := [.int x, .int (I y 26 0 x.toNatClampNeg), .int (I7 2 12 0 x.toNatClampNeg)]) (rest := []) K hml ca_X5_pitch q923 (m_X5_pitch l E J I7 y x (I y 26 0 x.toNatClampNeg) (I7 2 12 0 x.toNatClampNeg) hy ho22) hG hS (gvs hy 20 rfl) rfl rfl rfl rfl hl.1 (Nat.le_of_ble_eq_true rfl) ⟨by decide, by decide⟩ dX6_turn_162 ⟨Nat.zero_le _, Nat.zero_le _⟩) hS (fun H locs hG hS => ?_)
                obtain ⟨I10, hI10⟩ : ∃ z, z = f_X5_pitch I7 y x (I y 26 0 x.toNatClampNeg) (I7 2 12 0 x.toNatClampNeg) := ⟨_, rfl⟩
                rw [← hI10] at hG
                have hok := hok I10 hI10
                have eS : I10 = (f_X6_turn I y x b) := (by simp only [f_X6_turn, ← hI7, ← hI10, if_neg c2, if_neg c3, if_neg c4, if_pos c5, if_pos c17, if_neg c19, if_pos c21])
                rw [eS] at hG
                exact g_vret K hG hS hr hlocks dX6_turn_165
              · have hok := hok.2 c21
                refine lv_aload_n hx hb dX6_turn_142 rfl (lv_at hl 2 rfl) ?_
                refine lv_iload_n hx hb dX6_turn_143 rfl (lv_at hl 3 rfl) ?_
                refine lv_iload hx hb dX6_turn_144 (lv_at hl 0 rfl) ?_
                obtain ⟨ho23, hok⟩ := hok
                refine g_kv (g_runV (As := [.int x, .int (I y 26 0 x.toNatClampNeg)]) (rest := []) K hml ca_X5_forkIt q914 (m_X5_forkIt l E J I7 y x (I y 26 0 x.toNatClampNeg) hy ho23) hG hS (gvs hy 20 rfl) rfl rfl rfl rfl hl.1 (Nat.le_of_ble_eq_true rfl) ⟨by decide, by decide⟩ dX6_turn_146 ⟨Nat.zero_le _, Nat.zero_le _⟩) hS (fun H locs hG hS => ?_)
                obtain ⟨I11, hI11⟩ : ∃ z, z = f_X5_forkIt I7 y x (I y 26 0 x.toNatClampNeg) := ⟨_, rfl⟩
                rw [← hI11] at hG
                have hok := hok I11 hI11
                refine lv_goto (tgt := 165) hx hb dX6_turn_149 (by decide) ?_
                have eS : I11 = (f_X6_turn I y x b) := (by simp only [f_X6_turn, ← hI7, ← hI11, if_neg c2, if_neg c3, if_neg c4, if_pos c5, if_pos c17, if_neg c19, if_neg c21])
                rw [eS] at hG
                exact g_vret K hG hS hr hlocks dX6_turn_165
      · have hok := hok.1 c4
        refine lv_aload_n hx hb dX6_turn_59 rfl (lv_at hl 1 rfl) ?_
        refine gf_X6_49 K hG (gvs hy 20 rfl) dX6_turn_60 ?_
        refine lv_iload_n hx hb dX6_turn_63 rfl (lv_at hl 2 rfl) ?_
        refine g_iald K hG (gvs hy 31 rfl) rfl (fun _ => rfl) ho1 dX6_turn_64 ?_
        refine lv_if_le (tgt := 78) hx hb dX6_turn_65 (by decide) (fun c24 => ?_) (fun c24 => ?_)
        · have hok := hok.1 c24
          refine lv_aload_n hx hb dX6_turn_78 rfl (lv_at hl 1 rfl) ?_
          refine gf_X6_66 K hG (gvs hy 20 rfl) dX6_turn_79 ?_
          refine lv_iload_n hx hb dX6_turn_82 rfl (lv_at hl 2 rfl) ?_
          refine g_iald K hG (gvs hy 25 rfl) rfl (fun _ => rfl) ho1 dX6_turn_83 ?_
          refine lv_iconst (v := 1) hx hb dX6_turn_84 (by decide) ?_
          refine lv_icmp_ne (tgt := 166) hx hb dX6_turn_85 (by decide) (fun c25 => ?_) (fun c25 => ?_)
          · have hok := hok.2 c25
            refine lv_aload_n hx hb dX6_turn_166 rfl (lv_at hl 0 rfl) ?_
            refine lv_aload_n hx hb dX6_turn_167 rfl (lv_at hl 1 rfl) ?_
            obtain ⟨ho26, hok⟩ := hok
            refine g_ki (g_runV (As := [.ref (gA E y 20 0)]) (rest := []) K hml ca_X6_inYard q931 (m_X6_inYard l E J I y hy ho26) hG hS rfl rfl rfl rfl rfl hl.1 (Nat.le_of_ble_eq_true rfl) ⟨by decide, by decide⟩ dX6_turn_168 ⟨Nat.zero_le _, Nat.zero_le _⟩) hS (fun H locs hG hS => ?_)
            refine lv_istore (lv' := [(4, .int (f_X6_inYard I y)), (0, .ref (gA E 2 11 0)), (1, .ref (gA E y 20 0)), (2, .int x), (3, .int b)]) hx hb dX6_turn_171 hl (by decide) rfl (fun ls hl => ?_)
            refine lv_aload_n hx hb dX6_turn_173 rfl (lv_at hl 1 rfl) ?_
            refine lv_aload_n hx hb dX6_turn_174 rfl (lv_at hl 2 rfl) ?_
            refine lv_iload_n hx hb dX6_turn_175 rfl (lv_at hl 3 rfl) ?_
            obtain ⟨ho27, hok⟩ := hok
            refine g_ki (g_runV (As := [.ref (gA E y 20 0), .int x]) (rest := []) K hml ca_X6_victimOf q869 (m_X6_victimOf l E J I y x hy ho27) hG hS rfl rfl rfl rfl rfl hl.1 (Nat.le_of_ble_eq_true rfl) ⟨by decide, by decide⟩ dX6_turn_176 ⟨Nat.zero_le _, Nat.zero_le _⟩) hS (fun H locs hG hS => ?_)
            refine lv_istore (lv' := [(5, .int (f_X6_victimOf I y x)), (4, .int (f_X6_inYard I y)), (0, .ref (gA E 2 11 0)), (1, .ref (gA E y 20 0)), (2, .int x), (3, .int b)]) hx hb dX6_turn_179 hl (by decide) rfl (fun ls hl => ?_)
            refine lv_iload hx hb dX6_turn_181 (lv_at hl 1 rfl) ?_
            refine lv_iconst (v := (-1)) hx hb dX6_turn_183 (by decide) ?_
            refine lv_icmp_ne (tgt := 199) hx hb dX6_turn_184 (by decide) (fun c28 => ?_) (fun c28 => ?_)
            · have hok := hok.2 c28
              refine lv_aload_n hx hb dX6_turn_199 rfl (lv_at hl 3 rfl) ?_
              refine gf_X6_72 K hG (gvs hy 20 rfl) dX6_turn_200 ?_
              refine lv_iload_n hx hb dX6_turn_203 rfl (lv_at hl 4 rfl) ?_
              refine lv_iconst (v := 0) hx hb dX6_turn_204 (by decide) ?_
              refine g_iast K hG hS (gvs hy 27 rfl) rfl (fun _ => rfl) (fun _ q => absurd q.1 (by decide)) ho1 dX6_turn_205 (fun I12 hI12 H locs hG hS => ?_)
              have hok := hok I12 hI12
              refine lv_iload hx hb dX6_turn_206 (lv_at hl 1 rfl) ?_
              refine lv_iconst (v := (-1)) hx hb dX6_turn_208 (by decide) ?_
              refine lv_icmp_ne (tgt := 222) hx hb dX6_turn_209 (by decide) (fun c29 => ?_) (fun c29 => ?_)
              · skip
                refine lv_aload_n hx hb dX6_turn_222 rfl (lv_at hl 3 rfl) ?_
                refine gf_X6_63 K hG (gvs hy 20 rfl) dX6_turn_223 ?_
                refine lv_iload hx hb dX6_turn_226 (lv_at hl 1 rfl) ?_
                refine lv_iconst (v := 1) hx hb dX6_turn_228 (by decide) ?_
                obtain ⟨ho30, hok⟩ := hok
                refine g_iast K hG hS (gvs hy 33 rfl) rfl (fun _ => rfl) (fun _ q => absurd q.1 (by decide)) ho30 dX6_turn_229 (fun I13 hI13 H locs hG hS => ?_)
                have hok := hok I13 hI13
                refine lv_aload_n hx hb dX6_turn_230 rfl (lv_at hl 3 rfl) ?_
                refine lv_iload_n hx hb dX6_turn_231 rfl (lv_at hl 4 rfl) ?_
                refine lv_aload_n hx hb dX6_turn_232 rfl (lv_at hl 3 rfl) ?_
                refine gf_X6_113 K hG (gvs hy 20 rfl) dX6_turn_233 ?_
                refine lv_iload hx hb dX6_turn_236 (lv_at hl 1 rfl) ?_
                refine g_iald K hG (gvs hy 34 rfl) rfl (fun _ => rfl) ho30 dX6_turn_238 ?_
                obtain ⟨ho31, hok⟩ := hok
                refine g_kv (g_runV (As := [.int x, .int (I13 y 34 0 ((f_X6_inYard I y).toNatClampNeg))]) (rest := []) K hml ca_X5_hold q910 (m_X5_hold l E J I13 y x (I13 y 34 0 ((f_X6_inYard I y).toNatClampNeg)) hy ho31) hG hS (gvs hy 20 rfl) rfl rfl rfl rfl hl.1 (Nat.le_of_ble_eq_true rfl) ⟨by decide, by decide⟩ dX6_turn_239 ⟨Nat.zero_le _, Nat.zero_le _⟩) hS (fun H locs hG hS => ?_)
                obtain ⟨I14, hI14⟩ : ∃ z, z = f_X5_hold I13 y x (I13 y 34 0 ((f_X6_inYard I y).toNatClampNeg)) := ⟨_, rfl⟩
                rw [← hI14] at hG
                have hok := hok I14 hI14
                have eS : I14 = (f_X6_turn I y x b) := (by simp only [f_X6_turn, ← hI12, ← hI13, ← hI14, if_neg c2, if_neg c3, if_pos c4, if_pos c24, if_neg c25, if_neg c28, if_neg c29])
                rw [eS] at hG
                exact g_vret K hG hS hr hlocks dX6_turn_242
              · exact absurd c29 c28
            · have hok := hok.1 c28
              refine lv_iload hx hb dX6_turn_187 (lv_at hl 0 rfl) ?_
              refine lv_iconst (v := (-1)) hx hb dX6_turn_189 (by decide) ?_
              refine lv_icmp_ne (tgt := 199) hx hb dX6_turn_190 (by decide) (fun c32 => ?_) (fun c32 => ?_)
              · have hok := hok.2 c32
                refine lv_aload_n hx hb dX6_turn_199 rfl (lv_at hl 3 rfl) ?_
                refine gf_X6_72 K hG (gvs hy 20 rfl) dX6_turn_200 ?_
                refine lv_iload_n hx hb dX6_turn_203 rfl (lv_at hl 4 rfl) ?_
                refine lv_iconst (v := 0) hx hb dX6_turn_204 (by decide) ?_
                refine g_iast K hG hS (gvs hy 27 rfl) rfl (fun _ => rfl) (fun _ q => absurd q.1 (by decide)) ho1 dX6_turn_205 (fun I15 hI15 H locs hG hS => ?_)
                have hok := hok I15 hI15
                refine lv_iload hx hb dX6_turn_206 (lv_at hl 1 rfl) ?_
                refine lv_iconst (v := (-1)) hx hb dX6_turn_208 (by decide) ?_
                refine lv_icmp_ne (tgt := 222) hx hb dX6_turn_209 (by decide) (fun c33 => ?_) (fun c33 => ?_)
                · exact absurd c28 c33
                · skip
                  refine lv_aload_n hx hb dX6_turn_212 rfl (lv_at hl 3 rfl) ?_
                  refine lv_iload_n hx hb dX6_turn_213 rfl (lv_at hl 4 rfl) ?_
                  refine lv_iload hx hb dX6_turn_214 (lv_at hl 0 rfl) ?_
                  obtain ⟨ho34, hok⟩ := hok
                  refine g_kv (g_runV (As := [.int x, .int (f_X6_victimOf I y x)]) (rest := []) K hml ca_X5_steal q939 (m_X5_steal l E J I15 y x (f_X6_victimOf I y x) hy ho34) hG hS (gvs hy 20 rfl) rfl rfl rfl rfl hl.1 (Nat.le_of_ble_eq_true rfl) ⟨by decide, by decide⟩ dX6_turn_216 ⟨Nat.zero_le _, Nat.zero_le _⟩) hS (fun H locs hG hS => ?_)
                  obtain ⟨I16, hI16⟩ : ∃ z, z = f_X5_steal I15 y x (f_X6_victimOf I y x) := ⟨_, rfl⟩
                  rw [← hI16] at hG
                  have hok := hok I16 hI16
                  refine lv_goto (tgt := 242) hx hb dX6_turn_219 (by decide) ?_
                  have eS : I16 = (f_X6_turn I y x b) := (by simp only [f_X6_turn, ← hI15, ← hI16, if_neg c2, if_neg c3, if_pos c4, if_pos c24, if_neg c25, if_pos c28, if_neg c32, if_pos c33])
                  rw [eS] at hG
                  exact g_vret K hG hS hr hlocks dX6_turn_242
              · have hok := hok.1 c32
                refine lv_aload_n hx hb dX6_turn_193 rfl (lv_at hl 3 rfl) ?_
                refine lv_iload_n hx hb dX6_turn_194 rfl (lv_at hl 4 rfl) ?_
                obtain ⟨ho35, hok⟩ := hok
                refine g_kv (g_runV (As := [.int x]) (rest := []) K hml ca_X5_rest q935 (m_X5_rest l E J I y x hy ho35) hG hS (gvs hy 20 rfl) rfl rfl rfl rfl hl.1 (Nat.le_of_ble_eq_true rfl) ⟨by decide, by decide⟩ dX6_turn_195 ⟨Nat.zero_le _, Nat.zero_le _⟩) hS (fun H locs hG hS => ?_)
                obtain ⟨I17, hI17⟩ : ∃ z, z = f_X5_rest I y x := ⟨_, rfl⟩
                rw [← hI17] at hG
                have hok := hok I17 hI17
                have eS : I17 = (f_X6_turn I y x b) := (by simp only [f_X6_turn, ← hI17, if_neg c2, if_neg c3, if_pos c4, if_pos c24, if_neg c25, if_pos c28, if_pos c32])
                rw [eS] at hG
                exact g_vret K hG hS hr hlocks dX6_turn_198
          · have hok := hok.1 c25
            refine lv_aload_n hx hb dX6_turn_88 rfl (lv_at hl 1 rfl) ?_
            refine gf_X6_75 K hG (gvs hy 20 rfl) dX6_turn_89 ?_
            refine lv_iload_n hx hb dX6_turn_92 rfl (lv_at hl 2 rfl) ?_
            refine g_iald K hG (gvs hy 26 rfl) rfl (fun _ => rfl) ho1 dX6_turn_93 ?_
            refine lv_istore (lv' := [(4, .int (I y 26 0 x.toNatClampNeg)), (0, .ref (gA E 2 11 0)), (1, .ref (gA E y 20 0)), (2, .int x), (3, .int b)]) hx hb dX6_turn_94 hl (by decide) rfl (fun ls hl => ?_)
            refine lv_aload_n hx hb dX6_turn_96 rfl (lv_at hl 2 rfl) ?_
            refine gf_X6_72 K hG (gvs hy 20 rfl) dX6_turn_97 ?_
            refine lv_iload_n hx hb dX6_turn_100 rfl (lv_at hl 3 rfl) ?_
            refine lv_iconst (v := 0) hx hb dX6_turn_101 (by decide) ?_
            refine g_iast K hG hS (gvs hy 27 rfl) rfl (fun _ => rfl) (fun _ q => absurd q.1 (by decide)) ho1 dX6_turn_102 (fun I18 hI18 H locs hG hS => ?_)
            have hok := hok I18 hI18
            refine lv_aload_n hx hb dX6_turn_103 rfl (lv_at hl 2 rfl) ?_
            refine gf_X6_88 K hG (gvs hy 20 rfl) dX6_turn_104 ?_
            refine lv_iload hx hb dX6_turn_107 (lv_at hl 0 rfl) ?_
            obtain ⟨ho36, hok⟩ := hok
            refine g_iald K hG (gvs hy 41 rfl) rfl (fun _ => rfl) ho36 dX6_turn_109 ?_
            refine lv_aload_n hx hb dX6_turn_110 rfl (lv_at hl 2 rfl) ?_
            refine gf_X6_52 K hG (gvs hy 20 rfl) dX6_turn_111 ?_
            refine lv_iload hx hb dX6_turn_114 (lv_at hl 0 rfl) ?_
            refine g_iald K hG (gvs hy 40 rfl) rfl (fun _ => rfl) ho36 dX6_turn_116 ?_
            refine lv_icmp_ne (tgt := 152) hx hb dX6_turn_117 (by decide) (fun c37 => ?_) (fun c37 => ?_)
            · have hok := hok.2 c37
              refine lv_aload_n hx hb dX6_turn_152 rfl (lv_at hl 2 rfl) ?_
              refine lv_iload_n hx hb dX6_turn_153 rfl (lv_at hl 3 rfl) ?_
              refine lv_iload hx hb dX6_turn_154 (lv_at hl 0 rfl) ?_
              refine lv_aload_n hx hb dX6_turn_156 rfl (lv_at hl 1 rfl) ?_
              refine gf_X6_9 K hG rfl dX6_turn_157 ?_
              refine lv_iload_n hx hb dX6_turn_160 rfl (lv_at hl 3 rfl) ?_
              refine g_iald K hG rfl rfl (fun _ => rfl) ho1 dX6_turn_161 ?_
              obtain ⟨ho38, hok⟩ := hok
              refine g_kv (g_runV (As := [.int x, .int (I y 26 0 x.toNatClampNeg), .int (I18 2 12 0 x.toNatClampNeg)]) (rest := []) K hml ca_X5_pitch q923 (m_X5_pitch l E J I18 y x (I y 26 0 x.toNatClampNeg) (I18 2 12 0 x.toNatClampNeg) hy ho38) hG hS (gvs hy 20 rfl) rfl rfl rfl rfl hl.1 (Nat.le_of_ble_eq_true rfl) ⟨by decide, by decide⟩ dX6_turn_162 ⟨Nat.zero_le _, Nat.zero_le _⟩) hS (fun H locs hG hS => ?_)
              obtain ⟨I19, hI19⟩ : ∃ z, z = f_X5_pitch I18 y x (I y 26 0 x.toNatClampNeg) (I18 2 12 0 x.toNatClampNeg) := ⟨_, rfl⟩
              rw [← hI19] at hG
              have hok := hok I19 hI19
              have eS : I19 = (f_X6_turn I y x b) := (by simp only [f_X6_turn, ← hI18, ← hI19, if_neg c2, if_neg c3, if_pos c4, if_pos c24, if_pos c25, if_neg c37])
              rw [eS] at hG
              exact g_vret K hG hS hr hlocks dX6_turn_165
            · have hok := hok.1 c37
              refine lv_aload_n hx hb dX6_turn_120 rfl (lv_at hl 2 rfl) ?_
              refine gf_X6_52 K hG (gvs hy 20 rfl) dX6_turn_121 ?_
              refine lv_iload hx hb dX6_turn_124 (lv_at hl 0 rfl) ?_
              refine g_iald K hG (gvs hy 40 rfl) rfl (fun _ => rfl) ho36 dX6_turn_126 ?_
              refine lv_iload_n hx hb dX6_turn_127 rfl (lv_at hl 4 rfl) ?_
              refine lv_icmp_le (tgt := 152) hx hb dX6_turn_128 (by decide) (fun c39 => ?_) (fun c39 => ?_)
              · have hok := hok.1 c39
                refine lv_aload_n hx hb dX6_turn_152 rfl (lv_at hl 2 rfl) ?_
                refine lv_iload_n hx hb dX6_turn_153 rfl (lv_at hl 3 rfl) ?_
                refine lv_iload hx hb dX6_turn_154 (lv_at hl 0 rfl) ?_
                refine lv_aload_n hx hb dX6_turn_156 rfl (lv_at hl 1 rfl) ?_
                refine gf_X6_9 K hG rfl dX6_turn_157 ?_
                refine lv_iload_n hx hb dX6_turn_160 rfl (lv_at hl 3 rfl) ?_
                refine g_iald K hG rfl rfl (fun _ => rfl) ho1 dX6_turn_161 ?_
                obtain ⟨ho40, hok⟩ := hok
                refine g_kv (g_runV (As := [.int x, .int (I y 26 0 x.toNatClampNeg), .int (I18 2 12 0 x.toNatClampNeg)]) (rest := []) K hml ca_X5_pitch q923 (m_X5_pitch l E J I18 y x (I y 26 0 x.toNatClampNeg) (I18 2 12 0 x.toNatClampNeg) hy ho40) hG hS (gvs hy 20 rfl) rfl rfl rfl rfl hl.1 (Nat.le_of_ble_eq_true rfl) ⟨by decide, by decide⟩ dX6_turn_162 ⟨Nat.zero_le _, Nat.zero_le _⟩) hS (fun H locs hG hS => ?_)
                obtain ⟨I20, hI20⟩ : ∃ z, z = f_X5_pitch I18 y x (I y 26 0 x.toNatClampNeg) (I18 2 12 0 x.toNatClampNeg) := ⟨_, rfl⟩
                rw [← hI20] at hG
                have hok := hok I20 hI20
                have eS : I20 = (f_X6_turn I y x b) := (by simp only [f_X6_turn, ← hI18, ← hI20, if_neg c2, if_neg c3, if_pos c4, if_pos c24, if_pos c25, if_pos c37, if_pos c39])
                rw [eS] at hG
                exact g_vret K hG hS hr hlocks dX6_turn_165
              · have hok := hok.2 c39
                refine lv_aload_n hx hb dX6_turn_131 rfl (lv_at hl 2 rfl) ?_
                refine gf_X6_49 K hG (gvs hy 20 rfl) dX6_turn_132 ?_
                refine lv_iload_n hx hb dX6_turn_135 rfl (lv_at hl 3 rfl) ?_
                refine g_iald K hG (gvs hy 31 rfl) rfl (fun _ => rfl) ho1 dX6_turn_136 ?_
                refine lv_bipush (v := 8) hx hb dX6_turn_137 (by decide) ?_
                refine lv_icmp_ge (tgt := 152) hx hb dX6_turn_139 (by decide) (fun c41 => ?_) (fun c41 => ?_)
                · have hok := hok.1 c41
                  refine lv_aload_n hx hb dX6_turn_152 rfl (lv_at hl 2 rfl) ?_
                  refine lv_iload_n hx hb dX6_turn_153 rfl (lv_at hl 3 rfl) ?_
                  refine lv_iload hx hb dX6_turn_154 (lv_at hl 0 rfl) ?_
                  refine lv_aload_n hx hb dX6_turn_156 rfl (lv_at hl 1 rfl) ?_
                  refine gf_X6_9 K hG rfl dX6_turn_157 ?_
                  refine lv_iload_n hx hb dX6_turn_160 rfl (lv_at hl 3 rfl) ?_
                  refine g_iald K hG rfl rfl (fun _ => rfl) ho1 dX6_turn_161 ?_
                  obtain ⟨ho42, hok⟩ := hok
                  refine g_kv (g_runV (As := [.int x, .int (I y 26 0 x.toNatClampNeg), .int (I18 2 12 0 x.toNatClampNeg)]) (rest := []) K hml ca_X5_pitch q923 (m_X5_pitch l E J I18 y x (I y 26 0 x.toNatClampNeg) (I18 2 12 0 x.toNatClampNeg) hy ho42) hG hS (gvs hy 20 rfl) rfl rfl rfl rfl hl.1 (Nat.le_of_ble_eq_true rfl) ⟨by decide, by decide⟩ dX6_turn_162 ⟨Nat.zero_le _, Nat.zero_le _⟩) hS (fun H locs hG hS => ?_)
                  obtain ⟨I21, hI21⟩ : ∃ z, z = f_X5_pitch I18 y x (I y 26 0 x.toNatClampNeg) (I18 2 12 0 x.toNatClampNeg) := ⟨_, rfl⟩
                  rw [← hI21] at hG
                  have hok := hok I21 hI21
                  have eS : I21 = (f_X6_turn I y x b) := (by simp only [f_X6_turn, ← hI18, ← hI21, if_neg c2, if_neg c3, if_pos c4, if_pos c24, if_pos c25, if_pos c37, if_neg c39, if_pos c41])
                  rw [eS] at hG
                  exact g_vret K hG hS hr hlocks dX6_turn_165
                · have hok := hok.2 c41
                  refine lv_aload_n hx hb dX6_turn_142 rfl (lv_at hl 2 rfl) ?_
                  refine lv_iload_n hx hb dX6_turn_143 rfl (lv_at hl 3 rfl) ?_
                  refine lv_iload hx hb dX6_turn_144 (lv_at hl 0 rfl) ?_
                  obtain ⟨ho43, hok⟩ := hok
                  refine g_kv (g_runV (As := [.int x, .int (I y 26 0 x.toNatClampNeg)]) (rest := []) K hml ca_X5_forkIt q914 (m_X5_forkIt l E J I18 y x (I y 26 0 x.toNatClampNeg) hy ho43) hG hS (gvs hy 20 rfl) rfl rfl rfl rfl hl.1 (Nat.le_of_ble_eq_true rfl) ⟨by decide, by decide⟩ dX6_turn_146 ⟨Nat.zero_le _, Nat.zero_le _⟩) hS (fun H locs hG hS => ?_)
                  obtain ⟨I22, hI22⟩ : ∃ z, z = f_X5_forkIt I18 y x (I y 26 0 x.toNatClampNeg) := ⟨_, rfl⟩
                  rw [← hI22] at hG
                  have hok := hok I22 hI22
                  refine lv_goto (tgt := 165) hx hb dX6_turn_149 (by decide) ?_
                  have eS : I22 = (f_X6_turn I y x b) := (by simp only [f_X6_turn, ← hI18, ← hI22, if_neg c2, if_neg c3, if_pos c4, if_pos c24, if_pos c25, if_pos c37, if_neg c39, if_neg c41])
                  rw [eS] at hG
                  exact g_vret K hG hS hr hlocks dX6_turn_165
        · have hok := hok.2 c24
          refine lv_aload_n hx hb dX6_turn_68 rfl (lv_at hl 1 rfl) ?_
          refine lv_iload_n hx hb dX6_turn_69 rfl (lv_at hl 2 rfl) ?_
          refine lv_aload_n hx hb dX6_turn_70 rfl (lv_at hl 1 rfl) ?_
          refine lv_iload_n hx hb dX6_turn_71 rfl (lv_at hl 2 rfl) ?_
          obtain ⟨ho44, hok⟩ := hok
          refine g_ki (g_runV (As := [.int x]) (rest := [.int x, .ref (gA E y 20 0)]) K hml ca_X5_takeNear q905 (m_X5_takeNear l E J I y x hy ho44) hG hS (gvs hy 20 rfl) rfl rfl rfl rfl hl.1 (Nat.le_of_ble_eq_true rfl) ⟨by decide, by decide⟩ dX6_turn_72 ⟨Nat.zero_le _, Nat.zero_le _⟩) hS (fun H locs hG hS => ?_)
          obtain ⟨I23, hI23⟩ : ∃ z, z = f_X5_takeNear_s I y x := ⟨_, rfl⟩
          rw [← hI23] at hG
          have hok := hok I23 hI23
          obtain ⟨ho45, hok⟩ := hok
          refine g_kv (g_runV (As := [.int x, .int (f_X5_takeNear_v I y x)]) (rest := []) K hml ca_X5_hold q910 (m_X5_hold l E J I23 y x (f_X5_takeNear_v I y x) hy ho45) hG hS (gvs hy 20 rfl) rfl rfl rfl rfl hl.1 (Nat.le_of_ble_eq_true rfl) ⟨by decide, by decide⟩ dX6_turn_75 ⟨Nat.zero_le _, Nat.zero_le _⟩) hS (fun H locs hG hS => ?_)
          obtain ⟨I24, hI24⟩ : ∃ z, z = f_X5_hold I23 y x (f_X5_takeNear_v I y x) := ⟨_, rfl⟩
          rw [← hI24] at hG
          have hok := hok I24 hI24
          refine lv_aload_n hx hb dX6_turn_78 rfl (lv_at hl 1 rfl) ?_
          refine gf_X6_66 K hG (gvs hy 20 rfl) dX6_turn_79 ?_
          refine lv_iload_n hx hb dX6_turn_82 rfl (lv_at hl 2 rfl) ?_
          refine g_iald K hG (gvs hy 25 rfl) rfl (fun _ => rfl) ho1 dX6_turn_83 ?_
          refine lv_iconst (v := 1) hx hb dX6_turn_84 (by decide) ?_
          refine lv_icmp_ne (tgt := 166) hx hb dX6_turn_85 (by decide) (fun c46 => ?_) (fun c46 => ?_)
          · have hok := hok.2 c46
            refine lv_aload_n hx hb dX6_turn_166 rfl (lv_at hl 0 rfl) ?_
            refine lv_aload_n hx hb dX6_turn_167 rfl (lv_at hl 1 rfl) ?_
            obtain ⟨ho47, hok⟩ := hok
            refine g_ki (g_runV (As := [.ref (gA E y 20 0)]) (rest := []) K hml ca_X6_inYard q931 (m_X6_inYard l E J I24 y hy ho47) hG hS rfl rfl rfl rfl rfl hl.1 (Nat.le_of_ble_eq_true rfl) ⟨by decide, by decide⟩ dX6_turn_168 ⟨Nat.zero_le _, Nat.zero_le _⟩) hS (fun H locs hG hS => ?_)
            refine lv_istore (lv' := [(4, .int (f_X6_inYard I24 y)), (0, .ref (gA E 2 11 0)), (1, .ref (gA E y 20 0)), (2, .int x), (3, .int b)]) hx hb dX6_turn_171 hl (by decide) rfl (fun ls hl => ?_)
            refine lv_aload_n hx hb dX6_turn_173 rfl (lv_at hl 1 rfl) ?_
            refine lv_aload_n hx hb dX6_turn_174 rfl (lv_at hl 2 rfl) ?_
            refine lv_iload_n hx hb dX6_turn_175 rfl (lv_at hl 3 rfl) ?_
            obtain ⟨ho48, hok⟩ := hok
            refine g_ki (g_runV (As := [.ref (gA E y 20 0), .int x]) (rest := []) K hml ca_X6_victimOf q869 (m_X6_victimOf l E J I24 y x hy ho48) hG hS rfl rfl rfl rfl rfl hl.1 (Nat.le_of_ble_eq_true rfl) ⟨by decide, by decide⟩ dX6_turn_176 ⟨Nat.zero_le _, Nat.zero_le _⟩) hS (fun H locs hG hS => ?_)
            refine lv_istore (lv' := [(5, .int (f_X6_victimOf I24 y x)), (4, .int (f_X6_inYard I24 y)), (0, .ref (gA E 2 11 0)), (1, .ref (gA E y 20 0)), (2, .int x), (3, .int b)]) hx hb dX6_turn_179 hl (by decide) rfl (fun ls hl => ?_)
            refine lv_iload hx hb dX6_turn_181 (lv_at hl 1 rfl) ?_
            refine lv_iconst (v := (-1)) hx hb dX6_turn_183 (by decide) ?_
            refine lv_icmp_ne (tgt := 199) hx hb dX6_turn_184 (by decide) (fun c49 => ?_) (fun c49 => ?_)
            · have hok := hok.2 c49
              refine lv_aload_n hx hb dX6_turn_199 rfl (lv_at hl 3 rfl) ?_
              refine gf_X6_72 K hG (gvs hy 20 rfl) dX6_turn_200 ?_
              refine lv_iload_n hx hb dX6_turn_203 rfl (lv_at hl 4 rfl) ?_
              refine lv_iconst (v := 0) hx hb dX6_turn_204 (by decide) ?_
              refine g_iast K hG hS (gvs hy 27 rfl) rfl (fun _ => rfl) (fun _ q => absurd q.1 (by decide)) ho1 dX6_turn_205 (fun I25 hI25 H locs hG hS => ?_)
              have hok := hok I25 hI25
              refine lv_iload hx hb dX6_turn_206 (lv_at hl 1 rfl) ?_
              refine lv_iconst (v := (-1)) hx hb dX6_turn_208 (by decide) ?_
              refine lv_icmp_ne (tgt := 222) hx hb dX6_turn_209 (by decide) (fun c50 => ?_) (fun c50 => ?_)
              · skip
                refine lv_aload_n hx hb dX6_turn_222 rfl (lv_at hl 3 rfl) ?_
                refine gf_X6_63 K hG (gvs hy 20 rfl) dX6_turn_223 ?_
                refine lv_iload hx hb dX6_turn_226 (lv_at hl 1 rfl) ?_
                refine lv_iconst (v := 1) hx hb dX6_turn_228 (by decide) ?_
                obtain ⟨ho51, hok⟩ := hok
                refine g_iast K hG hS (gvs hy 33 rfl) rfl (fun _ => rfl) (fun _ q => absurd q.1 (by decide)) ho51 dX6_turn_229 (fun I26 hI26 H locs hG hS => ?_)
                have hok := hok I26 hI26
                refine lv_aload_n hx hb dX6_turn_230 rfl (lv_at hl 3 rfl) ?_
                refine lv_iload_n hx hb dX6_turn_231 rfl (lv_at hl 4 rfl) ?_
                refine lv_aload_n hx hb dX6_turn_232 rfl (lv_at hl 3 rfl) ?_
                refine gf_X6_113 K hG (gvs hy 20 rfl) dX6_turn_233 ?_
                refine lv_iload hx hb dX6_turn_236 (lv_at hl 1 rfl) ?_
                refine g_iald K hG (gvs hy 34 rfl) rfl (fun _ => rfl) ho51 dX6_turn_238 ?_
                obtain ⟨ho52, hok⟩ := hok
                refine g_kv (g_runV (As := [.int x, .int (I26 y 34 0 ((f_X6_inYard I24 y).toNatClampNeg))]) (rest := []) K hml ca_X5_hold q910 (m_X5_hold l E J I26 y x (I26 y 34 0 ((f_X6_inYard I24 y).toNatClampNeg)) hy ho52) hG hS (gvs hy 20 rfl) rfl rfl rfl rfl hl.1 (Nat.le_of_ble_eq_true rfl) ⟨by decide, by decide⟩ dX6_turn_239 ⟨Nat.zero_le _, Nat.zero_le _⟩) hS (fun H locs hG hS => ?_)
                obtain ⟨I27, hI27⟩ : ∃ z, z = f_X5_hold I26 y x (I26 y 34 0 ((f_X6_inYard I24 y).toNatClampNeg)) := ⟨_, rfl⟩
                rw [← hI27] at hG
                have hok := hok I27 hI27
                have eS : I27 = (f_X6_turn I y x b) := (by simp only [f_X6_turn, ← hI23, ← hI24, ← hI25, ← hI26, ← hI27, if_neg c2, if_neg c3, if_pos c4, if_neg c24, if_neg c46, if_neg c49, if_neg c50])
                rw [eS] at hG
                exact g_vret K hG hS hr hlocks dX6_turn_242
              · exact absurd c50 c49
            · have hok := hok.1 c49
              refine lv_iload hx hb dX6_turn_187 (lv_at hl 0 rfl) ?_
              refine lv_iconst (v := (-1)) hx hb dX6_turn_189 (by decide) ?_
              refine lv_icmp_ne (tgt := 199) hx hb dX6_turn_190 (by decide) (fun c53 => ?_) (fun c53 => ?_)
              · have hok := hok.2 c53
                refine lv_aload_n hx hb dX6_turn_199 rfl (lv_at hl 3 rfl) ?_
                refine gf_X6_72 K hG (gvs hy 20 rfl) dX6_turn_200 ?_
                refine lv_iload_n hx hb dX6_turn_203 rfl (lv_at hl 4 rfl) ?_
                refine lv_iconst (v := 0) hx hb dX6_turn_204 (by decide) ?_
                refine g_iast K hG hS (gvs hy 27 rfl) rfl (fun _ => rfl) (fun _ q => absurd q.1 (by decide)) ho1 dX6_turn_205 (fun I28 hI28 H locs hG hS => ?_)
                have hok := hok I28 hI28
                refine lv_iload hx hb dX6_turn_206 (lv_at hl 1 rfl) ?_
                refine lv_iconst (v := (-1)) hx hb dX6_turn_208 (by decide) ?_
                refine lv_icmp_ne (tgt := 222) hx hb dX6_turn_209 (by decide) (fun c54 => ?_) (fun c54 => ?_)
                · exact absurd c49 c54
                · skip
                  refine lv_aload_n hx hb dX6_turn_212 rfl (lv_at hl 3 rfl) ?_
                  refine lv_iload_n hx hb dX6_turn_213 rfl (lv_at hl 4 rfl) ?_
                  refine lv_iload hx hb dX6_turn_214 (lv_at hl 0 rfl) ?_
                  obtain ⟨ho55, hok⟩ := hok
                  refine g_kv (g_runV (As := [.int x, .int (f_X6_victimOf I24 y x)]) (rest := []) K hml ca_X5_steal q939 (m_X5_steal l E J I28 y x (f_X6_victimOf I24 y x) hy ho55) hG hS (gvs hy 20 rfl) rfl rfl rfl rfl hl.1 (Nat.le_of_ble_eq_true rfl) ⟨by decide, by decide⟩ dX6_turn_216 ⟨Nat.zero_le _, Nat.zero_le _⟩) hS (fun H locs hG hS => ?_)
                  obtain ⟨I29, hI29⟩ : ∃ z, z = f_X5_steal I28 y x (f_X6_victimOf I24 y x) := ⟨_, rfl⟩
                  rw [← hI29] at hG
                  have hok := hok I29 hI29
                  refine lv_goto (tgt := 242) hx hb dX6_turn_219 (by decide) ?_
                  have eS : I29 = (f_X6_turn I y x b) := (by simp only [f_X6_turn, ← hI23, ← hI24, ← hI28, ← hI29, if_neg c2, if_neg c3, if_pos c4, if_neg c24, if_neg c46, if_pos c49, if_neg c53, if_pos c54])
                  rw [eS] at hG
                  exact g_vret K hG hS hr hlocks dX6_turn_242
              · have hok := hok.1 c53
                refine lv_aload_n hx hb dX6_turn_193 rfl (lv_at hl 3 rfl) ?_
                refine lv_iload_n hx hb dX6_turn_194 rfl (lv_at hl 4 rfl) ?_
                obtain ⟨ho56, hok⟩ := hok
                refine g_kv (g_runV (As := [.int x]) (rest := []) K hml ca_X5_rest q935 (m_X5_rest l E J I24 y x hy ho56) hG hS (gvs hy 20 rfl) rfl rfl rfl rfl hl.1 (Nat.le_of_ble_eq_true rfl) ⟨by decide, by decide⟩ dX6_turn_195 ⟨Nat.zero_le _, Nat.zero_le _⟩) hS (fun H locs hG hS => ?_)
                obtain ⟨I30, hI30⟩ : ∃ z, z = f_X5_rest I24 y x := ⟨_, rfl⟩
                rw [← hI30] at hG
                have hok := hok I30 hI30
                have eS : I30 = (f_X6_turn I y x b) := (by simp only [f_X6_turn, ← hI23, ← hI24, ← hI30, if_neg c2, if_neg c3, if_pos c4, if_neg c24, if_neg c46, if_pos c49, if_pos c53])
                rw [eS] at hG
                exact g_vret K hG hS hr hlocks dX6_turn_198
          · have hok := hok.1 c46
            refine lv_aload_n hx hb dX6_turn_88 rfl (lv_at hl 1 rfl) ?_
            refine gf_X6_75 K hG (gvs hy 20 rfl) dX6_turn_89 ?_
            refine lv_iload_n hx hb dX6_turn_92 rfl (lv_at hl 2 rfl) ?_
            refine g_iald K hG (gvs hy 26 rfl) rfl (fun _ => rfl) ho1 dX6_turn_93 ?_
            refine lv_istore (lv' := [(4, .int (I24 y 26 0 x.toNatClampNeg)), (0, .ref (gA E 2 11 0)), (1, .ref (gA E y 20 0)), (2, .int x), (3, .int b)]) hx hb dX6_turn_94 hl (by decide) rfl (fun ls hl => ?_)
            refine lv_aload_n hx hb dX6_turn_96 rfl (lv_at hl 2 rfl) ?_
            refine gf_X6_72 K hG (gvs hy 20 rfl) dX6_turn_97 ?_
            refine lv_iload_n hx hb dX6_turn_100 rfl (lv_at hl 3 rfl) ?_
            refine lv_iconst (v := 0) hx hb dX6_turn_101 (by decide) ?_
            refine g_iast K hG hS (gvs hy 27 rfl) rfl (fun _ => rfl) (fun _ q => absurd q.1 (by decide)) ho1 dX6_turn_102 (fun I31 hI31 H locs hG hS => ?_)
            have hok := hok I31 hI31
            refine lv_aload_n hx hb dX6_turn_103 rfl (lv_at hl 2 rfl) ?_
            refine gf_X6_88 K hG (gvs hy 20 rfl) dX6_turn_104 ?_
            refine lv_iload hx hb dX6_turn_107 (lv_at hl 0 rfl) ?_
            obtain ⟨ho57, hok⟩ := hok
            refine g_iald K hG (gvs hy 41 rfl) rfl (fun _ => rfl) ho57 dX6_turn_109 ?_
            refine lv_aload_n hx hb dX6_turn_110 rfl (lv_at hl 2 rfl) ?_
            refine gf_X6_52 K hG (gvs hy 20 rfl) dX6_turn_111 ?_
            refine lv_iload hx hb dX6_turn_114 (lv_at hl 0 rfl) ?_
            refine g_iald K hG (gvs hy 40 rfl) rfl (fun _ => rfl) ho57 dX6_turn_116 ?_
            refine lv_icmp_ne (tgt := 152) hx hb dX6_turn_117 (by decide) (fun c58 => ?_) (fun c58 => ?_)
            · have hok := hok.2 c58
              refine lv_aload_n hx hb dX6_turn_152 rfl (lv_at hl 2 rfl) ?_
              refine lv_iload_n hx hb dX6_turn_153 rfl (lv_at hl 3 rfl) ?_
              refine lv_iload hx hb dX6_turn_154 (lv_at hl 0 rfl) ?_
              refine lv_aload_n hx hb dX6_turn_156 rfl (lv_at hl 1 rfl) ?_
              refine gf_X6_9 K hG rfl dX6_turn_157 ?_
              refine lv_iload_n hx hb dX6_turn_160 rfl (lv_at hl 3 rfl) ?_
              refine g_iald K hG rfl rfl (fun _ => rfl) ho1 dX6_turn_161 ?_
              obtain ⟨ho59, hok⟩ := hok
              refine g_kv (g_runV (As := [.int x, .int (I24 y 26 0 x.toNatClampNeg), .int (I31 2 12 0 x.toNatClampNeg)]) (rest := []) K hml ca_X5_pitch q923 (m_X5_pitch l E J I31 y x (I24 y 26 0 x.toNatClampNeg) (I31 2 12 0 x.toNatClampNeg) hy ho59) hG hS (gvs hy 20 rfl) rfl rfl rfl rfl hl.1 (Nat.le_of_ble_eq_true rfl) ⟨by decide, by decide⟩ dX6_turn_162 ⟨Nat.zero_le _, Nat.zero_le _⟩) hS (fun H locs hG hS => ?_)
              obtain ⟨I32, hI32⟩ : ∃ z, z = f_X5_pitch I31 y x (I24 y 26 0 x.toNatClampNeg) (I31 2 12 0 x.toNatClampNeg) := ⟨_, rfl⟩
              rw [← hI32] at hG
              have hok := hok I32 hI32
              have eS : I32 = (f_X6_turn I y x b) := (by simp only [f_X6_turn, ← hI23, ← hI24, ← hI31, ← hI32, if_neg c2, if_neg c3, if_pos c4, if_neg c24, if_pos c46, if_neg c58])
              rw [eS] at hG
              exact g_vret K hG hS hr hlocks dX6_turn_165
            · have hok := hok.1 c58
              refine lv_aload_n hx hb dX6_turn_120 rfl (lv_at hl 2 rfl) ?_
              refine gf_X6_52 K hG (gvs hy 20 rfl) dX6_turn_121 ?_
              refine lv_iload hx hb dX6_turn_124 (lv_at hl 0 rfl) ?_
              refine g_iald K hG (gvs hy 40 rfl) rfl (fun _ => rfl) ho57 dX6_turn_126 ?_
              refine lv_iload_n hx hb dX6_turn_127 rfl (lv_at hl 4 rfl) ?_
              refine lv_icmp_le (tgt := 152) hx hb dX6_turn_128 (by decide) (fun c60 => ?_) (fun c60 => ?_)
              · have hok := hok.1 c60
                refine lv_aload_n hx hb dX6_turn_152 rfl (lv_at hl 2 rfl) ?_
                refine lv_iload_n hx hb dX6_turn_153 rfl (lv_at hl 3 rfl) ?_
                refine lv_iload hx hb dX6_turn_154 (lv_at hl 0 rfl) ?_
                refine lv_aload_n hx hb dX6_turn_156 rfl (lv_at hl 1 rfl) ?_
                refine gf_X6_9 K hG rfl dX6_turn_157 ?_
                refine lv_iload_n hx hb dX6_turn_160 rfl (lv_at hl 3 rfl) ?_
                refine g_iald K hG rfl rfl (fun _ => rfl) ho1 dX6_turn_161 ?_
                obtain ⟨ho61, hok⟩ := hok
                refine g_kv (g_runV (As := [.int x, .int (I24 y 26 0 x.toNatClampNeg), .int (I31 2 12 0 x.toNatClampNeg)]) (rest := []) K hml ca_X5_pitch q923 (m_X5_pitch l E J I31 y x (I24 y 26 0 x.toNatClampNeg) (I31 2 12 0 x.toNatClampNeg) hy ho61) hG hS (gvs hy 20 rfl) rfl rfl rfl rfl hl.1 (Nat.le_of_ble_eq_true rfl) ⟨by decide, by decide⟩ dX6_turn_162 ⟨Nat.zero_le _, Nat.zero_le _⟩) hS (fun H locs hG hS => ?_)
                obtain ⟨I33, hI33⟩ : ∃ z, z = f_X5_pitch I31 y x (I24 y 26 0 x.toNatClampNeg) (I31 2 12 0 x.toNatClampNeg) := ⟨_, rfl⟩
                rw [← hI33] at hG
                have hok := hok I33 hI33
                have eS : I33 = (f_X6_turn I y x b) := (by simp only [f_X6_turn, ← hI23, ← hI24, ← hI31, ← hI33, if_neg c2, if_neg c3, if_pos c4, if_neg c24, if_pos c46, if_pos c58, if_pos c60])
                rw [eS] at hG
                exact g_vret K hG hS hr hlocks dX6_turn_165
              · have hok := hok.2 c60
                refine lv_aload_n hx hb dX6_turn_131 rfl (lv_at hl 2 rfl) ?_
                refine gf_X6_49 K hG (gvs hy 20 rfl) dX6_turn_132 ?_
                refine lv_iload_n hx hb dX6_turn_135 rfl (lv_at hl 3 rfl) ?_
                refine g_iald K hG (gvs hy 31 rfl) rfl (fun _ => rfl) ho1 dX6_turn_136 ?_
                refine lv_bipush (v := 8) hx hb dX6_turn_137 (by decide) ?_
                refine lv_icmp_ge (tgt := 152) hx hb dX6_turn_139 (by decide) (fun c62 => ?_) (fun c62 => ?_)
                · have hok := hok.1 c62
                  refine lv_aload_n hx hb dX6_turn_152 rfl (lv_at hl 2 rfl) ?_
                  refine lv_iload_n hx hb dX6_turn_153 rfl (lv_at hl 3 rfl) ?_
                  refine lv_iload hx hb dX6_turn_154 (lv_at hl 0 rfl) ?_
                  refine lv_aload_n hx hb dX6_turn_156 rfl (lv_at hl 1 rfl) ?_
                  refine gf_X6_9 K hG rfl dX6_turn_157 ?_
                  refine lv_iload_n hx hb dX6_turn_160 rfl (lv_at hl 3 rfl) ?_
                  refine g_iald K hG rfl rfl (fun _ => rfl) ho1 dX6_turn_161 ?_
                  obtain ⟨ho63, hok⟩ := hok
                  refine g_kv (g_runV (As := [.int x, .int (I24 y 26 0 x.toNatClampNeg), .int (I31 2 12 0 x.toNatClampNeg)]) (rest := []) K hml ca_X5_pitch q923 (m_X5_pitch l E J I31 y x (I24 y 26 0 x.toNatClampNeg) (I31 2 12 0 x.toNatClampNeg) hy ho63) hG hS (gvs hy 20 rfl) rfl rfl rfl rfl hl.1 (Nat.le_of_ble_eq_true rfl) ⟨by decide, by decide⟩ dX6_turn_162 ⟨Nat.zero_le _, Nat.zero_le _⟩) hS (fun H locs hG hS => ?_)
                  obtain ⟨I34, hI34⟩ : ∃ z, z = f_X5_pitch I31 y x (I24 y 26 0 x.toNatClampNeg) (I31 2 12 0 x.toNatClampNeg) := ⟨_, rfl⟩
                  rw [← hI34] at hG
                  have hok := hok I34 hI34
                  have eS : I34 = (f_X6_turn I y x b) := (by simp only [f_X6_turn, ← hI23, ← hI24, ← hI31, ← hI34, if_neg c2, if_neg c3, if_pos c4, if_neg c24, if_pos c46, if_pos c58, if_neg c60, if_pos c62])
                  rw [eS] at hG
                  exact g_vret K hG hS hr hlocks dX6_turn_165
                · have hok := hok.2 c62
                  refine lv_aload_n hx hb dX6_turn_142 rfl (lv_at hl 2 rfl) ?_
                  refine lv_iload_n hx hb dX6_turn_143 rfl (lv_at hl 3 rfl) ?_
                  refine lv_iload hx hb dX6_turn_144 (lv_at hl 0 rfl) ?_
                  obtain ⟨ho64, hok⟩ := hok
                  refine g_kv (g_runV (As := [.int x, .int (I24 y 26 0 x.toNatClampNeg)]) (rest := []) K hml ca_X5_forkIt q914 (m_X5_forkIt l E J I31 y x (I24 y 26 0 x.toNatClampNeg) hy ho64) hG hS (gvs hy 20 rfl) rfl rfl rfl rfl hl.1 (Nat.le_of_ble_eq_true rfl) ⟨by decide, by decide⟩ dX6_turn_146 ⟨Nat.zero_le _, Nat.zero_le _⟩) hS (fun H locs hG hS => ?_)
                  obtain ⟨I35, hI35⟩ : ∃ z, z = f_X5_forkIt I31 y x (I24 y 26 0 x.toNatClampNeg) := ⟨_, rfl⟩
                  rw [← hI35] at hG
                  have hok := hok I35 hI35
                  refine lv_goto (tgt := 165) hx hb dX6_turn_149 (by decide) ?_
                  have eS : I35 = (f_X6_turn I y x b) := (by simp only [f_X6_turn, ← hI23, ← hI24, ← hI31, ← hI35, if_neg c2, if_neg c3, if_pos c4, if_neg c24, if_pos c46, if_pos c58, if_neg c60, if_neg c62])
                  rw [eS] at hG
                  exact g_vret K hG hS hr hlocks dX6_turn_165
    · have hok := hok.1 c3
      refine lv_aload_n hx hb dX6_turn_21 rfl (lv_at hl 1 rfl) ?_
      refine lv_dup hx hb dX6_turn_22 rfl ?_
      refine gf_X6_69 K hG (gvs hy 20 rfl) dX6_turn_23 ?_
      refine lv_iconst (v := 1) hx hb dX6_turn_26 (by decide) ?_
      refine lv_iadd hx hb dX6_turn_27 ?_
      refine pf_X6_69 K hG hS (gvs hy 20 rfl) dX6_turn_28 (fun I36 hI36 H locs hG hS => ?_)
      have hok := hok I36 hI36
      refine lv_aload_n hx hb dX6_turn_31 rfl (lv_at hl 1 rfl) ?_
      refine gf_X6_72 K hG (gvs hy 20 rfl) dX6_turn_32 ?_
      refine lv_iload_n hx hb dX6_turn_35 rfl (lv_at hl 2 rfl) ?_
      refine lv_iconst (v := 0) hx hb dX6_turn_36 (by decide) ?_
      refine g_iast K hG hS (gvs hy 27 rfl) rfl (fun _ => rfl) (fun _ q => absurd q.1 (by decide)) ho1 dX6_turn_37 (fun I37 hI37 H locs hG hS => ?_)
      have hok := hok I37 hI37
      refine lv_aload_n hx hb dX6_turn_38 rfl (lv_at hl 1 rfl) ?_
      refine lv_iload_n hx hb dX6_turn_39 rfl (lv_at hl 2 rfl) ?_
      refine lv_aload_n hx hb dX6_turn_40 rfl (lv_at hl 1 rfl) ?_
      refine gf_X6_75 K hG (gvs hy 20 rfl) dX6_turn_41 ?_
      refine lv_iload_n hx hb dX6_turn_44 rfl (lv_at hl 2 rfl) ?_
      refine g_iald K hG (gvs hy 26 rfl) rfl (fun _ => rfl) ho1 dX6_turn_45 ?_
      obtain ⟨ho65, hok⟩ := hok
      refine g_kv (g_runV (As := [.int x, .int (I37 y 26 0 x.toNatClampNeg)]) (rest := []) K hml ca_X5_finish q901 (m_X5_finish l E J I37 y x (I37 y 26 0 x.toNatClampNeg) hy ho65) hG hS (gvs hy 20 rfl) rfl rfl rfl rfl hl.1 (Nat.le_of_ble_eq_true rfl) ⟨by decide, by decide⟩ dX6_turn_46 ⟨Nat.zero_le _, Nat.zero_le _⟩) hS (fun H locs hG hS => ?_)
      obtain ⟨I38, hI38⟩ : ∃ z, z = f_X5_finish I37 y x (I37 y 26 0 x.toNatClampNeg) := ⟨_, rfl⟩
      rw [← hI38] at hG
      have hok := hok I38 hI38
      have eS : I38 = (f_X6_turn I y x b) := (by simp only [f_X6_turn, ← hI36, ← hI37, ← hI38, if_neg c2, if_pos c3])
      rw [eS] at hG
      exact g_vret K hG hS hr hlocks dX6_turn_49
  · have hok := hok.1 c2
    have eS : I = (f_X6_turn I y x b) := (by simp only [f_X6_turn, if_pos c2])
    rw [eS] at hG
    exact g_vret K hG hS hr hlocks dX6_turn_10
def f_X6_pass_l1 (y : Nat) (b : Int32) : Nat → Nat → gI → gI
  | 0, i, I1 =>
    let I2 := gU I1 y 20 0 0 ((I1 y 20 0 0) + 1)
    I2
  | n + 1, i, I1 =>
    let I3 := f_X6_turn I1 y (nI i) b
    f_X6_pass_l1 y b n (i + 1) I3
def ok_f_X6_pass_l1 (y : Nat) (b : Int32) : Nat → Nat → gI → Prop
  | 0, i, I1 =>
    (I1 2 11 0 1) = nI (i + 0) ∧
    ∀ I2, I2 = gU I1 y 20 0 0 ((I1 y 20 0 0) + 1) →
    True
  | n + 1, i, I1 =>
    (I1 2 11 0 1) = nI (i + (n + 1)) ∧
    ok_X6_turn I1 y (nI i) b ∧
    ∀ I3, I3 = f_X6_turn I1 y (nI i) b →
    ok_f_X6_pass_l1 y b n (i + 1) I3
def ok_X6_pass (I : gI) (y : Nat) (b : Int32) : Prop :=
  isN (I 2 11 0 1) 6 ∧
  ok_f_X6_pass_l1 y b ((I 2 11 0 1).toNatClampNeg) 0 I
def f_X6_pass (I : gI) (y : Nat) (b : Int32) : gI :=
  f_X6_pass_l1 y b ((I 2 11 0 1).toNatClampNeg) 0 I
set_option maxRecDepth 100000 in
theorem ne_f_X6_pass_l1 (I : gI) (y : Nat) (b : Int32) (hy : y = 3 ∨ y = 4) {y' : Nat} (hne : y' ≠ y) : ∀ (n i : Nat) (I1 : gI), f_X6_pass_l1 y b n i I1 y' = I1 y' := by
  intro n
  induction n with
  | zero =>
    intro i I1
    have hn1 : I1 y' = I1 y' := rfl
    obtain ⟨I2, hI2⟩ : ∃ z, z = gU I1 y 20 0 0 ((I1 y 20 0 0) + 1) := ⟨_, rfl⟩
    have hn2 : I2 y' = I1 y' := by rw [hI2]; exact (gU_ne _ _ _ _ _ hne).trans hn1
    have eS : f_X6_pass_l1 y b 0 i I1 = I2 := by simp only [f_X6_pass_l1, ← hI2]
    exact (congrFun eS y').trans hn2
  | succ n ih =>
    intro i I1
    have hn1 : I1 y' = I1 y' := rfl
    obtain ⟨I3, hI3⟩ : ∃ z, z = f_X6_turn I1 y (nI i) b := ⟨_, rfl⟩
    have hn3 : I3 y' = I1 y' := by rw [hI3]; exact (ne_X6_turn I1 y (nI i) b hy (y' := y') hne).trans hn1
    have eS : f_X6_pass_l1 y b (n + 1) i I1 = f_X6_pass_l1 y b n (i + 1) I3 := by simp only [f_X6_pass_l1, ← hI3]
    exact (congrFun eS y').trans ((ih (i + 1) I3).trans hn3)
set_option maxRecDepth 100000 in
theorem ne_X6_pass (I : gI) (y : Nat) (b : Int32) (hy : y = 3 ∨ y = 4) {y' : Nat} (hne : y' ≠ y) : f_X6_pass I y b y' = I y' := by
  have hn : I y' = I y' := rfl
  have eS : f_X6_pass I y b = f_X6_pass_l1 y b ((I 2 11 0 1).toNatClampNeg) 0 I := by simp only [f_X6_pass]
  exact (congrFun eS y').trans ((ne_f_X6_pass_l1 I y b hy hne ((I 2 11 0 1).toNatClampNeg) 0 I).trans hn)
set_option maxHeartbeats 4000000 in
set_option maxRecDepth 100000 in
theorem m_X6_pass (l : Launch) (E : gE) (J : Int64) (I : gI) (y : Nat) (b : Int32) (hy : y = 3 ∨ y = 4) (hok : ok_X6_pass I y b) : gMv l E J yX6_pass cX6_pass 4 none 4 112 [.ref (gA E 2 11 0), .ref (gA E y 20 0), .int b] I (f_X6_pass I y b) := by
  refine g_entry (lv := [(0, .ref (gA E 2 11 0)), (1, .ref (gA E y 20 0)), (2, .int b)]) (by decide) (Nat.le_of_ble_eq_true rfl) rfl ?_
  intro p e s m below meth c0 ls K hG hS hml hr hlocks hl
  have K : kx E p m c0 cX6_pass "HayThievesModel" _ s := K
  have hx := K.1
  have hb := K.2.1
  have hts := K.2.2.1
  have hown := K.2.2.2.1
  have hSt := K.2.2.2.2
  unfold ok_X6_pass at hok
  refine lv_iconst (v := 0) hx hb dX6_pass_0 (by decide) ?_
  refine lv_istore_n (lv' := [(3, .int 0), (0, .ref (gA E 2 11 0)), (1, .ref (gA E y 20 0)), (2, .int b)]) hx hb dX6_pass_1 rfl hl (by decide) rfl (fun ls hl => ?_)
  obtain ⟨ho1, hok⟩ := hok
  have hNb := ho1.1
  have hL_l1 : ∀ (n i : Nat)  (I1 : gI) (H : Heap) (locs : List Loc) (ls : Array Slot), i + n = (I 2 11 0 1).toNatClampNeg → f_X6_pass_l1 y b n i I1 = (f_X6_pass I y b) → ok_f_X6_pass_l1 y b n i I1 → GW E J I1 H → va_S (gF E) s.heap H locs → lv_has ls 4 [(3, .int (nI i)), (0, .ref (gA E 2 11 0)), (1, .ref (gA E y 20 0)), (2, .int b)] → W p l e (grm 4 112) s m ([.ref (gA E 2 11 0), .ref (gA E y 20 0), .int b] : List Value).toArray below meth c0 H locs 0 0 (MQ below (va_Qv (fun (_ : Unit) => True) (fun _ t => GW E J (f_X6_pass I y b) t.heap) (gF E)) ([.ref (gA E 2 11 0), .ref (gA E y 20 0), .int b] : List Value).toArray s 0 0 (gF E)) (F0 m 2 ls []) := by
    intro n
    induction n with
    | zero =>
      intro i I1 H locs ls hin hTs hok hG hS hl
      unfold ok_f_X6_pass_l1 at hok
      obtain ⟨ho2, hok⟩ := hok
      refine lv_iload_n hx hb dX6_pass_2 rfl (lv_at hl 0 rfl) ?_
      refine lv_aload_n hx hb dX6_pass_3 rfl (lv_at hl 1 rfl) ?_
      refine gf_X6_39 K hG rfl dX6_pass_4 ?_
      refine lv_icmp_ge (tgt := 23) hx hb dX6_pass_7 (by decide) (fun c3 => ?_) (fun c3 => ?_)
      · skip
        refine lv_aload_n hx hb dX6_pass_23 rfl (lv_at hl 2 rfl) ?_
        refine lv_dup hx hb dX6_pass_24 rfl ?_
        refine gf_X6_120 K hG (gvs hy 20 rfl) dX6_pass_25 ?_
        refine lv_iconst (v := 1) hx hb dX6_pass_28 (by decide) ?_
        refine lv_iadd hx hb dX6_pass_29 ?_
        refine pf_X6_120 K hG hS (gvs hy 20 rfl) dX6_pass_30 (fun I2 hI2 H locs hG hS => ?_)
        have hok := hok I2 hI2
        have eS : I2 = (f_X6_pass I y b) := (by rw [← hTs]; simp only [f_X6_pass_l1, ← hI2, if_pos c3])
        rw [eS] at hG
        exact g_vret K hG hS hr hlocks dX6_pass_33
      · exact absurd (lp_ge ho2 (by omega) rfl) c3
    | succ n ih =>
      intro i I1 H locs ls hin hTs hok hG hS hl
      unfold ok_f_X6_pass_l1 at hok
      obtain ⟨ho4, hok⟩ := hok
      refine lv_iload_n hx hb dX6_pass_2 rfl (lv_at hl 0 rfl) ?_
      refine lv_aload_n hx hb dX6_pass_3 rfl (lv_at hl 1 rfl) ?_
      refine gf_X6_39 K hG rfl dX6_pass_4 ?_
      refine lv_icmp_ge (tgt := 23) hx hb dX6_pass_7 (by decide) (fun c5 => ?_) (fun c5 => ?_)
      · exact absurd c5 (lp_nge ho4 (by omega) rfl)
      · skip
        refine lv_aload_n hx hb dX6_pass_10 rfl (lv_at hl 1 rfl) ?_
        refine lv_aload_n hx hb dX6_pass_11 rfl (lv_at hl 2 rfl) ?_
        refine lv_iload_n hx hb dX6_pass_12 rfl (lv_at hl 0 rfl) ?_
        refine lv_iload_n hx hb dX6_pass_13 rfl (lv_at hl 3 rfl) ?_
        obtain ⟨ho6, hok⟩ := hok
        refine g_kv (g_runV (As := [.ref (gA E y 20 0), .int (nI i), .int b]) (rest := []) K hml ca_X6_turn q897 (m_X6_turn l E J I1 y (nI i) b hy ho6) hG hS rfl rfl rfl rfl rfl hl.1 (Nat.le_of_ble_eq_true rfl) ⟨by decide, by decide⟩ dX6_pass_14 ⟨Nat.zero_le _, Nat.zero_le _⟩) hS (fun H locs hG hS => ?_)
        obtain ⟨I3, hI3⟩ : ∃ z, z = f_X6_turn I1 y (nI i) b := ⟨_, rfl⟩
        rw [← hI3] at hG
        have hok := hok I3 hI3
        refine lv_iinc (v := (nI (i + 1))) (lv' := [(3, .int (nI (i + 1))), (0, .ref (gA E 2 11 0)), (1, .ref (gA E y 20 0)), (2, .int b)]) hx hb dX6_pass_17 hl (k := 0) rfl (nI_add i 1) (by decide) rfl (fun ls hl => ?_)
        refine lv_goto (tgt := 2) hx hb dX6_pass_20 (by decide) ?_
        exact ih (i + 1) I3 _ _ _ (by omega) (by rw [← hTs]; simp only [f_X6_pass_l1, ← hI3, if_neg c5]) hok hG hS (lv_sub hl [0, 1, 2, 3] rfl)
  exact hL_l1 ((I 2 11 0 1).toNatClampNeg) 0 I _ _ _ (Nat.zero_add _) (by simp only [f_X6_pass]) hok hG hS (lv_sub hl [0, 1, 2, 3] rfl)
def f_X6_passAll_l1_s (y : Nat) (x b : Int32) : Nat → Nat → gI → gI
  | 0, i, I1 =>
    I1
  | n + 1, i, I1 =>
    let I2 := f_X6_pass I1 y b
    f_X6_passAll_l1_s y x b n (i + 1) I2
def ok_f_X6_passAll_l1 (y : Nat) (x b : Int32) : Nat → Nat → gI → Prop
  | 0, i, I1 =>
    x = nI (i + 0) ∧
    True
  | n + 1, i, I1 =>
    x = nI (i + (n + 1)) ∧
    ok_X6_pass I1 y b ∧
    ∀ I2, I2 = f_X6_pass I1 y b →
    ok_f_X6_passAll_l1 y x b n (i + 1) I2
def ok_X6_passAll (I : gI) (y : Nat) (x b : Int32) : Prop :=
  isN x 400 ∧
  ok_f_X6_passAll_l1 y x b x.toNatClampNeg 0 I
def f_X6_passAll_s (I : gI) (y : Nat) (x b : Int32) : gI :=
  f_X6_passAll_l1_s y x b x.toNatClampNeg 0 I
set_option maxRecDepth 100000 in
theorem ne_f_X6_passAll_l1_s (I : gI) (y : Nat) (x b : Int32) (hy : y = 3 ∨ y = 4) {y' : Nat} (hne : y' ≠ y) : ∀ (n i : Nat) (I1 : gI), f_X6_passAll_l1_s y x b n i I1 y' = I1 y' := by
  intro n
  induction n with
  | zero =>
    intro i I1
    have hn1 : I1 y' = I1 y' := rfl
    have eS : f_X6_passAll_l1_s y x b 0 i I1 = I1 := by simp only [f_X6_passAll_l1_s]
    exact (congrFun eS y').trans hn1
  | succ n ih =>
    intro i I1
    have hn1 : I1 y' = I1 y' := rfl
    obtain ⟨I2, hI2⟩ : ∃ z, z = f_X6_pass I1 y b := ⟨_, rfl⟩
    have hn2 : I2 y' = I1 y' := by rw [hI2]; exact (ne_X6_pass I1 y b hy (y' := y') hne).trans hn1
    have eS : f_X6_passAll_l1_s y x b (n + 1) i I1 = f_X6_passAll_l1_s y x b n (i + 1) I2 := by simp only [f_X6_passAll_l1_s, ← hI2]
    exact (congrFun eS y').trans ((ih (i + 1) I2).trans hn2)
set_option maxRecDepth 100000 in
theorem ne_X6_passAll (I : gI) (y : Nat) (x b : Int32) (hy : y = 3 ∨ y = 4) {y' : Nat} (hne : y' ≠ y) : f_X6_passAll_s I y x b y' = I y' := by
  have hn : I y' = I y' := rfl
  have eS : f_X6_passAll_s I y x b = f_X6_passAll_l1_s y x b x.toNatClampNeg 0 I := by simp only [f_X6_passAll_s]
  exact (congrFun eS y').trans ((ne_f_X6_passAll_l1_s I y x b hy hne x.toNatClampNeg 0 I).trans hn)
set_option maxHeartbeats 4000000 in
set_option maxRecDepth 100000 in
theorem m_X6_passAll (l : Launch) (E : gE) (J : Int64) (I : gI) (y : Nat) (x b : Int32) (hy : y = 3 ∨ y = 4) (hok : ok_X6_passAll I y x b) : gMr l E J yX6_passAll cX6_passAll 5 (some (.object "HayThievesModel$State")) 5 135 [.ref (gA E 2 11 0), .ref (gA E y 20 0), .int x, .int b] I (gA E y 20 0) (f_X6_passAll_s I y x b) := by
  refine g_entry (lv := [(0, .ref (gA E 2 11 0)), (1, .ref (gA E y 20 0)), (2, .int x), (3, .int b)]) (by decide) (Nat.le_of_ble_eq_true rfl) rfl ?_
  intro p e s m below meth c0 ls K hG hS hml hr hlocks hl
  have K : kx E p m c0 cX6_passAll "HayThievesModel" _ s := K
  have hx := K.1
  have hb := K.2.1
  have hts := K.2.2.1
  have hown := K.2.2.2.1
  have hSt := K.2.2.2.2
  unfold ok_X6_passAll at hok
  refine lv_iconst (v := 0) hx hb dX6_passAll_0 (by decide) ?_
  refine lv_istore (lv' := [(4, .int 0), (0, .ref (gA E 2 11 0)), (1, .ref (gA E y 20 0)), (2, .int x), (3, .int b)]) hx hb dX6_passAll_1 hl (by decide) rfl (fun ls hl => ?_)
  obtain ⟨ho1, hok⟩ := hok
  have hNb := ho1.1
  have hL_l1 : ∀ (n i : Nat)  (I1 : gI) (H : Heap) (locs : List Loc) (ls : Array Slot), i + n = x.toNatClampNeg → f_X6_passAll_l1_s y x b n i I1 = (f_X6_passAll_s I y x b) → ok_f_X6_passAll_l1 y x b n i I1 → GW E J I1 H → va_S (gF E) s.heap H locs → lv_has ls 5 [(4, .int (nI i)), (0, .ref (gA E 2 11 0)), (1, .ref (gA E y 20 0)), (2, .int x), (3, .int b)] → W p l e (grm 5 135) s m ([.ref (gA E 2 11 0), .ref (gA E y 20 0), .int x, .int b] : List Value).toArray below meth c0 H locs 0 0 (MQ below (va_Qr (fun (_ : Unit) => True) (fun _ a9 t => a9 = gA E y 20 0 ∧ GW E J (f_X6_passAll_s I y x b) t.heap) (gF E)) ([.ref (gA E 2 11 0), .ref (gA E y 20 0), .int x, .int b] : List Value).toArray s 0 0 (gF E)) (F0 m 3 ls []) := by
    intro n
    induction n with
    | zero =>
      intro i I1 H locs ls hin hTs hok hG hS hl
      unfold ok_f_X6_passAll_l1 at hok
      obtain ⟨ho2, hok⟩ := hok
      refine lv_iload hx hb dX6_passAll_3 (lv_at hl 0 rfl) ?_
      refine lv_iload_n hx hb dX6_passAll_5 rfl (lv_at hl 3 rfl) ?_
      refine lv_icmp_ge (tgt := 21) hx hb dX6_passAll_6 (by decide) (fun c3 => ?_) (fun c3 => ?_)
      · skip
        refine lv_aload_n hx hb dX6_passAll_21 rfl (lv_at hl 2 rfl) ?_
        have eS : I1 = (f_X6_passAll_s I y x b) := (by rw [← hTs]; simp only [f_X6_passAll_l1_s, if_pos c3])
        rw [eS] at hG
        exact g_aret K hG hS hr (Or.inl ⟨_, rfl⟩) hlocks rfl dX6_passAll_22
      · exact absurd (lp_ge ho2 (by omega) rfl) c3
    | succ n ih =>
      intro i I1 H locs ls hin hTs hok hG hS hl
      unfold ok_f_X6_passAll_l1 at hok
      obtain ⟨ho4, hok⟩ := hok
      refine lv_iload hx hb dX6_passAll_3 (lv_at hl 0 rfl) ?_
      refine lv_iload_n hx hb dX6_passAll_5 rfl (lv_at hl 3 rfl) ?_
      refine lv_icmp_ge (tgt := 21) hx hb dX6_passAll_6 (by decide) (fun c5 => ?_) (fun c5 => ?_)
      · exact absurd c5 (lp_nge ho4 (by omega) rfl)
      · skip
        refine lv_aload_n hx hb dX6_passAll_9 rfl (lv_at hl 1 rfl) ?_
        refine lv_aload_n hx hb dX6_passAll_10 rfl (lv_at hl 2 rfl) ?_
        refine lv_iload_n hx hb dX6_passAll_11 rfl (lv_at hl 4 rfl) ?_
        obtain ⟨ho6, hok⟩ := hok
        refine g_kv (g_runV (As := [.ref (gA E y 20 0), .int b]) (rest := []) K hml ca_X6_pass q893 (m_X6_pass l E J I1 y b hy ho6) hG hS rfl rfl rfl rfl rfl hl.1 (Nat.le_of_ble_eq_true rfl) ⟨by decide, by decide⟩ dX6_passAll_12 ⟨Nat.zero_le _, Nat.zero_le _⟩) hS (fun H locs hG hS => ?_)
        obtain ⟨I2, hI2⟩ : ∃ z, z = f_X6_pass I1 y b := ⟨_, rfl⟩
        rw [← hI2] at hG
        have hok := hok I2 hI2
        refine lv_iinc (v := (nI (i + 1))) (lv' := [(4, .int (nI (i + 1))), (0, .ref (gA E 2 11 0)), (1, .ref (gA E y 20 0)), (2, .int x), (3, .int b)]) hx hb dX6_passAll_15 hl (k := 0) rfl (nI_add i 1) (by decide) rfl (fun ls hl => ?_)
        refine lv_goto (tgt := 3) hx hb dX6_passAll_18 (by decide) ?_
        exact ih (i + 1) I2 _ _ _ (by omega) (by rw [← hTs]; simp only [f_X6_passAll_l1_s, ← hI2, if_neg c5]) hok hG hS (lv_sub hl [0, 1, 2, 3, 4] rfl)
  exact hL_l1 x.toNatClampNeg 0 I _ _ _ (Nat.zero_add _) (by simp only [f_X6_passAll_s]) hok hG hS (lv_sub hl [0, 1, 2, 3, 4] rfl)
def f_X6_sleepers_l1 (y : Nat) : Nat → Nat → Int32 → gI → Int32
  | 0, i, a, I =>
    a
  | n + 1, i, a, I =>
    if (I y 25 0 i) = 3 then
      f_X6_sleepers_l1 y n (i + 1) (a + 1) I
    else
      f_X6_sleepers_l1 y n (i + 1) (a + 0) I
def ok_f_X6_sleepers_l1 (y : Nat) : Nat → Nat → Int32 → gI → Prop
  | 0, i, a, I =>
    True
  | n + 1, i, a, I =>
    (((I y 25 0 i) = 3) →
      ok_f_X6_sleepers_l1 y n (i + 1) (a + 1) I) ∧
    (¬ ((I y 25 0 i) = 3) →
      ok_f_X6_sleepers_l1 y n (i + 1) (a + 0) I)
def ok_X6_sleepers (I : gI) (y : Nat) : Prop :=
  isN (I 2 11 0 1) 6 ∧
  ok_f_X6_sleepers_l1 y ((I 2 11 0 1).toNatClampNeg) 0 0 I
def f_X6_sleepers (I : gI) (y : Nat) : Int32 :=
  f_X6_sleepers_l1 y ((I 2 11 0 1).toNatClampNeg) 0 0 I
set_option maxHeartbeats 4000000 in
set_option maxRecDepth 100000 in
theorem m_X6_sleepers (l : Launch) (E : gE) (J : Int64) (I : gI) (y : Nat) (hy : y = 3 ∨ y = 4) (hok : ok_X6_sleepers I y) : gMi l E J yX6_sleepers cX6_sleepers 4 (some .int) 0 0 [.ref (gA E 2 11 0), .ref (gA E y 20 0)] I (f_X6_sleepers I y) I := by
  refine g_entry (lv := [(0, .ref (gA E 2 11 0)), (1, .ref (gA E y 20 0))]) (by decide) (Nat.le_of_ble_eq_true rfl) rfl ?_
  intro p e s m below meth c0 ls K hG hS hml hr hlocks hl
  have K : kx E p m c0 cX6_sleepers "HayThievesModel" _ s := K
  have hx := K.1
  have hb := K.2.1
  have hts := K.2.2.1
  have hown := K.2.2.2.1
  have hSt := K.2.2.2.2
  unfold ok_X6_sleepers at hok
  refine lv_iconst (v := 0) hx hb dX6_sleepers_0 (by decide) ?_
  refine lv_istore_n (lv' := [(2, .int 0), (0, .ref (gA E 2 11 0)), (1, .ref (gA E y 20 0))]) hx hb dX6_sleepers_1 rfl hl (by decide) rfl (fun ls hl => ?_)
  refine lv_iconst (v := 0) hx hb dX6_sleepers_2 (by decide) ?_
  refine lv_istore_n (lv' := [(3, .int 0), (2, .int 0), (0, .ref (gA E 2 11 0)), (1, .ref (gA E y 20 0))]) hx hb dX6_sleepers_3 rfl hl (by decide) rfl (fun ls hl => ?_)
  obtain ⟨ho1, hok⟩ := hok
  have hNb := ho1.1
  have hL_l1 : ∀ (n i : Nat) (a : Int32) (H : Heap) (locs : List Loc) (ls : Array Slot), i + n = (I 2 11 0 1).toNatClampNeg → f_X6_sleepers_l1 y n i a I = f_X6_sleepers I y → ok_f_X6_sleepers_l1 y n i a I → GW E J I H → va_S (gF E) s.heap H locs → lv_has ls 4 [(3, .int (nI i)), (2, .int a), (0, .ref (gA E 2 11 0)), (1, .ref (gA E y 20 0))] → W p l e (grm 0 0) s m ([.ref (gA E 2 11 0), .ref (gA E y 20 0)] : List Value).toArray below meth c0 H locs 0 0 (MQ below (va_Qi (fun z9 (_ : Unit) => z9 = f_X6_sleepers I y) (fun _ t => GW E J I t.heap) (gF E)) ([.ref (gA E 2 11 0), .ref (gA E y 20 0)] : List Value).toArray s 0 0 (gF E)) (F0 m 4 ls []) := by
    intro n
    induction n with
    | zero =>
      intro i a H locs ls hin hTv hok hG hS hl
      unfold ok_f_X6_sleepers_l1 at hok
      refine lv_iload_n hx hb dX6_sleepers_4 rfl (lv_at hl 0 rfl) ?_
      refine lv_aload_n hx hb dX6_sleepers_5 rfl (lv_at hl 2 rfl) ?_
      refine gf_X6_39 K hG rfl dX6_sleepers_6 ?_
      refine lv_icmp_ge (tgt := 36) hx hb dX6_sleepers_9 (by decide) (fun c2 => ?_) (fun c2 => ?_)
      · skip
        refine lv_iload_n hx hb dX6_sleepers_36 rfl (lv_at hl 1 rfl) ?_
        exact g_iret K hG hS hr hlocks (by rw [← hTv]; simp only [f_X6_sleepers_l1, if_pos c2]) dX6_sleepers_37
      · exact absurd (lp_ge ho1.2 (by omega) hin) c2
    | succ n ih =>
      intro i a H locs ls hin hTv hok hG hS hl
      unfold ok_f_X6_sleepers_l1 at hok
      refine lv_iload_n hx hb dX6_sleepers_4 rfl (lv_at hl 0 rfl) ?_
      refine lv_aload_n hx hb dX6_sleepers_5 rfl (lv_at hl 2 rfl) ?_
      refine gf_X6_39 K hG rfl dX6_sleepers_6 ?_
      refine lv_icmp_ge (tgt := 36) hx hb dX6_sleepers_9 (by decide) (fun c3 => ?_) (fun c3 => ?_)
      · exact absurd c3 (lp_nge ho1.2 (by omega) hin)
      · skip
        refine lv_iload_n hx hb dX6_sleepers_12 rfl (lv_at hl 1 rfl) ?_
        refine lv_aload_n hx hb dX6_sleepers_13 rfl (lv_at hl 3 rfl) ?_
        refine gf_X6_66 K hG (gvs hy 20 rfl) dX6_sleepers_14 ?_
        refine lv_iload_n hx hb dX6_sleepers_17 rfl (lv_at hl 0 rfl) ?_
        refine g_iald K hG (gvs hy 25 rfl) rfl (fun _ => rfl) (vp_in_nI (Nat.lt_of_lt_of_le (show i < 6 by omega) (by decide)) (by decide)) dX6_sleepers_18 ?_
        rw [nI_clamp (Nat.lt_trans (show i < 6 by omega) (by decide))]
        refine lv_iconst (v := 3) hx hb dX6_sleepers_19 (by decide) ?_
        refine lv_icmp_ne (tgt := 27) hx hb dX6_sleepers_20 (by decide) (fun c4 => ?_) (fun c4 => ?_)
        · have hok := hok.2 c4
          refine lv_iconst (v := 0) hx hb dX6_sleepers_27 (by decide) ?_
          refine lv_iadd hx hb dX6_sleepers_28 ?_
          refine lv_istore_n (lv' := [(2, .int (a + 0)), (3, .int (nI i)), (0, .ref (gA E 2 11 0)), (1, .ref (gA E y 20 0))]) hx hb dX6_sleepers_29 rfl hl (by decide) rfl (fun ls hl => ?_)
          refine lv_iinc (v := (nI (i + 1))) (lv' := [(3, .int (nI (i + 1))), (2, .int (a + 0)), (0, .ref (gA E 2 11 0)), (1, .ref (gA E y 20 0))]) hx hb dX6_sleepers_30 hl (k := 1) rfl (nI_add i 1) (by decide) rfl (fun ls hl => ?_)
          refine lv_goto (tgt := 4) hx hb dX6_sleepers_33 (by decide) ?_
          exact ih (i + 1) (a + 0) _ _ _ (by omega) (by rw [← hTv]; simp only [f_X6_sleepers_l1, if_neg c3, if_neg c4]) hok hG hS (lv_sub hl [0, 1, 2, 3] rfl)
        · have hok := hok.1 c4
          refine lv_iconst (v := 1) hx hb dX6_sleepers_23 (by decide) ?_
          refine lv_goto (tgt := 28) hx hb dX6_sleepers_24 (by decide) ?_
          refine lv_iadd hx hb dX6_sleepers_28 ?_
          refine lv_istore_n (lv' := [(2, .int (a + 1)), (3, .int (nI i)), (0, .ref (gA E 2 11 0)), (1, .ref (gA E y 20 0))]) hx hb dX6_sleepers_29 rfl hl (by decide) rfl (fun ls hl => ?_)
          refine lv_iinc (v := (nI (i + 1))) (lv' := [(3, .int (nI (i + 1))), (2, .int (a + 1)), (0, .ref (gA E 2 11 0)), (1, .ref (gA E y 20 0))]) hx hb dX6_sleepers_30 hl (k := 1) rfl (nI_add i 1) (by decide) rfl (fun ls hl => ?_)
          refine lv_goto (tgt := 4) hx hb dX6_sleepers_33 (by decide) ?_
          exact ih (i + 1) (a + 1) _ _ _ (by omega) (by rw [← hTv]; simp only [f_X6_sleepers_l1, if_neg c3, if_pos c4]) hok hG hS (lv_sub hl [0, 1, 2, 3] rfl)
  exact hL_l1 ((I 2 11 0 1).toNatClampNeg) 0 0 _ _ _ (Nat.zero_add _) (by simp only [f_X6_sleepers]) hok hG hS (lv_sub hl [0, 1, 2, 3] rfl)
def ok_X6_loadOf (I : gI) (x : Int32) : Prop :=
  vp_in x 6 ∧
  (((I 3 25 0 x.toNatClampNeg) = 1) →
    vp_in (I 3 26 0 x.toNatClampNeg) 600 ∧
    True) ∧
  (¬ ((I 3 25 0 x.toNatClampNeg) = 1) →
    (((I 3 25 0 x.toNatClampNeg) = 2) →
      vp_in (I 3 26 0 x.toNatClampNeg) 600 ∧
      True) ∧
    (¬ ((I 3 25 0 x.toNatClampNeg) = 2) →
      True))
def f_X6_loadOf (I : gI) (x : Int32) : Int32 :=
  if (I 3 25 0 x.toNatClampNeg) = 1 then
    (I 3 42 0 ((I 3 26 0 x.toNatClampNeg).toNatClampNeg))
  else
    if (I 3 25 0 x.toNatClampNeg) = 2 then
      (I 3 42 0 ((I 3 26 0 x.toNatClampNeg).toNatClampNeg))
    else
      (-1)
set_option maxHeartbeats 4000000 in
set_option maxRecDepth 100000 in
theorem m_X6_loadOf (l : Launch) (E : gE) (J : Int64) (I : gI) (x : Int32) (hok : ok_X6_loadOf I x) : gMi l E J yX6_loadOf cX6_loadOf 2 (some .int) 0 0 [.ref (gA E 2 11 0), .int x] I (f_X6_loadOf I x) I := by
  refine g_entry (lv := [(0, .ref (gA E 2 11 0)), (1, .int x)]) (by decide) (Nat.le_of_ble_eq_true rfl) rfl ?_
  intro p e s m below meth c0 ls K hG hS hml hr hlocks hl
  have K : kx E p m c0 cX6_loadOf "HayThievesModel" _ s := K
  have hx := K.1
  have hb := K.2.1
  have hts := K.2.2.1
  have hown := K.2.2.2.1
  have hSt := K.2.2.2.2
  unfold ok_X6_loadOf at hok
  refine lv_aload_n hx hb dX6_loadOf_0 rfl (lv_at hl 0 rfl) ?_
  refine gf_X6_29 K hG rfl dX6_loadOf_1 ?_
  refine gf_X6_66 K hG (gvs (Or.inl rfl) 20 rfl) dX6_loadOf_4 ?_
  refine lv_iload_n hx hb dX6_loadOf_7 rfl (lv_at hl 1 rfl) ?_
  obtain ⟨ho1, hok⟩ := hok
  refine g_iald K hG (gvs (Or.inl rfl) 25 rfl) rfl (fun _ => rfl) ho1 dX6_loadOf_8 ?_
  refine lv_iconst (v := 1) hx hb dX6_loadOf_9 (by decide) ?_
  refine lv_icmp_eq (tgt := 26) hx hb dX6_loadOf_10 (by decide) (fun c2 => ?_) (fun c2 => ?_)
  · have hok := hok.1 c2
    refine lv_aload_n hx hb dX6_loadOf_26 rfl (lv_at hl 0 rfl) ?_
    refine gf_X6_29 K hG rfl dX6_loadOf_27 ?_
    refine gf_X6_150 K hG (gvs (Or.inl rfl) 20 rfl) dX6_loadOf_30 ?_
    refine lv_aload_n hx hb dX6_loadOf_33 rfl (lv_at hl 0 rfl) ?_
    refine gf_X6_29 K hG rfl dX6_loadOf_34 ?_
    refine gf_X6_75 K hG (gvs (Or.inl rfl) 20 rfl) dX6_loadOf_37 ?_
    refine lv_iload_n hx hb dX6_loadOf_40 rfl (lv_at hl 1 rfl) ?_
    refine g_iald K hG (gvs (Or.inl rfl) 26 rfl) rfl (fun _ => rfl) ho1 dX6_loadOf_41 ?_
    obtain ⟨ho3, hok⟩ := hok
    refine g_iald K hG (gvs (Or.inl rfl) 42 rfl) rfl (fun _ => rfl) ho3 dX6_loadOf_42 ?_
    refine lv_goto (tgt := 47) hx hb dX6_loadOf_43 (by decide) ?_
    exact g_iret K hG hS hr hlocks (by simp only [f_X6_loadOf, if_pos c2]) dX6_loadOf_47
  · have hok := hok.2 c2
    refine lv_aload_n hx hb dX6_loadOf_13 rfl (lv_at hl 0 rfl) ?_
    refine gf_X6_29 K hG rfl dX6_loadOf_14 ?_
    refine gf_X6_66 K hG (gvs (Or.inl rfl) 20 rfl) dX6_loadOf_17 ?_
    refine lv_iload_n hx hb dX6_loadOf_20 rfl (lv_at hl 1 rfl) ?_
    refine g_iald K hG (gvs (Or.inl rfl) 25 rfl) rfl (fun _ => rfl) ho1 dX6_loadOf_21 ?_
    refine lv_iconst (v := 2) hx hb dX6_loadOf_22 (by decide) ?_
    refine lv_icmp_ne (tgt := 46) hx hb dX6_loadOf_23 (by decide) (fun c4 => ?_) (fun c4 => ?_)
    · have hok := hok.2 c4
      refine lv_iconst (v := (-1)) hx hb dX6_loadOf_46 (by decide) ?_
      exact g_iret K hG hS hr hlocks (by simp only [f_X6_loadOf, if_neg c2, if_neg c4]) dX6_loadOf_47
    · have hok := hok.1 c4
      refine lv_aload_n hx hb dX6_loadOf_26 rfl (lv_at hl 0 rfl) ?_
      refine gf_X6_29 K hG rfl dX6_loadOf_27 ?_
      refine gf_X6_150 K hG (gvs (Or.inl rfl) 20 rfl) dX6_loadOf_30 ?_
      refine lv_aload_n hx hb dX6_loadOf_33 rfl (lv_at hl 0 rfl) ?_
      refine gf_X6_29 K hG rfl dX6_loadOf_34 ?_
      refine gf_X6_75 K hG (gvs (Or.inl rfl) 20 rfl) dX6_loadOf_37 ?_
      refine lv_iload_n hx hb dX6_loadOf_40 rfl (lv_at hl 1 rfl) ?_
      refine g_iald K hG (gvs (Or.inl rfl) 26 rfl) rfl (fun _ => rfl) ho1 dX6_loadOf_41 ?_
      obtain ⟨ho5, hok⟩ := hok
      refine g_iald K hG (gvs (Or.inl rfl) 42 rfl) rfl (fun _ => rfl) ho5 dX6_loadOf_42 ?_
      refine lv_goto (tgt := 47) hx hb dX6_loadOf_43 (by decide) ?_
      exact g_iret K hG hS hr hlocks (by simp only [f_X6_loadOf, if_neg c2, if_pos c4]) dX6_loadOf_47
def ok_X6_ladTold (I : gI) (x b : Int32) : Prop :=
  ((b = 0) →
    vp_in x 6 ∧
    True) ∧
  (¬ (b = 0) →
    ((b = 1) →
      vp_in x 6 ∧
      True) ∧
    (¬ (b = 1) →
      ((b = 2) →
        vp_in x 6 ∧
        True) ∧
      (¬ (b = 2) →
        ((b = 3) →
          vp_in x 6 ∧
          True) ∧
        (¬ (b = 3) →
          ((b = 4) →
            vp_in x 6 ∧
            (((I 3 25 0 x.toNatClampNeg) = 1) →
              vp_in (I 3 26 0 x.toNatClampNeg) 600 ∧
              True) ∧
            (¬ ((I 3 25 0 x.toNatClampNeg) = 1) →
              True)) ∧
          (¬ (b = 4) →
            ((b = 5) →
              vp_in x 6 ∧
              True) ∧
            (¬ (b = 5) →
              ((b = 6) →
                vp_in x 6 ∧
                True) ∧
              (¬ (b = 6) →
                ((b = 7) →
                  vp_in x 6 ∧
                  True) ∧
                (¬ (b = 7) →
                  ok_X6_loadOf I x ∧
                  True))))))))
def f_X6_ladTold (I : gI) (x b : Int32) : Int32 :=
  if b = 0 then
    (I 2 12 0 x.toNatClampNeg)
  else
    if b = 1 then
      (I 2 13 0 x.toNatClampNeg)
    else
      if b = 2 then
        (I 3 31 0 x.toNatClampNeg)
      else
        if b = 3 then
          (I 3 25 0 x.toNatClampNeg)
        else
          if b = 4 then
            if (I 3 25 0 x.toNatClampNeg) = 1 then
              (I 3 41 0 ((I 3 26 0 x.toNatClampNeg).toNatClampNeg))
            else
              0
          else
            if b = 5 then
              (I 3 28 0 x.toNatClampNeg)
            else
              if b = 6 then
                (I 3 29 0 x.toNatClampNeg)
              else
                if b = 7 then
                  (I 3 30 0 x.toNatClampNeg)
                else
                  (f_X6_loadOf I x)
set_option maxHeartbeats 4000000 in
set_option maxRecDepth 100000 in
theorem m_X6_ladTold (l : Launch) (E : gE) (J : Int64) (I : gI) (x b : Int32) (hok : ok_X6_ladTold I x b) : gMi l E J yX6_ladTold cX6_ladTold 3 (some .int) 1 21 [.ref (gA E 2 11 0), .int x, .int b] I (f_X6_ladTold I x b) I := by
  refine g_entry (lv := [(0, .ref (gA E 2 11 0)), (1, .int x), (2, .int b)]) (by decide) (Nat.le_of_ble_eq_true rfl) rfl ?_
  intro p e s m below meth c0 ls K hG hS hml hr hlocks hl
  have K : kx E p m c0 cX6_ladTold "HayThievesModel" _ s := K
  have hx := K.1
  have hb := K.2.1
  have hts := K.2.2.1
  have hown := K.2.2.2.1
  have hSt := K.2.2.2.2
  unfold ok_X6_ladTold at hok
  refine lv_iload_n hx hb dX6_ladTold_0 rfl (lv_at hl 2 rfl) ?_
  by_cases c1_0 : b = 0
  · refine lv_tableIn (off := 47) (tgt := 48) hx hb dX6_ladTold_1 (by rw [c1_0]; decide) (by rw [c1_0]; decide) (by rw [c1_0]; decide) (by decide) ?_
    have hok := hok.1 c1_0
    refine lv_aload_n hx hb dX6_ladTold_48 rfl (lv_at hl 0 rfl) ?_
    refine gf_X6_9 K hG rfl dX6_ladTold_49 ?_
    refine lv_iload_n hx hb dX6_ladTold_52 rfl (lv_at hl 1 rfl) ?_
    obtain ⟨ho2, hok⟩ := hok
    refine g_iald K hG rfl rfl (fun _ => rfl) ho2 dX6_ladTold_53 ?_
    exact g_iret K hG hS hr hlocks (by simp only [f_X6_ladTold, if_pos c1_0]) dX6_ladTold_54
  have hok := hok.2 c1_0
  by_cases c1_1 : b = 1
  · refine lv_tableIn (off := 54) (tgt := 55) hx hb dX6_ladTold_1 (by rw [c1_1]; decide) (by rw [c1_1]; decide) (by rw [c1_1]; decide) (by decide) ?_
    have hok := hok.1 c1_1
    refine lv_aload_n hx hb dX6_ladTold_55 rfl (lv_at hl 0 rfl) ?_
    refine gf_X6_13 K hG rfl dX6_ladTold_56 ?_
    refine lv_iload_n hx hb dX6_ladTold_59 rfl (lv_at hl 1 rfl) ?_
    obtain ⟨ho3, hok⟩ := hok
    refine g_iald K hG rfl rfl (fun _ => rfl) ho3 dX6_ladTold_60 ?_
    exact g_iret K hG hS hr hlocks (by simp only [f_X6_ladTold, if_neg c1_0, if_pos c1_1]) dX6_ladTold_61
  have hok := hok.2 c1_1
  by_cases c1_2 : b = 2
  · refine lv_tableIn (off := 61) (tgt := 62) hx hb dX6_ladTold_1 (by rw [c1_2]; decide) (by rw [c1_2]; decide) (by rw [c1_2]; decide) (by decide) ?_
    have hok := hok.1 c1_2
    refine lv_aload_n hx hb dX6_ladTold_62 rfl (lv_at hl 0 rfl) ?_
    refine gf_X6_29 K hG rfl dX6_ladTold_63 ?_
    refine gf_X6_49 K hG (gvs (Or.inl rfl) 20 rfl) dX6_ladTold_66 ?_
    refine lv_iload_n hx hb dX6_ladTold_69 rfl (lv_at hl 1 rfl) ?_
    obtain ⟨ho4, hok⟩ := hok
    refine g_iald K hG (gvs (Or.inl rfl) 31 rfl) rfl (fun _ => rfl) ho4 dX6_ladTold_70 ?_
    exact g_iret K hG hS hr hlocks (by simp only [f_X6_ladTold, if_neg c1_0, if_neg c1_1, if_pos c1_2]) dX6_ladTold_71
  have hok := hok.2 c1_2
  by_cases c1_3 : b = 3
  · refine lv_tableIn (off := 71) (tgt := 72) hx hb dX6_ladTold_1 (by rw [c1_3]; decide) (by rw [c1_3]; decide) (by rw [c1_3]; decide) (by decide) ?_
    have hok := hok.1 c1_3
    refine lv_aload_n hx hb dX6_ladTold_72 rfl (lv_at hl 0 rfl) ?_
    refine gf_X6_29 K hG rfl dX6_ladTold_73 ?_
    refine gf_X6_66 K hG (gvs (Or.inl rfl) 20 rfl) dX6_ladTold_76 ?_
    refine lv_iload_n hx hb dX6_ladTold_79 rfl (lv_at hl 1 rfl) ?_
    obtain ⟨ho5, hok⟩ := hok
    refine g_iald K hG (gvs (Or.inl rfl) 25 rfl) rfl (fun _ => rfl) ho5 dX6_ladTold_80 ?_
    exact g_iret K hG hS hr hlocks (by simp only [f_X6_ladTold, if_neg c1_0, if_neg c1_1, if_neg c1_2, if_pos c1_3]) dX6_ladTold_81
  have hok := hok.2 c1_3
  by_cases c1_4 : b = 4
  · refine lv_tableIn (off := 81) (tgt := 82) hx hb dX6_ladTold_1 (by rw [c1_4]; decide) (by rw [c1_4]; decide) (by rw [c1_4]; decide) (by decide) ?_
    have hok := hok.1 c1_4
    refine lv_aload_n hx hb dX6_ladTold_82 rfl (lv_at hl 0 rfl) ?_
    refine gf_X6_29 K hG rfl dX6_ladTold_83 ?_
    refine gf_X6_66 K hG (gvs (Or.inl rfl) 20 rfl) dX6_ladTold_86 ?_
    refine lv_iload_n hx hb dX6_ladTold_89 rfl (lv_at hl 1 rfl) ?_
    obtain ⟨ho6, hok⟩ := hok
    refine g_iald K hG (gvs (Or.inl rfl) 25 rfl) rfl (fun _ => rfl) ho6 dX6_ladTold_90 ?_
    refine lv_iconst (v := 1) hx hb dX6_ladTold_91 (by decide) ?_
    refine lv_icmp_ne (tgt := 115) hx hb dX6_ladTold_92 (by decide) (fun c7 => ?_) (fun c7 => ?_)
    · have hok := hok.2 c7
      refine lv_iconst (v := 0) hx hb dX6_ladTold_115 (by decide) ?_
      exact g_iret K hG hS hr hlocks (by simp only [f_X6_ladTold, if_neg c1_0, if_neg c1_1, if_neg c1_2, if_neg c1_3, if_pos c1_4, if_neg c7]) dX6_ladTold_116
    · have hok := hok.1 c7
      refine lv_aload_n hx hb dX6_ladTold_95 rfl (lv_at hl 0 rfl) ?_
      refine gf_X6_29 K hG rfl dX6_ladTold_96 ?_
      refine gf_X6_88 K hG (gvs (Or.inl rfl) 20 rfl) dX6_ladTold_99 ?_
      refine lv_aload_n hx hb dX6_ladTold_102 rfl (lv_at hl 0 rfl) ?_
      refine gf_X6_29 K hG rfl dX6_ladTold_103 ?_
      refine gf_X6_75 K hG (gvs (Or.inl rfl) 20 rfl) dX6_ladTold_106 ?_
      refine lv_iload_n hx hb dX6_ladTold_109 rfl (lv_at hl 1 rfl) ?_
      refine g_iald K hG (gvs (Or.inl rfl) 26 rfl) rfl (fun _ => rfl) ho6 dX6_ladTold_110 ?_
      obtain ⟨ho8, hok⟩ := hok
      refine g_iald K hG (gvs (Or.inl rfl) 41 rfl) rfl (fun _ => rfl) ho8 dX6_ladTold_111 ?_
      refine lv_goto (tgt := 116) hx hb dX6_ladTold_112 (by decide) ?_
      exact g_iret K hG hS hr hlocks (by simp only [f_X6_ladTold, if_neg c1_0, if_neg c1_1, if_neg c1_2, if_neg c1_3, if_pos c1_4, if_pos c7]) dX6_ladTold_116
  have hok := hok.2 c1_4
  by_cases c1_5 : b = 5
  · refine lv_tableIn (off := 116) (tgt := 117) hx hb dX6_ladTold_1 (by rw [c1_5]; decide) (by rw [c1_5]; decide) (by rw [c1_5]; decide) (by decide) ?_
    have hok := hok.1 c1_5
    refine lv_aload_n hx hb dX6_ladTold_117 rfl (lv_at hl 0 rfl) ?_
    refine gf_X6_29 K hG rfl dX6_ladTold_118 ?_
    refine gf_X6_153 K hG (gvs (Or.inl rfl) 20 rfl) dX6_ladTold_121 ?_
    refine lv_iload_n hx hb dX6_ladTold_124 rfl (lv_at hl 1 rfl) ?_
    obtain ⟨ho9, hok⟩ := hok
    refine g_iald K hG (gvs (Or.inl rfl) 28 rfl) rfl (fun _ => rfl) ho9 dX6_ladTold_125 ?_
    exact g_iret K hG hS hr hlocks (by simp only [f_X6_ladTold, if_neg c1_0, if_neg c1_1, if_neg c1_2, if_neg c1_3, if_neg c1_4, if_pos c1_5]) dX6_ladTold_126
  have hok := hok.2 c1_5
  by_cases c1_6 : b = 6
  · refine lv_tableIn (off := 126) (tgt := 127) hx hb dX6_ladTold_1 (by rw [c1_6]; decide) (by rw [c1_6]; decide) (by rw [c1_6]; decide) (by decide) ?_
    have hok := hok.1 c1_6
    refine lv_aload_n hx hb dX6_ladTold_127 rfl (lv_at hl 0 rfl) ?_
    refine gf_X6_29 K hG rfl dX6_ladTold_128 ?_
    refine gf_X6_156 K hG (gvs (Or.inl rfl) 20 rfl) dX6_ladTold_131 ?_
    refine lv_iload_n hx hb dX6_ladTold_134 rfl (lv_at hl 1 rfl) ?_
    obtain ⟨ho10, hok⟩ := hok
    refine g_iald K hG (gvs (Or.inl rfl) 29 rfl) rfl (fun _ => rfl) ho10 dX6_ladTold_135 ?_
    exact g_iret K hG hS hr hlocks (by simp only [f_X6_ladTold, if_neg c1_0, if_neg c1_1, if_neg c1_2, if_neg c1_3, if_neg c1_4, if_neg c1_5, if_pos c1_6]) dX6_ladTold_136
  have hok := hok.2 c1_6
  by_cases c1_7 : b = 7
  · refine lv_tableIn (off := 136) (tgt := 137) hx hb dX6_ladTold_1 (by rw [c1_7]; decide) (by rw [c1_7]; decide) (by rw [c1_7]; decide) (by decide) ?_
    have hok := hok.1 c1_7
    refine lv_aload_n hx hb dX6_ladTold_137 rfl (lv_at hl 0 rfl) ?_
    refine gf_X6_29 K hG rfl dX6_ladTold_138 ?_
    refine gf_X6_159 K hG (gvs (Or.inl rfl) 20 rfl) dX6_ladTold_141 ?_
    refine lv_iload_n hx hb dX6_ladTold_144 rfl (lv_at hl 1 rfl) ?_
    obtain ⟨ho11, hok⟩ := hok
    refine g_iald K hG (gvs (Or.inl rfl) 30 rfl) rfl (fun _ => rfl) ho11 dX6_ladTold_145 ?_
    exact g_iret K hG hS hr hlocks (by simp only [f_X6_ladTold, if_neg c1_0, if_neg c1_1, if_neg c1_2, if_neg c1_3, if_neg c1_4, if_neg c1_5, if_neg c1_6, if_pos c1_7]) dX6_ladTold_146
  have hok := hok.2 c1_7
  refine lv_tableOut (tgt := 147) hx hb dX6_ladTold_1 (gsw_0_7 c1_0 c1_1 c1_2 c1_3 c1_4 c1_5 c1_6 c1_7) (by decide) ?_
  refine lv_aload_n hx hb dX6_ladTold_147 rfl (lv_at hl 0 rfl) ?_
  refine lv_iload_n hx hb dX6_ladTold_148 rfl (lv_at hl 1 rfl) ?_
  obtain ⟨ho12, hok⟩ := hok
  refine g_ki (g_runV (As := [.int x]) (rest := []) K hml ca_X6_loadOf q829 (m_X6_loadOf l E J I x ho12) hG hS rfl rfl rfl rfl rfl hl.1 (Nat.le_of_ble_eq_true rfl) ⟨by decide, by decide⟩ dX6_ladTold_149 ⟨Nat.zero_le _, Nat.zero_le _⟩) hS (fun H locs hG hS => ?_)
  exact g_iret K hG hS hr hlocks (by simp only [f_X6_ladTold, if_neg c1_0, if_neg c1_1, if_neg c1_2, if_neg c1_3, if_neg c1_4, if_neg c1_5, if_neg c1_6, if_neg c1_7]) dX6_ladTold_152
def ok_X6_loadTold (I : gI) (x b : Int32) : Prop :=
  ((b = 0) →
    vp_in x 10 ∧
    True) ∧
  (¬ (b = 0) →
    ((b = 1) →
      vp_in x 10 ∧
      True) ∧
    (¬ (b = 1) →
      ((b = 2) →
        vp_in x 10 ∧
        True) ∧
      (¬ (b = 2) →
        ((b = 3) →
          vp_in x 10 ∧
          True) ∧
        (¬ (b = 3) →
          ((b = 4) →
            vp_in x 10 ∧
            True) ∧
          (¬ (b = 4) →
            ((b = 5) →
              vp_in x 10 ∧
              True) ∧
            (¬ (b = 5) →
              vp_in x 10 ∧
              True))))))
def f_X6_loadTold (I : gI) (x b : Int32) : Int32 :=
  if b = 0 then
    (I 2 14 0 x.toNatClampNeg)
  else
    if b = 1 then
      (I 3 33 0 x.toNatClampNeg)
    else
      if b = 2 then
        (I 3 36 0 x.toNatClampNeg)
      else
        if b = 3 then
          (I 3 37 0 x.toNatClampNeg)
        else
          if b = 4 then
            (I 2 15 0 x.toNatClampNeg)
          else
            if b = 5 then
              (I 3 35 0 x.toNatClampNeg)
            else
              (I 3 38 0 x.toNatClampNeg)
set_option maxHeartbeats 4000000 in
set_option maxRecDepth 100000 in
theorem m_X6_loadTold (l : Launch) (E : gE) (J : Int64) (I : gI) (x b : Int32) (hok : ok_X6_loadTold I x b) : gMi l E J yX6_loadTold cX6_loadTold 3 (some .int) 0 0 [.ref (gA E 2 11 0), .int x, .int b] I (f_X6_loadTold I x b) I := by
  refine g_entry (lv := [(0, .ref (gA E 2 11 0)), (1, .int x), (2, .int b)]) (by decide) (Nat.le_of_ble_eq_true rfl) rfl ?_
  intro p e s m below meth c0 ls K hG hS hml hr hlocks hl
  have K : kx E p m c0 cX6_loadTold "HayThievesModel" _ s := K
  have hx := K.1
  have hb := K.2.1
  have hts := K.2.2.1
  have hown := K.2.2.2.1
  have hSt := K.2.2.2.2
  unfold ok_X6_loadTold at hok
  refine lv_iload_n hx hb dX6_loadTold_0 rfl (lv_at hl 2 rfl) ?_
  by_cases c1_0 : b = 0
  · refine lv_tableIn (off := 39) (tgt := 40) hx hb dX6_loadTold_1 (by rw [c1_0]; decide) (by rw [c1_0]; decide) (by rw [c1_0]; decide) (by decide) ?_
    have hok := hok.1 c1_0
    refine lv_aload_n hx hb dX6_loadTold_40 rfl (lv_at hl 0 rfl) ?_
    refine gf_X6_16 K hG rfl dX6_loadTold_41 ?_
    refine lv_iload_n hx hb dX6_loadTold_44 rfl (lv_at hl 1 rfl) ?_
    obtain ⟨ho2, hok⟩ := hok
    refine g_iald K hG rfl rfl (fun _ => rfl) ho2 dX6_loadTold_45 ?_
    exact g_iret K hG hS hr hlocks (by simp only [f_X6_loadTold, if_pos c1_0]) dX6_loadTold_46
  have hok := hok.2 c1_0
  by_cases c1_1 : b = 1
  · refine lv_tableIn (off := 46) (tgt := 47) hx hb dX6_loadTold_1 (by rw [c1_1]; decide) (by rw [c1_1]; decide) (by rw [c1_1]; decide) (by decide) ?_
    have hok := hok.1 c1_1
    refine lv_aload_n hx hb dX6_loadTold_47 rfl (lv_at hl 0 rfl) ?_
    refine gf_X6_29 K hG rfl dX6_loadTold_48 ?_
    refine gf_X6_63 K hG (gvs (Or.inl rfl) 20 rfl) dX6_loadTold_51 ?_
    refine lv_iload_n hx hb dX6_loadTold_54 rfl (lv_at hl 1 rfl) ?_
    obtain ⟨ho3, hok⟩ := hok
    refine g_iald K hG (gvs (Or.inl rfl) 33 rfl) rfl (fun _ => rfl) ho3 dX6_loadTold_55 ?_
    exact g_iret K hG hS hr hlocks (by simp only [f_X6_loadTold, if_neg c1_0, if_pos c1_1]) dX6_loadTold_56
  have hok := hok.2 c1_1
  by_cases c1_2 : b = 2
  · refine lv_tableIn (off := 56) (tgt := 57) hx hb dX6_loadTold_1 (by rw [c1_2]; decide) (by rw [c1_2]; decide) (by rw [c1_2]; decide) (by decide) ?_
    have hok := hok.1 c1_2
    refine lv_aload_n hx hb dX6_loadTold_57 rfl (lv_at hl 0 rfl) ?_
    refine gf_X6_29 K hG rfl dX6_loadTold_58 ?_
    refine gf_X6_137 K hG (gvs (Or.inl rfl) 20 rfl) dX6_loadTold_61 ?_
    refine lv_iload_n hx hb dX6_loadTold_64 rfl (lv_at hl 1 rfl) ?_
    obtain ⟨ho4, hok⟩ := hok
    refine g_iald K hG (gvs (Or.inl rfl) 36 rfl) rfl (fun _ => rfl) ho4 dX6_loadTold_65 ?_
    exact g_iret K hG hS hr hlocks (by simp only [f_X6_loadTold, if_neg c1_0, if_neg c1_1, if_pos c1_2]) dX6_loadTold_66
  have hok := hok.2 c1_2
  by_cases c1_3 : b = 3
  · refine lv_tableIn (off := 66) (tgt := 67) hx hb dX6_loadTold_1 (by rw [c1_3]; decide) (by rw [c1_3]; decide) (by rw [c1_3]; decide) (by decide) ?_
    have hok := hok.1 c1_3
    refine lv_aload_n hx hb dX6_loadTold_67 rfl (lv_at hl 0 rfl) ?_
    refine gf_X6_29 K hG rfl dX6_loadTold_68 ?_
    refine gf_X6_169 K hG (gvs (Or.inl rfl) 20 rfl) dX6_loadTold_71 ?_
    refine lv_iload_n hx hb dX6_loadTold_74 rfl (lv_at hl 1 rfl) ?_
    obtain ⟨ho5, hok⟩ := hok
    refine g_iald K hG (gvs (Or.inl rfl) 37 rfl) rfl (fun _ => rfl) ho5 dX6_loadTold_75 ?_
    exact g_iret K hG hS hr hlocks (by simp only [f_X6_loadTold, if_neg c1_0, if_neg c1_1, if_neg c1_2, if_pos c1_3]) dX6_loadTold_76
  have hok := hok.2 c1_3
  by_cases c1_4 : b = 4
  · refine lv_tableIn (off := 76) (tgt := 77) hx hb dX6_loadTold_1 (by rw [c1_4]; decide) (by rw [c1_4]; decide) (by rw [c1_4]; decide) (by decide) ?_
    have hok := hok.1 c1_4
    refine lv_aload_n hx hb dX6_loadTold_77 rfl (lv_at hl 0 rfl) ?_
    refine gf_X6_19 K hG rfl dX6_loadTold_78 ?_
    refine lv_iload_n hx hb dX6_loadTold_81 rfl (lv_at hl 1 rfl) ?_
    obtain ⟨ho6, hok⟩ := hok
    refine g_iald K hG rfl rfl (fun _ => rfl) ho6 dX6_loadTold_82 ?_
    exact g_iret K hG hS hr hlocks (by simp only [f_X6_loadTold, if_neg c1_0, if_neg c1_1, if_neg c1_2, if_neg c1_3, if_pos c1_4]) dX6_loadTold_83
  have hok := hok.2 c1_4
  by_cases c1_5 : b = 5
  · refine lv_tableIn (off := 83) (tgt := 84) hx hb dX6_loadTold_1 (by rw [c1_5]; decide) (by rw [c1_5]; decide) (by rw [c1_5]; decide) (by decide) ?_
    have hok := hok.1 c1_5
    refine lv_aload_n hx hb dX6_loadTold_84 rfl (lv_at hl 0 rfl) ?_
    refine gf_X6_29 K hG rfl dX6_loadTold_85 ?_
    refine gf_X6_134 K hG (gvs (Or.inl rfl) 20 rfl) dX6_loadTold_88 ?_
    refine lv_iload_n hx hb dX6_loadTold_91 rfl (lv_at hl 1 rfl) ?_
    obtain ⟨ho7, hok⟩ := hok
    refine g_iald K hG (gvs (Or.inl rfl) 35 rfl) rfl (fun _ => rfl) ho7 dX6_loadTold_92 ?_
    exact g_iret K hG hS hr hlocks (by simp only [f_X6_loadTold, if_neg c1_0, if_neg c1_1, if_neg c1_2, if_neg c1_3, if_neg c1_4, if_pos c1_5]) dX6_loadTold_93
  have hok := hok.2 c1_5
  refine lv_tableOut (tgt := 94) hx hb dX6_loadTold_1 (gsw_0_5 c1_0 c1_1 c1_2 c1_3 c1_4 c1_5) (by decide) ?_
  refine lv_aload_n hx hb dX6_loadTold_94 rfl (lv_at hl 0 rfl) ?_
  refine gf_X6_29 K hG rfl dX6_loadTold_95 ?_
  refine gf_X6_172 K hG (gvs (Or.inl rfl) 20 rfl) dX6_loadTold_98 ?_
  refine lv_iload_n hx hb dX6_loadTold_101 rfl (lv_at hl 1 rfl) ?_
  obtain ⟨ho8, hok⟩ := hok
  refine g_iald K hG (gvs (Or.inl rfl) 38 rfl) rfl (fun _ => rfl) ho8 dX6_loadTold_102 ?_
  exact g_iret K hG hS hr hlocks (by simp only [f_X6_loadTold, if_neg c1_0, if_neg c1_1, if_neg c1_2, if_neg c1_3, if_neg c1_4, if_neg c1_5]) dX6_loadTold_103
def f_X6_loadsThat_l1 (y : Nat) (x : Int32) : Nat → Nat → Int32 → gI → Int32
  | 0, i, a, I =>
    a
  | n + 1, i, a, I =>
    if (I y 33 0 i) = x then
      f_X6_loadsThat_l1 y x n (i + 1) (a + 1) I
    else
      f_X6_loadsThat_l1 y x n (i + 1) (a + 0) I
def ok_f_X6_loadsThat_l1 (y : Nat) (x : Int32) : Nat → Nat → Int32 → gI → Prop
  | 0, i, a, I =>
    True
  | n + 1, i, a, I =>
    (((I y 33 0 i) = x) →
      ok_f_X6_loadsThat_l1 y x n (i + 1) (a + 1) I) ∧
    (¬ ((I y 33 0 i) = x) →
      ok_f_X6_loadsThat_l1 y x n (i + 1) (a + 0) I)
def ok_X6_loadsThat (I : gI) (y : Nat) (x : Int32) : Prop :=
  isN (I 2 11 0 4) 10 ∧
  ok_f_X6_loadsThat_l1 y x ((I 2 11 0 4).toNatClampNeg) 0 0 I
def f_X6_loadsThat (I : gI) (y : Nat) (x : Int32) : Int32 :=
  f_X6_loadsThat_l1 y x ((I 2 11 0 4).toNatClampNeg) 0 0 I
set_option maxHeartbeats 4000000 in
set_option maxRecDepth 100000 in
theorem m_X6_loadsThat (l : Launch) (E : gE) (J : Int64) (I : gI) (y : Nat) (x : Int32) (hy : y = 3 ∨ y = 4) (hok : ok_X6_loadsThat I y x) : gMi l E J yX6_loadsThat cX6_loadsThat 5 (some .int) 0 0 [.ref (gA E 2 11 0), .ref (gA E y 20 0), .int x] I (f_X6_loadsThat I y x) I := by
  refine g_entry (lv := [(0, .ref (gA E 2 11 0)), (1, .ref (gA E y 20 0)), (2, .int x)]) (by decide) (Nat.le_of_ble_eq_true rfl) rfl ?_
  intro p e s m below meth c0 ls K hG hS hml hr hlocks hl
  have K : kx E p m c0 cX6_loadsThat "HayThievesModel" _ s := K
  have hx := K.1
  have hb := K.2.1
  have hts := K.2.2.1
  have hown := K.2.2.2.1
  have hSt := K.2.2.2.2
  unfold ok_X6_loadsThat at hok
  refine lv_iconst (v := 0) hx hb dX6_loadsThat_0 (by decide) ?_
  refine lv_istore_n (lv' := [(3, .int 0), (0, .ref (gA E 2 11 0)), (1, .ref (gA E y 20 0)), (2, .int x)]) hx hb dX6_loadsThat_1 rfl hl (by decide) rfl (fun ls hl => ?_)
  refine lv_iconst (v := 0) hx hb dX6_loadsThat_2 (by decide) ?_
  refine lv_istore (lv' := [(4, .int 0), (3, .int 0), (0, .ref (gA E 2 11 0)), (1, .ref (gA E y 20 0)), (2, .int x)]) hx hb dX6_loadsThat_3 hl (by decide) rfl (fun ls hl => ?_)
  obtain ⟨ho1, hok⟩ := hok
  have hNb := ho1.1
  have hL_l1 : ∀ (n i : Nat) (a : Int32) (H : Heap) (locs : List Loc) (ls : Array Slot), i + n = (I 2 11 0 4).toNatClampNeg → f_X6_loadsThat_l1 y x n i a I = f_X6_loadsThat I y x → ok_f_X6_loadsThat_l1 y x n i a I → GW E J I H → va_S (gF E) s.heap H locs → lv_has ls 5 [(4, .int (nI i)), (3, .int a), (0, .ref (gA E 2 11 0)), (1, .ref (gA E y 20 0)), (2, .int x)] → W p l e (grm 0 0) s m ([.ref (gA E 2 11 0), .ref (gA E y 20 0), .int x] : List Value).toArray below meth c0 H locs 0 0 (MQ below (va_Qi (fun z9 (_ : Unit) => z9 = f_X6_loadsThat I y x) (fun _ t => GW E J I t.heap) (gF E)) ([.ref (gA E 2 11 0), .ref (gA E y 20 0), .int x] : List Value).toArray s 0 0 (gF E)) (F0 m 5 ls []) := by
    intro n
    induction n with
    | zero =>
      intro i a H locs ls hin hTv hok hG hS hl
      unfold ok_f_X6_loadsThat_l1 at hok
      refine lv_iload hx hb dX6_loadsThat_5 (lv_at hl 0 rfl) ?_
      refine lv_aload_n hx hb dX6_loadsThat_7 rfl (lv_at hl 2 rfl) ?_
      refine gf_X6_46 K hG rfl dX6_loadsThat_8 ?_
      refine lv_icmp_ge (tgt := 39) hx hb dX6_loadsThat_11 (by decide) (fun c2 => ?_) (fun c2 => ?_)
      · skip
        refine lv_iload_n hx hb dX6_loadsThat_39 rfl (lv_at hl 1 rfl) ?_
        exact g_iret K hG hS hr hlocks (by rw [← hTv]; simp only [f_X6_loadsThat_l1, if_pos c2]) dX6_loadsThat_40
      · exact absurd (lp_ge ho1.2 (by omega) hin) c2
    | succ n ih =>
      intro i a H locs ls hin hTv hok hG hS hl
      unfold ok_f_X6_loadsThat_l1 at hok
      refine lv_iload hx hb dX6_loadsThat_5 (lv_at hl 0 rfl) ?_
      refine lv_aload_n hx hb dX6_loadsThat_7 rfl (lv_at hl 2 rfl) ?_
      refine gf_X6_46 K hG rfl dX6_loadsThat_8 ?_
      refine lv_icmp_ge (tgt := 39) hx hb dX6_loadsThat_11 (by decide) (fun c3 => ?_) (fun c3 => ?_)
      · exact absurd c3 (lp_nge ho1.2 (by omega) hin)
      · skip
        refine lv_iload_n hx hb dX6_loadsThat_14 rfl (lv_at hl 1 rfl) ?_
        refine lv_aload_n hx hb dX6_loadsThat_15 rfl (lv_at hl 3 rfl) ?_
        refine gf_X6_63 K hG (gvs hy 20 rfl) dX6_loadsThat_16 ?_
        refine lv_iload hx hb dX6_loadsThat_19 (lv_at hl 0 rfl) ?_
        refine g_iald K hG (gvs hy 33 rfl) rfl (fun _ => rfl) (vp_in_nI (Nat.lt_of_lt_of_le (show i < 10 by omega) (by decide)) (by decide)) dX6_loadsThat_21 ?_
        rw [nI_clamp (Nat.lt_trans (show i < 10 by omega) (by decide))]
        refine lv_iload_n hx hb dX6_loadsThat_22 rfl (lv_at hl 4 rfl) ?_
        refine lv_icmp_ne (tgt := 30) hx hb dX6_loadsThat_23 (by decide) (fun c4 => ?_) (fun c4 => ?_)
        · have hok := hok.2 c4
          refine lv_iconst (v := 0) hx hb dX6_loadsThat_30 (by decide) ?_
          refine lv_iadd hx hb dX6_loadsThat_31 ?_
          refine lv_istore_n (lv' := [(3, .int (a + 0)), (4, .int (nI i)), (0, .ref (gA E 2 11 0)), (1, .ref (gA E y 20 0)), (2, .int x)]) hx hb dX6_loadsThat_32 rfl hl (by decide) rfl (fun ls hl => ?_)
          refine lv_iinc (v := (nI (i + 1))) (lv' := [(4, .int (nI (i + 1))), (3, .int (a + 0)), (0, .ref (gA E 2 11 0)), (1, .ref (gA E y 20 0)), (2, .int x)]) hx hb dX6_loadsThat_33 hl (k := 1) rfl (nI_add i 1) (by decide) rfl (fun ls hl => ?_)
          refine lv_goto (tgt := 5) hx hb dX6_loadsThat_36 (by decide) ?_
          exact ih (i + 1) (a + 0) _ _ _ (by omega) (by rw [← hTv]; simp only [f_X6_loadsThat_l1, if_neg c3, if_neg c4]) hok hG hS (lv_sub hl [0, 1, 2, 3, 4] rfl)
        · have hok := hok.1 c4
          refine lv_iconst (v := 1) hx hb dX6_loadsThat_26 (by decide) ?_
          refine lv_goto (tgt := 31) hx hb dX6_loadsThat_27 (by decide) ?_
          refine lv_iadd hx hb dX6_loadsThat_31 ?_
          refine lv_istore_n (lv' := [(3, .int (a + 1)), (4, .int (nI i)), (0, .ref (gA E 2 11 0)), (1, .ref (gA E y 20 0)), (2, .int x)]) hx hb dX6_loadsThat_32 rfl hl (by decide) rfl (fun ls hl => ?_)
          refine lv_iinc (v := (nI (i + 1))) (lv' := [(4, .int (nI (i + 1))), (3, .int (a + 1)), (0, .ref (gA E 2 11 0)), (1, .ref (gA E y 20 0)), (2, .int x)]) hx hb dX6_loadsThat_33 hl (k := 1) rfl (nI_add i 1) (by decide) rfl (fun ls hl => ?_)
          refine lv_goto (tgt := 5) hx hb dX6_loadsThat_36 (by decide) ?_
          exact ih (i + 1) (a + 1) _ _ _ (by omega) (by rw [← hTv]; simp only [f_X6_loadsThat_l1, if_neg c3, if_pos c4]) hok hG hS (lv_sub hl [0, 1, 2, 3, 4] rfl)
  exact hL_l1 ((I 2 11 0 4).toNatClampNeg) 0 0 _ _ _ (Nat.zero_add _) (by simp only [f_X6_loadsThat]) hok hG hS (lv_sub hl [0, 1, 2, 3, 4] rfl)
def f_X6_sumOf_l1 (y t : Nat) : Nat → Nat → Int32 → gI → Int32
  | 0, i, a, I =>
    a
  | n + 1, i, a, I =>
    f_X6_sumOf_l1 y t n (i + 1) (a + (I y t 0 i)) I
def ok_f_X6_sumOf_l1 (y t : Nat) : Nat → Nat → Int32 → gI → Prop
  | 0, i, a, I =>
    True
  | n + 1, i, a, I =>
    ok_f_X6_sumOf_l1 y t n (i + 1) (a + (I y t 0 i)) I
def ok_X6_sumOf (I : gI) (y t : Nat) : Prop :=
  isN (I 2 11 0 1) 6 ∧
  ok_f_X6_sumOf_l1 y t ((I 2 11 0 1).toNatClampNeg) 0 0 I
def f_X6_sumOf (I : gI) (y t : Nat) : Int32 :=
  f_X6_sumOf_l1 y t ((I 2 11 0 1).toNatClampNeg) 0 0 I
set_option maxHeartbeats 4000000 in
set_option maxRecDepth 100000 in
theorem m_X6_sumOf (l : Launch) (E : gE) (J : Int64) (I : gI) (y t : Nat) (hvT : gv y t 0 = true) (hsT : sh t = .inr (0, 6)) (hkT : ∀ j, gk t j = true) (hok : ok_X6_sumOf I y t) : gMi l E J yX6_sumOf cX6_sumOf 4 (some .int) 0 0 [.ref (gA E 2 11 0), .ref (gA E y t 0)] I (f_X6_sumOf I y t) I := by
  refine g_entry (lv := [(0, .ref (gA E 2 11 0)), (1, .ref (gA E y t 0))]) (by decide) (Nat.le_of_ble_eq_true rfl) rfl ?_
  intro p e s m below meth c0 ls K hG hS hml hr hlocks hl
  have K : kx E p m c0 cX6_sumOf "HayThievesModel" _ s := K
  have hx := K.1
  have hb := K.2.1
  have hts := K.2.2.1
  have hown := K.2.2.2.1
  have hSt := K.2.2.2.2
  unfold ok_X6_sumOf at hok
  refine lv_iconst (v := 0) hx hb dX6_sumOf_0 (by decide) ?_
  refine lv_istore_n (lv' := [(2, .int 0), (0, .ref (gA E 2 11 0)), (1, .ref (gA E y t 0))]) hx hb dX6_sumOf_1 rfl hl (by decide) rfl (fun ls hl => ?_)
  refine lv_iconst (v := 0) hx hb dX6_sumOf_2 (by decide) ?_
  refine lv_istore_n (lv' := [(3, .int 0), (2, .int 0), (0, .ref (gA E 2 11 0)), (1, .ref (gA E y t 0))]) hx hb dX6_sumOf_3 rfl hl (by decide) rfl (fun ls hl => ?_)
  obtain ⟨ho1, hok⟩ := hok
  have hNb := ho1.1
  have hL_l1 : ∀ (n i : Nat) (a : Int32) (H : Heap) (locs : List Loc) (ls : Array Slot), i + n = (I 2 11 0 1).toNatClampNeg → f_X6_sumOf_l1 y t n i a I = f_X6_sumOf I y t → ok_f_X6_sumOf_l1 y t n i a I → GW E J I H → va_S (gF E) s.heap H locs → lv_has ls 4 [(3, .int (nI i)), (2, .int a), (0, .ref (gA E 2 11 0)), (1, .ref (gA E y t 0))] → W p l e (grm 0 0) s m ([.ref (gA E 2 11 0), .ref (gA E y t 0)] : List Value).toArray below meth c0 H locs 0 0 (MQ below (va_Qi (fun z9 (_ : Unit) => z9 = f_X6_sumOf I y t) (fun _ t => GW E J I t.heap) (gF E)) ([.ref (gA E 2 11 0), .ref (gA E y t 0)] : List Value).toArray s 0 0 (gF E)) (F0 m 4 ls []) := by
    intro n
    induction n with
    | zero =>
      intro i a H locs ls hin hTv hok hG hS hl
      unfold ok_f_X6_sumOf_l1 at hok
      refine lv_iload_n hx hb dX6_sumOf_4 rfl (lv_at hl 0 rfl) ?_
      refine lv_aload_n hx hb dX6_sumOf_5 rfl (lv_at hl 2 rfl) ?_
      refine gf_X6_39 K hG rfl dX6_sumOf_6 ?_
      refine lv_icmp_ge (tgt := 24) hx hb dX6_sumOf_9 (by decide) (fun c2 => ?_) (fun c2 => ?_)
      · skip
        refine lv_iload_n hx hb dX6_sumOf_24 rfl (lv_at hl 1 rfl) ?_
        exact g_iret K hG hS hr hlocks (by rw [← hTv]; simp only [f_X6_sumOf_l1, if_pos c2]) dX6_sumOf_25
      · exact absurd (lp_ge ho1.2 (by omega) hin) c2
    | succ n ih =>
      intro i a H locs ls hin hTv hok hG hS hl
      unfold ok_f_X6_sumOf_l1 at hok
      refine lv_iload_n hx hb dX6_sumOf_4 rfl (lv_at hl 0 rfl) ?_
      refine lv_aload_n hx hb dX6_sumOf_5 rfl (lv_at hl 2 rfl) ?_
      refine gf_X6_39 K hG rfl dX6_sumOf_6 ?_
      refine lv_icmp_ge (tgt := 24) hx hb dX6_sumOf_9 (by decide) (fun c3 => ?_) (fun c3 => ?_)
      · exact absurd c3 (lp_nge ho1.2 (by omega) hin)
      · skip
        refine lv_iload_n hx hb dX6_sumOf_12 rfl (lv_at hl 1 rfl) ?_
        refine lv_aload_n hx hb dX6_sumOf_13 rfl (lv_at hl 3 rfl) ?_
        refine lv_iload_n hx hb dX6_sumOf_14 rfl (lv_at hl 0 rfl) ?_
        refine g_iald K hG hvT hsT hkT (vp_in_nI (Nat.lt_of_lt_of_le (show i < 6 by omega) (by decide)) (by decide)) dX6_sumOf_15 ?_
        rw [nI_clamp (Nat.lt_trans (show i < 6 by omega) (by decide))]
        refine lv_iadd hx hb dX6_sumOf_16 ?_
        refine lv_istore_n (lv' := [(2, .int (a + (I y t 0 i))), (3, .int (nI i)), (0, .ref (gA E 2 11 0)), (1, .ref (gA E y t 0))]) hx hb dX6_sumOf_17 rfl hl (by decide) rfl (fun ls hl => ?_)
        refine lv_iinc (v := (nI (i + 1))) (lv' := [(3, .int (nI (i + 1))), (2, .int (a + (I y t 0 i))), (0, .ref (gA E 2 11 0)), (1, .ref (gA E y t 0))]) hx hb dX6_sumOf_18 hl (k := 1) rfl (nI_add i 1) (by decide) rfl (fun ls hl => ?_)
        refine lv_goto (tgt := 4) hx hb dX6_sumOf_21 (by decide) ?_
        exact ih (i + 1) (a + (I y t 0 i)) _ _ _ (by omega) (by rw [← hTv]; simp only [f_X6_sumOf_l1, if_neg c3]) hok hG hS (lv_sub hl [0, 1, 2, 3] rfl)
  exact hL_l1 ((I 2 11 0 1).toNatClampNeg) 0 0 _ _ _ (Nat.zero_add _) (by simp only [f_X6_sumOf]) hok hG hS (lv_sub hl [0, 1, 2, 3] rfl)
def ok_X6_counted (I : gI) (y : Nat) (x : Int32) : Prop :=
  ((x = 0) →
    True) ∧
  (¬ (x = 0) →
    ((x = 1) →
      True) ∧
    (¬ (x = 1) →
      ((x = 2) →
        True) ∧
      (¬ (x = 2) →
        ((x = 3) →
          ok_X6_loadsThat I y 2 ∧
          True) ∧
        (¬ (x = 3) →
          ((x = 4) →
            ok_X6_loadsThat I y 0 ∧
            True) ∧
          (¬ (x = 4) →
            ((x = 5) →
              ok_X6_sumOf I y 31 ∧
              True) ∧
            (¬ (x = 5) →
              ((x = 6) →
                ok_X6_sleepers I y ∧
                True) ∧
              (¬ (x = 6) →
                ((x = 7) →
                  True) ∧
                (¬ (x = 7) →
                  ((x = 8) →
                    True) ∧
                  (¬ (x = 8) →
                    ((x = 9) →
                      True) ∧
                    (¬ (x = 9) →
                      ((x = 10) →
                        ok_X6_sumOf I y 30 ∧
                        True) ∧
                      (¬ (x = 10) →
                        ((x = 11) →
                          True) ∧
                        (¬ (x = 11) →
                          True))))))))))))
def f_X6_counted (I : gI) (y : Nat) (x : Int32) : Int32 :=
  if x = 0 then
    (I y 20 0 0)
  else
    if x = 1 then
      (I 2 11 0 1)
    else
      if x = 2 then
        (I 2 11 0 4)
      else
        if x = 3 then
          (f_X6_loadsThat I y 2)
        else
          if x = 4 then
            (f_X6_loadsThat I y 0)
          else
            if x = 5 then
              (f_X6_sumOf I y 31)
            else
              if x = 6 then
                (f_X6_sleepers I y)
              else
                if x = 7 then
                  (I y 20 0 1)
                else
                  if x = 8 then
                    (I y 20 0 2)
                  else
                    if x = 9 then
                      (I y 20 0 3)
                    else
                      if x = 10 then
                        (f_X6_sumOf I y 30)
                      else
                        if x = 11 then
                          (I y 20 0 4)
                        else
                          (I 2 11 0 7)
set_option maxHeartbeats 4000000 in
set_option maxRecDepth 100000 in
theorem m_X6_counted (l : Launch) (E : gE) (J : Int64) (I : gI) (y : Nat) (x : Int32) (hy : y = 3 ∨ y = 4) (hok : ok_X6_counted I y x) : gMi l E J yX6_counted cX6_counted 3 (some .int) 1 24 [.ref (gA E 2 11 0), .ref (gA E y 20 0), .int x] I (f_X6_counted I y x) I := by
  refine g_entry (lv := [(0, .ref (gA E 2 11 0)), (1, .ref (gA E y 20 0)), (2, .int x)]) (by decide) (Nat.le_of_ble_eq_true rfl) rfl ?_
  intro p e s m below meth c0 ls K hG hS hml hr hlocks hl
  have K : kx E p m c0 cX6_counted "HayThievesModel" _ s := K
  have hx := K.1
  have hb := K.2.1
  have hts := K.2.2.1
  have hown := K.2.2.2.1
  have hSt := K.2.2.2.2
  unfold ok_X6_counted at hok
  refine lv_iload_n hx hb dX6_counted_0 rfl (lv_at hl 2 rfl) ?_
  by_cases c1_0 : x = 0
  · refine lv_tableIn (off := 63) (tgt := 64) hx hb dX6_counted_1 (by rw [c1_0]; decide) (by rw [c1_0]; decide) (by rw [c1_0]; decide) (by decide) ?_
    have hok := hok.1 c1_0
    refine lv_aload_n hx hb dX6_counted_64 rfl (lv_at hl 1 rfl) ?_
    refine gf_X6_120 K hG (gvs hy 20 rfl) dX6_counted_65 ?_
    exact g_iret K hG hS hr hlocks (by simp only [f_X6_counted, if_pos c1_0]) dX6_counted_68
  have hok := hok.2 c1_0
  by_cases c1_1 : x = 1
  · refine lv_tableIn (off := 68) (tgt := 69) hx hb dX6_counted_1 (by rw [c1_1]; decide) (by rw [c1_1]; decide) (by rw [c1_1]; decide) (by decide) ?_
    have hok := hok.1 c1_1
    refine lv_aload_n hx hb dX6_counted_69 rfl (lv_at hl 0 rfl) ?_
    refine gf_X6_39 K hG rfl dX6_counted_70 ?_
    exact g_iret K hG hS hr hlocks (by simp only [f_X6_counted, if_neg c1_0, if_pos c1_1]) dX6_counted_73
  have hok := hok.2 c1_1
  by_cases c1_2 : x = 2
  · refine lv_tableIn (off := 73) (tgt := 74) hx hb dX6_counted_1 (by rw [c1_2]; decide) (by rw [c1_2]; decide) (by rw [c1_2]; decide) (by decide) ?_
    have hok := hok.1 c1_2
    refine lv_aload_n hx hb dX6_counted_74 rfl (lv_at hl 0 rfl) ?_
    refine gf_X6_46 K hG rfl dX6_counted_75 ?_
    exact g_iret K hG hS hr hlocks (by simp only [f_X6_counted, if_neg c1_0, if_neg c1_1, if_pos c1_2]) dX6_counted_78
  have hok := hok.2 c1_2
  by_cases c1_3 : x = 3
  · refine lv_tableIn (off := 78) (tgt := 79) hx hb dX6_counted_1 (by rw [c1_3]; decide) (by rw [c1_3]; decide) (by rw [c1_3]; decide) (by decide) ?_
    have hok := hok.1 c1_3
    refine lv_aload_n hx hb dX6_counted_79 rfl (lv_at hl 0 rfl) ?_
    refine lv_aload_n hx hb dX6_counted_80 rfl (lv_at hl 1 rfl) ?_
    refine lv_iconst (v := 2) hx hb dX6_counted_81 (by decide) ?_
    obtain ⟨ho2, hok⟩ := hok
    refine g_ki (g_runV (As := [.ref (gA E y 20 0), .int 2]) (rest := []) K hml ca_X6_loadsThat q857 (m_X6_loadsThat l E J I y 2 hy ho2) hG hS rfl rfl rfl rfl rfl hl.1 (Nat.le_of_ble_eq_true rfl) ⟨by decide, by decide⟩ dX6_counted_82 ⟨Nat.zero_le _, Nat.zero_le _⟩) hS (fun H locs hG hS => ?_)
    exact g_iret K hG hS hr hlocks (by simp only [f_X6_counted, if_neg c1_0, if_neg c1_1, if_neg c1_2, if_pos c1_3]) dX6_counted_85
  have hok := hok.2 c1_3
  by_cases c1_4 : x = 4
  · refine lv_tableIn (off := 85) (tgt := 86) hx hb dX6_counted_1 (by rw [c1_4]; decide) (by rw [c1_4]; decide) (by rw [c1_4]; decide) (by decide) ?_
    have hok := hok.1 c1_4
    refine lv_aload_n hx hb dX6_counted_86 rfl (lv_at hl 0 rfl) ?_
    refine lv_aload_n hx hb dX6_counted_87 rfl (lv_at hl 1 rfl) ?_
    refine lv_iconst (v := 0) hx hb dX6_counted_88 (by decide) ?_
    obtain ⟨ho3, hok⟩ := hok
    refine g_ki (g_runV (As := [.ref (gA E y 20 0), .int 0]) (rest := []) K hml ca_X6_loadsThat q857 (m_X6_loadsThat l E J I y 0 hy ho3) hG hS rfl rfl rfl rfl rfl hl.1 (Nat.le_of_ble_eq_true rfl) ⟨by decide, by decide⟩ dX6_counted_89 ⟨Nat.zero_le _, Nat.zero_le _⟩) hS (fun H locs hG hS => ?_)
    exact g_iret K hG hS hr hlocks (by simp only [f_X6_counted, if_neg c1_0, if_neg c1_1, if_neg c1_2, if_neg c1_3, if_pos c1_4]) dX6_counted_92
  have hok := hok.2 c1_4
  by_cases c1_5 : x = 5
  · refine lv_tableIn (off := 92) (tgt := 93) hx hb dX6_counted_1 (by rw [c1_5]; decide) (by rw [c1_5]; decide) (by rw [c1_5]; decide) (by decide) ?_
    have hok := hok.1 c1_5
    refine lv_aload_n hx hb dX6_counted_93 rfl (lv_at hl 0 rfl) ?_
    refine lv_aload_n hx hb dX6_counted_94 rfl (lv_at hl 1 rfl) ?_
    refine gf_X6_49 K hG (gvs hy 20 rfl) dX6_counted_95 ?_
    obtain ⟨ho4, hok⟩ := hok
    refine g_ki (g_runV (As := [.ref (gA E y 31 0)]) (rest := []) K hml ca_X6_sumOf q861 (m_X6_sumOf l E J I y 31 (gvs hy 31 rfl) rfl (fun _ => rfl) ho4) hG hS rfl rfl rfl rfl rfl hl.1 (Nat.le_of_ble_eq_true rfl) ⟨by decide, by decide⟩ dX6_counted_98 ⟨Nat.zero_le _, Nat.zero_le _⟩) hS (fun H locs hG hS => ?_)
    exact g_iret K hG hS hr hlocks (by simp only [f_X6_counted, if_neg c1_0, if_neg c1_1, if_neg c1_2, if_neg c1_3, if_neg c1_4, if_pos c1_5]) dX6_counted_101
  have hok := hok.2 c1_5
  by_cases c1_6 : x = 6
  · refine lv_tableIn (off := 101) (tgt := 102) hx hb dX6_counted_1 (by rw [c1_6]; decide) (by rw [c1_6]; decide) (by rw [c1_6]; decide) (by decide) ?_
    have hok := hok.1 c1_6
    refine lv_aload_n hx hb dX6_counted_102 rfl (lv_at hl 0 rfl) ?_
    refine lv_aload_n hx hb dX6_counted_103 rfl (lv_at hl 1 rfl) ?_
    obtain ⟨ho5, hok⟩ := hok
    refine g_ki (g_runV (As := [.ref (gA E y 20 0)]) (rest := []) K hml ca_X6_sleepers q817 (m_X6_sleepers l E J I y hy ho5) hG hS rfl rfl rfl rfl rfl hl.1 (Nat.le_of_ble_eq_true rfl) ⟨by decide, by decide⟩ dX6_counted_104 ⟨Nat.zero_le _, Nat.zero_le _⟩) hS (fun H locs hG hS => ?_)
    exact g_iret K hG hS hr hlocks (by simp only [f_X6_counted, if_neg c1_0, if_neg c1_1, if_neg c1_2, if_neg c1_3, if_neg c1_4, if_neg c1_5, if_pos c1_6]) dX6_counted_107
  have hok := hok.2 c1_6
  by_cases c1_7 : x = 7
  · refine lv_tableIn (off := 107) (tgt := 108) hx hb dX6_counted_1 (by rw [c1_7]; decide) (by rw [c1_7]; decide) (by rw [c1_7]; decide) (by decide) ?_
    have hok := hok.1 c1_7
    refine lv_aload_n hx hb dX6_counted_108 rfl (lv_at hl 1 rfl) ?_
    refine gf_X6_188 K hG (gvs hy 20 rfl) dX6_counted_109 ?_
    exact g_iret K hG hS hr hlocks (by simp only [f_X6_counted, if_neg c1_0, if_neg c1_1, if_neg c1_2, if_neg c1_3, if_neg c1_4, if_neg c1_5, if_neg c1_6, if_pos c1_7]) dX6_counted_112
  have hok := hok.2 c1_7
  by_cases c1_8 : x = 8
  · refine lv_tableIn (off := 112) (tgt := 113) hx hb dX6_counted_1 (by rw [c1_8]; decide) (by rw [c1_8]; decide) (by rw [c1_8]; decide) (by decide) ?_
    have hok := hok.1 c1_8
    refine lv_aload_n hx hb dX6_counted_113 rfl (lv_at hl 1 rfl) ?_
    refine gf_X6_191 K hG (gvs hy 20 rfl) dX6_counted_114 ?_
    exact g_iret K hG hS hr hlocks (by simp only [f_X6_counted, if_neg c1_0, if_neg c1_1, if_neg c1_2, if_neg c1_3, if_neg c1_4, if_neg c1_5, if_neg c1_6, if_neg c1_7, if_pos c1_8]) dX6_counted_117
  have hok := hok.2 c1_8
  by_cases c1_9 : x = 9
  · refine lv_tableIn (off := 117) (tgt := 118) hx hb dX6_counted_1 (by rw [c1_9]; decide) (by rw [c1_9]; decide) (by rw [c1_9]; decide) (by decide) ?_
    have hok := hok.1 c1_9
    refine lv_aload_n hx hb dX6_counted_118 rfl (lv_at hl 1 rfl) ?_
    refine gf_X6_69 K hG (gvs hy 20 rfl) dX6_counted_119 ?_
    exact g_iret K hG hS hr hlocks (by simp only [f_X6_counted, if_neg c1_0, if_neg c1_1, if_neg c1_2, if_neg c1_3, if_neg c1_4, if_neg c1_5, if_neg c1_6, if_neg c1_7, if_neg c1_8, if_pos c1_9]) dX6_counted_122
  have hok := hok.2 c1_9
  by_cases c1_10 : x = 10
  · refine lv_tableIn (off := 122) (tgt := 123) hx hb dX6_counted_1 (by rw [c1_10]; decide) (by rw [c1_10]; decide) (by rw [c1_10]; decide) (by decide) ?_
    have hok := hok.1 c1_10
    refine lv_aload_n hx hb dX6_counted_123 rfl (lv_at hl 0 rfl) ?_
    refine lv_aload_n hx hb dX6_counted_124 rfl (lv_at hl 1 rfl) ?_
    refine gf_X6_159 K hG (gvs hy 20 rfl) dX6_counted_125 ?_
    obtain ⟨ho6, hok⟩ := hok
    refine g_ki (g_runV (As := [.ref (gA E y 30 0)]) (rest := []) K hml ca_X6_sumOf q861 (m_X6_sumOf l E J I y 30 (gvs hy 30 rfl) rfl (fun _ => rfl) ho6) hG hS rfl rfl rfl rfl rfl hl.1 (Nat.le_of_ble_eq_true rfl) ⟨by decide, by decide⟩ dX6_counted_128 ⟨Nat.zero_le _, Nat.zero_le _⟩) hS (fun H locs hG hS => ?_)
    exact g_iret K hG hS hr hlocks (by simp only [f_X6_counted, if_neg c1_0, if_neg c1_1, if_neg c1_2, if_neg c1_3, if_neg c1_4, if_neg c1_5, if_neg c1_6, if_neg c1_7, if_neg c1_8, if_neg c1_9, if_pos c1_10]) dX6_counted_131
  have hok := hok.2 c1_10
  by_cases c1_11 : x = 11
  · refine lv_tableIn (off := 131) (tgt := 132) hx hb dX6_counted_1 (by rw [c1_11]; decide) (by rw [c1_11]; decide) (by rw [c1_11]; decide) (by decide) ?_
    have hok := hok.1 c1_11
    refine lv_aload_n hx hb dX6_counted_132 rfl (lv_at hl 1 rfl) ?_
    refine gf_X6_194 K hG (gvs hy 20 rfl) dX6_counted_133 ?_
    exact g_iret K hG hS hr hlocks (by simp only [f_X6_counted, if_neg c1_0, if_neg c1_1, if_neg c1_2, if_neg c1_3, if_neg c1_4, if_neg c1_5, if_neg c1_6, if_neg c1_7, if_neg c1_8, if_neg c1_9, if_neg c1_10, if_pos c1_11]) dX6_counted_136
  have hok := hok.2 c1_11
  refine lv_tableOut (tgt := 137) hx hb dX6_counted_1 (gsw_0_11 c1_0 c1_1 c1_2 c1_3 c1_4 c1_5 c1_6 c1_7 c1_8 c1_9 c1_10 c1_11) (by decide) ?_
  refine lv_aload_n hx hb dX6_counted_137 rfl (lv_at hl 0 rfl) ?_
  refine gf_X6_22 K hG rfl dX6_counted_138 ?_
  exact g_iret K hG hS hr hlocks (by simp only [f_X6_counted, if_neg c1_0, if_neg c1_1, if_neg c1_2, if_neg c1_3, if_neg c1_4, if_neg c1_5, if_neg c1_6, if_neg c1_7, if_neg c1_8, if_neg c1_9, if_neg c1_10, if_neg c1_11]) dX6_counted_141
