/-! PRINTED by wip/gen (cls.py): X3b -/

theorem lp_ge2 {x : Int32} {N i : Nat} (hx : x = nI N) (hi : i < 2 ^ 31) (h : N ≤ i) : x ≤ nI i := by
  rw [hx]
  exact nI_le h hi
theorem lp_nge2 {x : Int32} {N i : Nat} (hx : x = nI N) (hN : N < 2 ^ 31) (h : i < N) : ¬ x ≤ nI i := by
  rw [hx]
  exact nI_ge h hN
theorem glk_1_2 {x : Int32} (h1 : ¬ x = 1) (h2 : ¬ x = 2) : Op.lookupswitch.offset [((1 : Int), (28 : Int)), (2, 34)] 40 x.toInt = 40 := by
  have a1 := gtoInt_ne h1
  have a2 := gtoInt_ne h2
  have b1 : ¬ (1 : Int) = x.toInt := fun q => a1 (by rw [← q]; decide)
  have b2 : ¬ (2 : Int) = x.toInt := fun q => a2 (by rw [← q]; decide)
  simp [Op.lookupswitch.offset, b1, b2, Ne.symm b1, Ne.symm b2]

def f_X3_nextWithHay_l1 (y : Nat) (k : Nat) : Nat → Nat → gI → Int32
  | 0, i, I =>
    (-1)
  | n + 1, i, I =>
    if ((I y 1 k 0) + (nI i)) < (I y 0 0 4) then
      if (f_X3_canBeRobbed I y (((I y 1 k 0) + (nI i)).toNatClampNeg) k) = 0 then
        f_X3_nextWithHay_l1 y k n (i + 1) I
      else
        ((I y 1 k 0) + (nI i))
    else
      if (f_X3_canBeRobbed I y ((((I y 1 k 0) + (nI i)) - (I y 0 0 4)).toNatClampNeg) k) = 0 then
        f_X3_nextWithHay_l1 y k n (i + 1) I
      else
        (((I y 1 k 0) + (nI i)) - (I y 0 0 4))
def f_X3_nextWithHay (I : gI) (y : Nat) (k : Nat) : Int32 :=
  f_X3_nextWithHay_l1 y k ((I y 0 0 4).toNatClampNeg - 1) 1 I
set_option maxHeartbeats 4000000 in
set_option maxRecDepth 100000 in
theorem m_X3_nextWithHay (l : Launch) (E : gE) (J : Int64) (I : gI) (y : Nat) (k : Nat) (hy : y < 2) (hw : wf (I y)) (hk : k < 6) : gMi l E J yX3_nextWithHay cX3_nextWithHay 4 (some .int) 1 22 [.ref (gA E y 0 0), .ref (gA E y 1 k)] I (f_X3_nextWithHay I y k) I := by
  refine g_entry (lv := [(0, .ref (gA E y 0 0)), (1, .ref (gA E y 1 k))]) (by decide) (Nat.le_of_ble_eq_true rfl) rfl ?_
  intro p e s m below meth c0 ls K hG hS hml hr hlocks hl
  have K : kx E p m c0 cX3_nextWithHay "HayThieves$Yard" _ s := K
  have hx := K.1
  have hb := K.2.1
  have hts := K.2.2.1
  have hown := K.2.2.2.1
  have hSt := K.2.2.2.2
  have hN := hw.N
  have hM := hw.M
  refine lv_iconst (v := 1) hx hb dX3_nextWithHay_0 (by decide) ?_
  refine lv_istore_n (lv' := [(2, .int 1), (0, .ref (gA E y 0 0)), (1, .ref (gA E y 1 k))]) hx hb dX3_nextWithHay_1 rfl hl (by decide) rfl (fun ls hl => ?_)
  have hL_l1 : ∀ (n i : Nat)  (H : Heap) (locs : List Loc) (ls : Array Slot), i + n = (max (I y 0 0 4).toNatClampNeg 1) → 1 ≤ i → f_X3_nextWithHay_l1 y k n i I = f_X3_nextWithHay I y k → GW E J I H → va_S (gF E) s.heap H locs → lv_has ls 4 [(2, .int (nI i)), (0, .ref (gA E y 0 0)), (1, .ref (gA E y 1 k))] → W p l e (grm 1 22) s m ([.ref (gA E y 0 0), .ref (gA E y 1 k)] : List Value).toArray below meth c0 H locs 0 0 (MQ below (va_Qi (fun z9 (_ : Unit) => z9 = f_X3_nextWithHay I y k) (fun _ t => GW E J I t.heap) (gF E)) ([.ref (gA E y 0 0), .ref (gA E y 1 k)] : List Value).toArray s 0 0 (gF E)) (F0 m 2 ls []) := by
    intro n
    induction n with
    | zero =>
      intro i H locs ls hin hi1 hTv hG hS hl
      refine lv_iload_n hx hb dX3_nextWithHay_2 rfl (lv_at hl 0 rfl) ?_
      refine lv_aload_n hx hb dX3_nextWithHay_3 rfl (lv_at hl 1 rfl) ?_
      refine gf_X3_31 K hG (gv0 hy) dX3_nextWithHay_4 ?_
      refine lv_icmp_ge (tgt := 54) hx hb dX3_nextWithHay_7 (by decide) (fun c1 => ?_) (fun c1 => ?_)
      · refine lv_iconst (v := (-1)) hx hb dX3_nextWithHay_54 (by decide) ?_
        exact g_iret K hG hS hr hlocks (by rw [← hTv]; simp only [f_X3_nextWithHay_l1, if_pos c1]) dX3_nextWithHay_55
      · exact absurd (lp_ge2 hw.Ne (by omega) (by omega)) c1
    | succ n ih =>
      intro i H locs ls hin hi1 hTv hG hS hl
      refine lv_iload_n hx hb dX3_nextWithHay_2 rfl (lv_at hl 0 rfl) ?_
      refine lv_aload_n hx hb dX3_nextWithHay_3 rfl (lv_at hl 1 rfl) ?_
      refine gf_X3_31 K hG (gv0 hy) dX3_nextWithHay_4 ?_
      refine lv_icmp_ge (tgt := 54) hx hb dX3_nextWithHay_7 (by decide) (fun c2 => ?_) (fun c2 => ?_)
      · exact absurd c2 (lp_nge2 hw.Ne (by omega) (by omega))
      · refine lv_aload_n hx hb dX3_nextWithHay_10 rfl (lv_at hl 2 rfl) ?_
        refine gf_X3_117 K hG (gv1 hy hk) dX3_nextWithHay_11 ?_
        refine lv_iload_n hx hb dX3_nextWithHay_14 rfl (lv_at hl 0 rfl) ?_
        refine lv_iadd hx hb dX3_nextWithHay_15 ?_
        refine lv_istore_n (lv' := [(3, .int ((I y 1 k 0) + (nI i))), (2, .int (nI i)), (0, .ref (gA E y 0 0)), (1, .ref (gA E y 1 k))]) hx hb dX3_nextWithHay_16 rfl hl (by decide) rfl (fun ls hl => ?_)
        refine lv_iload_n hx hb dX3_nextWithHay_17 rfl (lv_at hl 0 rfl) ?_
        refine lv_aload_n hx hb dX3_nextWithHay_18 rfl (lv_at hl 2 rfl) ?_
        refine gf_X3_31 K hG (gv0 hy) dX3_nextWithHay_19 ?_
        refine lv_icmp_lt (tgt := 32) hx hb dX3_nextWithHay_22 (by decide) (fun c3 => ?_) (fun c3 => ?_)
        · refine lv_aload_n hx hb dX3_nextWithHay_32 rfl (lv_at hl 2 rfl) ?_
          refine lv_aload_n hx hb dX3_nextWithHay_33 rfl (lv_at hl 2 rfl) ?_
          refine gf_X3_11 K hG (gv0 hy) dX3_nextWithHay_34 ?_
          refine lv_iload_n hx hb dX3_nextWithHay_37 rfl (lv_at hl 0 rfl) ?_
          refine g_lads K hG (gv7 hy) (rg_next1 hw hk (by omega) c3) dX3_nextWithHay_38 ?_
          refine lv_aload_n hx hb dX3_nextWithHay_39 rfl (lv_at hl 3 rfl) ?_
          refine g_ki (g_runV (As := [.ref (gA E y 1 (((I y 1 k 0) + (nI i)).toNatClampNeg)), .ref (gA E y 1 k)]) (rest := []) K hml ca_X3_canBeRobbed q328 (m_X3_canBeRobbed l E J I y (((I y 1 k 0) + (nI i)).toNatClampNeg) k hy hw (vp_lt (rg_next1 hw hk (by omega) c3)) hk) hG hS (gv0 hy) rfl rfl rfl rfl hl.1 (Nat.le_of_ble_eq_true rfl) ⟨by decide, by decide⟩ dX3_nextWithHay_40 ⟨Nat.zero_le _, Nat.zero_le _⟩) hS (fun H locs hG hS => ?_)
          refine lv_if_eq (tgt := 48) hx hb dX3_nextWithHay_43 (by decide) (fun c4 => ?_) (fun c4 => ?_)
          · refine lv_iinc (v := (nI (i + 1))) (lv' := [(2, .int (nI (i + 1))), (3, .int ((I y 1 k 0) + (nI i))), (0, .ref (gA E y 0 0)), (1, .ref (gA E y 1 k))]) hx hb dX3_nextWithHay_48 hl (k := 1) rfl (nI_add i 1) (by decide) rfl (fun ls hl => ?_)
            refine lv_goto (tgt := 2) hx hb dX3_nextWithHay_51 (by decide) ?_
            exact ih (i + 1) _ _ _ (by omega) (by omega) (by rw [← hTv]; simp only [f_X3_nextWithHay_l1, if_neg c2, if_pos c3, if_pos c4]) hG hS (lv_sub hl [0, 2, 3] rfl)
          · refine lv_iload_n hx hb dX3_nextWithHay_46 rfl (lv_at hl 0 rfl) ?_
            exact g_iret K hG hS hr hlocks (by rw [← hTv]; simp only [f_X3_nextWithHay_l1, if_neg c2, if_pos c3, if_neg c4]) dX3_nextWithHay_47
        · refine lv_iload_n hx hb dX3_nextWithHay_25 rfl (lv_at hl 0 rfl) ?_
          refine lv_aload_n hx hb dX3_nextWithHay_26 rfl (lv_at hl 2 rfl) ?_
          refine gf_X3_31 K hG (gv0 hy) dX3_nextWithHay_27 ?_
          refine lv_isub hx hb dX3_nextWithHay_30 ?_
          refine lv_istore_n (lv' := [(3, .int (((I y 1 k 0) + (nI i)) - (I y 0 0 4))), (2, .int (nI i)), (0, .ref (gA E y 0 0)), (1, .ref (gA E y 1 k))]) hx hb dX3_nextWithHay_31 rfl hl (by decide) rfl (fun ls hl => ?_)
          refine lv_aload_n hx hb dX3_nextWithHay_32 rfl (lv_at hl 2 rfl) ?_
          refine lv_aload_n hx hb dX3_nextWithHay_33 rfl (lv_at hl 2 rfl) ?_
          refine gf_X3_11 K hG (gv0 hy) dX3_nextWithHay_34 ?_
          refine lv_iload_n hx hb dX3_nextWithHay_37 rfl (lv_at hl 0 rfl) ?_
          refine g_lads K hG (gv7 hy) (rg_next2 hw hk (by omega) (by omega) c3) dX3_nextWithHay_38 ?_
          refine lv_aload_n hx hb dX3_nextWithHay_39 rfl (lv_at hl 3 rfl) ?_
          refine g_ki (g_runV (As := [.ref (gA E y 1 ((((I y 1 k 0) + (nI i)) - (I y 0 0 4)).toNatClampNeg)), .ref (gA E y 1 k)]) (rest := []) K hml ca_X3_canBeRobbed q328 (m_X3_canBeRobbed l E J I y ((((I y 1 k 0) + (nI i)) - (I y 0 0 4)).toNatClampNeg) k hy hw (vp_lt (rg_next2 hw hk (by omega) (by omega) c3)) hk) hG hS (gv0 hy) rfl rfl rfl rfl hl.1 (Nat.le_of_ble_eq_true rfl) ⟨by decide, by decide⟩ dX3_nextWithHay_40 ⟨Nat.zero_le _, Nat.zero_le _⟩) hS (fun H locs hG hS => ?_)
          refine lv_if_eq (tgt := 48) hx hb dX3_nextWithHay_43 (by decide) (fun c5 => ?_) (fun c5 => ?_)
          · refine lv_iinc (v := (nI (i + 1))) (lv' := [(2, .int (nI (i + 1))), (3, .int (((I y 1 k 0) + (nI i)) - (I y 0 0 4))), (0, .ref (gA E y 0 0)), (1, .ref (gA E y 1 k))]) hx hb dX3_nextWithHay_48 hl (k := 1) rfl (nI_add i 1) (by decide) rfl (fun ls hl => ?_)
            refine lv_goto (tgt := 2) hx hb dX3_nextWithHay_51 (by decide) ?_
            exact ih (i + 1) _ _ _ (by omega) (by omega) (by rw [← hTv]; simp only [f_X3_nextWithHay_l1, if_neg c2, if_neg c3, if_pos c5]) hG hS (lv_sub hl [0, 2, 3] rfl)
          · refine lv_iload_n hx hb dX3_nextWithHay_46 rfl (lv_at hl 0 rfl) ?_
            exact g_iret K hG hS hr hlocks (by rw [← hTv]; simp only [f_X3_nextWithHay_l1, if_neg c2, if_neg c3, if_neg c5]) dX3_nextWithHay_47
  exact hL_l1 ((I y 0 0 4).toNatClampNeg - 1) 1 _ _ _ (by omega) (Nat.le_refl 1) (by simp only [f_X3_nextWithHay]) hG hS (lv_sub hl [0, 1, 2] rfl)
def f_X3_fullestCart_l1 (y : Nat) (k : Nat) : Nat → Nat → Int32 → Int32 → gI → Int32
  | 0, i, a, b, I =>
    a
  | n + 1, i, a, b, I =>
    if (f_X3_canBeRobbed I y i k) = 0 then
      f_X3_fullestCart_l1 y k n (i + 1) a b I
    else
      if (I y 2 ((I y 1 i 3).toNatClampNeg) 1) ≤ b then
        f_X3_fullestCart_l1 y k n (i + 1) a b I
      else
        f_X3_fullestCart_l1 y k n (i + 1) (nI i) (I y 2 ((I y 1 i 3).toNatClampNeg) 1) I
def f_X3_fullestCart (I : gI) (y : Nat) (k : Nat) : Int32 :=
  f_X3_fullestCart_l1 y k ((I y 0 0 4).toNatClampNeg) 0 (-1) 0 I
set_option maxHeartbeats 4000000 in
set_option maxRecDepth 100000 in
theorem m_X3_fullestCart (l : Launch) (E : gE) (J : Int64) (I : gI) (y : Nat) (k : Nat) (hy : y < 2) (hw : wf (I y)) (hk : k < 6) : gMi l E J yX3_fullestCart cX3_fullestCart 5 (some .int) 1 22 [.ref (gA E y 0 0), .ref (gA E y 1 k)] I (f_X3_fullestCart I y k) I := by
  refine g_entry (lv := [(0, .ref (gA E y 0 0)), (1, .ref (gA E y 1 k))]) (by decide) (Nat.le_of_ble_eq_true rfl) rfl ?_
  intro p e s m below meth c0 ls K hG hS hml hr hlocks hl
  have K : kx E p m c0 cX3_fullestCart "HayThieves$Yard" _ s := K
  have hx := K.1
  have hb := K.2.1
  have hts := K.2.2.1
  have hown := K.2.2.2.1
  have hSt := K.2.2.2.2
  have hN := hw.N
  have hM := hw.M
  refine lv_iconst (v := (-1)) hx hb dX3_fullestCart_0 (by decide) ?_
  refine lv_istore_n (lv' := [(2, .int (-1)), (0, .ref (gA E y 0 0)), (1, .ref (gA E y 1 k))]) hx hb dX3_fullestCart_1 rfl hl (by decide) rfl (fun ls hl => ?_)
  refine lv_iconst (v := 0) hx hb dX3_fullestCart_2 (by decide) ?_
  refine lv_istore_n (lv' := [(3, .int 0), (2, .int (-1)), (0, .ref (gA E y 0 0)), (1, .ref (gA E y 1 k))]) hx hb dX3_fullestCart_3 rfl hl (by decide) rfl (fun ls hl => ?_)
  refine lv_iconst (v := 0) hx hb dX3_fullestCart_4 (by decide) ?_
  refine lv_istore (lv' := [(4, .int 0), (3, .int 0), (2, .int (-1)), (0, .ref (gA E y 0 0)), (1, .ref (gA E y 1 k))]) hx hb dX3_fullestCart_5 hl (by decide) rfl (fun ls hl => ?_)
  have hL_l1 : ∀ (n i : Nat) (a : Int32) (b : Int32) (H : Heap) (locs : List Loc) (ls : Array Slot), i + n = (I y 0 0 4).toNatClampNeg → f_X3_fullestCart_l1 y k n i a b I = f_X3_fullestCart I y k → GW E J I H → va_S (gF E) s.heap H locs → lv_has ls 5 [(4, .int (nI i)), (2, .int a), (3, .int b), (0, .ref (gA E y 0 0)), (1, .ref (gA E y 1 k))] → W p l e (grm 1 22) s m ([.ref (gA E y 0 0), .ref (gA E y 1 k)] : List Value).toArray below meth c0 H locs 0 0 (MQ below (va_Qi (fun z9 (_ : Unit) => z9 = f_X3_fullestCart I y k) (fun _ t => GW E J I t.heap) (gF E)) ([.ref (gA E y 0 0), .ref (gA E y 1 k)] : List Value).toArray s 0 0 (gF E)) (F0 m 7 ls []) := by
    intro n
    induction n with
    | zero =>
      intro i a b H locs ls hin hTv hG hS hl
      refine lv_iload hx hb dX3_fullestCart_7 (lv_at hl 0 rfl) ?_
      refine lv_aload_n hx hb dX3_fullestCart_9 rfl (lv_at hl 3 rfl) ?_
      refine gf_X3_31 K hG (gv0 hy) dX3_fullestCart_10 ?_
      refine lv_icmp_ge (tgt := 71) hx hb dX3_fullestCart_13 (by decide) (fun c1 => ?_) (fun c1 => ?_)
      · refine lv_iload_n hx hb dX3_fullestCart_71 rfl (lv_at hl 1 rfl) ?_
        exact g_iret K hG hS hr hlocks (by rw [← hTv]; simp only [f_X3_fullestCart_l1, if_pos c1]) dX3_fullestCart_72
      · exact absurd (lp_ge hw.Ne (by omega) hin) c1
    | succ n ih =>
      intro i a b H locs ls hin hTv hG hS hl
      refine lv_iload hx hb dX3_fullestCart_7 (lv_at hl 0 rfl) ?_
      refine lv_aload_n hx hb dX3_fullestCart_9 rfl (lv_at hl 3 rfl) ?_
      refine gf_X3_31 K hG (gv0 hy) dX3_fullestCart_10 ?_
      refine lv_icmp_ge (tgt := 71) hx hb dX3_fullestCart_13 (by decide) (fun c2 => ?_) (fun c2 => ?_)
      · exact absurd c2 (lp_nge hw.Ne (by omega) hin)
      · refine lv_aload_n hx hb dX3_fullestCart_16 rfl (lv_at hl 3 rfl) ?_
        refine lv_aload_n hx hb dX3_fullestCart_17 rfl (lv_at hl 3 rfl) ?_
        refine gf_X3_11 K hG (gv0 hy) dX3_fullestCart_18 ?_
        refine lv_iload hx hb dX3_fullestCart_21 (lv_at hl 0 rfl) ?_
        refine g_lads K hG (gv7 hy) (vp_in_nI (by omega) (by decide)) dX3_fullestCart_23 ?_
        rw [nI_clamp (by omega)]
        refine lv_aload_n hx hb dX3_fullestCart_24 rfl (lv_at hl 4 rfl) ?_
        refine g_ki (g_runV (As := [.ref (gA E y 1 i), .ref (gA E y 1 k)]) (rest := []) K hml ca_X3_canBeRobbed q328 (m_X3_canBeRobbed l E J I y i k hy hw (by omega) hk) hG hS (gv0 hy) rfl rfl rfl rfl hl.1 (Nat.le_of_ble_eq_true rfl) ⟨by decide, by decide⟩ dX3_fullestCart_25 ⟨Nat.zero_le _, Nat.zero_le _⟩) hS (fun H locs hG hS => ?_)
        refine lv_if_eq (tgt := 65) hx hb dX3_fullestCart_28 (by decide) (fun c3 => ?_) (fun c3 => ?_)
        · refine lv_iinc (v := (nI (i + 1))) (lv' := [(4, .int (nI (i + 1))), (2, .int a), (3, .int b), (0, .ref (gA E y 0 0)), (1, .ref (gA E y 1 k))]) hx hb dX3_fullestCart_65 hl (k := 0) rfl (nI_add i 1) (by decide) rfl (fun ls hl => ?_)
          refine lv_goto (tgt := 7) hx hb dX3_fullestCart_68 (by decide) ?_
          exact ih (i + 1) a b _ _ _ (by omega) (by rw [← hTv]; simp only [f_X3_fullestCart_l1, if_neg c2, if_pos c3]) hG hS (lv_sub hl [0, 1, 2, 3, 4] rfl)
        · refine lv_aload_n hx hb dX3_fullestCart_31 rfl (lv_at hl 3 rfl) ?_
          refine gf_X3_11 K hG (gv0 hy) dX3_fullestCart_32 ?_
          refine lv_iload hx hb dX3_fullestCart_35 (lv_at hl 0 rfl) ?_
          refine g_lads K hG (gv7 hy) (vp_in_nI (by omega) (by decide)) dX3_fullestCart_37 ?_
          rw [nI_clamp (by omega)]
          refine gf_X3_108 K hG (gv1 hy (by omega)) dX3_fullestCart_38 ?_
          refine gf_X3_112 K hG (gv2 hy (hw.cart (by omega))) dX3_fullestCart_41 ?_
          refine lv_iload_n hx hb dX3_fullestCart_44 rfl (lv_at hl 2 rfl) ?_
          refine lv_icmp_le (tgt := 65) hx hb dX3_fullestCart_45 (by decide) (fun c4 => ?_) (fun c4 => ?_)
          · refine lv_iinc (v := (nI (i + 1))) (lv' := [(4, .int (nI (i + 1))), (2, .int a), (3, .int b), (0, .ref (gA E y 0 0)), (1, .ref (gA E y 1 k))]) hx hb dX3_fullestCart_65 hl (k := 0) rfl (nI_add i 1) (by decide) rfl (fun ls hl => ?_)
            refine lv_goto (tgt := 7) hx hb dX3_fullestCart_68 (by decide) ?_
            exact ih (i + 1) a b _ _ _ (by omega) (by rw [← hTv]; simp only [f_X3_fullestCart_l1, if_neg c2, if_neg c3, if_pos c4]) hG hS (lv_sub hl [0, 1, 2, 3, 4] rfl)
          · refine lv_aload_n hx hb dX3_fullestCart_48 rfl (lv_at hl 3 rfl) ?_
            refine gf_X3_11 K hG (gv0 hy) dX3_fullestCart_49 ?_
            refine lv_iload hx hb dX3_fullestCart_52 (lv_at hl 0 rfl) ?_
            refine g_lads K hG (gv7 hy) (vp_in_nI (by omega) (by decide)) dX3_fullestCart_54 ?_
            rw [nI_clamp (by omega)]
            refine gf_X3_108 K hG (gv1 hy (by omega)) dX3_fullestCart_55 ?_
            refine gf_X3_112 K hG (gv2 hy (hw.cart (by omega))) dX3_fullestCart_58 ?_
            refine lv_istore_n (lv' := [(3, .int (I y 2 ((I y 1 i 3).toNatClampNeg) 1)), (4, .int (nI i)), (2, .int a), (0, .ref (gA E y 0 0)), (1, .ref (gA E y 1 k))]) hx hb dX3_fullestCart_61 rfl hl (by decide) rfl (fun ls hl => ?_)
            refine lv_iload hx hb dX3_fullestCart_62 (lv_at hl 1 rfl) ?_
            refine lv_istore_n (lv' := [(2, .int (nI i)), (3, .int (I y 2 ((I y 1 i 3).toNatClampNeg) 1)), (4, .int (nI i)), (0, .ref (gA E y 0 0)), (1, .ref (gA E y 1 k))]) hx hb dX3_fullestCart_64 rfl hl (by decide) rfl (fun ls hl => ?_)
            refine lv_iinc (v := (nI (i + 1))) (lv' := [(4, .int (nI (i + 1))), (2, .int (nI i)), (3, .int (I y 2 ((I y 1 i 3).toNatClampNeg) 1)), (0, .ref (gA E y 0 0)), (1, .ref (gA E y 1 k))]) hx hb dX3_fullestCart_65 hl (k := 2) rfl (nI_add i 1) (by decide) rfl (fun ls hl => ?_)
            refine lv_goto (tgt := 7) hx hb dX3_fullestCart_68 (by decide) ?_
            exact ih (i + 1) (nI i) (I y 2 ((I y 1 i 3).toNatClampNeg) 1) _ _ _ (by omega) (by rw [← hTv]; simp only [f_X3_fullestCart_l1, if_neg c2, if_neg c3, if_neg c4]) hG hS (lv_sub hl [0, 1, 2, 3, 4] rfl)
  exact hL_l1 ((I y 0 0 4).toNatClampNeg) 0 (-1) 0 _ _ _ (Nat.zero_add _) (by simp only [f_X3_fullestCart]) hG hS (lv_sub hl [0, 2, 1, 3, 4] rfl)
def f_X3_greatestFarHeap_l1 (y : Nat) (k : Nat) : Nat → Nat → Int32 → Int32 → gI → Int32
  | 0, i, a, b, I =>
    a
  | n + 1, i, a, b, I =>
    if (f_X3_canBeRobbed I y i k) = 0 then
      f_X3_greatestFarHeap_l1 y k n (i + 1) a b I
    else
      if (f_X3_balesOf I y (f_X0_farHeap I y ((I y 1 i 3).toNatClampNeg))) ≤ b then
        f_X3_greatestFarHeap_l1 y k n (i + 1) a b I
      else
        f_X3_greatestFarHeap_l1 y k n (i + 1) (nI i) (f_X3_balesOf I y (f_X0_farHeap I y ((I y 1 i 3).toNatClampNeg))) I
def f_X3_greatestFarHeap (I : gI) (y : Nat) (k : Nat) : Int32 :=
  f_X3_greatestFarHeap_l1 y k ((I y 0 0 4).toNatClampNeg) 0 (-1) 0 I
set_option maxHeartbeats 4000000 in
set_option maxRecDepth 100000 in
theorem m_X3_greatestFarHeap (l : Launch) (E : gE) (J : Int64) (I : gI) (y : Nat) (k : Nat) (hy : y < 2) (hw : wf (I y)) (hk : k < 6) : gMi l E J yX3_greatestFarHeap cX3_greatestFarHeap 6 (some .int) 1 22 [.ref (gA E y 0 0), .ref (gA E y 1 k)] I (f_X3_greatestFarHeap I y k) I := by
  refine g_entry (lv := [(0, .ref (gA E y 0 0)), (1, .ref (gA E y 1 k))]) (by decide) (Nat.le_of_ble_eq_true rfl) rfl ?_
  intro p e s m below meth c0 ls K hG hS hml hr hlocks hl
  have K : kx E p m c0 cX3_greatestFarHeap "HayThieves$Yard" _ s := K
  have hx := K.1
  have hb := K.2.1
  have hts := K.2.2.1
  have hown := K.2.2.2.1
  have hSt := K.2.2.2.2
  have hN := hw.N
  have hM := hw.M
  refine lv_iconst (v := (-1)) hx hb dX3_greatestFarHeap_0 (by decide) ?_
  refine lv_istore_n (lv' := [(2, .int (-1)), (0, .ref (gA E y 0 0)), (1, .ref (gA E y 1 k))]) hx hb dX3_greatestFarHeap_1 rfl hl (by decide) rfl (fun ls hl => ?_)
  refine lv_iconst (v := 0) hx hb dX3_greatestFarHeap_2 (by decide) ?_
  refine lv_istore_n (lv' := [(3, .int 0), (2, .int (-1)), (0, .ref (gA E y 0 0)), (1, .ref (gA E y 1 k))]) hx hb dX3_greatestFarHeap_3 rfl hl (by decide) rfl (fun ls hl => ?_)
  refine lv_iconst (v := 0) hx hb dX3_greatestFarHeap_4 (by decide) ?_
  refine lv_istore (lv' := [(4, .int 0), (3, .int 0), (2, .int (-1)), (0, .ref (gA E y 0 0)), (1, .ref (gA E y 1 k))]) hx hb dX3_greatestFarHeap_5 hl (by decide) rfl (fun ls hl => ?_)
  have hL_l1 : ∀ (n i : Nat) (a : Int32) (b : Int32) (H : Heap) (locs : List Loc) (ls : Array Slot), i + n = (I y 0 0 4).toNatClampNeg → f_X3_greatestFarHeap_l1 y k n i a b I = f_X3_greatestFarHeap I y k → GW E J I H → va_S (gF E) s.heap H locs → lv_has ls 6 [(4, .int (nI i)), (2, .int a), (3, .int b), (0, .ref (gA E y 0 0)), (1, .ref (gA E y 1 k))] → W p l e (grm 1 22) s m ([.ref (gA E y 0 0), .ref (gA E y 1 k)] : List Value).toArray below meth c0 H locs 0 0 (MQ below (va_Qi (fun z9 (_ : Unit) => z9 = f_X3_greatestFarHeap I y k) (fun _ t => GW E J I t.heap) (gF E)) ([.ref (gA E y 0 0), .ref (gA E y 1 k)] : List Value).toArray s 0 0 (gF E)) (F0 m 7 ls []) := by
    intro n
    induction n with
    | zero =>
      intro i a b H locs ls hin hTv hG hS hl
      refine lv_iload hx hb dX3_greatestFarHeap_7 (lv_at hl 0 rfl) ?_
      refine lv_aload_n hx hb dX3_greatestFarHeap_9 rfl (lv_at hl 3 rfl) ?_
      refine gf_X3_31 K hG (gv0 hy) dX3_greatestFarHeap_10 ?_
      refine lv_icmp_ge (tgt := 68) hx hb dX3_greatestFarHeap_13 (by decide) (fun c1 => ?_) (fun c1 => ?_)
      · refine lv_iload_n hx hb dX3_greatestFarHeap_68 rfl (lv_at hl 1 rfl) ?_
        exact g_iret K hG hS hr hlocks (by rw [← hTv]; simp only [f_X3_greatestFarHeap_l1, if_pos c1]) dX3_greatestFarHeap_69
      · exact absurd (lp_ge hw.Ne (by omega) hin) c1
    | succ n ih =>
      intro i a b H locs ls hin hTv hG hS hl
      refine lv_iload hx hb dX3_greatestFarHeap_7 (lv_at hl 0 rfl) ?_
      refine lv_aload_n hx hb dX3_greatestFarHeap_9 rfl (lv_at hl 3 rfl) ?_
      refine gf_X3_31 K hG (gv0 hy) dX3_greatestFarHeap_10 ?_
      refine lv_icmp_ge (tgt := 68) hx hb dX3_greatestFarHeap_13 (by decide) (fun c2 => ?_) (fun c2 => ?_)
      · exact absurd c2 (lp_nge hw.Ne (by omega) hin)
      · refine lv_aload_n hx hb dX3_greatestFarHeap_16 rfl (lv_at hl 3 rfl) ?_
        refine lv_aload_n hx hb dX3_greatestFarHeap_17 rfl (lv_at hl 3 rfl) ?_
        refine gf_X3_11 K hG (gv0 hy) dX3_greatestFarHeap_18 ?_
        refine lv_iload hx hb dX3_greatestFarHeap_21 (lv_at hl 0 rfl) ?_
        refine g_lads K hG (gv7 hy) (vp_in_nI (by omega) (by decide)) dX3_greatestFarHeap_23 ?_
        rw [nI_clamp (by omega)]
        refine gf_X3_108 K hG (gv1 hy (by omega)) dX3_greatestFarHeap_24 ?_
        refine g_ki (g_runV (As := []) (rest := [.ref (gA E y 0 0)]) K hml ca_X0_farHeap q336 (m_X0_farHeap l E J I y ((I y 1 i 3).toNatClampNeg) hy (hw.cart (by omega)) hw) hG hS (gv2 hy (hw.cart (by omega))) rfl rfl rfl rfl hl.1 (Nat.le_of_ble_eq_true rfl) ⟨by decide, by decide⟩ dX3_greatestFarHeap_27 ⟨Nat.zero_le _, Nat.zero_le _⟩) hS (fun H locs hG hS => ?_)
        refine g_ki (g_runV (As := [.int (f_X0_farHeap I y ((I y 1 i 3).toNatClampNeg))]) (rest := []) K hml ca_X3_balesOf q340 (m_X3_balesOf l E J I y (f_X0_farHeap I y ((I y 1 i 3).toNatClampNeg)) hy hw) hG hS (gv0 hy) rfl rfl rfl rfl hl.1 (Nat.le_of_ble_eq_true rfl) ⟨by decide, by decide⟩ dX3_greatestFarHeap_30 ⟨Nat.zero_le _, Nat.zero_le _⟩) hS (fun H locs hG hS => ?_)
        refine lv_istore (lv' := [(5, .int (f_X3_balesOf I y (f_X0_farHeap I y ((I y 1 i 3).toNatClampNeg)))), (4, .int (nI i)), (2, .int a), (3, .int b), (0, .ref (gA E y 0 0)), (1, .ref (gA E y 1 k))]) hx hb dX3_greatestFarHeap_33 hl (by decide) rfl (fun ls hl => ?_)
        refine lv_aload_n hx hb dX3_greatestFarHeap_35 rfl (lv_at hl 4 rfl) ?_
        refine lv_aload_n hx hb dX3_greatestFarHeap_36 rfl (lv_at hl 4 rfl) ?_
        refine gf_X3_11 K hG (gv0 hy) dX3_greatestFarHeap_37 ?_
        refine lv_iload hx hb dX3_greatestFarHeap_40 (lv_at hl 1 rfl) ?_
        refine g_lads K hG (gv7 hy) (vp_in_nI (by omega) (by decide)) dX3_greatestFarHeap_42 ?_
        rw [nI_clamp (by omega)]
        refine lv_aload_n hx hb dX3_greatestFarHeap_43 rfl (lv_at hl 5 rfl) ?_
        refine g_ki (g_runV (As := [.ref (gA E y 1 i), .ref (gA E y 1 k)]) (rest := []) K hml ca_X3_canBeRobbed q328 (m_X3_canBeRobbed l E J I y i k hy hw (by omega) hk) hG hS (gv0 hy) rfl rfl rfl rfl hl.1 (Nat.le_of_ble_eq_true rfl) ⟨by decide, by decide⟩ dX3_greatestFarHeap_44 ⟨Nat.zero_le _, Nat.zero_le _⟩) hS (fun H locs hG hS => ?_)
        refine lv_if_eq (tgt := 62) hx hb dX3_greatestFarHeap_47 (by decide) (fun c3 => ?_) (fun c3 => ?_)
        · refine lv_iinc (v := (nI (i + 1))) (lv' := [(4, .int (nI (i + 1))), (5, .int (f_X3_balesOf I y (f_X0_farHeap I y ((I y 1 i 3).toNatClampNeg)))), (2, .int a), (3, .int b), (0, .ref (gA E y 0 0)), (1, .ref (gA E y 1 k))]) hx hb dX3_greatestFarHeap_62 hl (k := 1) rfl (nI_add i 1) (by decide) rfl (fun ls hl => ?_)
          refine lv_goto (tgt := 7) hx hb dX3_greatestFarHeap_65 (by decide) ?_
          exact ih (i + 1) a b _ _ _ (by omega) (by rw [← hTv]; simp only [f_X3_greatestFarHeap_l1, if_neg c2, if_pos c3]) hG hS (lv_sub hl [0, 2, 3, 4, 5] rfl)
        · refine lv_iload hx hb dX3_greatestFarHeap_50 (lv_at hl 0 rfl) ?_
          refine lv_iload_n hx hb dX3_greatestFarHeap_52 rfl (lv_at hl 3 rfl) ?_
          refine lv_icmp_le (tgt := 62) hx hb dX3_greatestFarHeap_53 (by decide) (fun c4 => ?_) (fun c4 => ?_)
          · refine lv_iinc (v := (nI (i + 1))) (lv' := [(4, .int (nI (i + 1))), (5, .int (f_X3_balesOf I y (f_X0_farHeap I y ((I y 1 i 3).toNatClampNeg)))), (2, .int a), (3, .int b), (0, .ref (gA E y 0 0)), (1, .ref (gA E y 1 k))]) hx hb dX3_greatestFarHeap_62 hl (k := 1) rfl (nI_add i 1) (by decide) rfl (fun ls hl => ?_)
            refine lv_goto (tgt := 7) hx hb dX3_greatestFarHeap_65 (by decide) ?_
            exact ih (i + 1) a b _ _ _ (by omega) (by rw [← hTv]; simp only [f_X3_greatestFarHeap_l1, if_neg c2, if_neg c3, if_pos c4]) hG hS (lv_sub hl [0, 2, 3, 4, 5] rfl)
          · refine lv_iload hx hb dX3_greatestFarHeap_56 (lv_at hl 0 rfl) ?_
            refine lv_istore_n (lv' := [(3, .int (f_X3_balesOf I y (f_X0_farHeap I y ((I y 1 i 3).toNatClampNeg)))), (5, .int (f_X3_balesOf I y (f_X0_farHeap I y ((I y 1 i 3).toNatClampNeg)))), (4, .int (nI i)), (2, .int a), (0, .ref (gA E y 0 0)), (1, .ref (gA E y 1 k))]) hx hb dX3_greatestFarHeap_58 rfl hl (by decide) rfl (fun ls hl => ?_)
            refine lv_iload hx hb dX3_greatestFarHeap_59 (lv_at hl 2 rfl) ?_
            refine lv_istore_n (lv' := [(2, .int (nI i)), (3, .int (f_X3_balesOf I y (f_X0_farHeap I y ((I y 1 i 3).toNatClampNeg)))), (5, .int (f_X3_balesOf I y (f_X0_farHeap I y ((I y 1 i 3).toNatClampNeg)))), (4, .int (nI i)), (0, .ref (gA E y 0 0)), (1, .ref (gA E y 1 k))]) hx hb dX3_greatestFarHeap_61 rfl hl (by decide) rfl (fun ls hl => ?_)
            refine lv_iinc (v := (nI (i + 1))) (lv' := [(4, .int (nI (i + 1))), (2, .int (nI i)), (3, .int (f_X3_balesOf I y (f_X0_farHeap I y ((I y 1 i 3).toNatClampNeg)))), (5, .int (f_X3_balesOf I y (f_X0_farHeap I y ((I y 1 i 3).toNatClampNeg)))), (0, .ref (gA E y 0 0)), (1, .ref (gA E y 1 k))]) hx hb dX3_greatestFarHeap_62 hl (k := 3) rfl (nI_add i 1) (by decide) rfl (fun ls hl => ?_)
            refine lv_goto (tgt := 7) hx hb dX3_greatestFarHeap_65 (by decide) ?_
            exact ih (i + 1) (nI i) (f_X3_balesOf I y (f_X0_farHeap I y ((I y 1 i 3).toNatClampNeg))) _ _ _ (by omega) (by rw [← hTv]; simp only [f_X3_greatestFarHeap_l1, if_neg c2, if_neg c3, if_neg c4]) hG hS (lv_sub hl [0, 1, 2, 4, 5] rfl)
  exact hL_l1 ((I y 0 0 4).toNatClampNeg) 0 (-1) 0 _ _ _ (Nat.zero_add _) (by simp only [f_X3_greatestFarHeap]) hG hS (lv_sub hl [0, 2, 1, 3, 4] rfl)
def f_X3_victimOf (I : gI) (y : Nat) (k : Nat) : Int32 :=
  if (I y 1 k 2) = 1 then
    (f_X3_fullestCart I y k)
  else
    if (I y 1 k 2) = 2 then
      (f_X3_greatestFarHeap I y k)
    else
      (f_X3_nextWithHay I y k)
set_option maxHeartbeats 4000000 in
set_option maxRecDepth 100000 in
theorem m_X3_victimOf (l : Launch) (E : gE) (J : Int64) (I : gI) (y : Nat) (k : Nat) (hy : y < 2) (hw : wf (I y)) (hk : k < 6) : gMi l E J yX3_victimOf cX3_victimOf 2 (some .int) 2 47 [.ref (gA E y 0 0), .ref (gA E y 1 k)] I (f_X3_victimOf I y k) I := by
  refine g_entry (lv := [(0, .ref (gA E y 0 0)), (1, .ref (gA E y 1 k))]) (by decide) (Nat.le_of_ble_eq_true rfl) rfl ?_
  intro p e s m below meth c0 ls K hG hS hml hr hlocks hl
  have K : kx E p m c0 cX3_victimOf "HayThieves$Yard" _ s := K
  have hx := K.1
  have hb := K.2.1
  have hts := K.2.2.1
  have hown := K.2.2.2.1
  have hSt := K.2.2.2.2
  have hN := hw.N
  have hM := hw.M
  refine lv_aload_n hx hb dX3_victimOf_0 rfl (lv_at hl 1 rfl) ?_
  refine gf_X3_95 K hG (gv1 hy hk) dX3_victimOf_1 ?_
  by_cases c1_1 : (I y 1 k 2) = 1
  · refine lv_lookup (off := 28) (tgt := 32) hx hb dX3_victimOf_4 (by decide) (by rw [c1_1]; decide) (by decide) ?_
    refine lv_aload_n hx hb dX3_victimOf_32 rfl (lv_at hl 0 rfl) ?_
    refine lv_aload_n hx hb dX3_victimOf_33 rfl (lv_at hl 1 rfl) ?_
    refine g_ki (g_runV (As := [.ref (gA E y 1 k)]) (rest := []) K hml ca_X3_fullestCart q324 (m_X3_fullestCart l E J I y k hy hw hk) hG hS (gv0 hy) rfl rfl rfl rfl hl.1 (Nat.le_of_ble_eq_true rfl) ⟨by decide, by decide⟩ dX3_victimOf_34 ⟨Nat.zero_le _, Nat.zero_le _⟩) hS (fun H locs hG hS => ?_)
    exact g_iret K hG hS hr hlocks (by simp only [f_X3_victimOf, if_pos c1_1]) dX3_victimOf_37
  by_cases c1_2 : (I y 1 k 2) = 2
  · refine lv_lookup (off := 34) (tgt := 38) hx hb dX3_victimOf_4 (by decide) (by rw [c1_2]; decide) (by decide) ?_
    refine lv_aload_n hx hb dX3_victimOf_38 rfl (lv_at hl 0 rfl) ?_
    refine lv_aload_n hx hb dX3_victimOf_39 rfl (lv_at hl 1 rfl) ?_
    refine g_ki (g_runV (As := [.ref (gA E y 1 k)]) (rest := []) K hml ca_X3_greatestFarHeap q332 (m_X3_greatestFarHeap l E J I y k hy hw hk) hG hS (gv0 hy) rfl rfl rfl rfl hl.1 (Nat.le_of_ble_eq_true rfl) ⟨by decide, by decide⟩ dX3_victimOf_40 ⟨Nat.zero_le _, Nat.zero_le _⟩) hS (fun H locs hG hS => ?_)
    exact g_iret K hG hS hr hlocks (by simp only [f_X3_victimOf, if_neg c1_1, if_pos c1_2]) dX3_victimOf_43
  refine lv_lookup (off := 40) (tgt := 44) hx hb dX3_victimOf_4 (by decide) (glk_1_2 c1_1 c1_2) (by decide) ?_
  refine lv_aload_n hx hb dX3_victimOf_44 rfl (lv_at hl 0 rfl) ?_
  refine lv_aload_n hx hb dX3_victimOf_45 rfl (lv_at hl 1 rfl) ?_
  refine g_ki (g_runV (As := [.ref (gA E y 1 k)]) (rest := []) K hml ca_X3_nextWithHay q344 (m_X3_nextWithHay l E J I y k hy hw hk) hG hS (gv0 hy) rfl rfl rfl rfl hl.1 (Nat.le_of_ble_eq_true rfl) ⟨by decide, by decide⟩ dX3_victimOf_46 ⟨Nat.zero_le _, Nat.zero_le _⟩) hS (fun H locs hG hS => ?_)
  exact g_iret K hG hS hr hlocks (by simp only [f_X3_victimOf, if_neg c1_1, if_neg c1_2]) dX3_victimOf_49
def f_X3_takeFromOwnCart (I : gI) (y : Nat) (k : Nat) : gI :=
  let I1 := f_X0_takeNear_s I y ((I y 1 k 3).toNatClampNeg)
  if (f_X0_takeNear_v I y ((I y 1 k 3).toNatClampNeg)) = (-1) then
    I1
  else
    let I2 := f_X1_take I1 y k (f_X0_takeNear_v I y ((I y 1 k 3).toNatClampNeg)) (f_X3_balesOf I1 y (f_X0_takeNear_v I y ((I y 1 k 3).toNatClampNeg)))
    I2
set_option maxRecDepth 100000 in
theorem wf_X3_takeFromOwnCart (I : gI) (y : Nat) (k : Nat) (hy : y < 2) (hw : wf (I y)) (hk : k < 6) : wf (f_X3_takeFromOwnCart I y k y) := by
  obtain ⟨I1, hI1⟩ : ∃ z, z = f_X0_takeNear_s I y ((I y 1 k 3).toNatClampNeg) := ⟨_, rfl⟩
  have hw1_y : wf (I1 y) := by rw [hI1]; exact wf_X0_takeNear I y ((I y 1 k 3).toNatClampNeg) hy (hw.cart hk) hw
  by_cases c1 : (f_X0_takeNear_v I y ((I y 1 k 3).toNatClampNeg)) = (-1)
  · have eS : f_X3_takeFromOwnCart I y k = I1 := by simp only [f_X3_takeFromOwnCart, ← hI1, if_pos c1]
    rw [eS]
    exact hw1_y
  · obtain ⟨I2, hI2⟩ : ∃ z, z = f_X1_take I1 y k (f_X0_takeNear_v I y ((I y 1 k 3).toNatClampNeg)) (f_X3_balesOf I1 y (f_X0_takeNear_v I y ((I y 1 k 3).toNatClampNeg))) := ⟨_, rfl⟩
    have hw2_y : wf (I2 y) := by rw [hI2]; exact wf_X1_take I1 y k (f_X0_takeNear_v I y ((I y 1 k 3).toNatClampNeg)) (f_X3_balesOf I1 y (f_X0_takeNear_v I y ((I y 1 k 3).toNatClampNeg))) hy hk hw1_y
    have eS : f_X3_takeFromOwnCart I y k = I2 := by simp only [f_X3_takeFromOwnCart, ← hI1, ← hI2, if_neg c1]
    rw [eS]
    exact hw2_y
set_option maxRecDepth 100000 in
theorem ne_X3_takeFromOwnCart (I : gI) (y : Nat) (k : Nat) (hy : y < 2) (hw : wf (I y)) (hk : k < 6) {y' : Nat} (hne : y' ≠ y) : f_X3_takeFromOwnCart I y k y' = I y' := by
  have hn : I y' = I y' := rfl
  obtain ⟨I1, hI1⟩ : ∃ z, z = f_X0_takeNear_s I y ((I y 1 k 3).toNatClampNeg) := ⟨_, rfl⟩
  have hw1_y : wf (I1 y) := by rw [hI1]; exact wf_X0_takeNear I y ((I y 1 k 3).toNatClampNeg) hy (hw.cart hk) hw
  have hn1 : I1 y' = I y' := by rw [hI1]; exact (ne_X0_takeNear I y ((I y 1 k 3).toNatClampNeg) hy (hw.cart hk) hw (y' := y') hne).trans hn
  by_cases c1 : (f_X0_takeNear_v I y ((I y 1 k 3).toNatClampNeg)) = (-1)
  · have eS : f_X3_takeFromOwnCart I y k = I1 := by simp only [f_X3_takeFromOwnCart, ← hI1, if_pos c1]
    exact (congrFun eS y').trans hn1
  · obtain ⟨I2, hI2⟩ : ∃ z, z = f_X1_take I1 y k (f_X0_takeNear_v I y ((I y 1 k 3).toNatClampNeg)) (f_X3_balesOf I1 y (f_X0_takeNear_v I y ((I y 1 k 3).toNatClampNeg))) := ⟨_, rfl⟩
    have hw2_y : wf (I2 y) := by rw [hI2]; exact wf_X1_take I1 y k (f_X0_takeNear_v I y ((I y 1 k 3).toNatClampNeg)) (f_X3_balesOf I1 y (f_X0_takeNear_v I y ((I y 1 k 3).toNatClampNeg))) hy hk hw1_y
    have hn2 : I2 y' = I y' := by rw [hI2]; exact (ne_X1_take I1 y k (f_X0_takeNear_v I y ((I y 1 k 3).toNatClampNeg)) (f_X3_balesOf I1 y (f_X0_takeNear_v I y ((I y 1 k 3).toNatClampNeg))) hy hk hw1_y (y' := y') hne).trans hn1
    have eS : f_X3_takeFromOwnCart I y k = I2 := by simp only [f_X3_takeFromOwnCart, ← hI1, ← hI2, if_neg c1]
    exact (congrFun eS y').trans hn2
set_option maxRecDepth 100000 in
theorem kn_X3_takeFromOwnCart (I : gI) (y : Nat) (k : Nat) (hy : y < 2) (hw : wf (I y)) (hk : k < 6) : f_X3_takeFromOwnCart I y k y 0 0 4 = I y 0 0 4 := by
  have hn : I y 0 0 4 = I y 0 0 4 := rfl
  obtain ⟨I1, hI1⟩ : ∃ z, z = f_X0_takeNear_s I y ((I y 1 k 3).toNatClampNeg) := ⟨_, rfl⟩
  have hw1_y : wf (I1 y) := by rw [hI1]; exact wf_X0_takeNear I y ((I y 1 k 3).toNatClampNeg) hy (hw.cart hk) hw
  have hn1 : I1 y 0 0 4 = I y 0 0 4 := by rw [hI1]; exact (kn_X0_takeNear I y ((I y 1 k 3).toNatClampNeg) hy (hw.cart hk) hw).trans hn
  by_cases c1 : (f_X0_takeNear_v I y ((I y 1 k 3).toNatClampNeg)) = (-1)
  · have eS : f_X3_takeFromOwnCart I y k = I1 := by simp only [f_X3_takeFromOwnCart, ← hI1, if_pos c1]
    exact (congrFun (congrFun (congrFun (congrFun eS y) 0) 0) 4).trans hn1
  · obtain ⟨I2, hI2⟩ : ∃ z, z = f_X1_take I1 y k (f_X0_takeNear_v I y ((I y 1 k 3).toNatClampNeg)) (f_X3_balesOf I1 y (f_X0_takeNear_v I y ((I y 1 k 3).toNatClampNeg))) := ⟨_, rfl⟩
    have hw2_y : wf (I2 y) := by rw [hI2]; exact wf_X1_take I1 y k (f_X0_takeNear_v I y ((I y 1 k 3).toNatClampNeg)) (f_X3_balesOf I1 y (f_X0_takeNear_v I y ((I y 1 k 3).toNatClampNeg))) hy hk hw1_y
    have hn2 : I2 y 0 0 4 = I y 0 0 4 := by rw [hI2]; exact (kn_X1_take I1 y k (f_X0_takeNear_v I y ((I y 1 k 3).toNatClampNeg)) (f_X3_balesOf I1 y (f_X0_takeNear_v I y ((I y 1 k 3).toNatClampNeg))) hy hk hw1_y).trans hn1
    have eS : f_X3_takeFromOwnCart I y k = I2 := by simp only [f_X3_takeFromOwnCart, ← hI1, ← hI2, if_neg c1]
    exact (congrFun (congrFun (congrFun (congrFun eS y) 0) 0) 4).trans hn2
set_option maxHeartbeats 4000000 in
set_option maxRecDepth 100000 in
theorem m_X3_takeFromOwnCart (l : Launch) (E : gE) (J : Int64) (I : gI) (y : Nat) (k : Nat) (hy : y < 2) (hw : wf (I y)) (hk : k < 6) : gMv l E J yX3_takeFromOwnCart cX3_takeFromOwnCart 3 none 2 42 [.ref (gA E y 0 0), .ref (gA E y 1 k)] I (f_X3_takeFromOwnCart I y k) := by
  refine g_entry (lv := [(0, .ref (gA E y 0 0)), (1, .ref (gA E y 1 k))]) (by decide) (Nat.le_of_ble_eq_true rfl) rfl ?_
  intro p e s m below meth c0 ls K hG hS hml hr hlocks hl
  have K : kx E p m c0 cX3_takeFromOwnCart "HayThieves$Yard" _ s := K
  have hx := K.1
  have hb := K.2.1
  have hts := K.2.2.1
  have hown := K.2.2.2.1
  have hSt := K.2.2.2.2
  have hN := hw.N
  have hM := hw.M
  refine lv_aload_n hx hb dX3_takeFromOwnCart_0 rfl (lv_at hl 1 rfl) ?_
  refine gf_X3_108 K hG (gv1 hy hk) dX3_takeFromOwnCart_1 ?_
  refine g_ki (g_runV (As := []) (rest := []) K hml ca_X0_takeNear q383 (m_X0_takeNear l E J I y ((I y 1 k 3).toNatClampNeg) hy (hw.cart hk) hw) hG hS (gv2 hy (hw.cart hk)) rfl rfl rfl rfl hl.1 (Nat.le_of_ble_eq_true rfl) ⟨by decide, by decide⟩ dX3_takeFromOwnCart_4 ⟨Nat.zero_le _, Nat.zero_le _⟩) hS (fun H locs hG hS => ?_)
  obtain ⟨I1, hI1⟩ : ∃ z, z = f_X0_takeNear_s I y ((I y 1 k 3).toNatClampNeg) := ⟨_, rfl⟩
  rw [← hI1] at hG
  have hw1_y : wf (I1 y) := by rw [hI1]; exact wf_X0_takeNear I y ((I y 1 k 3).toNatClampNeg) hy (hw.cart hk) hw
  refine lv_istore_n (lv' := [(2, .int (f_X0_takeNear_v I y ((I y 1 k 3).toNatClampNeg))), (0, .ref (gA E y 0 0)), (1, .ref (gA E y 1 k))]) hx hb dX3_takeFromOwnCart_7 rfl hl (by decide) rfl (fun ls hl => ?_)
  refine lv_iload_n hx hb dX3_takeFromOwnCart_8 rfl (lv_at hl 0 rfl) ?_
  refine lv_iconst (v := (-1)) hx hb dX3_takeFromOwnCart_9 (by decide) ?_
  refine lv_icmp_eq (tgt := 23) hx hb dX3_takeFromOwnCart_10 (by decide) (fun c1 => ?_) (fun c1 => ?_)
  · have eS : I1 = (f_X3_takeFromOwnCart I y k) := (by simp only [f_X3_takeFromOwnCart, ← hI1, if_pos c1])
    rw [eS] at hG
    exact g_vret K hG hS hr hlocks dX3_takeFromOwnCart_23
  · refine lv_aload_n hx hb dX3_takeFromOwnCart_13 rfl (lv_at hl 2 rfl) ?_
    refine lv_iload_n hx hb dX3_takeFromOwnCart_14 rfl (lv_at hl 0 rfl) ?_
    refine lv_aload_n hx hb dX3_takeFromOwnCart_15 rfl (lv_at hl 1 rfl) ?_
    refine lv_iload_n hx hb dX3_takeFromOwnCart_16 rfl (lv_at hl 0 rfl) ?_
    refine g_ki (g_runV (As := [.int (f_X0_takeNear_v I y ((I y 1 k 3).toNatClampNeg))]) (rest := [.int (f_X0_takeNear_v I y ((I y 1 k 3).toNatClampNeg)), .ref (gA E y 1 k)]) K hml ca_X3_balesOf q340 (m_X3_balesOf l E J I1 y (f_X0_takeNear_v I y ((I y 1 k 3).toNatClampNeg)) hy hw1_y) hG hS (gv0 hy) rfl rfl rfl rfl hl.1 (Nat.le_of_ble_eq_true rfl) ⟨by decide, by decide⟩ dX3_takeFromOwnCart_17 ⟨Nat.zero_le _, Nat.zero_le _⟩) hS (fun H locs hG hS => ?_)
    refine g_kv (g_runV (As := [.int (f_X0_takeNear_v I y ((I y 1 k 3).toNatClampNeg)), .int (f_X3_balesOf I1 y (f_X0_takeNear_v I y ((I y 1 k 3).toNatClampNeg)))]) (rest := []) K hml ca_X1_take q391 (m_X1_take l E J I1 y k (f_X0_takeNear_v I y ((I y 1 k 3).toNatClampNeg)) (f_X3_balesOf I1 y (f_X0_takeNear_v I y ((I y 1 k 3).toNatClampNeg))) hy hk hw1_y) hG hS (gv1 hy hk) rfl rfl rfl rfl hl.1 (Nat.le_of_ble_eq_true rfl) ⟨by decide, by decide⟩ dX3_takeFromOwnCart_20 ⟨Nat.zero_le _, Nat.zero_le _⟩) hS (fun H locs hG hS => ?_)
    obtain ⟨I2, hI2⟩ : ∃ z, z = f_X1_take I1 y k (f_X0_takeNear_v I y ((I y 1 k 3).toNatClampNeg)) (f_X3_balesOf I1 y (f_X0_takeNear_v I y ((I y 1 k 3).toNatClampNeg))) := ⟨_, rfl⟩
    rw [← hI2] at hG
    have hw2_y : wf (I2 y) := by rw [hI2]; exact wf_X1_take I1 y k (f_X0_takeNear_v I y ((I y 1 k 3).toNatClampNeg)) (f_X3_balesOf I1 y (f_X0_takeNear_v I y ((I y 1 k 3).toNatClampNeg))) hy hk hw1_y
    have eS : I2 = (f_X3_takeFromOwnCart I y k) := (by simp only [f_X3_takeFromOwnCart, ← hI1, ← hI2, if_neg c1])
    rw [eS] at hG
    exact g_vret K hG hS hr hlocks dX3_takeFromOwnCart_23
def f_X3_otherHalf (I : gI) (y : Nat) (x : Int32) : Int32 :=
  (x ^^^ 1)
set_option maxHeartbeats 4000000 in
set_option maxRecDepth 100000 in
theorem m_X3_otherHalf (l : Launch) (E : gE) (J : Int64) (I : gI) (y : Nat) (x : Int32) (hy : y < 2) (hw : wf (I y)) : gMi l E J yX3_otherHalf cX3_otherHalf 2 (some .int) 0 0 [.ref (gA E y 0 0), .int x] I (f_X3_otherHalf I y x) I := by
  refine g_entry (lv := [(0, .ref (gA E y 0 0)), (1, .int x)]) (by decide) (Nat.le_of_ble_eq_true rfl) rfl ?_
  intro p e s m below meth c0 ls K hG hS hml hr hlocks hl
  have K : kx E p m c0 cX3_otherHalf "HayThieves$Yard" _ s := K
  have hx := K.1
  have hb := K.2.1
  have hts := K.2.2.1
  have hown := K.2.2.2.1
  have hSt := K.2.2.2.2
  have hN := hw.N
  have hM := hw.M
  refine lv_iload_n hx hb dX3_otherHalf_0 rfl (lv_at hl 1 rfl) ?_
  refine lv_iconst (v := 1) hx hb dX3_otherHalf_1 (by decide) ?_
  refine lv_ixor hx hb dX3_otherHalf_2 ?_
  exact g_iret K hG hS hr hlocks (by simp only [f_X3_otherHalf]) dX3_otherHalf_3
def f_X3_finishHeap (I : gI) (y : Nat) (k : Nat) (x : Int32) : gI :=
  let I1 := gU I y 1 k 4 (-1)
  if x < 0 then
    I1
  else
    if x < 320 then
      let I2 := gU I1 y 6 0 x.toNatClampNeg 1
      if (x - x / 32 * 32) = 1 then
        let I4 := gU I2 y 4 (f_X3_loadOf I2 y x) 1 2
        let I5 := gU I4 y 4 (f_X3_loadOf I4 y x) 3 (I4 y 0 0 6)
        I5
      else
        if (I2 y 6 0 ((f_X3_otherHalf I2 y x).toNatClampNeg)) = 0 then
          I2
        else
          let I3 := gU I2 y 1 k 6 ((x - (x - x / 32 * 32)) + ((x - x / 32 * 32) / 2))
          I3
    else
      I1
set_option maxRecDepth 100000 in
theorem wf_X3_finishHeap (I : gI) (y : Nat) (k : Nat) (x : Int32) (hy : y < 2) (hw : wf (I y)) (hk : k < 6) : wf (f_X3_finishHeap I y k x y) := by
  obtain ⟨I1, hI1⟩ : ∃ z, z = gU I y 1 k 4 (-1) := ⟨_, rfl⟩
  have hw1_y : wf (I1 y) := by rw [hI1]; exact wf_gU rfl hw
  by_cases c1 : x < 0
  · have eS : f_X3_finishHeap I y k x = I1 := by simp only [f_X3_finishHeap, ← hI1, if_pos c1]
    rw [eS]
    exact hw1_y
  · by_cases c2 : x < 320
    · obtain ⟨I2, hI2⟩ : ∃ z, z = gU I1 y 6 0 x.toNatClampNeg 1 := ⟨_, rfl⟩
      have hw2_y : wf (I2 y) := by rw [hI2]; exact wf_gU rfl hw1_y
      by_cases c3 : (x - x / 32 * 32) = 1
      · obtain ⟨I4, hI4⟩ : ∃ z, z = gU I2 y 4 (f_X3_loadOf I2 y x) 1 2 := ⟨_, rfl⟩
        have hw4_y : wf (I4 y) := by rw [hI4]; exact wf_gU rfl hw2_y
        obtain ⟨I5, hI5⟩ : ∃ z, z = gU I4 y 4 (f_X3_loadOf I4 y x) 3 (I4 y 0 0 6) := ⟨_, rfl⟩
        have hw5_y : wf (I5 y) := by rw [hI5]; exact wf_gU rfl hw4_y
        have eS : f_X3_finishHeap I y k x = I5 := by simp only [f_X3_finishHeap, ← hI1, ← hI2, ← hI4, ← hI5, if_neg c1, if_pos c2, if_pos c3]
        rw [eS]
        exact hw5_y
      · by_cases c4 : (I2 y 6 0 ((f_X3_otherHalf I2 y x).toNatClampNeg)) = 0
        · have eS : f_X3_finishHeap I y k x = I2 := by simp only [f_X3_finishHeap, ← hI1, ← hI2, if_neg c1, if_pos c2, if_neg c3, if_pos c4]
          rw [eS]
          exact hw2_y
        · obtain ⟨I3, hI3⟩ : ∃ z, z = gU I2 y 1 k 6 ((x - (x - x / 32 * 32)) + ((x - x / 32 * 32) / 2)) := ⟨_, rfl⟩
          have hw3_y : wf (I3 y) := by rw [hI3]; exact wf_gU rfl hw2_y
          have eS : f_X3_finishHeap I y k x = I3 := by simp only [f_X3_finishHeap, ← hI1, ← hI2, ← hI3, if_neg c1, if_pos c2, if_neg c3, if_neg c4]
          rw [eS]
          exact hw3_y
    · have eS : f_X3_finishHeap I y k x = I1 := by simp only [f_X3_finishHeap, ← hI1, if_neg c1, if_neg c2]
      rw [eS]
      exact hw1_y
set_option maxRecDepth 100000 in
theorem ne_X3_finishHeap (I : gI) (y : Nat) (k : Nat) (x : Int32) (hy : y < 2) (hw : wf (I y)) (hk : k < 6) {y' : Nat} (hne : y' ≠ y) : f_X3_finishHeap I y k x y' = I y' := by
  have hn : I y' = I y' := rfl
  obtain ⟨I1, hI1⟩ : ∃ z, z = gU I y 1 k 4 (-1) := ⟨_, rfl⟩
  have hw1_y : wf (I1 y) := by rw [hI1]; exact wf_gU rfl hw
  have hn1 : I1 y' = I y' := by rw [hI1]; exact (gU_ne _ _ _ _ _ hne).trans hn
  by_cases c1 : x < 0
  · have eS : f_X3_finishHeap I y k x = I1 := by simp only [f_X3_finishHeap, ← hI1, if_pos c1]
    exact (congrFun eS y').trans hn1
  · by_cases c2 : x < 320
    · obtain ⟨I2, hI2⟩ : ∃ z, z = gU I1 y 6 0 x.toNatClampNeg 1 := ⟨_, rfl⟩
      have hw2_y : wf (I2 y) := by rw [hI2]; exact wf_gU rfl hw1_y
      have hn2 : I2 y' = I y' := by rw [hI2]; exact (gU_ne _ _ _ _ _ hne).trans hn1
      by_cases c3 : (x - x / 32 * 32) = 1
      · obtain ⟨I4, hI4⟩ : ∃ z, z = gU I2 y 4 (f_X3_loadOf I2 y x) 1 2 := ⟨_, rfl⟩
        have hw4_y : wf (I4 y) := by rw [hI4]; exact wf_gU rfl hw2_y
        have hn4 : I4 y' = I y' := by rw [hI4]; exact (gU_ne _ _ _ _ _ hne).trans hn2
        obtain ⟨I5, hI5⟩ : ∃ z, z = gU I4 y 4 (f_X3_loadOf I4 y x) 3 (I4 y 0 0 6) := ⟨_, rfl⟩
        have hw5_y : wf (I5 y) := by rw [hI5]; exact wf_gU rfl hw4_y
        have hn5 : I5 y' = I y' := by rw [hI5]; exact (gU_ne _ _ _ _ _ hne).trans hn4
        have eS : f_X3_finishHeap I y k x = I5 := by simp only [f_X3_finishHeap, ← hI1, ← hI2, ← hI4, ← hI5, if_neg c1, if_pos c2, if_pos c3]
        exact (congrFun eS y').trans hn5
      · by_cases c4 : (I2 y 6 0 ((f_X3_otherHalf I2 y x).toNatClampNeg)) = 0
        · have eS : f_X3_finishHeap I y k x = I2 := by simp only [f_X3_finishHeap, ← hI1, ← hI2, if_neg c1, if_pos c2, if_neg c3, if_pos c4]
          exact (congrFun eS y').trans hn2
        · obtain ⟨I3, hI3⟩ : ∃ z, z = gU I2 y 1 k 6 ((x - (x - x / 32 * 32)) + ((x - x / 32 * 32) / 2)) := ⟨_, rfl⟩
          have hw3_y : wf (I3 y) := by rw [hI3]; exact wf_gU rfl hw2_y
          have hn3 : I3 y' = I y' := by rw [hI3]; exact (gU_ne _ _ _ _ _ hne).trans hn2
          have eS : f_X3_finishHeap I y k x = I3 := by simp only [f_X3_finishHeap, ← hI1, ← hI2, ← hI3, if_neg c1, if_pos c2, if_neg c3, if_neg c4]
          exact (congrFun eS y').trans hn3
    · have eS : f_X3_finishHeap I y k x = I1 := by simp only [f_X3_finishHeap, ← hI1, if_neg c1, if_neg c2]
      exact (congrFun eS y').trans hn1
set_option maxRecDepth 100000 in
theorem kn_X3_finishHeap (I : gI) (y : Nat) (k : Nat) (x : Int32) (hy : y < 2) (hw : wf (I y)) (hk : k < 6) : f_X3_finishHeap I y k x y 0 0 4 = I y 0 0 4 := by
  have hn : I y 0 0 4 = I y 0 0 4 := rfl
  obtain ⟨I1, hI1⟩ : ∃ z, z = gU I y 1 k 4 (-1) := ⟨_, rfl⟩
  have hw1_y : wf (I1 y) := by rw [hI1]; exact wf_gU rfl hw
  have hn1 : I1 y 0 0 4 = I y 0 0 4 := by rw [hI1]; exact (kn_gU rfl).trans hn
  by_cases c1 : x < 0
  · have eS : f_X3_finishHeap I y k x = I1 := by simp only [f_X3_finishHeap, ← hI1, if_pos c1]
    exact (congrFun (congrFun (congrFun (congrFun eS y) 0) 0) 4).trans hn1
  · by_cases c2 : x < 320
    · obtain ⟨I2, hI2⟩ : ∃ z, z = gU I1 y 6 0 x.toNatClampNeg 1 := ⟨_, rfl⟩
      have hw2_y : wf (I2 y) := by rw [hI2]; exact wf_gU rfl hw1_y
      have hn2 : I2 y 0 0 4 = I y 0 0 4 := by rw [hI2]; exact (kn_gU rfl).trans hn1
      by_cases c3 : (x - x / 32 * 32) = 1
      · obtain ⟨I4, hI4⟩ : ∃ z, z = gU I2 y 4 (f_X3_loadOf I2 y x) 1 2 := ⟨_, rfl⟩
        have hw4_y : wf (I4 y) := by rw [hI4]; exact wf_gU rfl hw2_y
        have hn4 : I4 y 0 0 4 = I y 0 0 4 := by rw [hI4]; exact (kn_gU rfl).trans hn2
        obtain ⟨I5, hI5⟩ : ∃ z, z = gU I4 y 4 (f_X3_loadOf I4 y x) 3 (I4 y 0 0 6) := ⟨_, rfl⟩
        have hw5_y : wf (I5 y) := by rw [hI5]; exact wf_gU rfl hw4_y
        have hn5 : I5 y 0 0 4 = I y 0 0 4 := by rw [hI5]; exact (kn_gU rfl).trans hn4
        have eS : f_X3_finishHeap I y k x = I5 := by simp only [f_X3_finishHeap, ← hI1, ← hI2, ← hI4, ← hI5, if_neg c1, if_pos c2, if_pos c3]
        exact (congrFun (congrFun (congrFun (congrFun eS y) 0) 0) 4).trans hn5
      · by_cases c4 : (I2 y 6 0 ((f_X3_otherHalf I2 y x).toNatClampNeg)) = 0
        · have eS : f_X3_finishHeap I y k x = I2 := by simp only [f_X3_finishHeap, ← hI1, ← hI2, if_neg c1, if_pos c2, if_neg c3, if_pos c4]
          exact (congrFun (congrFun (congrFun (congrFun eS y) 0) 0) 4).trans hn2
        · obtain ⟨I3, hI3⟩ : ∃ z, z = gU I2 y 1 k 6 ((x - (x - x / 32 * 32)) + ((x - x / 32 * 32) / 2)) := ⟨_, rfl⟩
          have hw3_y : wf (I3 y) := by rw [hI3]; exact wf_gU rfl hw2_y
          have hn3 : I3 y 0 0 4 = I y 0 0 4 := by rw [hI3]; exact (kn_gU rfl).trans hn2
          have eS : f_X3_finishHeap I y k x = I3 := by simp only [f_X3_finishHeap, ← hI1, ← hI2, ← hI3, if_neg c1, if_pos c2, if_neg c3, if_neg c4]
          exact (congrFun (congrFun (congrFun (congrFun eS y) 0) 0) 4).trans hn3
    · have eS : f_X3_finishHeap I y k x = I1 := by simp only [f_X3_finishHeap, ← hI1, if_neg c1, if_neg c2]
      exact (congrFun (congrFun (congrFun (congrFun eS y) 0) 0) 4).trans hn1
set_option maxHeartbeats 4000000 in
set_option maxRecDepth 100000 in
theorem m_X3_finishHeap (l : Launch) (E : gE) (J : Int64) (I : gI) (y : Nat) (k : Nat) (x : Int32) (hy : y < 2) (hw : wf (I y)) (hk : k < 6) : gMv l E J yX3_finishHeap cX3_finishHeap 4 none 1 21 [.ref (gA E y 0 0), .ref (gA E y 1 k), .int x] I (f_X3_finishHeap I y k x) := by
  refine g_entry (lv := [(0, .ref (gA E y 0 0)), (1, .ref (gA E y 1 k)), (2, .int x)]) (by decide) (Nat.le_of_ble_eq_true rfl) rfl ?_
  intro p e s m below meth c0 ls K hG hS hml hr hlocks hl
  have K : kx E p m c0 cX3_finishHeap "HayThieves$Yard" _ s := K
  have hx := K.1
  have hb := K.2.1
  have hts := K.2.2.1
  have hown := K.2.2.2.1
  have hSt := K.2.2.2.2
  have hN := hw.N
  have hM := hw.M
  refine lv_aload_n hx hb dX3_finishHeap_0 rfl (lv_at hl 1 rfl) ?_
  refine lv_iconst (v := (-1)) hx hb dX3_finishHeap_1 (by decide) ?_
  refine pf_X3_137 K hG hS (gv1 hy hk) dX3_finishHeap_2 (fun I1 hI1 H locs hG hS => ?_)
  have hw1_y : wf (I1 y) := by rw [hI1]; exact wf_gU rfl hw
  refine lv_iload_n hx hb dX3_finishHeap_5 rfl (lv_at hl 2 rfl) ?_
  refine lv_if_lt (tgt := 16) hx hb dX3_finishHeap_6 (by decide) (fun c1 => ?_) (fun c1 => ?_)
  · have eS : I1 = (f_X3_finishHeap I y k x) := (by simp only [f_X3_finishHeap, ← hI1, if_pos c1])
    rw [eS] at hG
    exact g_vret K hG hS hr hlocks dX3_finishHeap_16
  · refine lv_iload_n hx hb dX3_finishHeap_9 rfl (lv_at hl 2 rfl) ?_
    refine lv_sipush (v := 320) hx hb dX3_finishHeap_10 (by decide) ?_
    refine lv_icmp_lt (tgt := 17) hx hb dX3_finishHeap_13 (by decide) (fun c2 => ?_) (fun c2 => ?_)
    · refine lv_aload_n hx hb dX3_finishHeap_17 rfl (lv_at hl 0 rfl) ?_
      refine gf_X3_27 K hG (gv0 hy) dX3_finishHeap_18 ?_
      refine lv_iload_n hx hb dX3_finishHeap_21 rfl (lv_at hl 2 rfl) ?_
      refine lv_iconst (v := 1) hx hb dX3_finishHeap_22 (by decide) ?_
      refine g_zast K hG hS (gv6 hy) rfl (fun _ => rfl) (fun _ q => absurd q.1 (by decide)) (gvpZ gz1) (rg_320b c1 c2) dX3_finishHeap_23 (fun I2 hI2 H locs hG hS => ?_)
      have hw2_y : wf (I2 y) := by rw [hI2]; exact wf_gU rfl hw1_y
      refine lv_iload_n hx hb dX3_finishHeap_24 rfl (lv_at hl 2 rfl) ?_
      refine lv_bipush (v := 32) hx hb dX3_finishHeap_25 (by decide) ?_
      refine lv_irem hx hb dX3_finishHeap_27 (by decide) ?_
      refine lv_istore_n (lv' := [(3, .int (x - x / 32 * 32)), (0, .ref (gA E y 0 0)), (1, .ref (gA E y 1 k)), (2, .int x)]) hx hb dX3_finishHeap_28 rfl hl (by decide) rfl (fun ls hl => ?_)
      refine lv_iload_n hx hb dX3_finishHeap_29 rfl (lv_at hl 0 rfl) ?_
      refine lv_iconst (v := 1) hx hb dX3_finishHeap_30 (by decide) ?_
      refine lv_icmp_ne (tgt := 58) hx hb dX3_finishHeap_31 (by decide) (fun c3 => ?_) (fun c3 => ?_)
      · refine lv_aload_n hx hb dX3_finishHeap_58 rfl (lv_at hl 1 rfl) ?_
        refine gf_X3_27 K hG (gv0 hy) dX3_finishHeap_59 ?_
        refine lv_aload_n hx hb dX3_finishHeap_62 rfl (lv_at hl 1 rfl) ?_
        refine lv_iload_n hx hb dX3_finishHeap_63 rfl (lv_at hl 3 rfl) ?_
        refine g_ki (g_runV (As := [.int x]) (rest := [.ref (gA E y 6 0)]) K hml ca_X3_otherHalf q407 (m_X3_otherHalf l E J I2 y x hy hw2_y) hG hS (gv0 hy) rfl rfl rfl rfl hl.1 (Nat.le_of_ble_eq_true rfl) ⟨by decide, by decide⟩ dX3_finishHeap_64 ⟨Nat.zero_le _, Nat.zero_le _⟩) hS (fun H locs hG hS => ?_)
        refine g_zald K hG (gv6 hy) rfl (fun _ => rfl) (show vp_in (f_X3_otherHalf I2 y x) 320 from rg_xor (rg_320b c1 c2)) dX3_finishHeap_67 ?_
        refine lv_if_eq (tgt := 82) hx hb dX3_finishHeap_68 (by decide) (fun c4 => ?_) (fun c4 => ?_)
        · have eS : I2 = (f_X3_finishHeap I y k x) := (by simp only [f_X3_finishHeap, ← hI1, ← hI2, if_neg c1, if_pos c2, if_neg c3, if_pos c4])
          rw [eS] at hG
          exact g_vret K hG hS hr hlocks dX3_finishHeap_82
        · refine lv_aload_n hx hb dX3_finishHeap_71 rfl (lv_at hl 2 rfl) ?_
          refine lv_iload_n hx hb dX3_finishHeap_72 rfl (lv_at hl 3 rfl) ?_
          refine lv_iload_n hx hb dX3_finishHeap_73 rfl (lv_at hl 0 rfl) ?_
          refine lv_isub hx hb dX3_finishHeap_74 ?_
          refine lv_iload_n hx hb dX3_finishHeap_75 rfl (lv_at hl 0 rfl) ?_
          refine lv_iconst (v := 2) hx hb dX3_finishHeap_76 (by decide) ?_
          refine lv_idiv hx hb dX3_finishHeap_77 (by decide) ?_
          refine lv_iadd hx hb dX3_finishHeap_78 ?_
          refine pf_X3_134 K hG hS (gv1 hy hk) dX3_finishHeap_79 (fun I3 hI3 H locs hG hS => ?_)
          have hw3_y : wf (I3 y) := by rw [hI3]; exact wf_gU rfl hw2_y
          have eS : I3 = (f_X3_finishHeap I y k x) := (by simp only [f_X3_finishHeap, ← hI1, ← hI2, ← hI3, if_neg c1, if_pos c2, if_neg c3, if_neg c4])
          rw [eS] at hG
          exact g_vret K hG hS hr hlocks dX3_finishHeap_82
      · refine lv_aload_n hx hb dX3_finishHeap_34 rfl (lv_at hl 1 rfl) ?_
        refine lv_iload_n hx hb dX3_finishHeap_35 rfl (lv_at hl 3 rfl) ?_
        refine g_kr (g_runV (As := [.int x]) (rest := []) K hml ca_X3_loadOf q403 (m_X3_loadOf l E J I2 y x hy hw2_y) hG hS (gv0 hy) rfl rfl rfl rfl hl.1 (Nat.le_of_ble_eq_true rfl) ⟨by decide, by decide⟩ dX3_finishHeap_36 ⟨Nat.zero_le _, Nat.zero_le _⟩) hS (fun H locs hG hS => ?_)
        refine lv_iconst (v := 2) hx hb dX3_finishHeap_39 (by decide) ?_
        refine pf_X3_88 K hG hS (gv4 hy (rg_loadOf _ _ _)) dX3_finishHeap_40 (fun I4 hI4 H locs hG hS => ?_)
        have hw4_y : wf (I4 y) := by rw [hI4]; exact wf_gU rfl hw2_y
        refine lv_aload_n hx hb dX3_finishHeap_43 rfl (lv_at hl 1 rfl) ?_
        refine lv_iload_n hx hb dX3_finishHeap_44 rfl (lv_at hl 3 rfl) ?_
        refine g_kr (g_runV (As := [.int x]) (rest := []) K hml ca_X3_loadOf q403 (m_X3_loadOf l E J I4 y x hy hw4_y) hG hS (gv0 hy) rfl rfl rfl rfl hl.1 (Nat.le_of_ble_eq_true rfl) ⟨by decide, by decide⟩ dX3_finishHeap_45 ⟨Nat.zero_le _, Nat.zero_le _⟩) hS (fun H locs hG hS => ?_)
        refine lv_aload_n hx hb dX3_finishHeap_48 rfl (lv_at hl 1 rfl) ?_
        refine gf_X3_38 K hG (gv0 hy) dX3_finishHeap_49 ?_
        refine pf_X3_201 K hG hS (gv4 hy (rg_loadOf _ _ _)) dX3_finishHeap_52 (fun I5 hI5 H locs hG hS => ?_)
        have hw5_y : wf (I5 y) := by rw [hI5]; exact wf_gU rfl hw4_y
        refine lv_goto (tgt := 82) hx hb dX3_finishHeap_55 (by decide) ?_
        have eS : I5 = (f_X3_finishHeap I y k x) := (by simp only [f_X3_finishHeap, ← hI1, ← hI2, ← hI4, ← hI5, if_neg c1, if_pos c2, if_pos c3])
        rw [eS] at hG
        exact g_vret K hG hS hr hlocks dX3_finishHeap_82
    · have eS : I1 = (f_X3_finishHeap I y k x) := (by simp only [f_X3_finishHeap, ← hI1, if_neg c1, if_neg c2])
      rw [eS] at hG
      exact g_vret K hG hS hr hlocks dX3_finishHeap_16
def f_X3_joinHalves (I : gI) (y : Nat) (k : Nat) : gI :=
  let I1 := gU I y 1 k 6 (-1)
  let I2 := gU I1 y 0 0 9 ((I1 y 0 0 9) + 1)
  let I3 := f_X3_finishHeap I2 y k (I y 1 k 6)
  I3
set_option maxRecDepth 100000 in
theorem wf_X3_joinHalves (I : gI) (y : Nat) (k : Nat) (hy : y < 2) (hw : wf (I y)) (hk : k < 6) : wf (f_X3_joinHalves I y k y) := by
  obtain ⟨I1, hI1⟩ : ∃ z, z = gU I y 1 k 6 (-1) := ⟨_, rfl⟩
  have hw1_y : wf (I1 y) := by rw [hI1]; exact wf_gU rfl hw
  obtain ⟨I2, hI2⟩ : ∃ z, z = gU I1 y 0 0 9 ((I1 y 0 0 9) + 1) := ⟨_, rfl⟩
  have hw2_y : wf (I2 y) := by rw [hI2]; exact wf_gU rfl hw1_y
  obtain ⟨I3, hI3⟩ : ∃ z, z = f_X3_finishHeap I2 y k (I y 1 k 6) := ⟨_, rfl⟩
  have hw3_y : wf (I3 y) := by rw [hI3]; exact wf_X3_finishHeap I2 y k (I y 1 k 6) hy hw2_y hk
  have eS : f_X3_joinHalves I y k = I3 := by simp only [f_X3_joinHalves, ← hI1, ← hI2, ← hI3]
  rw [eS]
  exact hw3_y
set_option maxRecDepth 100000 in
theorem ne_X3_joinHalves (I : gI) (y : Nat) (k : Nat) (hy : y < 2) (hw : wf (I y)) (hk : k < 6) {y' : Nat} (hne : y' ≠ y) : f_X3_joinHalves I y k y' = I y' := by
  have hn : I y' = I y' := rfl
  obtain ⟨I1, hI1⟩ : ∃ z, z = gU I y 1 k 6 (-1) := ⟨_, rfl⟩
  have hw1_y : wf (I1 y) := by rw [hI1]; exact wf_gU rfl hw
  have hn1 : I1 y' = I y' := by rw [hI1]; exact (gU_ne _ _ _ _ _ hne).trans hn
  obtain ⟨I2, hI2⟩ : ∃ z, z = gU I1 y 0 0 9 ((I1 y 0 0 9) + 1) := ⟨_, rfl⟩
  have hw2_y : wf (I2 y) := by rw [hI2]; exact wf_gU rfl hw1_y
  have hn2 : I2 y' = I y' := by rw [hI2]; exact (gU_ne _ _ _ _ _ hne).trans hn1
  obtain ⟨I3, hI3⟩ : ∃ z, z = f_X3_finishHeap I2 y k (I y 1 k 6) := ⟨_, rfl⟩
  have hw3_y : wf (I3 y) := by rw [hI3]; exact wf_X3_finishHeap I2 y k (I y 1 k 6) hy hw2_y hk
  have hn3 : I3 y' = I y' := by rw [hI3]; exact (ne_X3_finishHeap I2 y k (I y 1 k 6) hy hw2_y hk (y' := y') hne).trans hn2
  have eS : f_X3_joinHalves I y k = I3 := by simp only [f_X3_joinHalves, ← hI1, ← hI2, ← hI3]
  exact (congrFun eS y').trans hn3
set_option maxRecDepth 100000 in
theorem kn_X3_joinHalves (I : gI) (y : Nat) (k : Nat) (hy : y < 2) (hw : wf (I y)) (hk : k < 6) : f_X3_joinHalves I y k y 0 0 4 = I y 0 0 4 := by
  have hn : I y 0 0 4 = I y 0 0 4 := rfl
  obtain ⟨I1, hI1⟩ : ∃ z, z = gU I y 1 k 6 (-1) := ⟨_, rfl⟩
  have hw1_y : wf (I1 y) := by rw [hI1]; exact wf_gU rfl hw
  have hn1 : I1 y 0 0 4 = I y 0 0 4 := by rw [hI1]; exact (kn_gU rfl).trans hn
  obtain ⟨I2, hI2⟩ : ∃ z, z = gU I1 y 0 0 9 ((I1 y 0 0 9) + 1) := ⟨_, rfl⟩
  have hw2_y : wf (I2 y) := by rw [hI2]; exact wf_gU rfl hw1_y
  have hn2 : I2 y 0 0 4 = I y 0 0 4 := by rw [hI2]; exact (kn_gU rfl).trans hn1
  obtain ⟨I3, hI3⟩ : ∃ z, z = f_X3_finishHeap I2 y k (I y 1 k 6) := ⟨_, rfl⟩
  have hw3_y : wf (I3 y) := by rw [hI3]; exact wf_X3_finishHeap I2 y k (I y 1 k 6) hy hw2_y hk
  have hn3 : I3 y 0 0 4 = I y 0 0 4 := by rw [hI3]; exact (kn_X3_finishHeap I2 y k (I y 1 k 6) hy hw2_y hk).trans hn2
  have eS : f_X3_joinHalves I y k = I3 := by simp only [f_X3_joinHalves, ← hI1, ← hI2, ← hI3]
  exact (congrFun (congrFun (congrFun (congrFun eS y) 0) 0) 4).trans hn3
set_option maxHeartbeats 4000000 in
set_option maxRecDepth 100000 in
theorem m_X3_joinHalves (l : Launch) (E : gE) (J : Int64) (I : gI) (y : Nat) (k : Nat) (hy : y < 2) (hw : wf (I y)) (hk : k < 6) : gMv l E J yX3_joinHalves cX3_joinHalves 3 none 2 44 [.ref (gA E y 0 0), .ref (gA E y 1 k)] I (f_X3_joinHalves I y k) := by
  refine g_entry (lv := [(0, .ref (gA E y 0 0)), (1, .ref (gA E y 1 k))]) (by decide) (Nat.le_of_ble_eq_true rfl) rfl ?_
  intro p e s m below meth c0 ls K hG hS hml hr hlocks hl
  have K : kx E p m c0 cX3_joinHalves "HayThieves$Yard" _ s := K
  have hx := K.1
  have hb := K.2.1
  have hts := K.2.2.1
  have hown := K.2.2.2.1
  have hSt := K.2.2.2.2
  have hN := hw.N
  have hM := hw.M
  refine lv_aload_n hx hb dX3_joinHalves_0 rfl (lv_at hl 1 rfl) ?_
  refine gf_X3_134 K hG (gv1 hy hk) dX3_joinHalves_1 ?_
  refine lv_istore_n (lv' := [(2, .int (I y 1 k 6)), (0, .ref (gA E y 0 0)), (1, .ref (gA E y 1 k))]) hx hb dX3_joinHalves_4 rfl hl (by decide) rfl (fun ls hl => ?_)
  refine lv_aload_n hx hb dX3_joinHalves_5 rfl (lv_at hl 2 rfl) ?_
  refine lv_iconst (v := (-1)) hx hb dX3_joinHalves_6 (by decide) ?_
  refine pf_X3_134 K hG hS (gv1 hy hk) dX3_joinHalves_7 (fun I1 hI1 H locs hG hS => ?_)
  have hw1_y : wf (I1 y) := by rw [hI1]; exact wf_gU rfl hw
  refine lv_aload_n hx hb dX3_joinHalves_10 rfl (lv_at hl 1 rfl) ?_
  refine lv_dup hx hb dX3_joinHalves_11 rfl ?_
  refine gf_X3_47 K hG (gv0 hy) dX3_joinHalves_12 ?_
  refine lv_iconst (v := 1) hx hb dX3_joinHalves_15 (by decide) ?_
  refine lv_iadd hx hb dX3_joinHalves_16 ?_
  refine pf_X3_47 K hG hS (gv0 hy) dX3_joinHalves_17 (fun I2 hI2 H locs hG hS => ?_)
  have hw2_y : wf (I2 y) := by rw [hI2]; exact wf_gU rfl hw1_y
  refine lv_aload_n hx hb dX3_joinHalves_20 rfl (lv_at hl 1 rfl) ?_
  refine lv_aload_n hx hb dX3_joinHalves_21 rfl (lv_at hl 2 rfl) ?_
  refine lv_iload_n hx hb dX3_joinHalves_22 rfl (lv_at hl 0 rfl) ?_
  refine g_kv (g_runV (As := [.ref (gA E y 1 k), .int (I y 1 k 6)]) (rest := []) K hml ca_X3_finishHeap q399 (m_X3_finishHeap l E J I2 y k (I y 1 k 6) hy hw2_y hk) hG hS (gv0 hy) rfl rfl rfl rfl hl.1 (Nat.le_of_ble_eq_true rfl) ⟨by decide, by decide⟩ dX3_joinHalves_23 ⟨Nat.zero_le _, Nat.zero_le _⟩) hS (fun H locs hG hS => ?_)
  obtain ⟨I3, hI3⟩ : ∃ z, z = f_X3_finishHeap I2 y k (I y 1 k 6) := ⟨_, rfl⟩
  rw [← hI3] at hG
  have hw3_y : wf (I3 y) := by rw [hI3]; exact wf_X3_finishHeap I2 y k (I y 1 k 6) hy hw2_y hk
  have eS : I3 = (f_X3_joinHalves I y k) := (by simp only [f_X3_joinHalves, ← hI1, ← hI2, ← hI3])
  rw [eS] at hG
  exact g_vret K hG hS hr hlocks dX3_joinHalves_26
def f_X3_pitch (I : gI) (y : Nat) (k : Nat) : gI :=
  if (I y 1 k 1) ≤ (I y 1 k 5) then
    let I1 := gU I y 1 k 5 ((I y 1 k 5) - (I y 1 k 1))
    let I2 := gU I1 y 4 (f_X3_loadOf I1 y (I1 y 1 k 4)) 6 ((I1 y 4 (f_X3_loadOf I1 y (I1 y 1 k 4)) 6) + (I y 1 k 1))
    if (I2 y 1 k 5) = 0 then
      let I3 := f_X3_finishHeap I2 y k (I2 y 1 k 4)
      I3
    else
      I2
  else
    let I4 := gU I y 1 k 5 ((I y 1 k 5) - (I y 1 k 5))
    let I5 := gU I4 y 4 (f_X3_loadOf I4 y (I4 y 1 k 4)) 6 ((I4 y 4 (f_X3_loadOf I4 y (I4 y 1 k 4)) 6) + (I y 1 k 5))
    if (I5 y 1 k 5) = 0 then
      let I6 := f_X3_finishHeap I5 y k (I5 y 1 k 4)
      I6
    else
      I5
set_option maxRecDepth 100000 in
theorem wf_X3_pitch (I : gI) (y : Nat) (k : Nat) (hy : y < 2) (hw : wf (I y)) (hk : k < 6) : wf (f_X3_pitch I y k y) := by
  by_cases c1 : (I y 1 k 1) ≤ (I y 1 k 5)
  · obtain ⟨I1, hI1⟩ : ∃ z, z = gU I y 1 k 5 ((I y 1 k 5) - (I y 1 k 1)) := ⟨_, rfl⟩
    have hw1_y : wf (I1 y) := by rw [hI1]; exact wf_gU rfl hw
    obtain ⟨I2, hI2⟩ : ∃ z, z = gU I1 y 4 (f_X3_loadOf I1 y (I1 y 1 k 4)) 6 ((I1 y 4 (f_X3_loadOf I1 y (I1 y 1 k 4)) 6) + (I y 1 k 1)) := ⟨_, rfl⟩
    have hw2_y : wf (I2 y) := by rw [hI2]; exact wf_gU rfl hw1_y
    by_cases c2 : (I2 y 1 k 5) = 0
    · obtain ⟨I3, hI3⟩ : ∃ z, z = f_X3_finishHeap I2 y k (I2 y 1 k 4) := ⟨_, rfl⟩
      have hw3_y : wf (I3 y) := by rw [hI3]; exact wf_X3_finishHeap I2 y k (I2 y 1 k 4) hy hw2_y hk
      have eS : f_X3_pitch I y k = I3 := by simp only [f_X3_pitch, ← hI1, ← hI2, ← hI3, if_pos c1, if_pos c2]
      rw [eS]
      exact hw3_y
    · have eS : f_X3_pitch I y k = I2 := by simp only [f_X3_pitch, ← hI1, ← hI2, if_pos c1, if_neg c2]
      rw [eS]
      exact hw2_y
  · obtain ⟨I4, hI4⟩ : ∃ z, z = gU I y 1 k 5 ((I y 1 k 5) - (I y 1 k 5)) := ⟨_, rfl⟩
    have hw4_y : wf (I4 y) := by rw [hI4]; exact wf_gU rfl hw
    obtain ⟨I5, hI5⟩ : ∃ z, z = gU I4 y 4 (f_X3_loadOf I4 y (I4 y 1 k 4)) 6 ((I4 y 4 (f_X3_loadOf I4 y (I4 y 1 k 4)) 6) + (I y 1 k 5)) := ⟨_, rfl⟩
    have hw5_y : wf (I5 y) := by rw [hI5]; exact wf_gU rfl hw4_y
    by_cases c3 : (I5 y 1 k 5) = 0
    · obtain ⟨I6, hI6⟩ : ∃ z, z = f_X3_finishHeap I5 y k (I5 y 1 k 4) := ⟨_, rfl⟩
      have hw6_y : wf (I6 y) := by rw [hI6]; exact wf_X3_finishHeap I5 y k (I5 y 1 k 4) hy hw5_y hk
      have eS : f_X3_pitch I y k = I6 := by simp only [f_X3_pitch, ← hI4, ← hI5, ← hI6, if_neg c1, if_pos c3]
      rw [eS]
      exact hw6_y
    · have eS : f_X3_pitch I y k = I5 := by simp only [f_X3_pitch, ← hI4, ← hI5, if_neg c1, if_neg c3]
      rw [eS]
      exact hw5_y
set_option maxRecDepth 100000 in
theorem ne_X3_pitch (I : gI) (y : Nat) (k : Nat) (hy : y < 2) (hw : wf (I y)) (hk : k < 6) {y' : Nat} (hne : y' ≠ y) : f_X3_pitch I y k y' = I y' := by
  have hn : I y' = I y' := rfl
  by_cases c1 : (I y 1 k 1) ≤ (I y 1 k 5)
  · obtain ⟨I1, hI1⟩ : ∃ z, z = gU I y 1 k 5 ((I y 1 k 5) - (I y 1 k 1)) := ⟨_, rfl⟩
    have hw1_y : wf (I1 y) := by rw [hI1]; exact wf_gU rfl hw
    have hn1 : I1 y' = I y' := by rw [hI1]; exact (gU_ne _ _ _ _ _ hne).trans hn
    obtain ⟨I2, hI2⟩ : ∃ z, z = gU I1 y 4 (f_X3_loadOf I1 y (I1 y 1 k 4)) 6 ((I1 y 4 (f_X3_loadOf I1 y (I1 y 1 k 4)) 6) + (I y 1 k 1)) := ⟨_, rfl⟩
    have hw2_y : wf (I2 y) := by rw [hI2]; exact wf_gU rfl hw1_y
    have hn2 : I2 y' = I y' := by rw [hI2]; exact (gU_ne _ _ _ _ _ hne).trans hn1
    by_cases c2 : (I2 y 1 k 5) = 0
    · obtain ⟨I3, hI3⟩ : ∃ z, z = f_X3_finishHeap I2 y k (I2 y 1 k 4) := ⟨_, rfl⟩
      have hw3_y : wf (I3 y) := by rw [hI3]; exact wf_X3_finishHeap I2 y k (I2 y 1 k 4) hy hw2_y hk
      have hn3 : I3 y' = I y' := by rw [hI3]; exact (ne_X3_finishHeap I2 y k (I2 y 1 k 4) hy hw2_y hk (y' := y') hne).trans hn2
      have eS : f_X3_pitch I y k = I3 := by simp only [f_X3_pitch, ← hI1, ← hI2, ← hI3, if_pos c1, if_pos c2]
      exact (congrFun eS y').trans hn3
    · have eS : f_X3_pitch I y k = I2 := by simp only [f_X3_pitch, ← hI1, ← hI2, if_pos c1, if_neg c2]
      exact (congrFun eS y').trans hn2
  · obtain ⟨I4, hI4⟩ : ∃ z, z = gU I y 1 k 5 ((I y 1 k 5) - (I y 1 k 5)) := ⟨_, rfl⟩
    have hw4_y : wf (I4 y) := by rw [hI4]; exact wf_gU rfl hw
    have hn4 : I4 y' = I y' := by rw [hI4]; exact (gU_ne _ _ _ _ _ hne).trans hn
    obtain ⟨I5, hI5⟩ : ∃ z, z = gU I4 y 4 (f_X3_loadOf I4 y (I4 y 1 k 4)) 6 ((I4 y 4 (f_X3_loadOf I4 y (I4 y 1 k 4)) 6) + (I y 1 k 5)) := ⟨_, rfl⟩
    have hw5_y : wf (I5 y) := by rw [hI5]; exact wf_gU rfl hw4_y
    have hn5 : I5 y' = I y' := by rw [hI5]; exact (gU_ne _ _ _ _ _ hne).trans hn4
    by_cases c3 : (I5 y 1 k 5) = 0
    · obtain ⟨I6, hI6⟩ : ∃ z, z = f_X3_finishHeap I5 y k (I5 y 1 k 4) := ⟨_, rfl⟩
      have hw6_y : wf (I6 y) := by rw [hI6]; exact wf_X3_finishHeap I5 y k (I5 y 1 k 4) hy hw5_y hk
      have hn6 : I6 y' = I y' := by rw [hI6]; exact (ne_X3_finishHeap I5 y k (I5 y 1 k 4) hy hw5_y hk (y' := y') hne).trans hn5
      have eS : f_X3_pitch I y k = I6 := by simp only [f_X3_pitch, ← hI4, ← hI5, ← hI6, if_neg c1, if_pos c3]
      exact (congrFun eS y').trans hn6
    · have eS : f_X3_pitch I y k = I5 := by simp only [f_X3_pitch, ← hI4, ← hI5, if_neg c1, if_neg c3]
      exact (congrFun eS y').trans hn5
set_option maxRecDepth 100000 in
theorem kn_X3_pitch (I : gI) (y : Nat) (k : Nat) (hy : y < 2) (hw : wf (I y)) (hk : k < 6) : f_X3_pitch I y k y 0 0 4 = I y 0 0 4 := by
  have hn : I y 0 0 4 = I y 0 0 4 := rfl
  by_cases c1 : (I y 1 k 1) ≤ (I y 1 k 5)
  · obtain ⟨I1, hI1⟩ : ∃ z, z = gU I y 1 k 5 ((I y 1 k 5) - (I y 1 k 1)) := ⟨_, rfl⟩
    have hw1_y : wf (I1 y) := by rw [hI1]; exact wf_gU rfl hw
    have hn1 : I1 y 0 0 4 = I y 0 0 4 := by rw [hI1]; exact (kn_gU rfl).trans hn
    obtain ⟨I2, hI2⟩ : ∃ z, z = gU I1 y 4 (f_X3_loadOf I1 y (I1 y 1 k 4)) 6 ((I1 y 4 (f_X3_loadOf I1 y (I1 y 1 k 4)) 6) + (I y 1 k 1)) := ⟨_, rfl⟩
    have hw2_y : wf (I2 y) := by rw [hI2]; exact wf_gU rfl hw1_y
    have hn2 : I2 y 0 0 4 = I y 0 0 4 := by rw [hI2]; exact (kn_gU rfl).trans hn1
    by_cases c2 : (I2 y 1 k 5) = 0
    · obtain ⟨I3, hI3⟩ : ∃ z, z = f_X3_finishHeap I2 y k (I2 y 1 k 4) := ⟨_, rfl⟩
      have hw3_y : wf (I3 y) := by rw [hI3]; exact wf_X3_finishHeap I2 y k (I2 y 1 k 4) hy hw2_y hk
      have hn3 : I3 y 0 0 4 = I y 0 0 4 := by rw [hI3]; exact (kn_X3_finishHeap I2 y k (I2 y 1 k 4) hy hw2_y hk).trans hn2
      have eS : f_X3_pitch I y k = I3 := by simp only [f_X3_pitch, ← hI1, ← hI2, ← hI3, if_pos c1, if_pos c2]
      exact (congrFun (congrFun (congrFun (congrFun eS y) 0) 0) 4).trans hn3
    · have eS : f_X3_pitch I y k = I2 := by simp only [f_X3_pitch, ← hI1, ← hI2, if_pos c1, if_neg c2]
      exact (congrFun (congrFun (congrFun (congrFun eS y) 0) 0) 4).trans hn2
  · obtain ⟨I4, hI4⟩ : ∃ z, z = gU I y 1 k 5 ((I y 1 k 5) - (I y 1 k 5)) := ⟨_, rfl⟩
    have hw4_y : wf (I4 y) := by rw [hI4]; exact wf_gU rfl hw
    have hn4 : I4 y 0 0 4 = I y 0 0 4 := by rw [hI4]; exact (kn_gU rfl).trans hn
    obtain ⟨I5, hI5⟩ : ∃ z, z = gU I4 y 4 (f_X3_loadOf I4 y (I4 y 1 k 4)) 6 ((I4 y 4 (f_X3_loadOf I4 y (I4 y 1 k 4)) 6) + (I y 1 k 5)) := ⟨_, rfl⟩
    have hw5_y : wf (I5 y) := by rw [hI5]; exact wf_gU rfl hw4_y
    have hn5 : I5 y 0 0 4 = I y 0 0 4 := by rw [hI5]; exact (kn_gU rfl).trans hn4
    by_cases c3 : (I5 y 1 k 5) = 0
    · obtain ⟨I6, hI6⟩ : ∃ z, z = f_X3_finishHeap I5 y k (I5 y 1 k 4) := ⟨_, rfl⟩
      have hw6_y : wf (I6 y) := by rw [hI6]; exact wf_X3_finishHeap I5 y k (I5 y 1 k 4) hy hw5_y hk
      have hn6 : I6 y 0 0 4 = I y 0 0 4 := by rw [hI6]; exact (kn_X3_finishHeap I5 y k (I5 y 1 k 4) hy hw5_y hk).trans hn5
      have eS : f_X3_pitch I y k = I6 := by simp only [f_X3_pitch, ← hI4, ← hI5, ← hI6, if_neg c1, if_pos c3]
      exact (congrFun (congrFun (congrFun (congrFun eS y) 0) 0) 4).trans hn6
    · have eS : f_X3_pitch I y k = I5 := by simp only [f_X3_pitch, ← hI4, ← hI5, if_neg c1, if_neg c3]
      exact (congrFun (congrFun (congrFun (congrFun eS y) 0) 0) 4).trans hn5
set_option maxHeartbeats 4000000 in
set_option maxRecDepth 100000 in
theorem m_X3_pitch (l : Launch) (E : gE) (J : Int64) (I : gI) (y : Nat) (k : Nat) (hy : y < 2) (hw : wf (I y)) (hk : k < 6) : gMv l E J yX3_pitch cX3_pitch 3 none 2 44 [.ref (gA E y 0 0), .ref (gA E y 1 k)] I (f_X3_pitch I y k) := by
  refine g_entry (lv := [(0, .ref (gA E y 0 0)), (1, .ref (gA E y 1 k))]) (by decide) (Nat.le_of_ble_eq_true rfl) rfl ?_
  intro p e s m below meth c0 ls K hG hS hml hr hlocks hl
  have K : kx E p m c0 cX3_pitch "HayThieves$Yard" _ s := K
  have hx := K.1
  have hb := K.2.1
  have hts := K.2.2.1
  have hown := K.2.2.2.1
  have hSt := K.2.2.2.2
  have hN := hw.N
  have hM := hw.M
  refine lv_aload_n hx hb dX3_pitch_0 rfl (lv_at hl 1 rfl) ?_
  refine gf_X3_172 K hG (gv1 hy hk) dX3_pitch_1 ?_
  refine lv_aload_n hx hb dX3_pitch_4 rfl (lv_at hl 1 rfl) ?_
  refine gf_X3_54 K hG (gv1 hy hk) dX3_pitch_5 ?_
  refine lv_icmp_ge (tgt := 18) hx hb dX3_pitch_8 (by decide) (fun c1 => ?_) (fun c1 => ?_)
  · refine lv_aload_n hx hb dX3_pitch_18 rfl (lv_at hl 1 rfl) ?_
    refine gf_X3_54 K hG (gv1 hy hk) dX3_pitch_19 ?_
    refine lv_istore_n (lv' := [(2, .int (I y 1 k 1)), (0, .ref (gA E y 0 0)), (1, .ref (gA E y 1 k))]) hx hb dX3_pitch_22 rfl hl (by decide) rfl (fun ls hl => ?_)
    refine lv_aload_n hx hb dX3_pitch_23 rfl (lv_at hl 2 rfl) ?_
    refine lv_dup hx hb dX3_pitch_24 rfl ?_
    refine gf_X3_172 K hG (gv1 hy hk) dX3_pitch_25 ?_
    refine lv_iload_n hx hb dX3_pitch_28 rfl (lv_at hl 0 rfl) ?_
    refine lv_isub hx hb dX3_pitch_29 ?_
    refine pf_X3_172 K hG hS (gv1 hy hk) dX3_pitch_30 (fun I1 hI1 H locs hG hS => ?_)
    have hw1_y : wf (I1 y) := by rw [hI1]; exact wf_gU rfl hw
    refine lv_aload_n hx hb dX3_pitch_33 rfl (lv_at hl 1 rfl) ?_
    refine lv_aload_n hx hb dX3_pitch_34 rfl (lv_at hl 2 rfl) ?_
    refine gf_X3_137 K hG (gv1 hy hk) dX3_pitch_35 ?_
    refine g_kr (g_runV (As := [.int (I1 y 1 k 4)]) (rest := []) K hml ca_X3_loadOf q403 (m_X3_loadOf l E J I1 y (I1 y 1 k 4) hy hw1_y) hG hS (gv0 hy) rfl rfl rfl rfl hl.1 (Nat.le_of_ble_eq_true rfl) ⟨by decide, by decide⟩ dX3_pitch_38 ⟨Nat.zero_le _, Nat.zero_le _⟩) hS (fun H locs hG hS => ?_)
    refine lv_dup hx hb dX3_pitch_41 rfl ?_
    refine gf_X3_198 K hG (gv4 hy (rg_loadOf _ _ _)) dX3_pitch_42 ?_
    refine lv_iload_n hx hb dX3_pitch_45 rfl (lv_at hl 0 rfl) ?_
    refine lv_iadd hx hb dX3_pitch_46 ?_
    refine pf_X3_198 K hG hS (gv4 hy (rg_loadOf _ _ _)) dX3_pitch_47 (fun I2 hI2 H locs hG hS => ?_)
    have hw2_y : wf (I2 y) := by rw [hI2]; exact wf_gU rfl hw1_y
    refine lv_aload_n hx hb dX3_pitch_50 rfl (lv_at hl 2 rfl) ?_
    refine gf_X3_172 K hG (gv1 hy hk) dX3_pitch_51 ?_
    refine lv_if_ne (tgt := 66) hx hb dX3_pitch_54 (by decide) (fun c2 => ?_) (fun c2 => ?_)
    · have eS : I2 = (f_X3_pitch I y k) := (by simp only [f_X3_pitch, ← hI1, ← hI2, if_pos c1, if_neg c2])
      rw [eS] at hG
      exact g_vret K hG hS hr hlocks dX3_pitch_66
    · refine lv_aload_n hx hb dX3_pitch_57 rfl (lv_at hl 1 rfl) ?_
      refine lv_aload_n hx hb dX3_pitch_58 rfl (lv_at hl 2 rfl) ?_
      refine lv_aload_n hx hb dX3_pitch_59 rfl (lv_at hl 2 rfl) ?_
      refine gf_X3_137 K hG (gv1 hy hk) dX3_pitch_60 ?_
      refine g_kv (g_runV (As := [.ref (gA E y 1 k), .int (I2 y 1 k 4)]) (rest := []) K hml ca_X3_finishHeap q399 (m_X3_finishHeap l E J I2 y k (I2 y 1 k 4) hy hw2_y hk) hG hS (gv0 hy) rfl rfl rfl rfl hl.1 (Nat.le_of_ble_eq_true rfl) ⟨by decide, by decide⟩ dX3_pitch_63 ⟨Nat.zero_le _, Nat.zero_le _⟩) hS (fun H locs hG hS => ?_)
      obtain ⟨I3, hI3⟩ : ∃ z, z = f_X3_finishHeap I2 y k (I2 y 1 k 4) := ⟨_, rfl⟩
      rw [← hI3] at hG
      have hw3_y : wf (I3 y) := by rw [hI3]; exact wf_X3_finishHeap I2 y k (I2 y 1 k 4) hy hw2_y hk
      have eS : I3 = (f_X3_pitch I y k) := (by simp only [f_X3_pitch, ← hI1, ← hI2, ← hI3, if_pos c1, if_pos c2])
      rw [eS] at hG
      exact g_vret K hG hS hr hlocks dX3_pitch_66
  · refine lv_aload_n hx hb dX3_pitch_11 rfl (lv_at hl 1 rfl) ?_
    refine gf_X3_172 K hG (gv1 hy hk) dX3_pitch_12 ?_
    refine lv_goto (tgt := 22) hx hb dX3_pitch_15 (by decide) ?_
    refine lv_istore_n (lv' := [(2, .int (I y 1 k 5)), (0, .ref (gA E y 0 0)), (1, .ref (gA E y 1 k))]) hx hb dX3_pitch_22 rfl hl (by decide) rfl (fun ls hl => ?_)
    refine lv_aload_n hx hb dX3_pitch_23 rfl (lv_at hl 2 rfl) ?_
    refine lv_dup hx hb dX3_pitch_24 rfl ?_
    refine gf_X3_172 K hG (gv1 hy hk) dX3_pitch_25 ?_
    refine lv_iload_n hx hb dX3_pitch_28 rfl (lv_at hl 0 rfl) ?_
    refine lv_isub hx hb dX3_pitch_29 ?_
    refine pf_X3_172 K hG hS (gv1 hy hk) dX3_pitch_30 (fun I4 hI4 H locs hG hS => ?_)
    have hw4_y : wf (I4 y) := by rw [hI4]; exact wf_gU rfl hw
    refine lv_aload_n hx hb dX3_pitch_33 rfl (lv_at hl 1 rfl) ?_
    refine lv_aload_n hx hb dX3_pitch_34 rfl (lv_at hl 2 rfl) ?_
    refine gf_X3_137 K hG (gv1 hy hk) dX3_pitch_35 ?_
    refine g_kr (g_runV (As := [.int (I4 y 1 k 4)]) (rest := []) K hml ca_X3_loadOf q403 (m_X3_loadOf l E J I4 y (I4 y 1 k 4) hy hw4_y) hG hS (gv0 hy) rfl rfl rfl rfl hl.1 (Nat.le_of_ble_eq_true rfl) ⟨by decide, by decide⟩ dX3_pitch_38 ⟨Nat.zero_le _, Nat.zero_le _⟩) hS (fun H locs hG hS => ?_)
    refine lv_dup hx hb dX3_pitch_41 rfl ?_
    refine gf_X3_198 K hG (gv4 hy (rg_loadOf _ _ _)) dX3_pitch_42 ?_
    refine lv_iload_n hx hb dX3_pitch_45 rfl (lv_at hl 0 rfl) ?_
    refine lv_iadd hx hb dX3_pitch_46 ?_
    refine pf_X3_198 K hG hS (gv4 hy (rg_loadOf _ _ _)) dX3_pitch_47 (fun I5 hI5 H locs hG hS => ?_)
    have hw5_y : wf (I5 y) := by rw [hI5]; exact wf_gU rfl hw4_y
    refine lv_aload_n hx hb dX3_pitch_50 rfl (lv_at hl 2 rfl) ?_
    refine gf_X3_172 K hG (gv1 hy hk) dX3_pitch_51 ?_
    refine lv_if_ne (tgt := 66) hx hb dX3_pitch_54 (by decide) (fun c3 => ?_) (fun c3 => ?_)
    · have eS : I5 = (f_X3_pitch I y k) := (by simp only [f_X3_pitch, ← hI4, ← hI5, if_neg c1, if_neg c3])
      rw [eS] at hG
      exact g_vret K hG hS hr hlocks dX3_pitch_66
    · refine lv_aload_n hx hb dX3_pitch_57 rfl (lv_at hl 1 rfl) ?_
      refine lv_aload_n hx hb dX3_pitch_58 rfl (lv_at hl 2 rfl) ?_
      refine lv_aload_n hx hb dX3_pitch_59 rfl (lv_at hl 2 rfl) ?_
      refine gf_X3_137 K hG (gv1 hy hk) dX3_pitch_60 ?_
      refine g_kv (g_runV (As := [.ref (gA E y 1 k), .int (I5 y 1 k 4)]) (rest := []) K hml ca_X3_finishHeap q399 (m_X3_finishHeap l E J I5 y k (I5 y 1 k 4) hy hw5_y hk) hG hS (gv0 hy) rfl rfl rfl rfl hl.1 (Nat.le_of_ble_eq_true rfl) ⟨by decide, by decide⟩ dX3_pitch_63 ⟨Nat.zero_le _, Nat.zero_le _⟩) hS (fun H locs hG hS => ?_)
      obtain ⟨I6, hI6⟩ : ∃ z, z = f_X3_finishHeap I5 y k (I5 y 1 k 4) := ⟨_, rfl⟩
      rw [← hI6] at hG
      have hw6_y : wf (I6 y) := by rw [hI6]; exact wf_X3_finishHeap I5 y k (I5 y 1 k 4) hy hw5_y hk
      have eS : I6 = (f_X3_pitch I y k) := (by simp only [f_X3_pitch, ← hI4, ← hI5, ← hI6, if_neg c1, if_pos c3])
      rw [eS] at hG
      exact g_vret K hG hS hr hlocks dX3_pitch_66
def f_X3_forkHeap (I : gI) (y : Nat) (k : Nat) : gI :=
  let I1 := f_X3_setBales I y ((I y 1 k 4) + ((I y 1 k 4) - (I y 1 k 4) / 32 * 32)) ((I y 1 k 5) / 2)
  let I2 := f_X3_setBales I1 y (((I y 1 k 4) + ((I y 1 k 4) - (I y 1 k 4) / 32 * 32)) + 1) ((I y 1 k 5) - ((I y 1 k 5) / 2))
  let I3 := gU I2 y 4 (f_X3_loadOf I2 y (I y 1 k 4)) 4 ((I2 y 4 (f_X3_loadOf I2 y (I y 1 k 4)) 4) + 2)
  let I4 := gU I3 y 0 0 8 ((I3 y 0 0 8) + 1)
  let I5 := f_X1_take I4 y k ((I y 1 k 4) + ((I y 1 k 4) - (I y 1 k 4) / 32 * 32)) ((I y 1 k 5) / 2)
  let I6 := f_X0_putNear I5 y ((I5 y 1 k 3).toNatClampNeg) (((I y 1 k 4) + ((I y 1 k 4) - (I y 1 k 4) / 32 * 32)) + 1)
  let I7 := f_X3_wakeFirstSleeper I6 y
  I7
set_option maxRecDepth 100000 in
theorem wf_X3_forkHeap (I : gI) (y : Nat) (k : Nat) (hy : y < 2) (hw : wf (I y)) (hk : k < 6) : wf (f_X3_forkHeap I y k y) := by
  obtain ⟨I1, hI1⟩ : ∃ z, z = f_X3_setBales I y ((I y 1 k 4) + ((I y 1 k 4) - (I y 1 k 4) / 32 * 32)) ((I y 1 k 5) / 2) := ⟨_, rfl⟩
  have hw1_y : wf (I1 y) := by rw [hI1]; exact wf_X3_setBales I y ((I y 1 k 4) + ((I y 1 k 4) - (I y 1 k 4) / 32 * 32)) ((I y 1 k 5) / 2) hy hw
  obtain ⟨I2, hI2⟩ : ∃ z, z = f_X3_setBales I1 y (((I y 1 k 4) + ((I y 1 k 4) - (I y 1 k 4) / 32 * 32)) + 1) ((I y 1 k 5) - ((I y 1 k 5) / 2)) := ⟨_, rfl⟩
  have hw2_y : wf (I2 y) := by rw [hI2]; exact wf_X3_setBales I1 y (((I y 1 k 4) + ((I y 1 k 4) - (I y 1 k 4) / 32 * 32)) + 1) ((I y 1 k 5) - ((I y 1 k 5) / 2)) hy hw1_y
  obtain ⟨I3, hI3⟩ : ∃ z, z = gU I2 y 4 (f_X3_loadOf I2 y (I y 1 k 4)) 4 ((I2 y 4 (f_X3_loadOf I2 y (I y 1 k 4)) 4) + 2) := ⟨_, rfl⟩
  have hw3_y : wf (I3 y) := by rw [hI3]; exact wf_gU rfl hw2_y
  obtain ⟨I4, hI4⟩ : ∃ z, z = gU I3 y 0 0 8 ((I3 y 0 0 8) + 1) := ⟨_, rfl⟩
  have hw4_y : wf (I4 y) := by rw [hI4]; exact wf_gU rfl hw3_y
  obtain ⟨I5, hI5⟩ : ∃ z, z = f_X1_take I4 y k ((I y 1 k 4) + ((I y 1 k 4) - (I y 1 k 4) / 32 * 32)) ((I y 1 k 5) / 2) := ⟨_, rfl⟩
  have hw5_y : wf (I5 y) := by rw [hI5]; exact wf_X1_take I4 y k ((I y 1 k 4) + ((I y 1 k 4) - (I y 1 k 4) / 32 * 32)) ((I y 1 k 5) / 2) hy hk hw4_y
  obtain ⟨I6, hI6⟩ : ∃ z, z = f_X0_putNear I5 y ((I5 y 1 k 3).toNatClampNeg) (((I y 1 k 4) + ((I y 1 k 4) - (I y 1 k 4) / 32 * 32)) + 1) := ⟨_, rfl⟩
  have hw6_y : wf (I6 y) := by rw [hI6]; exact wf_X0_putNear I5 y ((I5 y 1 k 3).toNatClampNeg) (((I y 1 k 4) + ((I y 1 k 4) - (I y 1 k 4) / 32 * 32)) + 1) hy (hw5_y.cart hk) hw5_y
  obtain ⟨I7, hI7⟩ : ∃ z, z = f_X3_wakeFirstSleeper I6 y := ⟨_, rfl⟩
  have hw7_y : wf (I7 y) := by rw [hI7]; exact wf_X3_wakeFirstSleeper I6 y hy hw6_y
  have eS : f_X3_forkHeap I y k = I7 := by simp only [f_X3_forkHeap, ← hI1, ← hI2, ← hI3, ← hI4, ← hI5, ← hI6, ← hI7]
  rw [eS]
  exact hw7_y
set_option maxRecDepth 100000 in
theorem ne_X3_forkHeap (I : gI) (y : Nat) (k : Nat) (hy : y < 2) (hw : wf (I y)) (hk : k < 6) {y' : Nat} (hne : y' ≠ y) : f_X3_forkHeap I y k y' = I y' := by
  have hn : I y' = I y' := rfl
  obtain ⟨I1, hI1⟩ : ∃ z, z = f_X3_setBales I y ((I y 1 k 4) + ((I y 1 k 4) - (I y 1 k 4) / 32 * 32)) ((I y 1 k 5) / 2) := ⟨_, rfl⟩
  have hw1_y : wf (I1 y) := by rw [hI1]; exact wf_X3_setBales I y ((I y 1 k 4) + ((I y 1 k 4) - (I y 1 k 4) / 32 * 32)) ((I y 1 k 5) / 2) hy hw
  have hn1 : I1 y' = I y' := by rw [hI1]; exact (ne_X3_setBales I y ((I y 1 k 4) + ((I y 1 k 4) - (I y 1 k 4) / 32 * 32)) ((I y 1 k 5) / 2) hy hw (y' := y') hne).trans hn
  obtain ⟨I2, hI2⟩ : ∃ z, z = f_X3_setBales I1 y (((I y 1 k 4) + ((I y 1 k 4) - (I y 1 k 4) / 32 * 32)) + 1) ((I y 1 k 5) - ((I y 1 k 5) / 2)) := ⟨_, rfl⟩
  have hw2_y : wf (I2 y) := by rw [hI2]; exact wf_X3_setBales I1 y (((I y 1 k 4) + ((I y 1 k 4) - (I y 1 k 4) / 32 * 32)) + 1) ((I y 1 k 5) - ((I y 1 k 5) / 2)) hy hw1_y
  have hn2 : I2 y' = I y' := by rw [hI2]; exact (ne_X3_setBales I1 y (((I y 1 k 4) + ((I y 1 k 4) - (I y 1 k 4) / 32 * 32)) + 1) ((I y 1 k 5) - ((I y 1 k 5) / 2)) hy hw1_y (y' := y') hne).trans hn1
  obtain ⟨I3, hI3⟩ : ∃ z, z = gU I2 y 4 (f_X3_loadOf I2 y (I y 1 k 4)) 4 ((I2 y 4 (f_X3_loadOf I2 y (I y 1 k 4)) 4) + 2) := ⟨_, rfl⟩
  have hw3_y : wf (I3 y) := by rw [hI3]; exact wf_gU rfl hw2_y
  have hn3 : I3 y' = I y' := by rw [hI3]; exact (gU_ne _ _ _ _ _ hne).trans hn2
  obtain ⟨I4, hI4⟩ : ∃ z, z = gU I3 y 0 0 8 ((I3 y 0 0 8) + 1) := ⟨_, rfl⟩
  have hw4_y : wf (I4 y) := by rw [hI4]; exact wf_gU rfl hw3_y
  have hn4 : I4 y' = I y' := by rw [hI4]; exact (gU_ne _ _ _ _ _ hne).trans hn3
  obtain ⟨I5, hI5⟩ : ∃ z, z = f_X1_take I4 y k ((I y 1 k 4) + ((I y 1 k 4) - (I y 1 k 4) / 32 * 32)) ((I y 1 k 5) / 2) := ⟨_, rfl⟩
  have hw5_y : wf (I5 y) := by rw [hI5]; exact wf_X1_take I4 y k ((I y 1 k 4) + ((I y 1 k 4) - (I y 1 k 4) / 32 * 32)) ((I y 1 k 5) / 2) hy hk hw4_y
  have hn5 : I5 y' = I y' := by rw [hI5]; exact (ne_X1_take I4 y k ((I y 1 k 4) + ((I y 1 k 4) - (I y 1 k 4) / 32 * 32)) ((I y 1 k 5) / 2) hy hk hw4_y (y' := y') hne).trans hn4
  obtain ⟨I6, hI6⟩ : ∃ z, z = f_X0_putNear I5 y ((I5 y 1 k 3).toNatClampNeg) (((I y 1 k 4) + ((I y 1 k 4) - (I y 1 k 4) / 32 * 32)) + 1) := ⟨_, rfl⟩
  have hw6_y : wf (I6 y) := by rw [hI6]; exact wf_X0_putNear I5 y ((I5 y 1 k 3).toNatClampNeg) (((I y 1 k 4) + ((I y 1 k 4) - (I y 1 k 4) / 32 * 32)) + 1) hy (hw5_y.cart hk) hw5_y
  have hn6 : I6 y' = I y' := by rw [hI6]; exact (ne_X0_putNear I5 y ((I5 y 1 k 3).toNatClampNeg) (((I y 1 k 4) + ((I y 1 k 4) - (I y 1 k 4) / 32 * 32)) + 1) hy (hw5_y.cart hk) hw5_y (y' := y') hne).trans hn5
  obtain ⟨I7, hI7⟩ : ∃ z, z = f_X3_wakeFirstSleeper I6 y := ⟨_, rfl⟩
  have hw7_y : wf (I7 y) := by rw [hI7]; exact wf_X3_wakeFirstSleeper I6 y hy hw6_y
  have hn7 : I7 y' = I y' := by rw [hI7]; exact (ne_X3_wakeFirstSleeper I6 y hy hw6_y (y' := y') hne).trans hn6
  have eS : f_X3_forkHeap I y k = I7 := by simp only [f_X3_forkHeap, ← hI1, ← hI2, ← hI3, ← hI4, ← hI5, ← hI6, ← hI7]
  exact (congrFun eS y').trans hn7
set_option maxRecDepth 100000 in
theorem kn_X3_forkHeap (I : gI) (y : Nat) (k : Nat) (hy : y < 2) (hw : wf (I y)) (hk : k < 6) : f_X3_forkHeap I y k y 0 0 4 = I y 0 0 4 := by
  have hn : I y 0 0 4 = I y 0 0 4 := rfl
  obtain ⟨I1, hI1⟩ : ∃ z, z = f_X3_setBales I y ((I y 1 k 4) + ((I y 1 k 4) - (I y 1 k 4) / 32 * 32)) ((I y 1 k 5) / 2) := ⟨_, rfl⟩
  have hw1_y : wf (I1 y) := by rw [hI1]; exact wf_X3_setBales I y ((I y 1 k 4) + ((I y 1 k 4) - (I y 1 k 4) / 32 * 32)) ((I y 1 k 5) / 2) hy hw
  have hn1 : I1 y 0 0 4 = I y 0 0 4 := by rw [hI1]; exact (kn_X3_setBales I y ((I y 1 k 4) + ((I y 1 k 4) - (I y 1 k 4) / 32 * 32)) ((I y 1 k 5) / 2) hy hw).trans hn
  obtain ⟨I2, hI2⟩ : ∃ z, z = f_X3_setBales I1 y (((I y 1 k 4) + ((I y 1 k 4) - (I y 1 k 4) / 32 * 32)) + 1) ((I y 1 k 5) - ((I y 1 k 5) / 2)) := ⟨_, rfl⟩
  have hw2_y : wf (I2 y) := by rw [hI2]; exact wf_X3_setBales I1 y (((I y 1 k 4) + ((I y 1 k 4) - (I y 1 k 4) / 32 * 32)) + 1) ((I y 1 k 5) - ((I y 1 k 5) / 2)) hy hw1_y
  have hn2 : I2 y 0 0 4 = I y 0 0 4 := by rw [hI2]; exact (kn_X3_setBales I1 y (((I y 1 k 4) + ((I y 1 k 4) - (I y 1 k 4) / 32 * 32)) + 1) ((I y 1 k 5) - ((I y 1 k 5) / 2)) hy hw1_y).trans hn1
  obtain ⟨I3, hI3⟩ : ∃ z, z = gU I2 y 4 (f_X3_loadOf I2 y (I y 1 k 4)) 4 ((I2 y 4 (f_X3_loadOf I2 y (I y 1 k 4)) 4) + 2) := ⟨_, rfl⟩
  have hw3_y : wf (I3 y) := by rw [hI3]; exact wf_gU rfl hw2_y
  have hn3 : I3 y 0 0 4 = I y 0 0 4 := by rw [hI3]; exact (kn_gU rfl).trans hn2
  obtain ⟨I4, hI4⟩ : ∃ z, z = gU I3 y 0 0 8 ((I3 y 0 0 8) + 1) := ⟨_, rfl⟩
  have hw4_y : wf (I4 y) := by rw [hI4]; exact wf_gU rfl hw3_y
  have hn4 : I4 y 0 0 4 = I y 0 0 4 := by rw [hI4]; exact (kn_gU rfl).trans hn3
  obtain ⟨I5, hI5⟩ : ∃ z, z = f_X1_take I4 y k ((I y 1 k 4) + ((I y 1 k 4) - (I y 1 k 4) / 32 * 32)) ((I y 1 k 5) / 2) := ⟨_, rfl⟩
  have hw5_y : wf (I5 y) := by rw [hI5]; exact wf_X1_take I4 y k ((I y 1 k 4) + ((I y 1 k 4) - (I y 1 k 4) / 32 * 32)) ((I y 1 k 5) / 2) hy hk hw4_y
  have hn5 : I5 y 0 0 4 = I y 0 0 4 := by rw [hI5]; exact (kn_X1_take I4 y k ((I y 1 k 4) + ((I y 1 k 4) - (I y 1 k 4) / 32 * 32)) ((I y 1 k 5) / 2) hy hk hw4_y).trans hn4
  obtain ⟨I6, hI6⟩ : ∃ z, z = f_X0_putNear I5 y ((I5 y 1 k 3).toNatClampNeg) (((I y 1 k 4) + ((I y 1 k 4) - (I y 1 k 4) / 32 * 32)) + 1) := ⟨_, rfl⟩
  have hw6_y : wf (I6 y) := by rw [hI6]; exact wf_X0_putNear I5 y ((I5 y 1 k 3).toNatClampNeg) (((I y 1 k 4) + ((I y 1 k 4) - (I y 1 k 4) / 32 * 32)) + 1) hy (hw5_y.cart hk) hw5_y
  have hn6 : I6 y 0 0 4 = I y 0 0 4 := by rw [hI6]; exact (kn_X0_putNear I5 y ((I5 y 1 k 3).toNatClampNeg) (((I y 1 k 4) + ((I y 1 k 4) - (I y 1 k 4) / 32 * 32)) + 1) hy (hw5_y.cart hk) hw5_y).trans hn5
  obtain ⟨I7, hI7⟩ : ∃ z, z = f_X3_wakeFirstSleeper I6 y := ⟨_, rfl⟩
  have hw7_y : wf (I7 y) := by rw [hI7]; exact wf_X3_wakeFirstSleeper I6 y hy hw6_y
  have hn7 : I7 y 0 0 4 = I y 0 0 4 := by rw [hI7]; exact (kn_X3_wakeFirstSleeper I6 y hy hw6_y).trans hn6
  have eS : f_X3_forkHeap I y k = I7 := by simp only [f_X3_forkHeap, ← hI1, ← hI2, ← hI3, ← hI4, ← hI5, ← hI6, ← hI7]
  exact (congrFun (congrFun (congrFun (congrFun eS y) 0) 0) 4).trans hn7
set_option maxHeartbeats 4000000 in
set_option maxRecDepth 100000 in
theorem m_X3_forkHeap (l : Launch) (E : gE) (J : Int64) (I : gI) (y : Nat) (k : Nat) (hy : y < 2) (hw : wf (I y)) (hk : k < 6) : gMv l E J yX3_forkHeap cX3_forkHeap 5 none 2 41 [.ref (gA E y 0 0), .ref (gA E y 1 k)] I (f_X3_forkHeap I y k) := by
  refine g_entry (lv := [(0, .ref (gA E y 0 0)), (1, .ref (gA E y 1 k))]) (by decide) (Nat.le_of_ble_eq_true rfl) rfl ?_
  intro p e s m below meth c0 ls K hG hS hml hr hlocks hl
  have K : kx E p m c0 cX3_forkHeap "HayThieves$Yard" _ s := K
  have hx := K.1
  have hb := K.2.1
  have hts := K.2.2.1
  have hown := K.2.2.2.1
  have hSt := K.2.2.2.2
  have hN := hw.N
  have hM := hw.M
  refine lv_aload_n hx hb dX3_forkHeap_0 rfl (lv_at hl 1 rfl) ?_
  refine gf_X3_137 K hG (gv1 hy hk) dX3_forkHeap_1 ?_
  refine lv_istore_n (lv' := [(2, .int (I y 1 k 4)), (0, .ref (gA E y 0 0)), (1, .ref (gA E y 1 k))]) hx hb dX3_forkHeap_4 rfl hl (by decide) rfl (fun ls hl => ?_)
  refine lv_aload_n hx hb dX3_forkHeap_5 rfl (lv_at hl 2 rfl) ?_
  refine gf_X3_172 K hG (gv1 hy hk) dX3_forkHeap_6 ?_
  refine lv_istore_n (lv' := [(3, .int (I y 1 k 5)), (2, .int (I y 1 k 4)), (0, .ref (gA E y 0 0)), (1, .ref (gA E y 1 k))]) hx hb dX3_forkHeap_9 rfl hl (by decide) rfl (fun ls hl => ?_)
  refine lv_iload_n hx hb dX3_forkHeap_10 rfl (lv_at hl 1 rfl) ?_
  refine lv_iload_n hx hb dX3_forkHeap_11 rfl (lv_at hl 1 rfl) ?_
  refine lv_bipush (v := 32) hx hb dX3_forkHeap_12 (by decide) ?_
  refine lv_irem hx hb dX3_forkHeap_14 (by decide) ?_
  refine lv_iadd hx hb dX3_forkHeap_15 ?_
  refine lv_istore (lv' := [(4, .int ((I y 1 k 4) + ((I y 1 k 4) - (I y 1 k 4) / 32 * 32))), (3, .int (I y 1 k 5)), (2, .int (I y 1 k 4)), (0, .ref (gA E y 0 0)), (1, .ref (gA E y 1 k))]) hx hb dX3_forkHeap_16 hl (by decide) rfl (fun ls hl => ?_)
  refine lv_aload_n hx hb dX3_forkHeap_18 rfl (lv_at hl 3 rfl) ?_
  refine lv_iload hx hb dX3_forkHeap_19 (lv_at hl 0 rfl) ?_
  refine lv_iload_n hx hb dX3_forkHeap_21 rfl (lv_at hl 1 rfl) ?_
  refine lv_iconst (v := 2) hx hb dX3_forkHeap_22 (by decide) ?_
  refine lv_idiv hx hb dX3_forkHeap_23 (by decide) ?_
  refine g_kv (g_runV (As := [.int ((I y 1 k 4) + ((I y 1 k 4) - (I y 1 k 4) / 32 * 32)), .int ((I y 1 k 5) / 2)]) (rest := []) K hml ca_X3_setBales q423 (m_X3_setBales l E J I y ((I y 1 k 4) + ((I y 1 k 4) - (I y 1 k 4) / 32 * 32)) ((I y 1 k 5) / 2) hy hw) hG hS (gv0 hy) rfl rfl rfl rfl hl.1 (Nat.le_of_ble_eq_true rfl) ⟨by decide, by decide⟩ dX3_forkHeap_24 ⟨Nat.zero_le _, Nat.zero_le _⟩) hS (fun H locs hG hS => ?_)
  obtain ⟨I1, hI1⟩ : ∃ z, z = f_X3_setBales I y ((I y 1 k 4) + ((I y 1 k 4) - (I y 1 k 4) / 32 * 32)) ((I y 1 k 5) / 2) := ⟨_, rfl⟩
  rw [← hI1] at hG
  have hw1_y : wf (I1 y) := by rw [hI1]; exact wf_X3_setBales I y ((I y 1 k 4) + ((I y 1 k 4) - (I y 1 k 4) / 32 * 32)) ((I y 1 k 5) / 2) hy hw
  refine lv_aload_n hx hb dX3_forkHeap_27 rfl (lv_at hl 3 rfl) ?_
  refine lv_iload hx hb dX3_forkHeap_28 (lv_at hl 0 rfl) ?_
  refine lv_iconst (v := 1) hx hb dX3_forkHeap_30 (by decide) ?_
  refine lv_iadd hx hb dX3_forkHeap_31 ?_
  refine lv_iload_n hx hb dX3_forkHeap_32 rfl (lv_at hl 1 rfl) ?_
  refine lv_iload_n hx hb dX3_forkHeap_33 rfl (lv_at hl 1 rfl) ?_
  refine lv_iconst (v := 2) hx hb dX3_forkHeap_34 (by decide) ?_
  refine lv_idiv hx hb dX3_forkHeap_35 (by decide) ?_
  refine lv_isub hx hb dX3_forkHeap_36 ?_
  refine g_kv (g_runV (As := [.int (((I y 1 k 4) + ((I y 1 k 4) - (I y 1 k 4) / 32 * 32)) + 1), .int ((I y 1 k 5) - ((I y 1 k 5) / 2))]) (rest := []) K hml ca_X3_setBales q423 (m_X3_setBales l E J I1 y (((I y 1 k 4) + ((I y 1 k 4) - (I y 1 k 4) / 32 * 32)) + 1) ((I y 1 k 5) - ((I y 1 k 5) / 2)) hy hw1_y) hG hS (gv0 hy) rfl rfl rfl rfl hl.1 (Nat.le_of_ble_eq_true rfl) ⟨by decide, by decide⟩ dX3_forkHeap_37 ⟨Nat.zero_le _, Nat.zero_le _⟩) hS (fun H locs hG hS => ?_)
  obtain ⟨I2, hI2⟩ : ∃ z, z = f_X3_setBales I1 y (((I y 1 k 4) + ((I y 1 k 4) - (I y 1 k 4) / 32 * 32)) + 1) ((I y 1 k 5) - ((I y 1 k 5) / 2)) := ⟨_, rfl⟩
  rw [← hI2] at hG
  have hw2_y : wf (I2 y) := by rw [hI2]; exact wf_X3_setBales I1 y (((I y 1 k 4) + ((I y 1 k 4) - (I y 1 k 4) / 32 * 32)) + 1) ((I y 1 k 5) - ((I y 1 k 5) / 2)) hy hw1_y
  refine lv_aload_n hx hb dX3_forkHeap_40 rfl (lv_at hl 3 rfl) ?_
  refine lv_iload_n hx hb dX3_forkHeap_41 rfl (lv_at hl 2 rfl) ?_
  refine g_kr (g_runV (As := [.int (I y 1 k 4)]) (rest := []) K hml ca_X3_loadOf q403 (m_X3_loadOf l E J I2 y (I y 1 k 4) hy hw2_y) hG hS (gv0 hy) rfl rfl rfl rfl hl.1 (Nat.le_of_ble_eq_true rfl) ⟨by decide, by decide⟩ dX3_forkHeap_42 ⟨Nat.zero_le _, Nat.zero_le _⟩) hS (fun H locs hG hS => ?_)
  refine lv_dup hx hb dX3_forkHeap_45 rfl ?_
  refine gf_X3_189 K hG (gv4 hy (rg_loadOf _ _ _)) dX3_forkHeap_46 ?_
  refine lv_iconst (v := 2) hx hb dX3_forkHeap_49 (by decide) ?_
  refine lv_iadd hx hb dX3_forkHeap_50 ?_
  refine pf_X3_189 K hG hS (gv4 hy (rg_loadOf _ _ _)) dX3_forkHeap_51 (fun I3 hI3 H locs hG hS => ?_)
  have hw3_y : wf (I3 y) := by rw [hI3]; exact wf_gU rfl hw2_y
  refine lv_aload_n hx hb dX3_forkHeap_54 rfl (lv_at hl 3 rfl) ?_
  refine lv_dup hx hb dX3_forkHeap_55 rfl ?_
  refine gf_X3_44 K hG (gv0 hy) dX3_forkHeap_56 ?_
  refine lv_iconst (v := 1) hx hb dX3_forkHeap_59 (by decide) ?_
  refine lv_iadd hx hb dX3_forkHeap_60 ?_
  refine pf_X3_44 K hG hS (gv0 hy) dX3_forkHeap_61 (fun I4 hI4 H locs hG hS => ?_)
  have hw4_y : wf (I4 y) := by rw [hI4]; exact wf_gU rfl hw3_y
  refine lv_aload_n hx hb dX3_forkHeap_64 rfl (lv_at hl 4 rfl) ?_
  refine lv_iload hx hb dX3_forkHeap_65 (lv_at hl 0 rfl) ?_
  refine lv_iload_n hx hb dX3_forkHeap_67 rfl (lv_at hl 1 rfl) ?_
  refine lv_iconst (v := 2) hx hb dX3_forkHeap_68 (by decide) ?_
  refine lv_idiv hx hb dX3_forkHeap_69 (by decide) ?_
  refine g_kv (g_runV (As := [.int ((I y 1 k 4) + ((I y 1 k 4) - (I y 1 k 4) / 32 * 32)), .int ((I y 1 k 5) / 2)]) (rest := []) K hml ca_X1_take q391 (m_X1_take l E J I4 y k ((I y 1 k 4) + ((I y 1 k 4) - (I y 1 k 4) / 32 * 32)) ((I y 1 k 5) / 2) hy hk hw4_y) hG hS (gv1 hy hk) rfl rfl rfl rfl hl.1 (Nat.le_of_ble_eq_true rfl) ⟨by decide, by decide⟩ dX3_forkHeap_70 ⟨Nat.zero_le _, Nat.zero_le _⟩) hS (fun H locs hG hS => ?_)
  obtain ⟨I5, hI5⟩ : ∃ z, z = f_X1_take I4 y k ((I y 1 k 4) + ((I y 1 k 4) - (I y 1 k 4) / 32 * 32)) ((I y 1 k 5) / 2) := ⟨_, rfl⟩
  rw [← hI5] at hG
  have hw5_y : wf (I5 y) := by rw [hI5]; exact wf_X1_take I4 y k ((I y 1 k 4) + ((I y 1 k 4) - (I y 1 k 4) / 32 * 32)) ((I y 1 k 5) / 2) hy hk hw4_y
  refine lv_aload_n hx hb dX3_forkHeap_73 rfl (lv_at hl 4 rfl) ?_
  refine gf_X3_108 K hG (gv1 hy hk) dX3_forkHeap_74 ?_
  refine lv_iload hx hb dX3_forkHeap_77 (lv_at hl 0 rfl) ?_
  refine lv_iconst (v := 1) hx hb dX3_forkHeap_79 (by decide) ?_
  refine lv_iadd hx hb dX3_forkHeap_80 ?_
  refine g_kv (g_runV (As := [.int (((I y 1 k 4) + ((I y 1 k 4) - (I y 1 k 4) / 32 * 32)) + 1)]) (rest := []) K hml ca_X0_putNear q427 (m_X0_putNear l E J I5 y ((I5 y 1 k 3).toNatClampNeg) (((I y 1 k 4) + ((I y 1 k 4) - (I y 1 k 4) / 32 * 32)) + 1) hy (hw5_y.cart hk) hw5_y) hG hS (gv2 hy (hw5_y.cart hk)) rfl rfl rfl rfl hl.1 (Nat.le_of_ble_eq_true rfl) ⟨by decide, by decide⟩ dX3_forkHeap_81 ⟨Nat.zero_le _, Nat.zero_le _⟩) hS (fun H locs hG hS => ?_)
  obtain ⟨I6, hI6⟩ : ∃ z, z = f_X0_putNear I5 y ((I5 y 1 k 3).toNatClampNeg) (((I y 1 k 4) + ((I y 1 k 4) - (I y 1 k 4) / 32 * 32)) + 1) := ⟨_, rfl⟩
  rw [← hI6] at hG
  have hw6_y : wf (I6 y) := by rw [hI6]; exact wf_X0_putNear I5 y ((I5 y 1 k 3).toNatClampNeg) (((I y 1 k 4) + ((I y 1 k 4) - (I y 1 k 4) / 32 * 32)) + 1) hy (hw5_y.cart hk) hw5_y
  refine lv_aload_n hx hb dX3_forkHeap_84 rfl (lv_at hl 3 rfl) ?_
  refine g_kv (g_runV (As := []) (rest := []) K hml ca_X3_wakeFirstSleeper q432 (m_X3_wakeFirstSleeper l E J I6 y hy hw6_y) hG hS (gv0 hy) rfl rfl rfl rfl hl.1 (Nat.le_of_ble_eq_true rfl) ⟨by decide, by decide⟩ dX3_forkHeap_85 ⟨Nat.zero_le _, Nat.zero_le _⟩) hS (fun H locs hG hS => ?_)
  obtain ⟨I7, hI7⟩ : ∃ z, z = f_X3_wakeFirstSleeper I6 y := ⟨_, rfl⟩
  rw [← hI7] at hG
  have hw7_y : wf (I7 y) := by rw [hI7]; exact wf_X3_wakeFirstSleeper I6 y hy hw6_y
  have eS : I7 = (f_X3_forkHeap I y k) := (by simp only [f_X3_forkHeap, ← hI1, ← hI2, ← hI3, ← hI4, ← hI5, ← hI6, ← hI7])
  rw [eS] at hG
  exact g_vret K hG hS hr hlocks dX3_forkHeap_88
def f_X3_workOnHeap (I : gI) (y : Nat) (k : Nat) : gI :=
  if (I y 1 k 5) = (f_X3_balesOf I y (I y 1 k 4)) then
    if (I y 1 k 5) ≤ (I y 0 0 7) then
      let I2 := f_X3_pitch I y k
      I2
    else
      if (f_X0_hasRoom I y ((I y 1 k 3).toNatClampNeg)) = 0 then
        let I3 := f_X3_pitch I y k
        I3
      else
        let I4 := f_X3_forkHeap I y k
        I4
  else
    let I1 := f_X3_pitch I y k
    I1
set_option maxRecDepth 100000 in
theorem wf_X3_workOnHeap (I : gI) (y : Nat) (k : Nat) (hy : y < 2) (hw : wf (I y)) (hk : k < 6) : wf (f_X3_workOnHeap I y k y) := by
  by_cases c1 : (I y 1 k 5) = (f_X3_balesOf I y (I y 1 k 4))
  · by_cases c4 : (I y 1 k 5) ≤ (I y 0 0 7)
    · obtain ⟨I2, hI2⟩ : ∃ z, z = f_X3_pitch I y k := ⟨_, rfl⟩
      have hw2_y : wf (I2 y) := by rw [hI2]; exact wf_X3_pitch I y k hy hw hk
      have eS : f_X3_workOnHeap I y k = I2 := by simp only [f_X3_workOnHeap, ← hI2, if_pos c1, if_pos c4]
      rw [eS]
      exact hw2_y
    · by_cases c5 : (f_X0_hasRoom I y ((I y 1 k 3).toNatClampNeg)) = 0
      · obtain ⟨I3, hI3⟩ : ∃ z, z = f_X3_pitch I y k := ⟨_, rfl⟩
        have hw3_y : wf (I3 y) := by rw [hI3]; exact wf_X3_pitch I y k hy hw hk
        have eS : f_X3_workOnHeap I y k = I3 := by simp only [f_X3_workOnHeap, ← hI3, if_pos c1, if_neg c4, if_pos c5]
        rw [eS]
        exact hw3_y
      · obtain ⟨I4, hI4⟩ : ∃ z, z = f_X3_forkHeap I y k := ⟨_, rfl⟩
        have hw4_y : wf (I4 y) := by rw [hI4]; exact wf_X3_forkHeap I y k hy hw hk
        have eS : f_X3_workOnHeap I y k = I4 := by simp only [f_X3_workOnHeap, ← hI4, if_pos c1, if_neg c4, if_neg c5]
        rw [eS]
        exact hw4_y
  · obtain ⟨I1, hI1⟩ : ∃ z, z = f_X3_pitch I y k := ⟨_, rfl⟩
    have hw1_y : wf (I1 y) := by rw [hI1]; exact wf_X3_pitch I y k hy hw hk
    have eS : f_X3_workOnHeap I y k = I1 := by simp only [f_X3_workOnHeap, ← hI1, if_neg c1]
    rw [eS]
    exact hw1_y
set_option maxRecDepth 100000 in
theorem ne_X3_workOnHeap (I : gI) (y : Nat) (k : Nat) (hy : y < 2) (hw : wf (I y)) (hk : k < 6) {y' : Nat} (hne : y' ≠ y) : f_X3_workOnHeap I y k y' = I y' := by
  have hn : I y' = I y' := rfl
  by_cases c1 : (I y 1 k 5) = (f_X3_balesOf I y (I y 1 k 4))
  · by_cases c4 : (I y 1 k 5) ≤ (I y 0 0 7)
    · obtain ⟨I2, hI2⟩ : ∃ z, z = f_X3_pitch I y k := ⟨_, rfl⟩
      have hw2_y : wf (I2 y) := by rw [hI2]; exact wf_X3_pitch I y k hy hw hk
      have hn2 : I2 y' = I y' := by rw [hI2]; exact (ne_X3_pitch I y k hy hw hk (y' := y') hne).trans hn
      have eS : f_X3_workOnHeap I y k = I2 := by simp only [f_X3_workOnHeap, ← hI2, if_pos c1, if_pos c4]
      exact (congrFun eS y').trans hn2
    · by_cases c5 : (f_X0_hasRoom I y ((I y 1 k 3).toNatClampNeg)) = 0
      · obtain ⟨I3, hI3⟩ : ∃ z, z = f_X3_pitch I y k := ⟨_, rfl⟩
        have hw3_y : wf (I3 y) := by rw [hI3]; exact wf_X3_pitch I y k hy hw hk
        have hn3 : I3 y' = I y' := by rw [hI3]; exact (ne_X3_pitch I y k hy hw hk (y' := y') hne).trans hn
        have eS : f_X3_workOnHeap I y k = I3 := by simp only [f_X3_workOnHeap, ← hI3, if_pos c1, if_neg c4, if_pos c5]
        exact (congrFun eS y').trans hn3
      · obtain ⟨I4, hI4⟩ : ∃ z, z = f_X3_forkHeap I y k := ⟨_, rfl⟩
        have hw4_y : wf (I4 y) := by rw [hI4]; exact wf_X3_forkHeap I y k hy hw hk
        have hn4 : I4 y' = I y' := by rw [hI4]; exact (ne_X3_forkHeap I y k hy hw hk (y' := y') hne).trans hn
        have eS : f_X3_workOnHeap I y k = I4 := by simp only [f_X3_workOnHeap, ← hI4, if_pos c1, if_neg c4, if_neg c5]
        exact (congrFun eS y').trans hn4
  · obtain ⟨I1, hI1⟩ : ∃ z, z = f_X3_pitch I y k := ⟨_, rfl⟩
    have hw1_y : wf (I1 y) := by rw [hI1]; exact wf_X3_pitch I y k hy hw hk
    have hn1 : I1 y' = I y' := by rw [hI1]; exact (ne_X3_pitch I y k hy hw hk (y' := y') hne).trans hn
    have eS : f_X3_workOnHeap I y k = I1 := by simp only [f_X3_workOnHeap, ← hI1, if_neg c1]
    exact (congrFun eS y').trans hn1
set_option maxRecDepth 100000 in
theorem kn_X3_workOnHeap (I : gI) (y : Nat) (k : Nat) (hy : y < 2) (hw : wf (I y)) (hk : k < 6) : f_X3_workOnHeap I y k y 0 0 4 = I y 0 0 4 := by
  have hn : I y 0 0 4 = I y 0 0 4 := rfl
  by_cases c1 : (I y 1 k 5) = (f_X3_balesOf I y (I y 1 k 4))
  · by_cases c4 : (I y 1 k 5) ≤ (I y 0 0 7)
    · obtain ⟨I2, hI2⟩ : ∃ z, z = f_X3_pitch I y k := ⟨_, rfl⟩
      have hw2_y : wf (I2 y) := by rw [hI2]; exact wf_X3_pitch I y k hy hw hk
      have hn2 : I2 y 0 0 4 = I y 0 0 4 := by rw [hI2]; exact (kn_X3_pitch I y k hy hw hk).trans hn
      have eS : f_X3_workOnHeap I y k = I2 := by simp only [f_X3_workOnHeap, ← hI2, if_pos c1, if_pos c4]
      exact (congrFun (congrFun (congrFun (congrFun eS y) 0) 0) 4).trans hn2
    · by_cases c5 : (f_X0_hasRoom I y ((I y 1 k 3).toNatClampNeg)) = 0
      · obtain ⟨I3, hI3⟩ : ∃ z, z = f_X3_pitch I y k := ⟨_, rfl⟩
        have hw3_y : wf (I3 y) := by rw [hI3]; exact wf_X3_pitch I y k hy hw hk
        have hn3 : I3 y 0 0 4 = I y 0 0 4 := by rw [hI3]; exact (kn_X3_pitch I y k hy hw hk).trans hn
        have eS : f_X3_workOnHeap I y k = I3 := by simp only [f_X3_workOnHeap, ← hI3, if_pos c1, if_neg c4, if_pos c5]
        exact (congrFun (congrFun (congrFun (congrFun eS y) 0) 0) 4).trans hn3
      · obtain ⟨I4, hI4⟩ : ∃ z, z = f_X3_forkHeap I y k := ⟨_, rfl⟩
        have hw4_y : wf (I4 y) := by rw [hI4]; exact wf_X3_forkHeap I y k hy hw hk
        have hn4 : I4 y 0 0 4 = I y 0 0 4 := by rw [hI4]; exact (kn_X3_forkHeap I y k hy hw hk).trans hn
        have eS : f_X3_workOnHeap I y k = I4 := by simp only [f_X3_workOnHeap, ← hI4, if_pos c1, if_neg c4, if_neg c5]
        exact (congrFun (congrFun (congrFun (congrFun eS y) 0) 0) 4).trans hn4
  · obtain ⟨I1, hI1⟩ : ∃ z, z = f_X3_pitch I y k := ⟨_, rfl⟩
    have hw1_y : wf (I1 y) := by rw [hI1]; exact wf_X3_pitch I y k hy hw hk
    have hn1 : I1 y 0 0 4 = I y 0 0 4 := by rw [hI1]; exact (kn_X3_pitch I y k hy hw hk).trans hn
    have eS : f_X3_workOnHeap I y k = I1 := by simp only [f_X3_workOnHeap, ← hI1, if_neg c1]
    exact (congrFun (congrFun (congrFun (congrFun eS y) 0) 0) 4).trans hn1
set_option maxHeartbeats 4000000 in
set_option maxRecDepth 100000 in
theorem m_X3_workOnHeap (l : Launch) (E : gE) (J : Int64) (I : gI) (y : Nat) (k : Nat) (hy : y < 2) (hw : wf (I y)) (hk : k < 6) : gMv l E J yX3_workOnHeap cX3_workOnHeap 3 none 3 66 [.ref (gA E y 0 0), .ref (gA E y 1 k)] I (f_X3_workOnHeap I y k) := by
  refine g_entry (lv := [(0, .ref (gA E y 0 0)), (1, .ref (gA E y 1 k))]) (by decide) (Nat.le_of_ble_eq_true rfl) rfl ?_
  intro p e s m below meth c0 ls K hG hS hml hr hlocks hl
  have K : kx E p m c0 cX3_workOnHeap "HayThieves$Yard" _ s := K
  have hx := K.1
  have hb := K.2.1
  have hts := K.2.2.1
  have hown := K.2.2.2.1
  have hSt := K.2.2.2.2
  have hN := hw.N
  have hM := hw.M
  refine lv_aload_n hx hb dX3_workOnHeap_0 rfl (lv_at hl 1 rfl) ?_
  refine gf_X3_172 K hG (gv1 hy hk) dX3_workOnHeap_1 ?_
  refine lv_aload_n hx hb dX3_workOnHeap_4 rfl (lv_at hl 0 rfl) ?_
  refine lv_aload_n hx hb dX3_workOnHeap_5 rfl (lv_at hl 1 rfl) ?_
  refine gf_X3_137 K hG (gv1 hy hk) dX3_workOnHeap_6 ?_
  refine g_ki (g_runV (As := [.int (I y 1 k 4)]) (rest := [.int (I y 1 k 5)]) K hml ca_X3_balesOf q340 (m_X3_balesOf l E J I y (I y 1 k 4) hy hw) hG hS (gv0 hy) rfl rfl rfl rfl hl.1 (Nat.le_of_ble_eq_true rfl) ⟨by decide, by decide⟩ dX3_workOnHeap_9 ⟨Nat.zero_le _, Nat.zero_le _⟩) hS (fun H locs hG hS => ?_)
  refine lv_icmp_ne (tgt := 19) hx hb dX3_workOnHeap_12 (by decide) (fun c1 => ?_) (fun c1 => ?_)
  · refine lv_iconst (v := 0) hx hb dX3_workOnHeap_19 (by decide) ?_
    refine lv_istore_n (lv' := [(2, .int 0), (0, .ref (gA E y 0 0)), (1, .ref (gA E y 1 k))]) hx hb dX3_workOnHeap_20 rfl hl (by decide) rfl (fun ls hl => ?_)
    refine lv_iload_n hx hb dX3_workOnHeap_21 rfl (lv_at hl 0 rfl) ?_
    refine lv_if_eq (tgt := 54) hx hb dX3_workOnHeap_22 (by decide) (fun c2 => ?_) (fun c2 => ?_)
    · refine lv_aload_n hx hb dX3_workOnHeap_54 rfl (lv_at hl 1 rfl) ?_
      refine lv_aload_n hx hb dX3_workOnHeap_55 rfl (lv_at hl 2 rfl) ?_
      refine g_kv (g_runV (As := [.ref (gA E y 1 k)]) (rest := []) K hml ca_X3_pitch q436 (m_X3_pitch l E J I y k hy hw hk) hG hS (gv0 hy) rfl rfl rfl rfl hl.1 (Nat.le_of_ble_eq_true rfl) ⟨by decide, by decide⟩ dX3_workOnHeap_56 ⟨Nat.zero_le _, Nat.zero_le _⟩) hS (fun H locs hG hS => ?_)
      obtain ⟨I1, hI1⟩ : ∃ z, z = f_X3_pitch I y k := ⟨_, rfl⟩
      rw [← hI1] at hG
      have hw1_y : wf (I1 y) := by rw [hI1]; exact wf_X3_pitch I y k hy hw hk
      have eS : I1 = (f_X3_workOnHeap I y k) := (by simp only [f_X3_workOnHeap, ← hI1, if_neg c1, if_pos c2])
      rw [eS] at hG
      exact g_vret K hG hS hr hlocks dX3_workOnHeap_59
    · exact absurd (by decide) c2
  · refine lv_iconst (v := 1) hx hb dX3_workOnHeap_15 (by decide) ?_
    refine lv_goto (tgt := 20) hx hb dX3_workOnHeap_16 (by decide) ?_
    refine lv_istore_n (lv' := [(2, .int 1), (0, .ref (gA E y 0 0)), (1, .ref (gA E y 1 k))]) hx hb dX3_workOnHeap_20 rfl hl (by decide) rfl (fun ls hl => ?_)
    refine lv_iload_n hx hb dX3_workOnHeap_21 rfl (lv_at hl 0 rfl) ?_
    refine lv_if_eq (tgt := 54) hx hb dX3_workOnHeap_22 (by decide) (fun c3 => ?_) (fun c3 => ?_)
    · exact absurd c3 (by decide)
    · refine lv_aload_n hx hb dX3_workOnHeap_25 rfl (lv_at hl 2 rfl) ?_
      refine gf_X3_172 K hG (gv1 hy hk) dX3_workOnHeap_26 ?_
      refine lv_aload_n hx hb dX3_workOnHeap_29 rfl (lv_at hl 1 rfl) ?_
      refine gf_X3_41 K hG (gv0 hy) dX3_workOnHeap_30 ?_
      refine lv_icmp_le (tgt := 54) hx hb dX3_workOnHeap_33 (by decide) (fun c4 => ?_) (fun c4 => ?_)
      · refine lv_aload_n hx hb dX3_workOnHeap_54 rfl (lv_at hl 1 rfl) ?_
        refine lv_aload_n hx hb dX3_workOnHeap_55 rfl (lv_at hl 2 rfl) ?_
        refine g_kv (g_runV (As := [.ref (gA E y 1 k)]) (rest := []) K hml ca_X3_pitch q436 (m_X3_pitch l E J I y k hy hw hk) hG hS (gv0 hy) rfl rfl rfl rfl hl.1 (Nat.le_of_ble_eq_true rfl) ⟨by decide, by decide⟩ dX3_workOnHeap_56 ⟨Nat.zero_le _, Nat.zero_le _⟩) hS (fun H locs hG hS => ?_)
        obtain ⟨I2, hI2⟩ : ∃ z, z = f_X3_pitch I y k := ⟨_, rfl⟩
        rw [← hI2] at hG
        have hw2_y : wf (I2 y) := by rw [hI2]; exact wf_X3_pitch I y k hy hw hk
        have eS : I2 = (f_X3_workOnHeap I y k) := (by simp only [f_X3_workOnHeap, ← hI2, if_pos c1, if_neg c3, if_pos c4])
        rw [eS] at hG
        exact g_vret K hG hS hr hlocks dX3_workOnHeap_59
      · refine lv_aload_n hx hb dX3_workOnHeap_36 rfl (lv_at hl 2 rfl) ?_
        refine gf_X3_108 K hG (gv1 hy hk) dX3_workOnHeap_37 ?_
        refine g_ki (g_runV (As := []) (rest := []) K hml ca_X0_hasRoom q415 (m_X0_hasRoom l E J I y ((I y 1 k 3).toNatClampNeg) hy (hw.cart hk) hw) hG hS (gv2 hy (hw.cart hk)) rfl rfl rfl rfl hl.1 (Nat.le_of_ble_eq_true rfl) ⟨by decide, by decide⟩ dX3_workOnHeap_40 ⟨Nat.zero_le _, Nat.zero_le _⟩) hS (fun H locs hG hS => ?_)
        refine lv_if_eq (tgt := 54) hx hb dX3_workOnHeap_43 (by decide) (fun c5 => ?_) (fun c5 => ?_)
        · refine lv_aload_n hx hb dX3_workOnHeap_54 rfl (lv_at hl 1 rfl) ?_
          refine lv_aload_n hx hb dX3_workOnHeap_55 rfl (lv_at hl 2 rfl) ?_
          refine g_kv (g_runV (As := [.ref (gA E y 1 k)]) (rest := []) K hml ca_X3_pitch q436 (m_X3_pitch l E J I y k hy hw hk) hG hS (gv0 hy) rfl rfl rfl rfl hl.1 (Nat.le_of_ble_eq_true rfl) ⟨by decide, by decide⟩ dX3_workOnHeap_56 ⟨Nat.zero_le _, Nat.zero_le _⟩) hS (fun H locs hG hS => ?_)
          obtain ⟨I3, hI3⟩ : ∃ z, z = f_X3_pitch I y k := ⟨_, rfl⟩
          rw [← hI3] at hG
          have hw3_y : wf (I3 y) := by rw [hI3]; exact wf_X3_pitch I y k hy hw hk
          have eS : I3 = (f_X3_workOnHeap I y k) := (by simp only [f_X3_workOnHeap, ← hI3, if_pos c1, if_neg c3, if_neg c4, if_pos c5])
          rw [eS] at hG
          exact g_vret K hG hS hr hlocks dX3_workOnHeap_59
        · refine lv_aload_n hx hb dX3_workOnHeap_46 rfl (lv_at hl 1 rfl) ?_
          refine lv_aload_n hx hb dX3_workOnHeap_47 rfl (lv_at hl 2 rfl) ?_
          refine g_kv (g_runV (As := [.ref (gA E y 1 k)]) (rest := []) K hml ca_X3_forkHeap q419 (m_X3_forkHeap l E J I y k hy hw hk) hG hS (gv0 hy) rfl rfl rfl rfl hl.1 (Nat.le_of_ble_eq_true rfl) ⟨by decide, by decide⟩ dX3_workOnHeap_48 ⟨Nat.zero_le _, Nat.zero_le _⟩) hS (fun H locs hG hS => ?_)
          obtain ⟨I4, hI4⟩ : ∃ z, z = f_X3_forkHeap I y k := ⟨_, rfl⟩
          rw [← hI4] at hG
          have hw4_y : wf (I4 y) := by rw [hI4]; exact wf_X3_forkHeap I y k hy hw hk
          refine lv_goto (tgt := 59) hx hb dX3_workOnHeap_51 (by decide) ?_
          have eS : I4 = (f_X3_workOnHeap I y k) := (by simp only [f_X3_workOnHeap, ← hI4, if_pos c1, if_neg c3, if_neg c4, if_neg c5])
          rw [eS] at hG
          exact g_vret K hG hS hr hlocks dX3_workOnHeap_59
def f_X3_takeFromYard_l1_v (y : Nat) (k : Nat) : Nat → Nat → gI → Int32
  | 0, i, I =>
    0
  | n + 1, i, I =>
    if (I y 4 i 1) = 0 then
      let I1 := gU I y 4 i 1 1
      let I2 := f_X1_take I1 y k (((nI i) * 32) + 1) (I1 y 4 i 0)
      1
    else
      f_X3_takeFromYard_l1_v y k n (i + 1) I
def f_X3_takeFromYard_l1_s (y : Nat) (k : Nat) : Nat → Nat → gI → gI
  | 0, i, I =>
    I
  | n + 1, i, I =>
    if (I y 4 i 1) = 0 then
      let I1 := gU I y 4 i 1 1
      let I2 := f_X1_take I1 y k (((nI i) * 32) + 1) (I1 y 4 i 0)
      I2
    else
      f_X3_takeFromYard_l1_s y k n (i + 1) I
def f_X3_takeFromYard_v (I : gI) (y : Nat) (k : Nat) : Int32 :=
  f_X3_takeFromYard_l1_v y k ((I y 0 0 5).toNatClampNeg) 0 I
def f_X3_takeFromYard_s (I : gI) (y : Nat) (k : Nat) : gI :=
  f_X3_takeFromYard_l1_s y k ((I y 0 0 5).toNatClampNeg) 0 I
set_option maxRecDepth 100000 in
theorem wf_f_X3_takeFromYard_l1_s (I : gI) (y : Nat) (k : Nat) (hy : y < 2) (hw : wf (I y)) (hk : k < 6) : ∀ (n i : Nat), wf (f_X3_takeFromYard_l1_s y k n i I y) := by
  intro n
  induction n with
  | zero =>
    intro i
    have eS : f_X3_takeFromYard_l1_s y k 0 i I = I := by simp only [f_X3_takeFromYard_l1_s]
    rw [eS]
    exact hw
  | succ n ih =>
    intro i
    by_cases c3 : (I y 4 i 1) = 0
    · obtain ⟨I1, hI1⟩ : ∃ z, z = gU I y 4 i 1 1 := ⟨_, rfl⟩
      have hw1_y : wf (I1 y) := by rw [hI1]; exact wf_gU rfl hw
      obtain ⟨I2, hI2⟩ : ∃ z, z = f_X1_take I1 y k (((nI i) * 32) + 1) (I1 y 4 i 0) := ⟨_, rfl⟩
      have hw2_y : wf (I2 y) := by rw [hI2]; exact wf_X1_take I1 y k (((nI i) * 32) + 1) (I1 y 4 i 0) hy hk hw1_y
      have eS : f_X3_takeFromYard_l1_s y k (n + 1) i I = I2 := by simp only [f_X3_takeFromYard_l1_s, ← hI1, ← hI2, if_pos c3]
      rw [eS]
      exact hw2_y
    · have eS : f_X3_takeFromYard_l1_s y k (n + 1) i I = f_X3_takeFromYard_l1_s y k n (i + 1) I := by simp only [f_X3_takeFromYard_l1_s, if_neg c3]
      rw [eS]
      exact ih (i + 1)
set_option maxRecDepth 100000 in
theorem wf_X3_takeFromYard (I : gI) (y : Nat) (k : Nat) (hy : y < 2) (hw : wf (I y)) (hk : k < 6) : wf (f_X3_takeFromYard_s I y k y) := by
  have eS : f_X3_takeFromYard_s I y k = f_X3_takeFromYard_l1_s y k ((I y 0 0 5).toNatClampNeg) 0 I := by simp only [f_X3_takeFromYard_s]
  rw [eS]
  exact wf_f_X3_takeFromYard_l1_s I y k hy hw hk ((I y 0 0 5).toNatClampNeg) 0
set_option maxRecDepth 100000 in
theorem ne_f_X3_takeFromYard_l1_s (I : gI) (y : Nat) (k : Nat) (hy : y < 2) (hw : wf (I y)) (hk : k < 6) {y' : Nat} (hne : y' ≠ y) : ∀ (n i : Nat), f_X3_takeFromYard_l1_s y k n i I y' = I y' := by
  intro n
  induction n with
  | zero =>
    intro i
    have hn : I y' = I y' := rfl
    have eS : f_X3_takeFromYard_l1_s y k 0 i I = I := by simp only [f_X3_takeFromYard_l1_s]
    exact (congrFun eS y').trans hn
  | succ n ih =>
    intro i
    have hn : I y' = I y' := rfl
    by_cases c3 : (I y 4 i 1) = 0
    · obtain ⟨I1, hI1⟩ : ∃ z, z = gU I y 4 i 1 1 := ⟨_, rfl⟩
      have hw1_y : wf (I1 y) := by rw [hI1]; exact wf_gU rfl hw
      have hn1 : I1 y' = I y' := by rw [hI1]; exact (gU_ne _ _ _ _ _ hne).trans hn
      obtain ⟨I2, hI2⟩ : ∃ z, z = f_X1_take I1 y k (((nI i) * 32) + 1) (I1 y 4 i 0) := ⟨_, rfl⟩
      have hw2_y : wf (I2 y) := by rw [hI2]; exact wf_X1_take I1 y k (((nI i) * 32) + 1) (I1 y 4 i 0) hy hk hw1_y
      have hn2 : I2 y' = I y' := by rw [hI2]; exact (ne_X1_take I1 y k (((nI i) * 32) + 1) (I1 y 4 i 0) hy hk hw1_y (y' := y') hne).trans hn1
      have eS : f_X3_takeFromYard_l1_s y k (n + 1) i I = I2 := by simp only [f_X3_takeFromYard_l1_s, ← hI1, ← hI2, if_pos c3]
      exact (congrFun eS y').trans hn2
    · have eS : f_X3_takeFromYard_l1_s y k (n + 1) i I = f_X3_takeFromYard_l1_s y k n (i + 1) I := by simp only [f_X3_takeFromYard_l1_s, if_neg c3]
      exact (congrFun eS y').trans ((ih (i + 1)).trans hn)
set_option maxRecDepth 100000 in
theorem ne_X3_takeFromYard (I : gI) (y : Nat) (k : Nat) (hy : y < 2) (hw : wf (I y)) (hk : k < 6) {y' : Nat} (hne : y' ≠ y) : f_X3_takeFromYard_s I y k y' = I y' := by
  have hn : I y' = I y' := rfl
  have eS : f_X3_takeFromYard_s I y k = f_X3_takeFromYard_l1_s y k ((I y 0 0 5).toNatClampNeg) 0 I := by simp only [f_X3_takeFromYard_s]
  exact (congrFun eS y').trans ((ne_f_X3_takeFromYard_l1_s I y k hy hw hk hne ((I y 0 0 5).toNatClampNeg) 0).trans hn)
set_option maxRecDepth 100000 in
theorem kn_f_X3_takeFromYard_l1_s (I : gI) (y : Nat) (k : Nat) (hy : y < 2) (hw : wf (I y)) (hk : k < 6) : ∀ (n i : Nat), f_X3_takeFromYard_l1_s y k n i I y 0 0 4 = I y 0 0 4 := by
  intro n
  induction n with
  | zero =>
    intro i
    have hn : I y 0 0 4 = I y 0 0 4 := rfl
    have eS : f_X3_takeFromYard_l1_s y k 0 i I = I := by simp only [f_X3_takeFromYard_l1_s]
    exact (congrFun (congrFun (congrFun (congrFun eS y) 0) 0) 4).trans hn
  | succ n ih =>
    intro i
    have hn : I y 0 0 4 = I y 0 0 4 := rfl
    by_cases c3 : (I y 4 i 1) = 0
    · obtain ⟨I1, hI1⟩ : ∃ z, z = gU I y 4 i 1 1 := ⟨_, rfl⟩
      have hw1_y : wf (I1 y) := by rw [hI1]; exact wf_gU rfl hw
      have hn1 : I1 y 0 0 4 = I y 0 0 4 := by rw [hI1]; exact (kn_gU rfl).trans hn
      obtain ⟨I2, hI2⟩ : ∃ z, z = f_X1_take I1 y k (((nI i) * 32) + 1) (I1 y 4 i 0) := ⟨_, rfl⟩
      have hw2_y : wf (I2 y) := by rw [hI2]; exact wf_X1_take I1 y k (((nI i) * 32) + 1) (I1 y 4 i 0) hy hk hw1_y
      have hn2 : I2 y 0 0 4 = I y 0 0 4 := by rw [hI2]; exact (kn_X1_take I1 y k (((nI i) * 32) + 1) (I1 y 4 i 0) hy hk hw1_y).trans hn1
      have eS : f_X3_takeFromYard_l1_s y k (n + 1) i I = I2 := by simp only [f_X3_takeFromYard_l1_s, ← hI1, ← hI2, if_pos c3]
      exact (congrFun (congrFun (congrFun (congrFun eS y) 0) 0) 4).trans hn2
    · have eS : f_X3_takeFromYard_l1_s y k (n + 1) i I = f_X3_takeFromYard_l1_s y k n (i + 1) I := by simp only [f_X3_takeFromYard_l1_s, if_neg c3]
      exact (congrFun (congrFun (congrFun (congrFun eS y) 0) 0) 4).trans ((ih (i + 1)).trans hn)
set_option maxRecDepth 100000 in
theorem kn_X3_takeFromYard (I : gI) (y : Nat) (k : Nat) (hy : y < 2) (hw : wf (I y)) (hk : k < 6) : f_X3_takeFromYard_s I y k y 0 0 4 = I y 0 0 4 := by
  have hn : I y 0 0 4 = I y 0 0 4 := rfl
  have eS : f_X3_takeFromYard_s I y k = f_X3_takeFromYard_l1_s y k ((I y 0 0 5).toNatClampNeg) 0 I := by simp only [f_X3_takeFromYard_s]
  exact (congrFun (congrFun (congrFun (congrFun eS y) 0) 0) 4).trans ((kn_f_X3_takeFromYard_l1_s I y k hy hw hk ((I y 0 0 5).toNatClampNeg) 0).trans hn)
set_option maxHeartbeats 4000000 in
set_option maxRecDepth 100000 in
theorem m_X3_takeFromYard (l : Launch) (E : gE) (J : Int64) (I : gI) (y : Nat) (k : Nat) (hy : y < 2) (hw : wf (I y)) (hk : k < 6) : gMi l E J yX3_takeFromYard cX3_takeFromYard 3 (some .boolean) 1 22 [.ref (gA E y 0 0), .ref (gA E y 1 k)] I (f_X3_takeFromYard_v I y k) (f_X3_takeFromYard_s I y k) := by
  refine g_entry (lv := [(0, .ref (gA E y 0 0)), (1, .ref (gA E y 1 k))]) (by decide) (Nat.le_of_ble_eq_true rfl) rfl ?_
  intro p e s m below meth c0 ls K hG hS hml hr hlocks hl
  have K : kx E p m c0 cX3_takeFromYard "HayThieves$Yard" _ s := K
  have hx := K.1
  have hb := K.2.1
  have hts := K.2.2.1
  have hown := K.2.2.2.1
  have hSt := K.2.2.2.2
  have hN := hw.N
  have hM := hw.M
  refine lv_iconst (v := 0) hx hb dX3_takeFromYard_0 (by decide) ?_
  refine lv_istore_n (lv' := [(2, .int 0), (0, .ref (gA E y 0 0)), (1, .ref (gA E y 1 k))]) hx hb dX3_takeFromYard_1 rfl hl (by decide) rfl (fun ls hl => ?_)
  have hL_l1 : ∀ (n i : Nat)  (H : Heap) (locs : List Loc) (ls : Array Slot), i + n = (I y 0 0 5).toNatClampNeg → f_X3_takeFromYard_l1_v y k n i I = f_X3_takeFromYard_v I y k → f_X3_takeFromYard_l1_s y k n i I = (f_X3_takeFromYard_s I y k) → GW E J I H → va_S (gF E) s.heap H locs → lv_has ls 3 [(2, .int (nI i)), (0, .ref (gA E y 0 0)), (1, .ref (gA E y 1 k))] → W p l e (grm 1 22) s m ([.ref (gA E y 0 0), .ref (gA E y 1 k)] : List Value).toArray below meth c0 H locs 0 0 (MQ below (va_Qi (fun z9 (_ : Unit) => z9 = f_X3_takeFromYard_v I y k) (fun _ t => GW E J (f_X3_takeFromYard_s I y k) t.heap) (gF E)) ([.ref (gA E y 0 0), .ref (gA E y 1 k)] : List Value).toArray s 0 0 (gF E)) (F0 m 2 ls []) := by
    intro n
    induction n with
    | zero =>
      intro i H locs ls hin hTv hTs hG hS hl
      refine lv_iload_n hx hb dX3_takeFromYard_2 rfl (lv_at hl 0 rfl) ?_
      refine lv_aload_n hx hb dX3_takeFromYard_3 rfl (lv_at hl 1 rfl) ?_
      refine gf_X3_35 K hG (gv0 hy) dX3_takeFromYard_4 ?_
      refine lv_icmp_ge (tgt := 59) hx hb dX3_takeFromYard_7 (by decide) (fun c1 => ?_) (fun c1 => ?_)
      · refine lv_iconst (v := 0) hx hb dX3_takeFromYard_59 (by decide) ?_
        have eS : I = (f_X3_takeFromYard_s I y k) := (by rw [← hTs]; simp only [f_X3_takeFromYard_l1_s, if_pos c1])
        rw [eS] at hG
        exact g_zret K hG hS hr hlocks (gvpZ gz0) (by rw [← hTv]; simp only [f_X3_takeFromYard_l1_v, if_pos c1]) dX3_takeFromYard_60
      · exact absurd (lp_ge hw.Me (by omega) hin) c1
    | succ n ih =>
      intro i H locs ls hin hTv hTs hG hS hl
      refine lv_iload_n hx hb dX3_takeFromYard_2 rfl (lv_at hl 0 rfl) ?_
      refine lv_aload_n hx hb dX3_takeFromYard_3 rfl (lv_at hl 1 rfl) ?_
      refine gf_X3_35 K hG (gv0 hy) dX3_takeFromYard_4 ?_
      refine lv_icmp_ge (tgt := 59) hx hb dX3_takeFromYard_7 (by decide) (fun c2 => ?_) (fun c2 => ?_)
      · exact absurd c2 (lp_nge hw.Me (by omega) hin)
      · refine lv_aload_n hx hb dX3_takeFromYard_10 rfl (lv_at hl 1 rfl) ?_
        refine gf_X3_19 K hG (gv0 hy) dX3_takeFromYard_11 ?_
        refine lv_iload_n hx hb dX3_takeFromYard_14 rfl (lv_at hl 0 rfl) ?_
        refine g_loads K hG (gv8 hy) (vp_in_nI (by omega) (by decide)) dX3_takeFromYard_15 ?_
        rw [nI_clamp (by omega)]
        refine gf_X3_88 K hG (gv4 hy (by omega)) dX3_takeFromYard_16 ?_
        refine lv_if_ne (tgt := 53) hx hb dX3_takeFromYard_19 (by decide) (fun c3 => ?_) (fun c3 => ?_)
        · refine lv_iinc (v := (nI (i + 1))) (lv' := [(2, .int (nI (i + 1))), (0, .ref (gA E y 0 0)), (1, .ref (gA E y 1 k))]) hx hb dX3_takeFromYard_53 hl (k := 0) rfl (nI_add i 1) (by decide) rfl (fun ls hl => ?_)
          refine lv_goto (tgt := 2) hx hb dX3_takeFromYard_56 (by decide) ?_
          exact ih (i + 1) _ _ _ (by omega) (by rw [← hTv]; simp only [f_X3_takeFromYard_l1_v, if_neg c2, if_neg c3]) (by rw [← hTs]; simp only [f_X3_takeFromYard_l1_s, if_neg c2, if_neg c3]) hG hS (lv_sub hl [0, 1, 2] rfl)
        · refine lv_aload_n hx hb dX3_takeFromYard_22 rfl (lv_at hl 1 rfl) ?_
          refine gf_X3_19 K hG (gv0 hy) dX3_takeFromYard_23 ?_
          refine lv_iload_n hx hb dX3_takeFromYard_26 rfl (lv_at hl 0 rfl) ?_
          refine g_loads K hG (gv8 hy) (vp_in_nI (by omega) (by decide)) dX3_takeFromYard_27 ?_
          rw [nI_clamp (by omega)]
          refine lv_iconst (v := 1) hx hb dX3_takeFromYard_28 (by decide) ?_
          refine pf_X3_88 K hG hS (gv4 hy (by omega)) dX3_takeFromYard_29 (fun I1 hI1 H locs hG hS => ?_)
          have hw1_y : wf (I1 y) := by rw [hI1]; exact wf_gU rfl hw
          refine lv_aload_n hx hb dX3_takeFromYard_32 rfl (lv_at hl 2 rfl) ?_
          refine lv_iload_n hx hb dX3_takeFromYard_33 rfl (lv_at hl 0 rfl) ?_
          refine lv_bipush (v := 32) hx hb dX3_takeFromYard_34 (by decide) ?_
          refine lv_imul hx hb dX3_takeFromYard_36 ?_
          refine lv_iconst (v := 1) hx hb dX3_takeFromYard_37 (by decide) ?_
          refine lv_iadd hx hb dX3_takeFromYard_38 ?_
          refine lv_aload_n hx hb dX3_takeFromYard_39 rfl (lv_at hl 1 rfl) ?_
          refine gf_X3_19 K hG (gv0 hy) dX3_takeFromYard_40 ?_
          refine lv_iload_n hx hb dX3_takeFromYard_43 rfl (lv_at hl 0 rfl) ?_
          refine g_loads K hG (gv8 hy) (vp_in_nI (by omega) (by decide)) dX3_takeFromYard_44 ?_
          rw [nI_clamp (by omega)]
          refine gf_X3_57 K hG (gv4 hy (by omega)) dX3_takeFromYard_45 ?_
          refine g_kv (g_runV (As := [.int (((nI i) * 32) + 1), .int (I1 y 4 i 0)]) (rest := []) K hml ca_X1_take q391 (m_X1_take l E J I1 y k (((nI i) * 32) + 1) (I1 y 4 i 0) hy hk hw1_y) hG hS (gv1 hy hk) rfl rfl rfl rfl hl.1 (Nat.le_of_ble_eq_true rfl) ⟨by decide, by decide⟩ dX3_takeFromYard_48 ⟨Nat.zero_le _, Nat.zero_le _⟩) hS (fun H locs hG hS => ?_)
          obtain ⟨I2, hI2⟩ : ∃ z, z = f_X1_take I1 y k (((nI i) * 32) + 1) (I1 y 4 i 0) := ⟨_, rfl⟩
          rw [← hI2] at hG
          have hw2_y : wf (I2 y) := by rw [hI2]; exact wf_X1_take I1 y k (((nI i) * 32) + 1) (I1 y 4 i 0) hy hk hw1_y
          refine lv_iconst (v := 1) hx hb dX3_takeFromYard_51 (by decide) ?_
          have eS : I2 = (f_X3_takeFromYard_s I y k) := (by rw [← hTs]; simp only [f_X3_takeFromYard_l1_s, ← hI1, ← hI2, if_neg c2, if_pos c3])
          rw [eS] at hG
          exact g_zret K hG hS hr hlocks (gvpZ gz1) (by rw [← hTv]; simp only [f_X3_takeFromYard_l1_v, ← hI1, ← hI2, if_neg c2, if_pos c3]) dX3_takeFromYard_52
  exact hL_l1 ((I y 0 0 5).toNatClampNeg) 0 _ _ _ (Nat.zero_add _) (by simp only [f_X3_takeFromYard_v]) (by simp only [f_X3_takeFromYard_s]) hG hS (lv_sub hl [0, 1, 2] rfl)
def f_X3_steal_v (I : gI) (y : Nat) (k : Nat) : Int32 :=
  if (f_X3_victimOf I y k) < 0 then
    0
  else
    if (f_X3_victimOf I y k) < (I y 0 0 4) then
      let I1 := f_X0_takeFar_s I y ((I y 1 (f_X3_victimOf I y k).toNatClampNeg 3).toNatClampNeg)
      let I2 := f_X1_take I1 y k (f_X0_takeFar_v I y ((I y 1 (f_X3_victimOf I y k).toNatClampNeg 3).toNatClampNeg)) (f_X3_balesOf I1 y (f_X0_takeFar_v I y ((I y 1 (f_X3_victimOf I y k).toNatClampNeg 3).toNatClampNeg)))
      let I3 := gU I2 y 1 k 10 ((I2 y 1 k 10) + 1)
      let I4 := gU I3 y 1 ((f_X3_victimOf I y k).toNatClampNeg) 11 ((I3 y 1 ((f_X3_victimOf I y k).toNatClampNeg) 11) + 1)
      let I5 := gU I4 y 4 (f_X3_loadOf I4 y (f_X0_takeFar_v I y ((I y 1 (f_X3_victimOf I y k).toNatClampNeg 3).toNatClampNeg))) 5 ((I4 y 4 (f_X3_loadOf I4 y (f_X0_takeFar_v I y ((I y 1 (f_X3_victimOf I y k).toNatClampNeg 3).toNatClampNeg))) 5) + 1)
      1
    else
      0
def f_X3_steal_s (I : gI) (y : Nat) (k : Nat) : gI :=
  if (f_X3_victimOf I y k) < 0 then
    I
  else
    if (f_X3_victimOf I y k) < (I y 0 0 4) then
      let I1 := f_X0_takeFar_s I y ((I y 1 (f_X3_victimOf I y k).toNatClampNeg 3).toNatClampNeg)
      let I2 := f_X1_take I1 y k (f_X0_takeFar_v I y ((I y 1 (f_X3_victimOf I y k).toNatClampNeg 3).toNatClampNeg)) (f_X3_balesOf I1 y (f_X0_takeFar_v I y ((I y 1 (f_X3_victimOf I y k).toNatClampNeg 3).toNatClampNeg)))
      let I3 := gU I2 y 1 k 10 ((I2 y 1 k 10) + 1)
      let I4 := gU I3 y 1 ((f_X3_victimOf I y k).toNatClampNeg) 11 ((I3 y 1 ((f_X3_victimOf I y k).toNatClampNeg) 11) + 1)
      let I5 := gU I4 y 4 (f_X3_loadOf I4 y (f_X0_takeFar_v I y ((I y 1 (f_X3_victimOf I y k).toNatClampNeg 3).toNatClampNeg))) 5 ((I4 y 4 (f_X3_loadOf I4 y (f_X0_takeFar_v I y ((I y 1 (f_X3_victimOf I y k).toNatClampNeg 3).toNatClampNeg))) 5) + 1)
      I5
    else
      I
set_option maxRecDepth 100000 in
theorem wf_X3_steal (I : gI) (y : Nat) (k : Nat) (hy : y < 2) (hw : wf (I y)) (hk : k < 6) : wf (f_X3_steal_s I y k y) := by
  by_cases c1 : (f_X3_victimOf I y k) < 0
  · have eS : f_X3_steal_s I y k = I := by simp only [f_X3_steal_s, if_pos c1]
    rw [eS]
    exact hw
  · by_cases c2 : (f_X3_victimOf I y k) < (I y 0 0 4)
    · obtain ⟨I1, hI1⟩ : ∃ z, z = f_X0_takeFar_s I y ((I y 1 (f_X3_victimOf I y k).toNatClampNeg 3).toNatClampNeg) := ⟨_, rfl⟩
      have hw1_y : wf (I1 y) := by rw [hI1]; exact wf_X0_takeFar I y ((I y 1 (f_X3_victimOf I y k).toNatClampNeg 3).toNatClampNeg) hy (hw.cart (vp_lt (rg_lt ⟨hw.N, hw.Ne⟩ c1 c2))) hw
      obtain ⟨I2, hI2⟩ : ∃ z, z = f_X1_take I1 y k (f_X0_takeFar_v I y ((I y 1 (f_X3_victimOf I y k).toNatClampNeg 3).toNatClampNeg)) (f_X3_balesOf I1 y (f_X0_takeFar_v I y ((I y 1 (f_X3_victimOf I y k).toNatClampNeg 3).toNatClampNeg))) := ⟨_, rfl⟩
      have hw2_y : wf (I2 y) := by rw [hI2]; exact wf_X1_take I1 y k (f_X0_takeFar_v I y ((I y 1 (f_X3_victimOf I y k).toNatClampNeg 3).toNatClampNeg)) (f_X3_balesOf I1 y (f_X0_takeFar_v I y ((I y 1 (f_X3_victimOf I y k).toNatClampNeg 3).toNatClampNeg))) hy hk hw1_y
      obtain ⟨I3, hI3⟩ : ∃ z, z = gU I2 y 1 k 10 ((I2 y 1 k 10) + 1) := ⟨_, rfl⟩
      have hw3_y : wf (I3 y) := by rw [hI3]; exact wf_gU rfl hw2_y
      obtain ⟨I4, hI4⟩ : ∃ z, z = gU I3 y 1 ((f_X3_victimOf I y k).toNatClampNeg) 11 ((I3 y 1 ((f_X3_victimOf I y k).toNatClampNeg) 11) + 1) := ⟨_, rfl⟩
      have hw4_y : wf (I4 y) := by rw [hI4]; exact wf_gU rfl hw3_y
      obtain ⟨I5, hI5⟩ : ∃ z, z = gU I4 y 4 (f_X3_loadOf I4 y (f_X0_takeFar_v I y ((I y 1 (f_X3_victimOf I y k).toNatClampNeg 3).toNatClampNeg))) 5 ((I4 y 4 (f_X3_loadOf I4 y (f_X0_takeFar_v I y ((I y 1 (f_X3_victimOf I y k).toNatClampNeg 3).toNatClampNeg))) 5) + 1) := ⟨_, rfl⟩
      have hw5_y : wf (I5 y) := by rw [hI5]; exact wf_gU rfl hw4_y
      have eS : f_X3_steal_s I y k = I5 := by simp only [f_X3_steal_s, ← hI1, ← hI2, ← hI3, ← hI4, ← hI5, if_neg c1, if_pos c2]
      rw [eS]
      exact hw5_y
    · have eS : f_X3_steal_s I y k = I := by simp only [f_X3_steal_s, if_neg c1, if_neg c2]
      rw [eS]
      exact hw
set_option maxRecDepth 100000 in
theorem ne_X3_steal (I : gI) (y : Nat) (k : Nat) (hy : y < 2) (hw : wf (I y)) (hk : k < 6) {y' : Nat} (hne : y' ≠ y) : f_X3_steal_s I y k y' = I y' := by
  have hn : I y' = I y' := rfl
  by_cases c1 : (f_X3_victimOf I y k) < 0
  · have eS : f_X3_steal_s I y k = I := by simp only [f_X3_steal_s, if_pos c1]
    exact (congrFun eS y').trans hn
  · by_cases c2 : (f_X3_victimOf I y k) < (I y 0 0 4)
    · obtain ⟨I1, hI1⟩ : ∃ z, z = f_X0_takeFar_s I y ((I y 1 (f_X3_victimOf I y k).toNatClampNeg 3).toNatClampNeg) := ⟨_, rfl⟩
      have hw1_y : wf (I1 y) := by rw [hI1]; exact wf_X0_takeFar I y ((I y 1 (f_X3_victimOf I y k).toNatClampNeg 3).toNatClampNeg) hy (hw.cart (vp_lt (rg_lt ⟨hw.N, hw.Ne⟩ c1 c2))) hw
      have hn1 : I1 y' = I y' := by rw [hI1]; exact (ne_X0_takeFar I y ((I y 1 (f_X3_victimOf I y k).toNatClampNeg 3).toNatClampNeg) hy (hw.cart (vp_lt (rg_lt ⟨hw.N, hw.Ne⟩ c1 c2))) hw (y' := y') hne).trans hn
      obtain ⟨I2, hI2⟩ : ∃ z, z = f_X1_take I1 y k (f_X0_takeFar_v I y ((I y 1 (f_X3_victimOf I y k).toNatClampNeg 3).toNatClampNeg)) (f_X3_balesOf I1 y (f_X0_takeFar_v I y ((I y 1 (f_X3_victimOf I y k).toNatClampNeg 3).toNatClampNeg))) := ⟨_, rfl⟩
      have hw2_y : wf (I2 y) := by rw [hI2]; exact wf_X1_take I1 y k (f_X0_takeFar_v I y ((I y 1 (f_X3_victimOf I y k).toNatClampNeg 3).toNatClampNeg)) (f_X3_balesOf I1 y (f_X0_takeFar_v I y ((I y 1 (f_X3_victimOf I y k).toNatClampNeg 3).toNatClampNeg))) hy hk hw1_y
      have hn2 : I2 y' = I y' := by rw [hI2]; exact (ne_X1_take I1 y k (f_X0_takeFar_v I y ((I y 1 (f_X3_victimOf I y k).toNatClampNeg 3).toNatClampNeg)) (f_X3_balesOf I1 y (f_X0_takeFar_v I y ((I y 1 (f_X3_victimOf I y k).toNatClampNeg 3).toNatClampNeg))) hy hk hw1_y (y' := y') hne).trans hn1
      obtain ⟨I3, hI3⟩ : ∃ z, z = gU I2 y 1 k 10 ((I2 y 1 k 10) + 1) := ⟨_, rfl⟩
      have hw3_y : wf (I3 y) := by rw [hI3]; exact wf_gU rfl hw2_y
      have hn3 : I3 y' = I y' := by rw [hI3]; exact (gU_ne _ _ _ _ _ hne).trans hn2
      obtain ⟨I4, hI4⟩ : ∃ z, z = gU I3 y 1 ((f_X3_victimOf I y k).toNatClampNeg) 11 ((I3 y 1 ((f_X3_victimOf I y k).toNatClampNeg) 11) + 1) := ⟨_, rfl⟩
      have hw4_y : wf (I4 y) := by rw [hI4]; exact wf_gU rfl hw3_y
      have hn4 : I4 y' = I y' := by rw [hI4]; exact (gU_ne _ _ _ _ _ hne).trans hn3
      obtain ⟨I5, hI5⟩ : ∃ z, z = gU I4 y 4 (f_X3_loadOf I4 y (f_X0_takeFar_v I y ((I y 1 (f_X3_victimOf I y k).toNatClampNeg 3).toNatClampNeg))) 5 ((I4 y 4 (f_X3_loadOf I4 y (f_X0_takeFar_v I y ((I y 1 (f_X3_victimOf I y k).toNatClampNeg 3).toNatClampNeg))) 5) + 1) := ⟨_, rfl⟩
      have hw5_y : wf (I5 y) := by rw [hI5]; exact wf_gU rfl hw4_y
      have hn5 : I5 y' = I y' := by rw [hI5]; exact (gU_ne _ _ _ _ _ hne).trans hn4
      have eS : f_X3_steal_s I y k = I5 := by simp only [f_X3_steal_s, ← hI1, ← hI2, ← hI3, ← hI4, ← hI5, if_neg c1, if_pos c2]
      exact (congrFun eS y').trans hn5
    · have eS : f_X3_steal_s I y k = I := by simp only [f_X3_steal_s, if_neg c1, if_neg c2]
      exact (congrFun eS y').trans hn
set_option maxRecDepth 100000 in
theorem kn_X3_steal (I : gI) (y : Nat) (k : Nat) (hy : y < 2) (hw : wf (I y)) (hk : k < 6) : f_X3_steal_s I y k y 0 0 4 = I y 0 0 4 := by
  have hn : I y 0 0 4 = I y 0 0 4 := rfl
  by_cases c1 : (f_X3_victimOf I y k) < 0
  · have eS : f_X3_steal_s I y k = I := by simp only [f_X3_steal_s, if_pos c1]
    exact (congrFun (congrFun (congrFun (congrFun eS y) 0) 0) 4).trans hn
  · by_cases c2 : (f_X3_victimOf I y k) < (I y 0 0 4)
    · obtain ⟨I1, hI1⟩ : ∃ z, z = f_X0_takeFar_s I y ((I y 1 (f_X3_victimOf I y k).toNatClampNeg 3).toNatClampNeg) := ⟨_, rfl⟩
      have hw1_y : wf (I1 y) := by rw [hI1]; exact wf_X0_takeFar I y ((I y 1 (f_X3_victimOf I y k).toNatClampNeg 3).toNatClampNeg) hy (hw.cart (vp_lt (rg_lt ⟨hw.N, hw.Ne⟩ c1 c2))) hw
      have hn1 : I1 y 0 0 4 = I y 0 0 4 := by rw [hI1]; exact (kn_X0_takeFar I y ((I y 1 (f_X3_victimOf I y k).toNatClampNeg 3).toNatClampNeg) hy (hw.cart (vp_lt (rg_lt ⟨hw.N, hw.Ne⟩ c1 c2))) hw).trans hn
      obtain ⟨I2, hI2⟩ : ∃ z, z = f_X1_take I1 y k (f_X0_takeFar_v I y ((I y 1 (f_X3_victimOf I y k).toNatClampNeg 3).toNatClampNeg)) (f_X3_balesOf I1 y (f_X0_takeFar_v I y ((I y 1 (f_X3_victimOf I y k).toNatClampNeg 3).toNatClampNeg))) := ⟨_, rfl⟩
      have hw2_y : wf (I2 y) := by rw [hI2]; exact wf_X1_take I1 y k (f_X0_takeFar_v I y ((I y 1 (f_X3_victimOf I y k).toNatClampNeg 3).toNatClampNeg)) (f_X3_balesOf I1 y (f_X0_takeFar_v I y ((I y 1 (f_X3_victimOf I y k).toNatClampNeg 3).toNatClampNeg))) hy hk hw1_y
      have hn2 : I2 y 0 0 4 = I y 0 0 4 := by rw [hI2]; exact (kn_X1_take I1 y k (f_X0_takeFar_v I y ((I y 1 (f_X3_victimOf I y k).toNatClampNeg 3).toNatClampNeg)) (f_X3_balesOf I1 y (f_X0_takeFar_v I y ((I y 1 (f_X3_victimOf I y k).toNatClampNeg 3).toNatClampNeg))) hy hk hw1_y).trans hn1
      obtain ⟨I3, hI3⟩ : ∃ z, z = gU I2 y 1 k 10 ((I2 y 1 k 10) + 1) := ⟨_, rfl⟩
      have hw3_y : wf (I3 y) := by rw [hI3]; exact wf_gU rfl hw2_y
      have hn3 : I3 y 0 0 4 = I y 0 0 4 := by rw [hI3]; exact (kn_gU rfl).trans hn2
      obtain ⟨I4, hI4⟩ : ∃ z, z = gU I3 y 1 ((f_X3_victimOf I y k).toNatClampNeg) 11 ((I3 y 1 ((f_X3_victimOf I y k).toNatClampNeg) 11) + 1) := ⟨_, rfl⟩
      have hw4_y : wf (I4 y) := by rw [hI4]; exact wf_gU rfl hw3_y
      have hn4 : I4 y 0 0 4 = I y 0 0 4 := by rw [hI4]; exact (kn_gU rfl).trans hn3
      obtain ⟨I5, hI5⟩ : ∃ z, z = gU I4 y 4 (f_X3_loadOf I4 y (f_X0_takeFar_v I y ((I y 1 (f_X3_victimOf I y k).toNatClampNeg 3).toNatClampNeg))) 5 ((I4 y 4 (f_X3_loadOf I4 y (f_X0_takeFar_v I y ((I y 1 (f_X3_victimOf I y k).toNatClampNeg 3).toNatClampNeg))) 5) + 1) := ⟨_, rfl⟩
      have hw5_y : wf (I5 y) := by rw [hI5]; exact wf_gU rfl hw4_y
      have hn5 : I5 y 0 0 4 = I y 0 0 4 := by rw [hI5]; exact (kn_gU rfl).trans hn4
      have eS : f_X3_steal_s I y k = I5 := by simp only [f_X3_steal_s, ← hI1, ← hI2, ← hI3, ← hI4, ← hI5, if_neg c1, if_pos c2]
      exact (congrFun (congrFun (congrFun (congrFun eS y) 0) 0) 4).trans hn5
    · have eS : f_X3_steal_s I y k = I := by simp only [f_X3_steal_s, if_neg c1, if_neg c2]
      exact (congrFun (congrFun (congrFun (congrFun eS y) 0) 0) 4).trans hn
set_option maxHeartbeats 4000000 in
set_option maxRecDepth 100000 in
theorem m_X3_steal (l : Launch) (E : gE) (J : Int64) (I : gI) (y : Nat) (k : Nat) (hy : y < 2) (hw : wf (I y)) (hk : k < 6) : gMi l E J yX3_steal cX3_steal 4 (some .boolean) 3 68 [.ref (gA E y 0 0), .ref (gA E y 1 k)] I (f_X3_steal_v I y k) (f_X3_steal_s I y k) := by
  refine g_entry (lv := [(0, .ref (gA E y 0 0)), (1, .ref (gA E y 1 k))]) (by decide) (Nat.le_of_ble_eq_true rfl) rfl ?_
  intro p e s m below meth c0 ls K hG hS hml hr hlocks hl
  have K : kx E p m c0 cX3_steal "HayThieves$Yard" _ s := K
  have hx := K.1
  have hb := K.2.1
  have hts := K.2.2.1
  have hown := K.2.2.2.1
  have hSt := K.2.2.2.2
  have hN := hw.N
  have hM := hw.M
  refine lv_aload_n hx hb dX3_steal_0 rfl (lv_at hl 0 rfl) ?_
  refine lv_aload_n hx hb dX3_steal_1 rfl (lv_at hl 1 rfl) ?_
  refine g_ki (g_runV (As := [.ref (gA E y 1 k)]) (rest := []) K hml ca_X3_victimOf q448 (m_X3_victimOf l E J I y k hy hw hk) hG hS (gv0 hy) rfl rfl rfl rfl hl.1 (Nat.le_of_ble_eq_true rfl) ⟨by decide, by decide⟩ dX3_steal_2 ⟨Nat.zero_le _, Nat.zero_le _⟩) hS (fun H locs hG hS => ?_)
  refine lv_istore_n (lv' := [(2, .int (f_X3_victimOf I y k)), (0, .ref (gA E y 0 0)), (1, .ref (gA E y 1 k))]) hx hb dX3_steal_5 rfl hl (by decide) rfl (fun ls hl => ?_)
  refine lv_iload_n hx hb dX3_steal_6 rfl (lv_at hl 0 rfl) ?_
  refine lv_if_lt (tgt := 18) hx hb dX3_steal_7 (by decide) (fun c1 => ?_) (fun c1 => ?_)
  · refine lv_iconst (v := 0) hx hb dX3_steal_18 (by decide) ?_
    have eS : I = (f_X3_steal_s I y k) := (by simp only [f_X3_steal_s, if_pos c1])
    rw [eS] at hG
    exact g_zret K hG hS hr hlocks (gvpZ gz0) (by simp only [f_X3_steal_v, if_pos c1]) dX3_steal_19
  · refine lv_iload_n hx hb dX3_steal_10 rfl (lv_at hl 0 rfl) ?_
    refine lv_aload_n hx hb dX3_steal_11 rfl (lv_at hl 1 rfl) ?_
    refine gf_X3_31 K hG (gv0 hy) dX3_steal_12 ?_
    refine lv_icmp_lt (tgt := 20) hx hb dX3_steal_15 (by decide) (fun c2 => ?_) (fun c2 => ?_)
    · refine lv_aload_n hx hb dX3_steal_20 rfl (lv_at hl 1 rfl) ?_
      refine gf_X3_11 K hG (gv0 hy) dX3_steal_21 ?_
      refine lv_iload_n hx hb dX3_steal_24 rfl (lv_at hl 0 rfl) ?_
      refine g_lads K hG (gv7 hy) (rg_lt ⟨hw.N, hw.Ne⟩ c1 c2) dX3_steal_25 ?_
      refine gf_X3_108 K hG (gv1 hy (vp_lt (rg_lt ⟨hw.N, hw.Ne⟩ c1 c2))) dX3_steal_26 ?_
      refine g_ki (g_runV (As := []) (rest := []) K hml ca_X0_takeFar q449 (m_X0_takeFar l E J I y ((I y 1 (f_X3_victimOf I y k).toNatClampNeg 3).toNatClampNeg) hy (hw.cart (vp_lt (rg_lt ⟨hw.N, hw.Ne⟩ c1 c2))) hw) hG hS (gv2 hy (hw.cart (vp_lt (rg_lt ⟨hw.N, hw.Ne⟩ c1 c2)))) rfl rfl rfl rfl hl.1 (Nat.le_of_ble_eq_true rfl) ⟨by decide, by decide⟩ dX3_steal_29 ⟨Nat.zero_le _, Nat.zero_le _⟩) hS (fun H locs hG hS => ?_)
      obtain ⟨I1, hI1⟩ : ∃ z, z = f_X0_takeFar_s I y ((I y 1 (f_X3_victimOf I y k).toNatClampNeg 3).toNatClampNeg) := ⟨_, rfl⟩
      rw [← hI1] at hG
      have hw1_y : wf (I1 y) := by rw [hI1]; exact wf_X0_takeFar I y ((I y 1 (f_X3_victimOf I y k).toNatClampNeg 3).toNatClampNeg) hy (hw.cart (vp_lt (rg_lt ⟨hw.N, hw.Ne⟩ c1 c2))) hw
      refine lv_istore_n (lv' := [(3, .int (f_X0_takeFar_v I y ((I y 1 (f_X3_victimOf I y k).toNatClampNeg 3).toNatClampNeg))), (2, .int (f_X3_victimOf I y k)), (0, .ref (gA E y 0 0)), (1, .ref (gA E y 1 k))]) hx hb dX3_steal_32 rfl hl (by decide) rfl (fun ls hl => ?_)
      refine lv_aload_n hx hb dX3_steal_33 rfl (lv_at hl 3 rfl) ?_
      refine lv_iload_n hx hb dX3_steal_34 rfl (lv_at hl 0 rfl) ?_
      refine lv_aload_n hx hb dX3_steal_35 rfl (lv_at hl 2 rfl) ?_
      refine lv_iload_n hx hb dX3_steal_36 rfl (lv_at hl 0 rfl) ?_
      refine g_ki (g_runV (As := [.int (f_X0_takeFar_v I y ((I y 1 (f_X3_victimOf I y k).toNatClampNeg 3).toNatClampNeg))]) (rest := [.int (f_X0_takeFar_v I y ((I y 1 (f_X3_victimOf I y k).toNatClampNeg 3).toNatClampNeg)), .ref (gA E y 1 k)]) K hml ca_X3_balesOf q340 (m_X3_balesOf l E J I1 y (f_X0_takeFar_v I y ((I y 1 (f_X3_victimOf I y k).toNatClampNeg 3).toNatClampNeg)) hy hw1_y) hG hS (gv0 hy) rfl rfl rfl rfl hl.1 (Nat.le_of_ble_eq_true rfl) ⟨by decide, by decide⟩ dX3_steal_37 ⟨Nat.zero_le _, Nat.zero_le _⟩) hS (fun H locs hG hS => ?_)
      refine g_kv (g_runV (As := [.int (f_X0_takeFar_v I y ((I y 1 (f_X3_victimOf I y k).toNatClampNeg 3).toNatClampNeg)), .int (f_X3_balesOf I1 y (f_X0_takeFar_v I y ((I y 1 (f_X3_victimOf I y k).toNatClampNeg 3).toNatClampNeg)))]) (rest := []) K hml ca_X1_take q391 (m_X1_take l E J I1 y k (f_X0_takeFar_v I y ((I y 1 (f_X3_victimOf I y k).toNatClampNeg 3).toNatClampNeg)) (f_X3_balesOf I1 y (f_X0_takeFar_v I y ((I y 1 (f_X3_victimOf I y k).toNatClampNeg 3).toNatClampNeg))) hy hk hw1_y) hG hS (gv1 hy hk) rfl rfl rfl rfl hl.1 (Nat.le_of_ble_eq_true rfl) ⟨by decide, by decide⟩ dX3_steal_40 ⟨Nat.zero_le _, Nat.zero_le _⟩) hS (fun H locs hG hS => ?_)
      obtain ⟨I2, hI2⟩ : ∃ z, z = f_X1_take I1 y k (f_X0_takeFar_v I y ((I y 1 (f_X3_victimOf I y k).toNatClampNeg 3).toNatClampNeg)) (f_X3_balesOf I1 y (f_X0_takeFar_v I y ((I y 1 (f_X3_victimOf I y k).toNatClampNeg 3).toNatClampNeg))) := ⟨_, rfl⟩
      rw [← hI2] at hG
      have hw2_y : wf (I2 y) := by rw [hI2]; exact wf_X1_take I1 y k (f_X0_takeFar_v I y ((I y 1 (f_X3_victimOf I y k).toNatClampNeg 3).toNatClampNeg)) (f_X3_balesOf I1 y (f_X0_takeFar_v I y ((I y 1 (f_X3_victimOf I y k).toNatClampNeg 3).toNatClampNeg))) hy hk hw1_y
      refine lv_aload_n hx hb dX3_steal_43 rfl (lv_at hl 3 rfl) ?_
      refine lv_dup hx hb dX3_steal_44 rfl ?_
      refine gf_X3_213 K hG (gv1 hy hk) dX3_steal_45 ?_
      refine lv_iconst (v := 1) hx hb dX3_steal_48 (by decide) ?_
      refine lv_iadd hx hb dX3_steal_49 ?_
      refine pf_X3_213 K hG hS (gv1 hy hk) dX3_steal_50 (fun I3 hI3 H locs hG hS => ?_)
      have hw3_y : wf (I3 y) := by rw [hI3]; exact wf_gU rfl hw2_y
      refine lv_aload_n hx hb dX3_steal_53 rfl (lv_at hl 2 rfl) ?_
      refine gf_X3_11 K hG (gv0 hy) dX3_steal_54 ?_
      refine lv_iload_n hx hb dX3_steal_57 rfl (lv_at hl 1 rfl) ?_
      refine g_lads K hG (gv7 hy) (rg_lt ⟨hw.N, hw.Ne⟩ c1 c2) dX3_steal_58 ?_
      refine lv_dup hx hb dX3_steal_59 rfl ?_
      refine gf_X3_216 K hG (gv1 hy (vp_lt (rg_lt ⟨hw.N, hw.Ne⟩ c1 c2))) dX3_steal_60 ?_
      refine lv_iconst (v := 1) hx hb dX3_steal_63 (by decide) ?_
      refine lv_iadd hx hb dX3_steal_64 ?_
      refine pf_X3_216 K hG hS (gv1 hy (vp_lt (rg_lt ⟨hw.N, hw.Ne⟩ c1 c2))) dX3_steal_65 (fun I4 hI4 H locs hG hS => ?_)
      have hw4_y : wf (I4 y) := by rw [hI4]; exact wf_gU rfl hw3_y
      refine lv_aload_n hx hb dX3_steal_68 rfl (lv_at hl 2 rfl) ?_
      refine lv_iload_n hx hb dX3_steal_69 rfl (lv_at hl 0 rfl) ?_
      refine g_kr (g_runV (As := [.int (f_X0_takeFar_v I y ((I y 1 (f_X3_victimOf I y k).toNatClampNeg 3).toNatClampNeg))]) (rest := []) K hml ca_X3_loadOf q403 (m_X3_loadOf l E J I4 y (f_X0_takeFar_v I y ((I y 1 (f_X3_victimOf I y k).toNatClampNeg 3).toNatClampNeg)) hy hw4_y) hG hS (gv0 hy) rfl rfl rfl rfl hl.1 (Nat.le_of_ble_eq_true rfl) ⟨by decide, by decide⟩ dX3_steal_70 ⟨Nat.zero_le _, Nat.zero_le _⟩) hS (fun H locs hG hS => ?_)
      refine lv_dup hx hb dX3_steal_73 rfl ?_
      refine gf_X3_219 K hG (gv4 hy (rg_loadOf _ _ _)) dX3_steal_74 ?_
      refine lv_iconst (v := 1) hx hb dX3_steal_77 (by decide) ?_
      refine lv_iadd hx hb dX3_steal_78 ?_
      refine pf_X3_219 K hG hS (gv4 hy (rg_loadOf _ _ _)) dX3_steal_79 (fun I5 hI5 H locs hG hS => ?_)
      have hw5_y : wf (I5 y) := by rw [hI5]; exact wf_gU rfl hw4_y
      refine lv_iconst (v := 1) hx hb dX3_steal_82 (by decide) ?_
      have eS : I5 = (f_X3_steal_s I y k) := (by simp only [f_X3_steal_s, ← hI1, ← hI2, ← hI3, ← hI4, ← hI5, if_neg c1, if_pos c2])
      rw [eS] at hG
      exact g_zret K hG hS hr hlocks (gvpZ gz1) (by simp only [f_X3_steal_v, ← hI1, ← hI2, ← hI3, ← hI4, ← hI5, if_neg c1, if_pos c2]) dX3_steal_83
    · refine lv_iconst (v := 0) hx hb dX3_steal_18 (by decide) ?_
      have eS : I = (f_X3_steal_s I y k) := (by simp only [f_X3_steal_s, if_neg c1, if_neg c2])
      rw [eS] at hG
      exact g_zret K hG hS hr hlocks (gvpZ gz0) (by simp only [f_X3_steal_v, if_neg c1, if_neg c2]) dX3_steal_19
