/-! PRINTED by wip/gen (cls.py): X4b -/
def f_X4_thief_l1  : Nat → Nat → Int32 → Int32 → gI → Int32
  | 0, i, a, b, I =>
    a
  | n + 1, i, a, b, I =>
    if (I 0 1 i 10) ≤ b then
      f_X4_thief_l1 n (i + 1) a b I
    else
      f_X4_thief_l1 n (i + 1) (nI i) (I 0 1 i 10) I
def f_X4_thief (I : gI)  : Int32 :=
  f_X4_thief_l1 ((I 0 0 0 4).toNatClampNeg) 0 (-1) (-1) I
set_option maxHeartbeats 4000000 in
set_option maxRecDepth 100000 in
theorem m_X4_thief (l : Launch) (E : gE) (J : Int64) (I : gI) (hw0 : wf (I 0)) : gMi l E J yX4_thief cX4_thief 4 (some .int) 0 0 [.ref (gA E 2 10 0)] I (f_X4_thief I) I := by
  refine g_entry (lv := [(0, .ref (gA E 2 10 0))]) (by decide) (Nat.le_of_ble_eq_true rfl) rfl ?_
  intro p e s m below meth c0 ls K hG hS hml hr hlocks hl
  have K : kx E p m c0 cX4_thief "HayThieves" _ s := K
  have hx := K.1
  have hb := K.2.1
  have hts := K.2.2.1
  have hown := K.2.2.2.1
  have hSt := K.2.2.2.2
  have hN := hw0.N
  have hM := hw0.M
  refine lv_iconst (v := (-1)) hx hb dX4_thief_0 (by decide) ?_
  refine lv_istore_n (lv' := [(1, .int (-1)), (0, .ref (gA E 2 10 0))]) hx hb dX4_thief_1 rfl hl (by decide) rfl (fun ls hl => ?_)
  refine lv_iconst (v := (-1)) hx hb dX4_thief_2 (by decide) ?_
  refine lv_istore_n (lv' := [(2, .int (-1)), (1, .int (-1)), (0, .ref (gA E 2 10 0))]) hx hb dX4_thief_3 rfl hl (by decide) rfl (fun ls hl => ?_)
  refine lv_iconst (v := 0) hx hb dX4_thief_4 (by decide) ?_
  refine lv_istore_n (lv' := [(3, .int 0), (2, .int (-1)), (1, .int (-1)), (0, .ref (gA E 2 10 0))]) hx hb dX4_thief_5 rfl hl (by decide) rfl (fun ls hl => ?_)
  have hL_l1 : ∀ (n i : Nat) (a : Int32) (b : Int32) (H : Heap) (locs : List Loc) (ls : Array Slot), i + n = (I 0 0 0 4).toNatClampNeg → f_X4_thief_l1 n i a b I = f_X4_thief I → GW E J I H → va_S (gF E) s.heap H locs → lv_has ls 4 [(3, .int (nI i)), (1, .int a), (2, .int b), (0, .ref (gA E 2 10 0))] → W p l e (grm 0 0) s m ([.ref (gA E 2 10 0)] : List Value).toArray below meth c0 H locs 0 0 (MQ below (va_Qi (fun z9 (_ : Unit) => z9 = f_X4_thief I) (fun _ t => GW E J I t.heap) (gF E)) ([.ref (gA E 2 10 0)] : List Value).toArray s 0 0 (gF E)) (F0 m 6 ls []) := by
    intro n
    induction n with
    | zero =>
      intro i a b H locs ls hin hTv hG hS hl
      refine lv_iload_n hx hb dX4_thief_6 rfl (lv_at hl 0 rfl) ?_
      refine lv_aload_n hx hb dX4_thief_7 rfl (lv_at hl 3 rfl) ?_
      refine gf_X4_12 K hG rfl dX4_thief_8 ?_
      refine gf_X4_26 K hG (gv0 (by decide)) dX4_thief_11 ?_
      refine lv_icmp_ge (tgt := 54) hx hb dX4_thief_14 (by decide) (fun c1 => ?_) (fun c1 => ?_)
      · refine lv_iload_n hx hb dX4_thief_54 rfl (lv_at hl 1 rfl) ?_
        exact g_iret K hG hS hr hlocks (by rw [← hTv]; simp only [f_X4_thief_l1, if_pos c1]) dX4_thief_55
      · exact absurd (lp_ge hw0.Ne (by omega) hin) c1
    | succ n ih =>
      intro i a b H locs ls hin hTv hG hS hl
      refine lv_iload_n hx hb dX4_thief_6 rfl (lv_at hl 0 rfl) ?_
      refine lv_aload_n hx hb dX4_thief_7 rfl (lv_at hl 3 rfl) ?_
      refine gf_X4_12 K hG rfl dX4_thief_8 ?_
      refine gf_X4_26 K hG (gv0 (by decide)) dX4_thief_11 ?_
      refine lv_icmp_ge (tgt := 54) hx hb dX4_thief_14 (by decide) (fun c2 => ?_) (fun c2 => ?_)
      · exact absurd c2 (lp_nge hw0.Ne (by omega) hin)
      · refine lv_aload_n hx hb dX4_thief_17 rfl (lv_at hl 3 rfl) ?_
        refine gf_X4_12 K hG rfl dX4_thief_18 ?_
        refine gf_X4_48 K hG (gv0 (by decide)) dX4_thief_21 ?_
        refine lv_iload_n hx hb dX4_thief_24 rfl (lv_at hl 0 rfl) ?_
        refine g_lads K hG (gv7 (by decide)) (vp_in_nI (by omega) (by decide)) dX4_thief_25 ?_
        rw [nI_clamp (by omega)]
        refine gf_X4_125 K hG (gv1 (by decide) (by omega)) dX4_thief_26 ?_
        refine lv_iload_n hx hb dX4_thief_29 rfl (lv_at hl 2 rfl) ?_
        refine lv_icmp_le (tgt := 48) hx hb dX4_thief_30 (by decide) (fun c3 => ?_) (fun c3 => ?_)
        · refine lv_iinc (v := (nI (i + 1))) (lv' := [(3, .int (nI (i + 1))), (1, .int a), (2, .int b), (0, .ref (gA E 2 10 0))]) hx hb dX4_thief_48 hl (k := 0) rfl (nI_add i 1) (by decide) rfl (fun ls hl => ?_)
          refine lv_goto (tgt := 6) hx hb dX4_thief_51 (by decide) ?_
          exact ih (i + 1) a b _ _ _ (by omega) (by rw [← hTv]; simp only [f_X4_thief_l1, if_neg c2, if_pos c3]) hG hS (lv_sub hl [0, 1, 2, 3] rfl)
        · refine lv_aload_n hx hb dX4_thief_33 rfl (lv_at hl 3 rfl) ?_
          refine gf_X4_12 K hG rfl dX4_thief_34 ?_
          refine gf_X4_48 K hG (gv0 (by decide)) dX4_thief_37 ?_
          refine lv_iload_n hx hb dX4_thief_40 rfl (lv_at hl 0 rfl) ?_
          refine g_lads K hG (gv7 (by decide)) (vp_in_nI (by omega) (by decide)) dX4_thief_41 ?_
          rw [nI_clamp (by omega)]
          refine gf_X4_125 K hG (gv1 (by decide) (by omega)) dX4_thief_42 ?_
          refine lv_istore_n (lv' := [(2, .int (I 0 1 i 10)), (3, .int (nI i)), (1, .int a), (0, .ref (gA E 2 10 0))]) hx hb dX4_thief_45 rfl hl (by decide) rfl (fun ls hl => ?_)
          refine lv_iload_n hx hb dX4_thief_46 rfl (lv_at hl 1 rfl) ?_
          refine lv_istore_n (lv' := [(1, .int (nI i)), (2, .int (I 0 1 i 10)), (3, .int (nI i)), (0, .ref (gA E 2 10 0))]) hx hb dX4_thief_47 rfl hl (by decide) rfl (fun ls hl => ?_)
          refine lv_iinc (v := (nI (i + 1))) (lv' := [(3, .int (nI (i + 1))), (1, .int (nI i)), (2, .int (I 0 1 i 10)), (0, .ref (gA E 2 10 0))]) hx hb dX4_thief_48 hl (k := 2) rfl (nI_add i 1) (by decide) rfl (fun ls hl => ?_)
          refine lv_goto (tgt := 6) hx hb dX4_thief_51 (by decide) ?_
          exact ih (i + 1) (nI i) (I 0 1 i 10) _ _ _ (by omega) (by rw [← hTv]; simp only [f_X4_thief_l1, if_neg c2, if_neg c3]) hG hS (lv_sub hl [0, 1, 2, 3] rfl)
  exact hL_l1 ((I 0 0 0 4).toNatClampNeg) 0 (-1) (-1) _ _ _ (Nat.zero_add _) (by simp only [f_X4_thief]) hG hS (lv_sub hl [0, 2, 1, 3] rfl)
def f_X4_mixed (I : gI) (d : Int64) (x : Int32) : Int64 :=
  ((d * 31) + x.toInt64)
set_option maxHeartbeats 4000000 in
set_option maxRecDepth 100000 in
theorem m_X4_mixed (l : Launch) (E : gE) (J : Int64) (I : gI) (d : Int64) (x : Int32) : gMl l E J yX4_mixed cX4_mixed 3 (some .long) 0 0 [.long d, .int x] I (f_X4_mixed I d x) I := by
  refine g_entry (lv := [(0, .long d), (2, .int x)]) (by decide) (Nat.le_of_ble_eq_true rfl) rfl ?_
  intro p e s m below meth c0 ls K hG hS hml hr hlocks hl
  have K : kx E p m c0 cX4_mixed "HayThieves" _ s := K
  have hx := K.1
  have hb := K.2.1
  have hts := K.2.2.1
  have hown := K.2.2.2.1
  have hSt := K.2.2.2.2
  refine lv_lload_n hx hb dX4_mixed_0 rfl (lv_at hl 0 rfl) ?_
  refine lv_ldc2 (own := "HayThieves") (v := 31) hx hb hown (hts _ q505) dX4_mixed_1 ?_
  refine lv_lmul hx hb dX4_mixed_4 ?_
  refine lv_iload_n hx hb dX4_mixed_5 rfl (lv_at hl 1 rfl) ?_
  refine lv_i2l hx hb dX4_mixed_6 rfl ?_
  refine lv_ladd hx hb dX4_mixed_7 ?_
  exact g_lret K hG hS hr hlocks (by simp only [f_X4_mixed]) dX4_mixed_8
def f_X4_mixedWithLad_l1 (d0 : Int64) (k : Nat) : Nat → Nat → Int64 → gI → Int64
  | 0, i, d, I =>
    d
  | n + 1, i, d, I =>
    f_X4_mixedWithLad_l1 d0 k n (i + 1) (f_X4_mixed I d (f_X1_tell I 0 k (nI i))) I
def f_X4_mixedWithLad_l2 (d0 : Int64) (k : Nat) : Nat → Nat → Int64 → gI → Int64
  | 0, i, d, I =>
    d
  | n + 1, i, d, I =>
    f_X4_mixedWithLad_l2 d0 k n (i + 1) (f_X4_mixed I d (f_X3_balesOf I 0 (f_X0_heapAt I 0 ((I 0 1 k 3).toNatClampNeg) (nI i)))) I
def f_X4_mixedWithLad (I : gI) (d0 : Int64) (k : Nat) : Int64 :=
  let d1 := (f_X4_mixedWithLad_l1 d0 k 9 0 d0 I)
  let d2 := (f_X4_mixedWithLad_l2 d0 k (I 0 2 (I 0 1 k 3).toNatClampNeg 1).toNatClampNeg 0 d1 I)
  d2
set_option maxHeartbeats 4000000 in
set_option maxRecDepth 100000 in
theorem m_X4_mixedWithLad (l : Launch) (E : gE) (J : Int64) (I : gI) (d0 : Int64) (k : Nat) (hw0 : wf (I 0)) (hk : k < 6) : gMl l E J yX4_mixedWithLad cX4_mixedWithLad 7 (some .long) 2 42 [.ref (gA E 2 10 0), .long d0, .ref (gA E 0 1 k)] I (f_X4_mixedWithLad I d0 k) I := by
  refine g_entry (lv := [(0, .ref (gA E 2 10 0)), (1, .long d0), (3, .ref (gA E 0 1 k))]) (by decide) (Nat.le_of_ble_eq_true rfl) rfl ?_
  intro p e s m below meth c0 ls K hG hS hml hr hlocks hl
  have K : kx E p m c0 cX4_mixedWithLad "HayThieves" _ s := K
  have hx := K.1
  have hb := K.2.1
  have hts := K.2.2.1
  have hown := K.2.2.2.1
  have hSt := K.2.2.2.2
  have hN := hw0.N
  have hM := hw0.M
  have hz := hw0.size (hw0.cart hk)
  refine lv_lload_n hx hb dX4_mixedWithLad_0 rfl (lv_at hl 1 rfl) ?_
  refine lv_lstore (lv' := [(4, .long d0), (0, .ref (gA E 2 10 0)), (1, .long d0), (3, .ref (gA E 0 1 k))]) hx hb dX4_mixedWithLad_1 hl (by decide) rfl (fun ls hl => ?_)
  refine lv_iconst (v := 0) hx hb dX4_mixedWithLad_3 (by decide) ?_
  refine lv_istore (lv' := [(6, .int 0), (4, .long d0), (0, .ref (gA E 2 10 0)), (1, .long d0), (3, .ref (gA E 0 1 k))]) hx hb dX4_mixedWithLad_4 hl (by decide) rfl (fun ls hl => ?_)
  obtain ⟨d1, hd1⟩ : ∃ z, z = (f_X4_mixedWithLad_l1 d0 k 9 0 d0 I) := ⟨_, rfl⟩
  have hL_l1 : (∀ (H : Heap) (locs : List Loc) (ls : Array Slot), GW E J I H → va_S (gF E) s.heap H locs → lv_has ls 7 [(0, .ref (gA E 2 10 0)), (3, .ref (gA E 0 1 k)), (4, .long d1)] → W p l e (grm 2 42) s m ([.ref (gA E 2 10 0), .long d0, .ref (gA E 0 1 k)] : List Value).toArray below meth c0 H locs 0 0 (MQ below (va_Ql (fun z9 (_ : Unit) => z9 = f_X4_mixedWithLad I d0 k) (fun _ t => GW E J I t.heap) (gF E)) ([.ref (gA E 2 10 0), .long d0, .ref (gA E 0 1 k)] : List Value).toArray s 0 0 (gF E)) (F0 m 32 ls [])) → ∀ (n i : Nat) (d : Int64) (H : Heap) (locs : List Loc) (ls : Array Slot), i + n = 9 → f_X4_mixedWithLad_l1 d0 k n i d I = d1 → GW E J I H → va_S (gF E) s.heap H locs → lv_has ls 7 [(6, .int (nI i)), (4, .long d), (0, .ref (gA E 2 10 0)), (3, .ref (gA E 0 1 k))] → W p l e (grm 2 42) s m ([.ref (gA E 2 10 0), .long d0, .ref (gA E 0 1 k)] : List Value).toArray below meth c0 H locs 0 0 (MQ below (va_Ql (fun z9 (_ : Unit) => z9 = f_X4_mixedWithLad I d0 k) (fun _ t => GW E J I t.heap) (gF E)) ([.ref (gA E 2 10 0), .long d0, .ref (gA E 0 1 k)] : List Value).toArray s 0 0 (gF E)) (F0 m 6 ls []) := by
    intro hkont n
    induction n with
    | zero =>
      intro i d H locs ls hin hTv hG hS hl
      refine lv_iload hx hb dX4_mixedWithLad_6 (lv_at hl 0 rfl) ?_
      refine lv_bipush (v := 9) hx hb dX4_mixedWithLad_8 (by decide) ?_
      refine lv_icmp_ge (tgt := 32) hx hb dX4_mixedWithLad_10 (by decide) (fun c1 => ?_) (fun c1 => ?_)
      · have eV : d = d1 := by rw [← hTv]; simp only [f_X4_mixedWithLad_l1, if_pos c1]
        rw [eV] at hl
        exact hkont _ _ _ hG hS (lv_sub hl [2, 3, 1] rfl)
      · exact absurd (lp_ge (show (9 : Int32) = nI 9 from rfl) (by omega) hin) c1
    | succ n ih =>
      intro i d H locs ls hin hTv hG hS hl
      refine lv_iload hx hb dX4_mixedWithLad_6 (lv_at hl 0 rfl) ?_
      refine lv_bipush (v := 9) hx hb dX4_mixedWithLad_8 (by decide) ?_
      refine lv_icmp_ge (tgt := 32) hx hb dX4_mixedWithLad_10 (by decide) (fun c2 => ?_) (fun c2 => ?_)
      · exact absurd c2 (lp_nge (show (9 : Int32) = nI 9 from rfl) (by omega) hin)
      · refine lv_lload hx hb dX4_mixedWithLad_13 (lv_at hl 1 rfl) ?_
        refine lv_aload_n hx hb dX4_mixedWithLad_15 rfl (lv_at hl 3 rfl) ?_
        refine lv_iload hx hb dX4_mixedWithLad_16 (lv_at hl 0 rfl) ?_
        refine g_ki (g_runV (As := [.int (nI i)]) (rest := [.long d]) K hml ca_X1_tell q263 (m_X1_tell l E J I 0 k (nI i) (by decide) hk hw0) hG hS (gv1 (by decide) hk) rfl rfl rfl rfl hl.1 (Nat.le_of_ble_eq_true rfl) ⟨by decide, by decide⟩ dX4_mixedWithLad_18 ⟨Nat.zero_le _, Nat.zero_le _⟩) hS (fun H locs hG hS => ?_)
        refine g_kl (g_runS (As := [.long d, .int (f_X1_tell I 0 k (nI i))]) (rest := []) K hml ca_X4_mixed q502 (m_X4_mixed l E J I d (f_X1_tell I 0 k (nI i))) hG hS rfl hl.1 (Nat.le_of_ble_eq_true rfl) ⟨by decide, by decide⟩ dX4_mixedWithLad_21 ⟨Nat.zero_le _, Nat.zero_le _⟩) hS (fun H locs hG hS => ?_)
        refine lv_lstore (lv' := [(4, .long (f_X4_mixed I d (f_X1_tell I 0 k (nI i)))), (6, .int (nI i)), (0, .ref (gA E 2 10 0)), (3, .ref (gA E 0 1 k))]) hx hb dX4_mixedWithLad_24 hl (by decide) rfl (fun ls hl => ?_)
        refine lv_iinc (v := (nI (i + 1))) (lv' := [(6, .int (nI (i + 1))), (4, .long (f_X4_mixed I d (f_X1_tell I 0 k (nI i)))), (0, .ref (gA E 2 10 0)), (3, .ref (gA E 0 1 k))]) hx hb dX4_mixedWithLad_26 hl (k := 1) rfl (nI_add i 1) (by decide) rfl (fun ls hl => ?_)
        refine lv_goto (tgt := 6) hx hb dX4_mixedWithLad_29 (by decide) ?_
        exact ih (i + 1) (f_X4_mixed I d (f_X1_tell I 0 k (nI i))) _ _ _ (by omega) (by rw [← hTv]; simp only [f_X4_mixedWithLad_l1, if_neg c2]) hG hS (lv_sub hl [0, 1, 2, 3] rfl)
  refine hL_l1 (fun H locs ls hG hS hl => ?_) 9 0 d0 _ _ _ (Nat.zero_add _) hd1.symm hG hS (lv_sub hl [0, 1, 2, 4] rfl)
  refine lv_iconst (v := 0) hx hb dX4_mixedWithLad_32 (by decide) ?_
  refine lv_istore (lv' := [(6, .int 0), (0, .ref (gA E 2 10 0)), (3, .ref (gA E 0 1 k)), (4, .long d1)]) hx hb dX4_mixedWithLad_33 hl (by decide) rfl (fun ls hl => ?_)
  obtain ⟨d2, hd2⟩ : ∃ z, z = (f_X4_mixedWithLad_l2 d0 k (I 0 2 (I 0 1 k 3).toNatClampNeg 1).toNatClampNeg 0 d1 I) := ⟨_, rfl⟩
  have hL_l2 : (∀ (H : Heap) (locs : List Loc) (ls : Array Slot), GW E J I H → va_S (gF E) s.heap H locs → lv_has ls 7 [(0, .ref (gA E 2 10 0)), (3, .ref (gA E 0 1 k)), (4, .long d2)] → W p l e (grm 2 42) s m ([.ref (gA E 2 10 0), .long d0, .ref (gA E 0 1 k)] : List Value).toArray below meth c0 H locs 0 0 (MQ below (va_Ql (fun z9 (_ : Unit) => z9 = f_X4_mixedWithLad I d0 k) (fun _ t => GW E J I t.heap) (gF E)) ([.ref (gA E 2 10 0), .long d0, .ref (gA E 0 1 k)] : List Value).toArray s 0 0 (gF E)) (F0 m 76 ls [])) → ∀ (n i : Nat) (d : Int64) (H : Heap) (locs : List Loc) (ls : Array Slot), i + n = (I 0 2 (I 0 1 k 3).toNatClampNeg 1).toNatClampNeg → f_X4_mixedWithLad_l2 d0 k n i d I = d2 → GW E J I H → va_S (gF E) s.heap H locs → lv_has ls 7 [(6, .int (nI i)), (4, .long d), (0, .ref (gA E 2 10 0)), (3, .ref (gA E 0 1 k))] → W p l e (grm 2 42) s m ([.ref (gA E 2 10 0), .long d0, .ref (gA E 0 1 k)] : List Value).toArray below meth c0 H locs 0 0 (MQ below (va_Ql (fun z9 (_ : Unit) => z9 = f_X4_mixedWithLad I d0 k) (fun _ t => GW E J I t.heap) (gF E)) ([.ref (gA E 2 10 0), .long d0, .ref (gA E 0 1 k)] : List Value).toArray s 0 0 (gF E)) (F0 m 35 ls []) := by
    intro hkont n
    induction n with
    | zero =>
      intro i d H locs ls hin hTv hG hS hl
      refine lv_iload hx hb dX4_mixedWithLad_35 (lv_at hl 0 rfl) ?_
      refine lv_aload_n hx hb dX4_mixedWithLad_37 rfl (lv_at hl 3 rfl) ?_
      refine gf_X4_74 K hG (gv1 (by decide) hk) dX4_mixedWithLad_38 ?_
      refine gf_X4_78 K hG (gv2 (by decide) (hw0.cart hk)) dX4_mixedWithLad_41 ?_
      refine lv_icmp_ge (tgt := 76) hx hb dX4_mixedWithLad_44 (by decide) (fun c3 => ?_) (fun c3 => ?_)
      · have eV : d = d2 := by rw [← hTv]; simp only [f_X4_mixedWithLad_l2, if_pos c3]
        rw [eV] at hl
        exact hkont _ _ _ hG hS (lv_sub hl [2, 3, 1] rfl)
      · exact absurd (lp_ge (hw0.sizeE (hw0.cart hk)) (by omega) hin) c3
    | succ n ih =>
      intro i d H locs ls hin hTv hG hS hl
      refine lv_iload hx hb dX4_mixedWithLad_35 (lv_at hl 0 rfl) ?_
      refine lv_aload_n hx hb dX4_mixedWithLad_37 rfl (lv_at hl 3 rfl) ?_
      refine gf_X4_74 K hG (gv1 (by decide) hk) dX4_mixedWithLad_38 ?_
      refine gf_X4_78 K hG (gv2 (by decide) (hw0.cart hk)) dX4_mixedWithLad_41 ?_
      refine lv_icmp_ge (tgt := 76) hx hb dX4_mixedWithLad_44 (by decide) (fun c4 => ?_) (fun c4 => ?_)
      · exact absurd c4 (lp_nge (hw0.sizeE (hw0.cart hk)) (by omega) hin)
      · refine lv_lload hx hb dX4_mixedWithLad_47 (lv_at hl 1 rfl) ?_
        refine lv_aload_n hx hb dX4_mixedWithLad_49 rfl (lv_at hl 2 rfl) ?_
        refine gf_X4_12 K hG rfl dX4_mixedWithLad_50 ?_
        refine lv_aload_n hx hb dX4_mixedWithLad_53 rfl (lv_at hl 3 rfl) ?_
        refine gf_X4_74 K hG (gv1 (by decide) hk) dX4_mixedWithLad_54 ?_
        refine lv_iload hx hb dX4_mixedWithLad_57 (lv_at hl 0 rfl) ?_
        refine g_ki (g_runV (As := [.int (nI i)]) (rest := [.ref (gA E 0 0 0), .long d]) K hml ca_X0_heapAt q510 (m_X0_heapAt l E J I 0 ((I 0 1 k 3).toNatClampNeg) (nI i) (by decide) (hw0.cart hk) hw0) hG hS (gv2 (by decide) (hw0.cart hk)) rfl rfl rfl rfl hl.1 (Nat.le_of_ble_eq_true rfl) ⟨by decide, by decide⟩ dX4_mixedWithLad_59 ⟨Nat.zero_le _, Nat.zero_le _⟩) hS (fun H locs hG hS => ?_)
        refine g_ki (g_runV (As := [.int (f_X0_heapAt I 0 ((I 0 1 k 3).toNatClampNeg) (nI i))]) (rest := [.long d]) K hml ca_X3_balesOf q511 (m_X3_balesOf l E J I 0 (f_X0_heapAt I 0 ((I 0 1 k 3).toNatClampNeg) (nI i)) (by decide) hw0) hG hS (gv0 (by decide)) rfl rfl rfl rfl hl.1 (Nat.le_of_ble_eq_true rfl) ⟨by decide, by decide⟩ dX4_mixedWithLad_62 ⟨Nat.zero_le _, Nat.zero_le _⟩) hS (fun H locs hG hS => ?_)
        refine g_kl (g_runS (As := [.long d, .int (f_X3_balesOf I 0 (f_X0_heapAt I 0 ((I 0 1 k 3).toNatClampNeg) (nI i)))]) (rest := []) K hml ca_X4_mixed q502 (m_X4_mixed l E J I d (f_X3_balesOf I 0 (f_X0_heapAt I 0 ((I 0 1 k 3).toNatClampNeg) (nI i)))) hG hS rfl hl.1 (Nat.le_of_ble_eq_true rfl) ⟨by decide, by decide⟩ dX4_mixedWithLad_65 ⟨Nat.zero_le _, Nat.zero_le _⟩) hS (fun H locs hG hS => ?_)
        refine lv_lstore (lv' := [(4, .long (f_X4_mixed I d (f_X3_balesOf I 0 (f_X0_heapAt I 0 ((I 0 1 k 3).toNatClampNeg) (nI i))))), (6, .int (nI i)), (0, .ref (gA E 2 10 0)), (3, .ref (gA E 0 1 k))]) hx hb dX4_mixedWithLad_68 hl (by decide) rfl (fun ls hl => ?_)
        refine lv_iinc (v := (nI (i + 1))) (lv' := [(6, .int (nI (i + 1))), (4, .long (f_X4_mixed I d (f_X3_balesOf I 0 (f_X0_heapAt I 0 ((I 0 1 k 3).toNatClampNeg) (nI i))))), (0, .ref (gA E 2 10 0)), (3, .ref (gA E 0 1 k))]) hx hb dX4_mixedWithLad_70 hl (k := 1) rfl (nI_add i 1) (by decide) rfl (fun ls hl => ?_)
        refine lv_goto (tgt := 35) hx hb dX4_mixedWithLad_73 (by decide) ?_
        exact ih (i + 1) (f_X4_mixed I d (f_X3_balesOf I 0 (f_X0_heapAt I 0 ((I 0 1 k 3).toNatClampNeg) (nI i)))) _ _ _ (by omega) (by rw [← hTv]; simp only [f_X4_mixedWithLad_l2, if_neg c4]) hG hS (lv_sub hl [0, 1, 2, 3] rfl)
  refine hL_l2 (fun H locs ls hG hS hl => ?_) ((I 0 2 (I 0 1 k 3).toNatClampNeg 1).toNatClampNeg) 0 d1 _ _ _ (Nat.zero_add _) hd2.symm hG hS (lv_sub hl [0, 3, 1, 2] rfl)
  refine lv_lload hx hb dX4_mixedWithLad_76 (lv_at hl 2 rfl) ?_
  exact g_lret K hG hS hr hlocks (by simp only [f_X4_mixedWithLad, ← hd1, ← hd2]) dX4_mixedWithLad_78
def f_X4_digest_l1  : Nat → Nat → Int64 → gI → Int64
  | 0, i, d, I =>
    d
  | n + 1, i, d, I =>
    f_X4_digest_l1 n (i + 1) (f_X4_mixed I d (f_X3_tell I 0 (nI i))) I
def f_X4_digest_l2  : Nat → Nat → Int64 → gI → Int64
  | 0, i, d, I =>
    d
  | n + 1, i, d, I =>
    f_X4_digest_l2 n (i + 1) (f_X4_mixedWithLad I d i) I
def f_X4_digest_l4  (i : Nat) : Nat → Nat → Int64 → gI → Int64
  | 0, j, d, I =>
    d
  | n + 1, j, d, I =>
    f_X4_digest_l4 i n (j + 1) (f_X4_mixed I d (f_X2_tell I 0 i (nI j))) I
def f_X4_digest_l3  : Nat → Nat → Int64 → gI → Int64
  | 0, i, d, I =>
    d
  | n + 1, i, d, I =>
    let d4 := (f_X4_digest_l4 i 7 0 d I)
    f_X4_digest_l3 n (i + 1) d4 I
def f_X4_digest (I : gI)  : Int64 :=
  let d1 := (f_X4_digest_l1 13 0 1531 I)
  let d2 := (f_X4_digest_l2 (I 0 0 0 4).toNatClampNeg 0 d1 I)
  let d3 := (f_X4_digest_l3 (I 0 0 0 5).toNatClampNeg 0 d2 I)
  d3
set_option maxHeartbeats 4000000 in
set_option maxRecDepth 100000 in
theorem m_X4_digest (l : Launch) (E : gE) (J : Int64) (I : gI) (hw0 : wf (I 0)) : gMl l E J yX4_digest cX4_digest 5 (some .long) 4 86 [.ref (gA E 2 10 0)] I (f_X4_digest I) I := by
  refine g_entry (lv := [(0, .ref (gA E 2 10 0))]) (by decide) (Nat.le_of_ble_eq_true rfl) rfl ?_
  intro p e s m below meth c0 ls K hG hS hml hr hlocks hl
  have K : kx E p m c0 cX4_digest "HayThieves" _ s := K
  have hx := K.1
  have hb := K.2.1
  have hts := K.2.2.1
  have hown := K.2.2.2.1
  have hSt := K.2.2.2.2
  have hN := hw0.N
  have hM := hw0.M
  refine lv_ldc2 (own := "HayThieves") (v := 1531) hx hb hown (hts _ q501) dX4_digest_0 ?_
  refine lv_lstore_n (lv' := [(1, .long 1531), (0, .ref (gA E 2 10 0))]) hx hb dX4_digest_3 rfl hl (by decide) rfl (fun ls hl => ?_)
  refine lv_iconst (v := 0) hx hb dX4_digest_4 (by decide) ?_
  refine lv_istore_n (lv' := [(3, .int 0), (1, .long 1531), (0, .ref (gA E 2 10 0))]) hx hb dX4_digest_5 rfl hl (by decide) rfl (fun ls hl => ?_)
  obtain ⟨d1, hd1⟩ : ∃ z, z = (f_X4_digest_l1 13 0 1531 I) := ⟨_, rfl⟩
  have hL_l1 : (∀ (H : Heap) (locs : List Loc) (ls : Array Slot), GW E J I H → va_S (gF E) s.heap H locs → lv_has ls 5 [(0, .ref (gA E 2 10 0)), (1, .long d1)] → W p l e (grm 4 86) s m ([.ref (gA E 2 10 0)] : List Value).toArray below meth c0 H locs 0 0 (MQ below (va_Ql (fun z9 (_ : Unit) => z9 = f_X4_digest I) (fun _ t => GW E J I t.heap) (gF E)) ([.ref (gA E 2 10 0)] : List Value).toArray s 0 0 (gF E)) (F0 m 31 ls [])) → ∀ (n i : Nat) (d : Int64) (H : Heap) (locs : List Loc) (ls : Array Slot), i + n = 13 → f_X4_digest_l1 n i d I = d1 → GW E J I H → va_S (gF E) s.heap H locs → lv_has ls 5 [(3, .int (nI i)), (1, .long d), (0, .ref (gA E 2 10 0))] → W p l e (grm 4 86) s m ([.ref (gA E 2 10 0)] : List Value).toArray below meth c0 H locs 0 0 (MQ below (va_Ql (fun z9 (_ : Unit) => z9 = f_X4_digest I) (fun _ t => GW E J I t.heap) (gF E)) ([.ref (gA E 2 10 0)] : List Value).toArray s 0 0 (gF E)) (F0 m 6 ls []) := by
    intro hkont n
    induction n with
    | zero =>
      intro i d H locs ls hin hTv hG hS hl
      refine lv_iload_n hx hb dX4_digest_6 rfl (lv_at hl 0 rfl) ?_
      refine lv_bipush (v := 13) hx hb dX4_digest_7 (by decide) ?_
      refine lv_icmp_ge (tgt := 31) hx hb dX4_digest_9 (by decide) (fun c1 => ?_) (fun c1 => ?_)
      · have eV : d = d1 := by rw [← hTv]; simp only [f_X4_digest_l1, if_pos c1]
        rw [eV] at hl
        exact hkont _ _ _ hG hS (lv_sub hl [2, 1] rfl)
      · exact absurd (lp_ge (show (13 : Int32) = nI 13 from rfl) (by omega) hin) c1
    | succ n ih =>
      intro i d H locs ls hin hTv hG hS hl
      refine lv_iload_n hx hb dX4_digest_6 rfl (lv_at hl 0 rfl) ?_
      refine lv_bipush (v := 13) hx hb dX4_digest_7 (by decide) ?_
      refine lv_icmp_ge (tgt := 31) hx hb dX4_digest_9 (by decide) (fun c2 => ?_) (fun c2 => ?_)
      · exact absurd c2 (lp_nge (show (13 : Int32) = nI 13 from rfl) (by omega) hin)
      · refine lv_lload_n hx hb dX4_digest_12 rfl (lv_at hl 1 rfl) ?_
        refine lv_aload_n hx hb dX4_digest_13 rfl (lv_at hl 2 rfl) ?_
        refine gf_X4_12 K hG rfl dX4_digest_14 ?_
        refine lv_iload_n hx hb dX4_digest_17 rfl (lv_at hl 0 rfl) ?_
        refine g_ki (g_runV (As := [.int (nI i)]) (rest := [.long d]) K hml ca_X3_tell q294 (m_X3_tell l E J I 0 (nI i) (by decide) hw0) hG hS (gv0 (by decide)) rfl rfl rfl rfl hl.1 (Nat.le_of_ble_eq_true rfl) ⟨by decide, by decide⟩ dX4_digest_18 ⟨Nat.zero_le _, Nat.zero_le _⟩) hS (fun H locs hG hS => ?_)
        refine g_kl (g_runS (As := [.long d, .int (f_X3_tell I 0 (nI i))]) (rest := []) K hml ca_X4_mixed q502 (m_X4_mixed l E J I d (f_X3_tell I 0 (nI i))) hG hS rfl hl.1 (Nat.le_of_ble_eq_true rfl) ⟨by decide, by decide⟩ dX4_digest_21 ⟨Nat.zero_le _, Nat.zero_le _⟩) hS (fun H locs hG hS => ?_)
        refine lv_lstore_n (lv' := [(1, .long (f_X4_mixed I d (f_X3_tell I 0 (nI i)))), (3, .int (nI i)), (0, .ref (gA E 2 10 0))]) hx hb dX4_digest_24 rfl hl (by decide) rfl (fun ls hl => ?_)
        refine lv_iinc (v := (nI (i + 1))) (lv' := [(3, .int (nI (i + 1))), (1, .long (f_X4_mixed I d (f_X3_tell I 0 (nI i)))), (0, .ref (gA E 2 10 0))]) hx hb dX4_digest_25 hl (k := 1) rfl (nI_add i 1) (by decide) rfl (fun ls hl => ?_)
        refine lv_goto (tgt := 6) hx hb dX4_digest_28 (by decide) ?_
        exact ih (i + 1) (f_X4_mixed I d (f_X3_tell I 0 (nI i))) _ _ _ (by omega) (by rw [← hTv]; simp only [f_X4_digest_l1, if_neg c2]) hG hS (lv_sub hl [0, 1, 2] rfl)
  refine hL_l1 (fun H locs ls hG hS hl => ?_) 13 0 1531 _ _ _ (Nat.zero_add _) hd1.symm hG hS (lv_sub hl [0, 1, 2] rfl)
  refine lv_iconst (v := 0) hx hb dX4_digest_31 (by decide) ?_
  refine lv_istore_n (lv' := [(3, .int 0), (0, .ref (gA E 2 10 0)), (1, .long d1)]) hx hb dX4_digest_32 rfl hl (by decide) rfl (fun ls hl => ?_)
  obtain ⟨d2, hd2⟩ : ∃ z, z = (f_X4_digest_l2 (I 0 0 0 4).toNatClampNeg 0 d1 I) := ⟨_, rfl⟩
  have hL_l2 : (∀ (H : Heap) (locs : List Loc) (ls : Array Slot), GW E J I H → va_S (gF E) s.heap H locs → lv_has ls 5 [(0, .ref (gA E 2 10 0)), (1, .long d2)] → W p l e (grm 4 86) s m ([.ref (gA E 2 10 0)] : List Value).toArray below meth c0 H locs 0 0 (MQ below (va_Ql (fun z9 (_ : Unit) => z9 = f_X4_digest I) (fun _ t => GW E J I t.heap) (gF E)) ([.ref (gA E 2 10 0)] : List Value).toArray s 0 0 (gF E)) (F0 m 65 ls [])) → ∀ (n i : Nat) (d : Int64) (H : Heap) (locs : List Loc) (ls : Array Slot), i + n = (I 0 0 0 4).toNatClampNeg → f_X4_digest_l2 n i d I = d2 → GW E J I H → va_S (gF E) s.heap H locs → lv_has ls 5 [(3, .int (nI i)), (1, .long d), (0, .ref (gA E 2 10 0))] → W p l e (grm 4 86) s m ([.ref (gA E 2 10 0)] : List Value).toArray below meth c0 H locs 0 0 (MQ below (va_Ql (fun z9 (_ : Unit) => z9 = f_X4_digest I) (fun _ t => GW E J I t.heap) (gF E)) ([.ref (gA E 2 10 0)] : List Value).toArray s 0 0 (gF E)) (F0 m 33 ls []) := by
    intro hkont n
    induction n with
    | zero =>
      intro i d H locs ls hin hTv hG hS hl
      refine lv_iload_n hx hb dX4_digest_33 rfl (lv_at hl 0 rfl) ?_
      refine lv_aload_n hx hb dX4_digest_34 rfl (lv_at hl 2 rfl) ?_
      refine gf_X4_12 K hG rfl dX4_digest_35 ?_
      refine gf_X4_26 K hG (gv0 (by decide)) dX4_digest_38 ?_
      refine lv_icmp_ge (tgt := 65) hx hb dX4_digest_41 (by decide) (fun c3 => ?_) (fun c3 => ?_)
      · have eV : d = d2 := by rw [← hTv]; simp only [f_X4_digest_l2, if_pos c3]
        rw [eV] at hl
        exact hkont _ _ _ hG hS (lv_sub hl [2, 1] rfl)
      · exact absurd (lp_ge hw0.Ne (by omega) hin) c3
    | succ n ih =>
      intro i d H locs ls hin hTv hG hS hl
      refine lv_iload_n hx hb dX4_digest_33 rfl (lv_at hl 0 rfl) ?_
      refine lv_aload_n hx hb dX4_digest_34 rfl (lv_at hl 2 rfl) ?_
      refine gf_X4_12 K hG rfl dX4_digest_35 ?_
      refine gf_X4_26 K hG (gv0 (by decide)) dX4_digest_38 ?_
      refine lv_icmp_ge (tgt := 65) hx hb dX4_digest_41 (by decide) (fun c4 => ?_) (fun c4 => ?_)
      · exact absurd c4 (lp_nge hw0.Ne (by omega) hin)
      · refine lv_aload_n hx hb dX4_digest_44 rfl (lv_at hl 2 rfl) ?_
        refine lv_lload_n hx hb dX4_digest_45 rfl (lv_at hl 1 rfl) ?_
        refine lv_aload_n hx hb dX4_digest_46 rfl (lv_at hl 2 rfl) ?_
        refine gf_X4_12 K hG rfl dX4_digest_47 ?_
        refine gf_X4_48 K hG (gv0 (by decide)) dX4_digest_50 ?_
        refine lv_iload_n hx hb dX4_digest_53 rfl (lv_at hl 0 rfl) ?_
        refine g_lads K hG (gv7 (by decide)) (vp_in_nI (by omega) (by decide)) dX4_digest_54 ?_
        rw [nI_clamp (by omega)]
        refine g_kl (g_runV (As := [.long d, .ref (gA E 0 1 i)]) (rest := []) K hml ca_X4_mixedWithLad q506 (m_X4_mixedWithLad l E J I d i hw0 (by omega)) hG hS rfl rfl rfl rfl rfl hl.1 (Nat.le_of_ble_eq_true rfl) ⟨by decide, by decide⟩ dX4_digest_55 ⟨Nat.zero_le _, Nat.zero_le _⟩) hS (fun H locs hG hS => ?_)
        refine lv_lstore_n (lv' := [(1, .long (f_X4_mixedWithLad I d i)), (3, .int (nI i)), (0, .ref (gA E 2 10 0))]) hx hb dX4_digest_58 rfl hl (by decide) rfl (fun ls hl => ?_)
        refine lv_iinc (v := (nI (i + 1))) (lv' := [(3, .int (nI (i + 1))), (1, .long (f_X4_mixedWithLad I d i)), (0, .ref (gA E 2 10 0))]) hx hb dX4_digest_59 hl (k := 1) rfl (nI_add i 1) (by decide) rfl (fun ls hl => ?_)
        refine lv_goto (tgt := 33) hx hb dX4_digest_62 (by decide) ?_
        exact ih (i + 1) (f_X4_mixedWithLad I d i) _ _ _ (by omega) (by rw [← hTv]; simp only [f_X4_digest_l2, if_neg c4]) hG hS (lv_sub hl [0, 1, 2] rfl)
  refine hL_l2 (fun H locs ls hG hS hl => ?_) ((I 0 0 0 4).toNatClampNeg) 0 d1 _ _ _ (Nat.zero_add _) hd2.symm hG hS (lv_sub hl [0, 2, 1] rfl)
  refine lv_iconst (v := 0) hx hb dX4_digest_65 (by decide) ?_
  refine lv_istore_n (lv' := [(3, .int 0), (0, .ref (gA E 2 10 0)), (1, .long d2)]) hx hb dX4_digest_66 rfl hl (by decide) rfl (fun ls hl => ?_)
  obtain ⟨d3, hd3⟩ : ∃ z, z = (f_X4_digest_l3 (I 0 0 0 5).toNatClampNeg 0 d2 I) := ⟨_, rfl⟩
  have hL_l3 : (∀ (H : Heap) (locs : List Loc) (ls : Array Slot), GW E J I H → va_S (gF E) s.heap H locs → lv_has ls 5 [(0, .ref (gA E 2 10 0)), (1, .long d3)] → W p l e (grm 4 86) s m ([.ref (gA E 2 10 0)] : List Value).toArray below meth c0 H locs 0 0 (MQ below (va_Ql (fun z9 (_ : Unit) => z9 = f_X4_digest I) (fun _ t => GW E J I t.heap) (gF E)) ([.ref (gA E 2 10 0)] : List Value).toArray s 0 0 (gF E)) (F0 m 119 ls [])) → ∀ (n i : Nat) (d : Int64) (H : Heap) (locs : List Loc) (ls : Array Slot), i + n = (I 0 0 0 5).toNatClampNeg → f_X4_digest_l3 n i d I = d3 → GW E J I H → va_S (gF E) s.heap H locs → lv_has ls 5 [(3, .int (nI i)), (1, .long d), (0, .ref (gA E 2 10 0))] → W p l e (grm 4 86) s m ([.ref (gA E 2 10 0)] : List Value).toArray below meth c0 H locs 0 0 (MQ below (va_Ql (fun z9 (_ : Unit) => z9 = f_X4_digest I) (fun _ t => GW E J I t.heap) (gF E)) ([.ref (gA E 2 10 0)] : List Value).toArray s 0 0 (gF E)) (F0 m 67 ls []) := by
    intro hkont n
    induction n with
    | zero =>
      intro i d H locs ls hin hTv hG hS hl
      refine lv_iload_n hx hb dX4_digest_67 rfl (lv_at hl 0 rfl) ?_
      refine lv_aload_n hx hb dX4_digest_68 rfl (lv_at hl 2 rfl) ?_
      refine gf_X4_12 K hG rfl dX4_digest_69 ?_
      refine gf_X4_64 K hG (gv0 (by decide)) dX4_digest_72 ?_
      refine lv_icmp_ge (tgt := 119) hx hb dX4_digest_75 (by decide) (fun c5 => ?_) (fun c5 => ?_)
      · have eV : d = d3 := by rw [← hTv]; simp only [f_X4_digest_l3, if_pos c5]
        rw [eV] at hl
        exact hkont _ _ _ hG hS (lv_sub hl [2, 1] rfl)
      · exact absurd (lp_ge hw0.Me (by omega) hin) c5
    | succ n ih =>
      intro i d H locs ls hin hTv hG hS hl
      refine lv_iload_n hx hb dX4_digest_67 rfl (lv_at hl 0 rfl) ?_
      refine lv_aload_n hx hb dX4_digest_68 rfl (lv_at hl 2 rfl) ?_
      refine gf_X4_12 K hG rfl dX4_digest_69 ?_
      refine gf_X4_64 K hG (gv0 (by decide)) dX4_digest_72 ?_
      refine lv_icmp_ge (tgt := 119) hx hb dX4_digest_75 (by decide) (fun c6 => ?_) (fun c6 => ?_)
      · exact absurd c6 (lp_nge hw0.Me (by omega) hin)
      · refine lv_iconst (v := 0) hx hb dX4_digest_78 (by decide) ?_
        refine lv_istore (lv' := [(4, .int 0), (3, .int (nI i)), (1, .long d), (0, .ref (gA E 2 10 0))]) hx hb dX4_digest_79 hl (by decide) rfl (fun ls hl => ?_)
        obtain ⟨d4, hd4⟩ : ∃ z, z = (f_X4_digest_l4 i 7 0 d I) := ⟨_, rfl⟩
        have hL_l4 : (∀ (H : Heap) (locs : List Loc) (ls : Array Slot), GW E J I H → va_S (gF E) s.heap H locs → lv_has ls 5 [(3, .int (nI i)), (0, .ref (gA E 2 10 0)), (1, .long d4)] → W p l e (grm 4 86) s m ([.ref (gA E 2 10 0)] : List Value).toArray below meth c0 H locs 0 0 (MQ below (va_Ql (fun z9 (_ : Unit) => z9 = f_X4_digest I) (fun _ t => GW E J I t.heap) (gF E)) ([.ref (gA E 2 10 0)] : List Value).toArray s 0 0 (gF E)) (F0 m 113 ls [])) → ∀ (n j : Nat) (d : Int64) (H : Heap) (locs : List Loc) (ls : Array Slot), j + n = 7 → f_X4_digest_l4 i n j d I = d4 → GW E J I H → va_S (gF E) s.heap H locs → lv_has ls 5 [(4, .int (nI j)), (1, .long d), (3, .int (nI i)), (0, .ref (gA E 2 10 0))] → W p l e (grm 4 86) s m ([.ref (gA E 2 10 0)] : List Value).toArray below meth c0 H locs 0 0 (MQ below (va_Ql (fun z9 (_ : Unit) => z9 = f_X4_digest I) (fun _ t => GW E J I t.heap) (gF E)) ([.ref (gA E 2 10 0)] : List Value).toArray s 0 0 (gF E)) (F0 m 81 ls []) := by
          intro hkont n
          induction n with
          | zero =>
            intro j d H locs ls hin hTv hG hS hl
            refine lv_iload hx hb dX4_digest_81 (lv_at hl 0 rfl) ?_
            refine lv_bipush (v := 7) hx hb dX4_digest_83 (by decide) ?_
            refine lv_icmp_ge (tgt := 113) hx hb dX4_digest_85 (by decide) (fun c7 => ?_) (fun c7 => ?_)
            · have eV : d = d4 := by rw [← hTv]; simp only [f_X4_digest_l4, if_pos c7]
              rw [eV] at hl
              exact hkont _ _ _ hG hS (lv_sub hl [2, 3, 1] rfl)
            · exact absurd (lp_ge (show (7 : Int32) = nI 7 from rfl) (by omega) hin) c7
          | succ n ih =>
            intro j d H locs ls hin hTv hG hS hl
            refine lv_iload hx hb dX4_digest_81 (lv_at hl 0 rfl) ?_
            refine lv_bipush (v := 7) hx hb dX4_digest_83 (by decide) ?_
            refine lv_icmp_ge (tgt := 113) hx hb dX4_digest_85 (by decide) (fun c8 => ?_) (fun c8 => ?_)
            · exact absurd c8 (lp_nge (show (7 : Int32) = nI 7 from rfl) (by omega) hin)
            · refine lv_lload_n hx hb dX4_digest_88 rfl (lv_at hl 1 rfl) ?_
              refine lv_aload_n hx hb dX4_digest_89 rfl (lv_at hl 3 rfl) ?_
              refine gf_X4_12 K hG rfl dX4_digest_90 ?_
              refine gf_X4_111 K hG (gv0 (by decide)) dX4_digest_93 ?_
              refine lv_iload_n hx hb dX4_digest_96 rfl (lv_at hl 2 rfl) ?_
              refine g_loads K hG (gv8 (by decide)) (vp_in_nI (by omega) (by decide)) dX4_digest_97 ?_
              rw [nI_clamp (by omega)]
              refine lv_iload hx hb dX4_digest_98 (lv_at hl 0 rfl) ?_
              refine g_ki (g_runV (As := [.int (nI j)]) (rest := [.long d]) K hml ca_X2_tell q285 (m_X2_tell l E J I 0 i (nI j) (by decide) (by omega) hw0) hG hS (gv4 (by decide) (by omega)) rfl rfl rfl rfl hl.1 (Nat.le_of_ble_eq_true rfl) ⟨by decide, by decide⟩ dX4_digest_100 ⟨Nat.zero_le _, Nat.zero_le _⟩) hS (fun H locs hG hS => ?_)
              refine g_kl (g_runS (As := [.long d, .int (f_X2_tell I 0 i (nI j))]) (rest := []) K hml ca_X4_mixed q502 (m_X4_mixed l E J I d (f_X2_tell I 0 i (nI j))) hG hS rfl hl.1 (Nat.le_of_ble_eq_true rfl) ⟨by decide, by decide⟩ dX4_digest_103 ⟨Nat.zero_le _, Nat.zero_le _⟩) hS (fun H locs hG hS => ?_)
              refine lv_lstore_n (lv' := [(1, .long (f_X4_mixed I d (f_X2_tell I 0 i (nI j)))), (4, .int (nI j)), (3, .int (nI i)), (0, .ref (gA E 2 10 0))]) hx hb dX4_digest_106 rfl hl (by decide) rfl (fun ls hl => ?_)
              refine lv_iinc (v := (nI (j + 1))) (lv' := [(4, .int (nI (j + 1))), (1, .long (f_X4_mixed I d (f_X2_tell I 0 i (nI j)))), (3, .int (nI i)), (0, .ref (gA E 2 10 0))]) hx hb dX4_digest_107 hl (k := 1) rfl (nI_add j 1) (by decide) rfl (fun ls hl => ?_)
              refine lv_goto (tgt := 81) hx hb dX4_digest_110 (by decide) ?_
              exact ih (j + 1) (f_X4_mixed I d (f_X2_tell I 0 i (nI j))) _ _ _ (by omega) (by rw [← hTv]; simp only [f_X4_digest_l4, if_neg c8]) hG hS (lv_sub hl [0, 1, 2, 3] rfl)
        refine hL_l4 (fun H locs ls hG hS hl => ?_) 7 0 d _ _ _ (Nat.zero_add _) hd4.symm hG hS (lv_sub hl [0, 2, 1, 3] rfl)
        refine lv_iinc (v := (nI (i + 1))) (lv' := [(3, .int (nI (i + 1))), (0, .ref (gA E 2 10 0)), (1, .long d4)]) hx hb dX4_digest_113 hl (k := 0) rfl (nI_add i 1) (by decide) rfl (fun ls hl => ?_)
        refine lv_goto (tgt := 67) hx hb dX4_digest_116 (by decide) ?_
        exact ih (i + 1) d4 _ _ _ (by omega) (by rw [← hTv]; simp only [f_X4_digest_l3, ← hd4, if_neg c6]) hG hS (lv_sub hl [0, 2, 1] rfl)
  refine hL_l3 (fun H locs ls hG hS hl => ?_) ((I 0 0 0 5).toNatClampNeg) 0 d2 _ _ _ (Nat.zero_add _) hd3.symm hG hS (lv_sub hl [0, 2, 1] rfl)
  refine lv_lload_n hx hb dX4_digest_119 rfl (lv_at hl 1 rfl) ?_
  exact g_lret K hG hS hr hlocks (by simp only [f_X4_digest, ← hd1, ← hd2, ← hd3]) dX4_digest_120
def f_X4_until_l1_v (x : Int32) : Nat → Nat → gI → Int32
  | 0, i, I2 =>
    if (I2 1 4 x.toNatClampNeg 1) = 2 then
      (nI i)
    else
      (-1)
  | n + 1, i, I2 =>
    if (I2 1 4 x.toNatClampNeg 1) = 2 then
      (nI i)
    else
      let I3 := f_X3_runMinutes I2 1 1
      f_X4_until_l1_v x n (i + 1) I3
def f_X4_until_l1_s (x : Int32) : Nat → Nat → gI → gI
  | 0, i, I2 =>
    if (I2 1 4 x.toNatClampNeg 1) = 2 then
      I2
    else
      I2
  | n + 1, i, I2 =>
    if (I2 1 4 x.toNatClampNeg 1) = 2 then
      I2
    else
      let I3 := f_X3_runMinutes I2 1 1
      f_X4_until_l1_s x n (i + 1) I3
def f_X4_until_x (I : gI) (x : Int32) : Nat :=
  let I1 := f_X3_copyFrom I 1 0
  if f_X4_needLoad_x I x = 0 then
    let I1 := f_X3_copyFrom I 1 0
    0
  else
    f_X4_needLoad_x I x
def f_X4_until_v (I : gI) (x : Int32) : Int32 :=
  let I1 := f_X3_copyFrom I 1 0
  if f_X4_needLoad_x I x = 0 then
    let I1 := f_X3_copyFrom I 1 0
    f_X4_until_l1_v x 300 0 I1
  else
    0
def f_X4_until_s (I : gI) (x : Int32) : gI :=
  let I1 := f_X3_copyFrom I 1 0
  if f_X4_needLoad_x I x = 0 then
    let I1 := f_X3_copyFrom I 1 0
    f_X4_until_l1_s x 300 0 I1
  else
    I
set_option maxHeartbeats 4000000 in
set_option maxRecDepth 100000 in
theorem m_X4_until (l : Launch) (E : gE) (J : Int64) (I : gI) (x : Int32) (hw0 : wf (I 0)) (hw1 : wf (I 1)) (hzz : ∀ i, i < 6 → I 0 1 i 7 = 0 ∨ I 0 1 i 7 = 1) (hzd : ∀ j, I 0 6 0 j = 0 ∨ I 0 6 0 j = 1) (hfl : l.stackTraces = false) : gXi l E J yX4_until cX4_until 4 (some .int) 7 136 1 [.ref (gA E 2 10 0), .int x] I (f_X4_until_x I x) (f_X4_until_v I x) (f_X4_until_s I x) := by
  refine g_entryX (lv := [(0, .ref (gA E 2 10 0)), (1, .int x)]) (by decide) (Nat.le_of_ble_eq_true rfl) rfl ?_
  intro p e s m below meth c0 ls K hG hS hml hr hlocks hout hl
  have K : kx E p m c0 cX4_until "HayThieves" _ s := K
  have hx := K.1
  have hb := K.2.1
  have hts := K.2.2.1
  have hown := K.2.2.2.1
  have hSt := K.2.2.2.2
  have hN := hw0.N
  have hM := hw0.M
  refine lv_aload_n hx hb dX4_until_0 rfl (lv_at hl 0 rfl) ?_
  refine lv_iload_n hx hb dX4_until_1 rfl (lv_at hl 1 rfl) ?_
  refine g_kxv (g_runVX (As := [.int x]) (rest := []) K hml ca_X4_needLoad q279 (m_X4_needLoad l E J I x hw0 hfl) hG hS rfl rfl rfl rfl rfl hl.1 (Nat.le_of_ble_eq_true rfl) ⟨by decide, by decide⟩ dX4_until_2 ⟨by decide, by decide⟩) hS rfl (fun h9 => by simp only [f_X4_until_x, if_neg h9]) hout hlocks (by decide) (by decide) (fun c1 H locs hG hS => ?_)
  refine lv_aload_n hx hb dX4_until_5 rfl (lv_at hl 0 rfl) ?_
  refine gf_X4_16 K hG rfl dX4_until_6 ?_
  refine lv_aload_n hx hb dX4_until_9 rfl (lv_at hl 0 rfl) ?_
  refine gf_X4_12 K hG rfl dX4_until_10 ?_
  refine g_kv (g_runV (As := [.ref (gA E 0 0 0)]) (rest := []) K hml ca_X3_copyFrom q465 (m_X3_copyFrom l E J I 1 0 (by decide) hw1 (by decide) hw0 (by omega) hzz hzd) hG hS (gv0 (by decide)) rfl rfl rfl rfl hl.1 (Nat.le_of_ble_eq_true rfl) ⟨by decide, by decide⟩ dX4_until_13 ⟨by decide, by decide⟩) hS (fun H locs hG hS => ?_)
  obtain ⟨I1, hI1⟩ : ∃ z, z = f_X3_copyFrom I 1 0 := ⟨_, rfl⟩
  rw [← hI1] at hG
  have hw1_0 : wf (I1 0) := by rw [hI1]; exact wf_ne ((ne_X3_copyFrom I 1 0 (by decide) hw1 (by decide) hw0 (by omega) hzz hzd (y' := 0) (by omega))) hw0
  have hw1_1 : wf (I1 1) := by rw [hI1]; exact wf_X3_copyFrom I 1 0 (by decide) hw1 (by decide) hw0 (by omega) hzz hzd
  have hq1_0 : I1 0 = I 0 := by rw [hI1]; exact (ne_X3_copyFrom I 1 0 (by decide) hw1 (by decide) hw0 (by omega) hzz hzd (y' := 0) (by omega))
  refine lv_aload_n hx hb dX4_until_16 rfl (lv_at hl 0 rfl) ?_
  refine gf_X4_16 K hG rfl dX4_until_17 ?_
  refine gf_X4_111 K hG (gv0 (by decide)) dX4_until_20 ?_
  refine lv_iload_n hx hb dX4_until_23 rfl (lv_at hl 1 rfl) ?_
  refine g_loads K hG (gv8 (by decide)) (rg_load hw0 c1) dX4_until_24 ?_
  refine lv_astore_n (lv' := [(2, .ref (gA E 1 4 x.toNatClampNeg)), (0, .ref (gA E 2 10 0)), (1, .int x)]) hx hb dX4_until_25 rfl hl (by decide) rfl (fun ls hl => ?_)
  refine lv_iconst (v := 0) hx hb dX4_until_26 (by decide) ?_
  refine lv_istore_n (lv' := [(3, .int 0), (2, .ref (gA E 1 4 x.toNatClampNeg)), (0, .ref (gA E 2 10 0)), (1, .int x)]) hx hb dX4_until_27 rfl hl (by decide) rfl (fun ls hl => ?_)
  have hX0 : f_X4_until_x I x = 0 := by simp only [f_X4_until_x, ← hI1, if_pos c1]
  have hL_l1 : ∀ (n i : Nat)  (I2 : gI) (H : Heap) (locs : List Loc) (ls : Array Slot), i + n = 300 → f_X4_until_l1_v x n i I2 = f_X4_until_v I x → f_X4_until_l1_s x n i I2 = (f_X4_until_s I x) → wf (I2 1) → GW E J I2 H → va_S (gF E) s.heap H locs → lv_has ls 4 [(3, .int (nI i)), (2, .ref (gA E 1 4 x.toNatClampNeg)), (0, .ref (gA E 2 10 0)), (1, .int x)] → W p l e (grx 7 136 1) s m ([.ref (gA E 2 10 0), .int x] : List Value).toArray below meth c0 H locs 1 6 (vx_MQ below (va_Qi (fun z9 (_ : Unit) => (f_X4_until_x I x) = 0 ∧ z9 = f_X4_until_v I x) (fun _ t => GW E J (f_X4_until_s I x) t.heap) (gF E)) (gXC E J I (f_X4_until_x I x)) ([.ref (gA E 2 10 0), .int x] : List Value).toArray s 1 (6 * 1) (gF E)) (F0 m 28 ls []) := by
    intro n
    induction n with
    | zero =>
      intro i I2 H locs ls hin hTv hTs hwL hG hS hl
      refine lv_aload_n hx hb dX4_until_28 rfl (lv_at hl 1 rfl) ?_
      refine gf_X4_139 K hG (gv4 (by decide) (vp_lt (rg_load hw0 c1))) dX4_until_29 ?_
      refine lv_iconst (v := 2) hx hb dX4_until_32 (by decide) ?_
      refine lv_icmp_eq (tgt := 57) hx hb dX4_until_33 (by decide) (fun c2 => ?_) (fun c2 => ?_)
      · refine lv_aload_n hx hb dX4_until_57 rfl (lv_at hl 1 rfl) ?_
        refine gf_X4_139 K hG (gv4 (by decide) (vp_lt (rg_load hw0 c1))) dX4_until_58 ?_
        refine lv_iconst (v := 2) hx hb dX4_until_61 (by decide) ?_
        refine lv_icmp_ne (tgt := 69) hx hb dX4_until_62 (by decide) (fun c3 => ?_) (fun c3 => ?_)
        · exact absurd c2 c3
        · refine lv_iload_n hx hb dX4_until_65 rfl (lv_at hl 0 rfl) ?_
          refine lv_goto (tgt := 70) hx hb dX4_until_66 (by decide) ?_
          have eS : I2 = (f_X4_until_s I x) := (by rw [← hTs]; simp only [f_X4_until_l1_s, if_pos c2, if_pos c3])
          rw [eS] at hG
          exact g_iretX K hG hS hr hlocks hX0 (by rw [← hTv]; simp only [f_X4_until_l1_v, if_pos c2, if_pos c3]) (by decide) (by decide) dX4_until_70
      · refine lv_iload_n hx hb dX4_until_36 rfl (lv_at hl 0 rfl) ?_
        refine lv_sipush (v := 300) hx hb dX4_until_37 (by decide) ?_
        refine lv_icmp_ge (tgt := 57) hx hb dX4_until_40 (by decide) (fun c4 => ?_) (fun c4 => ?_)
        · refine lv_aload_n hx hb dX4_until_57 rfl (lv_at hl 1 rfl) ?_
          refine gf_X4_139 K hG (gv4 (by decide) (vp_lt (rg_load hw0 c1))) dX4_until_58 ?_
          refine lv_iconst (v := 2) hx hb dX4_until_61 (by decide) ?_
          refine lv_icmp_ne (tgt := 69) hx hb dX4_until_62 (by decide) (fun c5 => ?_) (fun c5 => ?_)
          · refine lv_iconst (v := (-1)) hx hb dX4_until_69 (by decide) ?_
            have eS : I2 = (f_X4_until_s I x) := (by rw [← hTs]; simp only [f_X4_until_l1_s, if_neg c2, if_pos c4, if_neg c5])
            rw [eS] at hG
            exact g_iretX K hG hS hr hlocks hX0 (by rw [← hTv]; simp only [f_X4_until_l1_v, if_neg c2, if_pos c4, if_neg c5]) (by decide) (by decide) dX4_until_70
          · exact absurd c5 c2
        · exact absurd (lp_ge (show (300 : Int32) = nI 300 from rfl) (by omega) hin) c4
    | succ n ih =>
      intro i I2 H locs ls hin hTv hTs hwL hG hS hl
      refine lv_aload_n hx hb dX4_until_28 rfl (lv_at hl 1 rfl) ?_
      refine gf_X4_139 K hG (gv4 (by decide) (vp_lt (rg_load hw0 c1))) dX4_until_29 ?_
      refine lv_iconst (v := 2) hx hb dX4_until_32 (by decide) ?_
      refine lv_icmp_eq (tgt := 57) hx hb dX4_until_33 (by decide) (fun c6 => ?_) (fun c6 => ?_)
      · refine lv_aload_n hx hb dX4_until_57 rfl (lv_at hl 1 rfl) ?_
        refine gf_X4_139 K hG (gv4 (by decide) (vp_lt (rg_load hw0 c1))) dX4_until_58 ?_
        refine lv_iconst (v := 2) hx hb dX4_until_61 (by decide) ?_
        refine lv_icmp_ne (tgt := 69) hx hb dX4_until_62 (by decide) (fun c7 => ?_) (fun c7 => ?_)
        · exact absurd c6 c7
        · refine lv_iload_n hx hb dX4_until_65 rfl (lv_at hl 0 rfl) ?_
          refine lv_goto (tgt := 70) hx hb dX4_until_66 (by decide) ?_
          have eS : I2 = (f_X4_until_s I x) := (by rw [← hTs]; simp only [f_X4_until_l1_s, if_pos c6, if_pos c7])
          rw [eS] at hG
          exact g_iretX K hG hS hr hlocks hX0 (by rw [← hTv]; simp only [f_X4_until_l1_v, if_pos c6, if_pos c7]) (by decide) (by decide) dX4_until_70
      · refine lv_iload_n hx hb dX4_until_36 rfl (lv_at hl 0 rfl) ?_
        refine lv_sipush (v := 300) hx hb dX4_until_37 (by decide) ?_
        refine lv_icmp_ge (tgt := 57) hx hb dX4_until_40 (by decide) (fun c8 => ?_) (fun c8 => ?_)
        · exact absurd c8 (lp_nge (show (300 : Int32) = nI 300 from rfl) (by omega) hin)
        · refine lv_aload_n hx hb dX4_until_43 rfl (lv_at hl 2 rfl) ?_
          refine gf_X4_16 K hG rfl dX4_until_44 ?_
          refine lv_iconst (v := 1) hx hb dX4_until_47 (by decide) ?_
          refine g_kv (g_runV (As := [.int 1]) (rest := []) K hml ca_X3_runMinutes q371 (m_X3_runMinutes l E J I2 1 1 (by decide) hwL isN_1) hG hS (gv0 (by decide)) rfl rfl rfl rfl hl.1 (Nat.le_of_ble_eq_true rfl) ⟨by decide, by decide⟩ dX4_until_48 ⟨by decide, by decide⟩) hS (fun H locs hG hS => ?_)
          obtain ⟨I3, hI3⟩ : ∃ z, z = f_X3_runMinutes I2 1 1 := ⟨_, rfl⟩
          rw [← hI3] at hG
          have hw3_1 : wf (I3 1) := by rw [hI3]; exact wf_X3_runMinutes I2 1 1 (by decide) hwL isN_1
          refine lv_iinc (v := (nI (i + 1))) (lv' := [(3, .int (nI (i + 1))), (2, .ref (gA E 1 4 x.toNatClampNeg)), (0, .ref (gA E 2 10 0)), (1, .int x)]) hx hb dX4_until_51 hl (k := 0) rfl (nI_add i 1) (by decide) rfl (fun ls hl => ?_)
          refine lv_goto (tgt := 28) hx hb dX4_until_54 (by decide) ?_
          exact ih (i + 1) I3 _ _ _ (by omega) (by rw [← hTv]; simp only [f_X4_until_l1_v, ← hI3, if_neg c6, if_neg c8]) (by rw [← hTs]; simp only [f_X4_until_l1_s, ← hI3, if_neg c6, if_neg c8]) hw3_1 hG hS (lv_sub hl [0, 1, 2, 3] rfl)
  exact hL_l1 300 0 I1 _ _ _ (Nat.zero_add _) (by simp only [f_X4_until_v, ← hI1, if_pos c1]) (by simp only [f_X4_until_s, ← hI1, if_pos c1]) hw1_1 hG hS (lv_sub hl [0, 1, 2, 3] rfl)
def f_X4_foresee_x (I : gI) (x b : Int32) : Nat :=
  if f_X4_needMinutes_x I x 60 = 0 then
    if b < 3 then
      3
    else
      if b ≤ 11 then
        let I1 := f_X3_copyFrom I 1 0
        let I2 := f_X3_runMinutes I1 1 x
        0
      else
        3
  else
    f_X4_needMinutes_x I x 60
def f_X4_foresee_v (I : gI) (x b : Int32) : Int32 :=
  if f_X4_needMinutes_x I x 60 = 0 then
    if b < 3 then
      0
    else
      if b ≤ 11 then
        let I1 := f_X3_copyFrom I 1 0
        let I2 := f_X3_runMinutes I1 1 x
        (f_X3_tell I2 1 b)
      else
        0
  else
    0
def f_X4_foresee_s (I : gI) (x b : Int32) : gI :=
  if f_X4_needMinutes_x I x 60 = 0 then
    if b < 3 then
      I
    else
      if b ≤ 11 then
        let I1 := f_X3_copyFrom I 1 0
        let I2 := f_X3_runMinutes I1 1 x
        I2
      else
        I
  else
    I
set_option maxHeartbeats 4000000 in
set_option maxRecDepth 100000 in
theorem m_X4_foresee (l : Launch) (E : gE) (J : Int64) (I : gI) (x b : Int32) (hw0 : wf (I 0)) (hw1 : wf (I 1)) (hzz : ∀ i, i < 6 → I 0 1 i 7 = 0 ∨ I 0 1 i 7 = 1) (hzd : ∀ j, I 0 6 0 j = 0 ∨ I 0 6 0 j = 1) (hfl : l.stackTraces = false) : gXi l E J yX4_foresee cX4_foresee 3 (some .int) 7 136 2 [.ref (gA E 2 10 0), .int x, .int b] I (f_X4_foresee_x I x b) (f_X4_foresee_v I x b) (f_X4_foresee_s I x b) := by
  refine g_entryX (lv := [(0, .ref (gA E 2 10 0)), (1, .int x), (2, .int b)]) (by decide) (Nat.le_of_ble_eq_true rfl) rfl ?_
  intro p e s m below meth c0 ls K hG hS hml hr hlocks hout hl
  have K : kx E p m c0 cX4_foresee "HayThieves" _ s := K
  have hx := K.1
  have hb := K.2.1
  have hts := K.2.2.1
  have hown := K.2.2.2.1
  have hSt := K.2.2.2.2
  have hN := hw0.N
  have hM := hw0.M
  refine lv_iload_n hx hb dX4_foresee_0 rfl (lv_at hl 1 rfl) ?_
  refine lv_bipush (v := 60) hx hb dX4_foresee_1 (by decide) ?_
  refine g_kxv (g_runSX (As := [.int x, .int 60]) (rest := []) K hml ca_X4_needMinutes q352 (m_X4_needMinutes l E J I x 60 hfl) hG hS rfl hl.1 (Nat.le_of_ble_eq_true rfl) ⟨by decide, by decide⟩ dX4_foresee_3 ⟨by decide, by decide⟩) hS rfl (fun h9 => by simp only [f_X4_foresee_x, if_neg h9]) hout hlocks (by decide) (by decide) (fun c1 H locs hG hS => ?_)
  refine lv_iload_n hx hb dX4_foresee_6 rfl (lv_at hl 2 rfl) ?_
  refine lv_iconst (v := 3) hx hb dX4_foresee_7 (by decide) ?_
  refine lv_icmp_lt (tgt := 17) hx hb dX4_foresee_8 (by decide) (fun c2 => ?_) (fun c2 => ?_)
  · exact g_throw (text := "what is not 3 to 11") K hfl gxk3 (by simp only [f_X4_foresee_x, if_pos c1, if_pos c2]) (by decide) (by decide +kernel) hG hS (hl.1.trans hml.symm) dX4_foresee_17 dX4_foresee_20 dX4_foresee_21 dX4_foresee_23 dX4_foresee_26 hout ⟨by decide, Nat.le_of_ble_eq_true rfl, by decide, by decide⟩ hlocks (by decide) (by decide)
  · refine lv_iload_n hx hb dX4_foresee_11 rfl (lv_at hl 2 rfl) ?_
    refine lv_bipush (v := 11) hx hb dX4_foresee_12 (by decide) ?_
    refine lv_icmp_le (tgt := 27) hx hb dX4_foresee_14 (by decide) (fun c3 => ?_) (fun c3 => ?_)
    · refine lv_aload_n hx hb dX4_foresee_27 rfl (lv_at hl 0 rfl) ?_
      refine gf_X4_16 K hG rfl dX4_foresee_28 ?_
      refine lv_aload_n hx hb dX4_foresee_31 rfl (lv_at hl 0 rfl) ?_
      refine gf_X4_12 K hG rfl dX4_foresee_32 ?_
      refine g_kv (g_runV (As := [.ref (gA E 0 0 0)]) (rest := []) K hml ca_X3_copyFrom q465 (m_X3_copyFrom l E J I 1 0 (by decide) hw1 (by decide) hw0 (by omega) hzz hzd) hG hS (gv0 (by decide)) rfl rfl rfl rfl hl.1 (Nat.le_of_ble_eq_true rfl) ⟨by decide, by decide⟩ dX4_foresee_35 ⟨by decide, by decide⟩) hS (fun H locs hG hS => ?_)
      obtain ⟨I1, hI1⟩ : ∃ z, z = f_X3_copyFrom I 1 0 := ⟨_, rfl⟩
      rw [← hI1] at hG
      have hw1_0 : wf (I1 0) := by rw [hI1]; exact wf_ne ((ne_X3_copyFrom I 1 0 (by decide) hw1 (by decide) hw0 (by omega) hzz hzd (y' := 0) (by omega))) hw0
      have hw1_1 : wf (I1 1) := by rw [hI1]; exact wf_X3_copyFrom I 1 0 (by decide) hw1 (by decide) hw0 (by omega) hzz hzd
      have hq1_0 : I1 0 = I 0 := by rw [hI1]; exact (ne_X3_copyFrom I 1 0 (by decide) hw1 (by decide) hw0 (by omega) hzz hzd (y' := 0) (by omega))
      refine lv_aload_n hx hb dX4_foresee_38 rfl (lv_at hl 0 rfl) ?_
      refine gf_X4_16 K hG rfl dX4_foresee_39 ?_
      refine lv_iload_n hx hb dX4_foresee_42 rfl (lv_at hl 1 rfl) ?_
      refine g_kv (g_runV (As := [.int x]) (rest := []) K hml ca_X3_runMinutes q371 (m_X3_runMinutes l E J I1 1 x (by decide) hw1_1 (rg_mins (n := 60) rfl (by decide) c1)) hG hS (gv0 (by decide)) rfl rfl rfl rfl hl.1 (Nat.le_of_ble_eq_true rfl) ⟨by decide, by decide⟩ dX4_foresee_43 ⟨by decide, by decide⟩) hS (fun H locs hG hS => ?_)
      obtain ⟨I2, hI2⟩ : ∃ z, z = f_X3_runMinutes I1 1 x := ⟨_, rfl⟩
      rw [← hI2] at hG
      have hw2_0 : wf (I2 0) := by rw [hI2]; exact wf_ne ((ne_X3_runMinutes I1 1 x (by decide) hw1_1 (rg_mins (n := 60) rfl (by decide) c1) (y' := 0) (by omega))) hw1_0
      have hw2_1 : wf (I2 1) := by rw [hI2]; exact wf_X3_runMinutes I1 1 x (by decide) hw1_1 (rg_mins (n := 60) rfl (by decide) c1)
      have hq2_0 : I2 0 = I 0 := by rw [hI2]; exact (ne_X3_runMinutes I1 1 x (by decide) hw1_1 (rg_mins (n := 60) rfl (by decide) c1) (y' := 0) (by omega)).trans hq1_0
      refine lv_aload_n hx hb dX4_foresee_46 rfl (lv_at hl 0 rfl) ?_
      refine gf_X4_16 K hG rfl dX4_foresee_47 ?_
      refine lv_iload_n hx hb dX4_foresee_50 rfl (lv_at hl 2 rfl) ?_
      refine g_ki (g_runV (As := [.int b]) (rest := []) K hml ca_X3_tell q294 (m_X3_tell l E J I2 1 b (by decide) hw2_1) hG hS (gv0 (by decide)) rfl rfl rfl rfl hl.1 (Nat.le_of_ble_eq_true rfl) ⟨by decide, by decide⟩ dX4_foresee_51 ⟨by decide, by decide⟩) hS (fun H locs hG hS => ?_)
      have eS : I2 = (f_X4_foresee_s I x b) := (by simp only [f_X4_foresee_s, ← hI1, ← hI2, if_pos c1, if_neg c2, if_pos c3])
      rw [eS] at hG
      exact g_iretX K hG hS hr hlocks (by simp only [f_X4_foresee_x, ← hI1, ← hI2, if_pos c1, if_neg c2, if_pos c3]) (by simp only [f_X4_foresee_v, ← hI1, ← hI2, if_pos c1, if_neg c2, if_pos c3]) (by decide) (by decide) dX4_foresee_54
    · exact g_throw (text := "what is not 3 to 11") K hfl gxk3 (by simp only [f_X4_foresee_x, if_pos c1, if_neg c2, if_neg c3]) (by decide) (by decide +kernel) hG hS (hl.1.trans hml.symm) dX4_foresee_17 dX4_foresee_20 dX4_foresee_21 dX4_foresee_23 dX4_foresee_26 hout ⟨by decide, Nat.le_of_ble_eq_true rfl, by decide, by decide⟩ hlocks (by decide) (by decide)
def f_X4_advise_l1_v (x : Int32) : Nat → Nat → Int32 → Int32 → gI → Int32
  | 0, i, a, b, I1 =>
    a
  | n + 1, i, a, b, I1 =>
    let I2 := f_X3_copyFrom I1 1 0
    let I3 := gU I2 1 0 0 7 (gsz i)
    let I4 := f_X3_runMinutes I3 1 x
    if (f_X3_tell I4 1 11) ≤ b then
      f_X4_advise_l1_v x n (i + 1) a b I4
    else
      f_X4_advise_l1_v x n (i + 1) (gsz i) (f_X3_tell I4 1 11) I4
def f_X4_advise_l1_s (x : Int32) : Nat → Nat → Int32 → Int32 → gI → gI
  | 0, i, a, b, I1 =>
    I1
  | n + 1, i, a, b, I1 =>
    let I2 := f_X3_copyFrom I1 1 0
    let I3 := gU I2 1 0 0 7 (gsz i)
    let I4 := f_X3_runMinutes I3 1 x
    if (f_X3_tell I4 1 11) ≤ b then
      f_X4_advise_l1_s x n (i + 1) a b I4
    else
      f_X4_advise_l1_s x n (i + 1) (gsz i) (f_X3_tell I4 1 11) I4
def f_X4_advise_x (I : gI) (x : Int32) : Nat :=
  if f_X4_needMinutes_x I x 40 = 0 then
    0
  else
    f_X4_needMinutes_x I x 40
def f_X4_advise_v (I : gI) (x : Int32) : Int32 :=
  if f_X4_needMinutes_x I x 40 = 0 then
    f_X4_advise_l1_v x 5 0 4 (-1) I
  else
    0
def f_X4_advise_s (I : gI) (x : Int32) : gI :=
  if f_X4_needMinutes_x I x 40 = 0 then
    f_X4_advise_l1_s x 5 0 4 (-1) I
  else
    I
set_option maxHeartbeats 4000000 in
set_option maxRecDepth 100000 in
theorem m_X4_advise (l : Launch) (E : gE) (J : Int64) (I : gI) (x : Int32) (hw0 : wf (I 0)) (hw1 : wf (I 1)) (hzz : ∀ i, i < 6 → I 0 1 i 7 = 0 ∨ I 0 1 i 7 = 1) (hzd : ∀ j, I 0 6 0 j = 0 ∨ I 0 6 0 j = 1) (hfl : l.stackTraces = false) : gXi l E J yX4_advise cX4_advise 9 (some .int) 7 136 1 [.ref (gA E 2 10 0), .int x] I (f_X4_advise_x I x) (f_X4_advise_v I x) (f_X4_advise_s I x) := by
  refine g_entryX (lv := [(0, .ref (gA E 2 10 0)), (1, .int x)]) (by decide) (Nat.le_of_ble_eq_true rfl) rfl ?_
  intro p e s m below meth c0 ls K hG hS hml hr hlocks hout hl
  have K : kx E p m c0 cX4_advise "HayThieves" _ s := K
  have hx := K.1
  have hb := K.2.1
  have hts := K.2.2.1
  have hown := K.2.2.2.1
  have hSt := K.2.2.2.2
  have hN := hw0.N
  have hM := hw0.M
  obtain ⟨tS, hZ9, hT9⟩ := hSt.2.2.2.2.1
  have hZ9 := hZ9.narrow (B := gF E) (fun _ h => h.1)
  have hT9 := hT9.narrow (B := gF E) (fun _ h => h.1)
  refine lv_iload_n hx hb dX4_advise_0 rfl (lv_at hl 1 rfl) ?_
  refine lv_bipush (v := 40) hx hb dX4_advise_1 (by decide) ?_
  refine g_kxv (g_runSX (As := [.int x, .int 40]) (rest := []) K hml ca_X4_needMinutes q352 (m_X4_needMinutes l E J I x 40 hfl) hG hS rfl hl.1 (Nat.le_of_ble_eq_true rfl) ⟨by decide, by decide⟩ dX4_advise_3 ⟨by decide, by decide⟩) hS rfl (fun h9 => by simp only [f_X4_advise_x, if_neg h9]) hout hlocks (by decide) (by decide) (fun c1 H locs hG hS => ?_)
  refine lv_iconst (v := 4) hx hb dX4_advise_6 (by decide) ?_
  refine lv_istore_n (lv' := [(2, .int 4), (0, .ref (gA E 2 10 0)), (1, .int x)]) hx hb dX4_advise_7 rfl hl (by decide) rfl (fun ls hl => ?_)
  refine lv_iconst (v := (-1)) hx hb dX4_advise_8 (by decide) ?_
  refine lv_istore_n (lv' := [(3, .int (-1)), (2, .int 4), (0, .ref (gA E 2 10 0)), (1, .int x)]) hx hb dX4_advise_9 rfl hl (by decide) rfl (fun ls hl => ?_)
  refine va_gets hx hb hZ9 hS hown (hts _ q491) (fun _ h => h) dX4_advise_10 ?_
  refine lv_astore (lv' := [(4, .ref tS), (3, .int (-1)), (2, .int 4), (0, .ref (gA E 2 10 0)), (1, .int x)]) hx hb dX4_advise_13 hl (by decide) rfl (fun ls hl => ?_)
  refine lv_aload hx hb dX4_advise_15 (lv_at hl 0 rfl) ?_
  refine va_tlen hx hb hT9 hS (v := 5) rfl dX4_advise_17 ?_
  refine lv_istore (lv' := [(5, .int 5), (4, .ref tS), (3, .int (-1)), (2, .int 4), (0, .ref (gA E 2 10 0)), (1, .int x)]) hx hb dX4_advise_18 hl (by decide) rfl (fun ls hl => ?_)
  refine lv_iconst (v := 0) hx hb dX4_advise_20 (by decide) ?_
  refine lv_istore (lv' := [(6, .int 0), (5, .int 5), (4, .ref tS), (3, .int (-1)), (2, .int 4), (0, .ref (gA E 2 10 0)), (1, .int x)]) hx hb dX4_advise_21 hl (by decide) rfl (fun ls hl => ?_)
  have hX0 : f_X4_advise_x I x = 0 := by simp only [f_X4_advise_x, if_pos c1]
  have hL_l1 : ∀ (n i : Nat) (a : Int32) (b : Int32) (I1 : gI) (H : Heap) (locs : List Loc) (ls : Array Slot), i + n = 5 → I1 0 = I 0 → f_X4_advise_l1_v x n i a b I1 = f_X4_advise_v I x → f_X4_advise_l1_s x n i a b I1 = (f_X4_advise_s I x) → wf (I1 1) → GW E J I1 H → va_S (gF E) s.heap H locs → lv_has ls 9 [(6, .int (nI i)), (2, .int a), (3, .int b), (5, .int 5), (4, .ref tS), (0, .ref (gA E 2 10 0)), (1, .int x)] → W p l e (grx 7 136 1) s m ([.ref (gA E 2 10 0), .int x] : List Value).toArray below meth c0 H locs 1 6 (vx_MQ below (va_Qi (fun z9 (_ : Unit) => (f_X4_advise_x I x) = 0 ∧ z9 = f_X4_advise_v I x) (fun _ t => GW E J (f_X4_advise_s I x) t.heap) (gF E)) (gXC E J I (f_X4_advise_x I x)) ([.ref (gA E 2 10 0), .int x] : List Value).toArray s 1 (6 * 1) (gF E)) (F0 m 23 ls []) := by
    intro n
    induction n with
    | zero =>
      intro i a b I1 H locs ls hin hq0 hTv hTs hwL hG hS hl
      refine lv_iload hx hb dX4_advise_23 (lv_at hl 0 rfl) ?_
      refine lv_iload hx hb dX4_advise_25 (lv_at hl 3 rfl) ?_
      refine lv_icmp_ge (tgt := 94) hx hb dX4_advise_27 (by decide) (fun c2 => ?_) (fun c2 => ?_)
      · refine lv_iload_n hx hb dX4_advise_94 rfl (lv_at hl 1 rfl) ?_
        have eS : I1 = (f_X4_advise_s I x) := (by rw [← hTs]; simp only [f_X4_advise_l1_s, if_pos c2])
        rw [eS] at hG
        exact g_iretX K hG hS hr hlocks hX0 (by rw [← hTv]; simp only [f_X4_advise_l1_v, if_pos c2]) (by decide) (by decide) dX4_advise_95
      · exact absurd (lp_ge (show (5 : Int32) = nI 5 from rfl) (by omega) hin) c2
    | succ n ih =>
      intro i a b I1 H locs ls hin hq0 hTv hTs hwL hG hS hl
      refine lv_iload hx hb dX4_advise_23 (lv_at hl 0 rfl) ?_
      refine lv_iload hx hb dX4_advise_25 (lv_at hl 3 rfl) ?_
      refine lv_icmp_ge (tgt := 94) hx hb dX4_advise_27 (by decide) (fun c3 => ?_) (fun c3 => ?_)
      · exact absurd c3 (lp_nge (show (5 : Int32) = nI 5 from rfl) (by omega) hin)
      · refine lv_aload hx hb dX4_advise_30 (lv_at hl 4 rfl) ?_
        refine lv_iload hx hb dX4_advise_32 (lv_at hl 0 rfl) ?_
        refine va_ti hx hb hT9 hS (vp_in_nI (by omega) (by decide)) (v := .int (gsz i)) (by show Value.int (gsz (nI i).toNatClampNeg) = _; rw [nI_clamp (by omega)]) dX4_advise_34 ?_
        refine lv_istore (lv' := [(7, .int (gsz i)), (6, .int (nI i)), (2, .int a), (3, .int b), (5, .int 5), (4, .ref tS), (0, .ref (gA E 2 10 0)), (1, .int x)]) hx hb dX4_advise_35 hl (by decide) rfl (fun ls hl => ?_)
        refine lv_aload_n hx hb dX4_advise_37 rfl (lv_at hl 6 rfl) ?_
        refine gf_X4_16 K hG rfl dX4_advise_38 ?_
        refine lv_aload_n hx hb dX4_advise_41 rfl (lv_at hl 6 rfl) ?_
        refine gf_X4_12 K hG rfl dX4_advise_42 ?_
        refine g_kv (g_runV (As := [.ref (gA E 0 0 0)]) (rest := []) K hml ca_X3_copyFrom q465 (m_X3_copyFrom l E J I1 1 0 (by decide) hwL (by decide) (wf_ne hq0 hw0) (by omega) (by rw [hq0]; exact hzz) (by rw [hq0]; exact hzd)) hG hS (gv0 (by decide)) rfl rfl rfl rfl hl.1 (Nat.le_of_ble_eq_true rfl) ⟨by decide, by decide⟩ dX4_advise_45 ⟨by decide, by decide⟩) hS (fun H locs hG hS => ?_)
        obtain ⟨I2, hI2⟩ : ∃ z, z = f_X3_copyFrom I1 1 0 := ⟨_, rfl⟩
        rw [← hI2] at hG
        have hw2_1 : wf (I2 1) := by rw [hI2]; exact wf_X3_copyFrom I1 1 0 (by decide) hwL (by decide) (wf_ne hq0 hw0) (by omega) (by rw [hq0]; exact hzz) (by rw [hq0]; exact hzd)
        have hw2_0 : wf (I2 0) := by rw [hI2]; exact wf_ne ((ne_X3_copyFrom I1 1 0 (by decide) hwL (by decide) (wf_ne hq0 hw0) (by omega) (by rw [hq0]; exact hzz) (by rw [hq0]; exact hzd) (y' := 0) (by omega))) (wf_ne hq0 hw0)
        have hq2_0 : I2 0 = I 0 := by rw [hI2]; exact (ne_X3_copyFrom I1 1 0 (by decide) hwL (by decide) (wf_ne hq0 hw0) (by omega) (by rw [hq0]; exact hzz) (by rw [hq0]; exact hzd) (y' := 0) (by omega)).trans hq0
        refine lv_aload_n hx hb dX4_advise_48 rfl (lv_at hl 6 rfl) ?_
        refine gf_X4_16 K hG rfl dX4_advise_49 ?_
        refine lv_iload hx hb dX4_advise_52 (lv_at hl 0 rfl) ?_
        refine pf_X4_59 K hG hS (gv0 (by decide)) dX4_advise_54 (fun I3 hI3 H locs hG hS => ?_)
        have hw3_1 : wf (I3 1) := by rw [hI3]; exact wf_gU rfl hw2_1
        have hw3_0 : wf (I3 0) := by rw [hI3]; exact wf_other (by decide) hw2_0
        have hq3_0 : I3 0 = I 0 := by rw [hI3]; exact (gU_ne _ _ _ _ _ (by omega)).trans hq2_0
        refine lv_aload_n hx hb dX4_advise_57 rfl (lv_at hl 6 rfl) ?_
        refine gf_X4_16 K hG rfl dX4_advise_58 ?_
        refine lv_iload_n hx hb dX4_advise_61 rfl (lv_at hl 7 rfl) ?_
        refine g_kv (g_runV (As := [.int x]) (rest := []) K hml ca_X3_runMinutes q371 (m_X3_runMinutes l E J I3 1 x (by decide) hw3_1 (rg_mins (n := 40) rfl (by decide) c1)) hG hS (gv0 (by decide)) rfl rfl rfl rfl hl.1 (Nat.le_of_ble_eq_true rfl) ⟨by decide, by decide⟩ dX4_advise_62 ⟨by decide, by decide⟩) hS (fun H locs hG hS => ?_)
        obtain ⟨I4, hI4⟩ : ∃ z, z = f_X3_runMinutes I3 1 x := ⟨_, rfl⟩
        rw [← hI4] at hG
        have hw4_1 : wf (I4 1) := by rw [hI4]; exact wf_X3_runMinutes I3 1 x (by decide) hw3_1 (rg_mins (n := 40) rfl (by decide) c1)
        have hw4_0 : wf (I4 0) := by rw [hI4]; exact wf_ne ((ne_X3_runMinutes I3 1 x (by decide) hw3_1 (rg_mins (n := 40) rfl (by decide) c1) (y' := 0) (by omega))) hw3_0
        have hq4_0 : I4 0 = I 0 := by rw [hI4]; exact (ne_X3_runMinutes I3 1 x (by decide) hw3_1 (rg_mins (n := 40) rfl (by decide) c1) (y' := 0) (by omega)).trans hq3_0
        refine lv_aload_n hx hb dX4_advise_65 rfl (lv_at hl 6 rfl) ?_
        refine gf_X4_16 K hG rfl dX4_advise_66 ?_
        refine lv_bipush (v := 11) hx hb dX4_advise_69 (by decide) ?_
        refine g_ki (g_runV (As := [.int 11]) (rest := []) K hml ca_X3_tell q294 (m_X3_tell l E J I4 1 11 (by decide) hw4_1) hG hS (gv0 (by decide)) rfl rfl rfl rfl hl.1 (Nat.le_of_ble_eq_true rfl) ⟨by decide, by decide⟩ dX4_advise_71 ⟨by decide, by decide⟩) hS (fun H locs hG hS => ?_)
        refine lv_istore (lv' := [(8, .int (f_X3_tell I4 1 11)), (7, .int (gsz i)), (6, .int (nI i)), (2, .int a), (3, .int b), (5, .int 5), (4, .ref tS), (0, .ref (gA E 2 10 0)), (1, .int x)]) hx hb dX4_advise_74 hl (by decide) rfl (fun ls hl => ?_)
        refine lv_iload hx hb dX4_advise_76 (lv_at hl 0 rfl) ?_
        refine lv_iload_n hx hb dX4_advise_78 rfl (lv_at hl 4 rfl) ?_
        refine lv_icmp_le (tgt := 88) hx hb dX4_advise_79 (by decide) (fun c4 => ?_) (fun c4 => ?_)
        · refine lv_iinc (v := (nI (i + 1))) (lv' := [(6, .int (nI (i + 1))), (8, .int (f_X3_tell I4 1 11)), (7, .int (gsz i)), (2, .int a), (3, .int b), (5, .int 5), (4, .ref tS), (0, .ref (gA E 2 10 0)), (1, .int x)]) hx hb dX4_advise_88 hl (k := 2) rfl (nI_add i 1) (by decide) rfl (fun ls hl => ?_)
          refine lv_goto (tgt := 23) hx hb dX4_advise_91 (by decide) ?_
          exact ih (i + 1) a b I4 _ _ _ (by omega) hq4_0 (by rw [← hTv]; simp only [f_X4_advise_l1_v, ← hI2, ← hI3, ← hI4, if_neg c3, if_pos c4]) (by rw [← hTs]; simp only [f_X4_advise_l1_s, ← hI2, ← hI3, ← hI4, if_neg c3, if_pos c4]) hw4_1 hG hS (lv_sub hl [0, 3, 4, 5, 6, 7, 8] rfl)
        · refine lv_iload hx hb dX4_advise_82 (lv_at hl 0 rfl) ?_
          refine lv_istore_n (lv' := [(3, .int (f_X3_tell I4 1 11)), (8, .int (f_X3_tell I4 1 11)), (7, .int (gsz i)), (6, .int (nI i)), (2, .int a), (5, .int 5), (4, .ref tS), (0, .ref (gA E 2 10 0)), (1, .int x)]) hx hb dX4_advise_84 rfl hl (by decide) rfl (fun ls hl => ?_)
          refine lv_iload hx hb dX4_advise_85 (lv_at hl 2 rfl) ?_
          refine lv_istore_n (lv' := [(2, .int (gsz i)), (3, .int (f_X3_tell I4 1 11)), (8, .int (f_X3_tell I4 1 11)), (7, .int (gsz i)), (6, .int (nI i)), (5, .int 5), (4, .ref tS), (0, .ref (gA E 2 10 0)), (1, .int x)]) hx hb dX4_advise_87 rfl hl (by decide) rfl (fun ls hl => ?_)
          refine lv_iinc (v := (nI (i + 1))) (lv' := [(6, .int (nI (i + 1))), (2, .int (gsz i)), (3, .int (f_X3_tell I4 1 11)), (8, .int (f_X3_tell I4 1 11)), (7, .int (gsz i)), (5, .int 5), (4, .ref tS), (0, .ref (gA E 2 10 0)), (1, .int x)]) hx hb dX4_advise_88 hl (k := 4) rfl (nI_add i 1) (by decide) rfl (fun ls hl => ?_)
          refine lv_goto (tgt := 23) hx hb dX4_advise_91 (by decide) ?_
          exact ih (i + 1) (gsz i) (f_X3_tell I4 1 11) I4 _ _ _ (by omega) hq4_0 (by rw [← hTv]; simp only [f_X4_advise_l1_v, ← hI2, ← hI3, ← hI4, if_neg c3, if_neg c4]) (by rw [← hTs]; simp only [f_X4_advise_l1_s, ← hI2, ← hI3, ← hI4, if_neg c3, if_neg c4]) hw4_1 hG hS (lv_sub hl [0, 1, 2, 5, 6, 7, 8] rfl)
  exact hL_l1 5 0 4 (-1) I _ _ _ (Nat.zero_add _) rfl (by simp only [f_X4_advise_v, if_pos c1]) (by simp only [f_X4_advise_s, if_pos c1]) hw1 hG hS (lv_sub hl [0, 4, 3, 1, 2, 5, 6] rfl)
