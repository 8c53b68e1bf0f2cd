/-! PRINTED by wip/gen (ref.py): X6c -/
def f_X6_digest_l1  : Nat → Nat → Int64 → gI → Int64
  | 0, i, d, I1 =>
    d
  | n + 1, i, d, I1 =>
    f_X6_digest_l1 n (i + 1) ((d * 31) + (f_X6_counted I1 3 (nI i)).toInt64) I1
def f_X6_digest_l3  (i : Nat) : Nat → Nat → Int64 → gI → Int64
  | 0, j, d, I1 =>
    d
  | n + 1, j, d, I1 =>
    f_X6_digest_l3 i n (j + 1) ((d * 31) + (f_X6_ladTold I1 (nI i) (nI j)).toInt64) I1
def f_X6_digest_l4  (i : Nat) : Nat → Nat → Int64 → gI → Int64
  | 0, j, d, I1 =>
    d
  | n + 1, j, d, I1 =>
    f_X6_digest_l4 i n (j + 1) ((d * 31) + (I1 3 40 0 ((I1 3 32 0 ((nI ((8 * i) + j)).toNatClampNeg)).toNatClampNeg)).toInt64) I1
def f_X6_digest_l2  : Nat → Nat → Int64 → gI → Int64
  | 0, i, d, I1 =>
    d
  | n + 1, i, d, I1 =>
    let d4 := (f_X6_digest_l3 i 9 0 d I1)
    let d5 := (f_X6_digest_l4 i (I1 3 31 0 i).toNatClampNeg 0 d4 I1)
    f_X6_digest_l2 n (i + 1) d5 I1
def f_X6_digest_l6  (i : Nat) : Nat → Nat → Int64 → gI → Int64
  | 0, j, d, I1 =>
    d
  | n + 1, j, d, I1 =>
    f_X6_digest_l6 i n (j + 1) ((d * 31) + (f_X6_loadTold I1 (nI i) (nI j)).toInt64) I1
def f_X6_digest_l5  : Nat → Nat → Int64 → gI → Int64
  | 0, i, d, I1 =>
    d
  | n + 1, i, d, I1 =>
    let d7 := (f_X6_digest_l6 i 7 0 d I1)
    f_X6_digest_l5 n (i + 1) d7 I1
def ok_f_X6_digest_l1  : Nat → Nat → Int64 → gI → Prop
  | 0, i, d, I1 =>
    True
  | n + 1, i, d, I1 =>
    ok_X6_counted I1 3 (nI i) ∧
    ok_f_X6_digest_l1 n (i + 1) ((d * 31) + (f_X6_counted I1 3 (nI i)).toInt64) I1
def ok_f_X6_digest_l3  (i : Nat) : Nat → Nat → Int64 → gI → Prop
  | 0, j, d, I1 =>
    True
  | n + 1, j, d, I1 =>
    ok_X6_ladTold I1 (nI i) (nI j) ∧
    ok_f_X6_digest_l3 i n (j + 1) ((d * 31) + (f_X6_ladTold I1 (nI i) (nI j)).toInt64) I1
def ok_f_X6_digest_l4  (i : Nat) : Nat → Nat → Int64 → gI → Prop
  | 0, j, d, I1 =>
    True
  | n + 1, j, d, I1 =>
    vp_in (nI ((8 * i) + j)) 48 ∧
    vp_in (I1 3 32 0 ((nI ((8 * i) + j)).toNatClampNeg)) 600 ∧
    ok_f_X6_digest_l4 i n (j + 1) ((d * 31) + (I1 3 40 0 ((I1 3 32 0 ((nI ((8 * i) + j)).toNatClampNeg)).toNatClampNeg)).toInt64) I1
def ok_f_X6_digest_l2  : Nat → Nat → Int64 → gI → Prop
  | 0, i, d, I1 =>
    True
  | n + 1, i, d, I1 =>
    ok_f_X6_digest_l3 i 9 0 d I1 ∧
    ∀ d4, d4 = (f_X6_digest_l3 i 9 0 d I1) →
    isN (I1 3 31 0 i) 8 ∧
    ok_f_X6_digest_l4 i (I1 3 31 0 i).toNatClampNeg 0 d4 I1 ∧
    ∀ d5, d5 = (f_X6_digest_l4 i (I1 3 31 0 i).toNatClampNeg 0 d4 I1) →
    ok_f_X6_digest_l2 n (i + 1) d5 I1
def ok_f_X6_digest_l6  (i : Nat) : Nat → Nat → Int64 → gI → Prop
  | 0, j, d, I1 =>
    True
  | n + 1, j, d, I1 =>
    ok_X6_loadTold I1 (nI i) (nI j) ∧
    ok_f_X6_digest_l6 i n (j + 1) ((d * 31) + (f_X6_loadTold I1 (nI i) (nI j)).toInt64) I1
def ok_f_X6_digest_l5  : Nat → Nat → Int64 → gI → Prop
  | 0, i, d, I1 =>
    True
  | n + 1, i, d, I1 =>
    ok_f_X6_digest_l6 i 7 0 d I1 ∧
    ∀ d7, d7 = (f_X6_digest_l6 i 7 0 d I1) →
    ok_f_X6_digest_l5 n (i + 1) d7 I1
def ok_X6_digest (I : gI)  : Prop :=
  ∀ I1, I1 = gU I 2 11 0 0 0 →
  ok_f_X6_digest_l1 13 0 1531 I1 ∧
  ∀ d2, d2 = (f_X6_digest_l1 13 0 1531 I1) →
  isN (I1 2 11 0 1) 6 ∧
  ok_f_X6_digest_l2 (I1 2 11 0 1).toNatClampNeg 0 d2 I1 ∧
  ∀ d3, d3 = (f_X6_digest_l2 (I1 2 11 0 1).toNatClampNeg 0 d2 I1) →
  isN (I1 2 11 0 4) 10 ∧
  ok_f_X6_digest_l5 (I1 2 11 0 4).toNatClampNeg 0 d3 I1 ∧
  ∀ d6, d6 = (f_X6_digest_l5 (I1 2 11 0 4).toNatClampNeg 0 d3 I1) →
  True
def f_X6_digest_v (I : gI)  : Int64 :=
  let I1 := gU I 2 11 0 0 0
  let d2 := (f_X6_digest_l1 13 0 1531 I1)
  let d3 := (f_X6_digest_l2 (I1 2 11 0 1).toNatClampNeg 0 d2 I1)
  let d6 := (f_X6_digest_l5 (I1 2 11 0 4).toNatClampNeg 0 d3 I1)
  d6
def f_X6_digest_s (I : gI)  : gI :=
  let I1 := gU I 2 11 0 0 0
  let d2 := (f_X6_digest_l1 13 0 1531 I1)
  let d3 := (f_X6_digest_l2 (I1 2 11 0 1).toNatClampNeg 0 d2 I1)
  let d6 := (f_X6_digest_l5 (I1 2 11 0 4).toNatClampNeg 0 d3 I1)
  I1
set_option maxHeartbeats 4000000 in
set_option maxRecDepth 100000 in
theorem m_X6_digest (l : Launch) (E : gE) (J : Int64) (I : gI)  (hok : ok_X6_digest I) : gMl l E J yX6_digest cX6_digest 5 (some .long) 2 46 [.ref (gA E 2 11 0)] I (f_X6_digest_v I) (f_X6_digest_s I) := by
  refine g_entry (lv := [(0, .ref (gA E 2 11 0))]) (by decide) (Nat.le_of_ble_eq_true rfl) rfl ?_
  intro p e s m below meth c0 ls K hG hS hml hr hlocks hl
  have K : kx E p m c0 cX6_digest "HayThievesModel" _ s := K
  have hx := K.1
  have hb := K.2.1
  have hts := K.2.2.1
  have hown := K.2.2.2.1
  have hSt := K.2.2.2.2
  unfold ok_X6_digest at hok
  refine lv_aload_n hx hb dX6_digest_0 rfl (lv_at hl 0 rfl) ?_
  refine lv_iconst (v := 0) hx hb dX6_digest_1 (by decide) ?_
  refine pf_X6_36 K hG hS rfl dX6_digest_2 (fun I1 hI1 H locs hG hS => ?_)
  have hok := hok I1 hI1
  refine lv_ldc2 (own := "HayThievesModel") (v := 1531) hx hb hown (hts _ q974) dX6_digest_5 ?_
  refine lv_lstore_n (lv' := [(1, .long 1531), (0, .ref (gA E 2 11 0))]) hx hb dX6_digest_8 rfl hl (by decide) rfl (fun ls hl => ?_)
  refine lv_iconst (v := 0) hx hb dX6_digest_9 (by decide) ?_
  refine lv_istore_n (lv' := [(3, .int 0), (1, .long 1531), (0, .ref (gA E 2 11 0))]) hx hb dX6_digest_10 rfl hl (by decide) rfl (fun ls hl => ?_)
  obtain ⟨d2, hd2⟩ : ∃ z, z = (f_X6_digest_l1 13 0 1531 I1) := ⟨_, rfl⟩
  have hL_l1 : (∀ (H : Heap) (locs : List Loc) (ls : Array Slot), GW E J I1 H → va_S (gF E) s.heap H locs → lv_has ls 5 [(0, .ref (gA E 2 11 0)), (1, .long d2)] → W p l e (grm 2 46) s m ([.ref (gA E 2 11 0)] : List Value).toArray below meth c0 H locs 0 0 (MQ below (va_Ql (fun z9 (_ : Unit) => z9 = f_X6_digest_v I) (fun _ t => GW E J (f_X6_digest_s I) t.heap) (gF E)) ([.ref (gA E 2 11 0)] : List Value).toArray s 0 0 (gF E)) (F0 m 40 ls [])) → ∀ (n i : Nat) (d : Int64) (H : Heap) (locs : List Loc) (ls : Array Slot), i + n = 13 → f_X6_digest_l1 n i d I1 = d2 → ok_f_X6_digest_l1 n i d I1 → GW E J I1 H → va_S (gF E) s.heap H locs → lv_has ls 5 [(3, .int (nI i)), (1, .long d), (0, .ref (gA E 2 11 0))] → W p l e (grm 2 46) s m ([.ref (gA E 2 11 0)] : List Value).toArray below meth c0 H locs 0 0 (MQ below (va_Ql (fun z9 (_ : Unit) => z9 = f_X6_digest_v I) (fun _ t => GW E J (f_X6_digest_s I) t.heap) (gF E)) ([.ref (gA E 2 11 0)] : List Value).toArray s 0 0 (gF E)) (F0 m 11 ls []) := by
    intro hkont n
    induction n with
    | zero =>
      intro i d H locs ls hin hTv hok hG hS hl
      unfold ok_f_X6_digest_l1 at hok
      refine lv_iload_n hx hb dX6_digest_11 rfl (lv_at hl 0 rfl) ?_
      refine lv_bipush (v := 12) hx hb dX6_digest_12 (by decide) ?_
      refine lv_icmp_gt (tgt := 40) hx hb dX6_digest_14 (by decide) (fun c1 => ?_) (fun c1 => ?_)
      · skip
        have eV : d = d2 := by rw [← hTv]; simp only [f_X6_digest_l1, if_pos c1]
        rw [eV] at hl
        exact hkont _ _ _ hG hS (lv_sub hl [2, 1] rfl)
      · exact absurd (show nI 12 < nI i from nI_lt (by omega) (by omega)) c1
    | succ n ih =>
      intro i d H locs ls hin hTv hok hG hS hl
      unfold ok_f_X6_digest_l1 at hok
      refine lv_iload_n hx hb dX6_digest_11 rfl (lv_at hl 0 rfl) ?_
      refine lv_bipush (v := 12) hx hb dX6_digest_12 (by decide) ?_
      refine lv_icmp_gt (tgt := 40) hx hb dX6_digest_14 (by decide) (fun c2 => ?_) (fun c2 => ?_)
      · exact absurd c2 (show ¬ nI 12 < nI i from nI_nlt (by omega) (by omega))
      · skip
        refine lv_lload_n hx hb dX6_digest_17 rfl (lv_at hl 1 rfl) ?_
        refine lv_ldc2 (own := "HayThievesModel") (v := 31) hx hb hown (hts _ q975) dX6_digest_18 ?_
        refine lv_lmul hx hb dX6_digest_21 ?_
        refine lv_aload_n hx hb dX6_digest_22 rfl (lv_at hl 2 rfl) ?_
        refine lv_aload_n hx hb dX6_digest_23 rfl (lv_at hl 2 rfl) ?_
        refine gf_X6_29 K hG rfl dX6_digest_24 ?_
        refine lv_iload_n hx hb dX6_digest_27 rfl (lv_at hl 0 rfl) ?_
        obtain ⟨ho3, hok⟩ := hok
        refine g_ki (g_runV (As := [.ref (gA E 3 20 0), .int (nI i)]) (rest := [.long (d * 31)]) K hml ca_X6_counted q853 (m_X6_counted l E J I1 3 (nI i) (Or.inl rfl) ho3) hG hS rfl rfl rfl rfl rfl hl.1 (Nat.le_of_ble_eq_true rfl) ⟨by decide, by decide⟩ dX6_digest_28 ⟨Nat.zero_le _, Nat.zero_le _⟩) hS (fun H locs hG hS => ?_)
        refine lv_i2l hx hb dX6_digest_31 rfl ?_
        refine lv_ladd hx hb dX6_digest_32 ?_
        refine lv_lstore_n (lv' := [(1, .long ((d * 31) + (f_X6_counted I1 3 (nI i)).toInt64)), (3, .int (nI i)), (0, .ref (gA E 2 11 0))]) hx hb dX6_digest_33 rfl hl (by decide) rfl (fun ls hl => ?_)
        refine lv_iinc (v := (nI (i + 1))) (lv' := [(3, .int (nI (i + 1))), (1, .long ((d * 31) + (f_X6_counted I1 3 (nI i)).toInt64)), (0, .ref (gA E 2 11 0))]) hx hb dX6_digest_34 hl (k := 1) rfl (nI_add i 1) (by decide) rfl (fun ls hl => ?_)
        refine lv_goto (tgt := 11) hx hb dX6_digest_37 (by decide) ?_
        exact ih (i + 1) ((d * 31) + (f_X6_counted I1 3 (nI i)).toInt64) _ _ _ (by omega) (by rw [← hTv]; simp only [f_X6_digest_l1, if_neg c2]) hok hG hS (lv_sub hl [0, 1, 2] rfl)
  obtain ⟨ho4, hok⟩ := hok
  refine hL_l1 (fun H locs ls hG hS hl => ?_) 13 0 1531 _ _ _ (Nat.zero_add _) hd2.symm ho4 hG hS (lv_sub hl [0, 1, 2] rfl)
  have hok := hok d2 hd2
  refine lv_iconst (v := 0) hx hb dX6_digest_40 (by decide) ?_
  refine lv_istore_n (lv' := [(3, .int 0), (0, .ref (gA E 2 11 0)), (1, .long d2)]) hx hb dX6_digest_41 rfl hl (by decide) rfl (fun ls hl => ?_)
  obtain ⟨ho5, hok⟩ := hok
  have hNb := ho5.1
  obtain ⟨d3, hd3⟩ : ∃ z, z = (f_X6_digest_l2 (I1 2 11 0 1).toNatClampNeg 0 d2 I1) := ⟨_, rfl⟩
  have hL_l2 : (∀ (H : Heap) (locs : List Loc) (ls : Array Slot), GW E J I1 H → va_S (gF E) s.heap H locs → lv_has ls 5 [(0, .ref (gA E 2 11 0)), (1, .long d3)] → W p l e (grm 2 46) s m ([.ref (gA E 2 11 0)] : List Value).toArray below meth c0 H locs 0 0 (MQ below (va_Ql (fun z9 (_ : Unit) => z9 = f_X6_digest_v I) (fun _ t => GW E J (f_X6_digest_s I) t.heap) (gF E)) ([.ref (gA E 2 11 0)] : List Value).toArray s 0 0 (gF E)) (F0 m 141 ls [])) → ∀ (n i : Nat) (d : Int64) (H : Heap) (locs : List Loc) (ls : Array Slot), i + n = (I1 2 11 0 1).toNatClampNeg → f_X6_digest_l2 n i d I1 = d3 → ok_f_X6_digest_l2 n i d I1 → GW E J I1 H → va_S (gF E) s.heap H locs → lv_has ls 5 [(3, .int (nI i)), (1, .long d), (0, .ref (gA E 2 11 0))] → W p l e (grm 2 46) s m ([.ref (gA E 2 11 0)] : List Value).toArray below meth c0 H locs 0 0 (MQ below (va_Ql (fun z9 (_ : Unit) => z9 = f_X6_digest_v I) (fun _ t => GW E J (f_X6_digest_s I) t.heap) (gF E)) ([.ref (gA E 2 11 0)] : List Value).toArray s 0 0 (gF E)) (F0 m 42 ls []) := by
    intro hkont n
    induction n with
    | zero =>
      intro i d H locs ls hin hTv hok hG hS hl
      unfold ok_f_X6_digest_l2 at hok
      refine lv_iload_n hx hb dX6_digest_42 rfl (lv_at hl 0 rfl) ?_
      refine lv_aload_n hx hb dX6_digest_43 rfl (lv_at hl 2 rfl) ?_
      refine gf_X6_39 K hG rfl dX6_digest_44 ?_
      refine lv_icmp_ge (tgt := 141) hx hb dX6_digest_47 (by decide) (fun c6 => ?_) (fun c6 => ?_)
      · skip
        have eV : d = d3 := by rw [← hTv]; simp only [f_X6_digest_l2, if_pos c6]
        rw [eV] at hl
        exact hkont _ _ _ hG hS (lv_sub hl [2, 1] rfl)
      · exact absurd (lp_ge ho5.2 (by omega) hin) c6
    | succ n ih =>
      intro i d H locs ls hin hTv hok hG hS hl
      unfold ok_f_X6_digest_l2 at hok
      refine lv_iload_n hx hb dX6_digest_42 rfl (lv_at hl 0 rfl) ?_
      refine lv_aload_n hx hb dX6_digest_43 rfl (lv_at hl 2 rfl) ?_
      refine gf_X6_39 K hG rfl dX6_digest_44 ?_
      refine lv_icmp_ge (tgt := 141) hx hb dX6_digest_47 (by decide) (fun c7 => ?_) (fun c7 => ?_)
      · exact absurd c7 (lp_nge ho5.2 (by omega) hin)
      · skip
        refine lv_iconst (v := 0) hx hb dX6_digest_50 (by decide) ?_
        refine lv_istore (lv' := [(4, .int 0), (3, .int (nI i)), (1, .long d), (0, .ref (gA E 2 11 0))]) hx hb dX6_digest_51 hl (by decide) rfl (fun ls hl => ?_)
        obtain ⟨d4, hd4⟩ : ∃ z, z = (f_X6_digest_l3 i 9 0 d I1) := ⟨_, rfl⟩
        have hL_l3 : (∀ (H : Heap) (locs : List Loc) (ls : Array Slot), GW E J I1 H → va_S (gF E) s.heap H locs → lv_has ls 5 [(3, .int (nI i)), (0, .ref (gA E 2 11 0)), (1, .long d4)] → W p l e (grm 2 46) s m ([.ref (gA E 2 11 0)] : List Value).toArray below meth c0 H locs 0 0 (MQ below (va_Ql (fun z9 (_ : Unit) => z9 = f_X6_digest_v I) (fun _ t => GW E J (f_X6_digest_s I) t.heap) (gF E)) ([.ref (gA E 2 11 0)] : List Value).toArray s 0 0 (gF E)) (F0 m 81 ls [])) → ∀ (n j : Nat) (d : Int64) (H : Heap) (locs : List Loc) (ls : Array Slot), j + n = 9 → f_X6_digest_l3 i n j d I1 = d4 → ok_f_X6_digest_l3 i n j d I1 → GW E J I1 H → va_S (gF E) s.heap H locs → lv_has ls 5 [(4, .int (nI j)), (1, .long d), (3, .int (nI i)), (0, .ref (gA E 2 11 0))] → W p l e (grm 2 46) s m ([.ref (gA E 2 11 0)] : List Value).toArray below meth c0 H locs 0 0 (MQ below (va_Ql (fun z9 (_ : Unit) => z9 = f_X6_digest_v I) (fun _ t => GW E J (f_X6_digest_s I) t.heap) (gF E)) ([.ref (gA E 2 11 0)] : List Value).toArray s 0 0 (gF E)) (F0 m 53 ls []) := by
          intro hkont n
          induction n with
          | zero =>
            intro j d H locs ls hin hTv hok hG hS hl
            unfold ok_f_X6_digest_l3 at hok
            refine lv_iload hx hb dX6_digest_53 (lv_at hl 0 rfl) ?_
            refine lv_bipush (v := 8) hx hb dX6_digest_55 (by decide) ?_
            refine lv_icmp_gt (tgt := 81) hx hb dX6_digest_57 (by decide) (fun c8 => ?_) (fun c8 => ?_)
            · skip
              have eV : d = d4 := by rw [← hTv]; simp only [f_X6_digest_l3, if_pos c8]
              rw [eV] at hl
              exact hkont _ _ _ hG hS (lv_sub hl [2, 3, 1] rfl)
            · exact absurd (show nI 8 < nI j from nI_lt (by omega) (by omega)) c8
          | succ n ih =>
            intro j d H locs ls hin hTv hok hG hS hl
            unfold ok_f_X6_digest_l3 at hok
            refine lv_iload hx hb dX6_digest_53 (lv_at hl 0 rfl) ?_
            refine lv_bipush (v := 8) hx hb dX6_digest_55 (by decide) ?_
            refine lv_icmp_gt (tgt := 81) hx hb dX6_digest_57 (by decide) (fun c9 => ?_) (fun c9 => ?_)
            · exact absurd c9 (show ¬ nI 8 < nI j from nI_nlt (by omega) (by omega))
            · skip
              refine lv_lload_n hx hb dX6_digest_60 rfl (lv_at hl 1 rfl) ?_
              refine lv_ldc2 (own := "HayThievesModel") (v := 31) hx hb hown (hts _ q975) dX6_digest_61 ?_
              refine lv_lmul hx hb dX6_digest_64 ?_
              refine lv_aload_n hx hb dX6_digest_65 rfl (lv_at hl 3 rfl) ?_
              refine lv_iload_n hx hb dX6_digest_66 rfl (lv_at hl 2 rfl) ?_
              refine lv_iload hx hb dX6_digest_67 (lv_at hl 0 rfl) ?_
              obtain ⟨ho10, hok⟩ := hok
              refine g_ki (g_runV (As := [.int (nI i), .int (nI j)]) (rest := [.long (d * 31)]) K hml ca_X6_ladTold q825 (m_X6_ladTold l E J I1 (nI i) (nI j) ho10) hG hS rfl rfl rfl rfl rfl hl.1 (Nat.le_of_ble_eq_true rfl) ⟨by decide, by decide⟩ dX6_digest_69 ⟨Nat.zero_le _, Nat.zero_le _⟩) hS (fun H locs hG hS => ?_)
              refine lv_i2l hx hb dX6_digest_72 rfl ?_
              refine lv_ladd hx hb dX6_digest_73 ?_
              refine lv_lstore_n (lv' := [(1, .long ((d * 31) + (f_X6_ladTold I1 (nI i) (nI j)).toInt64)), (4, .int (nI j)), (3, .int (nI i)), (0, .ref (gA E 2 11 0))]) hx hb dX6_digest_74 rfl hl (by decide) rfl (fun ls hl => ?_)
              refine lv_iinc (v := (nI (j + 1))) (lv' := [(4, .int (nI (j + 1))), (1, .long ((d * 31) + (f_X6_ladTold I1 (nI i) (nI j)).toInt64)), (3, .int (nI i)), (0, .ref (gA E 2 11 0))]) hx hb dX6_digest_75 hl (k := 1) rfl (nI_add j 1) (by decide) rfl (fun ls hl => ?_)
              refine lv_goto (tgt := 53) hx hb dX6_digest_78 (by decide) ?_
              exact ih (j + 1) ((d * 31) + (f_X6_ladTold I1 (nI i) (nI j)).toInt64) _ _ _ (by omega) (by rw [← hTv]; simp only [f_X6_digest_l3, if_neg c9]) hok hG hS (lv_sub hl [0, 1, 2, 3] rfl)
        obtain ⟨ho11, hok⟩ := hok
        refine hL_l3 (fun H locs ls hG hS hl => ?_) 9 0 d _ _ _ (Nat.zero_add _) hd4.symm ho11 hG hS (lv_sub hl [0, 2, 1, 3] rfl)
        have hok := hok d4 hd4
        refine lv_iconst (v := 0) hx hb dX6_digest_81 (by decide) ?_
        refine lv_istore (lv' := [(4, .int 0), (3, .int (nI i)), (0, .ref (gA E 2 11 0)), (1, .long d4)]) hx hb dX6_digest_82 hl (by decide) rfl (fun ls hl => ?_)
        obtain ⟨ho12, hok⟩ := hok
        have hNb := ho12.1
        obtain ⟨d5, hd5⟩ : ∃ z, z = (f_X6_digest_l4 i (I1 3 31 0 i).toNatClampNeg 0 d4 I1) := ⟨_, rfl⟩
        have hL_l4 : (∀ (H : Heap) (locs : List Loc) (ls : Array Slot), GW E J I1 H → va_S (gF E) s.heap H locs → lv_has ls 5 [(3, .int (nI i)), (0, .ref (gA E 2 11 0)), (1, .long d5)] → W p l e (grm 2 46) s m ([.ref (gA E 2 11 0)] : List Value).toArray below meth c0 H locs 0 0 (MQ below (va_Ql (fun z9 (_ : Unit) => z9 = f_X6_digest_v I) (fun _ t => GW E J (f_X6_digest_s I) t.heap) (gF E)) ([.ref (gA E 2 11 0)] : List Value).toArray s 0 0 (gF E)) (F0 m 135 ls [])) → ∀ (n j : Nat) (d : Int64) (H : Heap) (locs : List Loc) (ls : Array Slot), j + n = (I1 3 31 0 i).toNatClampNeg → f_X6_digest_l4 i n j d I1 = d5 → ok_f_X6_digest_l4 i n j d I1 → GW E J I1 H → va_S (gF E) s.heap H locs → lv_has ls 5 [(4, .int (nI j)), (1, .long d), (3, .int (nI i)), (0, .ref (gA E 2 11 0))] → W p l e (grm 2 46) s m ([.ref (gA E 2 11 0)] : List Value).toArray below meth c0 H locs 0 0 (MQ below (va_Ql (fun z9 (_ : Unit) => z9 = f_X6_digest_v I) (fun _ t => GW E J (f_X6_digest_s I) t.heap) (gF E)) ([.ref (gA E 2 11 0)] : List Value).toArray s 0 0 (gF E)) (F0 m 84 ls []) := by
          intro hkont n
          induction n with
          | zero =>
            intro j d H locs ls hin hTv hok hG hS hl
            unfold ok_f_X6_digest_l4 at hok
            refine lv_iload hx hb dX6_digest_84 (lv_at hl 0 rfl) ?_
            refine lv_aload_n hx hb dX6_digest_86 rfl (lv_at hl 3 rfl) ?_
            refine gf_X6_29 K hG rfl dX6_digest_87 ?_
            refine gf_X6_49 K hG (gvs (Or.inl rfl) 20 rfl) dX6_digest_90 ?_
            refine lv_iload_n hx hb dX6_digest_93 rfl (lv_at hl 2 rfl) ?_
            refine g_iald K hG (gvs (Or.inl rfl) 31 rfl) rfl (fun _ => rfl) (vp_in_nI (Nat.lt_of_lt_of_le (show i < 6 by omega) (by decide)) (by decide)) dX6_digest_94 ?_
            rw [nI_clamp (Nat.lt_trans (show i < 6 by omega) (by decide))]
            refine lv_icmp_ge (tgt := 135) hx hb dX6_digest_95 (by decide) (fun c13 => ?_) (fun c13 => ?_)
            · skip
              have eV : d = d5 := by rw [← hTv]; simp only [f_X6_digest_l4, if_pos c13]
              rw [eV] at hl
              exact hkont _ _ _ hG hS (lv_sub hl [2, 3, 1] rfl)
            · exact absurd (lp_ge ho12.2 (by omega) hin) c13
          | succ n ih =>
            intro j d H locs ls hin hTv hok hG hS hl
            unfold ok_f_X6_digest_l4 at hok
            refine lv_iload hx hb dX6_digest_84 (lv_at hl 0 rfl) ?_
            refine lv_aload_n hx hb dX6_digest_86 rfl (lv_at hl 3 rfl) ?_
            refine gf_X6_29 K hG rfl dX6_digest_87 ?_
            refine gf_X6_49 K hG (gvs (Or.inl rfl) 20 rfl) dX6_digest_90 ?_
            refine lv_iload_n hx hb dX6_digest_93 rfl (lv_at hl 2 rfl) ?_
            refine g_iald K hG (gvs (Or.inl rfl) 31 rfl) rfl (fun _ => rfl) (vp_in_nI (Nat.lt_of_lt_of_le (show i < 6 by omega) (by decide)) (by decide)) dX6_digest_94 ?_
            rw [nI_clamp (Nat.lt_trans (show i < 6 by omega) (by decide))]
            refine lv_icmp_ge (tgt := 135) hx hb dX6_digest_95 (by decide) (fun c14 => ?_) (fun c14 => ?_)
            · exact absurd c14 (lp_nge ho12.2 (by omega) hin)
            · skip
              refine lv_lload_n hx hb dX6_digest_98 rfl (lv_at hl 1 rfl) ?_
              refine lv_ldc2 (own := "HayThievesModel") (v := 31) hx hb hown (hts _ q975) dX6_digest_99 ?_
              refine lv_lmul hx hb dX6_digest_102 ?_
              refine lv_aload_n hx hb dX6_digest_103 rfl (lv_at hl 3 rfl) ?_
              refine gf_X6_29 K hG rfl dX6_digest_104 ?_
              refine gf_X6_52 K hG (gvs (Or.inl rfl) 20 rfl) dX6_digest_107 ?_
              refine lv_aload_n hx hb dX6_digest_110 rfl (lv_at hl 3 rfl) ?_
              refine gf_X6_29 K hG rfl dX6_digest_111 ?_
              refine gf_X6_144 K hG (gvs (Or.inl rfl) 20 rfl) dX6_digest_114 ?_
              refine lv_bipush (v := 8) hx hb dX6_digest_117 (by decide) ?_
              refine lv_iload_n hx hb dX6_digest_119 rfl (lv_at hl 2 rfl) ?_
              refine lv_imul hx hb dX6_digest_120 ?_
              rw [show (8 : Int32) * (nI i) = nI (8 * i) from pk_mul 8 i]
              refine lv_iload hx hb dX6_digest_121 (lv_at hl 0 rfl) ?_
              refine lv_iadd hx hb dX6_digest_123 ?_
              rw [show ((nI (8 * i)) : Int32) + (nI j) = nI ((8 * i) + j) from nI_add (8 * i) j]
              obtain ⟨ho15, hok⟩ := hok
              refine g_iald K hG (gvs (Or.inl rfl) 32 rfl) rfl (fun _ => rfl) ho15 dX6_digest_124 ?_
              obtain ⟨ho16, hok⟩ := hok
              refine g_iald K hG (gvs (Or.inl rfl) 40 rfl) rfl (fun _ => rfl) ho16 dX6_digest_125 ?_
              refine lv_i2l hx hb dX6_digest_126 rfl ?_
              refine lv_ladd hx hb dX6_digest_127 ?_
              refine lv_lstore_n (lv' := [(1, .long ((d * 31) + (I1 3 40 0 ((I1 3 32 0 ((nI ((8 * i) + j)).toNatClampNeg)).toNatClampNeg)).toInt64)), (4, .int (nI j)), (3, .int (nI i)), (0, .ref (gA E 2 11 0))]) hx hb dX6_digest_128 rfl hl (by decide) rfl (fun ls hl => ?_)
              refine lv_iinc (v := (nI (j + 1))) (lv' := [(4, .int (nI (j + 1))), (1, .long ((d * 31) + (I1 3 40 0 ((I1 3 32 0 ((nI ((8 * i) + j)).toNatClampNeg)).toNatClampNeg)).toInt64)), (3, .int (nI i)), (0, .ref (gA E 2 11 0))]) hx hb dX6_digest_129 hl (k := 1) rfl (nI_add j 1) (by decide) rfl (fun ls hl => ?_)
              refine lv_goto (tgt := 84) hx hb dX6_digest_132 (by decide) ?_
              exact ih (j + 1) ((d * 31) + (I1 3 40 0 ((I1 3 32 0 ((nI ((8 * i) + j)).toNatClampNeg)).toNatClampNeg)).toInt64) _ _ _ (by omega) (by rw [← hTv]; simp only [f_X6_digest_l4, if_neg c14]) hok hG hS (lv_sub hl [0, 1, 2, 3] rfl)
        obtain ⟨ho17, hok⟩ := hok
        refine hL_l4 (fun H locs ls hG hS hl => ?_) ((I1 3 31 0 i).toNatClampNeg) 0 d4 _ _ _ (Nat.zero_add _) hd5.symm ho17 hG hS (lv_sub hl [0, 3, 1, 2] rfl)
        have hok := hok d5 hd5
        refine lv_iinc (v := (nI (i + 1))) (lv' := [(3, .int (nI (i + 1))), (0, .ref (gA E 2 11 0)), (1, .long d5)]) hx hb dX6_digest_135 hl (k := 0) rfl (nI_add i 1) (by decide) rfl (fun ls hl => ?_)
        refine lv_goto (tgt := 42) hx hb dX6_digest_138 (by decide) ?_
        exact ih (i + 1) d5 _ _ _ (by omega) (by rw [← hTv]; simp only [f_X6_digest_l2, ← hd4, ← hd5, if_neg c7]) hok hG hS (lv_sub hl [0, 2, 1] rfl)
  obtain ⟨ho18, hok⟩ := hok
  refine hL_l2 (fun H locs ls hG hS hl => ?_) ((I1 2 11 0 1).toNatClampNeg) 0 d2 _ _ _ (Nat.zero_add _) hd3.symm ho18 hG hS (lv_sub hl [0, 2, 1] rfl)
  have hok := hok d3 hd3
  refine lv_iconst (v := 0) hx hb dX6_digest_141 (by decide) ?_
  refine lv_istore_n (lv' := [(3, .int 0), (0, .ref (gA E 2 11 0)), (1, .long d3)]) hx hb dX6_digest_142 rfl hl (by decide) rfl (fun ls hl => ?_)
  obtain ⟨ho19, hok⟩ := hok
  have hNb := ho19.1
  obtain ⟨d6, hd6⟩ : ∃ z, z = (f_X6_digest_l5 (I1 2 11 0 4).toNatClampNeg 0 d3 I1) := ⟨_, rfl⟩
  have hL_l5 : (∀ (H : Heap) (locs : List Loc) (ls : Array Slot), GW E J I1 H → va_S (gF E) s.heap H locs → lv_has ls 5 [(0, .ref (gA E 2 11 0)), (1, .long d6)] → W p l e (grm 2 46) s m ([.ref (gA E 2 11 0)] : List Value).toArray below meth c0 H locs 0 0 (MQ below (va_Ql (fun z9 (_ : Unit) => z9 = f_X6_digest_v I) (fun _ t => GW E J (f_X6_digest_s I) t.heap) (gF E)) ([.ref (gA E 2 11 0)] : List Value).toArray s 0 0 (gF E)) (F0 m 188 ls [])) → ∀ (n i : Nat) (d : Int64) (H : Heap) (locs : List Loc) (ls : Array Slot), i + n = (I1 2 11 0 4).toNatClampNeg → f_X6_digest_l5 n i d I1 = d6 → ok_f_X6_digest_l5 n i d I1 → GW E J I1 H → va_S (gF E) s.heap H locs → lv_has ls 5 [(3, .int (nI i)), (1, .long d), (0, .ref (gA E 2 11 0))] → W p l e (grm 2 46) s m ([.ref (gA E 2 11 0)] : List Value).toArray below meth c0 H locs 0 0 (MQ below (va_Ql (fun z9 (_ : Unit) => z9 = f_X6_digest_v I) (fun _ t => GW E J (f_X6_digest_s I) t.heap) (gF E)) ([.ref (gA E 2 11 0)] : List Value).toArray s 0 0 (gF E)) (F0 m 143 ls []) := by
    intro hkont n
    induction n with
    | zero =>
      intro i d H locs ls hin hTv hok hG hS hl
      unfold ok_f_X6_digest_l5 at hok
      refine lv_iload_n hx hb dX6_digest_143 rfl (lv_at hl 0 rfl) ?_
      refine lv_aload_n hx hb dX6_digest_144 rfl (lv_at hl 2 rfl) ?_
      refine gf_X6_46 K hG rfl dX6_digest_145 ?_
      refine lv_icmp_ge (tgt := 188) hx hb dX6_digest_148 (by decide) (fun c20 => ?_) (fun c20 => ?_)
      · skip
        have eV : d = d6 := by rw [← hTv]; simp only [f_X6_digest_l5, if_pos c20]
        rw [eV] at hl
        exact hkont _ _ _ hG hS (lv_sub hl [2, 1] rfl)
      · exact absurd (lp_ge ho19.2 (by omega) hin) c20
    | succ n ih =>
      intro i d H locs ls hin hTv hok hG hS hl
      unfold ok_f_X6_digest_l5 at hok
      refine lv_iload_n hx hb dX6_digest_143 rfl (lv_at hl 0 rfl) ?_
      refine lv_aload_n hx hb dX6_digest_144 rfl (lv_at hl 2 rfl) ?_
      refine gf_X6_46 K hG rfl dX6_digest_145 ?_
      refine lv_icmp_ge (tgt := 188) hx hb dX6_digest_148 (by decide) (fun c21 => ?_) (fun c21 => ?_)
      · exact absurd c21 (lp_nge ho19.2 (by omega) hin)
      · skip
        refine lv_iconst (v := 0) hx hb dX6_digest_151 (by decide) ?_
        refine lv_istore (lv' := [(4, .int 0), (3, .int (nI i)), (1, .long d), (0, .ref (gA E 2 11 0))]) hx hb dX6_digest_152 hl (by decide) rfl (fun ls hl => ?_)
        obtain ⟨d7, hd7⟩ : ∃ z, z = (f_X6_digest_l6 i 7 0 d I1) := ⟨_, rfl⟩
        have hL_l6 : (∀ (H : Heap) (locs : List Loc) (ls : Array Slot), GW E J I1 H → va_S (gF E) s.heap H locs → lv_has ls 5 [(3, .int (nI i)), (0, .ref (gA E 2 11 0)), (1, .long d7)] → W p l e (grm 2 46) s m ([.ref (gA E 2 11 0)] : List Value).toArray below meth c0 H locs 0 0 (MQ below (va_Ql (fun z9 (_ : Unit) => z9 = f_X6_digest_v I) (fun _ t => GW E J (f_X6_digest_s I) t.heap) (gF E)) ([.ref (gA E 2 11 0)] : List Value).toArray s 0 0 (gF E)) (F0 m 182 ls [])) → ∀ (n j : Nat) (d : Int64) (H : Heap) (locs : List Loc) (ls : Array Slot), j + n = 7 → f_X6_digest_l6 i n j d I1 = d7 → ok_f_X6_digest_l6 i n j d I1 → GW E J I1 H → va_S (gF E) s.heap H locs → lv_has ls 5 [(4, .int (nI j)), (1, .long d), (3, .int (nI i)), (0, .ref (gA E 2 11 0))] → W p l e (grm 2 46) s m ([.ref (gA E 2 11 0)] : List Value).toArray below meth c0 H locs 0 0 (MQ below (va_Ql (fun z9 (_ : Unit) => z9 = f_X6_digest_v I) (fun _ t => GW E J (f_X6_digest_s I) t.heap) (gF E)) ([.ref (gA E 2 11 0)] : List Value).toArray s 0 0 (gF E)) (F0 m 154 ls []) := by
          intro hkont n
          induction n with
          | zero =>
            intro j d H locs ls hin hTv hok hG hS hl
            unfold ok_f_X6_digest_l6 at hok
            refine lv_iload hx hb dX6_digest_154 (lv_at hl 0 rfl) ?_
            refine lv_bipush (v := 6) hx hb dX6_digest_156 (by decide) ?_
            refine lv_icmp_gt (tgt := 182) hx hb dX6_digest_158 (by decide) (fun c22 => ?_) (fun c22 => ?_)
            · skip
              have eV : d = d7 := by rw [← hTv]; simp only [f_X6_digest_l6, if_pos c22]
              rw [eV] at hl
              exact hkont _ _ _ hG hS (lv_sub hl [2, 3, 1] rfl)
            · exact absurd (show nI 6 < nI j from nI_lt (by omega) (by omega)) c22
          | succ n ih =>
            intro j d H locs ls hin hTv hok hG hS hl
            unfold ok_f_X6_digest_l6 at hok
            refine lv_iload hx hb dX6_digest_154 (lv_at hl 0 rfl) ?_
            refine lv_bipush (v := 6) hx hb dX6_digest_156 (by decide) ?_
            refine lv_icmp_gt (tgt := 182) hx hb dX6_digest_158 (by decide) (fun c23 => ?_) (fun c23 => ?_)
            · exact absurd c23 (show ¬ nI 6 < nI j from nI_nlt (by omega) (by omega))
            · skip
              refine lv_lload_n hx hb dX6_digest_161 rfl (lv_at hl 1 rfl) ?_
              refine lv_ldc2 (own := "HayThievesModel") (v := 31) hx hb hown (hts _ q975) dX6_digest_162 ?_
              refine lv_lmul hx hb dX6_digest_165 ?_
              refine lv_aload_n hx hb dX6_digest_166 rfl (lv_at hl 3 rfl) ?_
              refine lv_iload_n hx hb dX6_digest_167 rfl (lv_at hl 2 rfl) ?_
              refine lv_iload hx hb dX6_digest_168 (lv_at hl 0 rfl) ?_
              obtain ⟨ho24, hok⟩ := hok
              refine g_ki (g_runV (As := [.int (nI i), .int (nI j)]) (rest := [.long (d * 31)]) K hml ca_X6_loadTold q845 (m_X6_loadTold l E J I1 (nI i) (nI j) ho24) hG hS rfl rfl rfl rfl rfl hl.1 (Nat.le_of_ble_eq_true rfl) ⟨by decide, by decide⟩ dX6_digest_170 ⟨Nat.zero_le _, Nat.zero_le _⟩) hS (fun H locs hG hS => ?_)
              refine lv_i2l hx hb dX6_digest_173 rfl ?_
              refine lv_ladd hx hb dX6_digest_174 ?_
              refine lv_lstore_n (lv' := [(1, .long ((d * 31) + (f_X6_loadTold I1 (nI i) (nI j)).toInt64)), (4, .int (nI j)), (3, .int (nI i)), (0, .ref (gA E 2 11 0))]) hx hb dX6_digest_175 rfl hl (by decide) rfl (fun ls hl => ?_)
              refine lv_iinc (v := (nI (j + 1))) (lv' := [(4, .int (nI (j + 1))), (1, .long ((d * 31) + (f_X6_loadTold I1 (nI i) (nI j)).toInt64)), (3, .int (nI i)), (0, .ref (gA E 2 11 0))]) hx hb dX6_digest_176 hl (k := 1) rfl (nI_add j 1) (by decide) rfl (fun ls hl => ?_)
              refine lv_goto (tgt := 154) hx hb dX6_digest_179 (by decide) ?_
              exact ih (j + 1) ((d * 31) + (f_X6_loadTold I1 (nI i) (nI j)).toInt64) _ _ _ (by omega) (by rw [← hTv]; simp only [f_X6_digest_l6, if_neg c23]) hok hG hS (lv_sub hl [0, 1, 2, 3] rfl)
        obtain ⟨ho25, hok⟩ := hok
        refine hL_l6 (fun H locs ls hG hS hl => ?_) 7 0 d _ _ _ (Nat.zero_add _) hd7.symm ho25 hG hS (lv_sub hl [0, 2, 1, 3] rfl)
        have hok := hok d7 hd7
        refine lv_iinc (v := (nI (i + 1))) (lv' := [(3, .int (nI (i + 1))), (0, .ref (gA E 2 11 0)), (1, .long d7)]) hx hb dX6_digest_182 hl (k := 0) rfl (nI_add i 1) (by decide) rfl (fun ls hl => ?_)
        refine lv_goto (tgt := 143) hx hb dX6_digest_185 (by decide) ?_
        exact ih (i + 1) d7 _ _ _ (by omega) (by rw [← hTv]; simp only [f_X6_digest_l5, ← hd7, if_neg c21]) hok hG hS (lv_sub hl [0, 2, 1] rfl)
  obtain ⟨ho26, hok⟩ := hok
  refine hL_l5 (fun H locs ls hG hS hl => ?_) ((I1 2 11 0 4).toNatClampNeg) 0 d3 _ _ _ (Nat.zero_add _) hd6.symm ho26 hG hS (lv_sub hl [0, 2, 1] rfl)
  have hok := hok d6 hd6
  refine lv_lload_n hx hb dX6_digest_188 rfl (lv_at hl 1 rfl) ?_
  have eS : I1 = (f_X6_digest_s I) := (by simp only [f_X6_digest_s, ← hI1, ← hd2, ← hd3, ← hd6])
  rw [eS] at hG
  exact g_lret K hG hS hr hlocks (by simp only [f_X6_digest_v, ← hI1, ← hd2, ← hd3, ← hd6]) dX6_digest_189
