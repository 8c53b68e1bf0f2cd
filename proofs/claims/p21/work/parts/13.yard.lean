/-! PRINTED by wip/gen (cls.py): X3 -/

theorem rg_320a {x : Int32} (h1 : ¬ x < 0) (h2 : ¬ 320 ≤ x) : vp_in x 320 := by
  obtain ⟨j, hj, rfl⟩ := nI_of h1
  refine vp_in_nI ?_ (by decide)
  rcases Nat.lt_or_ge j 320 with q | q
  · exact q
  · exact absurd (show nI 320 ≤ nI j from nI_le q hj) h2
theorem rg_320b {x : Int32} (h1 : ¬ x < 0) (h2 : x < 320) : vp_in x 320 := by
  obtain ⟨j, hj, rfl⟩ := nI_of h1
  refine vp_in_nI ?_ (by decide)
  rcases Nat.lt_or_ge j 320 with q | q
  · exact q
  · exact absurd h2 (show ¬ nI j < nI 320 from nI_nlt q hj)
theorem rg_div {x : Int32} (h : vp_in x 320) : vp_in (x / 32) 10 := by
  obtain ⟨j, hj, rfl⟩ := vp_in_of h (by decide)
  have e : nI j / 32 = nI (j / 32) := pk_div (d := 32) (by omega) (by decide) (by decide)
  rw [e]
  exact vp_in_nI (by omega) (by decide)
theorem rg_xor {x : Int32} (h : vp_in x 320) : vp_in (x ^^^ 1) 320 := by
  obtain ⟨j, hj, rfl⟩ := vp_in_of h (by decide)
  have key : ∀ j, j < 320 → vp_in (nI j ^^^ 1) 320 := by
    have h2 : (List.range 320).all (fun j => decide (¬ (nI j ^^^ 1 < 0 ∨ 320 ≤ (nI j ^^^ 1).toNatClampNeg))) = true := by decide +kernel
    intro j hj
    have h3 : decide (¬ (nI j ^^^ 1 < 0 ∨ 320 ≤ (nI j ^^^ 1).toNatClampNeg)) = true := List.all_eq_true.mp h2 j (List.mem_range.mpr hj)
    exact (of_decide_eq_true h3 : ¬ (nI j ^^^ 1 < 0 ∨ 320 ≤ (nI j ^^^ 1).toNatClampNeg))
  exact key j hj
theorem rg_lt {x z : Int32} {b : Nat} (h : isN z b) (h1 : ¬ x < 0) (h2 : x < z) : vp_in x b := by
  obtain ⟨j, hj, rfl⟩ := nI_of h1
  obtain ⟨hk, hz⟩ := h
  generalize z.toNatClampNeg = k at hk hz
  subst hz
  have hlt : j < k := by
    rcases Nat.lt_or_ge j k with q | q
    · exact q
    · exact absurd h2 (nI_nlt q hj)
  intro q
  rcases q with q | q
  · exact h1 q
  · rw [nI_clamp hj] at q
    omega
theorem rg_self {z : Int32} {b : Nat} (h : isN z b) (hb : b < 2 ^ 31) (h2 : z < nI b) : vp_in z b := by
  obtain ⟨hk, hz⟩ := h
  generalize z.toNatClampNeg = k at hk hz
  subst hz
  refine vp_in_nI ?_ hb
  rcases Nat.lt_or_ge k b with q | q
  · exact q
  · exact absurd h2 (nI_nlt q (by omega))
theorem rg_up {z : Int32} {b : Nat} (h : vp_in z b) (hb : b < 2 ^ 31) : isN (z + 1) b := by
  obtain ⟨j, hj, rfl⟩ := vp_in_of h hb
  rw [nI_1]
  exact isN_nI (by omega) hb
theorem wf_N {I : gI} {y : Nat} {x : Int32} (hx : isN x 6) (h : wf (I y)) : wf (gU I y 0 0 4 x y) := by
  rw [gU_at]
  obtain ⟨h1, h2, h3, h4, h5⟩ := h
  exact ⟨hx, h2, h3, h4, h5⟩
theorem wf_M {I : gI} {y : Nat} {x : Int32} (hx : isN x 10) (h : wf (I y)) : wf (gU I y 0 0 5 x y) := by
  rw [gU_at]
  obtain ⟨h1, h2, h3, h4, h5⟩ := h
  exact ⟨h1, hx, h3, h4, h5⟩
theorem rg_next1 {Z : gY} (hw : wf Z) {k i : Nat} (hk : k < 6) (hi : i < 6) (c : Z 1 k 0 + nI i < Z 0 0 4) : vp_in (Z 1 k 0 + nI i) 6 := by
  rw [hw.num hk, nI_add] at c ⊢
  exact rg_lt ⟨hw.N, hw.Ne⟩ (nI_pos (by omega)) c
theorem rg_next2 {Z : gY} (hw : wf Z) {k i : Nat} (hk : k < 6) (hi : i < 6) (hn : i < (Z 0 0 4).toNatClampNeg) (c : ¬ Z 1 k 0 + nI i < Z 0 0 4) : vp_in (Z 1 k 0 + nI i - Z 0 0 4) 6 := by
  have hN := hw.N
  rw [hw.num hk, nI_add, hw.Ne] at c ⊢
  generalize (Z 0 0 4).toNatClampNeg = N at *
  have hge : N ≤ k + i := by
    rcases Nat.lt_or_ge (k + i) N with q | q
    · exact absurd (nI_lt q (by omega)) c
    · exact q
  rw [pk_sub hge]
  exact vp_in_nI (by omega) (by decide)

def f_X3_loadsThatAre_l1 (y : Nat) (x : Int32) : Nat → Nat → Int32 → gI → Int32
  | 0, i, a, I =>
    a
  | n + 1, i, a, I =>
    if (I y 4 i 1) = x then
      f_X3_loadsThatAre_l1 y x n (i + 1) (a + 1) I
    else
      f_X3_loadsThatAre_l1 y x n (i + 1) a I
def f_X3_loadsThatAre (I : gI) (y : Nat) (x : Int32) : Int32 :=
  f_X3_loadsThatAre_l1 y x ((I y 0 0 5).toNatClampNeg) 0 0 I
set_option maxHeartbeats 4000000 in
set_option maxRecDepth 100000 in
theorem m_X3_loadsThatAre (l : Launch) (E : gE) (J : Int64) (I : gI) (y : Nat) (x : Int32) (hy : y < 2) (hw : wf (I y)) : gMi l E J yX3_loadsThatAre cX3_loadsThatAre 4 (some .int) 0 0 [.ref (gA E y 0 0), .int x] I (f_X3_loadsThatAre I y x) I := by
  refine g_entry (lv := [(0, .ref (gA E y 0 0)), (1, .int x)]) (by decide) (Nat.le_of_ble_eq_true rfl) rfl ?_
  intro p e s m below meth c0 ls K hG hS hml hr hlocks hl
  have K : kx E p m c0 cX3_loadsThatAre "HayThieves$Yard" _ s := K
  have hx := K.1
  have hb := K.2.1
  have hts := K.2.2.1
  have hown := K.2.2.2.1
  have hSt := K.2.2.2.2
  have hN := hw.N
  have hM := hw.M
  refine lv_iconst (v := 0) hx hb dX3_loadsThatAre_0 (by decide) ?_
  refine lv_istore_n (lv' := [(2, .int 0), (0, .ref (gA E y 0 0)), (1, .int x)]) hx hb dX3_loadsThatAre_1 rfl hl (by decide) rfl (fun ls hl => ?_)
  refine lv_iconst (v := 0) hx hb dX3_loadsThatAre_2 (by decide) ?_
  refine lv_istore_n (lv' := [(3, .int 0), (2, .int 0), (0, .ref (gA E y 0 0)), (1, .int x)]) hx hb dX3_loadsThatAre_3 rfl hl (by decide) rfl (fun ls hl => ?_)
  have hL_l1 : ∀ (n i : Nat) (a : Int32) (H : Heap) (locs : List Loc) (ls : Array Slot), i + n = (I y 0 0 5).toNatClampNeg → f_X3_loadsThatAre_l1 y x n i a I = f_X3_loadsThatAre I y x → GW E J I H → va_S (gF E) s.heap H locs → lv_has ls 4 [(3, .int (nI i)), (2, .int a), (0, .ref (gA E y 0 0)), (1, .int x)] → W p l e (grm 0 0) s m ([.ref (gA E y 0 0), .int x] : List Value).toArray below meth c0 H locs 0 0 (MQ below (va_Qi (fun z9 (_ : Unit) => z9 = f_X3_loadsThatAre I y x) (fun _ t => GW E J I t.heap) (gF E)) ([.ref (gA E y 0 0), .int x] : List Value).toArray s 0 0 (gF E)) (F0 m 4 ls []) := by
    intro n
    induction n with
    | zero =>
      intro i a H locs ls hin hTv hG hS hl
      refine lv_iload_n hx hb dX3_loadsThatAre_4 rfl (lv_at hl 0 rfl) ?_
      refine lv_aload_n hx hb dX3_loadsThatAre_5 rfl (lv_at hl 2 rfl) ?_
      refine gf_X3_35 K hG (gv0 hy) dX3_loadsThatAre_6 ?_
      refine lv_icmp_ge (tgt := 34) hx hb dX3_loadsThatAre_9 (by decide) (fun c1 => ?_) (fun c1 => ?_)
      · refine lv_iload_n hx hb dX3_loadsThatAre_34 rfl (lv_at hl 1 rfl) ?_
        exact g_iret K hG hS hr hlocks (by rw [← hTv]; simp only [f_X3_loadsThatAre_l1, if_pos c1]) dX3_loadsThatAre_35
      · exact absurd (lp_ge hw.Me (by omega) hin) c1
    | succ n ih =>
      intro i a H locs ls hin hTv hG hS hl
      refine lv_iload_n hx hb dX3_loadsThatAre_4 rfl (lv_at hl 0 rfl) ?_
      refine lv_aload_n hx hb dX3_loadsThatAre_5 rfl (lv_at hl 2 rfl) ?_
      refine gf_X3_35 K hG (gv0 hy) dX3_loadsThatAre_6 ?_
      refine lv_icmp_ge (tgt := 34) hx hb dX3_loadsThatAre_9 (by decide) (fun c2 => ?_) (fun c2 => ?_)
      · exact absurd c2 (lp_nge hw.Me (by omega) hin)
      · refine lv_aload_n hx hb dX3_loadsThatAre_12 rfl (lv_at hl 2 rfl) ?_
        refine gf_X3_19 K hG (gv0 hy) dX3_loadsThatAre_13 ?_
        refine lv_iload_n hx hb dX3_loadsThatAre_16 rfl (lv_at hl 0 rfl) ?_
        refine g_loads K hG (gv8 hy) (vp_in_nI (by omega) (by decide)) dX3_loadsThatAre_17 ?_
        rw [nI_clamp (by omega)]
        refine gf_X3_88 K hG (gv4 hy (by omega)) dX3_loadsThatAre_18 ?_
        refine lv_iload_n hx hb dX3_loadsThatAre_21 rfl (lv_at hl 3 rfl) ?_
        refine lv_icmp_ne (tgt := 28) hx hb dX3_loadsThatAre_22 (by decide) (fun c3 => ?_) (fun c3 => ?_)
        · refine lv_iinc (v := (nI (i + 1))) (lv' := [(3, .int (nI (i + 1))), (2, .int a), (0, .ref (gA E y 0 0)), (1, .int x)]) hx hb dX3_loadsThatAre_28 hl (k := 0) rfl (nI_add i 1) (by decide) rfl (fun ls hl => ?_)
          refine lv_goto (tgt := 4) hx hb dX3_loadsThatAre_31 (by decide) ?_
          exact ih (i + 1) a _ _ _ (by omega) (by rw [← hTv]; simp only [f_X3_loadsThatAre_l1, if_neg c2, if_neg c3]) hG hS (lv_sub hl [0, 1, 2, 3] rfl)
        · refine lv_iinc (v := (a + 1)) (lv' := [(2, .int (a + 1)), (3, .int (nI i)), (0, .ref (gA E y 0 0)), (1, .int x)]) hx hb dX3_loadsThatAre_25 hl (k := 1) rfl rfl (by decide) rfl (fun ls hl => ?_)
          refine lv_iinc (v := (nI (i + 1))) (lv' := [(3, .int (nI (i + 1))), (2, .int (a + 1)), (0, .ref (gA E y 0 0)), (1, .int x)]) hx hb dX3_loadsThatAre_28 hl (k := 1) rfl (nI_add i 1) (by decide) rfl (fun ls hl => ?_)
          refine lv_goto (tgt := 4) hx hb dX3_loadsThatAre_31 (by decide) ?_
          exact ih (i + 1) (a + 1) _ _ _ (by omega) (by rw [← hTv]; simp only [f_X3_loadsThatAre_l1, if_neg c2, if_pos c3]) hG hS (lv_sub hl [0, 1, 2, 3] rfl)
  exact hL_l1 ((I y 0 0 5).toNatClampNeg) 0 0 _ _ _ (Nat.zero_add _) (by simp only [f_X3_loadsThatAre]) hG hS (lv_sub hl [0, 1, 2, 3] rfl)
def f_X3_sumOverLads_l1 (y : Nat) (x : Int32) : Nat → Nat → Int32 → gI → Int32
  | 0, i, a, I =>
    a
  | n + 1, i, a, I =>
    f_X3_sumOverLads_l1 y x n (i + 1) (a + (f_X1_tell I y i x)) I
def f_X3_sumOverLads (I : gI) (y : Nat) (x : Int32) : Int32 :=
  f_X3_sumOverLads_l1 y x ((I y 0 0 4).toNatClampNeg) 0 0 I
set_option maxHeartbeats 4000000 in
set_option maxRecDepth 100000 in
theorem m_X3_sumOverLads (l : Launch) (E : gE) (J : Int64) (I : gI) (y : Nat) (x : Int32) (hy : y < 2) (hw : wf (I y)) : gMi l E J yX3_sumOverLads cX3_sumOverLads 4 (some .int) 2 42 [.ref (gA E y 0 0), .int x] I (f_X3_sumOverLads I y x) I := by
  refine g_entry (lv := [(0, .ref (gA E y 0 0)), (1, .int x)]) (by decide) (Nat.le_of_ble_eq_true rfl) rfl ?_
  intro p e s m below meth c0 ls K hG hS hml hr hlocks hl
  have K : kx E p m c0 cX3_sumOverLads "HayThieves$Yard" _ s := K
  have hx := K.1
  have hb := K.2.1
  have hts := K.2.2.1
  have hown := K.2.2.2.1
  have hSt := K.2.2.2.2
  have hN := hw.N
  have hM := hw.M
  refine lv_iconst (v := 0) hx hb dX3_sumOverLads_0 (by decide) ?_
  refine lv_istore_n (lv' := [(2, .int 0), (0, .ref (gA E y 0 0)), (1, .int x)]) hx hb dX3_sumOverLads_1 rfl hl (by decide) rfl (fun ls hl => ?_)
  refine lv_iconst (v := 0) hx hb dX3_sumOverLads_2 (by decide) ?_
  refine lv_istore_n (lv' := [(3, .int 0), (2, .int 0), (0, .ref (gA E y 0 0)), (1, .int x)]) hx hb dX3_sumOverLads_3 rfl hl (by decide) rfl (fun ls hl => ?_)
  have hL_l1 : ∀ (n i : Nat) (a : Int32) (H : Heap) (locs : List Loc) (ls : Array Slot), i + n = (I y 0 0 4).toNatClampNeg → f_X3_sumOverLads_l1 y x n i a I = f_X3_sumOverLads I y x → GW E J I H → va_S (gF E) s.heap H locs → lv_has ls 4 [(3, .int (nI i)), (2, .int a), (0, .ref (gA E y 0 0)), (1, .int x)] → W p l e (grm 2 42) s m ([.ref (gA E y 0 0), .int x] : List Value).toArray below meth c0 H locs 0 0 (MQ below (va_Qi (fun z9 (_ : Unit) => z9 = f_X3_sumOverLads I y x) (fun _ t => GW E J I t.heap) (gF E)) ([.ref (gA E y 0 0), .int x] : List Value).toArray s 0 0 (gF E)) (F0 m 4 ls []) := by
    intro n
    induction n with
    | zero =>
      intro i a H locs ls hin hTv hG hS hl
      refine lv_iload_n hx hb dX3_sumOverLads_4 rfl (lv_at hl 0 rfl) ?_
      refine lv_aload_n hx hb dX3_sumOverLads_5 rfl (lv_at hl 2 rfl) ?_
      refine gf_X3_31 K hG (gv0 hy) dX3_sumOverLads_6 ?_
      refine lv_icmp_ge (tgt := 31) hx hb dX3_sumOverLads_9 (by decide) (fun c1 => ?_) (fun c1 => ?_)
      · refine lv_iload_n hx hb dX3_sumOverLads_31 rfl (lv_at hl 1 rfl) ?_
        exact g_iret K hG hS hr hlocks (by rw [← hTv]; simp only [f_X3_sumOverLads_l1, if_pos c1]) dX3_sumOverLads_32
      · exact absurd (lp_ge hw.Ne (by omega) hin) c1
    | succ n ih =>
      intro i a H locs ls hin hTv hG hS hl
      refine lv_iload_n hx hb dX3_sumOverLads_4 rfl (lv_at hl 0 rfl) ?_
      refine lv_aload_n hx hb dX3_sumOverLads_5 rfl (lv_at hl 2 rfl) ?_
      refine gf_X3_31 K hG (gv0 hy) dX3_sumOverLads_6 ?_
      refine lv_icmp_ge (tgt := 31) hx hb dX3_sumOverLads_9 (by decide) (fun c2 => ?_) (fun c2 => ?_)
      · exact absurd c2 (lp_nge hw.Ne (by omega) hin)
      · refine lv_iload_n hx hb dX3_sumOverLads_12 rfl (lv_at hl 1 rfl) ?_
        refine lv_aload_n hx hb dX3_sumOverLads_13 rfl (lv_at hl 2 rfl) ?_
        refine gf_X3_11 K hG (gv0 hy) dX3_sumOverLads_14 ?_
        refine lv_iload_n hx hb dX3_sumOverLads_17 rfl (lv_at hl 0 rfl) ?_
        refine g_lads K hG (gv7 hy) (vp_in_nI (by omega) (by decide)) dX3_sumOverLads_18 ?_
        rw [nI_clamp (by omega)]
        refine lv_iload_n hx hb dX3_sumOverLads_19 rfl (lv_at hl 3 rfl) ?_
        refine g_ki (g_runV (As := [.int x]) (rest := [.int a]) K hml ca_X1_tell q306 (m_X1_tell l E J I y i x hy (by omega) hw) hG hS (gv1 hy (by omega)) rfl rfl rfl rfl hl.1 (Nat.le_of_ble_eq_true rfl) ⟨by decide, by decide⟩ dX3_sumOverLads_20 ⟨Nat.zero_le _, Nat.zero_le _⟩) hS (fun H locs hG hS => ?_)
        refine lv_iadd hx hb dX3_sumOverLads_23 ?_
        refine lv_istore_n (lv' := [(2, .int (a + (f_X1_tell I y i x))), (3, .int (nI i)), (0, .ref (gA E y 0 0)), (1, .int x)]) hx hb dX3_sumOverLads_24 rfl hl (by decide) rfl (fun ls hl => ?_)
        refine lv_iinc (v := (nI (i + 1))) (lv' := [(3, .int (nI (i + 1))), (2, .int (a + (f_X1_tell I y i x))), (0, .ref (gA E y 0 0)), (1, .int x)]) hx hb dX3_sumOverLads_25 hl (k := 1) rfl (nI_add i 1) (by decide) rfl (fun ls hl => ?_)
        refine lv_goto (tgt := 4) hx hb dX3_sumOverLads_28 (by decide) ?_
        exact ih (i + 1) (a + (f_X1_tell I y i x)) _ _ _ (by omega) (by rw [← hTv]; simp only [f_X3_sumOverLads_l1, if_neg c2]) hG hS (lv_sub hl [0, 1, 2, 3] rfl)
  exact hL_l1 ((I y 0 0 4).toNatClampNeg) 0 0 _ _ _ (Nat.zero_add _) (by simp only [f_X3_sumOverLads]) hG hS (lv_sub hl [0, 1, 2, 3] rfl)
def f_X3_sumOverLoads_l1 (y : Nat) (x : Int32) : Nat → Nat → Int32 → gI → Int32
  | 0, i, a, I =>
    a
  | n + 1, i, a, I =>
    f_X3_sumOverLoads_l1 y x n (i + 1) (a + (f_X2_tell I y i x)) I
def f_X3_sumOverLoads (I : gI) (y : Nat) (x : Int32) : Int32 :=
  f_X3_sumOverLoads_l1 y x ((I y 0 0 5).toNatClampNeg) 0 0 I
set_option maxHeartbeats 4000000 in
set_option maxRecDepth 100000 in
theorem m_X3_sumOverLoads (l : Launch) (E : gE) (J : Int64) (I : gI) (y : Nat) (x : Int32) (hy : y < 2) (hw : wf (I y)) : gMi l E J yX3_sumOverLoads cX3_sumOverLoads 4 (some .int) 1 21 [.ref (gA E y 0 0), .int x] I (f_X3_sumOverLoads I y x) I := by
  refine g_entry (lv := [(0, .ref (gA E y 0 0)), (1, .int x)]) (by decide) (Nat.le_of_ble_eq_true rfl) rfl ?_
  intro p e s m below meth c0 ls K hG hS hml hr hlocks hl
  have K : kx E p m c0 cX3_sumOverLoads "HayThieves$Yard" _ s := K
  have hx := K.1
  have hb := K.2.1
  have hts := K.2.2.1
  have hown := K.2.2.2.1
  have hSt := K.2.2.2.2
  have hN := hw.N
  have hM := hw.M
  refine lv_iconst (v := 0) hx hb dX3_sumOverLoads_0 (by decide) ?_
  refine lv_istore_n (lv' := [(2, .int 0), (0, .ref (gA E y 0 0)), (1, .int x)]) hx hb dX3_sumOverLoads_1 rfl hl (by decide) rfl (fun ls hl => ?_)
  refine lv_iconst (v := 0) hx hb dX3_sumOverLoads_2 (by decide) ?_
  refine lv_istore_n (lv' := [(3, .int 0), (2, .int 0), (0, .ref (gA E y 0 0)), (1, .int x)]) hx hb dX3_sumOverLoads_3 rfl hl (by decide) rfl (fun ls hl => ?_)
  have hL_l1 : ∀ (n i : Nat) (a : Int32) (H : Heap) (locs : List Loc) (ls : Array Slot), i + n = (I y 0 0 5).toNatClampNeg → f_X3_sumOverLoads_l1 y x n i a I = f_X3_sumOverLoads I y x → GW E J I H → va_S (gF E) s.heap H locs → lv_has ls 4 [(3, .int (nI i)), (2, .int a), (0, .ref (gA E y 0 0)), (1, .int x)] → W p l e (grm 1 21) s m ([.ref (gA E y 0 0), .int x] : List Value).toArray below meth c0 H locs 0 0 (MQ below (va_Qi (fun z9 (_ : Unit) => z9 = f_X3_sumOverLoads I y x) (fun _ t => GW E J I t.heap) (gF E)) ([.ref (gA E y 0 0), .int x] : List Value).toArray s 0 0 (gF E)) (F0 m 4 ls []) := by
    intro n
    induction n with
    | zero =>
      intro i a H locs ls hin hTv hG hS hl
      refine lv_iload_n hx hb dX3_sumOverLoads_4 rfl (lv_at hl 0 rfl) ?_
      refine lv_aload_n hx hb dX3_sumOverLoads_5 rfl (lv_at hl 2 rfl) ?_
      refine gf_X3_35 K hG (gv0 hy) dX3_sumOverLoads_6 ?_
      refine lv_icmp_ge (tgt := 31) hx hb dX3_sumOverLoads_9 (by decide) (fun c1 => ?_) (fun c1 => ?_)
      · refine lv_iload_n hx hb dX3_sumOverLoads_31 rfl (lv_at hl 1 rfl) ?_
        exact g_iret K hG hS hr hlocks (by rw [← hTv]; simp only [f_X3_sumOverLoads_l1, if_pos c1]) dX3_sumOverLoads_32
      · exact absurd (lp_ge hw.Me (by omega) hin) c1
    | succ n ih =>
      intro i a H locs ls hin hTv hG hS hl
      refine lv_iload_n hx hb dX3_sumOverLoads_4 rfl (lv_at hl 0 rfl) ?_
      refine lv_aload_n hx hb dX3_sumOverLoads_5 rfl (lv_at hl 2 rfl) ?_
      refine gf_X3_35 K hG (gv0 hy) dX3_sumOverLoads_6 ?_
      refine lv_icmp_ge (tgt := 31) hx hb dX3_sumOverLoads_9 (by decide) (fun c2 => ?_) (fun c2 => ?_)
      · exact absurd c2 (lp_nge hw.Me (by omega) hin)
      · refine lv_iload_n hx hb dX3_sumOverLoads_12 rfl (lv_at hl 1 rfl) ?_
        refine lv_aload_n hx hb dX3_sumOverLoads_13 rfl (lv_at hl 2 rfl) ?_
        refine gf_X3_19 K hG (gv0 hy) dX3_sumOverLoads_14 ?_
        refine lv_iload_n hx hb dX3_sumOverLoads_17 rfl (lv_at hl 0 rfl) ?_
        refine g_loads K hG (gv8 hy) (vp_in_nI (by omega) (by decide)) dX3_sumOverLoads_18 ?_
        rw [nI_clamp (by omega)]
        refine lv_iload_n hx hb dX3_sumOverLoads_19 rfl (lv_at hl 3 rfl) ?_
        refine g_ki (g_runV (As := [.int x]) (rest := [.int a]) K hml ca_X2_tell q315 (m_X2_tell l E J I y i x hy (by omega) hw) hG hS (gv4 hy (by omega)) rfl rfl rfl rfl hl.1 (Nat.le_of_ble_eq_true rfl) ⟨by decide, by decide⟩ dX3_sumOverLoads_20 ⟨Nat.zero_le _, Nat.zero_le _⟩) hS (fun H locs hG hS => ?_)
        refine lv_iadd hx hb dX3_sumOverLoads_23 ?_
        refine lv_istore_n (lv' := [(2, .int (a + (f_X2_tell I y i x))), (3, .int (nI i)), (0, .ref (gA E y 0 0)), (1, .int x)]) hx hb dX3_sumOverLoads_24 rfl hl (by decide) rfl (fun ls hl => ?_)
        refine lv_iinc (v := (nI (i + 1))) (lv' := [(3, .int (nI (i + 1))), (2, .int (a + (f_X2_tell I y i x))), (0, .ref (gA E y 0 0)), (1, .int x)]) hx hb dX3_sumOverLoads_25 hl (k := 1) rfl (nI_add i 1) (by decide) rfl (fun ls hl => ?_)
        refine lv_goto (tgt := 4) hx hb dX3_sumOverLoads_28 (by decide) ?_
        exact ih (i + 1) (a + (f_X2_tell I y i x)) _ _ _ (by omega) (by rw [← hTv]; simp only [f_X3_sumOverLoads_l1, if_neg c2]) hG hS (lv_sub hl [0, 1, 2, 3] rfl)
  exact hL_l1 ((I y 0 0 5).toNatClampNeg) 0 0 _ _ _ (Nat.zero_add _) (by simp only [f_X3_sumOverLoads]) hG hS (lv_sub hl [0, 1, 2, 3] rfl)
def f_X3_sleepers_l1 (y : Nat) : Nat → Nat → Int32 → gI → Int32
  | 0, i, a, I =>
    a
  | n + 1, i, a, I =>
    if (I y 1 i 7) = 0 then
      f_X3_sleepers_l1 y n (i + 1) a I
    else
      f_X3_sleepers_l1 y n (i + 1) (a + 1) I
def f_X3_sleepers (I : gI) (y : Nat) : Int32 :=
  f_X3_sleepers_l1 y ((I y 0 0 4).toNatClampNeg) 0 0 I
set_option maxHeartbeats 4000000 in
set_option maxRecDepth 100000 in
theorem m_X3_sleepers (l : Launch) (E : gE) (J : Int64) (I : gI) (y : Nat) (hy : y < 2) (hw : wf (I y)) : gMi l E J yX3_sleepers cX3_sleepers 3 (some .int) 0 0 [.ref (gA E y 0 0)] I (f_X3_sleepers I y) I := by
  refine g_entry (lv := [(0, .ref (gA E y 0 0))]) (by decide) (Nat.le_of_ble_eq_true rfl) rfl ?_
  intro p e s m below meth c0 ls K hG hS hml hr hlocks hl
  have K : kx E p m c0 cX3_sleepers "HayThieves$Yard" _ s := K
  have hx := K.1
  have hb := K.2.1
  have hts := K.2.2.1
  have hown := K.2.2.2.1
  have hSt := K.2.2.2.2
  have hN := hw.N
  have hM := hw.M
  refine lv_iconst (v := 0) hx hb dX3_sleepers_0 (by decide) ?_
  refine lv_istore_n (lv' := [(1, .int 0), (0, .ref (gA E y 0 0))]) hx hb dX3_sleepers_1 rfl hl (by decide) rfl (fun ls hl => ?_)
  refine lv_iconst (v := 0) hx hb dX3_sleepers_2 (by decide) ?_
  refine lv_istore_n (lv' := [(2, .int 0), (1, .int 0), (0, .ref (gA E y 0 0))]) hx hb dX3_sleepers_3 rfl hl (by decide) rfl (fun ls hl => ?_)
  have hL_l1 : ∀ (n i : Nat) (a : Int32) (H : Heap) (locs : List Loc) (ls : Array Slot), i + n = (I y 0 0 4).toNatClampNeg → f_X3_sleepers_l1 y n i a I = f_X3_sleepers I y → GW E J I H → va_S (gF E) s.heap H locs → lv_has ls 3 [(2, .int (nI i)), (1, .int a), (0, .ref (gA E y 0 0))] → W p l e (grm 0 0) s m ([.ref (gA E y 0 0)] : List Value).toArray below meth c0 H locs 0 0 (MQ below (va_Qi (fun z9 (_ : Unit) => z9 = f_X3_sleepers I y) (fun _ t => GW E J I t.heap) (gF E)) ([.ref (gA E y 0 0)] : List Value).toArray s 0 0 (gF E)) (F0 m 4 ls []) := by
    intro n
    induction n with
    | zero =>
      intro i a H locs ls hin hTv hG hS hl
      refine lv_iload_n hx hb dX3_sleepers_4 rfl (lv_at hl 0 rfl) ?_
      refine lv_aload_n hx hb dX3_sleepers_5 rfl (lv_at hl 2 rfl) ?_
      refine gf_X3_31 K hG (gv0 hy) dX3_sleepers_6 ?_
      refine lv_icmp_ge (tgt := 33) hx hb dX3_sleepers_9 (by decide) (fun c1 => ?_) (fun c1 => ?_)
      · refine lv_iload_n hx hb dX3_sleepers_33 rfl (lv_at hl 1 rfl) ?_
        exact g_iret K hG hS hr hlocks (by rw [← hTv]; simp only [f_X3_sleepers_l1, if_pos c1]) dX3_sleepers_34
      · exact absurd (lp_ge hw.Ne (by omega) hin) c1
    | succ n ih =>
      intro i a H locs ls hin hTv hG hS hl
      refine lv_iload_n hx hb dX3_sleepers_4 rfl (lv_at hl 0 rfl) ?_
      refine lv_aload_n hx hb dX3_sleepers_5 rfl (lv_at hl 2 rfl) ?_
      refine gf_X3_31 K hG (gv0 hy) dX3_sleepers_6 ?_
      refine lv_icmp_ge (tgt := 33) hx hb dX3_sleepers_9 (by decide) (fun c2 => ?_) (fun c2 => ?_)
      · exact absurd c2 (lp_nge hw.Ne (by omega) hin)
      · refine lv_aload_n hx hb dX3_sleepers_12 rfl (lv_at hl 2 rfl) ?_
        refine gf_X3_11 K hG (gv0 hy) dX3_sleepers_13 ?_
        refine lv_iload_n hx hb dX3_sleepers_16 rfl (lv_at hl 0 rfl) ?_
        refine g_lads K hG (gv7 hy) (vp_in_nI (by omega) (by decide)) dX3_sleepers_17 ?_
        rw [nI_clamp (by omega)]
        refine gf_X3_70 K hG (gv1 hy (by omega)) dX3_sleepers_18 ?_
        refine lv_if_eq (tgt := 27) hx hb dX3_sleepers_21 (by decide) (fun c3 => ?_) (fun c3 => ?_)
        · refine lv_iinc (v := (nI (i + 1))) (lv' := [(2, .int (nI (i + 1))), (1, .int a), (0, .ref (gA E y 0 0))]) hx hb dX3_sleepers_27 hl (k := 0) rfl (nI_add i 1) (by decide) rfl (fun ls hl => ?_)
          refine lv_goto (tgt := 4) hx hb dX3_sleepers_30 (by decide) ?_
          exact ih (i + 1) a _ _ _ (by omega) (by rw [← hTv]; simp only [f_X3_sleepers_l1, if_neg c2, if_pos c3]) hG hS (lv_sub hl [0, 1, 2] rfl)
        · refine lv_iinc (v := (a + 1)) (lv' := [(1, .int (a + 1)), (2, .int (nI i)), (0, .ref (gA E y 0 0))]) hx hb dX3_sleepers_24 hl (k := 1) rfl rfl (by decide) rfl (fun ls hl => ?_)
          refine lv_iinc (v := (nI (i + 1))) (lv' := [(2, .int (nI (i + 1))), (1, .int (a + 1)), (0, .ref (gA E y 0 0))]) hx hb dX3_sleepers_27 hl (k := 1) rfl (nI_add i 1) (by decide) rfl (fun ls hl => ?_)
          refine lv_goto (tgt := 4) hx hb dX3_sleepers_30 (by decide) ?_
          exact ih (i + 1) (a + 1) _ _ _ (by omega) (by rw [← hTv]; simp only [f_X3_sleepers_l1, if_neg c2, if_neg c3]) hG hS (lv_sub hl [0, 1, 2] rfl)
  exact hL_l1 ((I y 0 0 4).toNatClampNeg) 0 0 _ _ _ (Nat.zero_add _) (by simp only [f_X3_sleepers]) hG hS (lv_sub hl [0, 1, 2] rfl)
def f_X3_tell (I : gI) (y : Nat) (x : Int32) : Int32 :=
  if x = 0 then
    (I y 0 0 6)
  else
    if x = 1 then
      (I y 0 0 4)
    else
      if x = 2 then
        (I y 0 0 5)
      else
        if x = 3 then
          (f_X3_loadsThatAre I y 2)
        else
          if x = 4 then
            (f_X3_loadsThatAre I y 0)
          else
            if x = 5 then
              (f_X3_sumOverLads I y 2)
            else
              if x = 6 then
                (f_X3_sleepers I y)
              else
                if x = 7 then
                  (f_X3_sumOverLads I y 5)
                else
                  if x = 8 then
                    (I y 0 0 8)
                  else
                    if x = 9 then
                      (I y 0 0 9)
                    else
                      if x = 10 then
                        (f_X3_sumOverLads I y 7)
                      else
                        if x = 11 then
                          (f_X3_sumOverLoads I y 6)
                        else
                          (I y 0 0 7)
set_option maxHeartbeats 4000000 in
set_option maxRecDepth 100000 in
theorem m_X3_tell (l : Launch) (E : gE) (J : Int64) (I : gI) (y : Nat) (x : Int32) (hy : y < 2) (hw : wf (I y)) : gMi l E J yX3_tell cX3_tell 2 (some .int) 3 65 [.ref (gA E y 0 0), .int x] I (f_X3_tell I y x) I := by
  refine g_entry (lv := [(0, .ref (gA E y 0 0)), (1, .int x)]) (by decide) (Nat.le_of_ble_eq_true rfl) rfl ?_
  intro p e s m below meth c0 ls K hG hS hml hr hlocks hl
  have K : kx E p m c0 cX3_tell "HayThieves$Yard" _ s := K
  have hx := K.1
  have hb := K.2.1
  have hts := K.2.2.1
  have hown := K.2.2.2.1
  have hSt := K.2.2.2.2
  have hN := hw.N
  have hM := hw.M
  refine lv_iload_n hx hb dX3_tell_0 rfl (lv_at hl 1 rfl) ?_
  by_cases c1_0 : x = 0
  · refine lv_tableIn (off := 63) (tgt := 64) hx hb dX3_tell_1 (by rw [c1_0]; decide) (by rw [c1_0]; decide) (by rw [c1_0]; decide) (by decide) ?_
    refine lv_aload_n hx hb dX3_tell_64 rfl (lv_at hl 0 rfl) ?_
    refine gf_X3_38 K hG (gv0 hy) dX3_tell_65 ?_
    exact g_iret K hG hS hr hlocks (by simp only [f_X3_tell, if_pos c1_0]) dX3_tell_68
  by_cases c1_1 : x = 1
  · refine lv_tableIn (off := 68) (tgt := 69) hx hb dX3_tell_1 (by rw [c1_1]; decide) (by rw [c1_1]; decide) (by rw [c1_1]; decide) (by decide) ?_
    refine lv_aload_n hx hb dX3_tell_69 rfl (lv_at hl 0 rfl) ?_
    refine gf_X3_31 K hG (gv0 hy) dX3_tell_70 ?_
    exact g_iret K hG hS hr hlocks (by simp only [f_X3_tell, if_neg c1_0, if_pos c1_1]) dX3_tell_73
  by_cases c1_2 : x = 2
  · refine lv_tableIn (off := 73) (tgt := 74) hx hb dX3_tell_1 (by rw [c1_2]; decide) (by rw [c1_2]; decide) (by rw [c1_2]; decide) (by decide) ?_
    refine lv_aload_n hx hb dX3_tell_74 rfl (lv_at hl 0 rfl) ?_
    refine gf_X3_35 K hG (gv0 hy) dX3_tell_75 ?_
    exact g_iret K hG hS hr hlocks (by simp only [f_X3_tell, if_neg c1_0, if_neg c1_1, if_pos c1_2]) dX3_tell_78
  by_cases c1_3 : x = 3
  · refine lv_tableIn (off := 78) (tgt := 79) hx hb dX3_tell_1 (by rw [c1_3]; decide) (by rw [c1_3]; decide) (by rw [c1_3]; decide) (by decide) ?_
    refine lv_aload_n hx hb dX3_tell_79 rfl (lv_at hl 0 rfl) ?_
    refine lv_iconst (v := 2) hx hb dX3_tell_80 (by decide) ?_
    refine g_ki (g_runV (As := [.int 2]) (rest := []) K hml ca_X3_loadsThatAre q298 (m_X3_loadsThatAre l E J I y 2 hy hw) hG hS (gv0 hy) rfl rfl rfl rfl hl.1 (Nat.le_of_ble_eq_true rfl) ⟨by decide, by decide⟩ dX3_tell_81 ⟨Nat.zero_le _, Nat.zero_le _⟩) hS (fun H locs hG hS => ?_)
    exact g_iret K hG hS hr hlocks (by simp only [f_X3_tell, if_neg c1_0, if_neg c1_1, if_neg c1_2, if_pos c1_3]) dX3_tell_84
  by_cases c1_4 : x = 4
  · refine lv_tableIn (off := 84) (tgt := 85) hx hb dX3_tell_1 (by rw [c1_4]; decide) (by rw [c1_4]; decide) (by rw [c1_4]; decide) (by decide) ?_
    refine lv_aload_n hx hb dX3_tell_85 rfl (lv_at hl 0 rfl) ?_
    refine lv_iconst (v := 0) hx hb dX3_tell_86 (by decide) ?_
    refine g_ki (g_runV (As := [.int 0]) (rest := []) K hml ca_X3_loadsThatAre q298 (m_X3_loadsThatAre l E J I y 0 hy hw) hG hS (gv0 hy) rfl rfl rfl rfl hl.1 (Nat.le_of_ble_eq_true rfl) ⟨by decide, by decide⟩ dX3_tell_87 ⟨Nat.zero_le _, Nat.zero_le _⟩) hS (fun H locs hG hS => ?_)
    exact g_iret K hG hS hr hlocks (by simp only [f_X3_tell, if_neg c1_0, if_neg c1_1, if_neg c1_2, if_neg c1_3, if_pos c1_4]) dX3_tell_90
  by_cases c1_5 : x = 5
  · refine lv_tableIn (off := 90) (tgt := 91) hx hb dX3_tell_1 (by rw [c1_5]; decide) (by rw [c1_5]; decide) (by rw [c1_5]; decide) (by decide) ?_
    refine lv_aload_n hx hb dX3_tell_91 rfl (lv_at hl 0 rfl) ?_
    refine lv_iconst (v := 2) hx hb dX3_tell_92 (by decide) ?_
    refine g_ki (g_runV (As := [.int 2]) (rest := []) K hml ca_X3_sumOverLads q302 (m_X3_sumOverLads l E J I y 2 hy hw) hG hS (gv0 hy) rfl rfl rfl rfl hl.1 (Nat.le_of_ble_eq_true rfl) ⟨by decide, by decide⟩ dX3_tell_93 ⟨Nat.zero_le _, Nat.zero_le _⟩) hS (fun H locs hG hS => ?_)
    exact g_iret K hG hS hr hlocks (by simp only [f_X3_tell, if_neg c1_0, if_neg c1_1, if_neg c1_2, if_neg c1_3, if_neg c1_4, if_pos c1_5]) dX3_tell_96
  by_cases c1_6 : x = 6
  · refine lv_tableIn (off := 96) (tgt := 97) hx hb dX3_tell_1 (by rw [c1_6]; decide) (by rw [c1_6]; decide) (by rw [c1_6]; decide) (by decide) ?_
    refine lv_aload_n hx hb dX3_tell_97 rfl (lv_at hl 0 rfl) ?_
    refine g_ki (g_runV (As := []) (rest := []) K hml ca_X3_sleepers q307 (m_X3_sleepers l E J I y hy hw) hG hS (gv0 hy) rfl rfl rfl rfl hl.1 (Nat.le_of_ble_eq_true rfl) ⟨by decide, by decide⟩ dX3_tell_98 ⟨Nat.zero_le _, Nat.zero_le _⟩) hS (fun H locs hG hS => ?_)
    exact g_iret K hG hS hr hlocks (by simp only [f_X3_tell, if_neg c1_0, if_neg c1_1, if_neg c1_2, if_neg c1_3, if_neg c1_4, if_neg c1_5, if_pos c1_6]) dX3_tell_101
  by_cases c1_7 : x = 7
  · refine lv_tableIn (off := 101) (tgt := 102) hx hb dX3_tell_1 (by rw [c1_7]; decide) (by rw [c1_7]; decide) (by rw [c1_7]; decide) (by decide) ?_
    refine lv_aload_n hx hb dX3_tell_102 rfl (lv_at hl 0 rfl) ?_
    refine lv_iconst (v := 5) hx hb dX3_tell_103 (by decide) ?_
    refine g_ki (g_runV (As := [.int 5]) (rest := []) K hml ca_X3_sumOverLads q302 (m_X3_sumOverLads l E J I y 5 hy hw) hG hS (gv0 hy) rfl rfl rfl rfl hl.1 (Nat.le_of_ble_eq_true rfl) ⟨by decide, by decide⟩ dX3_tell_104 ⟨Nat.zero_le _, Nat.zero_le _⟩) hS (fun H locs hG hS => ?_)
    exact g_iret K hG hS hr hlocks (by simp only [f_X3_tell, if_neg c1_0, if_neg c1_1, if_neg c1_2, if_neg c1_3, if_neg c1_4, if_neg c1_5, if_neg c1_6, if_pos c1_7]) dX3_tell_107
  by_cases c1_8 : x = 8
  · refine lv_tableIn (off := 107) (tgt := 108) hx hb dX3_tell_1 (by rw [c1_8]; decide) (by rw [c1_8]; decide) (by rw [c1_8]; decide) (by decide) ?_
    refine lv_aload_n hx hb dX3_tell_108 rfl (lv_at hl 0 rfl) ?_
    refine gf_X3_44 K hG (gv0 hy) dX3_tell_109 ?_
    exact g_iret K hG hS hr hlocks (by simp only [f_X3_tell, if_neg c1_0, if_neg c1_1, if_neg c1_2, if_neg c1_3, if_neg c1_4, if_neg c1_5, if_neg c1_6, if_neg c1_7, if_pos c1_8]) dX3_tell_112
  by_cases c1_9 : x = 9
  · refine lv_tableIn (off := 112) (tgt := 113) hx hb dX3_tell_1 (by rw [c1_9]; decide) (by rw [c1_9]; decide) (by rw [c1_9]; decide) (by decide) ?_
    refine lv_aload_n hx hb dX3_tell_113 rfl (lv_at hl 0 rfl) ?_
    refine gf_X3_47 K hG (gv0 hy) dX3_tell_114 ?_
    exact g_iret K hG hS hr hlocks (by simp only [f_X3_tell, if_neg c1_0, if_neg c1_1, if_neg c1_2, if_neg c1_3, if_neg c1_4, if_neg c1_5, if_neg c1_6, if_neg c1_7, if_neg c1_8, if_pos c1_9]) dX3_tell_117
  by_cases c1_10 : x = 10
  · refine lv_tableIn (off := 117) (tgt := 118) hx hb dX3_tell_1 (by rw [c1_10]; decide) (by rw [c1_10]; decide) (by rw [c1_10]; decide) (by decide) ?_
    refine lv_aload_n hx hb dX3_tell_118 rfl (lv_at hl 0 rfl) ?_
    refine lv_bipush (v := 7) hx hb dX3_tell_119 (by decide) ?_
    refine g_ki (g_runV (As := [.int 7]) (rest := []) K hml ca_X3_sumOverLads q302 (m_X3_sumOverLads l E J I y 7 hy hw) hG hS (gv0 hy) rfl rfl rfl rfl hl.1 (Nat.le_of_ble_eq_true rfl) ⟨by decide, by decide⟩ dX3_tell_121 ⟨Nat.zero_le _, Nat.zero_le _⟩) hS (fun H locs hG hS => ?_)
    exact g_iret K hG hS hr hlocks (by simp only [f_X3_tell, if_neg c1_0, if_neg c1_1, if_neg c1_2, if_neg c1_3, if_neg c1_4, if_neg c1_5, if_neg c1_6, if_neg c1_7, if_neg c1_8, if_neg c1_9, if_pos c1_10]) dX3_tell_124
  by_cases c1_11 : x = 11
  · refine lv_tableIn (off := 124) (tgt := 125) hx hb dX3_tell_1 (by rw [c1_11]; decide) (by rw [c1_11]; decide) (by rw [c1_11]; decide) (by decide) ?_
    refine lv_aload_n hx hb dX3_tell_125 rfl (lv_at hl 0 rfl) ?_
    refine lv_bipush (v := 6) hx hb dX3_tell_126 (by decide) ?_
    refine g_ki (g_runV (As := [.int 6]) (rest := []) K hml ca_X3_sumOverLoads q311 (m_X3_sumOverLoads l E J I y 6 hy hw) hG hS (gv0 hy) rfl rfl rfl rfl hl.1 (Nat.le_of_ble_eq_true rfl) ⟨by decide, by decide⟩ dX3_tell_128 ⟨Nat.zero_le _, Nat.zero_le _⟩) hS (fun H locs hG hS => ?_)
    exact g_iret K hG hS hr hlocks (by simp only [f_X3_tell, if_neg c1_0, if_neg c1_1, if_neg c1_2, if_neg c1_3, if_neg c1_4, if_neg c1_5, if_neg c1_6, if_neg c1_7, if_neg c1_8, if_neg c1_9, if_neg c1_10, if_pos c1_11]) dX3_tell_131
  refine lv_tableOut (tgt := 132) hx hb dX3_tell_1 (gsw_0_11 c1_0 c1_1 c1_2 c1_3 c1_4 c1_5 c1_6 c1_7 c1_8 c1_9 c1_10 c1_11) (by decide) ?_
  refine lv_aload_n hx hb dX3_tell_132 rfl (lv_at hl 0 rfl) ?_
  refine gf_X3_41 K hG (gv0 hy) dX3_tell_133 ?_
  exact g_iret K hG hS hr hlocks (by simp only [f_X3_tell, if_neg c1_0, if_neg c1_1, if_neg c1_2, if_neg c1_3, if_neg c1_4, if_neg c1_5, if_neg c1_6, if_neg c1_7, if_neg c1_8, if_neg c1_9, if_neg c1_10, if_neg c1_11]) dX3_tell_136
def f_X3_balesOf (I : gI) (y : Nat) (x : Int32) : Int32 :=
  if x < 0 then
    0
  else
    if 320 ≤ x then
      0
    else
      (I y 5 0 x.toNatClampNeg)
set_option maxHeartbeats 4000000 in
set_option maxRecDepth 100000 in
theorem m_X3_balesOf (l : Launch) (E : gE) (J : Int64) (I : gI) (y : Nat) (x : Int32) (hy : y < 2) (hw : wf (I y)) : gMi l E J yX3_balesOf cX3_balesOf 2 (some .int) 0 0 [.ref (gA E y 0 0), .int x] I (f_X3_balesOf I y x) I := by
  refine g_entry (lv := [(0, .ref (gA E y 0 0)), (1, .int x)]) (by decide) (Nat.le_of_ble_eq_true rfl) rfl ?_
  intro p e s m below meth c0 ls K hG hS hml hr hlocks hl
  have K : kx E p m c0 cX3_balesOf "HayThieves$Yard" _ s := K
  have hx := K.1
  have hb := K.2.1
  have hts := K.2.2.1
  have hown := K.2.2.2.1
  have hSt := K.2.2.2.2
  have hN := hw.N
  have hM := hw.M
  refine lv_iload_n hx hb dX3_balesOf_0 rfl (lv_at hl 1 rfl) ?_
  refine lv_if_lt (tgt := 20) hx hb dX3_balesOf_1 (by decide) (fun c1 => ?_) (fun c1 => ?_)
  · refine lv_iconst (v := 0) hx hb dX3_balesOf_20 (by decide) ?_
    exact g_iret K hG hS hr hlocks (by simp only [f_X3_balesOf, if_pos c1]) dX3_balesOf_21
  · refine lv_iload_n hx hb dX3_balesOf_4 rfl (lv_at hl 1 rfl) ?_
    refine lv_sipush (v := 320) hx hb dX3_balesOf_5 (by decide) ?_
    refine lv_icmp_ge (tgt := 20) hx hb dX3_balesOf_8 (by decide) (fun c2 => ?_) (fun c2 => ?_)
    · refine lv_iconst (v := 0) hx hb dX3_balesOf_20 (by decide) ?_
      exact g_iret K hG hS hr hlocks (by simp only [f_X3_balesOf, if_neg c1, if_pos c2]) dX3_balesOf_21
    · refine lv_aload_n hx hb dX3_balesOf_11 rfl (lv_at hl 0 rfl) ?_
      refine gf_X3_23 K hG (gv0 hy) dX3_balesOf_12 ?_
      refine lv_iload_n hx hb dX3_balesOf_15 rfl (lv_at hl 1 rfl) ?_
      refine g_iald K hG (gv5 hy) rfl (fun _ => rfl) (rg_320a c1 c2) dX3_balesOf_16 ?_
      refine lv_goto (tgt := 21) hx hb dX3_balesOf_17 (by decide) ?_
      exact g_iret K hG hS hr hlocks (by simp only [f_X3_balesOf, if_neg c1, if_neg c2]) dX3_balesOf_21
def f_X3_setBales (I : gI) (y : Nat) (x b : Int32) : gI :=
  if x < 0 then
    I
  else
    if 320 ≤ x then
      I
    else
      let I1 := gU I y 5 0 x.toNatClampNeg b
      I1
set_option maxRecDepth 100000 in
theorem wf_X3_setBales (I : gI) (y : Nat) (x b : Int32) (hy : y < 2) (hw : wf (I y)) : wf (f_X3_setBales I y x b y) := by
  by_cases c1 : x < 0
  · have eS : f_X3_setBales I y x b = I := by simp only [f_X3_setBales, if_pos c1]
    rw [eS]
    exact hw
  · by_cases c2 : 320 ≤ x
    · have eS : f_X3_setBales I y x b = I := by simp only [f_X3_setBales, if_neg c1, if_pos c2]
      rw [eS]
      exact hw
    · obtain ⟨I1, hI1⟩ : ∃ z, z = gU I y 5 0 x.toNatClampNeg b := ⟨_, rfl⟩
      have hw1_y : wf (I1 y) := by rw [hI1]; exact wf_gU rfl hw
      have eS : f_X3_setBales I y x b = I1 := by simp only [f_X3_setBales, ← hI1, if_neg c1, if_neg c2]
      rw [eS]
      exact hw1_y
set_option maxRecDepth 100000 in
theorem ne_X3_setBales (I : gI) (y : Nat) (x b : Int32) (hy : y < 2) (hw : wf (I y)) {y' : Nat} (hne : y' ≠ y) : f_X3_setBales I y x b y' = I y' := by
  have hn : I y' = I y' := rfl
  by_cases c1 : x < 0
  · have eS : f_X3_setBales I y x b = I := by simp only [f_X3_setBales, if_pos c1]
    exact (congrFun eS y').trans hn
  · by_cases c2 : 320 ≤ x
    · have eS : f_X3_setBales I y x b = I := by simp only [f_X3_setBales, if_neg c1, if_pos c2]
      exact (congrFun eS y').trans hn
    · obtain ⟨I1, hI1⟩ : ∃ z, z = gU I y 5 0 x.toNatClampNeg b := ⟨_, rfl⟩
      have hw1_y : wf (I1 y) := by rw [hI1]; exact wf_gU rfl hw
      have hn1 : I1 y' = I y' := by rw [hI1]; exact (gU_ne _ _ _ _ _ hne).trans hn
      have eS : f_X3_setBales I y x b = I1 := by simp only [f_X3_setBales, ← hI1, if_neg c1, if_neg c2]
      exact (congrFun eS y').trans hn1
set_option maxRecDepth 100000 in
theorem kn_X3_setBales (I : gI) (y : Nat) (x b : Int32) (hy : y < 2) (hw : wf (I y)) : f_X3_setBales I y x b y 0 0 4 = I y 0 0 4 := by
  have hn : I y 0 0 4 = I y 0 0 4 := rfl
  by_cases c1 : x < 0
  · have eS : f_X3_setBales I y x b = I := by simp only [f_X3_setBales, if_pos c1]
    exact (congrFun (congrFun (congrFun (congrFun eS y) 0) 0) 4).trans hn
  · by_cases c2 : 320 ≤ x
    · have eS : f_X3_setBales I y x b = I := by simp only [f_X3_setBales, if_neg c1, if_pos c2]
      exact (congrFun (congrFun (congrFun (congrFun eS y) 0) 0) 4).trans hn
    · obtain ⟨I1, hI1⟩ : ∃ z, z = gU I y 5 0 x.toNatClampNeg b := ⟨_, rfl⟩
      have hw1_y : wf (I1 y) := by rw [hI1]; exact wf_gU rfl hw
      have hn1 : I1 y 0 0 4 = I y 0 0 4 := by rw [hI1]; exact (kn_gU rfl).trans hn
      have eS : f_X3_setBales I y x b = I1 := by simp only [f_X3_setBales, ← hI1, if_neg c1, if_neg c2]
      exact (congrFun (congrFun (congrFun (congrFun eS y) 0) 0) 4).trans hn1
set_option maxHeartbeats 4000000 in
set_option maxRecDepth 100000 in
theorem m_X3_setBales (l : Launch) (E : gE) (J : Int64) (I : gI) (y : Nat) (x b : Int32) (hy : y < 2) (hw : wf (I y)) : gMv l E J yX3_setBales cX3_setBales 3 none 0 0 [.ref (gA E y 0 0), .int x, .int b] I (f_X3_setBales I y x b) := by
  refine g_entry (lv := [(0, .ref (gA E y 0 0)), (1, .int x), (2, .int b)]) (by decide) (Nat.le_of_ble_eq_true rfl) rfl ?_
  intro p e s m below meth c0 ls K hG hS hml hr hlocks hl
  have K : kx E p m c0 cX3_setBales "HayThieves$Yard" _ s := K
  have hx := K.1
  have hb := K.2.1
  have hts := K.2.2.1
  have hown := K.2.2.2.1
  have hSt := K.2.2.2.2
  refine lv_iload_n hx hb dX3_setBales_0 rfl (lv_at hl 1 rfl) ?_
  refine lv_if_lt (tgt := 18) hx hb dX3_setBales_1 (by decide) (fun c1 => ?_) (fun c1 => ?_)
  · have eS : I = (f_X3_setBales I y x b) := (by simp only [f_X3_setBales, if_pos c1])
    rw [eS] at hG
    exact g_vret K hG hS hr hlocks dX3_setBales_18
  · refine lv_iload_n hx hb dX3_setBales_4 rfl (lv_at hl 1 rfl) ?_
    refine lv_sipush (v := 320) hx hb dX3_setBales_5 (by decide) ?_
    refine lv_icmp_ge (tgt := 18) hx hb dX3_setBales_8 (by decide) (fun c2 => ?_) (fun c2 => ?_)
    · have eS : I = (f_X3_setBales I y x b) := (by simp only [f_X3_setBales, if_neg c1, if_pos c2])
      rw [eS] at hG
      exact g_vret K hG hS hr hlocks dX3_setBales_18
    · refine lv_aload_n hx hb dX3_setBales_11 rfl (lv_at hl 0 rfl) ?_
      refine gf_X3_23 K hG (gv0 hy) dX3_setBales_12 ?_
      refine lv_iload_n hx hb dX3_setBales_15 rfl (lv_at hl 1 rfl) ?_
      refine lv_iload_n hx hb dX3_setBales_16 rfl (lv_at hl 2 rfl) ?_
      refine g_iast K hG hS (gv5 hy) rfl (fun _ => rfl) (fun _ q => absurd q.1 (by decide)) (rg_320a c1 c2) dX3_setBales_17 (fun I1 hI1 H locs hG hS => ?_)
      have hw1_y : wf (I1 y) := by rw [hI1]; exact wf_gU rfl hw
      have eS : I1 = (f_X3_setBales I y x b) := (by simp only [f_X3_setBales, ← hI1, if_neg c1, if_neg c2])
      rw [eS] at hG
      exact g_vret K hG hS hr hlocks dX3_setBales_18

theorem km_X3_setBales (I : gI) (y : Nat) (x b : Int32) (hy : y < 2) (hw : wf (I y)) : f_X3_setBales I y x b y 0 0 5 = I y 0 0 5 := by
  unfold f_X3_setBales
  split
  · rfl
  · split
    · rfl
    · simp [gU_at, u3]

def f_X3_loadOf (I : gI) (y : Nat) (x : Int32) : Nat :=
  if x < 0 then
    0
  else
    if 320 ≤ x then
      0
    else
      (x / 32).toNatClampNeg
set_option maxHeartbeats 4000000 in
set_option maxRecDepth 100000 in
theorem m_X3_loadOf (l : Launch) (E : gE) (J : Int64) (I : gI) (y : Nat) (x : Int32) (hy : y < 2) (hw : wf (I y)) : gMr l E J yX3_loadOf cX3_loadOf 2 (some (.object "HayThieves$Load")) 0 0 [.ref (gA E y 0 0), .int x] I (gA E y 4 (f_X3_loadOf I y x)) I := by
  refine g_entry (lv := [(0, .ref (gA E y 0 0)), (1, .int x)]) (by decide) (Nat.le_of_ble_eq_true rfl) rfl ?_
  intro p e s m below meth c0 ls K hG hS hml hr hlocks hl
  have K : kx E p m c0 cX3_loadOf "HayThieves$Yard" _ s := K
  have hx := K.1
  have hb := K.2.1
  have hts := K.2.2.1
  have hown := K.2.2.2.1
  have hSt := K.2.2.2.2
  have hN := hw.N
  have hM := hw.M
  refine lv_aload_n hx hb dX3_loadOf_0 rfl (lv_at hl 0 rfl) ?_
  refine gf_X3_19 K hG (gv0 hy) dX3_loadOf_1 ?_
  refine lv_iload_n hx hb dX3_loadOf_4 rfl (lv_at hl 1 rfl) ?_
  refine lv_if_lt (tgt := 22) hx hb dX3_loadOf_5 (by decide) (fun c1 => ?_) (fun c1 => ?_)
  · refine lv_iconst (v := 0) hx hb dX3_loadOf_22 (by decide) ?_
    refine g_loads K hG (gv8 hy) (gin0 (by decide) (by decide)) dX3_loadOf_23 ?_
    rw [show ((0 : Int32)).toNatClampNeg = 0 from rfl]
    exact g_aret K hG hS hr (Or.inl ⟨_, rfl⟩) hlocks (by simp only [f_X3_loadOf, if_pos c1]) dX3_loadOf_24
  · refine lv_iload_n hx hb dX3_loadOf_8 rfl (lv_at hl 1 rfl) ?_
    refine lv_sipush (v := 320) hx hb dX3_loadOf_9 (by decide) ?_
    refine lv_icmp_ge (tgt := 22) hx hb dX3_loadOf_12 (by decide) (fun c2 => ?_) (fun c2 => ?_)
    · refine lv_iconst (v := 0) hx hb dX3_loadOf_22 (by decide) ?_
      refine g_loads K hG (gv8 hy) (gin0 (by decide) (by decide)) dX3_loadOf_23 ?_
      rw [show ((0 : Int32)).toNatClampNeg = 0 from rfl]
      exact g_aret K hG hS hr (Or.inl ⟨_, rfl⟩) hlocks (by simp only [f_X3_loadOf, if_neg c1, if_pos c2]) dX3_loadOf_24
    · refine lv_iload_n hx hb dX3_loadOf_15 rfl (lv_at hl 1 rfl) ?_
      refine lv_bipush (v := 32) hx hb dX3_loadOf_16 (by decide) ?_
      refine lv_idiv hx hb dX3_loadOf_18 (by decide) ?_
      refine lv_goto (tgt := 23) hx hb dX3_loadOf_19 (by decide) ?_
      refine g_loads K hG (gv8 hy) (rg_div (rg_320a c1 c2)) dX3_loadOf_23 ?_
      exact g_aret K hG hS hr (Or.inl ⟨_, rfl⟩) hlocks (by simp only [f_X3_loadOf, if_neg c1, if_neg c2]) dX3_loadOf_24

theorem rg_loadOf (I : gI) (y : Nat) (x : Int32) : f_X3_loadOf I y x < 10 := by
  unfold f_X3_loadOf
  by_cases c1 : x < 0
  · rw [if_pos c1]; decide
  · rw [if_neg c1]
    by_cases c2 : 320 ≤ x
    · rw [if_pos c2]; decide
    · rw [if_neg c2]; exact vp_lt (rg_div (rg_320a c1 c2))

def f_X3_wakeAll_l1 (y : Nat) : Nat → Nat → gI → gI
  | 0, i, I1 =>
    I1
  | n + 1, i, I1 =>
    let I2 := gU I1 y 1 i 7 0
    f_X3_wakeAll_l1 y n (i + 1) I2
def f_X3_wakeAll (I : gI) (y : Nat) : gI :=
  f_X3_wakeAll_l1 y ((I y 0 0 4).toNatClampNeg) 0 I
set_option maxRecDepth 100000 in
theorem wf_f_X3_wakeAll_l1 (I : gI) (y : Nat) (hy : y < 2) (hw : wf (I y)) : ∀ (n i : Nat) (I1 : gI), wf (I1 y) → I1 y 0 0 4 = I y 0 0 4 → wf (f_X3_wakeAll_l1 y n i I1 y) := by
  intro n
  induction n with
  | zero =>
    intro i I1 hwL hkN
    have eS : f_X3_wakeAll_l1 y 0 i I1 = I1 := by simp only [f_X3_wakeAll_l1]
    rw [eS]
    exact hwL
  | succ n ih =>
    intro i I1 hwL hkN
    obtain ⟨I2, hI2⟩ : ∃ z, z = gU I1 y 1 i 7 0 := ⟨_, rfl⟩
    have hw2_y : wf (I2 y) := by rw [hI2]; exact wf_gU rfl hwL
    have eS : f_X3_wakeAll_l1 y (n + 1) i I1 = f_X3_wakeAll_l1 y n (i + 1) I2 := by simp only [f_X3_wakeAll_l1, ← hI2]
    rw [eS]
    exact ih (i + 1) I2 hw2_y (by rw [hI2]; exact (kn_gU rfl).trans hkN)
set_option maxRecDepth 100000 in
theorem wf_X3_wakeAll (I : gI) (y : Nat) (hy : y < 2) (hw : wf (I y)) : wf (f_X3_wakeAll I y y) := by
  have eS : f_X3_wakeAll I y = f_X3_wakeAll_l1 y ((I y 0 0 4).toNatClampNeg) 0 I := by simp only [f_X3_wakeAll]
  rw [eS]
  exact wf_f_X3_wakeAll_l1 I y hy hw ((I y 0 0 4).toNatClampNeg) 0 I hw rfl
set_option maxRecDepth 100000 in
theorem ne_f_X3_wakeAll_l1 (I : gI) (y : Nat) (hy : y < 2) (hw : wf (I y)) {y' : Nat} (hne : y' ≠ y) : ∀ (n i : Nat) (I1 : gI), wf (I1 y) → I1 y 0 0 4 = I y 0 0 4 → f_X3_wakeAll_l1 y n i I1 y' = I1 y' := by
  intro n
  induction n with
  | zero =>
    intro i I1 hwL hkN
    have hn1 : I1 y' = I1 y' := rfl
    have eS : f_X3_wakeAll_l1 y 0 i I1 = I1 := by simp only [f_X3_wakeAll_l1]
    exact (congrFun eS y').trans hn1
  | succ n ih =>
    intro i I1 hwL hkN
    have hn1 : I1 y' = I1 y' := rfl
    obtain ⟨I2, hI2⟩ : ∃ z, z = gU I1 y 1 i 7 0 := ⟨_, rfl⟩
    have hw2_y : wf (I2 y) := by rw [hI2]; exact wf_gU rfl hwL
    have hn2 : I2 y' = I1 y' := by rw [hI2]; exact (gU_ne _ _ _ _ _ hne).trans hn1
    have eS : f_X3_wakeAll_l1 y (n + 1) i I1 = f_X3_wakeAll_l1 y n (i + 1) I2 := by simp only [f_X3_wakeAll_l1, ← hI2]
    exact (congrFun eS y').trans ((ih (i + 1) I2 hw2_y (by rw [hI2]; exact (kn_gU rfl).trans hkN)).trans hn2)
set_option maxRecDepth 100000 in
theorem ne_X3_wakeAll (I : gI) (y : Nat) (hy : y < 2) (hw : wf (I y)) {y' : Nat} (hne : y' ≠ y) : f_X3_wakeAll I y y' = I y' := by
  have hn : I y' = I y' := rfl
  have eS : f_X3_wakeAll I y = f_X3_wakeAll_l1 y ((I y 0 0 4).toNatClampNeg) 0 I := by simp only [f_X3_wakeAll]
  exact (congrFun eS y').trans ((ne_f_X3_wakeAll_l1 I y hy hw hne ((I y 0 0 4).toNatClampNeg) 0 I hw rfl).trans hn)
set_option maxRecDepth 100000 in
theorem kn_f_X3_wakeAll_l1 (I : gI) (y : Nat) (hy : y < 2) (hw : wf (I y)) : ∀ (n i : Nat) (I1 : gI), wf (I1 y) → I1 y 0 0 4 = I y 0 0 4 → f_X3_wakeAll_l1 y n i I1 y 0 0 4 = I1 y 0 0 4 := by
  intro n
  induction n with
  | zero =>
    intro i I1 hwL hkN
    have hn1 : I1 y 0 0 4 = I1 y 0 0 4 := rfl
    have eS : f_X3_wakeAll_l1 y 0 i I1 = I1 := by simp only [f_X3_wakeAll_l1]
    exact (congrFun (congrFun (congrFun (congrFun eS y) 0) 0) 4).trans hn1
  | succ n ih =>
    intro i I1 hwL hkN
    have hn1 : I1 y 0 0 4 = I1 y 0 0 4 := rfl
    obtain ⟨I2, hI2⟩ : ∃ z, z = gU I1 y 1 i 7 0 := ⟨_, rfl⟩
    have hw2_y : wf (I2 y) := by rw [hI2]; exact wf_gU rfl hwL
    have hn2 : I2 y 0 0 4 = I1 y 0 0 4 := by rw [hI2]; exact (kn_gU rfl).trans hn1
    have eS : f_X3_wakeAll_l1 y (n + 1) i I1 = f_X3_wakeAll_l1 y n (i + 1) I2 := by simp only [f_X3_wakeAll_l1, ← hI2]
    exact (congrFun (congrFun (congrFun (congrFun eS y) 0) 0) 4).trans ((ih (i + 1) I2 hw2_y (by rw [hI2]; exact (kn_gU rfl).trans hkN)).trans hn2)
set_option maxRecDepth 100000 in
theorem kn_X3_wakeAll (I : gI) (y : Nat) (hy : y < 2) (hw : wf (I y)) : f_X3_wakeAll I y y 0 0 4 = I y 0 0 4 := by
  have hn : I y 0 0 4 = I y 0 0 4 := rfl
  have eS : f_X3_wakeAll I y = f_X3_wakeAll_l1 y ((I y 0 0 4).toNatClampNeg) 0 I := by simp only [f_X3_wakeAll]
  exact (congrFun (congrFun (congrFun (congrFun eS y) 0) 0) 4).trans ((kn_f_X3_wakeAll_l1 I y hy hw ((I y 0 0 4).toNatClampNeg) 0 I hw rfl).trans hn)
set_option maxHeartbeats 4000000 in
set_option maxRecDepth 100000 in
theorem m_X3_wakeAll (l : Launch) (E : gE) (J : Int64) (I : gI) (y : Nat) (hy : y < 2) (hw : wf (I y)) : gMv l E J yX3_wakeAll cX3_wakeAll 2 none 0 0 [.ref (gA E y 0 0)] I (f_X3_wakeAll I y) := by
  refine g_entry (lv := [(0, .ref (gA E y 0 0))]) (by decide) (Nat.le_of_ble_eq_true rfl) rfl ?_
  intro p e s m below meth c0 ls K hG hS hml hr hlocks hl
  have K : kx E p m c0 cX3_wakeAll "HayThieves$Yard" _ s := K
  have hx := K.1
  have hb := K.2.1
  have hts := K.2.2.1
  have hown := K.2.2.2.1
  have hSt := K.2.2.2.2
  have hN := hw.N
  have hM := hw.M
  refine lv_iconst (v := 0) hx hb dX3_wakeAll_0 (by decide) ?_
  refine lv_istore_n (lv' := [(1, .int 0), (0, .ref (gA E y 0 0))]) hx hb dX3_wakeAll_1 rfl hl (by decide) rfl (fun ls hl => ?_)
  have hL_l1 : ∀ (n i : Nat)  (I1 : gI) (H : Heap) (locs : List Loc) (ls : Array Slot), i + n = (I y 0 0 4).toNatClampNeg → I1 y 0 0 4 = I y 0 0 4 → f_X3_wakeAll_l1 y n i I1 = (f_X3_wakeAll I y) → wf (I1 y) → GW E J I1 H → va_S (gF E) s.heap H locs → lv_has ls 2 [(1, .int (nI i)), (0, .ref (gA E y 0 0))] → W p l e (grm 0 0) s m ([.ref (gA E y 0 0)] : List Value).toArray below meth c0 H locs 0 0 (MQ below (va_Qv (fun (_ : Unit) => True) (fun _ t => GW E J (f_X3_wakeAll I y) t.heap) (gF E)) ([.ref (gA E y 0 0)] : List Value).toArray s 0 0 (gF E)) (F0 m 2 ls []) := by
    intro n
    induction n with
    | zero =>
      intro i I1 H locs ls hin hkN hTs hwL hG hS hl
      refine lv_iload_n hx hb dX3_wakeAll_2 rfl (lv_at hl 0 rfl) ?_
      refine lv_aload_n hx hb dX3_wakeAll_3 rfl (lv_at hl 1 rfl) ?_
      refine gf_X3_31 K hG (gv0 hy) dX3_wakeAll_4 ?_
      refine lv_icmp_ge (tgt := 26) hx hb dX3_wakeAll_7 (by decide) (fun c1 => ?_) (fun c1 => ?_)
      · have eS : I1 = (f_X3_wakeAll I y) := (by rw [← hTs]; simp only [f_X3_wakeAll_l1, if_pos c1])
        rw [eS] at hG
        exact g_vret K hG hS hr hlocks dX3_wakeAll_26
      · exact absurd (lp_ge (hkN.trans hw.Ne) (by omega) hin) c1
    | succ n ih =>
      intro i I1 H locs ls hin hkN hTs hwL hG hS hl
      refine lv_iload_n hx hb dX3_wakeAll_2 rfl (lv_at hl 0 rfl) ?_
      refine lv_aload_n hx hb dX3_wakeAll_3 rfl (lv_at hl 1 rfl) ?_
      refine gf_X3_31 K hG (gv0 hy) dX3_wakeAll_4 ?_
      refine lv_icmp_ge (tgt := 26) hx hb dX3_wakeAll_7 (by decide) (fun c2 => ?_) (fun c2 => ?_)
      · exact absurd c2 (lp_nge (hkN.trans hw.Ne) (by omega) hin)
      · refine lv_aload_n hx hb dX3_wakeAll_10 rfl (lv_at hl 1 rfl) ?_
        refine gf_X3_11 K hG (gv0 hy) dX3_wakeAll_11 ?_
        refine lv_iload_n hx hb dX3_wakeAll_14 rfl (lv_at hl 0 rfl) ?_
        refine g_lads K hG (gv7 hy) (vp_in_nI (by omega) (by decide)) dX3_wakeAll_15 ?_
        rw [nI_clamp (by omega)]
        refine lv_iconst (v := 0) hx hb dX3_wakeAll_16 (by decide) ?_
        refine pf_X3_70 K hG hS (gv1 hy (by omega)) gz0 dX3_wakeAll_17 (fun I2 hI2 H locs hG hS => ?_)
        have hw2_y : wf (I2 y) := by rw [hI2]; exact wf_gU rfl hwL
        refine lv_iinc (v := (nI (i + 1))) (lv' := [(1, .int (nI (i + 1))), (0, .ref (gA E y 0 0))]) hx hb dX3_wakeAll_20 hl (k := 0) rfl (nI_add i 1) (by decide) rfl (fun ls hl => ?_)
        refine lv_goto (tgt := 2) hx hb dX3_wakeAll_23 (by decide) ?_
        exact ih (i + 1) I2 _ _ _ (by omega) (by rw [hI2]; exact (kn_gU rfl).trans hkN) (by rw [← hTs]; simp only [f_X3_wakeAll_l1, ← hI2, if_neg c2]) hw2_y hG hS (lv_sub hl [0, 1] rfl)
  exact hL_l1 ((I y 0 0 4).toNatClampNeg) 0 I _ _ _ (Nat.zero_add _) rfl (by simp only [f_X3_wakeAll]) hw hG hS (lv_sub hl [0, 1] rfl)
def f_X3_wakeFirstSleeper_l1 (y : Nat) : Nat → Nat → gI → gI
  | 0, i, I =>
    I
  | n + 1, i, I =>
    if (I y 1 i 7) = 0 then
      f_X3_wakeFirstSleeper_l1 y n (i + 1) I
    else
      let I1 := gU I y 1 i 7 0
      I1
def f_X3_wakeFirstSleeper (I : gI) (y : Nat) : gI :=
  f_X3_wakeFirstSleeper_l1 y ((I y 0 0 4).toNatClampNeg) 0 I
set_option maxRecDepth 100000 in
theorem wf_f_X3_wakeFirstSleeper_l1 (I : gI) (y : Nat) (hy : y < 2) (hw : wf (I y)) : ∀ (n i : Nat), wf (f_X3_wakeFirstSleeper_l1 y n i I y) := by
  intro n
  induction n with
  | zero =>
    intro i
    have eS : f_X3_wakeFirstSleeper_l1 y 0 i I = I := by simp only [f_X3_wakeFirstSleeper_l1]
    rw [eS]
    exact hw
  | succ n ih =>
    intro i
    by_cases c3 : (I y 1 i 7) = 0
    · have eS : f_X3_wakeFirstSleeper_l1 y (n + 1) i I = f_X3_wakeFirstSleeper_l1 y n (i + 1) I := by simp only [f_X3_wakeFirstSleeper_l1, if_pos c3]
      rw [eS]
      exact ih (i + 1)
    · obtain ⟨I1, hI1⟩ : ∃ z, z = gU I y 1 i 7 0 := ⟨_, rfl⟩
      have hw1_y : wf (I1 y) := by rw [hI1]; exact wf_gU rfl hw
      have eS : f_X3_wakeFirstSleeper_l1 y (n + 1) i I = I1 := by simp only [f_X3_wakeFirstSleeper_l1, ← hI1, if_neg c3]
      rw [eS]
      exact hw1_y
set_option maxRecDepth 100000 in
theorem wf_X3_wakeFirstSleeper (I : gI) (y : Nat) (hy : y < 2) (hw : wf (I y)) : wf (f_X3_wakeFirstSleeper I y y) := by
  have eS : f_X3_wakeFirstSleeper I y = f_X3_wakeFirstSleeper_l1 y ((I y 0 0 4).toNatClampNeg) 0 I := by simp only [f_X3_wakeFirstSleeper]
  rw [eS]
  exact wf_f_X3_wakeFirstSleeper_l1 I y hy hw ((I y 0 0 4).toNatClampNeg) 0
set_option maxRecDepth 100000 in
theorem ne_f_X3_wakeFirstSleeper_l1 (I : gI) (y : Nat) (hy : y < 2) (hw : wf (I y)) {y' : Nat} (hne : y' ≠ y) : ∀ (n i : Nat), f_X3_wakeFirstSleeper_l1 y n i I y' = I y' := by
  intro n
  induction n with
  | zero =>
    intro i
    have hn : I y' = I y' := rfl
    have eS : f_X3_wakeFirstSleeper_l1 y 0 i I = I := by simp only [f_X3_wakeFirstSleeper_l1]
    exact (congrFun eS y').trans hn
  | succ n ih =>
    intro i
    have hn : I y' = I y' := rfl
    by_cases c3 : (I y 1 i 7) = 0
    · have eS : f_X3_wakeFirstSleeper_l1 y (n + 1) i I = f_X3_wakeFirstSleeper_l1 y n (i + 1) I := by simp only [f_X3_wakeFirstSleeper_l1, if_pos c3]
      exact (congrFun eS y').trans ((ih (i + 1)).trans hn)
    · obtain ⟨I1, hI1⟩ : ∃ z, z = gU I y 1 i 7 0 := ⟨_, rfl⟩
      have hw1_y : wf (I1 y) := by rw [hI1]; exact wf_gU rfl hw
      have hn1 : I1 y' = I y' := by rw [hI1]; exact (gU_ne _ _ _ _ _ hne).trans hn
      have eS : f_X3_wakeFirstSleeper_l1 y (n + 1) i I = I1 := by simp only [f_X3_wakeFirstSleeper_l1, ← hI1, if_neg c3]
      exact (congrFun eS y').trans hn1
set_option maxRecDepth 100000 in
theorem ne_X3_wakeFirstSleeper (I : gI) (y : Nat) (hy : y < 2) (hw : wf (I y)) {y' : Nat} (hne : y' ≠ y) : f_X3_wakeFirstSleeper I y y' = I y' := by
  have hn : I y' = I y' := rfl
  have eS : f_X3_wakeFirstSleeper I y = f_X3_wakeFirstSleeper_l1 y ((I y 0 0 4).toNatClampNeg) 0 I := by simp only [f_X3_wakeFirstSleeper]
  exact (congrFun eS y').trans ((ne_f_X3_wakeFirstSleeper_l1 I y hy hw hne ((I y 0 0 4).toNatClampNeg) 0).trans hn)
set_option maxRecDepth 100000 in
theorem kn_f_X3_wakeFirstSleeper_l1 (I : gI) (y : Nat) (hy : y < 2) (hw : wf (I y)) : ∀ (n i : Nat), f_X3_wakeFirstSleeper_l1 y n i I y 0 0 4 = I y 0 0 4 := by
  intro n
  induction n with
  | zero =>
    intro i
    have hn : I y 0 0 4 = I y 0 0 4 := rfl
    have eS : f_X3_wakeFirstSleeper_l1 y 0 i I = I := by simp only [f_X3_wakeFirstSleeper_l1]
    exact (congrFun (congrFun (congrFun (congrFun eS y) 0) 0) 4).trans hn
  | succ n ih =>
    intro i
    have hn : I y 0 0 4 = I y 0 0 4 := rfl
    by_cases c3 : (I y 1 i 7) = 0
    · have eS : f_X3_wakeFirstSleeper_l1 y (n + 1) i I = f_X3_wakeFirstSleeper_l1 y n (i + 1) I := by simp only [f_X3_wakeFirstSleeper_l1, if_pos c3]
      exact (congrFun (congrFun (congrFun (congrFun eS y) 0) 0) 4).trans ((ih (i + 1)).trans hn)
    · obtain ⟨I1, hI1⟩ : ∃ z, z = gU I y 1 i 7 0 := ⟨_, rfl⟩
      have hw1_y : wf (I1 y) := by rw [hI1]; exact wf_gU rfl hw
      have hn1 : I1 y 0 0 4 = I y 0 0 4 := by rw [hI1]; exact (kn_gU rfl).trans hn
      have eS : f_X3_wakeFirstSleeper_l1 y (n + 1) i I = I1 := by simp only [f_X3_wakeFirstSleeper_l1, ← hI1, if_neg c3]
      exact (congrFun (congrFun (congrFun (congrFun eS y) 0) 0) 4).trans hn1
set_option maxRecDepth 100000 in
theorem kn_X3_wakeFirstSleeper (I : gI) (y : Nat) (hy : y < 2) (hw : wf (I y)) : f_X3_wakeFirstSleeper I y y 0 0 4 = I y 0 0 4 := by
  have hn : I y 0 0 4 = I y 0 0 4 := rfl
  have eS : f_X3_wakeFirstSleeper I y = f_X3_wakeFirstSleeper_l1 y ((I y 0 0 4).toNatClampNeg) 0 I := by simp only [f_X3_wakeFirstSleeper]
  exact (congrFun (congrFun (congrFun (congrFun eS y) 0) 0) 4).trans ((kn_f_X3_wakeFirstSleeper_l1 I y hy hw ((I y 0 0 4).toNatClampNeg) 0).trans hn)
set_option maxHeartbeats 4000000 in
set_option maxRecDepth 100000 in
theorem m_X3_wakeFirstSleeper (l : Launch) (E : gE) (J : Int64) (I : gI) (y : Nat) (hy : y < 2) (hw : wf (I y)) : gMv l E J yX3_wakeFirstSleeper cX3_wakeFirstSleeper 2 none 0 0 [.ref (gA E y 0 0)] I (f_X3_wakeFirstSleeper I y) := by
  refine g_entry (lv := [(0, .ref (gA E y 0 0))]) (by decide) (Nat.le_of_ble_eq_true rfl) rfl ?_
  intro p e s m below meth c0 ls K hG hS hml hr hlocks hl
  have K : kx E p m c0 cX3_wakeFirstSleeper "HayThieves$Yard" _ s := K
  have hx := K.1
  have hb := K.2.1
  have hts := K.2.2.1
  have hown := K.2.2.2.1
  have hSt := K.2.2.2.2
  have hN := hw.N
  have hM := hw.M
  refine lv_iconst (v := 0) hx hb dX3_wakeFirstSleeper_0 (by decide) ?_
  refine lv_istore_n (lv' := [(1, .int 0), (0, .ref (gA E y 0 0))]) hx hb dX3_wakeFirstSleeper_1 rfl hl (by decide) rfl (fun ls hl => ?_)
  have hL_l1 : ∀ (n i : Nat)  (H : Heap) (locs : List Loc) (ls : Array Slot), i + n = (I y 0 0 4).toNatClampNeg → f_X3_wakeFirstSleeper_l1 y n i I = (f_X3_wakeFirstSleeper I y) → GW E J I H → va_S (gF E) s.heap H locs → lv_has ls 2 [(1, .int (nI i)), (0, .ref (gA E y 0 0))] → W p l e (grm 0 0) s m ([.ref (gA E y 0 0)] : List Value).toArray below meth c0 H locs 0 0 (MQ below (va_Qv (fun (_ : Unit) => True) (fun _ t => GW E J (f_X3_wakeFirstSleeper I y) t.heap) (gF E)) ([.ref (gA E y 0 0)] : List Value).toArray s 0 0 (gF E)) (F0 m 2 ls []) := by
    intro n
    induction n with
    | zero =>
      intro i H locs ls hin hTs hG hS hl
      refine lv_iload_n hx hb dX3_wakeFirstSleeper_2 rfl (lv_at hl 0 rfl) ?_
      refine lv_aload_n hx hb dX3_wakeFirstSleeper_3 rfl (lv_at hl 1 rfl) ?_
      refine gf_X3_31 K hG (gv0 hy) dX3_wakeFirstSleeper_4 ?_
      refine lv_icmp_ge (tgt := 39) hx hb dX3_wakeFirstSleeper_7 (by decide) (fun c1 => ?_) (fun c1 => ?_)
      · have eS : I = (f_X3_wakeFirstSleeper I y) := (by rw [← hTs]; simp only [f_X3_wakeFirstSleeper_l1, if_pos c1])
        rw [eS] at hG
        exact g_vret K hG hS hr hlocks dX3_wakeFirstSleeper_39
      · exact absurd (lp_ge hw.Ne (by omega) hin) c1
    | succ n ih =>
      intro i H locs ls hin hTs hG hS hl
      refine lv_iload_n hx hb dX3_wakeFirstSleeper_2 rfl (lv_at hl 0 rfl) ?_
      refine lv_aload_n hx hb dX3_wakeFirstSleeper_3 rfl (lv_at hl 1 rfl) ?_
      refine gf_X3_31 K hG (gv0 hy) dX3_wakeFirstSleeper_4 ?_
      refine lv_icmp_ge (tgt := 39) hx hb dX3_wakeFirstSleeper_7 (by decide) (fun c2 => ?_) (fun c2 => ?_)
      · exact absurd c2 (lp_nge hw.Ne (by omega) hin)
      · refine lv_aload_n hx hb dX3_wakeFirstSleeper_10 rfl (lv_at hl 1 rfl) ?_
        refine gf_X3_11 K hG (gv0 hy) dX3_wakeFirstSleeper_11 ?_
        refine lv_iload_n hx hb dX3_wakeFirstSleeper_14 rfl (lv_at hl 0 rfl) ?_
        refine g_lads K hG (gv7 hy) (vp_in_nI (by omega) (by decide)) dX3_wakeFirstSleeper_15 ?_
        rw [nI_clamp (by omega)]
        refine gf_X3_70 K hG (gv1 hy (by omega)) dX3_wakeFirstSleeper_16 ?_
        refine lv_if_eq (tgt := 33) hx hb dX3_wakeFirstSleeper_19 (by decide) (fun c3 => ?_) (fun c3 => ?_)
        · refine lv_iinc (v := (nI (i + 1))) (lv' := [(1, .int (nI (i + 1))), (0, .ref (gA E y 0 0))]) hx hb dX3_wakeFirstSleeper_33 hl (k := 0) rfl (nI_add i 1) (by decide) rfl (fun ls hl => ?_)
          refine lv_goto (tgt := 2) hx hb dX3_wakeFirstSleeper_36 (by decide) ?_
          exact ih (i + 1) _ _ _ (by omega) (by rw [← hTs]; simp only [f_X3_wakeFirstSleeper_l1, if_neg c2, if_pos c3]) hG hS (lv_sub hl [0, 1] rfl)
        · refine lv_aload_n hx hb dX3_wakeFirstSleeper_22 rfl (lv_at hl 1 rfl) ?_
          refine gf_X3_11 K hG (gv0 hy) dX3_wakeFirstSleeper_23 ?_
          refine lv_iload_n hx hb dX3_wakeFirstSleeper_26 rfl (lv_at hl 0 rfl) ?_
          refine g_lads K hG (gv7 hy) (vp_in_nI (by omega) (by decide)) dX3_wakeFirstSleeper_27 ?_
          rw [nI_clamp (by omega)]
          refine lv_iconst (v := 0) hx hb dX3_wakeFirstSleeper_28 (by decide) ?_
          refine pf_X3_70 K hG hS (gv1 hy (by omega)) gz0 dX3_wakeFirstSleeper_29 (fun I1 hI1 H locs hG hS => ?_)
          have hw1_y : wf (I1 y) := by rw [hI1]; exact wf_gU rfl hw
          have eS : I1 = (f_X3_wakeFirstSleeper I y) := (by rw [← hTs]; simp only [f_X3_wakeFirstSleeper_l1, ← hI1, if_neg c2, if_neg c3])
          rw [eS] at hG
          exact g_vret K hG hS hr hlocks dX3_wakeFirstSleeper_32
  exact hL_l1 ((I y 0 0 4).toNatClampNeg) 0 _ _ _ (Nat.zero_add _) (by simp only [f_X3_wakeFirstSleeper]) hG hS (lv_sub hl [0, 1] rfl)
def f_X3_addLad_v (I : gI) (y : Nat) (x : Int32) : Int32 :=
  if (I y 0 0 4) < 6 then
    let I1 := gU I y 1 ((I y 0 0 4).toNatClampNeg) 1 x
    let I2 := gU I1 y 0 0 4 ((I1 y 0 0 4) + 1)
    ((I2 y 0 0 4) - 1)
  else
    (-1)
def f_X3_addLad_s (I : gI) (y : Nat) (x : Int32) : gI :=
  if (I y 0 0 4) < 6 then
    let I1 := gU I y 1 ((I y 0 0 4).toNatClampNeg) 1 x
    let I2 := gU I1 y 0 0 4 ((I1 y 0 0 4) + 1)
    I2
  else
    I
set_option maxRecDepth 100000 in
theorem wf_X3_addLad (I : gI) (y : Nat) (x : Int32) (hy : y < 2) (hw : wf (I y)) : wf (f_X3_addLad_s I y x y) := by
  by_cases c1 : (I y 0 0 4) < 6
  · obtain ⟨I1, hI1⟩ : ∃ z, z = gU I y 1 ((I y 0 0 4).toNatClampNeg) 1 x := ⟨_, rfl⟩
    have hw1_y : wf (I1 y) := by rw [hI1]; exact wf_gU rfl hw
    obtain ⟨I2, hI2⟩ : ∃ z, z = gU I1 y 0 0 4 ((I1 y 0 0 4) + 1) := ⟨_, rfl⟩
    have hw2_y : wf (I2 y) := by rw [hI2]; exact wf_N (rg_up (by rw [hI1, kn_gU rfl]; exact rg_self ⟨hw.N, hw.Ne⟩ (by decide) c1) (by decide)) hw1_y
    have eS : f_X3_addLad_s I y x = I2 := by simp only [f_X3_addLad_s, ← hI1, ← hI2, if_pos c1]
    rw [eS]
    exact hw2_y
  · have eS : f_X3_addLad_s I y x = I := by simp only [f_X3_addLad_s, if_neg c1]
    rw [eS]
    exact hw
set_option maxRecDepth 100000 in
theorem ne_X3_addLad (I : gI) (y : Nat) (x : Int32) (hy : y < 2) (hw : wf (I y)) {y' : Nat} (hne : y' ≠ y) : f_X3_addLad_s I y x y' = I y' := by
  have hn : I y' = I y' := rfl
  by_cases c1 : (I y 0 0 4) < 6
  · obtain ⟨I1, hI1⟩ : ∃ z, z = gU I y 1 ((I y 0 0 4).toNatClampNeg) 1 x := ⟨_, rfl⟩
    have hw1_y : wf (I1 y) := by rw [hI1]; exact wf_gU rfl hw
    have hn1 : I1 y' = I y' := by rw [hI1]; exact (gU_ne _ _ _ _ _ hne).trans hn
    obtain ⟨I2, hI2⟩ : ∃ z, z = gU I1 y 0 0 4 ((I1 y 0 0 4) + 1) := ⟨_, rfl⟩
    have hw2_y : wf (I2 y) := by rw [hI2]; exact wf_N (rg_up (by rw [hI1, kn_gU rfl]; exact rg_self ⟨hw.N, hw.Ne⟩ (by decide) c1) (by decide)) hw1_y
    have hn2 : I2 y' = I y' := by rw [hI2]; exact (gU_ne _ _ _ _ _ hne).trans hn1
    have eS : f_X3_addLad_s I y x = I2 := by simp only [f_X3_addLad_s, ← hI1, ← hI2, if_pos c1]
    exact (congrFun eS y').trans hn2
  · have eS : f_X3_addLad_s I y x = I := by simp only [f_X3_addLad_s, if_neg c1]
    exact (congrFun eS y').trans hn
set_option maxHeartbeats 4000000 in
set_option maxRecDepth 100000 in
theorem m_X3_addLad (l : Launch) (E : gE) (J : Int64) (I : gI) (y : Nat) (x : Int32) (hy : y < 2) (hw : wf (I y)) : gMi l E J yX3_addLad cX3_addLad 2 (some .int) 0 0 [.ref (gA E y 0 0), .int x] I (f_X3_addLad_v I y x) (f_X3_addLad_s I y x) := by
  refine g_entry (lv := [(0, .ref (gA E y 0 0)), (1, .int x)]) (by decide) (Nat.le_of_ble_eq_true rfl) rfl ?_
  intro p e s m below meth c0 ls K hG hS hml hr hlocks hl
  have K : kx E p m c0 cX3_addLad "HayThieves$Yard" _ s := K
  have hx := K.1
  have hb := K.2.1
  have hts := K.2.2.1
  have hown := K.2.2.2.1
  have hSt := K.2.2.2.2
  have hN := hw.N
  have hM := hw.M
  refine lv_aload_n hx hb dX3_addLad_0 rfl (lv_at hl 0 rfl) ?_
  refine gf_X3_31 K hG (gv0 hy) dX3_addLad_1 ?_
  refine lv_bipush (v := 6) hx hb dX3_addLad_4 (by decide) ?_
  refine lv_icmp_lt (tgt := 11) hx hb dX3_addLad_6 (by decide) (fun c1 => ?_) (fun c1 => ?_)
  · refine lv_aload_n hx hb dX3_addLad_11 rfl (lv_at hl 0 rfl) ?_
    refine gf_X3_11 K hG (gv0 hy) dX3_addLad_12 ?_
    refine lv_aload_n hx hb dX3_addLad_15 rfl (lv_at hl 0 rfl) ?_
    refine gf_X3_31 K hG (gv0 hy) dX3_addLad_16 ?_
    refine g_lads K hG (gv7 hy) (rg_self ⟨hw.N, hw.Ne⟩ (by decide) c1) dX3_addLad_19 ?_
    refine lv_iload_n hx hb dX3_addLad_20 rfl (lv_at hl 1 rfl) ?_
    refine pf_X3_54 K hG hS (gv1 hy (vp_lt (rg_self ⟨hw.N, hw.Ne⟩ (by decide) c1))) dX3_addLad_21 (fun I1 hI1 H locs hG hS => ?_)
    have hw1_y : wf (I1 y) := by rw [hI1]; exact wf_gU rfl hw
    refine lv_aload_n hx hb dX3_addLad_24 rfl (lv_at hl 0 rfl) ?_
    refine lv_dup hx hb dX3_addLad_25 rfl ?_
    refine gf_X3_31 K hG (gv0 hy) dX3_addLad_26 ?_
    refine lv_iconst (v := 1) hx hb dX3_addLad_29 (by decide) ?_
    refine lv_iadd hx hb dX3_addLad_30 ?_
    refine pf_X3_31 K hG hS (gv0 hy) dX3_addLad_31 (fun I2 hI2 H locs hG hS => ?_)
    have hw2_y : wf (I2 y) := by rw [hI2]; exact wf_N (rg_up (by rw [hI1, kn_gU rfl]; exact rg_self ⟨hw.N, hw.Ne⟩ (by decide) c1) (by decide)) hw1_y
    refine lv_aload_n hx hb dX3_addLad_34 rfl (lv_at hl 0 rfl) ?_
    refine gf_X3_31 K hG (gv0 hy) dX3_addLad_35 ?_
    refine lv_iconst (v := 1) hx hb dX3_addLad_38 (by decide) ?_
    refine lv_isub hx hb dX3_addLad_39 ?_
    have eS : I2 = (f_X3_addLad_s I y x) := (by simp only [f_X3_addLad_s, ← hI1, ← hI2, if_pos c1])
    rw [eS] at hG
    exact g_iret K hG hS hr hlocks (by simp only [f_X3_addLad_v, ← hI1, ← hI2, if_pos c1]) dX3_addLad_40
  · refine lv_iconst (v := (-1)) hx hb dX3_addLad_9 (by decide) ?_
    have eS : I = (f_X3_addLad_s I y x) := (by simp only [f_X3_addLad_s, if_neg c1])
    rw [eS] at hG
    exact g_iret K hG hS hr hlocks (by simp only [f_X3_addLad_v, if_neg c1]) dX3_addLad_10
def f_X3_addLoad_v (I : gI) (y : Nat) (x : Int32) : Int32 :=
  if (I y 0 0 5) < 10 then
    let I1 := gU I y 4 ((I y 0 0 5).toNatClampNeg) 0 x
    let I2 := gU I1 y 4 ((I1 y 0 0 5).toNatClampNeg) 2 (I1 y 0 0 6)
    let I3 := f_X3_setBales I2 y (((I2 y 0 0 5) * 32) + 1) x
    let I4 := gU I3 y 0 0 5 ((I3 y 0 0 5) + 1)
    let I5 := f_X3_wakeAll I4 y
    ((I5 y 0 0 5) - 1)
  else
    (-1)
def f_X3_addLoad_s (I : gI) (y : Nat) (x : Int32) : gI :=
  if (I y 0 0 5) < 10 then
    let I1 := gU I y 4 ((I y 0 0 5).toNatClampNeg) 0 x
    let I2 := gU I1 y 4 ((I1 y 0 0 5).toNatClampNeg) 2 (I1 y 0 0 6)
    let I3 := f_X3_setBales I2 y (((I2 y 0 0 5) * 32) + 1) x
    let I4 := gU I3 y 0 0 5 ((I3 y 0 0 5) + 1)
    let I5 := f_X3_wakeAll I4 y
    I5
  else
    I
set_option maxRecDepth 100000 in
theorem wf_X3_addLoad (I : gI) (y : Nat) (x : Int32) (hy : y < 2) (hw : wf (I y)) : wf (f_X3_addLoad_s I y x y) := by
  by_cases c1 : (I y 0 0 5) < 10
  · obtain ⟨I1, hI1⟩ : ∃ z, z = gU I y 4 ((I y 0 0 5).toNatClampNeg) 0 x := ⟨_, rfl⟩
    have hw1_y : wf (I1 y) := by rw [hI1]; exact wf_gU rfl hw
    obtain ⟨I2, hI2⟩ : ∃ z, z = gU I1 y 4 ((I1 y 0 0 5).toNatClampNeg) 2 (I1 y 0 0 6) := ⟨_, rfl⟩
    have hw2_y : wf (I2 y) := by rw [hI2]; exact wf_gU rfl hw1_y
    obtain ⟨I3, hI3⟩ : ∃ z, z = f_X3_setBales I2 y (((I2 y 0 0 5) * 32) + 1) x := ⟨_, rfl⟩
    have hw3_y : wf (I3 y) := by rw [hI3]; exact wf_X3_setBales I2 y (((I2 y 0 0 5) * 32) + 1) x hy hw2_y
    obtain ⟨I4, hI4⟩ : ∃ z, z = gU I3 y 0 0 5 ((I3 y 0 0 5) + 1) := ⟨_, rfl⟩
    have hw4_y : wf (I4 y) := by rw [hI4]; exact wf_M (rg_up (b := 10) (by rw [hI3, km_X3_setBales I2 y _ _ hy hw2_y, hI2, km_gU rfl, hI1, km_gU rfl]; exact rg_self ⟨hw.M, hw.Me⟩ (by decide) c1) (by decide)) hw3_y
    obtain ⟨I5, hI5⟩ : ∃ z, z = f_X3_wakeAll I4 y := ⟨_, rfl⟩
    have hw5_y : wf (I5 y) := by rw [hI5]; exact wf_X3_wakeAll I4 y hy hw4_y
    have eS : f_X3_addLoad_s I y x = I5 := by simp only [f_X3_addLoad_s, ← hI1, ← hI2, ← hI3, ← hI4, ← hI5, if_pos c1]
    rw [eS]
    exact hw5_y
  · have eS : f_X3_addLoad_s I y x = I := by simp only [f_X3_addLoad_s, if_neg c1]
    rw [eS]
    exact hw
set_option maxRecDepth 100000 in
theorem ne_X3_addLoad (I : gI) (y : Nat) (x : Int32) (hy : y < 2) (hw : wf (I y)) {y' : Nat} (hne : y' ≠ y) : f_X3_addLoad_s I y x y' = I y' := by
  have hn : I y' = I y' := rfl
  by_cases c1 : (I y 0 0 5) < 10
  · obtain ⟨I1, hI1⟩ : ∃ z, z = gU I y 4 ((I y 0 0 5).toNatClampNeg) 0 x := ⟨_, rfl⟩
    have hw1_y : wf (I1 y) := by rw [hI1]; exact wf_gU rfl hw
    have hn1 : I1 y' = I y' := by rw [hI1]; exact (gU_ne _ _ _ _ _ hne).trans hn
    obtain ⟨I2, hI2⟩ : ∃ z, z = gU I1 y 4 ((I1 y 0 0 5).toNatClampNeg) 2 (I1 y 0 0 6) := ⟨_, rfl⟩
    have hw2_y : wf (I2 y) := by rw [hI2]; exact wf_gU rfl hw1_y
    have hn2 : I2 y' = I y' := by rw [hI2]; exact (gU_ne _ _ _ _ _ hne).trans hn1
    obtain ⟨I3, hI3⟩ : ∃ z, z = f_X3_setBales I2 y (((I2 y 0 0 5) * 32) + 1) x := ⟨_, rfl⟩
    have hw3_y : wf (I3 y) := by rw [hI3]; exact wf_X3_setBales I2 y (((I2 y 0 0 5) * 32) + 1) x hy hw2_y
    have hn3 : I3 y' = I y' := by rw [hI3]; exact (ne_X3_setBales I2 y (((I2 y 0 0 5) * 32) + 1) x hy hw2_y (y' := y') hne).trans hn2
    obtain ⟨I4, hI4⟩ : ∃ z, z = gU I3 y 0 0 5 ((I3 y 0 0 5) + 1) := ⟨_, rfl⟩
    have hw4_y : wf (I4 y) := by rw [hI4]; exact wf_M (rg_up (b := 10) (by rw [hI3, km_X3_setBales I2 y _ _ hy hw2_y, hI2, km_gU rfl, hI1, km_gU rfl]; exact rg_self ⟨hw.M, hw.Me⟩ (by decide) c1) (by decide)) hw3_y
    have hn4 : I4 y' = I y' := by rw [hI4]; exact (gU_ne _ _ _ _ _ hne).trans hn3
    obtain ⟨I5, hI5⟩ : ∃ z, z = f_X3_wakeAll I4 y := ⟨_, rfl⟩
    have hw5_y : wf (I5 y) := by rw [hI5]; exact wf_X3_wakeAll I4 y hy hw4_y
    have hn5 : I5 y' = I y' := by rw [hI5]; exact (ne_X3_wakeAll I4 y hy hw4_y (y' := y') hne).trans hn4
    have eS : f_X3_addLoad_s I y x = I5 := by simp only [f_X3_addLoad_s, ← hI1, ← hI2, ← hI3, ← hI4, ← hI5, if_pos c1]
    exact (congrFun eS y').trans hn5
  · have eS : f_X3_addLoad_s I y x = I := by simp only [f_X3_addLoad_s, if_neg c1]
    exact (congrFun eS y').trans hn
set_option maxRecDepth 100000 in
theorem kn_X3_addLoad (I : gI) (y : Nat) (x : Int32) (hy : y < 2) (hw : wf (I y)) : f_X3_addLoad_s I y x y 0 0 4 = I y 0 0 4 := by
  have hn : I y 0 0 4 = I y 0 0 4 := rfl
  by_cases c1 : (I y 0 0 5) < 10
  · obtain ⟨I1, hI1⟩ : ∃ z, z = gU I y 4 ((I y 0 0 5).toNatClampNeg) 0 x := ⟨_, rfl⟩
    have hw1_y : wf (I1 y) := by rw [hI1]; exact wf_gU rfl hw
    have hn1 : I1 y 0 0 4 = I y 0 0 4 := by rw [hI1]; exact (kn_gU rfl).trans hn
    obtain ⟨I2, hI2⟩ : ∃ z, z = gU I1 y 4 ((I1 y 0 0 5).toNatClampNeg) 2 (I1 y 0 0 6) := ⟨_, rfl⟩
    have hw2_y : wf (I2 y) := by rw [hI2]; exact wf_gU rfl hw1_y
    have hn2 : I2 y 0 0 4 = I y 0 0 4 := by rw [hI2]; exact (kn_gU rfl).trans hn1
    obtain ⟨I3, hI3⟩ : ∃ z, z = f_X3_setBales I2 y (((I2 y 0 0 5) * 32) + 1) x := ⟨_, rfl⟩
    have hw3_y : wf (I3 y) := by rw [hI3]; exact wf_X3_setBales I2 y (((I2 y 0 0 5) * 32) + 1) x hy hw2_y
    have hn3 : I3 y 0 0 4 = I y 0 0 4 := by rw [hI3]; exact (kn_X3_setBales I2 y (((I2 y 0 0 5) * 32) + 1) x hy hw2_y).trans hn2
    obtain ⟨I4, hI4⟩ : ∃ z, z = gU I3 y 0 0 5 ((I3 y 0 0 5) + 1) := ⟨_, rfl⟩
    have hw4_y : wf (I4 y) := by rw [hI4]; exact wf_M (rg_up (b := 10) (by rw [hI3, km_X3_setBales I2 y _ _ hy hw2_y, hI2, km_gU rfl, hI1, km_gU rfl]; exact rg_self ⟨hw.M, hw.Me⟩ (by decide) c1) (by decide)) hw3_y
    have hn4 : I4 y 0 0 4 = I y 0 0 4 := by rw [hI4]; exact (kn_gU rfl).trans hn3
    obtain ⟨I5, hI5⟩ : ∃ z, z = f_X3_wakeAll I4 y := ⟨_, rfl⟩
    have hw5_y : wf (I5 y) := by rw [hI5]; exact wf_X3_wakeAll I4 y hy hw4_y
    have hn5 : I5 y 0 0 4 = I y 0 0 4 := by rw [hI5]; exact (kn_X3_wakeAll I4 y hy hw4_y).trans hn4
    have eS : f_X3_addLoad_s I y x = I5 := by simp only [f_X3_addLoad_s, ← hI1, ← hI2, ← hI3, ← hI4, ← hI5, if_pos c1]
    exact (congrFun (congrFun (congrFun (congrFun eS y) 0) 0) 4).trans hn5
  · have eS : f_X3_addLoad_s I y x = I := by simp only [f_X3_addLoad_s, if_neg c1]
    exact (congrFun (congrFun (congrFun (congrFun eS y) 0) 0) 4).trans hn
set_option maxHeartbeats 4000000 in
set_option maxRecDepth 100000 in
theorem m_X3_addLoad (l : Launch) (E : gE) (J : Int64) (I : gI) (y : Nat) (x : Int32) (hy : y < 2) (hw : wf (I y)) : gMi l E J yX3_addLoad cX3_addLoad 2 (some .int) 1 22 [.ref (gA E y 0 0), .int x] I (f_X3_addLoad_v I y x) (f_X3_addLoad_s I y x) := by
  refine g_entry (lv := [(0, .ref (gA E y 0 0)), (1, .int x)]) (by decide) (Nat.le_of_ble_eq_true rfl) rfl ?_
  intro p e s m below meth c0 ls K hG hS hml hr hlocks hl
  have K : kx E p m c0 cX3_addLoad "HayThieves$Yard" _ s := K
  have hx := K.1
  have hb := K.2.1
  have hts := K.2.2.1
  have hown := K.2.2.2.1
  have hSt := K.2.2.2.2
  have hN := hw.N
  have hM := hw.M
  refine lv_aload_n hx hb dX3_addLoad_0 rfl (lv_at hl 0 rfl) ?_
  refine gf_X3_35 K hG (gv0 hy) dX3_addLoad_1 ?_
  refine lv_bipush (v := 10) hx hb dX3_addLoad_4 (by decide) ?_
  refine lv_icmp_lt (tgt := 11) hx hb dX3_addLoad_6 (by decide) (fun c1 => ?_) (fun c1 => ?_)
  · refine lv_aload_n hx hb dX3_addLoad_11 rfl (lv_at hl 0 rfl) ?_
    refine gf_X3_19 K hG (gv0 hy) dX3_addLoad_12 ?_
    refine lv_aload_n hx hb dX3_addLoad_15 rfl (lv_at hl 0 rfl) ?_
    refine gf_X3_35 K hG (gv0 hy) dX3_addLoad_16 ?_
    refine g_loads K hG (gv8 hy) (rg_self ⟨hw.M, hw.Me⟩ (by decide) c1) dX3_addLoad_19 ?_
    refine lv_iload_n hx hb dX3_addLoad_20 rfl (lv_at hl 1 rfl) ?_
    refine pf_X3_57 K hG hS (gv4 hy (vp_lt (rg_self ⟨hw.M, hw.Me⟩ (by decide) c1))) dX3_addLoad_21 (fun I1 hI1 H locs hG hS => ?_)
    have hw1_y : wf (I1 y) := by rw [hI1]; exact wf_gU rfl hw
    refine lv_aload_n hx hb dX3_addLoad_24 rfl (lv_at hl 0 rfl) ?_
    refine gf_X3_19 K hG (gv0 hy) dX3_addLoad_25 ?_
    refine lv_aload_n hx hb dX3_addLoad_28 rfl (lv_at hl 0 rfl) ?_
    refine gf_X3_35 K hG (gv0 hy) dX3_addLoad_29 ?_
    refine g_loads K hG (gv8 hy) (show vp_in (I1 y 0 0 5) 10 from by rw [hI1, km_gU rfl]; exact rg_self ⟨hw.M, hw.Me⟩ (by decide) c1) dX3_addLoad_32 ?_
    refine lv_aload_n hx hb dX3_addLoad_33 rfl (lv_at hl 0 rfl) ?_
    refine gf_X3_38 K hG (gv0 hy) dX3_addLoad_34 ?_
    refine pf_X3_60 K hG hS (gv4 hy (vp_lt (show vp_in (I1 y 0 0 5) 10 from by rw [hI1, km_gU rfl]; exact rg_self ⟨hw.M, hw.Me⟩ (by decide) c1))) dX3_addLoad_37 (fun I2 hI2 H locs hG hS => ?_)
    have hw2_y : wf (I2 y) := by rw [hI2]; exact wf_gU rfl hw1_y
    refine lv_aload_n hx hb dX3_addLoad_40 rfl (lv_at hl 0 rfl) ?_
    refine lv_aload_n hx hb dX3_addLoad_41 rfl (lv_at hl 0 rfl) ?_
    refine gf_X3_35 K hG (gv0 hy) dX3_addLoad_42 ?_
    refine lv_bipush (v := 32) hx hb dX3_addLoad_45 (by decide) ?_
    refine lv_imul hx hb dX3_addLoad_47 ?_
    refine lv_iconst (v := 1) hx hb dX3_addLoad_48 (by decide) ?_
    refine lv_iadd hx hb dX3_addLoad_49 ?_
    refine lv_iload_n hx hb dX3_addLoad_50 rfl (lv_at hl 1 rfl) ?_
    refine g_kv (g_runV (As := [.int (((I2 y 0 0 5) * 32) + 1), .int x]) (rest := []) K hml ca_X3_setBales q423 (m_X3_setBales l E J I2 y (((I2 y 0 0 5) * 32) + 1) x hy hw2_y) hG hS (gv0 hy) rfl rfl rfl rfl hl.1 (Nat.le_of_ble_eq_true rfl) ⟨by decide, by decide⟩ dX3_addLoad_51 ⟨Nat.zero_le _, Nat.zero_le _⟩) hS (fun H locs hG hS => ?_)
    obtain ⟨I3, hI3⟩ : ∃ z, z = f_X3_setBales I2 y (((I2 y 0 0 5) * 32) + 1) x := ⟨_, rfl⟩
    rw [← hI3] at hG
    have hw3_y : wf (I3 y) := by rw [hI3]; exact wf_X3_setBales I2 y (((I2 y 0 0 5) * 32) + 1) x hy hw2_y
    refine lv_aload_n hx hb dX3_addLoad_54 rfl (lv_at hl 0 rfl) ?_
    refine lv_dup hx hb dX3_addLoad_55 rfl ?_
    refine gf_X3_35 K hG (gv0 hy) dX3_addLoad_56 ?_
    refine lv_iconst (v := 1) hx hb dX3_addLoad_59 (by decide) ?_
    refine lv_iadd hx hb dX3_addLoad_60 ?_
    refine pf_X3_35 K hG hS (gv0 hy) dX3_addLoad_61 (fun I4 hI4 H locs hG hS => ?_)
    have hw4_y : wf (I4 y) := by rw [hI4]; exact wf_M (rg_up (b := 10) (by rw [hI3, km_X3_setBales I2 y _ _ hy hw2_y, hI2, km_gU rfl, hI1, km_gU rfl]; exact rg_self ⟨hw.M, hw.Me⟩ (by decide) c1) (by decide)) hw3_y
    refine lv_aload_n hx hb dX3_addLoad_64 rfl (lv_at hl 0 rfl) ?_
    refine g_kv (g_runV (As := []) (rest := []) K hml ca_X3_wakeAll q629 (m_X3_wakeAll l E J I4 y hy hw4_y) hG hS (gv0 hy) rfl rfl rfl rfl hl.1 (Nat.le_of_ble_eq_true rfl) ⟨by decide, by decide⟩ dX3_addLoad_65 ⟨Nat.zero_le _, Nat.zero_le _⟩) hS (fun H locs hG hS => ?_)
    obtain ⟨I5, hI5⟩ : ∃ z, z = f_X3_wakeAll I4 y := ⟨_, rfl⟩
    rw [← hI5] at hG
    have hw5_y : wf (I5 y) := by rw [hI5]; exact wf_X3_wakeAll I4 y hy hw4_y
    refine lv_aload_n hx hb dX3_addLoad_68 rfl (lv_at hl 0 rfl) ?_
    refine gf_X3_35 K hG (gv0 hy) dX3_addLoad_69 ?_
    refine lv_iconst (v := 1) hx hb dX3_addLoad_72 (by decide) ?_
    refine lv_isub hx hb dX3_addLoad_73 ?_
    have eS : I5 = (f_X3_addLoad_s I y x) := (by simp only [f_X3_addLoad_s, ← hI1, ← hI2, ← hI3, ← hI4, ← hI5, if_pos c1])
    rw [eS] at hG
    exact g_iret K hG hS hr hlocks (by simp only [f_X3_addLoad_v, ← hI1, ← hI2, ← hI3, ← hI4, ← hI5, if_pos c1]) dX3_addLoad_74
  · refine lv_iconst (v := (-1)) hx hb dX3_addLoad_9 (by decide) ?_
    have eS : I = (f_X3_addLoad_s I y x) := (by simp only [f_X3_addLoad_s, if_neg c1])
    rw [eS] at hG
    exact g_iret K hG hS hr hlocks (by simp only [f_X3_addLoad_v, if_neg c1]) dX3_addLoad_10
def f_X3_canBeRobbed (I : gI) (y : Nat) (j k : Nat) : Int32 :=
  if j = k then
    0
  else
    if (I y 2 ((I y 1 j 3).toNatClampNeg) 1) ≤ 0 then
      0
    else
      1
set_option maxHeartbeats 4000000 in
set_option maxRecDepth 100000 in
theorem m_X3_canBeRobbed (l : Launch) (E : gE) (J : Int64) (I : gI) (y : Nat) (j k : Nat) (hy : y < 2) (hw : wf (I y)) (hj : j < 6) (hk : k < 6) : gMi l E J yX3_canBeRobbed cX3_canBeRobbed 3 (some .boolean) 0 0 [.ref (gA E y 0 0), .ref (gA E y 1 j), .ref (gA E y 1 k)] I (f_X3_canBeRobbed I y j k) I := by
  refine g_entry (lv := [(0, .ref (gA E y 0 0)), (1, .ref (gA E y 1 j)), (2, .ref (gA E y 1 k))]) (by decide) (Nat.le_of_ble_eq_true rfl) rfl ?_
  intro p e s m below meth c0 ls K hG hS hml hr hlocks hl
  have K : kx E p m c0 cX3_canBeRobbed "HayThieves$Yard" _ s := K
  have hx := K.1
  have hb := K.2.1
  have hts := K.2.2.1
  have hown := K.2.2.2.1
  have hSt := K.2.2.2.2
  refine lv_aload_n hx hb dX3_canBeRobbed_0 rfl (lv_at hl 1 rfl) ?_
  refine lv_aload_n hx hb dX3_canBeRobbed_1 rfl (lv_at hl 2 rfl) ?_
  refine lv_acmp_eq (rx := some (gA E y 1 j)) (ry := some (gA E y 1 k)) (tgt := 19) hx hb dX3_canBeRobbed_2 (by decide) (fun c1 => ?_) (fun c1 => ?_)
  · have c1 := gA_eq hSt (gv1 hy hj) (gv1 hy hk) c1
    refine lv_iconst (v := 0) hx hb dX3_canBeRobbed_19 (by decide) ?_
    exact g_zret K hG hS hr hlocks (gvpZ gz0) (by simp only [f_X3_canBeRobbed, if_pos c1]) dX3_canBeRobbed_20
  · have c1 := gA_ne c1
    refine lv_aload_n hx hb dX3_canBeRobbed_5 rfl (lv_at hl 1 rfl) ?_
    refine gf_X3_108 K hG (gv1 hy hj) dX3_canBeRobbed_6 ?_
    refine gf_X3_112 K hG (gv2 hy (hw.cart hj)) dX3_canBeRobbed_9 ?_
    refine lv_if_le (tgt := 19) hx hb dX3_canBeRobbed_12 (by decide) (fun c2 => ?_) (fun c2 => ?_)
    · refine lv_iconst (v := 0) hx hb dX3_canBeRobbed_19 (by decide) ?_
      exact g_zret K hG hS hr hlocks (gvpZ gz0) (by simp only [f_X3_canBeRobbed, if_neg c1, if_pos c2]) dX3_canBeRobbed_20
    · refine lv_iconst (v := 1) hx hb dX3_canBeRobbed_15 (by decide) ?_
      refine lv_goto (tgt := 20) hx hb dX3_canBeRobbed_16 (by decide) ?_
      exact g_zret K hG hS hr hlocks (gvpZ gz1) (by simp only [f_X3_canBeRobbed, if_neg c1, if_neg c2]) dX3_canBeRobbed_20
