/-! pass, go(1) -/
def f_S_pass_l1 : Nat → Nat → gI → gI
  | 0, _, I => gU I 5 0 0 0 (I 5 0 0 0 + 1)
  | n + 1, i, I => f_S_pass_l1 n (i + 1) (f_S_turn I i)
def ok_f_S_pass_l1 : Nat → Nat → gI → Prop
  | 0, _, _ => True
  | n + 1, i, I => (i < cnt (I 5) 3 ∧ (I 5 2 i 2 = 0 ∨ I 5 2 i 2 = 1 ∨ I 5 2 i 2 = 2 ∨ I 5 2 i 2 = 3) ∧ ok_S_turn I i) ∧ cnt (f_S_turn I i 5) 2 = cnt (I 5) 2 ∧ cnt (f_S_turn I i 5) 9 = cnt (I 5) 9 ∧ ok_f_S_pass_l1 n (i + 1) (f_S_turn I i)
def f_S_pass (I : gI) : gI := f_S_pass_l1 (cnt (I 5) 2) 0 I
def ok_S_pass (I : gI) : Prop := cnt (I 5) 2 ≤ 6 ∧ ok_f_S_pass_l1 (cnt (I 5) 2) 0 I
set_option maxHeartbeats 4000000 in
set_option maxRecDepth 100000 in
theorem m_S_pass (l : Launch) (E : gE) (F : Nat → Prop) (J : Int64) (D : sD) (I : gI) (hA : ∀ q, F q → gN E ≤ q) (hok : ok_S_pass I) : sM l E yX5_pass cX5_pass 2 none 3 48 8400 83 [.ref (D 0 0)] (fun H => LW E F J D I H) (sQv E F J D I (f_S_pass I)) F := by
  refine s_entry (lv := [(0, .ref (D 0 0))]) (by decide) (Nat.le_of_ble_eq_true rfl) rfl ?_
  intro p e s m below meth c0 ls K hAO hG hS hml hr hlocks hl
  have hG : LW E F J D I s.heap := hG
  have K : kx E p m c0 cX5_pass "HayThievesLaw$Sim" _ s := K
  have hx := K.1
  have hb := K.2.1
  obtain ⟨hN6, hok⟩ := hok
  generalize hN : cnt (I 5) 2 = N at hN6 hok
  refine lv_iconst (v := 0) hx hb dX5_pass_0 (by decide) ?_
  refine lv_istore_n (lv' := [(1, .int 0), (0, .ref (D 0 0))]) hx hb dX5_pass_1 rfl hl (by decide) rfl (fun ls hl => ?_)
  have loop : ∀ (n i : Nat) (I1 : gI) (D1 : sD) (H : Heap) (locs : List Loc) (ls : Array Slot), i + n = N → cnt (I1 5) 2 = N → cnt (I1 5) 9 = cnt (I 5) 9 → f_S_pass_l1 n i I1 = f_S_pass I → ok_f_S_pass_l1 n i I1 → sKD D D1 (cnt (I 5) 9) → LW E F J D1 I1 H → va_S F s.heap H locs → lv_has ls 2 [(1, .int (nI i)), (0, .ref (D1 0 0))] →
      W p l e (rmc 3 48 8400 83) s m ([.ref (D 0 0)] : List Value).toArray below meth c0 H locs (8 * i) (1400 * i) (MQ below (sQv E F J D I (f_S_pass I)) ([.ref (D 0 0)] : List Value).toArray s 48 8400 F) (F0 m 2 ls []) := by
    intro n
    induction n with
    | zero =>
      intro i I1 D1 H locs ls hi h2 h9 hT hok hkd hG hS hl
      have hb2 := hG.b.cl 2
      refine lv_iload_n hx hb dX5_pass_2 rfl (lv_at hl 0 rfl) ?_
      refine lv_aload_n hx hb dX5_pass_3 rfl (lv_at hl 1 rfl) ?_
      refine sg_X5_15 K hG dX5_pass_4 ?_
      refine s_alen1 K hG (t := 2) (by decide) dX5_pass_7 ?_
      rw [hG.b.c 2, h2]
      refine lv_icmp_ge (tgt := 22) hx hb dX5_pass_8 (by decide) (fun _ => ?_) (fun c => absurd (nI_le (by omega) (by omega)) c)
      refine lv_aload_n hx hb dX5_pass_22 rfl (lv_at hl 1 rfl) ?_
      refine lv_dup hx hb dX5_pass_23 rfl ?_
      refine sg_X5_33 K hG dX5_pass_24 ?_
      refine lv_iconst (v := 1) hx hb dX5_pass_27 (by decide) ?_
      refine lv_iadd hx hb dX5_pass_28 ?_
      refine sp_X5_33 K hG hS dX5_pass_29 (fun I2 hI2 H locs hG hS => ?_)
      have eS : I2 = f_S_pass I := by rw [← hT, hI2]; rfl
      rw [eS] at hG
      exact W.widen (k := 48) (n := 8400) (by omega) (by omega) (s_vret K hG hkd hS hr hlocks dX5_pass_32)
    | succ n ih =>
      intro i I1 D1 H locs ls hi h2 h9 hT hok hkd hG hS hl
      obtain ⟨⟨o1, o2, o3⟩, o4, o5, o6⟩ := hok
      have hb2 := hG.b.cl 2
      refine lv_iload_n hx hb dX5_pass_2 rfl (lv_at hl 0 rfl) ?_
      refine lv_aload_n hx hb dX5_pass_3 rfl (lv_at hl 1 rfl) ?_
      refine sg_X5_15 K hG dX5_pass_4 ?_
      refine s_alen1 K hG (t := 2) (by decide) dX5_pass_7 ?_
      rw [hG.b.c 2, h2]
      refine lv_icmp_ge (tgt := 22) hx hb dX5_pass_8 (by decide) (fun c => absurd c (nI_ge (by omega) (by omega))) (fun _ => ?_)
      refine lv_aload_n hx hb dX5_pass_11 rfl (lv_at hl 1 rfl) ?_
      refine lv_iload_n hx hb dX5_pass_12 rfl (lv_at hl 0 rfl) ?_
      refine s_kv (s_runV (As := [.int (nI i)]) (rest := []) K hAO hA hml ca_X5_turn q528 (m_S_turn l E F J D1 I1 i hA (by omega) o1 o2 o3) hG hG hS rfl rfl hl.1 (Nat.le_of_ble_eq_true rfl) ⟨by decide, by decide⟩ dX5_pass_13 ⟨by show 8 * i + 8 ≤ 48; omega, by show 1400 * i + 1400 ≤ 8400; omega⟩) hS (fun D2 hD2 H locs hG hS => ?_)
      rw [← show D2 0 0 = D1 0 0 from hD2.1] at hl
      refine lv_iinc (v := nI (i + 1)) (lv' := [(1, .int (nI (i + 1))), (0, .ref (D2 0 0))]) hx hb dX5_pass_16 hl (k := 0) rfl (nI_add i 1) (by decide) rfl (fun ls hl => ?_)
      refine lv_goto (tgt := 2) hx hb dX5_pass_19 (by decide) ?_
      rw [show 8 * i + 8 = 8 * (i + 1) by omega, show 1400 * i + 1400 = 1400 * (i + 1) by omega]
      exact ih (i + 1) (f_S_turn I1 i) D2 H locs ls (by omega) (by rw [o4, h2]) (by rw [o5, h9]) hT o6 (hkd.tr hD2 h9) hG hS hl
  exact loop N 0 I D s.heap [] ls (by omega) hN rfl (by unfold f_S_pass; rw [hN]) hok (sKD.refl _ _) hG hS hl
