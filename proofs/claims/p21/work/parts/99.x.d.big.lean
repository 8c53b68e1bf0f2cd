/-! PRINTED by wip/gen21/law3.py: the law, its sums -/
section LG
variable {p : Program} {l : Launch} {e : Env} {s : State} {m : MethodId} {below : List Frame} {meth : Method} {c : Code} {Q : State → Prop}
variable {E : gE} {F : Nat → Prop} {J : Int64} {D : sD} {I : gI} {a lo b L a1 ti CB SB : Nat} {xs : Nat → Int32} {xv : Int32}
set_option maxHeartbeats 4000000 in
set_option maxRecDepth 100000 in
theorem lg_big (X : gX p l s m meth c E b L xs) {O : List oR} (hw0 : wf (I 0)) (hC : jC a lo I) (hJ : jS a lo I) (hCB : CB ≤ 600172) (hSB : SB ≤ 7300668)
    (kk : ∀ (H : Heap) (locs : List Loc) (cells slots : Nat) (ls : Array Slot), cells ≤ CB → slots ≤ SB → LV E F J D I O H → va_S (gH E) s.heap H locs → lv_has ls 27 [(18, .int (lE I 0 lo)), (17, .int (lE I 2 lo)), (16, .int (lS I 6 lo)), (15, .int (lS I 3 lo)), (14, .int (lS I 2 lo)), (12, .int (aS I a)), (11, .int (tS I 7 a)), (10, .int (tS I 2 a)), (9, .int (tS I 0 a)), (8, .int (tS I 6 a)), (7, .int (tS I 5 a)), (13, .ref a1), (6, .int (nI lo)), (5, .int (nI a)), (4, .int xv), (3, .int (nI ti)), (2, .ref (D 0 0)), (1, .ref (gA E 2 10 0)), (0, .ref b)] → W p l e room_1 s m #[Value.ref b] below meth c H locs (cells) (slots) Q (F0 m 783 ls [])) :
    ∀ (H : Heap) (locs : List Loc) (cells slots : Nat) (ls : Array Slot), cells + 12 ≤ CB → slots + 72 ≤ SB → LV E F J D I O H → va_S (gH E) s.heap H locs → lv_has ls 27 [(18, .int (lE I 0 lo)), (17, .int (lE I 2 lo)), (16, .int (lS I 6 lo)), (15, .int (lS I 3 lo)), (14, .int (lS I 2 lo)), (12, .int (aS I a)), (11, .int (tS I 7 a)), (10, .int (tS I 2 a)), (9, .int (tS I 0 a)), (8, .int (tS I 6 a)), (7, .int (tS I 5 a)), (13, .ref a1), (6, .int (nI lo)), (5, .int (nI a)), (4, .int xv), (3, .int (nI ti)), (2, .ref (D 0 0)), (1, .ref (gA E 2 10 0)), (0, .ref b)] → W p l e room_1 s m #[Value.ref b] below meth c H locs (cells) (slots) Q (F0 m 616 ls []) := by
  obtain ⟨K, hAO, hml, hr, hlocks, hfl, hX, hbl, hbE, hL⟩ := id X
  have hx := K.1
  have hb := K.2.1
  have hts := K.2.2.1
  have hown := K.2.2.2.1
  obtain ⟨⟨a6, l10, ha, hlo⟩, -⟩ := hC
  obtain ⟨s1, s2, s3, s4, s5, s6, s7, s8, s9, s10, s11, s12⟩ := hJ
  have s1 : f_X3_tell I 0 3 = lE I 2 lo := s1
  have s2 : f_X3_tell I 0 4 = lE I 0 lo := s2
  have s3 : f_X3_tell I 0 5 = tS I 2 a := s3
  have s4 : f_X3_tell I 0 6 = aS I a := s4
  have s5 : f_X3_tell I 0 7 = tS I 5 a := s5
  have s6 : tS I 6 a = tS I 5 a := s6
  have s7 : lS I 3 lo = tS I 5 a := s7
  have s8 : f_X3_tell I 0 10 = tS I 7 a := s8
  have s9 : f_X3_tell I 0 11 = lS I 6 lo := s9
  have s10 : lS I 2 lo = nI lo + 2 * f_X3_tell I 0 8 := s10
  have s12 : lE I 2 lo = nI lo → f_X3_tell I 0 9 = f_X3_tell I 0 8 := s12
  intro H locs cells slots ls hc hs hG hS hl
  have j669 : ∀ (H : Heap) (locs : List Loc) (cells1 slots1 : Nat), cells1 ≤ cells + 5 → slots1 ≤ slots + 30 → LV E F J D I O H → va_S (gH E) s.heap H locs → W p l e room_1 s m #[Value.ref b] below meth c H locs (cells1) (slots1) Q (F0 m 669 ls []) := by
    intro H locs cells1 slots1 h1 h2 hG hS
    refine lv_iload hx hb dL_law_669 (lv_at hl 10 rfl) ?_
    refine lv_aload_n hx hb dL_law_671 rfl (lv_at hl 17 rfl) ?_
    refine lv_bipush (v := 7) hx hb dL_law_672 (by decide) ?_
    obtain ⟨x0, xv0⟩ := zA_count' (I := I) (x := 7) 7 rfl (by decide)
    refine v_kn hG (l_runVX (As := [.int 7]) (rest := [.int (tS I 5 a)]) K hml ca_X4_count q289 (m_X4_count l E J I 7 hw0 hfl) hG.1.1 hS rfl rfl hl.1 (Nat.le_of_ble_eq_true rfl) ⟨by decide, by decide⟩ dL_law_674 ⟨by show _ + 1 ≤ 600172; omega, by show _ + 6 * 1 ≤ 7300668; omega⟩) hS rfl x0 (fun H locs hG hS => ?_)
    rw [xv0]
    refine lv_icmp_ne (tgt := 781) hx hb dL_law_677 (by decide) (fun h => absurd s5.symm h) (fun _ => ?_)
    refine lv_iload hx hb dL_law_680 (lv_at hl 9 rfl) ?_
    refine lv_iload hx hb dL_law_682 (lv_at hl 10 rfl) ?_
    refine lv_icmp_ne (tgt := 781) hx hb dL_law_684 (by decide) (fun h => absurd s6 h) (fun _ => ?_)
    refine lv_iload hx hb dL_law_687 (lv_at hl 3 rfl) ?_
    refine lv_iload hx hb dL_law_689 (lv_at hl 10 rfl) ?_
    refine lv_icmp_ne (tgt := 781) hx hb dL_law_691 (by decide) (fun h => absurd s7 h) (fun _ => ?_)
    refine lv_iload hx hb dL_law_694 (lv_at hl 2 rfl) ?_
    refine lv_aload_n hx hb dL_law_696 rfl (lv_at hl 17 rfl) ?_
    refine lv_bipush (v := 11) hx hb dL_law_697 (by decide) ?_
    obtain ⟨x0, xv0⟩ := zA_count' (I := I) (x := 11) 11 rfl (by decide)
    refine v_kn hG (l_runVX (As := [.int 11]) (rest := [.int (lS I 6 lo)]) K hml ca_X4_count q289 (m_X4_count l E J I 11 hw0 hfl) hG.1.1 hS rfl rfl hl.1 (Nat.le_of_ble_eq_true rfl) ⟨by decide, by decide⟩ dL_law_699 ⟨by show _ + 1 ≤ 600172; omega, by show _ + 6 * 1 ≤ 7300668; omega⟩) hS rfl x0 (fun H locs hG hS => ?_)
    rw [xv0]
    refine lv_icmp_ne (tgt := 781) hx hb dL_law_702 (by decide) (fun h => absurd s9.symm h) (fun _ => ?_)
    refine lv_iload hx hb dL_law_705 (lv_at hl 1 rfl) ?_
    refine lv_aload_n hx hb dL_law_707 rfl (lv_at hl 17 rfl) ?_
    refine lv_iconst (v := 3) hx hb dL_law_708 (by decide) ?_
    obtain ⟨x0, xv0⟩ := zA_count' (I := I) (x := 3) 3 rfl (by decide)
    refine v_kn hG (l_runVX (As := [.int 3]) (rest := [.int (lE I 2 lo)]) K hml ca_X4_count q289 (m_X4_count l E J I 3 hw0 hfl) hG.1.1 hS rfl rfl hl.1 (Nat.le_of_ble_eq_true rfl) ⟨by decide, by decide⟩ dL_law_709 ⟨by show _ + 1 ≤ 600172; omega, by show _ + 6 * 1 ≤ 7300668; omega⟩) hS rfl x0 (fun H locs hG hS => ?_)
    rw [xv0]
    refine lv_icmp_ne (tgt := 781) hx hb dL_law_712 (by decide) (fun h => absurd s1.symm h) (fun _ => ?_)
    refine lv_iload hx hb dL_law_715 (lv_at hl 0 rfl) ?_
    refine lv_aload_n hx hb dL_law_717 rfl (lv_at hl 17 rfl) ?_
    refine lv_iconst (v := 4) hx hb dL_law_718 (by decide) ?_
    obtain ⟨x0, xv0⟩ := zA_count' (I := I) (x := 4) 4 rfl (by decide)
    refine v_kn hG (l_runVX (As := [.int 4]) (rest := [.int (lE I 0 lo)]) K hml ca_X4_count q289 (m_X4_count l E J I 4 hw0 hfl) hG.1.1 hS rfl rfl hl.1 (Nat.le_of_ble_eq_true rfl) ⟨by decide, by decide⟩ dL_law_719 ⟨by show _ + 1 ≤ 600172; omega, by show _ + 6 * 1 ≤ 7300668; omega⟩) hS rfl x0 (fun H locs hG hS => ?_)
    rw [xv0]
    refine lv_icmp_ne (tgt := 781) hx hb dL_law_722 (by decide) (fun h => absurd s2.symm h) (fun _ => ?_)
    refine lv_iload hx hb dL_law_725 (lv_at hl 7 rfl) ?_
    refine lv_aload_n hx hb dL_law_727 rfl (lv_at hl 17 rfl) ?_
    refine lv_iconst (v := 5) hx hb dL_law_728 (by decide) ?_
    obtain ⟨x0, xv0⟩ := zA_count' (I := I) (x := 5) 5 rfl (by decide)
    refine v_kn hG (l_runVX (As := [.int 5]) (rest := [.int (tS I 2 a)]) K hml ca_X4_count q289 (m_X4_count l E J I 5 hw0 hfl) hG.1.1 hS rfl rfl hl.1 (Nat.le_of_ble_eq_true rfl) ⟨by decide, by decide⟩ dL_law_729 ⟨by show _ + 1 ≤ 600172; omega, by show _ + 6 * 1 ≤ 7300668; omega⟩) hS rfl x0 (fun H locs hG hS => ?_)
    rw [xv0]
    refine lv_icmp_ne (tgt := 781) hx hb dL_law_732 (by decide) (fun h => absurd s3.symm h) (fun _ => ?_)
    refine lv_iload hx hb dL_law_735 (lv_at hl 5 rfl) ?_
    refine lv_aload_n hx hb dL_law_737 rfl (lv_at hl 17 rfl) ?_
    refine lv_bipush (v := 6) hx hb dL_law_738 (by decide) ?_
    obtain ⟨x0, xv0⟩ := zA_count' (I := I) (x := 6) 6 rfl (by decide)
    refine v_kn hG (l_runVX (As := [.int 6]) (rest := [.int (aS I a)]) K hml ca_X4_count q289 (m_X4_count l E J I 6 hw0 hfl) hG.1.1 hS rfl rfl hl.1 (Nat.le_of_ble_eq_true rfl) ⟨by decide, by decide⟩ dL_law_740 ⟨by show _ + 1 ≤ 600172; omega, by show _ + 6 * 1 ≤ 7300668; omega⟩) hS rfl x0 (fun H locs hG hS => ?_)
    rw [xv0]
    refine lv_icmp_ne (tgt := 781) hx hb dL_law_743 (by decide) (fun h => absurd s4.symm h) (fun _ => ?_)
    refine lv_iload hx hb dL_law_746 (lv_at hl 6 rfl) ?_
    refine lv_aload_n hx hb dL_law_748 rfl (lv_at hl 17 rfl) ?_
    refine lv_bipush (v := 10) hx hb dL_law_749 (by decide) ?_
    obtain ⟨x0, xv0⟩ := zA_count' (I := I) (x := 10) 10 rfl (by decide)
    refine v_kn hG (l_runVX (As := [.int 10]) (rest := [.int (tS I 7 a)]) K hml ca_X4_count q289 (m_X4_count l E J I 10 hw0 hfl) hG.1.1 hS rfl rfl hl.1 (Nat.le_of_ble_eq_true rfl) ⟨by decide, by decide⟩ dL_law_751 ⟨by show _ + 1 ≤ 600172; omega, by show _ + 6 * 1 ≤ 7300668; omega⟩) hS rfl x0 (fun H locs hG hS => ?_)
    rw [xv0]
    refine lv_icmp_ne (tgt := 781) hx hb dL_law_754 (by decide) (fun h => absurd s8.symm h) (fun _ => ?_)
    refine lv_aload_n hx hb dL_law_757 rfl (lv_at hl 17 rfl) ?_
    refine v_kd hG (l_runV (As := []) (rest := []) K hml ca_X4_mean q493 (m_X4_mean l E J I hw0) hG.1.1 hS rfl rfl hl.1 (Nat.le_of_ble_eq_true rfl) ⟨by decide, by decide⟩ dL_law_758 ⟨by show _ ≤ 600172; omega, by show _ ≤ 7300668; omega⟩) hS rfl (fun H locs hG hS => ?_)
    refine lv_iload hx hb dL_law_761 (lv_at hl 13 rfl) ?_
    refine lv_if_ne (tgt := 770) hx hb dL_law_763 (by decide) (fun h0 => ?_) (fun h0 => ?_)
    · refine lv_iload hx hb dL_law_770 (lv_at hl 6 rfl) ?_
      refine lv_i2d hx hb dL_law_772 ?_
      refine lv_iload hx hb dL_law_773 (lv_at hl 13 rfl) ?_
      refine lv_i2d hx hb dL_law_775 ?_
      refine lv_ddiv hx hb dL_law_776 (dd_ne _ h0) ?_
      rw [show f_X4_mean I = FP.ddiv (FP.i2d (tS I 7 a)) (FP.i2d (nI a)) by unfold f_X4_mean; rw [ha, if_neg h0, s8]]
      refine lv_dcmp hx hb dL_law_777 ?_
      rw [dd_cmp (dd_ne _ h0)]
      refine lv_if_eq (tgt := 783) hx hb dL_law_778 (by decide) (fun _ => ?_) (fun h => absurd rfl h)
      exact kk H locs _ _ ls (by omega) (by omega) hG hS hl
    · refine lv_dconst0 hx hb dL_law_766 ?_
      refine lv_goto (tgt := 777) hx hb dL_law_767 (by decide) ?_
      rw [show f_X4_mean I = FP.dconst0 by unfold f_X4_mean; rw [ha, if_pos h0]]
      refine lv_dcmp hx hb dL_law_777 ?_
      rw [dd_cmp dd_0]
      refine lv_if_eq (tgt := 783) hx hb dL_law_778 (by decide) (fun _ => ?_) (fun h => absurd rfl h)
      exact kk H locs _ _ ls (by omega) (by omega) hG hS hl
  refine lv_iload hx hb dL_law_616 (lv_at hl 4 rfl) ?_
  refine lv_iload hx hb dL_law_618 (lv_at hl 12 rfl) ?_
  refine lv_iconst (v := 2) hx hb dL_law_620 (by decide) ?_
  refine lv_aload_n hx hb dL_law_621 rfl (lv_at hl 17 rfl) ?_
  refine lv_bipush (v := 8) hx hb dL_law_622 (by decide) ?_
  obtain ⟨x0, xv0⟩ := zA_count' (I := I) (x := 8) 8 rfl (by decide)
  refine v_kn hG (l_runVX (As := [.int 8]) (rest := [.int 2, .int (nI lo), .int (lS I 2 lo)]) K hml ca_X4_count q289 (m_X4_count l E J I 8 hw0 hfl) hG.1.1 hS rfl rfl hl.1 (Nat.le_of_ble_eq_true rfl) ⟨by decide, by decide⟩ dL_law_624 ⟨by show _ + 1 ≤ 600172; omega, by show _ + 6 * 1 ≤ 7300668; omega⟩) hS rfl x0 (fun H locs hG hS => ?_)
  rw [xv0]
  refine lv_imul hx hb dL_law_627 ?_
  refine lv_iadd hx hb dL_law_628 ?_
  refine lv_icmp_ne (tgt := 781) hx hb dL_law_629 (by decide) (fun h => absurd s10 h) (fun _ => ?_)
  refine lv_aload_n hx hb dL_law_632 rfl (lv_at hl 17 rfl) ?_
  refine lv_bipush (v := 9) hx hb dL_law_633 (by decide) ?_
  obtain ⟨x0, xv0⟩ := zA_count' (I := I) (x := 9) 9 rfl (by decide)
  refine v_kn hG (l_runVX (As := [.int 9]) (rest := []) K hml ca_X4_count q289 (m_X4_count l E J I 9 hw0 hfl) hG.1.1 hS rfl rfl hl.1 (Nat.le_of_ble_eq_true rfl) ⟨by decide, by decide⟩ dL_law_635 ⟨by show _ + 1 ≤ 600172; omega, by show _ + 6 * 1 ≤ 7300668; omega⟩) hS rfl x0 (fun H locs hG hS => ?_)
  rw [xv0]
  refine lv_aload_n hx hb dL_law_638 rfl (lv_at hl 17 rfl) ?_
  refine lv_bipush (v := 8) hx hb dL_law_639 (by decide) ?_
  obtain ⟨x0, xv0⟩ := zA_count' (I := I) (x := 8) 8 rfl (by decide)
  refine v_kn hG (l_runVX (As := [.int 8]) (rest := [.int (f_X3_tell I 0 9)]) K hml ca_X4_count q289 (m_X4_count l E J I 8 hw0 hfl) hG.1.1 hS rfl rfl hl.1 (Nat.le_of_ble_eq_true rfl) ⟨by decide, by decide⟩ dL_law_641 ⟨by show _ + 1 ≤ 600172; omega, by show _ + 6 * 1 ≤ 7300668; omega⟩) hS rfl x0 (fun H locs hG hS => ?_)
  rw [xv0]
  refine lv_icmp_gt (tgt := 781) hx hb dL_law_644 (by decide) (fun h => absurd h (Int32.not_lt.mpr s11)) (fun _ => ?_)
  refine lv_iload hx hb dL_law_647 (lv_at hl 1 rfl) ?_
  refine lv_iload hx hb dL_law_649 (lv_at hl 12 rfl) ?_
  refine lv_icmp_ne (tgt := 669) hx hb dL_law_651 (by decide) (fun hd => ?_) (fun hd => ?_)
  · exact j669 H locs _ _ (by omega) (by omega) hG hS
  · refine lv_aload_n hx hb dL_law_654 rfl (lv_at hl 17 rfl) ?_
    refine lv_bipush (v := 9) hx hb dL_law_655 (by decide) ?_
    obtain ⟨x0, xv0⟩ := zA_count' (I := I) (x := 9) 9 rfl (by decide)
    refine v_kn hG (l_runVX (As := [.int 9]) (rest := []) K hml ca_X4_count q289 (m_X4_count l E J I 9 hw0 hfl) hG.1.1 hS rfl rfl hl.1 (Nat.le_of_ble_eq_true rfl) ⟨by decide, by decide⟩ dL_law_657 ⟨by show _ + 1 ≤ 600172; omega, by show _ + 6 * 1 ≤ 7300668; omega⟩) hS rfl x0 (fun H locs hG hS => ?_)
    rw [xv0]
    refine lv_aload_n hx hb dL_law_660 rfl (lv_at hl 17 rfl) ?_
    refine lv_bipush (v := 8) hx hb dL_law_661 (by decide) ?_
    obtain ⟨x0, xv0⟩ := zA_count' (I := I) (x := 8) 8 rfl (by decide)
    refine v_kn hG (l_runVX (As := [.int 8]) (rest := [.int (f_X3_tell I 0 9)]) K hml ca_X4_count q289 (m_X4_count l E J I 8 hw0 hfl) hG.1.1 hS rfl rfl hl.1 (Nat.le_of_ble_eq_true rfl) ⟨by decide, by decide⟩ dL_law_663 ⟨by show _ + 1 ≤ 600172; omega, by show _ + 6 * 1 ≤ 7300668; omega⟩) hS rfl x0 (fun H locs hG hS => ?_)
    rw [xv0]
    refine lv_icmp_ne (tgt := 781) hx hb dL_law_666 (by decide) (fun h => absurd (s12 hd) h) (fun _ => ?_)
    exact j669 H locs _ _ (by omega) (by omega) hG hS
end LG
