/-! PRINTED by wip/gen21/law6.py: the law's minutes, one after another -/
section LG
variable {p : Program} {l : Launch} {e : Env} {s : State} {m : MethodId} {below : List Frame} {meth : Method} {c : Code}
variable {E : gE} {F : Nat → Prop} {J : Int64} {D : sD} {I : gI} {a lo b L a1 ti CB SB : Nat} {xs : Nat → Int32} {xv : Int32}
theorem W.wid {Q : State → Prop} {H : Heap} {locs : List Loc} {k n cells slots : Nat} {args : Array Value} {R : Room} {g : JFrame} (h1 : cells ≤ k) (h2 : slots ≤ n) (h : W p l e R s m args below meth c H locs k n Q g) : W p l e R s m args below meth c H locs cells slots Q g := W.widen h1 h2 h
set_option maxHeartbeats 4000000 in
set_option maxRecDepth 100000 in
theorem lg_time (X : gX p l s m meth c E b L xs) (hN : s.heap.size ≤ gN E) :
    ∀ (r i : Nat) (D : sD) (I : gI) (H : Heap) (locs : List Loc) (cells slots : Nat) (ls : Array Slot), i + r = 40 → jR (2 * r) 0 I → cells + 600 * r ≤ 100000 → slots + 14000 * r ≤ 1000000 → LW E (F0s E) J D I H → va_S (gH E) s.heap H locs → lv_has ls 27 [(3, .int (nI i)), (2, .ref (D 0 0)), (1, .ref (gA E 2 10 0)), (0, .ref b)] → W p l e room_1 s m #[Value.ref b] below meth c H locs (cells) (slots) (lw_Z below #[Value.ref b] s) (F0 m 22 ls []) := by
  obtain ⟨K, hAO, hml, hr, hlocks, hfl, hX, hbl, hbE, hL⟩ := id X
  have hx := K.1
  have hb := K.2.1
  have hts := K.2.2.1
  have hown := K.2.2.2.1
  intro r
  induction r with
  | zero =>
    intro i D I H locs cells slots ls hi hj hc hs hG hS hl
    refine lv_iload_n hx hb dL_law_22 rfl (lv_at hl 0 rfl) ?_
    refine lv_bipush (v := 40) hx hb dL_law_23 (by decide) ?_
    refine lv_icmp_ge (tgt := 1160) hx hb dL_law_25 (by decide) (fun _ => ?_) (fun h => absurd (show (40 : Int32) ≤ nI i by rw [show i = 40 by omega]; decide) h)
    refine lv_aload_n hx hb dL_law_1160 rfl (lv_at hl 1 rfl) ?_
    refine lv_aload_n hx hb dL_law_1161 rfl (lv_at hl 2 rfl) ?_
    refine va_calli (s_runV (f := 8) (k := 400) (sl := 2400) (L := 126) (As := [.ref (gA E 2 10 0)]) (rest := []) K hAO gH_ge hml ca_X5_isSame q556 (m_S_isSame l E (F0s E) J D I (2 * 0) F0s_ge hj hfl) hG hG hS rfl rfl hl.1 (Nat.le_of_ble_eq_true rfl) ⟨by decide, by decide⟩ dL_law_1162 ⟨by show _ + 400 ≤ 600172; omega, by show _ + 2400 ≤ 7300668; omega⟩) hS (fun q _ h => h) (fun q h => h) (fun r9 u t H1 locs1 ht hvm hw hB hz hk hS1 => ?_)
    have hw : r9 = 1 := hw
    subst hw
    refine W.widen (k := 600172) (n := 7300668) (by omega) (by omega) ?_
    refine va_forget (fun q hq => Nat.le_trans hN (hS1.2.2 q hq)) ?_
    exact lw_ret (d0 := s.drawn) (Drawn.sameBut.refl s.drawn lw_cs) hx hb hr hlocks dL_law_1165
  | succ r ih =>
    intro i D I H locs cells slots ls hi hj hc hs hG hS hl
    rw [show 2 * (r + 1) = 2 * r + 1 + 1 by omega] at hj
    have j73 : ∀ (xv : Int32) (D1 : sD) (I : gI) (H : Heap) (locs : List Loc) (cells1 slots1 : Nat) (ls : Array Slot), cells1 ≤ cells + 10 → slots1 ≤ slots + 2000 → jR (2 * r + 1) 0 I → LW E (F0s E) J D1 I H → va_S (gH E) s.heap H locs → lv_has ls 27 [(4, .int xv), (3, .int (nI i)), (2, .ref (D1 0 0)), (1, .ref (gA E 2 10 0)), (0, .ref b)] → W p l e room_1 s m #[Value.ref b] below meth c H locs (cells1) (slots1) (lw_Z below #[Value.ref b] s) (F0 m 73 ls []) := by
      intro xv D1 I H locs cells1 slots1 ls h1 h2 hj hG hS hl
      obtain ⟨a, lo, hC, hJ, -⟩ := hj.checks
      obtain ⟨⟨a6, l10, ha, hlo⟩, -⟩ := id hC
      have hw0 := hj.w0
      have hG := LV.of hG
      refine lv_aload_n hx hb dL_law_73 rfl (lv_at hl 3 rfl) ?_
      refine lv_iconst (v := 1) hx hb dL_law_74 (by decide) ?_
      obtain ⟨x0, xv0⟩ := zA_count' (I := I) (x := 1) 1 rfl (by decide)
      refine v_kn hG (l_runVX (As := [.int 1]) (rest := []) K hml ca_X4_count q289 (m_X4_count l E J I 1 hw0 hfl) hG.1.1 hS rfl rfl hl.1 (Nat.le_of_ble_eq_true rfl) ⟨by decide, by decide⟩ dL_law_75 ⟨by show _ + 1 ≤ 600172; omega, by show _ + 6 * 1 ≤ 7300668; omega⟩) hS rfl x0 (fun H locs hG hS => ?_)
      rw [xv0]
      rw [t1, ha]
      refine lv_istore (lv' := [(5, .int (nI a)), (4, .int xv), (3, .int (nI i)), (2, .ref (D1 0 0)), (1, .ref (gA E 2 10 0)), (0, .ref b)]) hx hb dL_law_78 hl (by decide) rfl (fun ls hl => ?_)
      refine lv_aload_n hx hb dL_law_80 rfl (lv_at hl 4 rfl) ?_
      refine lv_iconst (v := 2) hx hb dL_law_81 (by decide) ?_
      obtain ⟨x0, xv0⟩ := zA_count' (I := I) (x := 2) 2 rfl (by decide)
      refine v_kn hG (l_runVX (As := [.int 2]) (rest := []) K hml ca_X4_count q289 (m_X4_count l E J I 2 hw0 hfl) hG.1.1 hS rfl rfl hl.1 (Nat.le_of_ble_eq_true rfl) ⟨by decide, by decide⟩ dL_law_82 ⟨by show _ + 1 ≤ 600172; omega, by show _ + 6 * 1 ≤ 7300668; omega⟩) hS rfl x0 (fun H locs hG hS => ?_)
      rw [xv0]
      rw [t2, hlo]
      refine lv_istore (lv' := [(6, .int (nI lo)), (5, .int (nI a)), (4, .int xv), (3, .int (nI i)), (2, .ref (D1 0 0)), (1, .ref (gA E 2 10 0)), (0, .ref b)]) hx hb dL_law_85 hl (by decide) rfl (fun ls hl => ?_)
      refine lv_iconst (v := 0) hx hb dL_law_87 (by decide) ?_
      refine lv_istore (lv' := [(7, .int 0), (6, .int (nI lo)), (5, .int (nI a)), (4, .int xv), (3, .int (nI i)), (2, .ref (D1 0 0)), (1, .ref (gA E 2 10 0)), (0, .ref b)]) hx hb dL_law_88 hl (by decide) rfl (fun ls hl => ?_)
      refine lv_iconst (v := 0) hx hb dL_law_90 (by decide) ?_
      refine lv_istore (lv' := [(8, .int 0), (7, .int 0), (6, .int (nI lo)), (5, .int (nI a)), (4, .int xv), (3, .int (nI i)), (2, .ref (D1 0 0)), (1, .ref (gA E 2 10 0)), (0, .ref b)]) hx hb dL_law_91 hl (by decide) rfl (fun ls hl => ?_)
      refine lv_iconst (v := 0) hx hb dL_law_93 (by decide) ?_
      refine lv_istore (lv' := [(9, .int 0), (8, .int 0), (7, .int 0), (6, .int (nI lo)), (5, .int (nI a)), (4, .int xv), (3, .int (nI i)), (2, .ref (D1 0 0)), (1, .ref (gA E 2 10 0)), (0, .ref b)]) hx hb dL_law_94 hl (by decide) rfl (fun ls hl => ?_)
      refine lv_iconst (v := 0) hx hb dL_law_96 (by decide) ?_
      refine lv_istore (lv' := [(10, .int 0), (9, .int 0), (8, .int 0), (7, .int 0), (6, .int (nI lo)), (5, .int (nI a)), (4, .int xv), (3, .int (nI i)), (2, .ref (D1 0 0)), (1, .ref (gA E 2 10 0)), (0, .ref b)]) hx hb dL_law_97 hl (by decide) rfl (fun ls hl => ?_)
      refine lv_iconst (v := 0) hx hb dL_law_99 (by decide) ?_
      refine lv_istore (lv' := [(11, .int 0), (10, .int 0), (9, .int 0), (8, .int 0), (7, .int 0), (6, .int (nI lo)), (5, .int (nI a)), (4, .int xv), (3, .int (nI i)), (2, .ref (D1 0 0)), (1, .ref (gA E 2 10 0)), (0, .ref b)]) hx hb dL_law_100 hl (by decide) rfl (fun ls hl => ?_)
      refine lv_iconst (v := 0) hx hb dL_law_102 (by decide) ?_
      refine lv_istore (lv' := [(12, .int 0), (11, .int 0), (10, .int 0), (9, .int 0), (8, .int 0), (7, .int 0), (6, .int (nI lo)), (5, .int (nI a)), (4, .int xv), (3, .int (nI i)), (2, .ref (D1 0 0)), (1, .ref (gA E 2 10 0)), (0, .ref b)]) hx hb dL_law_103 hl (by decide) rfl (fun ls hl => ?_)
      refine lv_iload hx hb dL_law_105 (lv_at hl 7 rfl) ?_
      refine v_newi K F0s_ge hG hS (N := a) rfl (by omega) (by show _ + 1 ≤ 600172; omega) (by show _ + a ≤ 7300668; omega) dL_law_107 (fun a1 H hG hS => ?_)
      have hF1 : ∀ q, F0s E q ∧ q ≠ a1 → gN E ≤ q := fun q h => F0s_ge q h.1
      refine lv_astore (lv' := [(13, .ref a1), (12, .int 0), (11, .int 0), (10, .int 0), (9, .int 0), (8, .int 0), (7, .int 0), (6, .int (nI lo)), (5, .int (nI a)), (4, .int xv), (3, .int (nI i)), (2, .ref (D1 0 0)), (1, .ref (gA E 2 10 0)), (0, .ref b)]) hx hb dL_law_109 hl (by decide) rfl (fun ls hl => ?_)
      refine lv_iconst (v := 0) hx hb dL_law_111 (by decide) ?_
      refine lv_istore (lv' := [(14, .int 0), (13, .ref a1), (12, .int 0), (11, .int 0), (10, .int 0), (9, .int 0), (8, .int 0), (7, .int 0), (6, .int (nI lo)), (5, .int (nI a)), (4, .int xv), (3, .int (nI i)), (2, .ref (D1 0 0)), (1, .ref (gA E 2 10 0)), (0, .ref b)]) hx hb dL_law_112 hl (by decide) rfl (fun ls hl => ?_)
      refine lg_lads (CB := cells + 199) (SB := slots + 3134) X hF1 hw0 hC (by omega) (by omega) (fun f1 H locs cells2 slots2 ls h3 h4 hf1 hG hS hl => ?_) a 0 (fun _ => 0) H locs _ _ ls (by omega) (by omega) (by omega) (fun w hw => absurd hw (Nat.not_lt_zero w)) hG hS (lv_sub hl [0, 2, 3, 4, 5, 6, 7, 1, 8, 9, 10, 11, 12, 13, 14] rfl)
      refine lv_iconst (v := 0) hx hb dL_law_360 (by decide) ?_
      refine lv_istore (lv' := [(14, .int 0), (12, .int (aS I a)), (11, .int (tS I 7 a)), (10, .int (tS I 2 a)), (9, .int (tS I 0 a)), (8, .int (tS I 6 a)), (7, .int (tS I 5 a)), (13, .ref a1), (6, .int (nI lo)), (5, .int (nI a)), (4, .int xv), (3, .int (nI i)), (2, .ref (D1 0 0)), (1, .ref (gA E 2 10 0)), (0, .ref b)]) hx hb dL_law_361 hl (by decide) rfl (fun ls hl => ?_)
      refine lv_iconst (v := 0) hx hb dL_law_363 (by decide) ?_
      refine lv_istore (lv' := [(15, .int 0), (14, .int 0), (12, .int (aS I a)), (11, .int (tS I 7 a)), (10, .int (tS I 2 a)), (9, .int (tS I 0 a)), (8, .int (tS I 6 a)), (7, .int (tS I 5 a)), (13, .ref a1), (6, .int (nI lo)), (5, .int (nI a)), (4, .int xv), (3, .int (nI i)), (2, .ref (D1 0 0)), (1, .ref (gA E 2 10 0)), (0, .ref b)]) hx hb dL_law_364 hl (by decide) rfl (fun ls hl => ?_)
      refine lv_iconst (v := 0) hx hb dL_law_366 (by decide) ?_
      refine lv_istore (lv' := [(16, .int 0), (15, .int 0), (14, .int 0), (12, .int (aS I a)), (11, .int (tS I 7 a)), (10, .int (tS I 2 a)), (9, .int (tS I 0 a)), (8, .int (tS I 6 a)), (7, .int (tS I 5 a)), (13, .ref a1), (6, .int (nI lo)), (5, .int (nI a)), (4, .int xv), (3, .int (nI i)), (2, .ref (D1 0 0)), (1, .ref (gA E 2 10 0)), (0, .ref b)]) hx hb dL_law_367 hl (by decide) rfl (fun ls hl => ?_)
      refine lv_iconst (v := 0) hx hb dL_law_369 (by decide) ?_
      refine lv_istore (lv' := [(17, .int 0), (16, .int 0), (15, .int 0), (14, .int 0), (12, .int (aS I a)), (11, .int (tS I 7 a)), (10, .int (tS I 2 a)), (9, .int (tS I 0 a)), (8, .int (tS I 6 a)), (7, .int (tS I 5 a)), (13, .ref a1), (6, .int (nI lo)), (5, .int (nI a)), (4, .int xv), (3, .int (nI i)), (2, .ref (D1 0 0)), (1, .ref (gA E 2 10 0)), (0, .ref b)]) hx hb dL_law_370 hl (by decide) rfl (fun ls hl => ?_)
      refine lv_iconst (v := 0) hx hb dL_law_372 (by decide) ?_
      refine lv_istore (lv' := [(18, .int 0), (17, .int 0), (16, .int 0), (15, .int 0), (14, .int 0), (12, .int (aS I a)), (11, .int (tS I 7 a)), (10, .int (tS I 2 a)), (9, .int (tS I 0 a)), (8, .int (tS I 6 a)), (7, .int (tS I 5 a)), (13, .ref a1), (6, .int (nI lo)), (5, .int (nI a)), (4, .int xv), (3, .int (nI i)), (2, .ref (D1 0 0)), (1, .ref (gA E 2 10 0)), (0, .ref b)]) hx hb dL_law_373 hl (by decide) rfl (fun ls hl => ?_)
      refine lv_iconst (v := 0) hx hb dL_law_375 (by decide) ?_
      refine lv_istore (lv' := [(19, .int 0), (18, .int 0), (17, .int 0), (16, .int 0), (15, .int 0), (14, .int 0), (12, .int (aS I a)), (11, .int (tS I 7 a)), (10, .int (tS I 2 a)), (9, .int (tS I 0 a)), (8, .int (tS I 6 a)), (7, .int (tS I 5 a)), (13, .ref a1), (6, .int (nI lo)), (5, .int (nI a)), (4, .int xv), (3, .int (nI i)), (2, .ref (D1 0 0)), (1, .ref (gA E 2 10 0)), (0, .ref b)]) hx hb dL_law_376 hl (by decide) rfl (fun ls hl => ?_)
      refine lg_loads (CB := cells + 449) (SB := slots + 4634) X hw0 hC (by omega) (by omega) (fun H locs cells3 slots3 ls h5 h6 hG hS hl => ?_) lo 0 H locs _ _ ls (by omega) (by omega) (by omega) hG hS (lv_sub hl [0, 1, 2, 3, 4, 5, 6, 7, 8, 9, 10, 11, 12, 13, 14, 15, 16, 17, 18, 19] rfl)
      refine lg_big (CB := cells + 461) (SB := slots + 4706) X hw0 hC hJ (by omega) (by omega) (fun H locs cells4 slots4 ls h7 h8 hG hS hl => ?_) H locs _ _ ls (by omega) (by omega) hG hS hl
      refine lg_ask (CB := cells + 484) (SB := slots + 4850) (F := fun q => F0s E q ∧ q ≠ a1) X hF1 hj hC (by omega) (by omega) (fun I' a2 f2 ld ut H locs cells5 slots5 ls h9 h10 hm hf2 hfact hG hS hl => ?_) H locs _ _ ls (by omega) (by omega) hG hS hl
      refine lg_min (CB := cells + 593) (SB := slots + 13644) (F := fun q => (F0s E q ∧ q ≠ a1) ∧ q ≠ a2) X (fun q h => F0s_ge q h.1.1) hj hm hC hJ hf1 hf2 hfact (by omega) (by omega) (fun D2 I2 H locs cells6 slots6 ls h11 h12 hj2 hG hS hl => ?_) H locs _ _ ls (by omega) (by omega) hG hS hl
      refine lv_iinc (v := nI (i + 1)) (lv' := [(3, .int (nI (i + 1))), (2, .ref (D2 0 0)), (1, .ref (gA E 2 10 0)), (0, .ref b)]) hx hb dL_law_1154 hl (k := 0) rfl (nI_add i 1) (by decide) rfl (fun ls hl => ?_)
      refine lv_goto (tgt := 22) hx hb dL_law_1157 (by decide) ?_
      exact ih (i + 1) D2 I2 H locs _ _ ls (by omega) hj2 (by omega) (by omega) (hG.1.wide (fun q h => h.1.1) F0s_g) hS hl
    refine lv_iload_n hx hb dL_law_22 rfl (lv_at hl 0 rfl) ?_
    refine lv_bipush (v := 40) hx hb dL_law_23 (by decide) ?_
    refine lv_icmp_ge (tgt := 1160) hx hb dL_law_25 (by decide) (fun h => absurd h (nI_ge (b := 40) (by omega) (by decide))) (fun _ => ?_)
    refine lv_aload_n hx hb dL_law_28 rfl (lv_at hl 3 rfl) ?_
    refine lv_iload_n hx hb dL_law_29 rfl (lv_at hl 0 rfl) ?_
    refine lv_bipush (v := 16) hx hb dL_law_30 (by decide) ?_
    refine lv_irem hx hb dL_law_32 (by decide) ?_
    rw [show (nI i - nI i / 16 * 16 : Int32) = nI (i % 16) from pk_rem (d := 16) (by omega) (by decide) (by decide)]
    refine n_cell K hAO hml hS (k := i % 16) (by omega) (by omega) hbE hbl hX rfl hl.1 (Nat.le_of_ble_eq_true rfl) ⟨by decide, by decide⟩ dL_law_33 ⟨by show _ ≤ 600172; omega, by show _ ≤ 7300668; omega⟩ (fun v locs hS => ?_)
    refine lv_iload_n hx hb dL_law_36 rfl (lv_at hl 0 rfl) ?_
    refine lv_bipush (v := 16) hx hb dL_law_37 (by decide) ?_
    refine lv_idiv hx hb dL_law_39 (by decide) ?_
    refine lv_iconst (v := 5) hx hb dL_law_40 (by decide) ?_
    refine lv_imul hx hb dL_law_41 ?_
    refine lv_ishr hx hb dL_law_42 ?_
    refine lv_bipush (v := 53) hx hb dL_law_43 (by decide) ?_
    refine lv_iload_n hx hb dL_law_45 rfl (lv_at hl 0 rfl) ?_
    refine lv_imul hx hb dL_law_46 ?_
    refine lv_iadd hx hb dL_law_47 ?_
    refine lv_topi (fun xv _ => ?_)
    refine lv_istore (lv' := [(4, .int xv), (3, .int (nI i)), (2, .ref (D 0 0)), (1, .ref (gA E 2 10 0)), (0, .ref b)]) hx hb dL_law_48 hl (by decide) rfl (fun ls hl => ?_)
    refine lv_iload hx hb dL_law_50 (lv_at hl 0 rfl) ?_
    refine lv_iconst (v := 3) hx hb dL_law_52 (by decide) ?_
    refine n_below K hAO hml hS (N := 3) rfl (by decide) (by decide) hl.1 (Nat.le_of_ble_eq_true rfl) ⟨by decide, by decide⟩ dL_law_53 ⟨by show _ ≤ 600172; omega, by show _ ≤ 7300668; omega⟩ (fun q hq locs hS => ?_)
    refine lv_if_ne (tgt := 73) hx hb dL_law_56 (by decide) (fun h => ?_) (fun h => ?_)
    · exact j73 xv D I H locs _ _ ls (by omega) (by omega) hj.mono hG hS hl
    · refine lv_aload_n hx hb dL_law_59 rfl (lv_at hl 3 rfl) ?_
      refine lv_aload_n hx hb dL_law_60 rfl (lv_at hl 2 rfl) ?_
      refine lv_iload hx hb dL_law_61 (lv_at hl 0 rfl) ?_
      refine lv_iconst (v := 3) hx hb dL_law_63 (by decide) ?_
      refine lv_idiv hx hb dL_law_64 (by decide) ?_
      refine n_act K hAO hml F0s_ge hG hS hj (by decide) hfl hl.1 (Nat.le_of_ble_eq_true rfl) ⟨by decide, by decide⟩ dL_law_65 ⟨by show _ + 10 ≤ 600172; omega, by show _ + 2000 ≤ 7300668; omega⟩ (fun D1 I1 H locs dd hj1 hG hS => ?_)
      refine lv_if_ne (tgt := 73) hx hb dL_law_68 (by decide) (fun _ => ?_) (fun h => absurd h (by decide))
      rw [← dd] at hl
      exact j73 xv D1 I1 H locs _ _ ls (by omega) (by omega) hj1 hG hS hl
end LG
