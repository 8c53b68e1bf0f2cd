/-! PRINTED by wip/gen21/law5.py: the law's minute -/
section LG
variable {p : Program} {l : Launch} {e : Env} {s : State} {m : MethodId} {below : List Frame} {meth : Method} {c : Code} {Q : State → Prop}
variable {E : gE} {F : Nat → Prop} {J : Int64} {D : sD} {I : gI} {a lo b L a1 ti CB SB : Nat} {xs : Nat → Int32} {xv : Int32}
theorem LV.gh {O : List oR} {H : Heap} (h : LV E F J D I O H) (M S : gY) : LV E F J D (gGh I M S) O H := h.step (h.1.gh M S) (fun _ _ _ _ => rfl)
theorem jM.pass_n {n Lr : Nat} {I' : gI} (hj : jR (n + 1) Lr I) (hm : jM I I') (ha : I 0 0 0 4 = nI a) (a6 : a ≤ 6) (hlo : I 0 0 0 5 = nI lo) (l10 : lo ≤ 10) : f_X4_pass_s I' 1 0 0 0 4 = nI a ∧ f_X4_pass_s I' 1 0 0 0 5 = nI lo := by
  obtain ⟨K, A, t, hR, hK, k3, k4, k5, hf, hw0, hw1, hcc, ht, hzh, hzX, hs⟩ := hj
  obtain ⟨m0, m2, m3, m5, mw, mc⟩ := hm
  have h1 := hR.2.2.2.k1
  have ea : A 0 0 0 = a := by
    have := hR.1.k1
    rw [ha] at this
    exact ((nI_eq (by omega) (by omega)).mp this).symm
  have eb : A 0 0 1 = lo := by
    have := hR.1.k2
    rw [hlo] at this
    exact ((nI_eq (by omega) (by omega)).mp this).symm
  have hR0 : zR 6 K A (I' 0) (I 2) (I 3) := by rw [m0]; exact hR
  have hwI : wf (I' 0) := by rw [m0]; exact hw0
  have ec : f_X4_pass_s I' 1 = f_X3_runMinutes I' 0 (nI 1) := by simp only [f_X4_pass_s]; rw [if_pos (need1 I')]; rfl
  obtain ⟨A', q1, q2, q3, q4⟩ := zM_pass hR0 hwI hzh (by omega)
  rw [ec]
  exact ⟨by rw [q2.1.k1, q1 0 (by decide), ea], by rw [q2.1.k2, q1 1 (by decide), eb]⟩
set_option maxHeartbeats 4000000 in
set_option maxRecDepth 100000 in
theorem lg_min (X : gX p l s m meth c E b L xs) {n a2 : Nat} {f1 f2 : Nat → Int32} {ld ut : Int32} {I' : gI} (hF : ∀ q, F q → gN E ≤ q) (hj : jR (n + 1) 0 I) (hm : jM I I') (hC : jC a lo I) (hJ : jS a lo I) (hf1 : ∀ w, w < a → f1 w = f_X1_tell I 0 w 7) (hf2 : (∀ w, 3 ≤ w → w < 12 → f2 w = cW I w)) (hfact : ((ld = -1 ∧ ut = -1) ∨ ∃ x, x < lo ∧ ld = nI x ∧ ut = zU x (I 2 11 0 7) 300 0 I)) (hCB : CB ≤ 600172) (hSB : SB ≤ 7300668)
    (kk : ∀ (D1 : sD) (I2 : gI) (H : Heap) (locs : List Loc) (cells slots : Nat) (ls : Array Slot), cells ≤ CB → slots ≤ SB → jR n 0 I2 → LV E F J D1 I2 [(a2, 12, f2), (a1, a, f1)] H → va_S (gH E) s.heap H locs → lv_has ls 27 [(3, .int (nI ti)), (2, .ref (D1 0 0)), (1, .ref (gA E 2 10 0)), (0, .ref b)] → W p l e room_1 s m #[Value.ref b] below meth c H locs (cells) (slots) Q (F0 m 1154 ls [])) :
    ∀ (H : Heap) (locs : List Loc) (cells slots : Nat) (ls : Array Slot), cells + 109 ≤ CB → slots + 8794 ≤ SB → LV E F J D I' [(a2, 12, f2), (a1, a, f1)] H → va_S (gH E) s.heap H locs → lv_has ls 27 [(23, .int ut), (22, .int ld), (21, .ref a2), (18, .int (lE I 0 lo)), (17, .int (lE I 2 lo)), (16, .int (lS I 6 lo)), (15, .int (lS I 3 lo)), (14, .int (lS I 2 lo)), (12, .int (aS I a)), (11, .int (tS I 7 a)), (10, .int (tS I 2 a)), (9, .int (tS I 0 a)), (8, .int (tS I 6 a)), (7, .int (tS I 5 a)), (13, .ref a1), (6, .int (nI lo)), (5, .int (nI a)), (4, .int xv), (3, .int (nI ti)), (2, .ref (D 0 0)), (1, .ref (gA E 2 10 0)), (0, .ref b)] → W p l e room_1 s m #[Value.ref b] below meth c H locs (cells) (slots) Q (F0 m 969 ls []) := by
  obtain ⟨K, hAO, hml, hr, hlocks, hfl, hX, hbl, hbE, hL⟩ := id X
  have hx := K.1
  have hb := K.2.1
  have hts := K.2.2.1
  have hown := K.2.2.2.1
  obtain ⟨⟨a6, l10, ha0, hlo0⟩, -⟩ := hC
  obtain ⟨s1, -, -, -, -, -, -, s8, s9, -⟩ := hJ
  have s1 : f_X3_tell I 0 3 = lE I 2 lo := s1
  have s8 : f_X3_tell I 0 10 = tS I 7 a := s8
  have s9 : f_X3_tell I 0 11 = lS I 6 lo := s9
  obtain ⟨x0, xv1, x5, xo, gv, S, xj, tw, st, ⟨mi, hmi, idl⟩, lads, unt⟩ := jM.pass hj hm (by decide) ha0 a6 hlo0 l10
  obtain ⟨pa, plo⟩ := jM.pass_n hj hm ha0 a6 hlo0 l10
  have st : cW I 11 - f_X3_tell I 0 11 ≤ tS I 0 a := st
  rw [s9] at st
  rw [s8] at idl
  rw [s1] at xv1 gv
  have hwI : wf (I' 0) := by rw [hm.1]; exact hj.w0
  obtain ⟨P, hP⟩ : ∃ P, P = f_X4_pass_s I' 1 := ⟨_, rfl⟩
  rw [← hP] at x5 xo gv xj tw lads unt pa plo
  intro H locs cells slots ls hc hs hG hS hl
  refine lv_aload_n hx hb dL_law_969 rfl (lv_at hl 20 rfl) ?_
  refine lv_iconst (v := 1) hx hb dL_law_970 (by decide) ?_
  refine v_kn hG (l_runVX (As := [.int 1]) (rest := []) K hml ca_X4_pass q348 (m_X4_pass l E J I' 1 hwI hfl) hG.1.1 hS rfl rfl hl.1 (Nat.le_of_ble_eq_true rfl) ⟨by decide, by decide⟩ dL_law_971 ⟨by show _ + 1 ≤ 600172; omega, by show _ + 6 * 1 ≤ 7300668; omega⟩) hS (by rw [← hP]; exact x5) x0 (fun H locs hG hS => ?_)
  rw [← hP] at hG
  rw [xv1]
  refine lv_aload hx hb dL_law_974 (lv_at hl 2 rfl) ?_
  refine lv_iconst (v := 3) hx hb dL_law_976 (by decide) ?_
  refine v_iald K hG (x := (a2, 12, f2)) List.mem_cons_self (show vp_in (nI 3) 12 from vp_in_nI (by decide) (by decide)) dL_law_977 ?_
  rw [show (a2, 12, f2).2.2 (3 : Int32).toNatClampNeg = cW I 3 from hf2 3 (by decide) (by decide)]
  refine lv_iload hx hb dL_law_978 (lv_at hl 4 rfl) ?_
  refine lv_isub hx hb dL_law_980 ?_
  refine lv_icmp_ne (tgt := 1013) hx hb dL_law_981 (by decide) (fun h => absurd rfl h) (fun _ => ?_)
  refine lv_aload_n hx hb dL_law_984 rfl (lv_at hl 19 rfl) ?_
  refine lv_iconst (v := 1) hx hb dL_law_985 (by decide) ?_
  refine v_siv hF hG (s_runV (As := [.int 1]) (rest := []) K hAO gH_ge hml ca_X5_go q512 (m_S_go l E F J D P hF xo) hG.1 hG.1 hS rfl rfl hl.1 (Nat.le_of_ble_eq_true rfl) ⟨by decide, by decide⟩ dL_law_986 ⟨by show _ + 60 ≤ 600172; omega, by show _ + 8500 ≤ 7300668; omega⟩) hS (fun D1 hD1 H locs hG hS => ?_)
  rw [gv]
  have hG := hG.gh (I 2) S
  obtain ⟨I2, hI2⟩ : ∃ X, X = gGh (f_S_go_s P) (I 2) S := ⟨_, rfl⟩
  rw [← hI2] at hG xj unt
  have i0 : I2 0 = P 0 := by rw [hI2, gGh_ne _ _ _ (by decide) (by decide), ne_S_go _ (by decide)]
  rw [← hD1.1] at hl
  have hw0 := xj.w0
  have t2 : ∀ x, f_X3_tell I2 0 x = f_X3_tell P 0 x := fun x => zy_X3 i0 x
  refine lv_aload hx hb dL_law_989 (lv_at hl 2 rfl) ?_
  refine lv_iconst (v := 3) hx hb dL_law_991 (by decide) ?_
  refine v_iald K hG (x := (a2, 12, f2)) List.mem_cons_self (show vp_in (nI 3) 12 from vp_in_nI (by decide) (by decide)) dL_law_992 ?_
  rw [show (a2, 12, f2).2.2 (3 : Int32).toNatClampNeg = cW I 3 from hf2 3 (by decide) (by decide)]
  refine lv_iload hx hb dL_law_993 (lv_at hl 4 rfl) ?_
  refine lv_isub hx hb dL_law_995 ?_
  refine lv_icmp_ne (tgt := 1013) hx hb dL_law_996 (by decide) (fun h => absurd rfl h) (fun _ => ?_)
  refine lv_aload_n hx hb dL_law_999 rfl (lv_at hl 20 rfl) ?_
  refine lv_bipush (v := 11) hx hb dL_law_1000 (by decide) ?_
  obtain ⟨x0, xv0⟩ := zA_count' (I := I2) (x := 11) 11 rfl (by decide)
  refine v_kn hG (l_runVX (As := [.int 11]) (rest := []) K hml ca_X4_count q289 (m_X4_count l E J I2 11 hw0 hfl) hG.1.1 hS rfl rfl hl.1 (Nat.le_of_ble_eq_true rfl) ⟨by decide, by decide⟩ dL_law_1002 ⟨by show _ + 1 ≤ 600172; omega, by show _ + 6 * 1 ≤ 7300668; omega⟩) hS rfl x0 (fun H locs hG hS => ?_)
  rw [xv0]
  rw [show f_X3_tell I2 0 11 = cW I 11 from (t2 11).trans (tw 11)]
  refine lv_iload hx hb dL_law_1005 (lv_at hl 5 rfl) ?_
  refine lv_isub hx hb dL_law_1007 ?_
  refine lv_iload hx hb dL_law_1008 (lv_at hl 11 rfl) ?_
  refine lv_icmp_le (tgt := 1015) hx hb dL_law_1010 (by decide) (fun _ => ?_) (fun h => absurd st h)
  have j1065 : ∀ (I3 : gI) (H : Heap) (locs : List Loc) (cells1 slots1 : Nat) (ls : Array Slot), cells1 ≤ cells + 72 → slots1 ≤ slots + 8572 → jM I2 I3 → LV E F J D1 I3 [(a2, 12, f2), (a1, a, f1)] H → va_S (gH E) s.heap H locs → lv_has ls 27 [(23, .int ut), (22, .int ld), (21, .ref a2), (18, .int (lE I 0 lo)), (17, .int (lE I 2 lo)), (16, .int (lS I 6 lo)), (15, .int (lS I 3 lo)), (14, .int (lS I 2 lo)), (12, .int (aS I a)), (11, .int (tS I 7 a)), (10, .int (tS I 2 a)), (9, .int (tS I 0 a)), (8, .int (tS I 6 a)), (7, .int (tS I 5 a)), (13, .ref a1), (6, .int (nI lo)), (5, .int (nI a)), (4, .int xv), (3, .int (nI ti)), (2, .ref (D1 0 0)), (1, .ref (gA E 2 10 0)), (0, .ref b)] → W p l e room_1 s m #[Value.ref b] below meth c H locs (cells1) (slots1) Q (F0 m 1065 ls []) := by
    intro I3 H locs cells1 slots1 ls h1 h2 hm3 hG hS hl
    have j0 : I3 0 = P 0 := hm3.1.trans i0
    have hw0 := (hm3.jr xj).w0
    have ha : I3 0 0 0 4 = nI a := by rw [j0]; exact pa
    refine lv_aload_n hx hb dL_law_1065 rfl (lv_at hl 20 rfl) ?_
    refine lv_bipush (v := 10) hx hb dL_law_1066 (by decide) ?_
    obtain ⟨x0, xv0⟩ := zA_count' (I := I3) (x := 10) 10 rfl (by decide)
    refine v_kn hG (l_runVX (As := [.int 10]) (rest := []) K hml ca_X4_count q289 (m_X4_count l E J I3 10 hw0 hfl) hG.1.1 hS rfl rfl hl.1 (Nat.le_of_ble_eq_true rfl) ⟨by decide, by decide⟩ dL_law_1068 ⟨by show _ + 1 ≤ 600172; omega, by show _ + 6 * 1 ≤ 7300668; omega⟩) hS rfl x0 (fun H locs hG hS => ?_)
    rw [xv0]
    rw [show f_X3_tell I3 0 10 = cW I 10 from (zy_X3 j0 10).trans (tw 10)]
    refine lv_iload hx hb dL_law_1071 (lv_at hl 9 rfl) ?_
    refine lv_isub hx hb dL_law_1073 ?_
    rw [idl]
    refine lv_iload hx hb dL_law_1074 (lv_at hl 16 rfl) ?_
    refine lv_icmp_le (tgt := 1081) hx hb dL_law_1076 (by decide) (fun _ => ?_) (fun h => absurd (nI_le hmi (by omega)) h)
    have loop : ∀ (r k : Nat) (H : Heap) (locs : List Loc) (cells2 slots2 : Nat) (ls : Array Slot), k + r = a → cells2 + 6 * r ≤ cells + 109 → slots2 + 36 * r ≤ slots + 8794 → LV E F J D1 I3 [(a2, 12, f2), (a1, a, f1)] H → va_S (gH E) s.heap H locs → lv_has ls 27 [(25, .int (nI k)), (23, .int ut), (22, .int ld), (21, .ref a2), (18, .int (lE I 0 lo)), (17, .int (lE I 2 lo)), (16, .int (lS I 6 lo)), (15, .int (lS I 3 lo)), (14, .int (lS I 2 lo)), (12, .int (aS I a)), (11, .int (tS I 7 a)), (10, .int (tS I 2 a)), (9, .int (tS I 0 a)), (8, .int (tS I 6 a)), (7, .int (tS I 5 a)), (13, .ref a1), (6, .int (nI lo)), (5, .int (nI a)), (4, .int xv), (3, .int (nI ti)), (2, .ref (D1 0 0)), (1, .ref (gA E 2 10 0)), (0, .ref b)] → W p l e room_1 s m #[Value.ref b] below meth c H locs (cells2) (slots2) Q (F0 m 1084 ls []) := by
      intro r
      induction r with
      | zero =>
        intro k H locs cells2 slots2 ls hk h1 h2 hG hS hl
        refine lv_iload hx hb dL_law_1084 (lv_at hl 0 rfl) ?_
        refine lv_iload hx hb dL_law_1086 (lv_at hl 17 rfl) ?_
        refine lv_icmp_ge (tgt := 1154) hx hb dL_law_1088 (by decide) (fun _ => ?_) (fun h => absurd (nI_le (show a ≤ k by omega) (by omega)) h)
        exact kk D1 I3 H locs _ _ ls (by omega) (by omega) (hm3.jr xj) hG hS (lv_sub hl [19, 20, 21, 22] rfl)
      | succ r ih =>
        intro k H locs cells2 slots2 ls hk h1 h2 hG hS hl
        have e7 : f_X1_tell I3 0 k 7 = f_X1_tell P 0 k 7 := zy_X1 j0 k 7
        have e2 : f_X1_tell I3 0 k 2 = f_X1_tell P 0 k 2 := zy_X1 j0 k 2
        have e3 : f_X1_tell I3 0 k 3 = f_X1_tell P 0 k 3 := zy_X1 j0 k 3
        refine lv_iload hx hb dL_law_1084 (lv_at hl 0 rfl) ?_
        refine lv_iload hx hb dL_law_1086 (lv_at hl 17 rfl) ?_
        refine lv_icmp_ge (tgt := 1154) hx hb dL_law_1088 (by decide) (fun h => absurd h (nI_ge (by omega) (by omega))) (fun _ => ?_)
        refine lv_aload_n hx hb dL_law_1091 rfl (lv_at hl 21 rfl) ?_
        refine lv_iload hx hb dL_law_1092 (lv_at hl 0 rfl) ?_
        refine lv_bipush (v := 7) hx hb dL_law_1094 (by decide) ?_
        obtain ⟨x0, xv0⟩ := zA_lad' (I := I3) (x := 7) 7 ha (show k < a by omega) a6 rfl (by decide)
        refine v_kn hG (l_runVX (As := [.int (nI k), .int 7]) (rest := []) K hml ca_X4_lad q186 (m_X4_lad l E J I3 ((nI k)) 7 hw0 hfl) hG.1.1 hS rfl rfl hl.1 (Nat.le_of_ble_eq_true rfl) ⟨by decide, by decide⟩ dL_law_1096 ⟨by show _ + 2 ≤ 600172; omega, by show _ + 6 * 2 ≤ 7300668; omega⟩) hS rfl x0 (fun H locs hG hS => ?_)
        rw [xv0]
        rw [e7]
        refine lv_aload hx hb dL_law_1099 (lv_at hl 15 rfl) ?_
        refine lv_iload hx hb dL_law_1101 (lv_at hl 0 rfl) ?_
        refine v_iald K hG (x := (a1, a, f1)) (List.mem_cons_of_mem _ List.mem_cons_self) (show vp_in (nI k) a from vp_in_nI (by omega) (by omega)) dL_law_1103 ?_
        rw [nI_clamp (show k < 2 ^ 31 by omega), show (a1, a, f1).2.2 k = f_X1_tell I 0 k 7 from hf1 k (by omega)]
        refine lv_isub hx hb dL_law_1104 ?_
        rcases lads k (by omega) with q0 | ⟨q0, z2, z3⟩
        · rw [q0]
          refine lv_istore (lv' := [(26, .int 0), (25, .int (nI k)), (23, .int ut), (22, .int ld), (21, .ref a2), (18, .int (lE I 0 lo)), (17, .int (lE I 2 lo)), (16, .int (lS I 6 lo)), (15, .int (lS I 3 lo)), (14, .int (lS I 2 lo)), (12, .int (aS I a)), (11, .int (tS I 7 a)), (10, .int (tS I 2 a)), (9, .int (tS I 0 a)), (8, .int (tS I 6 a)), (7, .int (tS I 5 a)), (13, .ref a1), (6, .int (nI lo)), (5, .int (nI a)), (4, .int xv), (3, .int (nI ti)), (2, .ref (D1 0 0)), (1, .ref (gA E 2 10 0)), (0, .ref b)]) hx hb dL_law_1105 hl (by decide) rfl (fun ls hl => ?_)
          refine lv_iload hx hb dL_law_1107 (lv_at hl 0 rfl) ?_
          refine lv_if_lt (tgt := 1146) hx hb dL_law_1109 (by decide) (fun h => absurd h (by decide)) (fun _ => ?_)
          refine lv_iload hx hb dL_law_1112 (lv_at hl 0 rfl) ?_
          refine lv_iconst (v := 1) hx hb dL_law_1114 (by decide) ?_
          refine lv_icmp_gt (tgt := 1146) hx hb dL_law_1115 (by decide) (fun h => absurd h (by decide)) (fun _ => ?_)
          refine lv_iload hx hb dL_law_1118 (lv_at hl 0 rfl) ?_
          refine lv_iconst (v := 1) hx hb dL_law_1120 (by decide) ?_
          refine lv_icmp_ne (tgt := 1148) hx hb dL_law_1121 (by decide) (fun _ => ?_) (fun h => absurd h (by decide))
          refine lv_iinc (v := nI (k + 1)) (lv' := [(25, .int (nI (k + 1))), (26, .int 0), (23, .int ut), (22, .int ld), (21, .ref a2), (18, .int (lE I 0 lo)), (17, .int (lE I 2 lo)), (16, .int (lS I 6 lo)), (15, .int (lS I 3 lo)), (14, .int (lS I 2 lo)), (12, .int (aS I a)), (11, .int (tS I 7 a)), (10, .int (tS I 2 a)), (9, .int (tS I 0 a)), (8, .int (tS I 6 a)), (7, .int (tS I 5 a)), (13, .ref a1), (6, .int (nI lo)), (5, .int (nI a)), (4, .int xv), (3, .int (nI ti)), (2, .ref (D1 0 0)), (1, .ref (gA E 2 10 0)), (0, .ref b)]) hx hb dL_law_1148 hl (k := 1) rfl (nI_add k 1) (by decide) rfl (fun ls hl => ?_)
          refine lv_goto (tgt := 1084) hx hb dL_law_1151 (by decide) ?_
          exact ih (k + 1) H locs _ _ ls (by omega) (by omega) (by omega) hG hS (lv_sub hl [0, 2, 3, 4, 5, 6, 7, 8, 9, 10, 11, 12, 13, 14, 15, 16, 17, 18, 19, 20, 21, 22, 23] rfl)
        · rw [q0]
          refine lv_istore (lv' := [(26, .int 1), (25, .int (nI k)), (23, .int ut), (22, .int ld), (21, .ref a2), (18, .int (lE I 0 lo)), (17, .int (lE I 2 lo)), (16, .int (lS I 6 lo)), (15, .int (lS I 3 lo)), (14, .int (lS I 2 lo)), (12, .int (aS I a)), (11, .int (tS I 7 a)), (10, .int (tS I 2 a)), (9, .int (tS I 0 a)), (8, .int (tS I 6 a)), (7, .int (tS I 5 a)), (13, .ref a1), (6, .int (nI lo)), (5, .int (nI a)), (4, .int xv), (3, .int (nI ti)), (2, .ref (D1 0 0)), (1, .ref (gA E 2 10 0)), (0, .ref b)]) hx hb dL_law_1105 hl (by decide) rfl (fun ls hl => ?_)
          refine lv_iload hx hb dL_law_1107 (lv_at hl 0 rfl) ?_
          refine lv_if_lt (tgt := 1146) hx hb dL_law_1109 (by decide) (fun h => absurd h (by decide)) (fun _ => ?_)
          refine lv_iload hx hb dL_law_1112 (lv_at hl 0 rfl) ?_
          refine lv_iconst (v := 1) hx hb dL_law_1114 (by decide) ?_
          refine lv_icmp_gt (tgt := 1146) hx hb dL_law_1115 (by decide) (fun h => absurd h (by decide)) (fun _ => ?_)
          refine lv_iload hx hb dL_law_1118 (lv_at hl 0 rfl) ?_
          refine lv_iconst (v := 1) hx hb dL_law_1120 (by decide) ?_
          refine lv_icmp_ne (tgt := 1148) hx hb dL_law_1121 (by decide) (fun h => absurd rfl h) (fun _ => ?_)
          refine lv_aload_n hx hb dL_law_1124 rfl (lv_at hl 22 rfl) ?_
          refine lv_iload hx hb dL_law_1125 (lv_at hl 1 rfl) ?_
          refine lv_iconst (v := 2) hx hb dL_law_1127 (by decide) ?_
          obtain ⟨x0, xv0⟩ := zA_lad' (I := I3) (x := 2) 2 ha (show k < a by omega) a6 rfl (by decide)
          refine v_kn hG (l_runVX (As := [.int (nI k), .int 2]) (rest := []) K hml ca_X4_lad q186 (m_X4_lad l E J I3 ((nI k)) 2 hw0 hfl) hG.1.1 hS rfl rfl hl.1 (Nat.le_of_ble_eq_true rfl) ⟨by decide, by decide⟩ dL_law_1128 ⟨by show _ + 2 ≤ 600172; omega, by show _ + 6 * 2 ≤ 7300668; omega⟩) hS rfl x0 (fun H locs hG hS => ?_)
          rw [xv0]
          rw [e2]
          rw [z2]
          refine lv_if_ne (tgt := 1146) hx hb dL_law_1131 (by decide) (fun h => absurd rfl h) (fun _ => ?_)
          refine lv_aload_n hx hb dL_law_1134 rfl (lv_at hl 22 rfl) ?_
          refine lv_iload hx hb dL_law_1135 (lv_at hl 1 rfl) ?_
          refine lv_iconst (v := 3) hx hb dL_law_1137 (by decide) ?_
          obtain ⟨x0, xv0⟩ := zA_lad' (I := I3) (x := 3) 3 ha (show k < a by omega) a6 rfl (by decide)
          refine v_kn hG (l_runVX (As := [.int (nI k), .int 3]) (rest := []) K hml ca_X4_lad q186 (m_X4_lad l E J I3 ((nI k)) 3 hw0 hfl) hG.1.1 hS rfl rfl hl.1 (Nat.le_of_ble_eq_true rfl) ⟨by decide, by decide⟩ dL_law_1138 ⟨by show _ + 2 ≤ 600172; omega, by show _ + 6 * 2 ≤ 7300668; omega⟩) hS rfl x0 (fun H locs hG hS => ?_)
          rw [xv0]
          rw [e3]
          rcases z3 with z3 | z3
          · rw [z3]
            refine lv_iconst (v := 3) hx hb dL_law_1141 (by decide) ?_
            refine lv_irem hx hb dL_law_1142 (by decide) ?_
            refine lv_if_eq (tgt := 1148) hx hb dL_law_1143 (by decide) (fun _ => ?_) (fun h => absurd (by decide) h)
            refine lv_iinc (v := nI (k + 1)) (lv' := [(25, .int (nI (k + 1))), (26, .int 1), (23, .int ut), (22, .int ld), (21, .ref a2), (18, .int (lE I 0 lo)), (17, .int (lE I 2 lo)), (16, .int (lS I 6 lo)), (15, .int (lS I 3 lo)), (14, .int (lS I 2 lo)), (12, .int (aS I a)), (11, .int (tS I 7 a)), (10, .int (tS I 2 a)), (9, .int (tS I 0 a)), (8, .int (tS I 6 a)), (7, .int (tS I 5 a)), (13, .ref a1), (6, .int (nI lo)), (5, .int (nI a)), (4, .int xv), (3, .int (nI ti)), (2, .ref (D1 0 0)), (1, .ref (gA E 2 10 0)), (0, .ref b)]) hx hb dL_law_1148 hl (k := 1) rfl (nI_add k 1) (by decide) rfl (fun ls hl => ?_)
            refine lv_goto (tgt := 1084) hx hb dL_law_1151 (by decide) ?_
            exact ih (k + 1) H locs _ _ ls (by omega) (by omega) (by omega) hG hS (lv_sub hl [0, 2, 3, 4, 5, 6, 7, 8, 9, 10, 11, 12, 13, 14, 15, 16, 17, 18, 19, 20, 21, 22, 23] rfl)
          · rw [z3]
            refine lv_iconst (v := 3) hx hb dL_law_1141 (by decide) ?_
            refine lv_irem hx hb dL_law_1142 (by decide) ?_
            refine lv_if_eq (tgt := 1148) hx hb dL_law_1143 (by decide) (fun _ => ?_) (fun h => absurd (by decide) h)
            refine lv_iinc (v := nI (k + 1)) (lv' := [(25, .int (nI (k + 1))), (26, .int 1), (23, .int ut), (22, .int ld), (21, .ref a2), (18, .int (lE I 0 lo)), (17, .int (lE I 2 lo)), (16, .int (lS I 6 lo)), (15, .int (lS I 3 lo)), (14, .int (lS I 2 lo)), (12, .int (aS I a)), (11, .int (tS I 7 a)), (10, .int (tS I 2 a)), (9, .int (tS I 0 a)), (8, .int (tS I 6 a)), (7, .int (tS I 5 a)), (13, .ref a1), (6, .int (nI lo)), (5, .int (nI a)), (4, .int xv), (3, .int (nI ti)), (2, .ref (D1 0 0)), (1, .ref (gA E 2 10 0)), (0, .ref b)]) hx hb dL_law_1148 hl (k := 1) rfl (nI_add k 1) (by decide) rfl (fun ls hl => ?_)
            refine lv_goto (tgt := 1084) hx hb dL_law_1151 (by decide) ?_
            exact ih (k + 1) H locs _ _ ls (by omega) (by omega) (by omega) hG hS (lv_sub hl [0, 2, 3, 4, 5, 6, 7, 8, 9, 10, 11, 12, 13, 14, 15, 16, 17, 18, 19, 20, 21, 22, 23] rfl)
    refine lv_iconst (v := 0) hx hb dL_law_1081 (by decide) ?_
    refine lv_istore (lv' := [(25, .int 0), (23, .int ut), (22, .int ld), (21, .ref a2), (18, .int (lE I 0 lo)), (17, .int (lE I 2 lo)), (16, .int (lS I 6 lo)), (15, .int (lS I 3 lo)), (14, .int (lS I 2 lo)), (12, .int (aS I a)), (11, .int (tS I 7 a)), (10, .int (tS I 2 a)), (9, .int (tS I 0 a)), (8, .int (tS I 6 a)), (7, .int (tS I 5 a)), (13, .ref a1), (6, .int (nI lo)), (5, .int (nI a)), (4, .int xv), (3, .int (nI ti)), (2, .ref (D1 0 0)), (1, .ref (gA E 2 10 0)), (0, .ref b)]) hx hb dL_law_1082 hl (by decide) rfl (fun ls hl => ?_)
    exact loop a 0 H locs _ _ ls (by omega) (by omega) (by omega) hG hS (lv_sub hl [0, 1, 2, 3, 4, 5, 6, 7, 8, 9, 10, 11, 12, 13, 14, 15, 16, 17, 18, 19, 20, 21, 22] rfl)
  have j1047 : ∀ (H : Heap) (locs : List Loc) (cells1 slots1 : Nat) (ls : Array Slot), cells1 ≤ cells + 71 → slots1 ≤ slots + 8566 → LV E F J D1 I2 [(a2, 12, f2), (a1, a, f1)] H → va_S (gH E) s.heap H locs → lv_has ls 27 [(23, .int ut), (22, .int ld), (21, .ref a2), (18, .int (lE I 0 lo)), (17, .int (lE I 2 lo)), (16, .int (lS I 6 lo)), (15, .int (lS I 3 lo)), (14, .int (lS I 2 lo)), (12, .int (aS I a)), (11, .int (tS I 7 a)), (10, .int (tS I 2 a)), (9, .int (tS I 0 a)), (8, .int (tS I 6 a)), (7, .int (tS I 5 a)), (13, .ref a1), (6, .int (nI lo)), (5, .int (nI a)), (4, .int xv), (3, .int (nI ti)), (2, .ref (D1 0 0)), (1, .ref (gA E 2 10 0)), (0, .ref b)] → W p l e room_1 s m #[Value.ref b] below meth c H locs (cells1) (slots1) Q (F0 m 1047 ls []) := by
    intro H locs cells1 slots1 ls h1 h2 hG hS hl
    refine lv_iload hx hb dL_law_1047 (lv_at hl 0 rfl) ?_
    refine lv_if_le (tgt := 1065) hx hb dL_law_1049 (by decide) (fun hu => ?_) (fun hu => ?_)
    · exact j1065 I2 H locs _ _ ls (by omega) (by omega) (jM.refl xj) hG hS hl
    · rcases hfact with ⟨-, e23⟩ | ⟨x, hxl, e22, e23⟩
      · exact absurd (by rw [e23]; decide) hu
      · have hp : 0 < zU x (I 2 11 0 7) 300 0 I := by rw [← e23]; exact Int32.not_le.mp hu
        obtain ⟨v0, v1⟩ := unt x hxl hp I2 (jM.refl xj)
        obtain ⟨-, -, xm⟩ := jM.until xj (jM.refl xj) (by rw [i0]; exact plo) l10 hxl
        obtain ⟨h0, h9, hzz, hzd⟩ := xj.lw0
        rw [e22] at hl
        refine lv_aload_n hx hb dL_law_1052 rfl (lv_at hl 20 rfl) ?_
        refine lv_iload hx hb dL_law_1053 (lv_at hl 1 rfl) ?_
        refine v_kn hG (l_runVX (As := [.int (nI x)]) (rest := []) K hml ca_X4_until q461 (m_X4_until l E J I2 (nI x) h0 h9 hzz hzd hfl) hG.1.1 hS rfl rfl hl.1 (Nat.le_of_ble_eq_true rfl) ⟨by decide, by decide⟩ dL_law_1055 ⟨by show _ + 1 ≤ 600172; omega, by show _ + 6 * 1 ≤ 7300668; omega⟩) hS xm.2.2.2.1 v0 (fun H locs hG hS => ?_)
        rw [v1, ← e23]
        refine lv_iload hx hb dL_law_1058 (lv_at hl 0 rfl) ?_
        refine lv_iconst (v := 1) hx hb dL_law_1060 (by decide) ?_
        refine lv_isub hx hb dL_law_1061 ?_
        refine lv_icmp_ne (tgt := 1079) hx hb dL_law_1062 (by decide) (fun h => absurd rfl h) (fun _ => ?_)
        rw [← e22] at hl
        exact j1065 _ H locs _ _ ls (by omega) (by omega) xm hG hS hl
  have loop : ∀ (r k : Nat) (H : Heap) (locs : List Loc) (cells1 slots1 : Nat) (ls : Array Slot), k + r = 12 → 3 ≤ k → cells1 + r ≤ cells + 71 → slots1 + 6 * r ≤ slots + 8566 → LV E F J D1 I2 [(a2, 12, f2), (a1, a, f1)] H → va_S (gH E) s.heap H locs → lv_has ls 27 [(25, .int (nI k)), (23, .int ut), (22, .int ld), (21, .ref a2), (18, .int (lE I 0 lo)), (17, .int (lE I 2 lo)), (16, .int (lS I 6 lo)), (15, .int (lS I 3 lo)), (14, .int (lS I 2 lo)), (12, .int (aS I a)), (11, .int (tS I 7 a)), (10, .int (tS I 2 a)), (9, .int (tS I 0 a)), (8, .int (tS I 6 a)), (7, .int (tS I 5 a)), (13, .ref a1), (6, .int (nI lo)), (5, .int (nI a)), (4, .int xv), (3, .int (nI ti)), (2, .ref (D1 0 0)), (1, .ref (gA E 2 10 0)), (0, .ref b)] → W p l e room_1 s m #[Value.ref b] below meth c H locs (cells1) (slots1) Q (F0 m 1018 ls []) := by
    intro r
    induction r with
    | zero =>
      intro k H locs cells1 slots1 ls hk h3 h1 h2 hG hS hl
      refine lv_iload hx hb dL_law_1018 (lv_at hl 0 rfl) ?_
      refine lv_bipush (v := 12) hx hb dL_law_1020 (by decide) ?_
      refine lv_icmp_ge (tgt := 1047) hx hb dL_law_1022 (by decide) (fun _ => ?_) (fun h => absurd (show (12 : Int32) ≤ nI k by rw [show k = 12 by omega]; decide) h)
      exact j1047 H locs _ _ ls (by omega) (by omega) hG hS (lv_sub hl [1, 2, 3, 4, 5, 6, 7, 8, 9, 10, 11, 12, 13, 14, 15, 16, 17, 18, 19, 20, 21, 22] rfl)
    | succ r ih =>
      intro k H locs cells1 slots1 ls hk h3 h1 h2 hG hS hl
      refine lv_iload hx hb dL_law_1018 (lv_at hl 0 rfl) ?_
      refine lv_bipush (v := 12) hx hb dL_law_1020 (by decide) ?_
      refine lv_icmp_ge (tgt := 1047) hx hb dL_law_1022 (by decide) (fun h => absurd h (nI_ge (b := 12) (by omega) (by decide))) (fun _ => ?_)
      refine lv_aload_n hx hb dL_law_1025 rfl (lv_at hl 21 rfl) ?_
      refine lv_iload hx hb dL_law_1026 (lv_at hl 0 rfl) ?_
      obtain ⟨x0, xv0⟩ := zA_count (I := I2) (w := k) (show k < 13 by omega)
      refine v_kn hG (l_runVX (As := [.int (nI k)]) (rest := []) K hml ca_X4_count q289 (m_X4_count l E J I2 ((nI k)) hw0 hfl) hG.1.1 hS rfl rfl hl.1 (Nat.le_of_ble_eq_true rfl) ⟨by decide, by decide⟩ dL_law_1028 ⟨by show _ + 1 ≤ 600172; omega, by show _ + 6 * 1 ≤ 7300668; omega⟩) hS rfl x0 (fun H locs hG hS => ?_)
      rw [xv0, t2, tw]
      refine lv_aload hx hb dL_law_1031 (lv_at hl 3 rfl) ?_
      refine lv_iload hx hb dL_law_1033 (lv_at hl 0 rfl) ?_
      refine v_iald K hG (x := (a2, 12, f2)) List.mem_cons_self (show vp_in (nI k) 12 from vp_in_nI (by omega) (by decide)) dL_law_1035 ?_
      rw [nI_clamp (show k < 2 ^ 31 by omega), show (a2, 12, f2).2.2 k = cW I k from hf2 k h3 (by omega)]
      refine lv_icmp_eq (tgt := 1041) hx hb dL_law_1036 (by decide) (fun _ => ?_) (fun h => absurd rfl h)
      refine lv_iinc (v := nI (k + 1)) (lv' := [(25, .int (nI (k + 1))), (23, .int ut), (22, .int ld), (21, .ref a2), (18, .int (lE I 0 lo)), (17, .int (lE I 2 lo)), (16, .int (lS I 6 lo)), (15, .int (lS I 3 lo)), (14, .int (lS I 2 lo)), (12, .int (aS I a)), (11, .int (tS I 7 a)), (10, .int (tS I 2 a)), (9, .int (tS I 0 a)), (8, .int (tS I 6 a)), (7, .int (tS I 5 a)), (13, .ref a1), (6, .int (nI lo)), (5, .int (nI a)), (4, .int xv), (3, .int (nI ti)), (2, .ref (D1 0 0)), (1, .ref (gA E 2 10 0)), (0, .ref b)]) hx hb dL_law_1041 hl (k := 0) rfl (nI_add k 1) (by decide) rfl (fun ls hl => ?_)
      refine lv_goto (tgt := 1018) hx hb dL_law_1044 (by decide) ?_
      exact ih (k + 1) H locs _ _ ls (by omega) (by omega) (by omega) (by omega) hG hS hl
  refine lv_iconst (v := 3) hx hb dL_law_1015 (by decide) ?_
  refine lv_istore (lv' := [(25, .int 3), (23, .int ut), (22, .int ld), (21, .ref a2), (18, .int (lE I 0 lo)), (17, .int (lE I 2 lo)), (16, .int (lS I 6 lo)), (15, .int (lS I 3 lo)), (14, .int (lS I 2 lo)), (12, .int (aS I a)), (11, .int (tS I 7 a)), (10, .int (tS I 2 a)), (9, .int (tS I 0 a)), (8, .int (tS I 6 a)), (7, .int (tS I 5 a)), (13, .ref a1), (6, .int (nI lo)), (5, .int (nI a)), (4, .int xv), (3, .int (nI ti)), (2, .ref (D1 0 0)), (1, .ref (gA E 2 10 0)), (0, .ref b)]) hx hb dL_law_1016 hl (by decide) rfl (fun ls hl => ?_)
  exact loop 9 3 H locs _ _ ls (by omega) (by omega) (by omega) (by omega) hG hS hl
end LG
