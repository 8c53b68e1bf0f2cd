/-! PRINTED by wip/gen21/law1.py: the law, its loop over the lads -/
section LG
variable {p : Program} {l : Launch} {e : Env} {s : State} {m : MethodId} {below : List Frame} {meth : Method} {c : Code} {Q : State → Prop}
variable {E : gE} {F : Nat → Prop} {J : Int64} {D : sD} {I : gI} {a lo b L a1 ti CB SB : Nat} {xs : Nat → Int32} {xv : Int32}
set_option maxHeartbeats 4000000 in
set_option maxRecDepth 100000 in
theorem lg_lads (X : gX p l s m meth c E b L xs) (hF : ∀ q, F q → gN E ≤ q) (hw0 : wf (I 0)) (hC : jC a lo I) (hCB : CB ≤ 600172) (hSB : SB ≤ 7300668)
    (kk : ∀ (f : Nat → Int32) (H : Heap) (locs : List Loc) (cells slots : Nat) (ls : Array Slot), cells ≤ CB → slots ≤ SB → (∀ w, w < a → f w = f_X1_tell I 0 w 7) → LV E F J D I [(a1, a, f)] H → va_S (gH E) s.heap H locs → lv_has ls 27 [(12, .int (aS I a)), (11, .int (tS I 7 a)), (10, .int (tS I 2 a)), (9, .int (tS I 0 a)), (8, .int (tS I 6 a)), (7, .int (tS I 5 a)), (13, .ref a1), (6, .int (nI lo)), (5, .int (nI a)), (4, .int xv), (3, .int (nI ti)), (2, .ref (D 0 0)), (1, .ref (gA E 2 10 0)), (0, .ref b)] → W p l e room_1 s m #[Value.ref b] below meth c H locs (cells) (slots) Q (F0 m 360 ls [])) :
    ∀ (r k : Nat) (f : Nat → Int32) (H : Heap) (locs : List Loc) (cells slots : Nat) (ls : Array Slot), k + r = a → cells + 31 * r ≤ CB → slots + 186 * r ≤ SB → (∀ w, w < k → f w = f_X1_tell I 0 w 7) → LV E F J D I [(a1, a, f)] H → va_S (gH E) s.heap H locs → lv_has ls 27 [(14, .int (nI k)), (12, .int (aS I k)), (11, .int (tS I 7 k)), (10, .int (tS I 2 k)), (9, .int (tS I 0 k)), (8, .int (tS I 6 k)), (7, .int (tS I 5 k)), (13, .ref a1), (6, .int (nI lo)), (5, .int (nI a)), (4, .int xv), (3, .int (nI ti)), (2, .ref (D 0 0)), (1, .ref (gA E 2 10 0)), (0, .ref b)] → W p l e room_1 s m #[Value.ref b] below meth c H locs (cells) (slots) Q (F0 m 114 ls []) := by
  obtain ⟨K, hAO, hml, hr, hlocks, hfl, hX, hbl, hbE, hL⟩ := id X
  have hx := K.1
  have hb := K.2.1
  have hts := K.2.2.1
  have hown := K.2.2.2.1
  obtain ⟨⟨a6, l10, ha, hlo⟩, hLd, hVc, -⟩ := hC
  intro r
  induction r with
  | zero =>
    intro k f H locs cells slots ls hk hc hs hf hG hS hl
    obtain rfl : k = a := hk
    refine lv_iload hx hb dL_law_114 (lv_at hl 0 rfl) ?_
    refine lv_iload hx hb dL_law_116 (lv_at hl 9 rfl) ?_
    refine lv_icmp_ge (tgt := 360) hx hb dL_law_118 (by decide) (fun _ => ?_) (fun h => absurd (nI_le (Nat.le_refl k) (by omega)) h)
    exact kk f H locs cells slots ls (by omega) (by omega) hf hG hS (lv_sub hl [1, 2, 3, 4, 5, 6, 7, 8, 9, 10, 11, 12, 13, 14] rfl)
  | succ r ih =>
    intro k f H locs cells slots ls hk hc hs hf hG hS hl
    have k31 : k < 2 ^ 31 := by omega
    have j308 : ∀ (dz : Int32) (f : Nat → Int32) (H : Heap) (locs : List Loc) (cells1 slots1 : Nat) (ls : Array Slot), cells1 ≤ cells + 18 → slots1 ≤ slots + 108 → (∀ w, w < k + 1 → f w = f_X1_tell I 0 w 7) → LV E F J D I [(a1, a, f)] H → va_S (gH E) s.heap H locs → lv_has ls 27 [(15, .int dz), (14, .int (nI k)), (12, .int (aS I (k + 1))), (11, .int (tS I 7 (k + 1))), (10, .int (tS I 2 (k + 1))), (9, .int (tS I 0 (k + 1))), (8, .int (tS I 6 (k + 1))), (7, .int (tS I 5 (k + 1))), (13, .ref a1), (6, .int (nI lo)), (5, .int (nI a)), (4, .int xv), (3, .int (nI ti)), (2, .ref (D 0 0)), (1, .ref (gA E 2 10 0)), (0, .ref b)] → W p l e room_1 s m #[Value.ref b] below meth c H locs (cells1) (slots1) Q (F0 m 308 ls []) := by
      intro dz f H locs cells1 slots1 ls h1 h2 hf hG hS hl
      refine lv_aload_n hx hb dL_law_308 rfl (lv_at hl 14 rfl) ?_
      refine lv_iload hx hb dL_law_309 (lv_at hl 1 rfl) ?_
      obtain ⟨x0, xv0⟩ := zA_vic ha (show k < a by omega) a6
      refine v_kn hG (l_runVX (As := [.int (nI k)]) (rest := []) K hml ca_X4_victim q316 (m_X4_victim l E J I ((nI k)) hw0 hfl) hG.1.1 hS rfl rfl hl.1 (Nat.le_of_ble_eq_true rfl) ⟨by decide, by decide⟩ dL_law_311 ⟨by show _ + 1 ≤ 600172; omega, by show _ + 6 * 1 ≤ 7300668; omega⟩) hS rfl x0 (fun H locs hG hS => ?_)
      rw [xv0]
      rcases hVc k (by omega) with ⟨ev, he⟩ | ⟨v, hv, ne, ev, nz⟩
      · rw [ev]
        refine lv_istore (lv' := [(16, .int (-1)), (15, .int dz), (14, .int (nI k)), (12, .int (aS I (k + 1))), (11, .int (tS I 7 (k + 1))), (10, .int (tS I 2 (k + 1))), (9, .int (tS I 0 (k + 1))), (8, .int (tS I 6 (k + 1))), (7, .int (tS I 5 (k + 1))), (13, .ref a1), (6, .int (nI lo)), (5, .int (nI a)), (4, .int xv), (3, .int (nI ti)), (2, .ref (D 0 0)), (1, .ref (gA E 2 10 0)), (0, .ref b)]) hx hb dL_law_314 hl (by decide) rfl (fun ls hl => ?_)
        refine lv_iload hx hb dL_law_316 (lv_at hl 0 rfl) ?_
        refine lv_if_lt (tgt := 341) hx hb dL_law_318 (by decide) (fun _ => ?_) (fun h => absurd (by decide) h)
        refine lv_aload_n hx hb dL_law_341 rfl (lv_at hl 15 rfl) ?_
        refine lv_iload hx hb dL_law_342 (lv_at hl 2 rfl) ?_
        refine lv_iload hx hb dL_law_344 (lv_at hl 11 rfl) ?_
        refine n_in K hAO hml hG hS hw0 ha a6 (show k < a by omega) he hfl hl.1 (Nat.le_of_ble_eq_true rfl) ⟨by decide, by decide⟩ dL_law_346 ⟨by show _ + 12 ≤ 600172; omega, by show _ + 72 ≤ 7300668; omega⟩ (fun H locs hG hS => ?_)
        refine lv_if_eq (tgt := 354) hx hb dL_law_349 (by decide) (fun _ => ?_) (fun h => absurd rfl h)
        refine lv_iinc (v := nI (k + 1)) (lv' := [(14, .int (nI (k + 1))), (16, .int (-1)), (15, .int dz), (12, .int (aS I (k + 1))), (11, .int (tS I 7 (k + 1))), (10, .int (tS I 2 (k + 1))), (9, .int (tS I 0 (k + 1))), (8, .int (tS I 6 (k + 1))), (7, .int (tS I 5 (k + 1))), (13, .ref a1), (6, .int (nI lo)), (5, .int (nI a)), (4, .int xv), (3, .int (nI ti)), (2, .ref (D 0 0)), (1, .ref (gA E 2 10 0)), (0, .ref b)]) hx hb dL_law_354 hl (k := 2) rfl (nI_add k 1) (by decide) rfl (fun ls hl => ?_)
        refine lv_goto (tgt := 114) hx hb dL_law_357 (by decide) ?_
        exact ih (k + 1) f H locs _ _ ls (by omega) (by omega) (by omega) hf hG hS (lv_sub hl [0, 3, 4, 5, 6, 7, 8, 9, 10, 11, 12, 13, 14, 15, 16] rfl)
      · rw [ev]
        refine lv_istore (lv' := [(16, .int (nI v)), (15, .int dz), (14, .int (nI k)), (12, .int (aS I (k + 1))), (11, .int (tS I 7 (k + 1))), (10, .int (tS I 2 (k + 1))), (9, .int (tS I 0 (k + 1))), (8, .int (tS I 6 (k + 1))), (7, .int (tS I 5 (k + 1))), (13, .ref a1), (6, .int (nI lo)), (5, .int (nI a)), (4, .int xv), (3, .int (nI ti)), (2, .ref (D 0 0)), (1, .ref (gA E 2 10 0)), (0, .ref b)]) hx hb dL_law_314 hl (by decide) rfl (fun ls hl => ?_)
        refine lv_iload hx hb dL_law_316 (lv_at hl 0 rfl) ?_
        refine lv_if_lt (tgt := 341) hx hb dL_law_318 (by decide) (fun h => absurd h (nI_pos (by omega))) (fun _ => ?_)
        refine lv_iload hx hb dL_law_321 (lv_at hl 0 rfl) ?_
        refine lv_iload hx hb dL_law_323 (lv_at hl 2 rfl) ?_
        refine lv_icmp_eq (tgt := 352) hx hb dL_law_325 (by decide) (fun h => absurd ((nI_eq (by omega) (by omega)).mp h) ne) (fun _ => ?_)
        refine lv_aload_n hx hb dL_law_328 rfl (lv_at hl 15 rfl) ?_
        refine lv_iload hx hb dL_law_329 (lv_at hl 0 rfl) ?_
        refine lv_iconst (v := 2) hx hb dL_law_331 (by decide) ?_
        obtain ⟨x0, xv0⟩ := zA_lad' (I := I) (x := 2) 2 ha (show v < a by omega) a6 rfl (by decide)
        refine v_kn hG (l_runVX (As := [.int (nI v), .int 2]) (rest := []) K hml ca_X4_lad q186 (m_X4_lad l E J I ((nI v)) 2 hw0 hfl) hG.1.1 hS rfl rfl hl.1 (Nat.le_of_ble_eq_true rfl) ⟨by decide, by decide⟩ dL_law_332 ⟨by show _ + 2 ≤ 600172; omega, by show _ + 6 * 2 ≤ 7300668; omega⟩) hS rfl x0 (fun H locs hG hS => ?_)
        rw [xv0]
        refine lv_if_ne (tgt := 354) hx hb dL_law_335 (by decide) (fun _ => ?_) (fun h => absurd h nz)
        refine lv_iinc (v := nI (k + 1)) (lv' := [(14, .int (nI (k + 1))), (16, .int (nI v)), (15, .int dz), (12, .int (aS I (k + 1))), (11, .int (tS I 7 (k + 1))), (10, .int (tS I 2 (k + 1))), (9, .int (tS I 0 (k + 1))), (8, .int (tS I 6 (k + 1))), (7, .int (tS I 5 (k + 1))), (13, .ref a1), (6, .int (nI lo)), (5, .int (nI a)), (4, .int xv), (3, .int (nI ti)), (2, .ref (D 0 0)), (1, .ref (gA E 2 10 0)), (0, .ref b)]) hx hb dL_law_354 hl (k := 2) rfl (nI_add k 1) (by decide) rfl (fun ls hl => ?_)
        refine lv_goto (tgt := 114) hx hb dL_law_357 (by decide) ?_
        exact ih (k + 1) f H locs _ _ ls (by omega) (by omega) (by omega) hf hG hS (lv_sub hl [0, 3, 4, 5, 6, 7, 8, 9, 10, 11, 12, 13, 14, 15, 16] rfl)
    refine lv_iload hx hb dL_law_114 (lv_at hl 0 rfl) ?_
    refine lv_iload hx hb dL_law_116 (lv_at hl 9 rfl) ?_
    refine lv_icmp_ge (tgt := 360) hx hb dL_law_118 (by decide) (fun h => absurd h (nI_ge (by omega) (by omega))) (fun _ => ?_)
    refine lv_iload hx hb dL_law_121 (lv_at hl 4 rfl) ?_
    refine lv_aload_n hx hb dL_law_123 rfl (lv_at hl 13 rfl) ?_
    refine lv_iload hx hb dL_law_124 (lv_at hl 0 rfl) ?_
    refine lv_iconst (v := 0) hx hb dL_law_126 (by decide) ?_
    obtain ⟨x0, xv0⟩ := zA_lad' (I := I) (x := 0) 0 ha (show k < a by omega) a6 rfl (by decide)
    refine v_kn hG (l_runVX (As := [.int (nI k), .int 0]) (rest := [.int (tS I 0 k)]) K hml ca_X4_lad q186 (m_X4_lad l E J I ((nI k)) 0 hw0 hfl) hG.1.1 hS rfl rfl hl.1 (Nat.le_of_ble_eq_true rfl) ⟨by decide, by decide⟩ dL_law_127 ⟨by show _ + 2 ≤ 600172; omega, by show _ + 6 * 2 ≤ 7300668; omega⟩) hS rfl x0 (fun H locs hG hS => ?_)
    rw [xv0]
    refine lv_iadd hx hb dL_law_130 ?_
    rw [show ((((tS I 0 k)) + ((f_X1_tell I 0 k 0))) : Int32) = tS I 0 (k + 1) from rfl]
    refine lv_istore (lv' := [(9, .int (tS I 0 (k + 1))), (14, .int (nI k)), (12, .int (aS I k)), (11, .int (tS I 7 k)), (10, .int (tS I 2 k)), (8, .int (tS I 6 k)), (7, .int (tS I 5 k)), (13, .ref a1), (6, .int (nI lo)), (5, .int (nI a)), (4, .int xv), (3, .int (nI ti)), (2, .ref (D 0 0)), (1, .ref (gA E 2 10 0)), (0, .ref b)]) hx hb dL_law_131 hl (by decide) rfl (fun ls hl => ?_)
    refine lv_iload hx hb dL_law_133 (lv_at hl 4 rfl) ?_
    refine lv_aload_n hx hb dL_law_135 rfl (lv_at hl 13 rfl) ?_
    refine lv_iload hx hb dL_law_136 (lv_at hl 1 rfl) ?_
    refine lv_iconst (v := 2) hx hb dL_law_138 (by decide) ?_
    obtain ⟨x0, xv0⟩ := zA_lad' (I := I) (x := 2) 2 ha (show k < a by omega) a6 rfl (by decide)
    refine v_kn hG (l_runVX (As := [.int (nI k), .int 2]) (rest := [.int (tS I 2 k)]) K hml ca_X4_lad q186 (m_X4_lad l E J I ((nI k)) 2 hw0 hfl) hG.1.1 hS rfl rfl hl.1 (Nat.le_of_ble_eq_true rfl) ⟨by decide, by decide⟩ dL_law_139 ⟨by show _ + 2 ≤ 600172; omega, by show _ + 6 * 2 ≤ 7300668; omega⟩) hS rfl x0 (fun H locs hG hS => ?_)
    rw [xv0]
    refine lv_iadd hx hb dL_law_142 ?_
    rw [show ((((tS I 2 k)) + ((f_X1_tell I 0 k 2))) : Int32) = tS I 2 (k + 1) from rfl]
    refine lv_istore (lv' := [(10, .int (tS I 2 (k + 1))), (9, .int (tS I 0 (k + 1))), (14, .int (nI k)), (12, .int (aS I k)), (11, .int (tS I 7 k)), (8, .int (tS I 6 k)), (7, .int (tS I 5 k)), (13, .ref a1), (6, .int (nI lo)), (5, .int (nI a)), (4, .int xv), (3, .int (nI ti)), (2, .ref (D 0 0)), (1, .ref (gA E 2 10 0)), (0, .ref b)]) hx hb dL_law_143 hl (by decide) rfl (fun ls hl => ?_)
    refine lv_iload hx hb dL_law_145 (lv_at hl 6 rfl) ?_
    refine lv_aload_n hx hb dL_law_147 rfl (lv_at hl 13 rfl) ?_
    refine lv_iload hx hb dL_law_148 (lv_at hl 2 rfl) ?_
    refine lv_iconst (v := 5) hx hb dL_law_150 (by decide) ?_
    obtain ⟨x0, xv0⟩ := zA_lad' (I := I) (x := 5) 5 ha (show k < a by omega) a6 rfl (by decide)
    refine v_kn hG (l_runVX (As := [.int (nI k), .int 5]) (rest := [.int (tS I 5 k)]) K hml ca_X4_lad q186 (m_X4_lad l E J I ((nI k)) 5 hw0 hfl) hG.1.1 hS rfl rfl hl.1 (Nat.le_of_ble_eq_true rfl) ⟨by decide, by decide⟩ dL_law_151 ⟨by show _ + 2 ≤ 600172; omega, by show _ + 6 * 2 ≤ 7300668; omega⟩) hS rfl x0 (fun H locs hG hS => ?_)
    rw [xv0]
    refine lv_iadd hx hb dL_law_154 ?_
    rw [show ((((tS I 5 k)) + ((f_X1_tell I 0 k 5))) : Int32) = tS I 5 (k + 1) from rfl]
    refine lv_istore (lv' := [(7, .int (tS I 5 (k + 1))), (10, .int (tS I 2 (k + 1))), (9, .int (tS I 0 (k + 1))), (14, .int (nI k)), (12, .int (aS I k)), (11, .int (tS I 7 k)), (8, .int (tS I 6 k)), (13, .ref a1), (6, .int (nI lo)), (5, .int (nI a)), (4, .int xv), (3, .int (nI ti)), (2, .ref (D 0 0)), (1, .ref (gA E 2 10 0)), (0, .ref b)]) hx hb dL_law_155 hl (by decide) rfl (fun ls hl => ?_)
    refine lv_iload hx hb dL_law_157 (lv_at hl 6 rfl) ?_
    refine lv_aload_n hx hb dL_law_159 rfl (lv_at hl 13 rfl) ?_
    refine lv_iload hx hb dL_law_160 (lv_at hl 3 rfl) ?_
    refine lv_bipush (v := 6) hx hb dL_law_162 (by decide) ?_
    obtain ⟨x0, xv0⟩ := zA_lad' (I := I) (x := 6) 6 ha (show k < a by omega) a6 rfl (by decide)
    refine v_kn hG (l_runVX (As := [.int (nI k), .int 6]) (rest := [.int (tS I 6 k)]) K hml ca_X4_lad q186 (m_X4_lad l E J I ((nI k)) 6 hw0 hfl) hG.1.1 hS rfl rfl hl.1 (Nat.le_of_ble_eq_true rfl) ⟨by decide, by decide⟩ dL_law_164 ⟨by show _ + 2 ≤ 600172; omega, by show _ + 6 * 2 ≤ 7300668; omega⟩) hS rfl x0 (fun H locs hG hS => ?_)
    rw [xv0]
    refine lv_iadd hx hb dL_law_167 ?_
    rw [show ((((tS I 6 k)) + ((f_X1_tell I 0 k 6))) : Int32) = tS I 6 (k + 1) from rfl]
    refine lv_istore (lv' := [(8, .int (tS I 6 (k + 1))), (7, .int (tS I 5 (k + 1))), (10, .int (tS I 2 (k + 1))), (9, .int (tS I 0 (k + 1))), (14, .int (nI k)), (12, .int (aS I k)), (11, .int (tS I 7 k)), (13, .ref a1), (6, .int (nI lo)), (5, .int (nI a)), (4, .int xv), (3, .int (nI ti)), (2, .ref (D 0 0)), (1, .ref (gA E 2 10 0)), (0, .ref b)]) hx hb dL_law_168 hl (by decide) rfl (fun ls hl => ?_)
    refine lv_aload hx hb dL_law_170 (lv_at hl 7 rfl) ?_
    refine lv_iload hx hb dL_law_172 (lv_at hl 4 rfl) ?_
    refine lv_aload_n hx hb dL_law_174 rfl (lv_at hl 13 rfl) ?_
    refine lv_iload hx hb dL_law_175 (lv_at hl 4 rfl) ?_
    refine lv_bipush (v := 7) hx hb dL_law_177 (by decide) ?_
    obtain ⟨x0, xv0⟩ := zA_lad' (I := I) (x := 7) 7 ha (show k < a by omega) a6 rfl (by decide)
    refine v_kn hG (l_runVX (As := [.int (nI k), .int 7]) (rest := [.int (nI k), .ref a1]) K hml ca_X4_lad q186 (m_X4_lad l E J I ((nI k)) 7 hw0 hfl) hG.1.1 hS rfl rfl hl.1 (Nat.le_of_ble_eq_true rfl) ⟨by decide, by decide⟩ dL_law_179 ⟨by show _ + 2 ≤ 600172; omega, by show _ + 6 * 2 ≤ 7300668; omega⟩) hS rfl x0 (fun H locs hG hS => ?_)
    rw [xv0]
    refine v_iast K hG hS (show vp_in (nI k) a from vp_in_nI (by omega) (by omega)) dL_law_182 (fun H locs hG hS => ?_)
    rw [nI_clamp k31] at hG
    obtain ⟨f1, hf1⟩ : ∃ f1 : Nat → Int32, f1 = fun j => if j = k then f_X1_tell I 0 k 7 else f j := ⟨_, rfl⟩
    rw [← hf1] at hG
    have hf : ∀ w, w < k + 1 → f1 w = f_X1_tell I 0 w 7 := fun w hw => by
      rw [hf1]
      by_cases e : w = k
      · rw [e]; exact if_pos rfl
      · exact (if_neg e).trans (hf w (by omega))
    refine lv_iload hx hb dL_law_183 (lv_at hl 6 rfl) ?_
    refine lv_aload hx hb dL_law_185 (lv_at hl 7 rfl) ?_
    refine lv_iload hx hb dL_law_187 (lv_at hl 4 rfl) ?_
    refine v_iald K hG (x := (a1, a, f1)) List.mem_cons_self (show vp_in (nI k) a from vp_in_nI (by omega) (by omega)) dL_law_189 ?_
    rw [nI_clamp k31, show (a1, a, f1).2.2 k = f_X1_tell I 0 k 7 from hf k (Nat.lt_succ_self k)]
    refine lv_iadd hx hb dL_law_190 ?_
    rw [show ((((tS I 7 k)) + ((f_X1_tell I 0 k 7))) : Int32) = tS I 7 (k + 1) from rfl]
    refine lv_istore (lv' := [(11, .int (tS I 7 (k + 1))), (8, .int (tS I 6 (k + 1))), (7, .int (tS I 5 (k + 1))), (10, .int (tS I 2 (k + 1))), (9, .int (tS I 0 (k + 1))), (14, .int (nI k)), (12, .int (aS I k)), (13, .ref a1), (6, .int (nI lo)), (5, .int (nI a)), (4, .int xv), (3, .int (nI ti)), (2, .ref (D 0 0)), (1, .ref (gA E 2 10 0)), (0, .ref b)]) hx hb dL_law_191 hl (by decide) rfl (fun ls hl => ?_)
    refine lv_aload_n hx hb dL_law_193 rfl (lv_at hl 13 rfl) ?_
    refine lv_iload hx hb dL_law_194 (lv_at hl 5 rfl) ?_
    refine lv_iconst (v := 3) hx hb dL_law_196 (by decide) ?_
    obtain ⟨x0, xv0⟩ := zA_lad' (I := I) (x := 3) 3 ha (show k < a by omega) a6 rfl (by decide)
    refine v_kn hG (l_runVX (As := [.int (nI k), .int 3]) (rest := []) K hml ca_X4_lad q186 (m_X4_lad l E J I ((nI k)) 3 hw0 hfl) hG.1.1 hS rfl rfl hl.1 (Nat.le_of_ble_eq_true rfl) ⟨by decide, by decide⟩ dL_law_197 ⟨by show _ + 2 ≤ 600172; omega, by show _ + 6 * 2 ≤ 7300668; omega⟩) hS rfl x0 (fun H locs hG hS => ?_)
    rw [xv0]
    refine lv_istore (lv' := [(15, .int (f_X1_tell I 0 k 3)), (11, .int (tS I 7 (k + 1))), (8, .int (tS I 6 (k + 1))), (7, .int (tS I 5 (k + 1))), (10, .int (tS I 2 (k + 1))), (9, .int (tS I 0 (k + 1))), (14, .int (nI k)), (12, .int (aS I k)), (13, .ref a1), (6, .int (nI lo)), (5, .int (nI a)), (4, .int xv), (3, .int (nI ti)), (2, .ref (D 0 0)), (1, .ref (gA E 2 10 0)), (0, .ref b)]) hx hb dL_law_200 hl (by decide) rfl (fun ls hl => ?_)
    obtain ⟨d, c8, d3, c88, e3, e2, i4, i8⟩ := hLd k (by omega)
    rcases (show d = 0 ∨ d = 1 ∨ d = 2 ∨ d = 3 by omega) with rfl | rfl | rfl | rfl
    · rw [e3] at hl
      refine lv_iload hx hb dL_law_202 (lv_at hl 7 rfl) ?_
      refine lv_iload hx hb dL_law_204 (lv_at hl 0 rfl) ?_
      refine lv_iconst (v := 3) hx hb dL_law_206 (by decide) ?_
      refine lv_icmp_ne (tgt := 214) hx hb dL_law_207 (by decide) (fun _ => ?_) (fun h => absurd h (by decide))
      refine lv_iconst (v := 0) hx hb dL_law_214 (by decide) ?_
      refine lv_iadd hx hb dL_law_215 ?_
      rw [show ((((aS I k)) + 0) : Int32) = aS I (k + 1) from aS_0 (by rw [e3]; decide)]
      refine lv_istore (lv' := [(12, .int (aS I (k + 1))), (15, .int (nI 0)), (11, .int (tS I 7 (k + 1))), (8, .int (tS I 6 (k + 1))), (7, .int (tS I 5 (k + 1))), (10, .int (tS I 2 (k + 1))), (9, .int (tS I 0 (k + 1))), (14, .int (nI k)), (13, .ref a1), (6, .int (nI lo)), (5, .int (nI a)), (4, .int xv), (3, .int (nI ti)), (2, .ref (D 0 0)), (1, .ref (gA E 2 10 0)), (0, .ref b)]) hx hb dL_law_216 hl (by decide) rfl (fun ls hl => ?_)
      refine lv_iload hx hb dL_law_218 (lv_at hl 1 rfl) ?_
      refine lv_if_lt (tgt := 306) hx hb dL_law_220 (by decide) (fun h => absurd h (by decide)) (fun _ => ?_)
      refine lv_iload hx hb dL_law_223 (lv_at hl 1 rfl) ?_
      refine lv_iconst (v := 3) hx hb dL_law_225 (by decide) ?_
      refine lv_icmp_gt (tgt := 306) hx hb dL_law_226 (by decide) (fun h => absurd h (by decide)) (fun _ => ?_)
      refine lv_aload_n hx hb dL_law_229 rfl (lv_at hl 14 rfl) ?_
      refine lv_iload hx hb dL_law_230 (lv_at hl 7 rfl) ?_
      refine lv_iconst (v := 4) hx hb dL_law_232 (by decide) ?_
      obtain ⟨x0, xv0⟩ := zA_lad' (I := I) (x := 4) 4 ha (show k < a by omega) a6 rfl (by decide)
      refine v_kn hG (l_runVX (As := [.int (nI k), .int 4]) (rest := []) K hml ca_X4_lad q186 (m_X4_lad l E J I ((nI k)) 4 hw0 hfl) hG.1.1 hS rfl rfl hl.1 (Nat.le_of_ble_eq_true rfl) ⟨by decide, by decide⟩ dL_law_233 ⟨by show _ + 2 ≤ 600172; omega, by show _ + 6 * 2 ≤ 7300668; omega⟩) hS rfl x0 (fun H locs hG hS => ?_)
      rw [xv0]
      refine lv_if_le (tgt := 243) hx hb dL_law_236 (by decide) (fun _ => ?_) (fun h => absurd (i4.mp (Int32.not_le.mp h)) (by decide))
      refine lv_iconst (v := 0) hx hb dL_law_243 (by decide) ?_
      refine lv_iload hx hb dL_law_244 (lv_at hl 1 rfl) ?_
      refine lv_iconst (v := 1) hx hb dL_law_246 (by decide) ?_
      refine lv_icmp_ne (tgt := 254) hx hb dL_law_247 (by decide) (fun _ => ?_) (fun h => absurd h (by decide))
      refine lv_iconst (v := 0) hx hb dL_law_254 (by decide) ?_
      refine lv_icmp_ne (tgt := 306) hx hb dL_law_255 (by decide) (fun h => absurd rfl h) (fun _ => ?_)
      refine lv_aload_n hx hb dL_law_258 rfl (lv_at hl 14 rfl) ?_
      refine lv_iload hx hb dL_law_259 (lv_at hl 7 rfl) ?_
      refine lv_bipush (v := 8) hx hb dL_law_261 (by decide) ?_
      obtain ⟨x0, xv0⟩ := zA_lad' (I := I) (x := 8) 8 ha (show k < a by omega) a6 rfl (by decide)
      refine v_kn hG (l_runVX (As := [.int (nI k), .int 8]) (rest := []) K hml ca_X4_lad q186 (m_X4_lad l E J I ((nI k)) 8 hw0 hfl) hG.1.1 hS rfl rfl hl.1 (Nat.le_of_ble_eq_true rfl) ⟨by decide, by decide⟩ dL_law_263 ⟨by show _ + 2 ≤ 600172; omega, by show _ + 6 * 2 ≤ 7300668; omega⟩) hS rfl x0 (fun H locs hG hS => ?_)
      rw [xv0]
      refine lv_if_lt (tgt := 273) hx hb dL_law_266 (by decide) (fun _ => ?_) (fun h => absurd (i8.mp (Int32.not_lt.mp h)) (by decide))
      refine lv_iconst (v := 0) hx hb dL_law_273 (by decide) ?_
      refine lv_iload hx hb dL_law_274 (lv_at hl 1 rfl) ?_
      refine lv_iconst (v := 1) hx hb dL_law_276 (by decide) ?_
      refine lv_icmp_eq (tgt := 286) hx hb dL_law_277 (by decide) (fun h => absurd h (by decide)) (fun _ => ?_)
      refine lv_iload hx hb dL_law_280 (lv_at hl 1 rfl) ?_
      refine lv_iconst (v := 2) hx hb dL_law_282 (by decide) ?_
      refine lv_icmp_ne (tgt := 290) hx hb dL_law_283 (by decide) (fun _ => ?_) (fun h => absurd h (by decide))
      refine lv_iconst (v := 0) hx hb dL_law_290 (by decide) ?_
      refine lv_icmp_ne (tgt := 306) hx hb dL_law_291 (by decide) (fun h => absurd rfl h) (fun _ => ?_)
      refine lv_aload_n hx hb dL_law_294 rfl (lv_at hl 14 rfl) ?_
      refine lv_iload hx hb dL_law_295 (lv_at hl 7 rfl) ?_
      refine lv_iconst (v := 2) hx hb dL_law_297 (by decide) ?_
      obtain ⟨x0, xv0⟩ := zA_lad' (I := I) (x := 2) 2 ha (show k < a by omega) a6 rfl (by decide)
      refine v_kn hG (l_runVX (As := [.int (nI k), .int 2]) (rest := []) K hml ca_X4_lad q186 (m_X4_lad l E J I ((nI k)) 2 hw0 hfl) hG.1.1 hS rfl rfl hl.1 (Nat.le_of_ble_eq_true rfl) ⟨by decide, by decide⟩ dL_law_298 ⟨by show _ + 2 ≤ 600172; omega, by show _ + 6 * 2 ≤ 7300668; omega⟩) hS rfl x0 (fun H locs hG hS => ?_)
      rw [xv0]
      rw [e2]
      refine lv_bipush (v := 8) hx hb dL_law_301 (by decide) ?_
      refine lv_icmp_le (tgt := 308) hx hb dL_law_303 (by decide) (fun _ => ?_) (fun h => absurd (nI_le (b := 8) c88 (by decide)) h)
      exact j308 _ f1 H locs _ _ ls (by omega) (by omega) hf hG hS (lv_sub hl [1, 7, 0, 2, 5, 6, 3, 4, 8, 9, 10, 11, 12, 13, 14, 15] rfl)
    · rw [e3] at hl
      refine lv_iload hx hb dL_law_202 (lv_at hl 7 rfl) ?_
      refine lv_iload hx hb dL_law_204 (lv_at hl 0 rfl) ?_
      refine lv_iconst (v := 3) hx hb dL_law_206 (by decide) ?_
      refine lv_icmp_ne (tgt := 214) hx hb dL_law_207 (by decide) (fun _ => ?_) (fun h => absurd h (by decide))
      refine lv_iconst (v := 0) hx hb dL_law_214 (by decide) ?_
      refine lv_iadd hx hb dL_law_215 ?_
      rw [show ((((aS I k)) + 0) : Int32) = aS I (k + 1) from aS_0 (by rw [e3]; decide)]
      refine lv_istore (lv' := [(12, .int (aS I (k + 1))), (15, .int (nI 1)), (11, .int (tS I 7 (k + 1))), (8, .int (tS I 6 (k + 1))), (7, .int (tS I 5 (k + 1))), (10, .int (tS I 2 (k + 1))), (9, .int (tS I 0 (k + 1))), (14, .int (nI k)), (13, .ref a1), (6, .int (nI lo)), (5, .int (nI a)), (4, .int xv), (3, .int (nI ti)), (2, .ref (D 0 0)), (1, .ref (gA E 2 10 0)), (0, .ref b)]) hx hb dL_law_216 hl (by decide) rfl (fun ls hl => ?_)
      refine lv_iload hx hb dL_law_218 (lv_at hl 1 rfl) ?_
      refine lv_if_lt (tgt := 306) hx hb dL_law_220 (by decide) (fun h => absurd h (by decide)) (fun _ => ?_)
      refine lv_iload hx hb dL_law_223 (lv_at hl 1 rfl) ?_
      refine lv_iconst (v := 3) hx hb dL_law_225 (by decide) ?_
      refine lv_icmp_gt (tgt := 306) hx hb dL_law_226 (by decide) (fun h => absurd h (by decide)) (fun _ => ?_)
      refine lv_aload_n hx hb dL_law_229 rfl (lv_at hl 14 rfl) ?_
      refine lv_iload hx hb dL_law_230 (lv_at hl 7 rfl) ?_
      refine lv_iconst (v := 4) hx hb dL_law_232 (by decide) ?_
      obtain ⟨x0, xv0⟩ := zA_lad' (I := I) (x := 4) 4 ha (show k < a by omega) a6 rfl (by decide)
      refine v_kn hG (l_runVX (As := [.int (nI k), .int 4]) (rest := []) K hml ca_X4_lad q186 (m_X4_lad l E J I ((nI k)) 4 hw0 hfl) hG.1.1 hS rfl rfl hl.1 (Nat.le_of_ble_eq_true rfl) ⟨by decide, by decide⟩ dL_law_233 ⟨by show _ + 2 ≤ 600172; omega, by show _ + 6 * 2 ≤ 7300668; omega⟩) hS rfl x0 (fun H locs hG hS => ?_)
      rw [xv0]
      refine lv_if_le (tgt := 243) hx hb dL_law_236 (by decide) (fun h => absurd h (Int32.not_le.mpr (i4.mpr rfl))) (fun _ => ?_)
      refine lv_iconst (v := 1) hx hb dL_law_239 (by decide) ?_
      refine lv_goto (tgt := 244) hx hb dL_law_240 (by decide) ?_
      refine lv_iload hx hb dL_law_244 (lv_at hl 1 rfl) ?_
      refine lv_iconst (v := 1) hx hb dL_law_246 (by decide) ?_
      refine lv_icmp_ne (tgt := 254) hx hb dL_law_247 (by decide) (fun h => absurd (by decide) h) (fun _ => ?_)
      refine lv_iconst (v := 1) hx hb dL_law_250 (by decide) ?_
      refine lv_goto (tgt := 255) hx hb dL_law_251 (by decide) ?_
      refine lv_icmp_ne (tgt := 306) hx hb dL_law_255 (by decide) (fun h => absurd rfl h) (fun _ => ?_)
      refine lv_aload_n hx hb dL_law_258 rfl (lv_at hl 14 rfl) ?_
      refine lv_iload hx hb dL_law_259 (lv_at hl 7 rfl) ?_
      refine lv_bipush (v := 8) hx hb dL_law_261 (by decide) ?_
      obtain ⟨x0, xv0⟩ := zA_lad' (I := I) (x := 8) 8 ha (show k < a by omega) a6 rfl (by decide)
      refine v_kn hG (l_runVX (As := [.int (nI k), .int 8]) (rest := []) K hml ca_X4_lad q186 (m_X4_lad l E J I ((nI k)) 8 hw0 hfl) hG.1.1 hS rfl rfl hl.1 (Nat.le_of_ble_eq_true rfl) ⟨by decide, by decide⟩ dL_law_263 ⟨by show _ + 2 ≤ 600172; omega, by show _ + 6 * 2 ≤ 7300668; omega⟩) hS rfl x0 (fun H locs hG hS => ?_)
      rw [xv0]
      refine lv_if_lt (tgt := 273) hx hb dL_law_266 (by decide) (fun h => absurd (i8.mpr (by decide)) (Int32.not_le.mpr h)) (fun _ => ?_)
      refine lv_iconst (v := 1) hx hb dL_law_269 (by decide) ?_
      refine lv_goto (tgt := 274) hx hb dL_law_270 (by decide) ?_
      refine lv_iload hx hb dL_law_274 (lv_at hl 1 rfl) ?_
      refine lv_iconst (v := 1) hx hb dL_law_276 (by decide) ?_
      refine lv_icmp_eq (tgt := 286) hx hb dL_law_277 (by decide) (fun _ => ?_) (fun h => absurd (by decide) h)
      refine lv_iconst (v := 1) hx hb dL_law_286 (by decide) ?_
      refine lv_goto (tgt := 291) hx hb dL_law_287 (by decide) ?_
      refine lv_icmp_ne (tgt := 306) hx hb dL_law_291 (by decide) (fun h => absurd rfl h) (fun _ => ?_)
      refine lv_aload_n hx hb dL_law_294 rfl (lv_at hl 14 rfl) ?_
      refine lv_iload hx hb dL_law_295 (lv_at hl 7 rfl) ?_
      refine lv_iconst (v := 2) hx hb dL_law_297 (by decide) ?_
      obtain ⟨x0, xv0⟩ := zA_lad' (I := I) (x := 2) 2 ha (show k < a by omega) a6 rfl (by decide)
      refine v_kn hG (l_runVX (As := [.int (nI k), .int 2]) (rest := []) K hml ca_X4_lad q186 (m_X4_lad l E J I ((nI k)) 2 hw0 hfl) hG.1.1 hS rfl rfl hl.1 (Nat.le_of_ble_eq_true rfl) ⟨by decide, by decide⟩ dL_law_298 ⟨by show _ + 2 ≤ 600172; omega, by show _ + 6 * 2 ≤ 7300668; omega⟩) hS rfl x0 (fun H locs hG hS => ?_)
      rw [xv0]
      rw [e2]
      refine lv_bipush (v := 8) hx hb dL_law_301 (by decide) ?_
      refine lv_icmp_le (tgt := 308) hx hb dL_law_303 (by decide) (fun _ => ?_) (fun h => absurd (nI_le (b := 8) c88 (by decide)) h)
      exact j308 _ f1 H locs _ _ ls (by omega) (by omega) hf hG hS (lv_sub hl [1, 7, 0, 2, 5, 6, 3, 4, 8, 9, 10, 11, 12, 13, 14, 15] rfl)
    · rw [e3] at hl
      refine lv_iload hx hb dL_law_202 (lv_at hl 7 rfl) ?_
      refine lv_iload hx hb dL_law_204 (lv_at hl 0 rfl) ?_
      refine lv_iconst (v := 3) hx hb dL_law_206 (by decide) ?_
      refine lv_icmp_ne (tgt := 214) hx hb dL_law_207 (by decide) (fun _ => ?_) (fun h => absurd h (by decide))
      refine lv_iconst (v := 0) hx hb dL_law_214 (by decide) ?_
      refine lv_iadd hx hb dL_law_215 ?_
      rw [show ((((aS I k)) + 0) : Int32) = aS I (k + 1) from aS_0 (by rw [e3]; decide)]
      refine lv_istore (lv' := [(12, .int (aS I (k + 1))), (15, .int (nI 2)), (11, .int (tS I 7 (k + 1))), (8, .int (tS I 6 (k + 1))), (7, .int (tS I 5 (k + 1))), (10, .int (tS I 2 (k + 1))), (9, .int (tS I 0 (k + 1))), (14, .int (nI k)), (13, .ref a1), (6, .int (nI lo)), (5, .int (nI a)), (4, .int xv), (3, .int (nI ti)), (2, .ref (D 0 0)), (1, .ref (gA E 2 10 0)), (0, .ref b)]) hx hb dL_law_216 hl (by decide) rfl (fun ls hl => ?_)
      refine lv_iload hx hb dL_law_218 (lv_at hl 1 rfl) ?_
      refine lv_if_lt (tgt := 306) hx hb dL_law_220 (by decide) (fun h => absurd h (by decide)) (fun _ => ?_)
      refine lv_iload hx hb dL_law_223 (lv_at hl 1 rfl) ?_
      refine lv_iconst (v := 3) hx hb dL_law_225 (by decide) ?_
      refine lv_icmp_gt (tgt := 306) hx hb dL_law_226 (by decide) (fun h => absurd h (by decide)) (fun _ => ?_)
      refine lv_aload_n hx hb dL_law_229 rfl (lv_at hl 14 rfl) ?_
      refine lv_iload hx hb dL_law_230 (lv_at hl 7 rfl) ?_
      refine lv_iconst (v := 4) hx hb dL_law_232 (by decide) ?_
      obtain ⟨x0, xv0⟩ := zA_lad' (I := I) (x := 4) 4 ha (show k < a by omega) a6 rfl (by decide)
      refine v_kn hG (l_runVX (As := [.int (nI k), .int 4]) (rest := []) K hml ca_X4_lad q186 (m_X4_lad l E J I ((nI k)) 4 hw0 hfl) hG.1.1 hS rfl rfl hl.1 (Nat.le_of_ble_eq_true rfl) ⟨by decide, by decide⟩ dL_law_233 ⟨by show _ + 2 ≤ 600172; omega, by show _ + 6 * 2 ≤ 7300668; omega⟩) hS rfl x0 (fun H locs hG hS => ?_)
      rw [xv0]
      refine lv_if_le (tgt := 243) hx hb dL_law_236 (by decide) (fun _ => ?_) (fun h => absurd (i4.mp (Int32.not_le.mp h)) (by decide))
      refine lv_iconst (v := 0) hx hb dL_law_243 (by decide) ?_
      refine lv_iload hx hb dL_law_244 (lv_at hl 1 rfl) ?_
      refine lv_iconst (v := 1) hx hb dL_law_246 (by decide) ?_
      refine lv_icmp_ne (tgt := 254) hx hb dL_law_247 (by decide) (fun _ => ?_) (fun h => absurd h (by decide))
      refine lv_iconst (v := 0) hx hb dL_law_254 (by decide) ?_
      refine lv_icmp_ne (tgt := 306) hx hb dL_law_255 (by decide) (fun h => absurd rfl h) (fun _ => ?_)
      refine lv_aload_n hx hb dL_law_258 rfl (lv_at hl 14 rfl) ?_
      refine lv_iload hx hb dL_law_259 (lv_at hl 7 rfl) ?_
      refine lv_bipush (v := 8) hx hb dL_law_261 (by decide) ?_
      obtain ⟨x0, xv0⟩ := zA_lad' (I := I) (x := 8) 8 ha (show k < a by omega) a6 rfl (by decide)
      refine v_kn hG (l_runVX (As := [.int (nI k), .int 8]) (rest := []) K hml ca_X4_lad q186 (m_X4_lad l E J I ((nI k)) 8 hw0 hfl) hG.1.1 hS rfl rfl hl.1 (Nat.le_of_ble_eq_true rfl) ⟨by decide, by decide⟩ dL_law_263 ⟨by show _ + 2 ≤ 600172; omega, by show _ + 6 * 2 ≤ 7300668; omega⟩) hS rfl x0 (fun H locs hG hS => ?_)
      rw [xv0]
      refine lv_if_lt (tgt := 273) hx hb dL_law_266 (by decide) (fun h => absurd (i8.mpr (by decide)) (Int32.not_le.mpr h)) (fun _ => ?_)
      refine lv_iconst (v := 1) hx hb dL_law_269 (by decide) ?_
      refine lv_goto (tgt := 274) hx hb dL_law_270 (by decide) ?_
      refine lv_iload hx hb dL_law_274 (lv_at hl 1 rfl) ?_
      refine lv_iconst (v := 1) hx hb dL_law_276 (by decide) ?_
      refine lv_icmp_eq (tgt := 286) hx hb dL_law_277 (by decide) (fun h => absurd h (by decide)) (fun _ => ?_)
      refine lv_iload hx hb dL_law_280 (lv_at hl 1 rfl) ?_
      refine lv_iconst (v := 2) hx hb dL_law_282 (by decide) ?_
      refine lv_icmp_ne (tgt := 290) hx hb dL_law_283 (by decide) (fun h => absurd (by decide) h) (fun _ => ?_)
      refine lv_iconst (v := 1) hx hb dL_law_286 (by decide) ?_
      refine lv_goto (tgt := 291) hx hb dL_law_287 (by decide) ?_
      refine lv_icmp_ne (tgt := 306) hx hb dL_law_291 (by decide) (fun h => absurd rfl h) (fun _ => ?_)
      refine lv_aload_n hx hb dL_law_294 rfl (lv_at hl 14 rfl) ?_
      refine lv_iload hx hb dL_law_295 (lv_at hl 7 rfl) ?_
      refine lv_iconst (v := 2) hx hb dL_law_297 (by decide) ?_
      obtain ⟨x0, xv0⟩ := zA_lad' (I := I) (x := 2) 2 ha (show k < a by omega) a6 rfl (by decide)
      refine v_kn hG (l_runVX (As := [.int (nI k), .int 2]) (rest := []) K hml ca_X4_lad q186 (m_X4_lad l E J I ((nI k)) 2 hw0 hfl) hG.1.1 hS rfl rfl hl.1 (Nat.le_of_ble_eq_true rfl) ⟨by decide, by decide⟩ dL_law_298 ⟨by show _ + 2 ≤ 600172; omega, by show _ + 6 * 2 ≤ 7300668; omega⟩) hS rfl x0 (fun H locs hG hS => ?_)
      rw [xv0]
      rw [e2]
      refine lv_bipush (v := 8) hx hb dL_law_301 (by decide) ?_
      refine lv_icmp_le (tgt := 308) hx hb dL_law_303 (by decide) (fun _ => ?_) (fun h => absurd (nI_le (b := 8) c88 (by decide)) h)
      exact j308 _ f1 H locs _ _ ls (by omega) (by omega) hf hG hS (lv_sub hl [1, 7, 0, 2, 5, 6, 3, 4, 8, 9, 10, 11, 12, 13, 14, 15] rfl)
    · rw [e3] at hl
      refine lv_iload hx hb dL_law_202 (lv_at hl 7 rfl) ?_
      refine lv_iload hx hb dL_law_204 (lv_at hl 0 rfl) ?_
      refine lv_iconst (v := 3) hx hb dL_law_206 (by decide) ?_
      refine lv_icmp_ne (tgt := 214) hx hb dL_law_207 (by decide) (fun h => absurd (by decide) h) (fun _ => ?_)
      refine lv_iconst (v := 1) hx hb dL_law_210 (by decide) ?_
      refine lv_goto (tgt := 215) hx hb dL_law_211 (by decide) ?_
      refine lv_iadd hx hb dL_law_215 ?_
      rw [show ((((aS I k)) + 1) : Int32) = aS I (k + 1) from aS_1 (by rw [e3]; rfl)]
      refine lv_istore (lv' := [(12, .int (aS I (k + 1))), (15, .int (nI 3)), (11, .int (tS I 7 (k + 1))), (8, .int (tS I 6 (k + 1))), (7, .int (tS I 5 (k + 1))), (10, .int (tS I 2 (k + 1))), (9, .int (tS I 0 (k + 1))), (14, .int (nI k)), (13, .ref a1), (6, .int (nI lo)), (5, .int (nI a)), (4, .int xv), (3, .int (nI ti)), (2, .ref (D 0 0)), (1, .ref (gA E 2 10 0)), (0, .ref b)]) hx hb dL_law_216 hl (by decide) rfl (fun ls hl => ?_)
      refine lv_iload hx hb dL_law_218 (lv_at hl 1 rfl) ?_
      refine lv_if_lt (tgt := 306) hx hb dL_law_220 (by decide) (fun h => absurd h (by decide)) (fun _ => ?_)
      refine lv_iload hx hb dL_law_223 (lv_at hl 1 rfl) ?_
      refine lv_iconst (v := 3) hx hb dL_law_225 (by decide) ?_
      refine lv_icmp_gt (tgt := 306) hx hb dL_law_226 (by decide) (fun h => absurd h (by decide)) (fun _ => ?_)
      refine lv_aload_n hx hb dL_law_229 rfl (lv_at hl 14 rfl) ?_
      refine lv_iload hx hb dL_law_230 (lv_at hl 7 rfl) ?_
      refine lv_iconst (v := 4) hx hb dL_law_232 (by decide) ?_
      obtain ⟨x0, xv0⟩ := zA_lad' (I := I) (x := 4) 4 ha (show k < a by omega) a6 rfl (by decide)
      refine v_kn hG (l_runVX (As := [.int (nI k), .int 4]) (rest := []) K hml ca_X4_lad q186 (m_X4_lad l E J I ((nI k)) 4 hw0 hfl) hG.1.1 hS rfl rfl hl.1 (Nat.le_of_ble_eq_true rfl) ⟨by decide, by decide⟩ dL_law_233 ⟨by show _ + 2 ≤ 600172; omega, by show _ + 6 * 2 ≤ 7300668; omega⟩) hS rfl x0 (fun H locs hG hS => ?_)
      rw [xv0]
      refine lv_if_le (tgt := 243) hx hb dL_law_236 (by decide) (fun _ => ?_) (fun h => absurd (i4.mp (Int32.not_le.mp h)) (by decide))
      refine lv_iconst (v := 0) hx hb dL_law_243 (by decide) ?_
      refine lv_iload hx hb dL_law_244 (lv_at hl 1 rfl) ?_
      refine lv_iconst (v := 1) hx hb dL_law_246 (by decide) ?_
      refine lv_icmp_ne (tgt := 254) hx hb dL_law_247 (by decide) (fun _ => ?_) (fun h => absurd h (by decide))
      refine lv_iconst (v := 0) hx hb dL_law_254 (by decide) ?_
      refine lv_icmp_ne (tgt := 306) hx hb dL_law_255 (by decide) (fun h => absurd rfl h) (fun _ => ?_)
      refine lv_aload_n hx hb dL_law_258 rfl (lv_at hl 14 rfl) ?_
      refine lv_iload hx hb dL_law_259 (lv_at hl 7 rfl) ?_
      refine lv_bipush (v := 8) hx hb dL_law_261 (by decide) ?_
      obtain ⟨x0, xv0⟩ := zA_lad' (I := I) (x := 8) 8 ha (show k < a by omega) a6 rfl (by decide)
      refine v_kn hG (l_runVX (As := [.int (nI k), .int 8]) (rest := []) K hml ca_X4_lad q186 (m_X4_lad l E J I ((nI k)) 8 hw0 hfl) hG.1.1 hS rfl rfl hl.1 (Nat.le_of_ble_eq_true rfl) ⟨by decide, by decide⟩ dL_law_263 ⟨by show _ + 2 ≤ 600172; omega, by show _ + 6 * 2 ≤ 7300668; omega⟩) hS rfl x0 (fun H locs hG hS => ?_)
      rw [xv0]
      refine lv_if_lt (tgt := 273) hx hb dL_law_266 (by decide) (fun _ => ?_) (fun h => absurd (i8.mp (Int32.not_lt.mp h)) (by decide))
      refine lv_iconst (v := 0) hx hb dL_law_273 (by decide) ?_
      refine lv_iload hx hb dL_law_274 (lv_at hl 1 rfl) ?_
      refine lv_iconst (v := 1) hx hb dL_law_276 (by decide) ?_
      refine lv_icmp_eq (tgt := 286) hx hb dL_law_277 (by decide) (fun h => absurd h (by decide)) (fun _ => ?_)
      refine lv_iload hx hb dL_law_280 (lv_at hl 1 rfl) ?_
      refine lv_iconst (v := 2) hx hb dL_law_282 (by decide) ?_
      refine lv_icmp_ne (tgt := 290) hx hb dL_law_283 (by decide) (fun _ => ?_) (fun h => absurd h (by decide))
      refine lv_iconst (v := 0) hx hb dL_law_290 (by decide) ?_
      refine lv_icmp_ne (tgt := 306) hx hb dL_law_291 (by decide) (fun h => absurd rfl h) (fun _ => ?_)
      refine lv_aload_n hx hb dL_law_294 rfl (lv_at hl 14 rfl) ?_
      refine lv_iload hx hb dL_law_295 (lv_at hl 7 rfl) ?_
      refine lv_iconst (v := 2) hx hb dL_law_297 (by decide) ?_
      obtain ⟨x0, xv0⟩ := zA_lad' (I := I) (x := 2) 2 ha (show k < a by omega) a6 rfl (by decide)
      refine v_kn hG (l_runVX (As := [.int (nI k), .int 2]) (rest := []) K hml ca_X4_lad q186 (m_X4_lad l E J I ((nI k)) 2 hw0 hfl) hG.1.1 hS rfl rfl hl.1 (Nat.le_of_ble_eq_true rfl) ⟨by decide, by decide⟩ dL_law_298 ⟨by show _ + 2 ≤ 600172; omega, by show _ + 6 * 2 ≤ 7300668; omega⟩) hS rfl x0 (fun H locs hG hS => ?_)
      rw [xv0]
      rw [e2]
      refine lv_bipush (v := 8) hx hb dL_law_301 (by decide) ?_
      refine lv_icmp_le (tgt := 308) hx hb dL_law_303 (by decide) (fun _ => ?_) (fun h => absurd (nI_le (b := 8) c88 (by decide)) h)
      exact j308 _ f1 H locs _ _ ls (by omega) (by omega) hf hG hS (lv_sub hl [1, 7, 0, 2, 5, 6, 3, 4, 8, 9, 10, 11, 12, 13, 14, 15] rfl)
end LG
