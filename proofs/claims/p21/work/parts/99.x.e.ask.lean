/-! PRINTED by wip/gen21/law4.py: the law asks what would be -/
section LG
variable {p : Program} {l : Launch} {e : Env} {s : State} {m : MethodId} {below : List Frame} {meth : Method} {c : Code} {Q : State → Prop}
variable {E : gE} {F : Nat → Prop} {J : Int64} {D : sD} {I : gI} {a lo b L a1 ti CB SB : Nat} {xs : Nat → Int32} {xv : Int32}
theorem lcmp_eq {x y : Int64} (h : x = y) : lg_cmp x y = 0 := by
  subst h
  unfold lg_cmp
  rw [if_neg (by simp), if_pos rfl]
theorem jU0 {n L x : Nat} {I : gI} (hj : jR n L I) (hlo : I 0 0 0 5 = nI lo) (l10 : lo ≤ 10) (hx : x < lo) : zU x (I 2 11 0 7) 300 0 I = 0 ↔ f_X2_tell I 0 x 1 = 2 := by
  obtain ⟨K, A, t, hR, hK, h3, h4, h5, -⟩ := hj
  have h1 := hR.2.2.2.k1
  have eb : A 0 0 1 = lo := by
    have := hR.1.k2
    rw [hlo] at this
    exact ((nI_eq (by omega) (by omega)).mp this).symm
  have e : f_X2_tell I 0 x 1 = I 3 33 0 x := by rw [d1, hR.1.k14 x (by omega), hR.2.1.k12 x (by omega)]
  rw [e]
  exact zU_0 (by decide)
set_option maxHeartbeats 4000000 in
set_option maxRecDepth 100000 in
theorem lg_ask (X : gX p l s m meth c E b L xs) {n : Nat} {f1 : Nat → Int32} (hF : ∀ q, F q → gN E ≤ q) (hj : jR n 0 I) (hC : jC a lo I) (hCB : CB ≤ 600172) (hSB : SB ≤ 7300668)
    (kk : ∀ (I' : gI) (a2 : Nat) (f2 : Nat → Int32) (ld ut : Int32) (H : Heap) (locs : List Loc) (cells slots : Nat) (ls : Array Slot), cells ≤ CB → slots ≤ SB → jM I I' → (∀ w, 3 ≤ w → w < 12 → f2 w = cW I w) → ((ld = -1 ∧ ut = -1) ∨ ∃ x, x < lo ∧ ld = nI x ∧ ut = zU x (I 2 11 0 7) 300 0 I) → LV E (fun q => F q ∧ q ≠ a2) J D I' [(a2, 12, f2), (a1, a, f1)] H → va_S (gH E) s.heap H locs → lv_has ls 27 [(23, .int ut), (22, .int ld), (21, .ref a2), (18, .int (lE I 0 lo)), (17, .int (lE I 2 lo)), (16, .int (lS I 6 lo)), (15, .int (lS I 3 lo)), (14, .int (lS I 2 lo)), (12, .int (aS I a)), (11, .int (tS I 7 a)), (10, .int (tS I 2 a)), (9, .int (tS I 0 a)), (8, .int (tS I 6 a)), (7, .int (tS I 5 a)), (13, .ref a1), (6, .int (nI lo)), (5, .int (nI a)), (4, .int xv), (3, .int (nI ti)), (2, .ref (D 0 0)), (1, .ref (gA E 2 10 0)), (0, .ref b)] → W p l e room_1 s m #[Value.ref b] below meth c H locs (cells) (slots) Q (F0 m 969 ls [])) :
    ∀ (H : Heap) (locs : List Loc) (cells slots : Nat) (ls : Array Slot), cells + 23 ≤ CB → slots + 144 ≤ SB → LV E F J D I [(a1, a, f1)] H → va_S (gH E) s.heap H locs → lv_has ls 27 [(18, .int (lE I 0 lo)), (17, .int (lE I 2 lo)), (16, .int (lS I 6 lo)), (15, .int (lS I 3 lo)), (14, .int (lS I 2 lo)), (12, .int (aS I a)), (11, .int (tS I 7 a)), (10, .int (tS I 2 a)), (9, .int (tS I 0 a)), (8, .int (tS I 6 a)), (7, .int (tS I 5 a)), (13, .ref a1), (6, .int (nI lo)), (5, .int (nI a)), (4, .int xv), (3, .int (nI ti)), (2, .ref (D 0 0)), (1, .ref (gA E 2 10 0)), (0, .ref b)] → W p l e room_1 s m #[Value.ref b] below meth c H locs (cells) (slots) Q (F0 m 783 ls []) := by
  obtain ⟨K, hAO, hml, hr, hlocks, hfl, hX, hbl, hbE, hL⟩ := id X
  have hx := K.1
  have hb := K.2.1
  have hts := K.2.2.1
  have hown := K.2.2.2.1
  obtain ⟨⟨a6, l10, ha0, hlo0⟩, -⟩ := hC
  have hw0 := hj.w0
  intro H locs cells slots ls hc hs hG hS hl
  refine lv_aload_n hx hb dL_law_783 rfl (lv_at hl 17 rfl) ?_
  refine v_kl hG (l_runV (As := []) (rest := []) K hml ca_X4_digest q497 (m_X4_digest l E J I hw0) hG.1.1 hS rfl rfl hl.1 (Nat.le_of_ble_eq_true rfl) ⟨by decide, by decide⟩ dL_law_784 ⟨by show _ ≤ 600172; omega, by show _ ≤ 7300668; omega⟩) hS rfl (fun H locs hG hS => ?_)
  refine lv_lstore (lv' := [(19, .long (f_X4_digest I)), (18, .int (lE I 0 lo)), (17, .int (lE I 2 lo)), (16, .int (lS I 6 lo)), (15, .int (lS I 3 lo)), (14, .int (lS I 2 lo)), (12, .int (aS I a)), (11, .int (tS I 7 a)), (10, .int (tS I 2 a)), (9, .int (tS I 0 a)), (8, .int (tS I 6 a)), (7, .int (tS I 5 a)), (13, .ref a1), (6, .int (nI lo)), (5, .int (nI a)), (4, .int xv), (3, .int (nI ti)), (2, .ref (D 0 0)), (1, .ref (gA E 2 10 0)), (0, .ref b)]) hx hb dL_law_787 hl (by decide) rfl (fun ls hl => ?_)
  refine lv_bipush (v := 12) hx hb dL_law_789 (by decide) ?_
  refine v_newi K hF hG hS (N := 12) rfl (by decide) (by show _ + 1 ≤ 600172; omega) (by show _ + 12 ≤ 7300668; omega) dL_law_791 (fun a2 H hG hS => ?_)
  refine lv_astore (lv' := [(21, .ref a2), (19, .long (f_X4_digest I)), (18, .int (lE I 0 lo)), (17, .int (lE I 2 lo)), (16, .int (lS I 6 lo)), (15, .int (lS I 3 lo)), (14, .int (lS I 2 lo)), (12, .int (aS I a)), (11, .int (tS I 7 a)), (10, .int (tS I 2 a)), (9, .int (tS I 0 a)), (8, .int (tS I 6 a)), (7, .int (tS I 5 a)), (13, .ref a1), (6, .int (nI lo)), (5, .int (nI a)), (4, .int xv), (3, .int (nI ti)), (2, .ref (D 0 0)), (1, .ref (gA E 2 10 0)), (0, .ref b)]) hx hb dL_law_793 hl (by decide) rfl (fun ls hl => ?_)
  have hF2 : ∀ q, F q ∧ q ≠ a2 → gN E ≤ q := fun q h => hF q h.1
  have j933 : ∀ (I' : gI) (f2 : Nat → Int32) (ld ut bt : Int32) (H : Heap) (locs : List Loc) (cells1 slots1 : Nat) (ls : Array Slot), cells1 ≤ cells + 21 → slots1 ≤ slots + 132 → jM I I' → (∀ w, 3 ≤ w → w < 12 → f2 w = cW I w) → ((ld = -1 ∧ ut = -1) ∨ ∃ x, x < lo ∧ ld = nI x ∧ ut = zU x (I 2 11 0 7) 300 0 I) → LV E (fun q => F q ∧ q ≠ a2) J D I' [(a2, 12, f2), (a1, a, f1)] H → va_S (gH E) s.heap H locs → lv_has ls 27 [(24, .int bt), (23, .int ut), (22, .int ld), (21, .ref a2), (19, .long (f_X4_digest I)), (18, .int (lE I 0 lo)), (17, .int (lE I 2 lo)), (16, .int (lS I 6 lo)), (15, .int (lS I 3 lo)), (14, .int (lS I 2 lo)), (12, .int (aS I a)), (11, .int (tS I 7 a)), (10, .int (tS I 2 a)), (9, .int (tS I 0 a)), (8, .int (tS I 6 a)), (7, .int (tS I 5 a)), (13, .ref a1), (6, .int (nI lo)), (5, .int (nI a)), (4, .int xv), (3, .int (nI ti)), (2, .ref (D 0 0)), (1, .ref (gA E 2 10 0)), (0, .ref b)] → W p l e room_1 s m #[Value.ref b] below meth c H locs (cells1) (slots1) Q (F0 m 933 ls []) := by
    intro I' f2 ld ut bt H locs cells1 slots1 ls h1 h2 hm hf2 hfact hG hS hl
    have hfact2 := hfact
    rcases hfact2 with ⟨e22, e23⟩ | ⟨x, hxl, e22, e23⟩
    · refine lv_iload hx hb dL_law_933 (lv_at hl 2 rfl) ?_
      refine lv_if_lt (tgt := 969) hx hb dL_law_935 (by decide) (fun _ => ?_) (fun h => absurd (by rw [e22]; decide) h)
      exact kk I' a2 f2 ld ut H locs _ _ ls (by omega) (by omega) hm hf2 hfact hG hS (lv_sub hl [1, 2, 3, 5, 6, 7, 8, 9, 10, 11, 12, 13, 14, 15, 16, 17, 18, 19, 20, 21, 22, 23] rfl)
    · refine lv_iload hx hb dL_law_933 (lv_at hl 2 rfl) ?_
      refine lv_if_lt (tgt := 969) hx hb dL_law_935 (by decide) (fun h => absurd h (by rw [e22]; exact nI_pos (by omega))) (fun _ => ?_)
      refine lv_iload hx hb dL_law_938 (lv_at hl 1 rfl) ?_
      have hz := jU0 hj hlo0 l10 hxl
      have m0 := hm.1
      have hlo : I' 0 0 0 5 = nI lo := by rw [m0]; exact hlo0
      have hw0 : wf (I' 0) := by rw [m0]; exact hw0
      rw [e22] at hl
      refine lv_if_ne (tgt := 947) hx hb dL_law_940 (by decide) (fun h3 => ?_) (fun h3 => ?_)
      · refine lv_iconst (v := 0) hx hb dL_law_947 (by decide) ?_
        refine lv_aload_n hx hb dL_law_948 rfl (lv_at hl 22 rfl) ?_
        refine lv_iload hx hb dL_law_949 (lv_at hl 2 rfl) ?_
        refine lv_iconst (v := 1) hx hb dL_law_951 (by decide) ?_
        obtain ⟨x0, xv0⟩ := zA_load' (I := I') (x := 1) 1 hlo (show x < lo from hxl) l10 rfl (by decide)
        refine v_kn hG (l_runVX (As := [.int (nI x), .int 1]) (rest := [.int 0]) K hml ca_X4_load q275 (m_X4_load l E J I' ((nI x)) 1 hw0 hfl) hG.1.1 hS rfl rfl hl.1 (Nat.le_of_ble_eq_true rfl) ⟨by decide, by decide⟩ dL_law_952 ⟨by show _ + 2 ≤ 600172; omega, by show _ + 6 * 2 ≤ 7300668; omega⟩) hS rfl x0 (fun H locs hG hS => ?_)
        rw [xv0]
        rw [zy_X2 m0]
        refine lv_iconst (v := 2) hx hb dL_law_955 (by decide) ?_
        refine lv_icmp_ne (tgt := 963) hx hb dL_law_956 (by decide) (fun _ => ?_) (fun h => absurd ((e23.trans (hz.mpr h)) : ut = 0) h3)
        refine lv_iconst (v := 0) hx hb dL_law_963 (by decide) ?_
        refine lv_icmp_eq (tgt := 969) hx hb dL_law_964 (by decide) (fun _ => ?_) (fun h => absurd rfl h)
        rw [← e22] at hl
        exact kk I' a2 f2 ld ut H locs _ _ ls (by omega) (by omega) hm hf2 hfact hG hS (lv_sub hl [1, 2, 3, 5, 6, 7, 8, 9, 10, 11, 12, 13, 14, 15, 16, 17, 18, 19, 20, 21, 22, 23] rfl)
      · refine lv_iconst (v := 1) hx hb dL_law_943 (by decide) ?_
        refine lv_goto (tgt := 948) hx hb dL_law_944 (by decide) ?_
        refine lv_aload_n hx hb dL_law_948 rfl (lv_at hl 22 rfl) ?_
        refine lv_iload hx hb dL_law_949 (lv_at hl 2 rfl) ?_
        refine lv_iconst (v := 1) hx hb dL_law_951 (by decide) ?_
        obtain ⟨x0, xv0⟩ := zA_load' (I := I') (x := 1) 1 hlo (show x < lo from hxl) l10 rfl (by decide)
        refine v_kn hG (l_runVX (As := [.int (nI x), .int 1]) (rest := [.int 1]) K hml ca_X4_load q275 (m_X4_load l E J I' ((nI x)) 1 hw0 hfl) hG.1.1 hS rfl rfl hl.1 (Nat.le_of_ble_eq_true rfl) ⟨by decide, by decide⟩ dL_law_952 ⟨by show _ + 2 ≤ 600172; omega, by show _ + 6 * 2 ≤ 7300668; omega⟩) hS rfl x0 (fun H locs hG hS => ?_)
        rw [xv0]
        rw [zy_X2 m0]
        refine lv_iconst (v := 2) hx hb dL_law_955 (by decide) ?_
        refine lv_icmp_ne (tgt := 963) hx hb dL_law_956 (by decide) (fun h => absurd (hz.mp (by rw [← e23]; exact h3)) h) (fun _ => ?_)
        refine lv_iconst (v := 1) hx hb dL_law_959 (by decide) ?_
        refine lv_goto (tgt := 964) hx hb dL_law_960 (by decide) ?_
        refine lv_icmp_eq (tgt := 969) hx hb dL_law_964 (by decide) (fun _ => ?_) (fun h => absurd rfl h)
        rw [← e22] at hl
        exact kk I' a2 f2 ld ut H locs _ _ ls (by omega) (by omega) hm hf2 hfact hG hS (lv_sub hl [1, 2, 3, 5, 6, 7, 8, 9, 10, 11, 12, 13, 14, 15, 16, 17, 18, 19, 20, 21, 22, 23] rfl)
  have j887 : ∀ (I' : gI) (f2 : Nat → Int32) (ld ut bt : Int32) (H : Heap) (locs : List Loc) (cells1 slots1 : Nat) (ls : Array Slot), cells1 ≤ cells + 21 → slots1 ≤ slots + 132 → jM I I' → (∀ w, 3 ≤ w → w < 12 → f2 w = cW I w) → ((ld = -1 ∧ ut = -1) ∨ ∃ x, x < lo ∧ ld = nI x ∧ ut = zU x (I 2 11 0 7) 300 0 I) → (∃ j, j < 5 ∧ bt = gsz j) → LV E (fun q => F q ∧ q ≠ a2) J D I' [(a2, 12, f2), (a1, a, f1)] H → va_S (gH E) s.heap H locs → lv_has ls 27 [(23, .int ut), (22, .int ld), (21, .ref a2), (19, .long (f_X4_digest I)), (18, .int (lE I 0 lo)), (17, .int (lE I 2 lo)), (16, .int (lS I 6 lo)), (15, .int (lS I 3 lo)), (14, .int (lS I 2 lo)), (12, .int (aS I a)), (11, .int (tS I 7 a)), (10, .int (tS I 2 a)), (9, .int (tS I 0 a)), (8, .int (tS I 6 a)), (7, .int (tS I 5 a)), (13, .ref a1), (6, .int (nI lo)), (5, .int (nI a)), (4, .int xv), (3, .int (nI ti)), (2, .ref (D 0 0)), (1, .ref (gA E 2 10 0)), (0, .ref b)] → W p l e room_1 s m #[Value.ref b] below meth c H locs (cells1) (slots1) Q (F0 m 887 ls [.int bt]) := by
    intro I' f2 ld ut bt H locs cells1 slots1 ls h1 h2 hm hf2 hfact hbt hG hS hl
    have hw1 : wf (I' 0) := (hm.jr hj).w0
    refine lv_istore (lv' := [(24, .int bt), (23, .int ut), (22, .int ld), (21, .ref a2), (19, .long (f_X4_digest I)), (18, .int (lE I 0 lo)), (17, .int (lE I 2 lo)), (16, .int (lS I 6 lo)), (15, .int (lS I 3 lo)), (14, .int (lS I 2 lo)), (12, .int (aS I a)), (11, .int (tS I 7 a)), (10, .int (tS I 2 a)), (9, .int (tS I 0 a)), (8, .int (tS I 6 a)), (7, .int (tS I 5 a)), (13, .ref a1), (6, .int (nI lo)), (5, .int (nI a)), (4, .int xv), (3, .int (nI ti)), (2, .ref (D 0 0)), (1, .ref (gA E 2 10 0)), (0, .ref b)]) hx hb dL_law_887 hl (by decide) rfl (fun ls hl => ?_)
    refine lv_aload_n hx hb dL_law_889 rfl (lv_at hl 22 rfl) ?_
    refine v_kl hG (l_runV (As := []) (rest := []) K hml ca_X4_digest q497 (m_X4_digest l E J I' hw1) hG.1.1 hS rfl rfl hl.1 (Nat.le_of_ble_eq_true rfl) ⟨by decide, by decide⟩ dL_law_890 ⟨by show _ ≤ 600172; omega, by show _ ≤ 7300668; omega⟩) hS rfl (fun H locs hG hS => ?_)
    refine lv_lload hx hb dL_law_893 (lv_at hl 4 rfl) ?_
    refine W.lcmp hx hb dL_law_895 ?_
    rw [lcmp_eq (zy_digest hm.1)]
    refine lv_if_ne (tgt := 967) hx hb dL_law_896 (by decide) (fun h => absurd rfl h) (fun _ => ?_)
    obtain ⟨j, hj5, rfl⟩ := hbt
    rcases (show j = 0 ∨ j = 1 ∨ j = 2 ∨ j = 3 ∨ j = 4 by omega) with rfl | rfl | rfl | rfl | rfl
    · refine lv_iload hx hb dL_law_899 (lv_at hl 0 rfl) ?_
      refine lv_iconst (v := 4) hx hb dL_law_901 (by decide) ?_
      refine lv_icmp_eq (tgt := 933) hx hb dL_law_902 (by decide) (fun _ => ?_) (fun h => absurd (by decide) h)
      exact j933 I' f2 ld ut _ H locs _ _ ls (by omega) (by omega) hm hf2 hfact hG hS hl
    · refine lv_iload hx hb dL_law_899 (lv_at hl 0 rfl) ?_
      refine lv_iconst (v := 4) hx hb dL_law_901 (by decide) ?_
      refine lv_icmp_eq (tgt := 933) hx hb dL_law_902 (by decide) (fun h => absurd h (by decide)) (fun _ => ?_)
      refine lv_iload hx hb dL_law_905 (lv_at hl 0 rfl) ?_
      refine lv_bipush (v := 8) hx hb dL_law_907 (by decide) ?_
      refine lv_icmp_eq (tgt := 933) hx hb dL_law_909 (by decide) (fun _ => ?_) (fun h => absurd (by decide) h)
      exact j933 I' f2 ld ut _ H locs _ _ ls (by omega) (by omega) hm hf2 hfact hG hS hl
    · refine lv_iload hx hb dL_law_899 (lv_at hl 0 rfl) ?_
      refine lv_iconst (v := 4) hx hb dL_law_901 (by decide) ?_
      refine lv_icmp_eq (tgt := 933) hx hb dL_law_902 (by decide) (fun h => absurd h (by decide)) (fun _ => ?_)
      refine lv_iload hx hb dL_law_905 (lv_at hl 0 rfl) ?_
      refine lv_bipush (v := 8) hx hb dL_law_907 (by decide) ?_
      refine lv_icmp_eq (tgt := 933) hx hb dL_law_909 (by decide) (fun h => absurd h (by decide)) (fun _ => ?_)
      refine lv_iload hx hb dL_law_912 (lv_at hl 0 rfl) ?_
      refine lv_bipush (v := 16) hx hb dL_law_914 (by decide) ?_
      refine lv_icmp_eq (tgt := 933) hx hb dL_law_916 (by decide) (fun _ => ?_) (fun h => absurd (by decide) h)
      exact j933 I' f2 ld ut _ H locs _ _ ls (by omega) (by omega) hm hf2 hfact hG hS hl
    · refine lv_iload hx hb dL_law_899 (lv_at hl 0 rfl) ?_
      refine lv_iconst (v := 4) hx hb dL_law_901 (by decide) ?_
      refine lv_icmp_eq (tgt := 933) hx hb dL_law_902 (by decide) (fun h => absurd h (by decide)) (fun _ => ?_)
      refine lv_iload hx hb dL_law_905 (lv_at hl 0 rfl) ?_
      refine lv_bipush (v := 8) hx hb dL_law_907 (by decide) ?_
      refine lv_icmp_eq (tgt := 933) hx hb dL_law_909 (by decide) (fun h => absurd h (by decide)) (fun _ => ?_)
      refine lv_iload hx hb dL_law_912 (lv_at hl 0 rfl) ?_
      refine lv_bipush (v := 16) hx hb dL_law_914 (by decide) ?_
      refine lv_icmp_eq (tgt := 933) hx hb dL_law_916 (by decide) (fun h => absurd h (by decide)) (fun _ => ?_)
      refine lv_iload hx hb dL_law_919 (lv_at hl 0 rfl) ?_
      refine lv_bipush (v := 32) hx hb dL_law_921 (by decide) ?_
      refine lv_icmp_eq (tgt := 933) hx hb dL_law_923 (by decide) (fun _ => ?_) (fun h => absurd (by decide) h)
      exact j933 I' f2 ld ut _ H locs _ _ ls (by omega) (by omega) hm hf2 hfact hG hS hl
    · refine lv_iload hx hb dL_law_899 (lv_at hl 0 rfl) ?_
      refine lv_iconst (v := 4) hx hb dL_law_901 (by decide) ?_
      refine lv_icmp_eq (tgt := 933) hx hb dL_law_902 (by decide) (fun h => absurd h (by decide)) (fun _ => ?_)
      refine lv_iload hx hb dL_law_905 (lv_at hl 0 rfl) ?_
      refine lv_bipush (v := 8) hx hb dL_law_907 (by decide) ?_
      refine lv_icmp_eq (tgt := 933) hx hb dL_law_909 (by decide) (fun h => absurd h (by decide)) (fun _ => ?_)
      refine lv_iload hx hb dL_law_912 (lv_at hl 0 rfl) ?_
      refine lv_bipush (v := 16) hx hb dL_law_914 (by decide) ?_
      refine lv_icmp_eq (tgt := 933) hx hb dL_law_916 (by decide) (fun h => absurd h (by decide)) (fun _ => ?_)
      refine lv_iload hx hb dL_law_919 (lv_at hl 0 rfl) ?_
      refine lv_bipush (v := 32) hx hb dL_law_921 (by decide) ?_
      refine lv_icmp_eq (tgt := 933) hx hb dL_law_923 (by decide) (fun h => absurd h (by decide)) (fun _ => ?_)
      refine lv_iload hx hb dL_law_926 (lv_at hl 0 rfl) ?_
      refine lv_bipush (v := 60) hx hb dL_law_928 (by decide) ?_
      refine lv_icmp_ne (tgt := 967) hx hb dL_law_930 (by decide) (fun h => absurd (by decide) h) (fun _ => ?_)
      exact j933 I' f2 ld ut _ H locs _ _ ls (by omega) (by omega) hm hf2 hfact hG hS hl
  have j860 : ∀ (I' : gI) (f2 : Nat → Int32) (ld ut : Int32) (H : Heap) (locs : List Loc) (cells1 slots1 : Nat) (ls : Array Slot), cells1 ≤ cells + 20 → slots1 ≤ slots + 126 → jM I I' → (∀ w, 3 ≤ w → w < 12 → f2 w = cW I w) → ((ld = -1 ∧ ut = -1) ∨ ∃ x, x < lo ∧ ld = nI x ∧ ut = zU x (I 2 11 0 7) 300 0 I) → LV E (fun q => F q ∧ q ≠ a2) J D I' [(a2, 12, f2), (a1, a, f1)] H → va_S (gH E) s.heap H locs → lv_has ls 27 [(23, .int ut), (22, .int ld), (21, .ref a2), (19, .long (f_X4_digest I)), (18, .int (lE I 0 lo)), (17, .int (lE I 2 lo)), (16, .int (lS I 6 lo)), (15, .int (lS I 3 lo)), (14, .int (lS I 2 lo)), (12, .int (aS I a)), (11, .int (tS I 7 a)), (10, .int (tS I 2 a)), (9, .int (tS I 0 a)), (8, .int (tS I 6 a)), (7, .int (tS I 5 a)), (13, .ref a1), (6, .int (nI lo)), (5, .int (nI a)), (4, .int xv), (3, .int (nI ti)), (2, .ref (D 0 0)), (1, .ref (gA E 2 10 0)), (0, .ref b)] → W p l e room_1 s m #[Value.ref b] below meth c H locs (cells1) (slots1) Q (F0 m 860 ls []) := by
    intro I' f2 ld ut H locs cells1 slots1 ls h1 h2 hm hf2 hfact hG hS hl
    refine lv_iload_n hx hb dL_law_860 rfl (lv_at hl 19 rfl) ?_
    refine lv_bipush (v := 6) hx hb dL_law_861 (by decide) ?_
    refine lv_irem hx hb dL_law_863 (by decide) ?_
    refine lv_if_ne (tgt := 886) hx hb dL_law_864 (by decide) (fun h => ?_) (fun h => ?_)
    · refine lv_iconst (v := 4) hx hb dL_law_886 (by decide) ?_
      exact j887 I' f2 ld ut 4 H locs _ _ ls (by omega) (by omega) hm hf2 hfact ⟨0, by decide, rfl⟩ hG hS hl
    · refine lv_aload_n hx hb dL_law_867 rfl (lv_at hl 21 rfl) ?_
      refine lv_iconst (v := 1) hx hb dL_law_868 (by decide) ?_
      refine lv_iload hx hb dL_law_869 (lv_at hl 18 rfl) ?_
      refine lv_bipush (v := 6) hx hb dL_law_871 (by decide) ?_
      refine lv_ishr hx hb dL_law_873 ?_
      refine lv_bipush (v := 12) hx hb dL_law_874 (by decide) ?_
      refine n_below K hAO hml hS (N := 12) rfl (by decide) (by decide) hl.1 (Nat.le_of_ble_eq_true rfl) ⟨by decide, by decide⟩ dL_law_876 ⟨by show _ ≤ 600172; omega, by show _ ≤ 7300668; omega⟩ (fun q hq locs hS => ?_)
      refine lv_iadd hx hb dL_law_879 ?_
      rw [show ((1 + ((nI q))) : Int32) = nI (q + 1) from one_add q]
      obtain ⟨x0, xj, xm⟩ := jM.advise hj hm (p := q + 1) (by omega) (by omega)
      obtain ⟨h0, h9, hzz, hzd⟩ := (hm.jr hj).lw0
      refine v_kn hG (l_runVX (As := [.int (nI (q + 1))]) (rest := []) K hml ca_X4_advise q487 (m_X4_advise l E J I' (nI (q + 1)) h0 h9 hzz hzd hfl) hG.1.1 hS rfl rfl hl.1 (Nat.le_of_ble_eq_true rfl) ⟨by decide, by decide⟩ dL_law_880 ⟨by show _ + 1 ≤ 600172; omega, by show _ + 6 * 1 ≤ 7300668; omega⟩) hS (xm.2.2.2.1.trans hm.2.2.2.1.symm) x0 (fun H locs hG hS => ?_)
      refine lv_goto (tgt := 887) hx hb dL_law_883 (by decide) ?_
      exact j887 _ f2 ld ut _ H locs _ _ ls (by omega) (by omega) xm hf2 hfact xj hG hS hl
  have j823 : ∀ (k : Nat) (I' : gI) (f2 : Nat → Int32) (H : Heap) (locs : List Loc) (cells1 slots1 : Nat) (ls : Array Slot), cells1 ≤ cells + 19 → slots1 ≤ slots + 120 → jM I I' → (∀ w, 3 ≤ w → w < 12 → f2 w = cW I w) → LV E (fun q => F q ∧ q ≠ a2) J D I' [(a2, 12, f2), (a1, a, f1)] H → va_S (gH E) s.heap H locs → lv_has ls 27 [(22, .int (nI k)), (21, .ref a2), (19, .long (f_X4_digest I)), (18, .int (lE I 0 lo)), (17, .int (lE I 2 lo)), (16, .int (lS I 6 lo)), (15, .int (lS I 3 lo)), (14, .int (lS I 2 lo)), (12, .int (aS I a)), (11, .int (tS I 7 a)), (10, .int (tS I 2 a)), (9, .int (tS I 0 a)), (8, .int (tS I 6 a)), (7, .int (tS I 5 a)), (13, .ref a1), (6, .int (nI lo)), (5, .int (nI a)), (4, .int xv), (3, .int (nI ti)), (2, .ref (D 0 0)), (1, .ref (gA E 2 10 0)), (0, .ref b)] → W p l e room_1 s m #[Value.ref b] below meth c H locs (cells1) (slots1) Q (F0 m 823 ls []) := by
    intro k I' f2 H locs cells1 slots1 ls h1 h2 hm hf2 hG hS hl
    refine lv_iload hx hb dL_law_823 (lv_at hl 15 rfl) ?_
    refine lv_if_ne (tgt := 832) hx hb dL_law_825 (by decide) (fun h0 => ?_) (fun h0 => ?_)
    · have l0 : 0 < lo := Nat.pos_of_ne_zero fun q => h0 (by rw [q]; rfl)
      refine lv_iload hx hb dL_law_832 (lv_at hl 17 rfl) ?_
      refine lv_iconst (v := 4) hx hb dL_law_834 (by decide) ?_
      refine lv_ishr hx hb dL_law_835 ?_
      refine lv_iload hx hb dL_law_836 (lv_at hl 15 rfl) ?_
      refine n_below K hAO hml hS (N := lo) rfl l0 (by omega) hl.1 (Nat.le_of_ble_eq_true rfl) ⟨by decide, by decide⟩ dL_law_838 ⟨by show _ ≤ 600172; omega, by show _ ≤ 7300668; omega⟩ (fun q hq locs hS => ?_)
      refine lv_istore (lv' := [(22, .int (nI q)), (21, .ref a2), (19, .long (f_X4_digest I)), (18, .int (lE I 0 lo)), (17, .int (lE I 2 lo)), (16, .int (lS I 6 lo)), (15, .int (lS I 3 lo)), (14, .int (lS I 2 lo)), (12, .int (aS I a)), (11, .int (tS I 7 a)), (10, .int (tS I 2 a)), (9, .int (tS I 0 a)), (8, .int (tS I 6 a)), (7, .int (tS I 5 a)), (13, .ref a1), (6, .int (nI lo)), (5, .int (nI a)), (4, .int xv), (3, .int (nI ti)), (2, .ref (D 0 0)), (1, .ref (gA E 2 10 0)), (0, .ref b)]) hx hb dL_law_841 hl (by decide) rfl (fun ls hl => ?_)
      refine lv_iload hx hb dL_law_843 (lv_at hl 0 rfl) ?_
      refine lv_if_ge (tgt := 852) hx hb dL_law_845 (by decide) (fun _ => ?_) (fun h => absurd (nI_pos' (by omega)) h)
      refine lv_aload_n hx hb dL_law_852 rfl (lv_at hl 20 rfl) ?_
      refine lv_iload hx hb dL_law_853 (lv_at hl 0 rfl) ?_
      obtain ⟨x0, xv1, xm⟩ := jM.until hj hm hlo0 l10 hq
      obtain ⟨h0', h9, hzz, hzd⟩ := (hm.jr hj).lw0
      refine v_kn hG (l_runVX (As := [.int (nI q)]) (rest := []) K hml ca_X4_until q461 (m_X4_until l E J I' (nI q) h0' h9 hzz hzd hfl) hG.1.1 hS rfl rfl hl.1 (Nat.le_of_ble_eq_true rfl) ⟨by decide, by decide⟩ dL_law_855 ⟨by show _ + 1 ≤ 600172; omega, by show _ + 6 * 1 ≤ 7300668; omega⟩) hS (xm.2.2.2.1.trans hm.2.2.2.1.symm) x0 (fun H locs hG hS => ?_)
      rw [xv1]
      refine lv_istore (lv' := [(23, .int (zU q (I 2 11 0 7) 300 0 I)), (22, .int (nI q)), (21, .ref a2), (19, .long (f_X4_digest I)), (18, .int (lE I 0 lo)), (17, .int (lE I 2 lo)), (16, .int (lS I 6 lo)), (15, .int (lS I 3 lo)), (14, .int (lS I 2 lo)), (12, .int (aS I a)), (11, .int (tS I 7 a)), (10, .int (tS I 2 a)), (9, .int (tS I 0 a)), (8, .int (tS I 6 a)), (7, .int (tS I 5 a)), (13, .ref a1), (6, .int (nI lo)), (5, .int (nI a)), (4, .int xv), (3, .int (nI ti)), (2, .ref (D 0 0)), (1, .ref (gA E 2 10 0)), (0, .ref b)]) hx hb dL_law_858 hl (by decide) rfl (fun ls hl => ?_)
      exact j860 _ f2 (nI q) _ H locs _ _ ls (by omega) (by omega) xm hf2 (Or.inr ⟨q, hq, rfl, rfl⟩) hG hS (lv_sub hl [0, 1, 2, 3, 4, 5, 6, 7, 8, 9, 10, 11, 12, 13, 14, 15, 16, 17, 18, 19, 20, 21, 22] rfl)
    · refine lv_iconst (v := (-1)) hx hb dL_law_828 (by decide) ?_
      refine lv_goto (tgt := 841) hx hb dL_law_829 (by decide) ?_
      refine lv_istore (lv' := [(22, .int (-1)), (21, .ref a2), (19, .long (f_X4_digest I)), (18, .int (lE I 0 lo)), (17, .int (lE I 2 lo)), (16, .int (lS I 6 lo)), (15, .int (lS I 3 lo)), (14, .int (lS I 2 lo)), (12, .int (aS I a)), (11, .int (tS I 7 a)), (10, .int (tS I 2 a)), (9, .int (tS I 0 a)), (8, .int (tS I 6 a)), (7, .int (tS I 5 a)), (13, .ref a1), (6, .int (nI lo)), (5, .int (nI a)), (4, .int xv), (3, .int (nI ti)), (2, .ref (D 0 0)), (1, .ref (gA E 2 10 0)), (0, .ref b)]) hx hb dL_law_841 hl (by decide) rfl (fun ls hl => ?_)
      refine lv_iload hx hb dL_law_843 (lv_at hl 0 rfl) ?_
      refine lv_if_ge (tgt := 852) hx hb dL_law_845 (by decide) (fun h => absurd h (by decide)) (fun _ => ?_)
      refine lv_iconst (v := (-1)) hx hb dL_law_848 (by decide) ?_
      refine lv_goto (tgt := 858) hx hb dL_law_849 (by decide) ?_
      refine lv_istore (lv' := [(23, .int (-1)), (22, .int (-1)), (21, .ref a2), (19, .long (f_X4_digest I)), (18, .int (lE I 0 lo)), (17, .int (lE I 2 lo)), (16, .int (lS I 6 lo)), (15, .int (lS I 3 lo)), (14, .int (lS I 2 lo)), (12, .int (aS I a)), (11, .int (tS I 7 a)), (10, .int (tS I 2 a)), (9, .int (tS I 0 a)), (8, .int (tS I 6 a)), (7, .int (tS I 5 a)), (13, .ref a1), (6, .int (nI lo)), (5, .int (nI a)), (4, .int xv), (3, .int (nI ti)), (2, .ref (D 0 0)), (1, .ref (gA E 2 10 0)), (0, .ref b)]) hx hb dL_law_858 hl (by decide) rfl (fun ls hl => ?_)
      exact j860 I' f2 (-1) (-1) H locs _ _ ls (by omega) (by omega) hm hf2 (Or.inl ⟨rfl, rfl⟩) hG hS (lv_sub hl [0, 1, 2, 3, 4, 5, 6, 7, 8, 9, 10, 11, 12, 13, 14, 15, 16, 17, 18, 19, 20, 21, 22] rfl)
  have loop : ∀ (r k : Nat) (I' : gI) (f2 : Nat → Int32) (H : Heap) (locs : List Loc) (cells1 slots1 : Nat) (ls : Array Slot), k + r = 12 → 3 ≤ k → cells1 + 2 * r ≤ cells + 19 → slots1 + 12 * r ≤ slots + 120 → jM I I' → (∀ w, 3 ≤ w → w < k → f2 w = cW I w) → LV E (fun q => F q ∧ q ≠ a2) J D I' [(a2, 12, f2), (a1, a, f1)] H → va_S (gH E) s.heap H locs → lv_has ls 27 [(22, .int (nI k)), (21, .ref a2), (19, .long (f_X4_digest I)), (18, .int (lE I 0 lo)), (17, .int (lE I 2 lo)), (16, .int (lS I 6 lo)), (15, .int (lS I 3 lo)), (14, .int (lS I 2 lo)), (12, .int (aS I a)), (11, .int (tS I 7 a)), (10, .int (tS I 2 a)), (9, .int (tS I 0 a)), (8, .int (tS I 6 a)), (7, .int (tS I 5 a)), (13, .ref a1), (6, .int (nI lo)), (5, .int (nI a)), (4, .int xv), (3, .int (nI ti)), (2, .ref (D 0 0)), (1, .ref (gA E 2 10 0)), (0, .ref b)] → W p l e room_1 s m #[Value.ref b] below meth c H locs (cells1) (slots1) Q (F0 m 798 ls []) := by
    intro r
    induction r with
    | zero =>
      intro k I' f2 H locs cells1 slots1 ls hk h3 h1 h2 hm hf2 hG hS hl
      refine lv_iload hx hb dL_law_798 (lv_at hl 0 rfl) ?_
      refine lv_bipush (v := 12) hx hb dL_law_800 (by decide) ?_
      refine lv_icmp_ge (tgt := 823) hx hb dL_law_802 (by decide) (fun _ => ?_) (fun h => absurd (show (12 : Int32) ≤ nI k by rw [show k = 12 by omega]; decide) h)
      exact j823 k I' f2 H locs _ _ ls (by omega) (by omega) hm (fun w w3 w12 => hf2 w w3 (by omega)) hG hS hl
    | succ r ih =>
      intro k I' f2 H locs cells1 slots1 ls hk h3 h1 h2 hm hf2 hG hS hl
      refine lv_iload hx hb dL_law_798 (lv_at hl 0 rfl) ?_
      refine lv_bipush (v := 12) hx hb dL_law_800 (by decide) ?_
      refine lv_icmp_ge (tgt := 823) hx hb dL_law_802 (by decide) (fun h => absurd h (nI_ge (b := 12) (by omega) (by decide))) (fun _ => ?_)
      refine lv_aload hx hb dL_law_805 (lv_at hl 1 rfl) ?_
      refine lv_iload hx hb dL_law_807 (lv_at hl 0 rfl) ?_
      refine lv_aload_n hx hb dL_law_809 rfl (lv_at hl 20 rfl) ?_
      refine lv_iconst (v := 1) hx hb dL_law_810 (by decide) ?_
      refine lv_iload hx hb dL_law_811 (lv_at hl 0 rfl) ?_
      obtain ⟨x0, xv1, xm⟩ := jM.foresee hj hm h3 (show k < 12 by omega)
      obtain ⟨h0', h9, hzz, hzd⟩ := (hm.jr hj).lw0
      refine v_kn hG (l_runVX (As := [.int 1, .int (nI k)]) (rest := [.int (nI k), .ref a2]) K hml ca_X4_foresee q482 (m_X4_foresee l E J I' 1 (nI k) h0' h9 hzz hzd hfl) hG.1.1 hS rfl rfl hl.1 (Nat.le_of_ble_eq_true rfl) ⟨by decide, by decide⟩ dL_law_813 ⟨by show _ + 2 ≤ 600172; omega, by show _ + 6 * 2 ≤ 7300668; omega⟩) hS (xm.2.2.2.1.trans hm.2.2.2.1.symm) x0 (fun H locs hG hS => ?_)
      rw [xv1]
      refine v_iast K hG hS (show vp_in (nI k) 12 from vp_in_nI (by omega) (by decide)) dL_law_816 (fun H locs hG hS => ?_)
      rw [nI_clamp (show k < 2 ^ 31 by omega)] at hG
      refine lv_iinc (v := nI (k + 1)) (lv' := [(22, .int (nI (k + 1))), (21, .ref a2), (19, .long (f_X4_digest I)), (18, .int (lE I 0 lo)), (17, .int (lE I 2 lo)), (16, .int (lS I 6 lo)), (15, .int (lS I 3 lo)), (14, .int (lS I 2 lo)), (12, .int (aS I a)), (11, .int (tS I 7 a)), (10, .int (tS I 2 a)), (9, .int (tS I 0 a)), (8, .int (tS I 6 a)), (7, .int (tS I 5 a)), (13, .ref a1), (6, .int (nI lo)), (5, .int (nI a)), (4, .int xv), (3, .int (nI ti)), (2, .ref (D 0 0)), (1, .ref (gA E 2 10 0)), (0, .ref b)]) hx hb dL_law_817 hl (k := 0) rfl (nI_add k 1) (by decide) rfl (fun ls hl => ?_)
      refine lv_goto (tgt := 798) hx hb dL_law_820 (by decide) ?_
      refine ih (k + 1) _ _ H locs _ _ ls (by omega) (by omega) (by omega) (by omega) xm (fun w w3 wk => ?_) hG hS (lv_sub hl [0, 1, 2, 3, 4, 5, 6, 7, 8, 9, 10, 11, 12, 13, 14, 15, 16, 17, 18, 19, 20, 21] rfl)
      show (if w = k then cW I k else f2 w) = cW I w
      by_cases e : w = k
      · rw [if_pos e, e]
      · rw [if_neg e]
        exact hf2 w w3 (by omega)
  refine lv_iconst (v := 3) hx hb dL_law_795 (by decide) ?_
  refine lv_istore (lv' := [(22, .int 3), (21, .ref a2), (19, .long (f_X4_digest I)), (18, .int (lE I 0 lo)), (17, .int (lE I 2 lo)), (16, .int (lS I 6 lo)), (15, .int (lS I 3 lo)), (14, .int (lS I 2 lo)), (12, .int (aS I a)), (11, .int (tS I 7 a)), (10, .int (tS I 2 a)), (9, .int (tS I 0 a)), (8, .int (tS I 6 a)), (7, .int (tS I 5 a)), (13, .ref a1), (6, .int (nI lo)), (5, .int (nI a)), (4, .int xv), (3, .int (nI ti)), (2, .ref (D 0 0)), (1, .ref (gA E 2 10 0)), (0, .ref b)]) hx hb dL_law_796 hl (by decide) rfl (fun ls hl => ?_)
  exact loop 9 3 I _ H locs _ _ ls (by omega) (by omega) (by omega) (by omega) (jM.refl hj) (fun w w3 w3' => absurd w3' (by omega)) hG hS (lv_sub hl [0, 1, 2, 3, 4, 5, 6, 7, 8, 9, 10, 11, 12, 13, 14, 15, 16, 17, 18, 19, 20, 21] rfl)
end LG
