/-! PRINTED by wip/gen21/law2.py: the law, its loop over the loads -/
section LG
variable {p : Program} {l : Launch} {e : Env} {s : State} {m : MethodId} {below : List Frame} {meth : Method} {c : Code} {Q : State → Prop}
variable {E : gE} {F : Nat → Prop} {J : Int64} {D : sD} {I : gI} {a lo b L a1 ti CB SB : Nat} {xs : Nat → Int32} {xv : Int32}
set_option maxHeartbeats 4000000 in
set_option maxRecDepth 100000 in
theorem lg_loads (X : gX p l s m meth c E b L xs) {O : List oR} (hw0 : wf (I 0)) (hC : jC a lo I) (hCB : CB ≤ 600172) (hSB : SB ≤ 7300668)
    (kk : ∀ (H : Heap) (locs : List Loc) (cells slots : Nat) (ls : Array Slot), cells ≤ CB → slots ≤ SB → LV E F J D I O H → va_S (gH E) s.heap H locs → lv_has ls 27 [(18, .int (lE I 0 lo)), (17, .int (lE I 2 lo)), (16, .int (lS I 6 lo)), (15, .int (lS I 3 lo)), (14, .int (lS I 2 lo)), (12, .int (aS I a)), (11, .int (tS I 7 a)), (10, .int (tS I 2 a)), (9, .int (tS I 0 a)), (8, .int (tS I 6 a)), (7, .int (tS I 5 a)), (13, .ref a1), (6, .int (nI lo)), (5, .int (nI a)), (4, .int xv), (3, .int (nI ti)), (2, .ref (D 0 0)), (1, .ref (gA E 2 10 0)), (0, .ref b)] → W p l e room_1 s m #[Value.ref b] below meth c H locs (cells) (slots) Q (F0 m 616 ls [])) :
    ∀ (r k : Nat) (H : Heap) (locs : List Loc) (cells slots : Nat) (ls : Array Slot), k + r = lo → cells + 25 * r ≤ CB → slots + 150 * r ≤ SB → LV E F J D I O H → va_S (gH E) s.heap H locs → lv_has ls 27 [(19, .int (nI k)), (18, .int (lE I 0 k)), (17, .int (lE I 2 k)), (16, .int (lS I 6 k)), (15, .int (lS I 3 k)), (14, .int (lS I 2 k)), (12, .int (aS I a)), (11, .int (tS I 7 a)), (10, .int (tS I 2 a)), (9, .int (tS I 0 a)), (8, .int (tS I 6 a)), (7, .int (tS I 5 a)), (13, .ref a1), (6, .int (nI lo)), (5, .int (nI a)), (4, .int xv), (3, .int (nI ti)), (2, .ref (D 0 0)), (1, .ref (gA E 2 10 0)), (0, .ref b)] → W p l e room_1 s m #[Value.ref b] below meth c H locs (cells) (slots) Q (F0 m 378 ls []) := by
  obtain ⟨K, hAO, hml, hr, hlocks, hfl, hX, hbl, hbE, hL⟩ := id X
  have hx := K.1
  have hb := K.2.1
  have hts := K.2.2.1
  have hown := K.2.2.2.1
  obtain ⟨⟨a6, l10, ha, hlo⟩, -, -, hLo⟩ := hC
  intro r
  induction r with
  | zero =>
    intro k H locs cells slots ls hk hc hs hG hS hl
    obtain rfl : k = lo := hk
    refine lv_iload hx hb dL_law_378 (lv_at hl 0 rfl) ?_
    refine lv_iload hx hb dL_law_380 (lv_at hl 13 rfl) ?_
    refine lv_icmp_ge (tgt := 616) hx hb dL_law_382 (by decide) (fun _ => ?_) (fun h => absurd (nI_le (Nat.le_refl k) (by omega)) h)
    exact kk H locs cells slots ls (by omega) (by omega) hG hS (lv_sub hl [1, 2, 3, 4, 5, 6, 7, 8, 9, 10, 11, 12, 13, 14, 15, 16, 17, 18, 19] rfl)
  | succ r ih =>
    intro k H locs cells slots ls hk hc hs hG hS hl
    refine lv_iload hx hb dL_law_378 (lv_at hl 0 rfl) ?_
    refine lv_iload hx hb dL_law_380 (lv_at hl 13 rfl) ?_
    refine lv_icmp_ge (tgt := 616) hx hb dL_law_382 (by decide) (fun h => absurd h (nI_ge (by omega) (by omega))) (fun _ => ?_)
    obtain ⟨sv, pv, wv, s2, pw, w60, e1, e6, e0, y0, y2, i5, d2, q, q10, eq, qo⟩ := hLo k (by omega)
    refine lv_aload_n hx hb dL_law_385 rfl (lv_at hl 18 rfl) ?_
    refine lv_iload hx hb dL_law_386 (lv_at hl 0 rfl) ?_
    refine lv_iconst (v := 1) hx hb dL_law_388 (by decide) ?_
    obtain ⟨x0, xv0⟩ := zA_load' (I := I) (x := 1) 1 hlo (show k < lo by omega) l10 rfl (by decide)
    refine v_kn hG (l_runVX (As := [.int (nI k), .int 1]) (rest := []) K hml ca_X4_load q275 (m_X4_load l E J I ((nI k)) 1 hw0 hfl) hG.1.1 hS rfl rfl hl.1 (Nat.le_of_ble_eq_true rfl) ⟨by decide, by decide⟩ dL_law_389 ⟨by show _ + 2 ≤ 600172; omega, by show _ + 6 * 2 ≤ 7300668; omega⟩) hS rfl x0 (fun H locs hG hS => ?_)
    rw [xv0]
    refine lv_istore (lv' := [(20, .int (f_X2_tell I 0 k 1)), (19, .int (nI k)), (18, .int (lE I 0 k)), (17, .int (lE I 2 k)), (16, .int (lS I 6 k)), (15, .int (lS I 3 k)), (14, .int (lS I 2 k)), (12, .int (aS I a)), (11, .int (tS I 7 a)), (10, .int (tS I 2 a)), (9, .int (tS I 0 a)), (8, .int (tS I 6 a)), (7, .int (tS I 5 a)), (13, .ref a1), (6, .int (nI lo)), (5, .int (nI a)), (4, .int xv), (3, .int (nI ti)), (2, .ref (D 0 0)), (1, .ref (gA E 2 10 0)), (0, .ref b)]) hx hb dL_law_392 hl (by decide) rfl (fun ls hl => ?_)
    refine lv_aload_n hx hb dL_law_394 rfl (lv_at hl 19 rfl) ?_
    refine lv_iload hx hb dL_law_395 (lv_at hl 1 rfl) ?_
    refine lv_bipush (v := 6) hx hb dL_law_397 (by decide) ?_
    obtain ⟨x0, xv0⟩ := zA_load' (I := I) (x := 6) 6 hlo (show k < lo by omega) l10 rfl (by decide)
    refine v_kn hG (l_runVX (As := [.int (nI k), .int 6]) (rest := []) K hml ca_X4_load q275 (m_X4_load l E J I ((nI k)) 6 hw0 hfl) hG.1.1 hS rfl rfl hl.1 (Nat.le_of_ble_eq_true rfl) ⟨by decide, by decide⟩ dL_law_399 ⟨by show _ + 2 ≤ 600172; omega, by show _ + 6 * 2 ≤ 7300668; omega⟩) hS rfl x0 (fun H locs hG hS => ?_)
    rw [xv0]
    refine lv_istore (lv' := [(21, .int (f_X2_tell I 0 k 6)), (20, .int (f_X2_tell I 0 k 1)), (19, .int (nI k)), (18, .int (lE I 0 k)), (17, .int (lE I 2 k)), (16, .int (lS I 6 k)), (15, .int (lS I 3 k)), (14, .int (lS I 2 k)), (12, .int (aS I a)), (11, .int (tS I 7 a)), (10, .int (tS I 2 a)), (9, .int (tS I 0 a)), (8, .int (tS I 6 a)), (7, .int (tS I 5 a)), (13, .ref a1), (6, .int (nI lo)), (5, .int (nI a)), (4, .int xv), (3, .int (nI ti)), (2, .ref (D 0 0)), (1, .ref (gA E 2 10 0)), (0, .ref b)]) hx hb dL_law_402 hl (by decide) rfl (fun ls hl => ?_)
    refine lv_iload hx hb dL_law_404 (lv_at hl 7 rfl) ?_
    refine lv_aload_n hx hb dL_law_406 rfl (lv_at hl 20 rfl) ?_
    refine lv_iload hx hb dL_law_407 (lv_at hl 2 rfl) ?_
    refine lv_iconst (v := 2) hx hb dL_law_409 (by decide) ?_
    obtain ⟨x0, xv0⟩ := zA_load' (I := I) (x := 2) 2 hlo (show k < lo by omega) l10 rfl (by decide)
    refine v_kn hG (l_runVX (As := [.int (nI k), .int 2]) (rest := [.int (lS I 2 k)]) K hml ca_X4_load q275 (m_X4_load l E J I ((nI k)) 2 hw0 hfl) hG.1.1 hS rfl rfl hl.1 (Nat.le_of_ble_eq_true rfl) ⟨by decide, by decide⟩ dL_law_410 ⟨by show _ + 2 ≤ 600172; omega, by show _ + 6 * 2 ≤ 7300668; omega⟩) hS rfl x0 (fun H locs hG hS => ?_)
    rw [xv0]
    refine lv_iadd hx hb dL_law_413 ?_
    rw [show ((((lS I 2 k)) + ((f_X2_tell I 0 k 2))) : Int32) = lS I 2 (k + 1) from rfl]
    refine lv_istore (lv' := [(14, .int (lS I 2 (k + 1))), (21, .int (f_X2_tell I 0 k 6)), (20, .int (f_X2_tell I 0 k 1)), (19, .int (nI k)), (18, .int (lE I 0 k)), (17, .int (lE I 2 k)), (16, .int (lS I 6 k)), (15, .int (lS I 3 k)), (12, .int (aS I a)), (11, .int (tS I 7 a)), (10, .int (tS I 2 a)), (9, .int (tS I 0 a)), (8, .int (tS I 6 a)), (7, .int (tS I 5 a)), (13, .ref a1), (6, .int (nI lo)), (5, .int (nI a)), (4, .int xv), (3, .int (nI ti)), (2, .ref (D 0 0)), (1, .ref (gA E 2 10 0)), (0, .ref b)]) hx hb dL_law_414 hl (by decide) rfl (fun ls hl => ?_)
    refine lv_iload hx hb dL_law_416 (lv_at hl 7 rfl) ?_
    refine lv_aload_n hx hb dL_law_418 rfl (lv_at hl 20 rfl) ?_
    refine lv_iload hx hb dL_law_419 (lv_at hl 3 rfl) ?_
    refine lv_iconst (v := 3) hx hb dL_law_421 (by decide) ?_
    obtain ⟨x0, xv0⟩ := zA_load' (I := I) (x := 3) 3 hlo (show k < lo by omega) l10 rfl (by decide)
    refine v_kn hG (l_runVX (As := [.int (nI k), .int 3]) (rest := [.int (lS I 3 k)]) K hml ca_X4_load q275 (m_X4_load l E J I ((nI k)) 3 hw0 hfl) hG.1.1 hS rfl rfl hl.1 (Nat.le_of_ble_eq_true rfl) ⟨by decide, by decide⟩ dL_law_422 ⟨by show _ + 2 ≤ 600172; omega, by show _ + 6 * 2 ≤ 7300668; omega⟩) hS rfl x0 (fun H locs hG hS => ?_)
    rw [xv0]
    refine lv_iadd hx hb dL_law_425 ?_
    rw [show ((((lS I 3 k)) + ((f_X2_tell I 0 k 3))) : Int32) = lS I 3 (k + 1) from rfl]
    refine lv_istore (lv' := [(15, .int (lS I 3 (k + 1))), (14, .int (lS I 2 (k + 1))), (21, .int (f_X2_tell I 0 k 6)), (20, .int (f_X2_tell I 0 k 1)), (19, .int (nI k)), (18, .int (lE I 0 k)), (17, .int (lE I 2 k)), (16, .int (lS I 6 k)), (12, .int (aS I a)), (11, .int (tS I 7 a)), (10, .int (tS I 2 a)), (9, .int (tS I 0 a)), (8, .int (tS I 6 a)), (7, .int (tS I 5 a)), (13, .ref a1), (6, .int (nI lo)), (5, .int (nI a)), (4, .int xv), (3, .int (nI ti)), (2, .ref (D 0 0)), (1, .ref (gA E 2 10 0)), (0, .ref b)]) hx hb dL_law_426 hl (by decide) rfl (fun ls hl => ?_)
    refine lv_iload hx hb dL_law_428 (lv_at hl 7 rfl) ?_
    refine lv_iload hx hb dL_law_430 (lv_at hl 2 rfl) ?_
    refine lv_iadd hx hb dL_law_432 ?_
    rw [show ((((lS I 6 k)) + ((f_X2_tell I 0 k 6))) : Int32) = lS I 6 (k + 1) from rfl]
    refine lv_istore (lv' := [(16, .int (lS I 6 (k + 1))), (15, .int (lS I 3 (k + 1))), (14, .int (lS I 2 (k + 1))), (21, .int (f_X2_tell I 0 k 6)), (20, .int (f_X2_tell I 0 k 1)), (19, .int (nI k)), (18, .int (lE I 0 k)), (17, .int (lE I 2 k)), (12, .int (aS I a)), (11, .int (tS I 7 a)), (10, .int (tS I 2 a)), (9, .int (tS I 0 a)), (8, .int (tS I 6 a)), (7, .int (tS I 5 a)), (13, .ref a1), (6, .int (nI lo)), (5, .int (nI a)), (4, .int xv), (3, .int (nI ti)), (2, .ref (D 0 0)), (1, .ref (gA E 2 10 0)), (0, .ref b)]) hx hb dL_law_433 hl (by decide) rfl (fun ls hl => ?_)
    rw [e1, e6] at hl
    rcases (show sv = 0 ∨ sv = 1 ∨ sv = 2 by omega) with rfl | rfl | rfl
    · refine lv_iload hx hb dL_law_435 (lv_at hl 7 rfl) ?_
      refine lv_iload hx hb dL_law_437 (lv_at hl 4 rfl) ?_
      refine lv_iconst (v := 2) hx hb dL_law_439 (by decide) ?_
      refine lv_icmp_ne (tgt := 447) hx hb dL_law_440 (by decide) (fun _ => ?_) (fun h => absurd h (by decide))
      refine lv_iconst (v := 0) hx hb dL_law_447 (by decide) ?_
      refine lv_iadd hx hb dL_law_448 ?_
      rw [show ((((lE I 2 k)) + 0) : Int32) = lE I 2 (k + 1) from lE_0 (by rw [e1]; decide)]
      refine lv_istore (lv' := [(17, .int (lE I 2 (k + 1))), (16, .int (lS I 6 (k + 1))), (15, .int (lS I 3 (k + 1))), (14, .int (lS I 2 (k + 1))), (21, .int (nI pv)), (20, .int (nI 0)), (19, .int (nI k)), (18, .int (lE I 0 k)), (12, .int (aS I a)), (11, .int (tS I 7 a)), (10, .int (tS I 2 a)), (9, .int (tS I 0 a)), (8, .int (tS I 6 a)), (7, .int (tS I 5 a)), (13, .ref a1), (6, .int (nI lo)), (5, .int (nI a)), (4, .int xv), (3, .int (nI ti)), (2, .ref (D 0 0)), (1, .ref (gA E 2 10 0)), (0, .ref b)]) hx hb dL_law_449 hl (by decide) rfl (fun ls hl => ?_)
      refine lv_iload hx hb dL_law_451 (lv_at hl 7 rfl) ?_
      refine lv_iload hx hb dL_law_453 (lv_at hl 5 rfl) ?_
      refine lv_if_ne (tgt := 462) hx hb dL_law_455 (by decide) (fun h => absurd (by decide) h) (fun _ => ?_)
      refine lv_iconst (v := 1) hx hb dL_law_458 (by decide) ?_
      refine lv_goto (tgt := 463) hx hb dL_law_459 (by decide) ?_
      refine lv_iadd hx hb dL_law_463 ?_
      rw [show ((((lE I 0 k)) + 1) : Int32) = lE I 0 (k + 1) from lE_1 (by rw [e1]; rfl)]
      refine lv_istore (lv' := [(18, .int (lE I 0 (k + 1))), (17, .int (lE I 2 (k + 1))), (16, .int (lS I 6 (k + 1))), (15, .int (lS I 3 (k + 1))), (14, .int (lS I 2 (k + 1))), (21, .int (nI pv)), (20, .int (nI 0)), (19, .int (nI k)), (12, .int (aS I a)), (11, .int (tS I 7 a)), (10, .int (tS I 2 a)), (9, .int (tS I 0 a)), (8, .int (tS I 6 a)), (7, .int (tS I 5 a)), (13, .ref a1), (6, .int (nI lo)), (5, .int (nI a)), (4, .int xv), (3, .int (nI ti)), (2, .ref (D 0 0)), (1, .ref (gA E 2 10 0)), (0, .ref b)]) hx hb dL_law_464 hl (by decide) rfl (fun ls hl => ?_)
      refine lv_iload hx hb dL_law_466 (lv_at hl 6 rfl) ?_
      refine lv_if_lt (tgt := 608) hx hb dL_law_468 (by decide) (fun h => absurd h (by decide)) (fun _ => ?_)
      refine lv_iload hx hb dL_law_471 (lv_at hl 6 rfl) ?_
      refine lv_iconst (v := 2) hx hb dL_law_473 (by decide) ?_
      refine lv_icmp_gt (tgt := 608) hx hb dL_law_474 (by decide) (fun h => absurd h (by decide)) (fun _ => ?_)
      refine lv_iload hx hb dL_law_477 (lv_at hl 5 rfl) ?_
      refine lv_aload_n hx hb dL_law_479 rfl (lv_at hl 20 rfl) ?_
      refine lv_iload hx hb dL_law_480 (lv_at hl 7 rfl) ?_
      refine lv_iconst (v := 0) hx hb dL_law_482 (by decide) ?_
      obtain ⟨x0, xv0⟩ := zA_load' (I := I) (x := 0) 0 hlo (show k < lo by omega) l10 rfl (by decide)
      refine v_kn hG (l_runVX (As := [.int (nI k), .int 0]) (rest := [.int (nI pv)]) K hml ca_X4_load q275 (m_X4_load l E J I ((nI k)) 0 hw0 hfl) hG.1.1 hS rfl rfl hl.1 (Nat.le_of_ble_eq_true rfl) ⟨by decide, by decide⟩ dL_law_483 ⟨by show _ + 2 ≤ 600172; omega, by show _ + 6 * 2 ≤ 7300668; omega⟩) hS rfl x0 (fun H locs hG hS => ?_)
      rw [xv0]
      rw [e0]
      refine lv_icmp_gt (tgt := 608) hx hb dL_law_486 (by decide) (fun h => absurd h (nI_nlt pw (by omega))) (fun _ => ?_)
      refine lv_iload hx hb dL_law_489 (lv_at hl 6 rfl) ?_
      refine lv_if_ne (tgt := 510) hx hb dL_law_491 (by decide) (fun h => absurd (by decide) h) (fun _ => ?_)
      obtain ⟨p0, t21⟩ := y0 rfl
      refine lv_iload hx hb dL_law_494 (lv_at hl 5 rfl) ?_
      refine lv_if_ne (tgt := 608) hx hb dL_law_496 (by decide) (fun h => absurd (by rw [p0]; rfl) h) (fun _ => ?_)
      refine lv_aload_n hx hb dL_law_499 rfl (lv_at hl 20 rfl) ?_
      refine lv_iload hx hb dL_law_500 (lv_at hl 7 rfl) ?_
      refine lv_iconst (v := 2) hx hb dL_law_502 (by decide) ?_
      obtain ⟨x0, xv0⟩ := zA_load' (I := I) (x := 2) 2 hlo (show k < lo by omega) l10 rfl (by decide)
      refine v_kn hG (l_runVX (As := [.int (nI k), .int 2]) (rest := []) K hml ca_X4_load q275 (m_X4_load l E J I ((nI k)) 2 hw0 hfl) hG.1.1 hS rfl rfl hl.1 (Nat.le_of_ble_eq_true rfl) ⟨by decide, by decide⟩ dL_law_503 ⟨by show _ + 2 ≤ 600172; omega, by show _ + 6 * 2 ≤ 7300668; omega⟩) hS rfl x0 (fun H locs hG hS => ?_)
      rw [xv0]
      rw [t21]
      refine lv_iconst (v := 1) hx hb dL_law_506 (by decide) ?_
      refine lv_icmp_ne (tgt := 608) hx hb dL_law_507 (by decide) (fun h => absurd rfl h) (fun _ => ?_)
      refine lv_iload hx hb dL_law_510 (lv_at hl 6 rfl) ?_
      refine lv_iconst (v := 2) hx hb dL_law_512 (by decide) ?_
      refine lv_icmp_ne (tgt := 528) hx hb dL_law_513 (by decide) (fun _ => ?_) (fun h => absurd h (by decide))
      refine lv_aload_n hx hb dL_law_528 rfl (lv_at hl 20 rfl) ?_
      refine lv_iload hx hb dL_law_529 (lv_at hl 7 rfl) ?_
      refine lv_iconst (v := 5) hx hb dL_law_531 (by decide) ?_
      obtain ⟨x0, xv0⟩ := zA_load' (I := I) (x := 5) 5 hlo (show k < lo by omega) l10 rfl (by decide)
      refine v_kn hG (l_runVX (As := [.int (nI k), .int 5]) (rest := []) K hml ca_X4_load q275 (m_X4_load l E J I ((nI k)) 5 hw0 hfl) hG.1.1 hS rfl rfl hl.1 (Nat.le_of_ble_eq_true rfl) ⟨by decide, by decide⟩ dL_law_532 ⟨by show _ + 2 ≤ 600172; omega, by show _ + 6 * 2 ≤ 7300668; omega⟩) hS rfl x0 (fun H locs hG hS => ?_)
      rw [xv0]
      refine lv_if_lt (tgt := 542) hx hb dL_law_535 (by decide) (fun _ => ?_) (fun h => absurd (i5.mp (Int32.not_lt.mp h)) (by decide))
      refine lv_iconst (v := 0) hx hb dL_law_542 (by decide) ?_
      refine lv_iload hx hb dL_law_543 (lv_at hl 6 rfl) ?_
      refine lv_iconst (v := 2) hx hb dL_law_545 (by decide) ?_
      refine lv_icmp_ne (tgt := 553) hx hb dL_law_546 (by decide) (fun _ => ?_) (fun h => absurd h (by decide))
      refine lv_iconst (v := 0) hx hb dL_law_553 (by decide) ?_
      refine lv_icmp_ne (tgt := 608) hx hb dL_law_554 (by decide) (fun h => absurd rfl h) (fun _ => ?_)
      refine lv_iload hx hb dL_law_557 (lv_at hl 6 rfl) ?_
      refine lv_iconst (v := 2) hx hb dL_law_559 (by decide) ?_
      refine lv_icmp_ne (tgt := 595) hx hb dL_law_560 (by decide) (fun _ => ?_) (fun h => absurd h (by decide))
      refine lv_aload_n hx hb dL_law_595 rfl (lv_at hl 20 rfl) ?_
      refine lv_iload hx hb dL_law_596 (lv_at hl 7 rfl) ?_
      refine lv_iconst (v := 2) hx hb dL_law_598 (by decide) ?_
      obtain ⟨x0, xv0⟩ := zA_load' (I := I) (x := 2) 2 hlo (show k < lo by omega) l10 rfl (by decide)
      refine v_kn hG (l_runVX (As := [.int (nI k), .int 2]) (rest := []) K hml ca_X4_load q275 (m_X4_load l E J I ((nI k)) 2 hw0 hfl) hG.1.1 hS rfl rfl hl.1 (Nat.le_of_ble_eq_true rfl) ⟨by decide, by decide⟩ dL_law_599 ⟨by show _ + 2 ≤ 600172; omega, by show _ + 6 * 2 ≤ 7300668; omega⟩) hS rfl x0 (fun H locs hG hS => ?_)
      rw [xv0]
      rw [eq]
      refine lv_iconst (v := 2) hx hb dL_law_602 (by decide) ?_
      refine lv_irem hx hb dL_law_603 (by decide) ?_
      rw [show (nI q - nI q / 2 * 2 : Int32) = nI (q % 2) from pk_rem (d := 2) (by omega) (by decide) (by decide), qo]
      refine lv_iconst (v := 1) hx hb dL_law_604 (by decide) ?_
      refine lv_icmp_eq (tgt := 610) hx hb dL_law_605 (by decide) (fun _ => ?_) (fun h => absurd rfl h)
      refine lv_iinc (v := nI (k + 1)) (lv' := [(19, .int (nI (k + 1))), (18, .int (lE I 0 (k + 1))), (17, .int (lE I 2 (k + 1))), (16, .int (lS I 6 (k + 1))), (15, .int (lS I 3 (k + 1))), (14, .int (lS I 2 (k + 1))), (21, .int (nI pv)), (20, .int (nI 0)), (12, .int (aS I a)), (11, .int (tS I 7 a)), (10, .int (tS I 2 a)), (9, .int (tS I 0 a)), (8, .int (tS I 6 a)), (7, .int (tS I 5 a)), (13, .ref a1), (6, .int (nI lo)), (5, .int (nI a)), (4, .int xv), (3, .int (nI ti)), (2, .ref (D 0 0)), (1, .ref (gA E 2 10 0)), (0, .ref b)]) hx hb dL_law_610 hl (k := 7) rfl (nI_add k 1) (by decide) rfl (fun ls hl => ?_)
      refine lv_goto (tgt := 378) hx hb dL_law_613 (by decide) ?_
      exact ih (k + 1) H locs _ _ ls (by omega) (by omega) (by omega) hG hS (lv_sub hl [0, 1, 2, 3, 4, 5, 8, 9, 10, 11, 12, 13, 14, 15, 16, 17, 18, 19, 20, 21] rfl)
    · refine lv_iload hx hb dL_law_435 (lv_at hl 7 rfl) ?_
      refine lv_iload hx hb dL_law_437 (lv_at hl 4 rfl) ?_
      refine lv_iconst (v := 2) hx hb dL_law_439 (by decide) ?_
      refine lv_icmp_ne (tgt := 447) hx hb dL_law_440 (by decide) (fun _ => ?_) (fun h => absurd h (by decide))
      refine lv_iconst (v := 0) hx hb dL_law_447 (by decide) ?_
      refine lv_iadd hx hb dL_law_448 ?_
      rw [show ((((lE I 2 k)) + 0) : Int32) = lE I 2 (k + 1) from lE_0 (by rw [e1]; decide)]
      refine lv_istore (lv' := [(17, .int (lE I 2 (k + 1))), (16, .int (lS I 6 (k + 1))), (15, .int (lS I 3 (k + 1))), (14, .int (lS I 2 (k + 1))), (21, .int (nI pv)), (20, .int (nI 1)), (19, .int (nI k)), (18, .int (lE I 0 k)), (12, .int (aS I a)), (11, .int (tS I 7 a)), (10, .int (tS I 2 a)), (9, .int (tS I 0 a)), (8, .int (tS I 6 a)), (7, .int (tS I 5 a)), (13, .ref a1), (6, .int (nI lo)), (5, .int (nI a)), (4, .int xv), (3, .int (nI ti)), (2, .ref (D 0 0)), (1, .ref (gA E 2 10 0)), (0, .ref b)]) hx hb dL_law_449 hl (by decide) rfl (fun ls hl => ?_)
      refine lv_iload hx hb dL_law_451 (lv_at hl 7 rfl) ?_
      refine lv_iload hx hb dL_law_453 (lv_at hl 5 rfl) ?_
      refine lv_if_ne (tgt := 462) hx hb dL_law_455 (by decide) (fun _ => ?_) (fun h => absurd h (by decide))
      refine lv_iconst (v := 0) hx hb dL_law_462 (by decide) ?_
      refine lv_iadd hx hb dL_law_463 ?_
      rw [show ((((lE I 0 k)) + 0) : Int32) = lE I 0 (k + 1) from lE_0 (by rw [e1]; decide)]
      refine lv_istore (lv' := [(18, .int (lE I 0 (k + 1))), (17, .int (lE I 2 (k + 1))), (16, .int (lS I 6 (k + 1))), (15, .int (lS I 3 (k + 1))), (14, .int (lS I 2 (k + 1))), (21, .int (nI pv)), (20, .int (nI 1)), (19, .int (nI k)), (12, .int (aS I a)), (11, .int (tS I 7 a)), (10, .int (tS I 2 a)), (9, .int (tS I 0 a)), (8, .int (tS I 6 a)), (7, .int (tS I 5 a)), (13, .ref a1), (6, .int (nI lo)), (5, .int (nI a)), (4, .int xv), (3, .int (nI ti)), (2, .ref (D 0 0)), (1, .ref (gA E 2 10 0)), (0, .ref b)]) hx hb dL_law_464 hl (by decide) rfl (fun ls hl => ?_)
      refine lv_iload hx hb dL_law_466 (lv_at hl 6 rfl) ?_
      refine lv_if_lt (tgt := 608) hx hb dL_law_468 (by decide) (fun h => absurd h (by decide)) (fun _ => ?_)
      refine lv_iload hx hb dL_law_471 (lv_at hl 6 rfl) ?_
      refine lv_iconst (v := 2) hx hb dL_law_473 (by decide) ?_
      refine lv_icmp_gt (tgt := 608) hx hb dL_law_474 (by decide) (fun h => absurd h (by decide)) (fun _ => ?_)
      refine lv_iload hx hb dL_law_477 (lv_at hl 5 rfl) ?_
      refine lv_aload_n hx hb dL_law_479 rfl (lv_at hl 20 rfl) ?_
      refine lv_iload hx hb dL_law_480 (lv_at hl 7 rfl) ?_
      refine lv_iconst (v := 0) hx hb dL_law_482 (by decide) ?_
      obtain ⟨x0, xv0⟩ := zA_load' (I := I) (x := 0) 0 hlo (show k < lo by omega) l10 rfl (by decide)
      refine v_kn hG (l_runVX (As := [.int (nI k), .int 0]) (rest := [.int (nI pv)]) K hml ca_X4_load q275 (m_X4_load l E J I ((nI k)) 0 hw0 hfl) hG.1.1 hS rfl rfl hl.1 (Nat.le_of_ble_eq_true rfl) ⟨by decide, by decide⟩ dL_law_483 ⟨by show _ + 2 ≤ 600172; omega, by show _ + 6 * 2 ≤ 7300668; omega⟩) hS rfl x0 (fun H locs hG hS => ?_)
      rw [xv0]
      rw [e0]
      refine lv_icmp_gt (tgt := 608) hx hb dL_law_486 (by decide) (fun h => absurd h (nI_nlt pw (by omega))) (fun _ => ?_)
      refine lv_iload hx hb dL_law_489 (lv_at hl 6 rfl) ?_
      refine lv_if_ne (tgt := 510) hx hb dL_law_491 (by decide) (fun _ => ?_) (fun h => absurd h (by decide))
      refine lv_iload hx hb dL_law_510 (lv_at hl 6 rfl) ?_
      refine lv_iconst (v := 2) hx hb dL_law_512 (by decide) ?_
      refine lv_icmp_ne (tgt := 528) hx hb dL_law_513 (by decide) (fun _ => ?_) (fun h => absurd h (by decide))
      refine lv_aload_n hx hb dL_law_528 rfl (lv_at hl 20 rfl) ?_
      refine lv_iload hx hb dL_law_529 (lv_at hl 7 rfl) ?_
      refine lv_iconst (v := 5) hx hb dL_law_531 (by decide) ?_
      obtain ⟨x0, xv0⟩ := zA_load' (I := I) (x := 5) 5 hlo (show k < lo by omega) l10 rfl (by decide)
      refine v_kn hG (l_runVX (As := [.int (nI k), .int 5]) (rest := []) K hml ca_X4_load q275 (m_X4_load l E J I ((nI k)) 5 hw0 hfl) hG.1.1 hS rfl rfl hl.1 (Nat.le_of_ble_eq_true rfl) ⟨by decide, by decide⟩ dL_law_532 ⟨by show _ + 2 ≤ 600172; omega, by show _ + 6 * 2 ≤ 7300668; omega⟩) hS rfl x0 (fun H locs hG hS => ?_)
      rw [xv0]
      refine lv_if_lt (tgt := 542) hx hb dL_law_535 (by decide) (fun _ => ?_) (fun h => absurd (i5.mp (Int32.not_lt.mp h)) (by decide))
      refine lv_iconst (v := 0) hx hb dL_law_542 (by decide) ?_
      refine lv_iload hx hb dL_law_543 (lv_at hl 6 rfl) ?_
      refine lv_iconst (v := 2) hx hb dL_law_545 (by decide) ?_
      refine lv_icmp_ne (tgt := 553) hx hb dL_law_546 (by decide) (fun _ => ?_) (fun h => absurd h (by decide))
      refine lv_iconst (v := 0) hx hb dL_law_553 (by decide) ?_
      refine lv_icmp_ne (tgt := 608) hx hb dL_law_554 (by decide) (fun h => absurd rfl h) (fun _ => ?_)
      refine lv_iload hx hb dL_law_557 (lv_at hl 6 rfl) ?_
      refine lv_iconst (v := 2) hx hb dL_law_559 (by decide) ?_
      refine lv_icmp_ne (tgt := 595) hx hb dL_law_560 (by decide) (fun _ => ?_) (fun h => absurd h (by decide))
      refine lv_aload_n hx hb dL_law_595 rfl (lv_at hl 20 rfl) ?_
      refine lv_iload hx hb dL_law_596 (lv_at hl 7 rfl) ?_
      refine lv_iconst (v := 2) hx hb dL_law_598 (by decide) ?_
      obtain ⟨x0, xv0⟩ := zA_load' (I := I) (x := 2) 2 hlo (show k < lo by omega) l10 rfl (by decide)
      refine v_kn hG (l_runVX (As := [.int (nI k), .int 2]) (rest := []) K hml ca_X4_load q275 (m_X4_load l E J I ((nI k)) 2 hw0 hfl) hG.1.1 hS rfl rfl hl.1 (Nat.le_of_ble_eq_true rfl) ⟨by decide, by decide⟩ dL_law_599 ⟨by show _ + 2 ≤ 600172; omega, by show _ + 6 * 2 ≤ 7300668; omega⟩) hS rfl x0 (fun H locs hG hS => ?_)
      rw [xv0]
      rw [eq]
      refine lv_iconst (v := 2) hx hb dL_law_602 (by decide) ?_
      refine lv_irem hx hb dL_law_603 (by decide) ?_
      rw [show (nI q - nI q / 2 * 2 : Int32) = nI (q % 2) from pk_rem (d := 2) (by omega) (by decide) (by decide), qo]
      refine lv_iconst (v := 1) hx hb dL_law_604 (by decide) ?_
      refine lv_icmp_eq (tgt := 610) hx hb dL_law_605 (by decide) (fun _ => ?_) (fun h => absurd rfl h)
      refine lv_iinc (v := nI (k + 1)) (lv' := [(19, .int (nI (k + 1))), (18, .int (lE I 0 (k + 1))), (17, .int (lE I 2 (k + 1))), (16, .int (lS I 6 (k + 1))), (15, .int (lS I 3 (k + 1))), (14, .int (lS I 2 (k + 1))), (21, .int (nI pv)), (20, .int (nI 1)), (12, .int (aS I a)), (11, .int (tS I 7 a)), (10, .int (tS I 2 a)), (9, .int (tS I 0 a)), (8, .int (tS I 6 a)), (7, .int (tS I 5 a)), (13, .ref a1), (6, .int (nI lo)), (5, .int (nI a)), (4, .int xv), (3, .int (nI ti)), (2, .ref (D 0 0)), (1, .ref (gA E 2 10 0)), (0, .ref b)]) hx hb dL_law_610 hl (k := 7) rfl (nI_add k 1) (by decide) rfl (fun ls hl => ?_)
      refine lv_goto (tgt := 378) hx hb dL_law_613 (by decide) ?_
      exact ih (k + 1) H locs _ _ ls (by omega) (by omega) (by omega) hG hS (lv_sub hl [0, 1, 2, 3, 4, 5, 8, 9, 10, 11, 12, 13, 14, 15, 16, 17, 18, 19, 20, 21] rfl)
    · refine lv_iload hx hb dL_law_435 (lv_at hl 7 rfl) ?_
      refine lv_iload hx hb dL_law_437 (lv_at hl 4 rfl) ?_
      refine lv_iconst (v := 2) hx hb dL_law_439 (by decide) ?_
      refine lv_icmp_ne (tgt := 447) hx hb dL_law_440 (by decide) (fun h => absurd (by decide) h) (fun _ => ?_)
      refine lv_iconst (v := 1) hx hb dL_law_443 (by decide) ?_
      refine lv_goto (tgt := 448) hx hb dL_law_444 (by decide) ?_
      refine lv_iadd hx hb dL_law_448 ?_
      rw [show ((((lE I 2 k)) + 1) : Int32) = lE I 2 (k + 1) from lE_1 (by rw [e1]; rfl)]
      refine lv_istore (lv' := [(17, .int (lE I 2 (k + 1))), (16, .int (lS I 6 (k + 1))), (15, .int (lS I 3 (k + 1))), (14, .int (lS I 2 (k + 1))), (21, .int (nI pv)), (20, .int (nI 2)), (19, .int (nI k)), (18, .int (lE I 0 k)), (12, .int (aS I a)), (11, .int (tS I 7 a)), (10, .int (tS I 2 a)), (9, .int (tS I 0 a)), (8, .int (tS I 6 a)), (7, .int (tS I 5 a)), (13, .ref a1), (6, .int (nI lo)), (5, .int (nI a)), (4, .int xv), (3, .int (nI ti)), (2, .ref (D 0 0)), (1, .ref (gA E 2 10 0)), (0, .ref b)]) hx hb dL_law_449 hl (by decide) rfl (fun ls hl => ?_)
      refine lv_iload hx hb dL_law_451 (lv_at hl 7 rfl) ?_
      refine lv_iload hx hb dL_law_453 (lv_at hl 5 rfl) ?_
      refine lv_if_ne (tgt := 462) hx hb dL_law_455 (by decide) (fun _ => ?_) (fun h => absurd h (by decide))
      refine lv_iconst (v := 0) hx hb dL_law_462 (by decide) ?_
      refine lv_iadd hx hb dL_law_463 ?_
      rw [show ((((lE I 0 k)) + 0) : Int32) = lE I 0 (k + 1) from lE_0 (by rw [e1]; decide)]
      refine lv_istore (lv' := [(18, .int (lE I 0 (k + 1))), (17, .int (lE I 2 (k + 1))), (16, .int (lS I 6 (k + 1))), (15, .int (lS I 3 (k + 1))), (14, .int (lS I 2 (k + 1))), (21, .int (nI pv)), (20, .int (nI 2)), (19, .int (nI k)), (12, .int (aS I a)), (11, .int (tS I 7 a)), (10, .int (tS I 2 a)), (9, .int (tS I 0 a)), (8, .int (tS I 6 a)), (7, .int (tS I 5 a)), (13, .ref a1), (6, .int (nI lo)), (5, .int (nI a)), (4, .int xv), (3, .int (nI ti)), (2, .ref (D 0 0)), (1, .ref (gA E 2 10 0)), (0, .ref b)]) hx hb dL_law_464 hl (by decide) rfl (fun ls hl => ?_)
      refine lv_iload hx hb dL_law_466 (lv_at hl 6 rfl) ?_
      refine lv_if_lt (tgt := 608) hx hb dL_law_468 (by decide) (fun h => absurd h (by decide)) (fun _ => ?_)
      refine lv_iload hx hb dL_law_471 (lv_at hl 6 rfl) ?_
      refine lv_iconst (v := 2) hx hb dL_law_473 (by decide) ?_
      refine lv_icmp_gt (tgt := 608) hx hb dL_law_474 (by decide) (fun h => absurd h (by decide)) (fun _ => ?_)
      refine lv_iload hx hb dL_law_477 (lv_at hl 5 rfl) ?_
      refine lv_aload_n hx hb dL_law_479 rfl (lv_at hl 20 rfl) ?_
      refine lv_iload hx hb dL_law_480 (lv_at hl 7 rfl) ?_
      refine lv_iconst (v := 0) hx hb dL_law_482 (by decide) ?_
      obtain ⟨x0, xv0⟩ := zA_load' (I := I) (x := 0) 0 hlo (show k < lo by omega) l10 rfl (by decide)
      refine v_kn hG (l_runVX (As := [.int (nI k), .int 0]) (rest := [.int (nI pv)]) K hml ca_X4_load q275 (m_X4_load l E J I ((nI k)) 0 hw0 hfl) hG.1.1 hS rfl rfl hl.1 (Nat.le_of_ble_eq_true rfl) ⟨by decide, by decide⟩ dL_law_483 ⟨by show _ + 2 ≤ 600172; omega, by show _ + 6 * 2 ≤ 7300668; omega⟩) hS rfl x0 (fun H locs hG hS => ?_)
      rw [xv0]
      rw [e0]
      refine lv_icmp_gt (tgt := 608) hx hb dL_law_486 (by decide) (fun h => absurd h (nI_nlt pw (by omega))) (fun _ => ?_)
      refine lv_iload hx hb dL_law_489 (lv_at hl 6 rfl) ?_
      refine lv_if_ne (tgt := 510) hx hb dL_law_491 (by decide) (fun _ => ?_) (fun h => absurd h (by decide))
      refine lv_iload hx hb dL_law_510 (lv_at hl 6 rfl) ?_
      refine lv_iconst (v := 2) hx hb dL_law_512 (by decide) ?_
      refine lv_icmp_ne (tgt := 528) hx hb dL_law_513 (by decide) (fun h => absurd (by decide) h) (fun _ => ?_)
      refine lv_iload hx hb dL_law_516 (lv_at hl 5 rfl) ?_
      refine lv_aload_n hx hb dL_law_518 rfl (lv_at hl 20 rfl) ?_
      refine lv_iload hx hb dL_law_519 (lv_at hl 7 rfl) ?_
      refine lv_iconst (v := 0) hx hb dL_law_521 (by decide) ?_
      obtain ⟨x0, xv0⟩ := zA_load' (I := I) (x := 0) 0 hlo (show k < lo by omega) l10 rfl (by decide)
      refine v_kn hG (l_runVX (As := [.int (nI k), .int 0]) (rest := [.int (nI pv)]) K hml ca_X4_load q275 (m_X4_load l E J I ((nI k)) 0 hw0 hfl) hG.1.1 hS rfl rfl hl.1 (Nat.le_of_ble_eq_true rfl) ⟨by decide, by decide⟩ dL_law_522 ⟨by show _ + 2 ≤ 600172; omega, by show _ + 6 * 2 ≤ 7300668; omega⟩) hS rfl x0 (fun H locs hG hS => ?_)
      rw [xv0]
      rw [e0]
      refine lv_icmp_ne (tgt := 608) hx hb dL_law_525 (by decide) (fun h => absurd (by rw [y2 rfl]) h) (fun _ => ?_)
      refine lv_aload_n hx hb dL_law_528 rfl (lv_at hl 20 rfl) ?_
      refine lv_iload hx hb dL_law_529 (lv_at hl 7 rfl) ?_
      refine lv_iconst (v := 5) hx hb dL_law_531 (by decide) ?_
      obtain ⟨x0, xv0⟩ := zA_load' (I := I) (x := 5) 5 hlo (show k < lo by omega) l10 rfl (by decide)
      refine v_kn hG (l_runVX (As := [.int (nI k), .int 5]) (rest := []) K hml ca_X4_load q275 (m_X4_load l E J I ((nI k)) 5 hw0 hfl) hG.1.1 hS rfl rfl hl.1 (Nat.le_of_ble_eq_true rfl) ⟨by decide, by decide⟩ dL_law_532 ⟨by show _ + 2 ≤ 600172; omega, by show _ + 6 * 2 ≤ 7300668; omega⟩) hS rfl x0 (fun H locs hG hS => ?_)
      rw [xv0]
      refine lv_if_lt (tgt := 542) hx hb dL_law_535 (by decide) (fun h => absurd (i5.mpr rfl) (Int32.not_le.mpr h)) (fun _ => ?_)
      refine lv_iconst (v := 1) hx hb dL_law_538 (by decide) ?_
      refine lv_goto (tgt := 543) hx hb dL_law_539 (by decide) ?_
      refine lv_iload hx hb dL_law_543 (lv_at hl 6 rfl) ?_
      refine lv_iconst (v := 2) hx hb dL_law_545 (by decide) ?_
      refine lv_icmp_ne (tgt := 553) hx hb dL_law_546 (by decide) (fun h => absurd (by decide) h) (fun _ => ?_)
      refine lv_iconst (v := 1) hx hb dL_law_549 (by decide) ?_
      refine lv_goto (tgt := 554) hx hb dL_law_550 (by decide) ?_
      refine lv_icmp_ne (tgt := 608) hx hb dL_law_554 (by decide) (fun h => absurd rfl h) (fun _ => ?_)
      refine lv_iload hx hb dL_law_557 (lv_at hl 6 rfl) ?_
      refine lv_iconst (v := 2) hx hb dL_law_559 (by decide) ?_
      refine lv_icmp_ne (tgt := 595) hx hb dL_law_560 (by decide) (fun h => absurd (by decide) h) (fun _ => ?_)
      obtain ⟨d45, d50⟩ := d2 rfl
      refine lv_aload_n hx hb dL_law_563 rfl (lv_at hl 20 rfl) ?_
      refine lv_iload hx hb dL_law_564 (lv_at hl 7 rfl) ?_
      refine lv_iconst (v := 5) hx hb dL_law_566 (by decide) ?_
      obtain ⟨x0, xv0⟩ := zA_load' (I := I) (x := 5) 5 hlo (show k < lo by omega) l10 rfl (by decide)
      refine v_kn hG (l_runVX (As := [.int (nI k), .int 5]) (rest := []) K hml ca_X4_load q275 (m_X4_load l E J I ((nI k)) 5 hw0 hfl) hG.1.1 hS rfl rfl hl.1 (Nat.le_of_ble_eq_true rfl) ⟨by decide, by decide⟩ dL_law_567 ⟨by show _ + 2 ≤ 600172; omega, by show _ + 6 * 2 ≤ 7300668; omega⟩) hS rfl x0 (fun H locs hG hS => ?_)
      rw [xv0]
      refine lv_aload_n hx hb dL_law_570 rfl (lv_at hl 20 rfl) ?_
      refine lv_iload hx hb dL_law_571 (lv_at hl 7 rfl) ?_
      refine lv_iconst (v := 4) hx hb dL_law_573 (by decide) ?_
      obtain ⟨x0, xv0⟩ := zA_load' (I := I) (x := 4) 4 hlo (show k < lo by omega) l10 rfl (by decide)
      refine v_kn hG (l_runVX (As := [.int (nI k), .int 4]) (rest := [.int (f_X2_tell I 0 k 5)]) K hml ca_X4_load q275 (m_X4_load l E J I ((nI k)) 4 hw0 hfl) hG.1.1 hS rfl rfl hl.1 (Nat.le_of_ble_eq_true rfl) ⟨by decide, by decide⟩ dL_law_574 ⟨by show _ + 2 ≤ 600172; omega, by show _ + 6 * 2 ≤ 7300668; omega⟩) hS rfl x0 (fun H locs hG hS => ?_)
      rw [xv0]
      refine lv_icmp_le (tgt := 608) hx hb dL_law_577 (by decide) (fun h => absurd h (Int32.not_le.mpr d45)) (fun _ => ?_)
      refine lv_aload_n hx hb dL_law_580 rfl (lv_at hl 20 rfl) ?_
      refine lv_iload hx hb dL_law_581 (lv_at hl 7 rfl) ?_
      refine lv_iconst (v := 5) hx hb dL_law_583 (by decide) ?_
      obtain ⟨x0, xv0⟩ := zA_load' (I := I) (x := 5) 5 hlo (show k < lo by omega) l10 rfl (by decide)
      refine v_kn hG (l_runVX (As := [.int (nI k), .int 5]) (rest := []) K hml ca_X4_load q275 (m_X4_load l E J I ((nI k)) 5 hw0 hfl) hG.1.1 hS rfl rfl hl.1 (Nat.le_of_ble_eq_true rfl) ⟨by decide, by decide⟩ dL_law_584 ⟨by show _ + 2 ≤ 600172; omega, by show _ + 6 * 2 ≤ 7300668; omega⟩) hS rfl x0 (fun H locs hG hS => ?_)
      rw [xv0]
      refine lv_aload_n hx hb dL_law_587 rfl (lv_at hl 20 rfl) ?_
      refine lv_iconst (v := 0) hx hb dL_law_588 (by decide) ?_
      obtain ⟨x0, xv0⟩ := zA_count' (I := I) (x := 0) 0 rfl (by decide)
      refine v_kn hG (l_runVX (As := [.int 0]) (rest := [.int (f_X2_tell I 0 k 5)]) K hml ca_X4_count q289 (m_X4_count l E J I 0 hw0 hfl) hG.1.1 hS rfl rfl hl.1 (Nat.le_of_ble_eq_true rfl) ⟨by decide, by decide⟩ dL_law_589 ⟨by show _ + 1 ≤ 600172; omega, by show _ + 6 * 1 ≤ 7300668; omega⟩) hS rfl x0 (fun H locs hG hS => ?_)
      rw [xv0]
      refine lv_icmp_ge (tgt := 608) hx hb dL_law_592 (by decide) (fun h => absurd h (Int32.not_le.mpr d50)) (fun _ => ?_)
      refine lv_aload_n hx hb dL_law_595 rfl (lv_at hl 20 rfl) ?_
      refine lv_iload hx hb dL_law_596 (lv_at hl 7 rfl) ?_
      refine lv_iconst (v := 2) hx hb dL_law_598 (by decide) ?_
      obtain ⟨x0, xv0⟩ := zA_load' (I := I) (x := 2) 2 hlo (show k < lo by omega) l10 rfl (by decide)
      refine v_kn hG (l_runVX (As := [.int (nI k), .int 2]) (rest := []) K hml ca_X4_load q275 (m_X4_load l E J I ((nI k)) 2 hw0 hfl) hG.1.1 hS rfl rfl hl.1 (Nat.le_of_ble_eq_true rfl) ⟨by decide, by decide⟩ dL_law_599 ⟨by show _ + 2 ≤ 600172; omega, by show _ + 6 * 2 ≤ 7300668; omega⟩) hS rfl x0 (fun H locs hG hS => ?_)
      rw [xv0]
      rw [eq]
      refine lv_iconst (v := 2) hx hb dL_law_602 (by decide) ?_
      refine lv_irem hx hb dL_law_603 (by decide) ?_
      rw [show (nI q - nI q / 2 * 2 : Int32) = nI (q % 2) from pk_rem (d := 2) (by omega) (by decide) (by decide), qo]
      refine lv_iconst (v := 1) hx hb dL_law_604 (by decide) ?_
      refine lv_icmp_eq (tgt := 610) hx hb dL_law_605 (by decide) (fun _ => ?_) (fun h => absurd rfl h)
      refine lv_iinc (v := nI (k + 1)) (lv' := [(19, .int (nI (k + 1))), (18, .int (lE I 0 (k + 1))), (17, .int (lE I 2 (k + 1))), (16, .int (lS I 6 (k + 1))), (15, .int (lS I 3 (k + 1))), (14, .int (lS I 2 (k + 1))), (21, .int (nI pv)), (20, .int (nI 2)), (12, .int (aS I a)), (11, .int (tS I 7 a)), (10, .int (tS I 2 a)), (9, .int (tS I 0 a)), (8, .int (tS I 6 a)), (7, .int (tS I 5 a)), (13, .ref a1), (6, .int (nI lo)), (5, .int (nI a)), (4, .int xv), (3, .int (nI ti)), (2, .ref (D 0 0)), (1, .ref (gA E 2 10 0)), (0, .ref b)]) hx hb dL_law_610 hl (k := 7) rfl (nI_add k 1) (by decide) rfl (fun ls hl => ?_)
      refine lv_goto (tgt := 378) hx hb dL_law_613 (by decide) ?_
      exact ih (k + 1) H locs _ _ ls (by omega) (by omega) (by omega) hG hS (lv_sub hl [0, 1, 2, 3, 4, 5, 8, 9, 10, 11, 12, 13, 14, 15, 16, 17, 18, 19, 20, 21] rfl)
end LG
