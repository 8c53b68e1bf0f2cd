/-! PRINTED by wip/gen21/same2.py: THE SIM'S isSame, whole -/
theorem i32_dec (x : Int32) : x + Int32.ofInt (-1) = x - 1 := by
  show x + (-1) = x - 1
  grind
set_option maxHeartbeats 4000000 in
set_option maxRecDepth 100000 in
theorem m_S_isSame (l : Launch) (E : gE) (F : Nat → Prop) (J : Int64) (D : sD) (I : gI) (n : Nat) (hA : ∀ q, F q → gN E ≤ q) (hj : jR n 0 I) (hfl : l.stackTraces = false) :
    Met l yX5_isSame (gws yX5_isSame cX5_isSame 9 (some .boolean)) eRm (va_Pc [.ref (D 0 0), .ref (gA E 2 10 0)] (fun U => LW E F J D I U.heap ∧ sK E U)) (va_Qi (fun v (_ : Unit) => v = 1) (fun _ _ => True) (gH E)) 400 2400 (gH E) := by
  refine n_entry (E := E) (lv := [(0, .ref (D 0 0)), (1, .ref (gA E 2 10 0))]) (by decide) (Nat.le_of_ble_eq_true rfl) rfl (fun U h => h.2.1) ?_
  intro p e s m below meth c ls K hP hS hml hr hlocks hl
  have K : kx E p m c cX5_isSame "HayThievesLaw$Sim" ([.ref (D 0 0), .ref (gA E 2 10 0)] : List Value).toArray s := K
  obtain ⟨hL, -, hAO⟩ := hP
  have hx := K.1
  have hb := K.2.1
  obtain ⟨o1, v9, cw, -, -⟩ := hj.counts (by decide)
  have hj1 := hj.cts (by decide)
  have c9 : cnt (I 5) 9 = 0 := by show (I 5 1 9 0).toNatClampNeg = _; rw [v9]; rfl
  obtain ⟨o2, o3, o4⟩ := o1
  obtain ⟨I1, hI1⟩ : ∃ X, X = f_S_counts I := ⟨_, rfl⟩
  rw [← hI1] at o3 o4 hj1
  rw [c9] at o3 o4
  have ct : ∀ w, w < 13 → I1 5 9 0 w = f_X3_tell I1 0 (nI w) := fun w hw => by
    rw [hI1, cw w hw]
    exact (zy_X3 (ne_S_counts I (by decide)) _).symm
  obtain ⟨a, b, ⟨a6, b10, ha, hbb, c2, c3, c4⟩, hLad, hLoad, hTh⟩ := hj1.same (by decide)
  obtain ⟨a', b', a'6, b'10, va, -, vb, ha', hb', -⟩ := hj1.cnts
  have ea : a' = a := by rw [ha] at ha'; exact ((nI_eq (by omega) (by omega)).mp ha').symm
  have eb : b' = b := by rw [hbb] at hb'; exact ((nI_eq (by omega) (by omega)).mp hb').symm
  rw [ea] at va
  rw [eb] at vb
  have hw1 := hj1.w0
  have X : eX p l s m c E F I1 ([.ref (D 0 0), .ref (gA E 2 10 0)] : List Value).toArray := ⟨K, hAO, hml, hfl, hA, hw1⟩
  have hgF := hL.2.2
  refine lv_aload_n hx hb dX5_isSame_0 rfl (lv_at hl 0 rfl) ?_
  refine l_sr hA (s_runV (As := []) (rest := []) K hAO gH_ge hml ca_X5_counts q516 (m_S_counts l E F J D I hA o2) hL hL hS rfl rfl hl.1 (Nat.le_of_ble_eq_true rfl) ⟨by decide, by decide⟩ dX5_isSame_1 ⟨Nat.le_of_ble_eq_true rfl, Nat.le_of_ble_eq_true rfl⟩) hS (fun D1 hD1 H locs hG hS => ?_)
  rw [← hI1] at hG
  rw [c9]
  rw [← hD1.1] at hl
  have hG := LV.of hG
  refine lv_astore_n (lv' := [(2, .ref (D1 9 0)), (0, .ref (D1 0 0)), (1, .ref (gA E 2 10 0))]) hx hb dX5_isSame_4 rfl hl (by decide) rfl (fun ls hl => ?_)
  refine lv_iconst (v := 0) hx hb dX5_isSame_5 (by decide) ?_
  refine lv_istore_n (lv' := [(3, .int 0), (2, .ref (D1 9 0)), (0, .ref (D1 0 0)), (1, .ref (gA E 2 10 0))]) hx hb dX5_isSame_6 rfl hl (by decide) rfl (fun ls hl => ?_)
  have fin : ∀ (q4 : Int32) (H : Heap) (locs : List Loc) (cells slots : Nat) (ls : Array Slot), cells ≤ 400 → slots ≤ 2400 → LV E F J D1 I1 [] H → va_S (gH E) s.heap H locs → lv_has ls 9 [(4, .int q4), (3, .int (f_X4_thief I1)), (2, .ref (D1 9 0)), (0, .ref (D1 0 0)), (1, .ref (gA E 2 10 0))] → W p l e eRm s m ([.ref (D 0 0), .ref (gA E 2 10 0)] : List Value).toArray below meth c H locs (cells) (slots) (MQ below (va_Qi (fun v (_ : Unit) => v = 1) (fun _ _ => True) (gH E)) ([.ref (D 0 0), .ref (gA E 2 10 0)] : List Value).toArray s 400 2400 (gH E)) (F0 m 457 ls []) := by
    intro q4 H locs cells slots ls hc hs hG hS hl
    refine lv_aload_n hx hb dX5_isSame_457 rfl (lv_at hl 4 rfl) ?_
    refine v_ki hG (l_runV (As := []) (rest := []) K hml ca_X4_thief q573 (m_X4_thief l E J I1 hw1) hG.1.1 hS rfl rfl hl.1 (Nat.le_of_ble_eq_true rfl) ⟨by decide, by decide⟩ dX5_isSame_458 ⟨hc, hs⟩) hS rfl (fun H locs hG hS => ?_)
    refine lv_iload_n hx hb dX5_isSame_461 rfl (lv_at hl 1 rfl) ?_
    refine lv_icmp_ne (tgt := 501) hx hb dX5_isSame_462 (by decide) (fun h => absurd rfl h) (fun _ => ?_)
    refine lv_aload_n hx hb dX5_isSame_465 rfl (lv_at hl 4 rfl) ?_
    refine v_kd hG (l_runV (As := []) (rest := []) K hml ca_X4_mean q577 (m_X4_mean l E J I1 hw1) hG.1.1 hS rfl rfl hl.1 (Nat.le_of_ble_eq_true rfl) ⟨by decide, by decide⟩ dX5_isSame_466 ⟨hc, hs⟩) hS rfl (fun H locs hG hS => ?_)
    refine lv_aload_n hx hb dX5_isSame_469 rfl (lv_at hl 3 rfl) ?_
    refine sg_X5_15 K hG.1 dX5_isSame_470 ?_
    refine s_alen1 K hG.1 (t := 2) (by decide) dX5_isSame_473 ?_
    rw [va]
    refine lv_if_ne (tgt := 481) hx hb dX5_isSame_474 (by decide) (fun h0 => ?_) (fun h0 => ?_)
    · refine lv_aload_n hx hb dX5_isSame_481 rfl (lv_at hl 2 rfl) ?_
      refine lv_bipush (v := 10) hx hb dX5_isSame_482 (by decide) ?_
      refine s_iald K hG.1 (t := 9) (i := 0) (by decide) (by rw [o3]; decide) (by rw [o4]; exact show vp_in (nI 10) 13 from vp_in_nI (by decide) (by decide)) dX5_isSame_484 ?_
      rw [show (10 : Int32).toNatClampNeg = 10 from rfl, ct 10 (by decide)]
      refine lv_i2d hx hb dX5_isSame_485 ?_
      refine lv_aload_n hx hb dX5_isSame_486 rfl (lv_at hl 3 rfl) ?_
      refine sg_X5_15 K hG.1 dX5_isSame_487 ?_
      refine s_alen1 K hG.1 (t := 2) (by decide) dX5_isSame_490 ?_
      rw [va]
      refine lv_i2d hx hb dX5_isSame_491 ?_
      refine lv_ddiv hx hb dX5_isSame_492 (dd_ne _ h0) ?_
      rw [show f_X4_mean I1 = FP.ddiv (FP.i2d (f_X3_tell I1 0 (nI 10))) (FP.i2d (nI a)) by unfold f_X4_mean; rw [ha, if_neg h0]; rfl]
      refine lv_dcmp hx hb dX5_isSame_493 ?_
      rw [dd_cmp (dd_ne _ h0)]
      refine lv_if_ne (tgt := 501) hx hb dX5_isSame_494 (by decide) (fun h => absurd rfl h) (fun _ => ?_)
      refine lv_iconst (v := 1) hx hb dX5_isSame_497 (by decide) ?_
      refine lv_goto (tgt := 502) hx hb dX5_isSame_498 (by decide) ?_
      exact W.widen (k := 400) (n := 2400) hc hs (W.zret hx hb hr (by show Value.int (vp_nar .boolean 1) = _; rfl) (fun t ht hW => ⟨⟨1, (), rfl, rfl, trivial⟩, hS.F ht⟩) hS.2.2 dX5_isSame_502 hlocks)
    · refine lv_dconst0 hx hb dX5_isSame_477 ?_
      refine lv_goto (tgt := 493) hx hb dX5_isSame_478 (by decide) ?_
      rw [show f_X4_mean I1 = FP.dconst0 by unfold f_X4_mean; rw [ha, if_pos h0]]
      refine lv_dcmp hx hb dX5_isSame_493 ?_
      rw [dd_cmp dd_0]
      refine lv_if_ne (tgt := 501) hx hb dX5_isSame_494 (by decide) (fun h => absurd rfl h) (fun _ => ?_)
      refine lv_iconst (v := 1) hx hb dX5_isSame_497 (by decide) ?_
      refine lv_goto (tgt := 502) hx hb dX5_isSame_498 (by decide) ?_
      exact W.widen (k := 400) (n := 2400) hc hs (W.zret hx hb hr (by show Value.int (vp_nar .boolean 1) = _; rfl) (fun t ht hW => ⟨⟨1, (), rfl, rfl, trivial⟩, hS.F ht⟩) hS.2.2 dX5_isSame_502 hlocks)
  have loopC : ∀ (r k : Nat) (H : Heap) (locs : List Loc) (cells slots : Nat) (ls : Array Slot), k + r = b → cells + 15 * r ≤ 400 → slots + 91 * r ≤ 2400 → LV E F J D1 I1 [] H → va_S (gH E) s.heap H locs → lv_has ls 9 [(4, .int (nI k)), (3, .int (f_X4_thief I1)), (2, .ref (D1 9 0)), (0, .ref (D1 0 0)), (1, .ref (gA E 2 10 0))] → W p l e eRm s m ([.ref (D 0 0), .ref (gA E 2 10 0)] : List Value).toArray below meth c H locs (cells) (slots) (MQ below (va_Qi (fun v (_ : Unit) => v = 1) (fun _ _ => True) (gH E)) ([.ref (D 0 0), .ref (gA E 2 10 0)] : List Value).toArray s 400 2400 (gH E)) (F0 m 327 ls []) := by
    intro r
    induction r with
    | zero =>
      intro k H locs cells slots ls hk hc hs hG hS hl
      refine lv_iload hx hb dX5_isSame_327 (lv_at hl 0 rfl) ?_
      refine lv_aload_n hx hb dX5_isSame_329 rfl (lv_at hl 3 rfl) ?_
      refine sg_X5_22 K hG.1 dX5_isSame_330 ?_
      refine s_alen1 K hG.1 (t := 4) (by decide) dX5_isSame_333 ?_
      rw [vb]
      refine lv_icmp_ge (tgt := 457) hx hb dX5_isSame_334 (by decide) (fun _ => ?_) (fun h => absurd (nI_le (show b ≤ k by omega) (by omega)) h)
      exact fin _ H locs cells slots ls hc hs hG hS hl
    | succ r ih =>
      intro k H locs cells slots ls hk hc hs hG hS hl
      refine lv_iload hx hb dX5_isSame_327 (lv_at hl 0 rfl) ?_
      refine lv_aload_n hx hb dX5_isSame_329 rfl (lv_at hl 3 rfl) ?_
      refine sg_X5_22 K hG.1 dX5_isSame_330 ?_
      refine s_alen1 K hG.1 (t := 4) (by decide) dX5_isSame_333 ?_
      rw [vb]
      refine lv_icmp_ge (tgt := 457) hx hb dX5_isSame_334 (by decide) (fun h => absurd h (nI_ge (by omega) (by omega))) (fun _ => ?_)
      refine sm_told2 X (show k < b by omega) b10 c4 (hLoad k (by omega)) hG hS hl (by omega) (by omega) (fun a9 f H locs ls hf hG hS hl => ?_)
      refine lv_iconst (v := 0) hx hb dX5_isSame_417 (by decide) ?_
      refine lv_istore (lv' := [(7, .int 0), (6, .ref a9), (5, .ref (D1 4 k)), (4, .int (nI k)), (3, .int (f_X4_thief I1)), (2, .ref (D1 9 0)), (0, .ref (D1 0 0)), (1, .ref (gA E 2 10 0))]) hx hb dX5_isSame_418 hl (by decide) rfl (fun ls hl => ?_)
      refine sm_loads (CB := fun c9 s9 => c9 ≤ cells + 1 + 2 * 7 ∧ s9 ≤ slots + 7 + 12 * 7) X (F' := fun q => F q ∧ q ≠ a9) (bz := 0) (fun q h => hA q h.1) (show k < b by omega) b10 hbb hf (fun H locs cells slots ls hc hs hG hS hl hB => ?_) 7 0 H locs _ _ ls (by omega) (by omega) (by omega) ⟨Nat.le_refl _, Nat.le_refl _⟩ hG hS hl
      obtain ⟨hB1, hB2⟩ := hB
      refine lv_iinc (v := nI (k + 1)) (lv' := [(4, .int (nI (k + 1))), (6, .ref a9), (5, .ref (D1 4 k)), (3, .int (f_X4_thief I1)), (2, .ref (D1 9 0)), (0, .ref (D1 0 0)), (1, .ref (gA E 2 10 0))]) hx hb dX5_isSame_451 hl (k := 2) rfl (nI_add k 1) (by decide) rfl (fun ls hl => ?_)
      refine lv_goto (tgt := 327) hx hb dX5_isSame_454 (by decide) ?_
      exact ih (k + 1) H locs _ _ ls (by omega) (by omega) (by omega) (LV.of (hG.1.wide (fun q h => h.1) hgF)) hS (lv_sub hl [0, 3, 4, 5, 6] rfl)
  have loopB : ∀ (k : Nat) (t : Int32) (H : Heap) (locs : List Loc) (cells slots : Nat) (ls : Array Slot), k ≤ a → (t = -1 ∨ ∃ v, v < a ∧ t = nI v) → thS (I1 5) k t = f_X4_thief I1 → cells + 36 * k ≤ 230 → slots + 219 * k ≤ 1405 → LV E F J D1 I1 [] H → va_S (gH E) s.heap H locs → lv_has ls 9 [(4, .int (nI k - 1)), (3, .int t), (2, .ref (D1 9 0)), (0, .ref (D1 0 0)), (1, .ref (gA E 2 10 0))] → W p l e eRm s m ([.ref (D 0 0), .ref (gA E 2 10 0)] : List Value).toArray below meth c H locs (cells) (slots) (MQ below (va_Qi (fun v (_ : Unit) => v = 1) (fun _ _ => True) (gH E)) ([.ref (D 0 0), .ref (gA E 2 10 0)] : List Value).toArray s 400 2400 (gH E)) (F0 m 43 ls []) := by
    intro k
    induction k with
    | zero =>
      intro t H locs cells slots ls hk htv hT hc hs hG hS hl
      have hT : t = f_X4_thief I1 := hT
      rw [hT] at hl
      refine lv_iload hx hb dX5_isSame_43 (lv_at hl 0 rfl) ?_
      refine lv_if_lt (tgt := 324) hx hb dX5_isSame_45 (by decide) (fun _ => ?_) (fun h => absurd (by decide) h)
      refine lv_iconst (v := 0) hx hb dX5_isSame_324 (by decide) ?_
      refine lv_istore (lv' := [(4, .int 0), (3, .int (f_X4_thief I1)), (2, .ref (D1 9 0)), (0, .ref (D1 0 0)), (1, .ref (gA E 2 10 0))]) hx hb dX5_isSame_325 hl (by decide) rfl (fun ls hl => ?_)
      exact loopC b 0 H locs cells slots ls (by omega) (by omega) (by omega) hG hS hl
    | succ k ih =>
      intro t H locs cells slots ls hk htv hT hc hs hG hS hl
      rw [nI_pred] at hl
      refine lv_iload hx hb dX5_isSame_43 (lv_at hl 0 rfl) ?_
      refine lv_if_lt (tgt := 324) hx hb dX5_isSame_45 (by decide) (fun h => absurd h (nI_pos (by omega))) (fun _ => ?_)
      refine sm_told X (show k < a by omega) a6 c2 c3 (hLad k (by omega)) hG hS hl (by omega) (by omega) (fun a9 f bz H locs ls hf hG hS hl => ?_)
      refine lv_iconst (v := 0) hx hb dX5_isSame_193 (by decide) ?_
      refine lv_istore (lv' := [(8, .int 0), (7, .ref a9), (6, .int bz), (5, .ref (D1 2 k)), (4, .int (nI k)), (3, .int t), (2, .ref (D1 9 0)), (0, .ref (D1 0 0)), (1, .ref (gA E 2 10 0))]) hx hb dX5_isSame_194 hl (by decide) rfl (fun ls hl => ?_)
      have hA9 : ∀ q, F q ∧ q ≠ a9 → gN E ≤ q := fun q h => hA q h.1
      refine sm_lads (CB := fun c9 s9 => c9 ≤ cells + 1 + 2 * 9 ∧ s9 ≤ slots + 9 + 12 * 9) X (F' := fun q => F q ∧ q ≠ a9) hA9 (show k < a by omega) a6 ha hf (fun H locs cells1 slots1 ls hc1 hs1 hG hS hl hB => ?_) 9 0 H locs _ _ ls (by omega) (by omega) (by omega) ⟨Nat.le_refl _, Nat.le_refl _⟩ hG hS hl
      obtain ⟨hB1, hB2⟩ := hB
      refine lv_iconst (v := 0) hx hb dX5_isSame_227 (by decide) ?_
      refine lv_istore (lv' := [(8, .int 0), (7, .ref a9), (6, .int bz), (5, .ref (D1 2 k)), (4, .int (nI k)), (3, .int t), (2, .ref (D1 9 0)), (0, .ref (D1 0 0)), (1, .ref (gA E 2 10 0))]) hx hb dX5_isSame_228 hl (by decide) rfl (fun ls hl => ?_)
      have hJ := hLad k (by omega)
      have r8 := hJ.2.2.2.2.2.2.1.1
      refine sm_cart (CB := fun c9 s9 => c9 ≤ cells + 35 ∧ s9 ≤ slots + 213) X (show k < a by omega) a6 c3 hJ (fun H locs cells2 slots2 ls hc2 hs2 hG hS hl hB => ?_) (rln (I1 5) 3 k) 0 H locs _ _ ls (by omega) (by omega) (by omega) ⟨by omega, by omega⟩ hG hS hl
      obtain ⟨hB3, hB4⟩ := hB
      obtain ⟨x0, xv, xo⟩ := hJ.2.2.2.2.2.2.2
      refine lv_aload_n hx hb dX5_isSame_279 rfl (lv_at hl 7 rfl) ?_
      refine lv_iload hx hb dX5_isSame_280 (lv_at hl 3 rfl) ?_
      refine v_kn hG (l_runVX (As := [.int (nI k)]) (rest := []) K hml ca_X4_victim q567 (m_X4_victim l E J I1 (nI k) hw1 hfl) hG.1.1 hS rfl rfl hl.1 (Nat.le_of_ble_eq_true rfl) ⟨by decide, by decide⟩ dX5_isSame_282 ⟨by show cells2 + 1 ≤ 400; omega, by show slots2 + 6 * 1 ≤ 2400; omega⟩) hS rfl x0 (fun H locs hG hS => ?_)
      rw [xv]
      refine lv_aload_n hx hb dX5_isSame_285 rfl (lv_at hl 6 rfl) ?_
      refine lv_iload hx hb dX5_isSame_286 (lv_at hl 3 rfl) ?_
      refine v_si hA9 hG (s_runV (As := [.int (nI k)]) (rest := [.int (f_S_victim I1 k)]) K hAO gH_ge hml ca_X5_victim q552 (m_S_victim l E (fun q => F q ∧ q ≠ a9) J D1 I1 k hA9 (by omega) xo) hG.1 hG.1 hS rfl rfl hl.1 (Nat.le_of_ble_eq_true rfl) ⟨by decide, by decide⟩ dX5_isSame_288 ⟨by show cells2 + 1 + 0 ≤ 400; omega, by show slots2 + 6 * 1 + 0 ≤ 2400; omega⟩) hS (fun H locs hG hS => ?_)
      refine lv_icmp_eq (tgt := 296) hx hb dX5_isSame_291 (by decide) (fun _ => ?_) (fun h => absurd rfl h)
      simp only [thS] at hT
      refine lv_iload_n hx hb dX5_isSame_296 rfl (lv_at hl 4 rfl) ?_
      refine lv_if_lt (tgt := 315) hx hb dX5_isSame_297 (by decide) (fun ht => ?_) (fun ht => ?_)
      · refine lv_iload hx hb dX5_isSame_315 (lv_at hl 3 rfl) ?_
        refine lv_istore_n (lv' := [(3, .int (nI k)), (7, .ref a9), (6, .int bz), (5, .ref (D1 2 k)), (4, .int (nI k)), (2, .ref (D1 9 0)), (0, .ref (D1 0 0)), (1, .ref (gA E 2 10 0))]) hx hb dX5_isSame_317 rfl hl (by decide) rfl (fun ls hl => ?_)
        refine lv_iinc (v := nI k - 1) (lv' := [(4, .int (nI k - 1)), (3, .int (nI k)), (7, .ref a9), (6, .int bz), (5, .ref (D1 2 k)), (2, .ref (D1 9 0)), (0, .ref (D1 0 0)), (1, .ref (gA E 2 10 0))]) hx hb dX5_isSame_318 hl (k := 4) rfl (i32_dec _) (by decide) rfl (fun ls hl => ?_)
        refine lv_goto (tgt := 43) hx hb dX5_isSame_321 (by decide) ?_
        exact ih (nI k) H locs _ _ ls (by omega) (Or.inr ⟨k, by omega, rfl⟩) (by rw [if_pos ht] at hT; exact hT) (by omega) (by omega) (LV.of (hG.1.wide (fun q h => h.1) hgF)) hS (lv_sub hl [0, 1, 5, 6, 7] rfl)
      · obtain ⟨v, hv, rfl⟩ : ∃ v, v < a ∧ t = nI v := htv.elim (fun q => absurd (by rw [q]; decide) ht) id
        rw [if_neg ht, nI_clamp (show v < 2 ^ 31 by omega)] at hT
        refine lv_aload hx hb dX5_isSame_300 (lv_at hl 2 rfl) ?_
        refine lv_iconst (v := 5) hx hb dX5_isSame_302 (by decide) ?_
        refine s_iald K hG.1 (t := 2) (i := k) (by decide) (by omega) (show vp_in (nI 5) 8 from vp_in_nI (by decide) (by decide)) dX5_isSame_303 ?_
        rw [show (5 : Int32).toNatClampNeg = 5 from rfl]
        refine lv_aload_n hx hb dX5_isSame_304 rfl (lv_at hl 6 rfl) ?_
        refine sg_X5_15 K hG.1 dX5_isSame_305 ?_
        refine lv_iload_n hx hb dX5_isSame_308 rfl (lv_at hl 4 rfl) ?_
        refine s_aald K hG.1 (t := 2) (by decide) (by rw [c2]; exact vp_in_nI hv (by omega)) dX5_isSame_309 ?_
        rw [nI_clamp (show v < 2 ^ 31 by omega)]
        refine lv_iconst (v := 5) hx hb dX5_isSame_310 (by decide) ?_
        refine s_iald K hG.1 (t := 2) (i := v) (by decide) (by omega) (show vp_in (nI 5) 8 from vp_in_nI (by decide) (by decide)) dX5_isSame_311 ?_
        rw [show (5 : Int32).toNatClampNeg = 5 from rfl]
        refine lv_icmp_lt (tgt := 318) hx hb dX5_isSame_312 (by decide) (fun hc9 => ?_) (fun hc9 => ?_)
        · refine lv_iinc (v := nI k - 1) (lv' := [(4, .int (nI k - 1)), (7, .ref a9), (6, .int bz), (5, .ref (D1 2 k)), (3, .int (nI v)), (2, .ref (D1 9 0)), (0, .ref (D1 0 0)), (1, .ref (gA E 2 10 0))]) hx hb dX5_isSame_318 hl (k := 3) rfl (i32_dec _) (by decide) rfl (fun ls hl => ?_)
          refine lv_goto (tgt := 43) hx hb dX5_isSame_321 (by decide) ?_
          exact ih (nI v) H locs _ _ ls (by omega) (Or.inr ⟨v, hv, rfl⟩) (by rw [if_neg (Int32.not_le.mpr hc9)] at hT; exact hT) (by omega) (by omega) (LV.of (hG.1.wide (fun q h => h.1) hgF)) hS (lv_sub hl [0, 4, 5, 6, 7] rfl)
        · refine lv_iload hx hb dX5_isSame_315 (lv_at hl 3 rfl) ?_
          refine lv_istore_n (lv' := [(3, .int (nI k)), (7, .ref a9), (6, .int bz), (5, .ref (D1 2 k)), (4, .int (nI k)), (2, .ref (D1 9 0)), (0, .ref (D1 0 0)), (1, .ref (gA E 2 10 0))]) hx hb dX5_isSame_317 rfl hl (by decide) rfl (fun ls hl => ?_)
          refine lv_iinc (v := nI k - 1) (lv' := [(4, .int (nI k - 1)), (3, .int (nI k)), (7, .ref a9), (6, .int bz), (5, .ref (D1 2 k)), (2, .ref (D1 9 0)), (0, .ref (D1 0 0)), (1, .ref (gA E 2 10 0))]) hx hb dX5_isSame_318 hl (k := 4) rfl (i32_dec _) (by decide) rfl (fun ls hl => ?_)
          refine lv_goto (tgt := 43) hx hb dX5_isSame_321 (by decide) ?_
          exact ih (nI k) H locs _ _ ls (by omega) (Or.inr ⟨k, by omega, rfl⟩) (by rw [if_pos (Int32.not_lt.mp hc9)] at hT; exact hT) (by omega) (by omega) (LV.of (hG.1.wide (fun q h => h.1) hgF)) hS (lv_sub hl [0, 1, 5, 6, 7] rfl)
  have loopA : ∀ (r i : Nat) (H : Heap) (locs : List Loc) (cells slots : Nat) (ls : Array Slot), i + r = 13 → cells + r ≤ 14 → slots + 6 * r ≤ 91 → LV E F J D1 I1 [] H → va_S (gH E) s.heap H locs → lv_has ls 9 [(3, .int (nI i)), (2, .ref (D1 9 0)), (0, .ref (D1 0 0)), (1, .ref (gA E 2 10 0))] → W p l e eRm s m ([.ref (D 0 0), .ref (gA E 2 10 0)] : List Value).toArray below meth c H locs (cells) (slots) (MQ below (va_Qi (fun v (_ : Unit) => v = 1) (fun _ _ => True) (gH E)) ([.ref (D 0 0), .ref (gA E 2 10 0)] : List Value).toArray s 400 2400 (gH E)) (F0 m 7 ls []) := by
    intro r
    induction r with
    | zero =>
      intro i H locs cells slots ls hi hc hs hG hS hl
      refine lv_iload_n hx hb dX5_isSame_7 rfl (lv_at hl 0 rfl) ?_
      refine lv_bipush (v := 13) hx hb dX5_isSame_8 (by decide) ?_
      refine lv_icmp_ge (tgt := 32) hx hb dX5_isSame_10 (by decide) (fun _ => ?_) (fun h => absurd (show (13 : Int32) ≤ nI i by rw [show i = 13 by omega]; decide) h)
      refine lv_iconst (v := (-1)) hx hb dX5_isSame_32 (by decide) ?_
      refine lv_istore_n (lv' := [(3, .int (-1)), (2, .ref (D1 9 0)), (0, .ref (D1 0 0)), (1, .ref (gA E 2 10 0))]) hx hb dX5_isSame_33 rfl hl (by decide) rfl (fun ls hl => ?_)
      refine lv_aload_n hx hb dX5_isSame_34 rfl (lv_at hl 2 rfl) ?_
      refine sg_X5_15 K hG.1 dX5_isSame_35 ?_
      refine s_alen1 K hG.1 (t := 2) (by decide) dX5_isSame_38 ?_
      rw [va]
      refine lv_iconst (v := 1) hx hb dX5_isSame_39 (by decide) ?_
      refine lv_isub hx hb dX5_isSame_40 ?_
      refine lv_istore (lv' := [(4, .int (((nI a)) - 1)), (3, .int (-1)), (2, .ref (D1 9 0)), (0, .ref (D1 0 0)), (1, .ref (gA E 2 10 0))]) hx hb dX5_isSame_41 hl (by decide) rfl (fun ls hl => ?_)
      exact loopB a (-1) H locs cells slots ls (Nat.le_refl a) (Or.inl rfl) hTh.symm (by omega) (by omega) hG hS hl
    | succ r ih =>
      intro i H locs cells slots ls hi hc hs hG hS hl
      refine lv_iload_n hx hb dX5_isSame_7 rfl (lv_at hl 0 rfl) ?_
      refine lv_bipush (v := 13) hx hb dX5_isSame_8 (by decide) ?_
      refine lv_icmp_ge (tgt := 32) hx hb dX5_isSame_10 (by decide) (fun h => absurd h (nI_ge (b := 13) (by omega) (by decide))) (fun _ => ?_)
      refine lv_aload_n hx hb dX5_isSame_13 rfl (lv_at hl 3 rfl) ?_
      refine lv_iload_n hx hb dX5_isSame_14 rfl (lv_at hl 0 rfl) ?_
      obtain ⟨x0, xv⟩ := zA_count (I := I1) (w := i) (show i < 13 by omega)
      refine v_kn hG (l_runVX (As := [.int (nI i)]) (rest := []) K hml ca_X4_count q560 (m_X4_count l E J I1 (nI i) hw1 hfl) hG.1.1 hS rfl rfl hl.1 (Nat.le_of_ble_eq_true rfl) ⟨by decide, by decide⟩ dX5_isSame_15 ⟨by show cells + 1 ≤ 400; omega, by show slots + 6 * 1 ≤ 2400; omega⟩) hS rfl x0 (fun H locs hG hS => ?_)
      rw [xv]
      refine lv_aload_n hx hb dX5_isSame_18 rfl (lv_at hl 1 rfl) ?_
      refine lv_iload_n hx hb dX5_isSame_19 rfl (lv_at hl 0 rfl) ?_
      refine s_iald K hG.1 (t := 9) (i := 0) (by decide) (by rw [o3]; decide) (by rw [o4]; exact vp_in_nI (by omega) (by decide)) dX5_isSame_20 ?_
      rw [nI_clamp (show i < 2 ^ 31 by omega), ct i (by omega)]
      refine lv_icmp_eq (tgt := 26) hx hb dX5_isSame_21 (by decide) (fun _ => ?_) (fun h => absurd rfl h)
      refine lv_iinc (v := nI (i + 1)) (lv' := [(3, .int (nI (i + 1))), (2, .ref (D1 9 0)), (0, .ref (D1 0 0)), (1, .ref (gA E 2 10 0))]) hx hb dX5_isSame_26 hl (k := 0) rfl (nI_add i 1) (by decide) rfl (fun ls hl => ?_)
      refine lv_goto (tgt := 7) hx hb dX5_isSame_29 (by decide) ?_
      exact ih (i + 1) H locs _ _ ls (by omega) (by omega) (by omega) hG hS hl
  exact loopA 13 0 H locs 1 13 ls (by omega) (by omega) (by omega) hG hS hl
