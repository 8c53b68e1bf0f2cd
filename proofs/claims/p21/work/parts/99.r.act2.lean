/-! act, whole; its calls -/
set_option maxHeartbeats 4000000 in
set_option maxRecDepth 100000 in
theorem m_L_act (l : Launch) (E : gE) (F : Nat → Prop) (J : Int64) (D : sD) (I : gI) (n L : Nat) (x : Int32) (hA : ∀ q, F q → gN E ≤ q) (hj : jR (n + 1) L I) (hL : L ≤ 4) (hfl : l.stackTraces = false) :
    Met l yL_act (nwsH yL_act cL_act 9 (some .boolean) aHH) (rmc 8 10 2000 130) (va_Pc [.ref (gA E 2 10 0), .ref (D 0 0), .int x] (fun U => LW E F J D I U.heap ∧ sK E U)) (nQa E F J n L D) 10 2000 (gH E) := by
  refine n_entryH (E := E) (lv := [(0, .ref (gA E 2 10 0)), (1, .ref (D 0 0)), (2, .int x)]) (by decide) (Nat.le_of_ble_eq_true rfl) rfl (fun U h => h.2.1) ?_
  intro p e s m below meth c0 ls K hP hS hml hr hlocks htb hl
  have K : kx E p m c0 cL_act "HayThievesLaw" (aAv E D x) s := K
  obtain ⟨hG, -, hAO⟩ := hP
  have X : aX p l s m meth c0 E F D x := ⟨K, hAO, hml, hr, hlocks, htb, hfl, hA⟩
  have hx := K.1
  have hb := K.2.1
  obtain ⟨a, b, a6, b10, v2, -⟩ := hj.cnts
  have go : ∀ (kv : Int32) (ls : Array Slot) (locs : List Loc), ((a = 0 ∧ kv = -1) ∨ ∃ k, k < a ∧ kv = nI k) → va_S (gH E) s.heap s.heap locs → lv_has ls 9 [(4, .int kv), (3, .int (nI a)), (0, .ref (gA E 2 10 0)), (1, .ref (D 0 0)), (2, .int x)] → W p l e (rmc 8 10 2000 130) s m (aAv E D x) below meth c0 s.heap locs 0 0 (MQ below (nQa E F J n L D) (aAv E D x) s 10 2000 (gH E)) (F0 m 23 ls []) := by
    intro kv ls locs hkv hS hl
    refine lv_iload_n hx hb dL_act_23 rfl (lv_at hl 4 rfl) ?_
    refine lv_bipush (v := 11) hx hb dL_act_24 (by decide) ?_
    refine n_below K hAO hml hS (N := 11) rfl (by decide) (by decide) hl.1 (Nat.le_of_ble_eq_true rfl) ⟨by decide, by decide⟩ dL_act_26 ⟨by decide, by decide⟩ (fun w hw locs hS => ?_)
    rcases (show w = 0 ∨ w = 1 ∨ w = 2 ∨ w = 3 ∨ w = 4 ∨ w = 5 ∨ w = 6 ∨ w = 7 ∨ 8 ≤ w by omega) with e | e | e | e | e | e | e | e | e
    · subst e
      exact lv_tableIn (off := 47) (tgt := 76) hx hb dL_act_29 (by decide) (by decide) (by decide) (by decide) (act_come X hj hL hG hS v2 a6 hl)
    · subst e
      exact lv_tableIn (off := 47) (tgt := 76) hx hb dL_act_29 (by decide) (by decide) (by decide) (by decide) (act_come X hj hL hG hS v2 a6 hl)
    · subst e
      exact lv_tableIn (off := 109) (tgt := 138) hx hb dL_act_29 (by decide) (by decide) (by decide) (by decide) (act_bring X hj hL hG hS v2 a6 hl)
    · subst e
      exact lv_tableIn (off := 109) (tgt := 138) hx hb dL_act_29 (by decide) (by decide) (by decide) (by decide) (act_bring X hj hL hG hS v2 a6 hl)
    · subst e
      exact lv_tableIn (off := 109) (tgt := 138) hx hb dL_act_29 (by decide) (by decide) (by decide) (by decide) (act_bring X hj hL hG hS v2 a6 hl)
    · subst e
      exact lv_tableIn (off := 197) (tgt := 226) hx hb dL_act_29 (by decide) (by decide) (by decide) (by decide) (act_fork X hj hL hG hS v2 a6 hl)
    · subst e
      exact lv_tableIn (off := 251) (tgt := 280) hx hb dL_act_29 (by decide) (by decide) (by decide) (by decide) (act_swap X hj hL hG hS v2 a6 hkv hl)
    · subst e
      exact lv_tableIn (off := 343) (tgt := 372) hx hb dL_act_29 (by decide) (by decide) (by decide) (by decide) (act_wake X hj hL hG hS v2 a6 hkv hl)
    · exact lv_tableOut (tgt := 456) hx hb dL_act_29 (Or.inr (by rw [nI_toInt (by omega)]; omega)) (by decide) (act_way X hj hL hG hS v2 a6 hkv hl)
  refine lv_aload_n hx hb dL_act_0 rfl (lv_at hl 1 rfl) ?_
  refine sg_L_9 K hG dL_act_1 ?_
  refine s_alen1 K hG (t := 2) (by decide) dL_act_4 ?_
  rw [v2]
  refine lv_istore_n (lv' := [(3, .int (nI a)), (0, .ref (gA E 2 10 0)), (1, .ref (D 0 0)), (2, .int x)]) hx hb dL_act_5 rfl hl (by decide) rfl (fun ls hl => ?_)
  refine lv_iload_n hx hb dL_act_6 rfl (lv_at hl 0 rfl) ?_
  refine lv_if_ne (tgt := 14) hx hb dL_act_7 (by decide) (fun h => ?_) (fun h => ?_)
  · have a0 : 0 < a := Nat.pos_of_ne_zero fun z => h (by rw [z]; rfl)
    refine lv_iload_n hx hb dL_act_14 rfl (lv_at hl 3 rfl) ?_
    refine lv_iconst (v := 4) hx hb dL_act_15 (by decide) ?_
    refine lv_ishr hx hb dL_act_16 ?_
    refine lv_iload_n hx hb dL_act_17 rfl (lv_at hl 0 rfl) ?_
    refine n_below K hAO hml hS (N := a) rfl a0 (by omega) hl.1 (Nat.le_of_ble_eq_true rfl) ⟨by decide, by decide⟩ dL_act_18 ⟨by decide, by decide⟩ (fun q hq locs hS => ?_)
    refine lv_istore (lv' := [(4, .int (nI q)), (3, .int (nI a)), (0, .ref (gA E 2 10 0)), (1, .ref (D 0 0)), (2, .int x)]) hx hb dL_act_21 hl (by decide) rfl (fun ls hl => ?_)
    exact go _ ls locs (Or.inr ⟨q, hq, rfl⟩) hS hl
  · have a0 : a = 0 := (nI_eq (b := 0) (by omega) (by decide)).mp h
    refine lv_iconst (v := (-1)) hx hb dL_act_10 (by decide) ?_
    refine lv_goto (tgt := 21) hx hb dL_act_11 (by decide) ?_
    refine lv_istore (lv' := [(4, .int (-1)), (3, .int (nI a)), (0, .ref (gA E 2 10 0)), (1, .ref (D 0 0)), (2, .int x)]) hx hb dL_act_21 hl (by decide) rfl (fun ls hl => ?_)
    exact go _ ls [] (Or.inl ⟨a0, rfl⟩) hS hl
section NA
variable {p : Program} {l : Launch} {e : Env} {R : Room} {s : State} {m : MethodId} {args : Array Value} {below : List Frame} {meth : Method} {c : Code} {H : Heap} {locs : List Loc} {cells slots : Nat} {Q : State → Prop}
variable {cc : ByteArray} {pc : Nat} {ls : Array Slot} {rest : List Value} {E : gE} {F : Nat → Prop} {J : Int64} {D : sD} {I : gI}
theorem n_act (K : kx E p m c cc "HayThievesLaw" args s) (hAO : va_AOA s) {nL : Nat} (hml : c.maxLocals = nL) (hA : ∀ q, F q → gN E ≤ q) (hG : LW E F J D I H) (hS : va_S (gH E) s.heap H locs) {n L : Nat} {x : Int32} (hj : jR (n + 1) L I) (hL : L ≤ 4) (hfl : l.stackTraces = false) (hsize : ls.size = nL) (hW : (rest.map fun v => v.category).sum ≤ 8) (hR : 9 ≤ R.frames ∧ 158 ≤ R.locals) (hdg : decode cc pc = .ok (.invokestatic 69, 3)) (hf : cells + 10 ≤ R.cells ∧ slots + 2000 ≤ R.slots)
    (kk : ∀ (D1 : sD) (I1 : gI) (H1 : Heap) (locs1 : List Loc), D1 0 0 = D 0 0 → jR n L I1 → LW E F J D1 I1 H1 → va_S (gH E) s.heap H1 locs1 → W p l e R s m args below meth c H1 locs1 (cells + 10) (slots + 2000) Q (F0 m (pc + 3) ls (.int 1 :: rest))) : W p l e R s m args below meth c H locs cells slots Q (F0 m pc ls (.int x :: .ref (D 0 0) :: .ref (gA E 2 10 0) :: rest)) := by
  refine va_calli (n_runSH (As := [.ref (gA E 2 10 0), .ref (D 0 0), .int x]) (rest := rest) K hml (show ncaH yL_act cL_act 9 (some .boolean) aHH 3 from ⟨q588, q0, q587, by decide +kernel⟩) q586 (m_L_act l E F J D I n L x hA hj hL hfl) (fun a9 U g mk q => ⟨q.1, q.2.1, q.2.2.blind g mk a9⟩) (fun U hU hW => ⟨by rw [hU]; exact hG, s_pre K hAO gH_ge hS hU hW⟩) rfl hsize hW ⟨hR.1, by omega⟩ hdg hf) hS (fun q _ h => h) (fun q h => h) (fun r u t H1 locs1 ht hvm hw hB hz hk hS1 => ?_)
  have hw : r = 1 := hw
  subst hw
  obtain ⟨D1, I1, b1, b2, b3⟩ := hB
  exact kk D1 I1 H1 locs1 b1 b2 (by rw [← ht]; exact b3) hS1
end NA
