/-! THE LAW'S LOOP over a relation that counts the calls which are left -/
def RelOKn (Rel : Nat → gI → Prop) : Prop := (∀ n I, Rel n I → lw0 I) ∧ (∀ n I x, Rel (n + 1) I → sp_come (Rel n) I x) ∧ (∀ n I x b, Rel (n + 1) I → sp_setWay (Rel n) I x b) ∧ (∀ n I x, Rel (n + 1) I → sp_setFork (Rel n) I x) ∧ (∀ n I x, Rel (n + 1) I → sp_bring (Rel n) I x) ∧ (∀ n I x b, Rel (n + 1) I → sp_swap (Rel n) I x b) ∧ (∀ n I x, Rel (n + 1) I → sp_wake (Rel n) I x) ∧ (∀ n I x b, Rel (n + 1) I → sp_lad (Rel n) I x b) ∧ (∀ n I x b, Rel (n + 1) I → sp_cart (Rel n) I x b) ∧ (∀ n I x b, Rel (n + 1) I → sp_load (Rel n) I x b) ∧ (∀ n I x, Rel (n + 1) I → sp_count (Rel n) I x) ∧ (∀ n I x, Rel (n + 1) I → sp_victim (Rel n) I x) ∧ (∀ n I, Rel (n + 1) I → sp_thief (Rel n) I) ∧ (∀ n I x, Rel (n + 1) I → sp_pass (Rel n) I x) ∧ (∀ n I x, Rel (n + 1) I → sp_until (Rel n) I x) ∧ (∀ n I x b, Rel (n + 1) I → sp_foresee (Rel n) I x b) ∧ (∀ n I x, Rel (n + 1) I → sp_advise (Rel n) I x) ∧ (∀ n I, Rel (n + 1) I → sp_mean (Rel n) I) ∧ (∀ n I, Rel (n + 1) I → sp_digest (Rel n) I) ∧ ∀ n I, Rel (n + 1) I → Rel n I
set_option maxHeartbeats 4000000 in
set_option maxRecDepth 100000 in
theorem law_loopn {p : Program} {l : Launch} {e : Env} {s : State} {m : MethodId} {below : List Frame} {meth : Method} {c : Code} {E : gE} {b L : Nat} {xs : Nat → Int32} {Rel : Nat → gI → Prop} (X : lx p l s m meth c E b L xs) (hR : RelOKn Rel) (hN : ∀ q, gF E q → s.heap.size ≤ q) :
    ∀ (n i : Nat) (J : Int64) (I : gI) (H : Heap) (locs : List Loc) (cells slots : Nat) (ls : Array Slot), L < i + 3 * n + 3 → i ≤ L → cells + 3 * n ≤ 601024 → slots + 18 * n ≤ 7293033 → Rel n I → GW E J I H → va_S (gF E) s.heap H locs → lv_has ls 9 (llv E b i) →
      W p l e room_1 s m #[Value.ref b] below meth c H locs cells slots (lw_Z below #[Value.ref b] s) (F0 m 23 ls []) := by
  obtain ⟨K, hml, hr, hlocks, hX, hbl, hbA, hfl, hL⟩ := id X
  have hx := K.1
  have hb := K.2.1
  have head : ∀ (i : Nat) (H : Heap) (locs : List Loc) (cells slots : Nat) (ls : Array Slot), va_S (gF E) s.heap H locs → lv_has ls 9 (llv E b i) → (Int32.ofNat L - 3 < nI i → W p l e room_1 s m #[Value.ref b] below meth c H locs cells slots (lw_Z below #[Value.ref b] s) (F0 m 1110 ls [])) → (¬ Int32.ofNat L - 3 < nI i → W p l e room_1 s m #[Value.ref b] below meth c H locs cells slots (lw_Z below #[Value.ref b] s) (F0 m 32 ls [])) →
      W p l e room_1 s m #[Value.ref b] below meth c H locs cells slots (lw_Z below #[Value.ref b] s) (F0 m 23 ls []) := by
    intro i H locs cells slots ls hS hl k1 k2
    have hl : lv_has ls 9 [(4, .int (nI i)), (3, .ref (gA E 2 16 0)), (2, .ref (gA E 2 11 0)), (1, .ref (gA E 2 10 0)), (0, .ref b)] := hl
    refine lv_iload hx hb dL_law_23 (lv_at hl 0 rfl) ?_
    refine lv_aload_n hx hb dL_law_25 rfl (lv_at hl 4 rfl) ?_
    refine va_slen hx hb hX hbl hbA hS dL_law_26 ?_
    refine lv_iconst (v := 3) hx hb dL_law_27 (by decide) ?_
    refine lv_isub hx hb dL_law_28 ?_
    exact lv_icmp_gt (tgt := 1110) hx hb dL_law_29 (by decide) k1 k2
  have tail : ∀ (H : Heap) (locs : List Loc) (cells slots : Nat) (ls : Array Slot), va_S (gF E) s.heap H locs → cells ≤ 601024 → slots ≤ 7293033 → W p l e room_1 s m #[Value.ref b] below meth c H locs cells slots (lw_Z below #[Value.ref b] s) (F0 m 1110 ls []) := by
    intro H locs cells slots ls hS hc hs
    refine W.widen (k := 601024) (n := 7293033) hc hs ?_
    refine va_forget (fun q hq => hN _ (hS.2.2 q hq)) ?_
    refine lv_iconst (v := 1) hx hb dL_law_1110 (by decide) ?_
    exact lw_ret (d0 := s.drawn) (Drawn.sameBut.refl s.drawn lw_cs) hx hb hr hlocks dL_law_1111
  intro n
  induction n with
  | zero =>
    intro i J I H locs cells slots ls h1 hi hc hs hRel hG hS hl
    exact head i H locs cells slots ls hS hl (fun _ => tail H locs cells slots ls hS (by omega) (by omega)) (fun h => absurd (law_gt hL hi (by omega)) h)
  | succ n ih =>
    intro i J I H locs cells slots ls h1 hi hc hs hRel hG hS hl
    by_cases h3 : L < i + 3
    · exact head i H locs cells slots ls hS hl (fun _ => tail H locs cells slots ls hS (by omega) (by omega)) (fun h => absurd (law_gt hL hi h3) h)
    · refine head i H locs cells slots ls hS hl (fun h => absurd h (law_ngt hL (by omega))) (fun _ => ?_)
      have kk : lk p l e s m below meth c E b i (Rel n) cells slots := by
        intro J I H locs k n9 ls hRel hG hS hl hk hn
        have hl : lv_has ls 9 [(4, .int (nI i)), (3, .ref (gA E 2 16 0)), (2, .ref (gA E 2 11 0)), (1, .ref (gA E 2 10 0)), (0, .ref b)] := hl
        refine lv_iinc (v := nI (i + 3)) (lv' := [(4, .int (nI (i + 3))), (3, .ref (gA E 2 16 0)), (2, .ref (gA E 2 11 0)), (1, .ref (gA E 2 10 0)), (0, .ref b)]) hx hb dL_law_1104 hl (k := 0) rfl (nI_add i 3) (by decide) rfl (fun ls hl => ?_)
        refine lv_goto (tgt := 23) hx hb dL_law_1107 (by decide) ?_
        exact ih (i + 3) J I H locs k n9 ls (by omega) (by omega) (by omega) (by omega) hRel hG hS hl
      have hq := hR.1 _ I hRel
      obtain ⟨-, r0, r1, r2, r3, r4, r5, r6, r7, r8, r9, r10, r11, r12, r13, r14, r15, r16, r17, r18⟩ := hR
      have hl9 : lv_has ls 9 [(4, .int (nI i)), (3, .ref (gA E 2 16 0)), (2, .ref (gA E 2 11 0)), (1, .ref (gA E 2 10 0)), (0, .ref b)] := hl
      refine lv_aload_n hx hb dL_law_32 rfl (lv_at hl9 4 rfl) ?_
      refine lv_iload hx hb dL_law_33 (lv_at hl9 0 rfl) ?_
      refine va_sld hx hb hX hbl hbA hS (vp_in_nI (by omega) (by omega)) dL_law_35 ?_
      refine lv_bipush (v := 31) hx hb dL_law_36 (by decide) ?_
      refine lv_iand hx hb dL_law_38 ?_
      obtain ⟨j, hj, ej⟩ := pk_andE (xs (nI i).toNatClampNeg) (m := 31) 5 rfl
      rw [ej]
      by_cases h0 : j = 0
      · subst h0
        refine lv_tableIn (off := 85) (tgt := 124) hx hb dL_law_39 (by decide) (by decide) (by decide) (by decide) ?_
        exact law_come X (by omega) (by omega) (by omega) hq (r0 n I (xs (i + 1)) hRel) hG hS hl kk
      by_cases h1 : j = 1
      · subst h1
        refine lv_tableIn (off := 141) (tgt := 180) hx hb dL_law_39 (by decide) (by decide) (by decide) (by decide) ?_
        exact law_setWay X (by omega) (by omega) (by omega) hq (r1 n I (xs (i + 1)) (xs (i + 2)) hRel) hG hS hl kk
      by_cases h2 : j = 2
      · subst h2
        refine lv_tableIn (off := 209) (tgt := 248) hx hb dL_law_39 (by decide) (by decide) (by decide) (by decide) ?_
        exact law_setFork X (by omega) (by omega) (by omega) hq (r2 n I (xs (i + 1)) hRel) hG hS hl kk
      by_cases h3 : j = 3
      · subst h3
        refine lv_tableIn (off := 265) (tgt := 304) hx hb dL_law_39 (by decide) (by decide) (by decide) (by decide) ?_
        exact law_bring X (by omega) (by omega) (by omega) hq (r3 n I (xs (i + 1)) hRel) hG hS hl kk
      by_cases h4 : j = 4
      · subst h4
        refine lv_tableIn (off := 321) (tgt := 360) hx hb dL_law_39 (by decide) (by decide) (by decide) (by decide) ?_
        exact law_swap X (by omega) (by omega) (by omega) hq (r4 n I (xs (i + 1)) (xs (i + 2)) hRel) hG hS hl kk
      by_cases h5 : j = 5
      · subst h5
        refine lv_tableIn (off := 389) (tgt := 428) hx hb dL_law_39 (by decide) (by decide) (by decide) (by decide) ?_
        exact law_wake X (by omega) (by omega) (by omega) hq (r5 n I (xs (i + 1)) hRel) hG hS hl kk
      by_cases h6 : j = 6
      · subst h6
        refine lv_tableIn (off := 445) (tgt := 484) hx hb dL_law_39 (by decide) (by decide) (by decide) (by decide) ?_
        exact law_lad X (by omega) (by omega) (by omega) hq (r6 n I (xs (i + 1)) (xs (i + 2)) hRel) hG hS hl kk
      by_cases h7 : j = 7
      · subst h7
        refine lv_tableIn (off := 513) (tgt := 552) hx hb dL_law_39 (by decide) (by decide) (by decide) (by decide) ?_
        exact law_cart X (by omega) (by omega) (by omega) hq (r7 n I (xs (i + 1)) (xs (i + 2)) hRel) hG hS hl kk
      by_cases h8 : j = 8
      · subst h8
        refine lv_tableIn (off := 581) (tgt := 620) hx hb dL_law_39 (by decide) (by decide) (by decide) (by decide) ?_
        exact law_load X (by omega) (by omega) (by omega) hq (r8 n I (xs (i + 1)) (xs (i + 2)) hRel) hG hS hl kk
      by_cases h9 : j = 9
      · subst h9
        refine lv_tableIn (off := 649) (tgt := 688) hx hb dL_law_39 (by decide) (by decide) (by decide) (by decide) ?_
        exact law_count X (by omega) (by omega) (by omega) hq (r9 n I (xs (i + 1)) hRel) hG hS hl kk
      by_cases h10 : j = 10
      · subst h10
        refine lv_tableIn (off := 705) (tgt := 744) hx hb dL_law_39 (by decide) (by decide) (by decide) (by decide) ?_
        exact law_victim X (by omega) (by omega) (by omega) hq (r10 n I (xs (i + 1)) hRel) hG hS hl kk
      by_cases h11 : j = 11
      · subst h11
        refine lv_tableIn (off := 761) (tgt := 800) hx hb dL_law_39 (by decide) (by decide) (by decide) (by decide) ?_
        exact law_thief X (by omega) (by omega) (by omega) hq (r11 n I hRel) hG hS hl kk
      by_cases h12 : j = 12
      · subst h12
        refine lv_tableIn (off := 774) (tgt := 813) hx hb dL_law_39 (by decide) (by decide) (by decide) (by decide) ?_
        exact law_pass X (by omega) (by omega) (by omega) hq (r12 n I (xs (i + 1)) hRel) hG hS hl kk
      by_cases h13 : j = 13
      · subst h13
        refine lv_tableIn (off := 830) (tgt := 869) hx hb dL_law_39 (by decide) (by decide) (by decide) (by decide) ?_
        exact law_until X (by omega) (by omega) (by omega) hq (r13 n I (xs (i + 1)) hRel) hG hS hl kk
      by_cases h14 : j = 14
      · subst h14
        refine lv_tableIn (off := 886) (tgt := 925) hx hb dL_law_39 (by decide) (by decide) (by decide) (by decide) ?_
        exact law_foresee X (by omega) (by omega) (by omega) hq (r14 n I (xs (i + 1)) (xs (i + 2)) hRel) hG hS hl kk
      by_cases h15 : j = 15
      · subst h15
        refine lv_tableIn (off := 954) (tgt := 993) hx hb dL_law_39 (by decide) (by decide) (by decide) (by decide) ?_
        exact law_advise X (by omega) (by omega) (by omega) hq (r15 n I (xs (i + 1)) hRel) hG hS hl kk
      by_cases h16 : j = 16
      · subst h16
        refine lv_tableIn (off := 1010) (tgt := 1049) hx hb dL_law_39 (by decide) (by decide) (by decide) (by decide) ?_
        exact law_mean X (by omega) (by omega) (by omega) hq (r16 n I hRel) hG hS hl kk
      by_cases h17 : j = 17
      · subst h17
        refine lv_tableIn (off := 1051) (tgt := 1090) hx hb dL_law_39 (by decide) (by decide) (by decide) (by decide) ?_
        exact law_digest X (by omega) (by omega) (by omega) hq (r17 n I hRel) hG hS hl kk
      refine lv_tableOut (tgt := 1104) hx hb dL_law_39 (by rw [nI_toInt (by omega)]; omega) (by decide) ?_
      exact kk J I H locs cells slots ls (r18 n I hRel) hG hS hl (by omega) (by omega)
