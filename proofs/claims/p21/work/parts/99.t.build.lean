/-! build -/
def F0s (E : gE) : Nat → Prop := fun q => gN E + 67 ≤ q
theorem F0s_ge {E : gE} : ∀ q, F0s E q → gN E ≤ q := fun q h => by
  have h : gN E + 67 ≤ q := h
  omega
theorem F0s_g {E : gE} : ∀ q, F0s E q → ¬ gF E q := fun q h g => by
  have h : gN E + 67 ≤ q := h
  have g : gN E ≤ q ∧ q < gN E + 67 := g
  omega
def nPb (E : gE) (J : Int64) (I : gI) (b L : Nat) (xs : Nat → Int32) (U : State) : Prop := (GW E J I U.heap ∧ gN E + 67 ≤ U.heap.size) ∧ sK E U ∧ va_X b L xs U U.heap
def nQbd (E : gE) (J : Int64) (n : Nat) : Array Value → State → Outcome → State → Prop := va_Qr (fun (_ : Unit) => True) (fun _ x t => ∃ (D : sD) (I : gI), x = D 0 0 ∧ jR n 0 I ∧ LW E (F0s E) J D I t.heap) (gH E)
set_option maxHeartbeats 4000000 in
set_option maxRecDepth 100000 in
theorem m_L_build (l : Launch) (E : gE) (J : Int64) (I0 : gI) (b Ls n : Nat) (xs : Nat → Int32) (hj0 : jR (2 * 22 + n) 0 (gset I0 5 V0)) (hLs : Ls < 2 ^ 30) (hbE : b < gN E) (hfl : l.stackTraces = false) :
    Met l yL_build (gws yL_build cL_build 5 (some (.object "HayThievesLaw$Sim"))) (rmc 9 1600 240000 158) (va_Pc [.ref (gA E 2 10 0), .ref b] (nPb E J I0 b Ls xs)) (nQbd E J n) 1600 240000 (gH E) := by
  refine n_entry (E := E) (lv := [(0, .ref (gA E 2 10 0)), (1, .ref b)]) (by decide) (Nat.le_of_ble_eq_true rfl) rfl (fun U h => h.2.1.1) ?_
  intro p e s m below meth c ls K hP hS hml hr hlocks hl
  have K : kx E p m c cL_build "HayThievesLaw" ([.ref (gA E 2 10 0), .ref b] : List Value).toArray s := K
  obtain ⟨⟨hGW, hsz⟩, ⟨-, hAO⟩, hX⟩ := hP
  have hx := K.1
  have hb := K.2.1
  have hts := K.2.2.1
  have hown := K.2.2.2.1
  have hSt := K.2.2.2.2
  have hbl : b < s.heap.size := by omega
  have hA : ∀ q, F0s E q → gN E ≤ q := F0s_ge
  have loop : ∀ (k i : Nat) (D : sD) (I : gI) (H : Heap) (locs : List Loc) (ls : Array Slot), i + k = 22 → jR (2 * k + n) 0 I → LW E (F0s E) J D I H → va_S (gH E) s.heap H locs → lv_has ls 5 [(3, .int (nI i)), (2, .ref (D 0 0)), (0, .ref (gA E 2 10 0)), (1, .ref b)] →
      W p l e (rmc 9 1600 240000 158) s m ([.ref (gA E 2 10 0), .ref b] : List Value).toArray below meth c H locs (5 + 71 * i) (9 + 10506 * i) (MQ below (nQbd E J n) ([.ref (gA E 2 10 0), .ref b] : List Value).toArray s 1600 240000 (gH E)) (F0 m 10 ls []) := by
    intro k
    induction k with
    | zero =>
      intro i D I H locs ls hi hj hG hS hl
      refine lv_iload_n hx hb dL_build_10 rfl (lv_at hl 0 rfl) ?_
      refine lv_bipush (v := 22) hx hb dL_build_11 (by decide) ?_
      refine lv_icmp_ge (tgt := 103) hx hb dL_build_13 (by decide) (fun _ => ?_) (fun h => absurd (show (22 : Int32) ≤ nI i by rw [show i = 22 by omega]; decide) h)
      refine lv_aload_n hx hb dL_build_103 rfl (lv_at hl 1 rfl) ?_
      rw [show 2 * 0 + n = n by omega] at hj
      exact W.widen (k := 1600) (n := 240000) (by omega) (by omega) (W.aret (v := .ref (D 0 0)) hx hb hr (Or.inl ⟨_, rfl⟩) (Or.inr ⟨_, rfl⟩) (fun t ht hW => ⟨⟨(), _, rfl, trivial, D, I, rfl, hj, by rw [ht]; exact hG⟩, hS.F ht⟩) hS.2.2 dL_build_104 hlocks)
    | succ k ih =>
      intro i D I H locs ls hi hj hG hS hl
      rw [show 2 * (k + 1) + n = 2 * k + n + 1 + 1 by omega] at hj
      have fin : ∀ (x : Int32) (ls : Array Slot) (locs : List Loc), va_S (gH E) s.heap H locs → lv_has ls 5 [(4, .int x), (3, .int (nI i)), (2, .ref (D 0 0)), (0, .ref (gA E 2 10 0)), (1, .ref b)] →
          W p l e (rmc 9 1600 240000 158) s m ([.ref (gA E 2 10 0), .ref b] : List Value).toArray below meth c H locs (5 + 71 * i) (9 + 10506 * i) (MQ below (nQbd E J n) ([.ref (gA E 2 10 0), .ref b] : List Value).toArray s 1600 240000 (gH E)) (F0 m 67 ls []) := by
        intro x ls locs hS hl
        refine lv_aload_n hx hb dL_build_67 rfl (lv_at hl 3 rfl) ?_
        refine lv_aload_n hx hb dL_build_68 rfl (lv_at hl 2 rfl) ?_
        refine lv_iload hx hb dL_build_69 (lv_at hl 0 rfl) ?_
        refine n_act K hAO hml hA hG hS hj (by decide) hfl hl.1 (Nat.le_of_ble_eq_true rfl) ⟨by decide, by decide⟩ dL_build_71 ⟨by show 5 + 71 * i + 10 ≤ 1600; omega, by show 9 + 10506 * i + 2000 ≤ 240000; omega⟩ (fun D1 I1 H locs d1 hj hG hS => ?_)
        refine lv_if_eq (tgt := 95) hx hb dL_build_74 (by decide) (fun h => absurd h (by decide)) (fun _ => ?_)
        refine lv_iload_n hx hb dL_build_77 rfl (lv_at hl 1 rfl) ?_
        refine lv_iconst (v := 5) hx hb dL_build_78 (by decide) ?_
        rw [← d1] at hl
        refine lv_icmp_le (tgt := 97) hx hb dL_build_79 (by decide) (fun _ => ?_) (fun _ => ?_)
        · refine lv_iinc (v := nI (i + 1)) (lv' := [(3, .int (nI (i + 1))), (4, .int x), (2, .ref (D1 0 0)), (0, .ref (gA E 2 10 0)), (1, .ref b)]) hx hb dL_build_97 hl (k := 1) rfl (nI_add i 1) (by decide) rfl (fun ls hl => ?_)
          refine lv_goto (tgt := 10) hx hb dL_build_100 (by decide) ?_
          exact W.widen (by omega) (by omega) (ih (i + 1) D1 I1 H locs ls (by omega) hj.mono hG hS (lv_sub hl [0, 2, 3, 4] rfl))
        · obtain ⟨a, b', a6, b10, -, -, -, ha, hb', -⟩ := hj.cnts
          obtain ⟨x0, xv, x5, xo, gv, S, xj, -⟩ := jM.pass hj (jM.refl hj) (by decide) ha a6 hb' b10
          have hw0 := hj.w0
          obtain ⟨P, hP⟩ : ∃ P, P = f_X4_pass_s I1 1 := ⟨_, rfl⟩
          rw [← hP] at x5 xo gv xj
          refine lv_aload_n hx hb dL_build_82 rfl (lv_at hl 3 rfl) ?_
          refine lv_iconst (v := 1) hx hb dL_build_83 (by decide) ?_
          refine l_kn hG (l_runVX (As := [.int 1]) (rest := []) K hml ca_X4_pass q348 (m_X4_pass l E J I1 1 hw0 hfl) hG.1 hS rfl rfl hl.1 (Nat.le_of_ble_eq_true rfl) ⟨by decide, by decide⟩ dL_build_84 ⟨by show 5 + 71 * i + 10 + 1 ≤ 1600; omega, by show 9 + 10506 * i + 2000 + 6 * 1 ≤ 240000; omega⟩) hS (by rw [← hP]; exact x5) x0 (fun H locs hG hS => ?_)
          rw [← hP] at hG
          rw [xv]
          refine lv_aload_n hx hb dL_build_87 rfl (lv_at hl 2 rfl) ?_
          refine lv_iconst (v := 1) hx hb dL_build_88 (by decide) ?_
          refine l_siv hA (s_runV (As := [.int 1]) (rest := [.int (cW I1 3 - f_X3_tell I1 0 3)]) K hAO gH_ge hml ca_X5_go q512 (m_S_go l E (F0s E) J D1 P hA xo) hG hG hS rfl rfl hl.1 (Nat.le_of_ble_eq_true rfl) ⟨by decide, by decide⟩ dL_build_89 ⟨by show 5 + 71 * i + 10 + 1 + 60 ≤ 1600; omega, by show 9 + 10506 * i + 2000 + 6 * 1 + 8500 ≤ 240000; omega⟩) hS (fun D2 hD2 H locs hG hS => ?_)
          refine lv_icmp_eq (tgt := 97) hx hb dL_build_92 (by decide) (fun _ => ?_) (fun h => absurd gv.symm h)
          rw [← hD2.1] at hl
          refine lv_iinc (v := nI (i + 1)) (lv' := [(3, .int (nI (i + 1))), (4, .int x), (2, .ref (D2 0 0)), (0, .ref (gA E 2 10 0)), (1, .ref b)]) hx hb dL_build_97 hl (k := 1) rfl (nI_add i 1) (by decide) rfl (fun ls hl => ?_)
          refine lv_goto (tgt := 10) hx hb dL_build_100 (by decide) ?_
          exact W.widen (by omega) (by omega) (ih (i + 1) D2 _ H locs ls (by omega) xj (hG.gh (I1 2) S) hS (lv_sub hl [0, 2, 3, 4] rfl))
      refine lv_iload_n hx hb dL_build_10 rfl (lv_at hl 0 rfl) ?_
      refine lv_bipush (v := 22) hx hb dL_build_11 (by decide) ?_
      refine lv_icmp_ge (tgt := 103) hx hb dL_build_13 (by decide) (fun h => absurd h (nI_ge (b := 22) (by omega) (by decide))) (fun _ => ?_)
      refine lv_aload_n hx hb dL_build_16 rfl (lv_at hl 3 rfl) ?_
      refine lv_iload_n hx hb dL_build_17 rfl (lv_at hl 0 rfl) ?_
      refine lv_bipush (v := 16) hx hb dL_build_18 (by decide) ?_
      refine lv_irem hx hb dL_build_20 (by decide) ?_
      rw [show (nI i - nI i / 16 * 16 : Int32) = nI (i % 16) from pk_rem (d := 16) (by omega) (by decide) (by decide)]
      refine n_cell K hAO hml hS (k := i % 16) (by omega) hLs hbE hbl hX rfl hl.1 (Nat.le_of_ble_eq_true rfl) ⟨by decide, by decide⟩ dL_build_21 ⟨by show 5 + 71 * i ≤ 1600; omega, by show 9 + 10506 * i ≤ 240000; omega⟩ (fun v locs hS => ?_)
      refine lv_iload_n hx hb dL_build_24 rfl (lv_at hl 0 rfl) ?_
      refine lv_bipush (v := 16) hx hb dL_build_25 (by decide) ?_
      refine lv_idiv hx hb dL_build_27 (by decide) ?_
      refine lv_iconst (v := 4) hx hb dL_build_28 (by decide) ?_
      refine lv_imul hx hb dL_build_29 ?_
      refine lv_ishr hx hb dL_build_30 ?_
      refine lv_bipush (v := 59) hx hb dL_build_31 (by decide) ?_
      refine lv_iload_n hx hb dL_build_33 rfl (lv_at hl 0 rfl) ?_
      refine lv_imul hx hb dL_build_34 ?_
      refine lv_iadd hx hb dL_build_35 ?_
      refine lv_topi (fun x _ => ?_)
      refine lv_istore (lv' := [(4, .int x), (3, .int (nI i)), (2, .ref (D 0 0)), (0, .ref (gA E 2 10 0)), (1, .ref b)]) hx hb dL_build_36 hl (by decide) rfl (fun ls hl => ?_)
      refine lv_iload_n hx hb dL_build_38 rfl (lv_at hl 1 rfl) ?_
      refine lv_bipush (v := 6) hx hb dL_build_39 (by decide) ?_
      refine lv_icmp_ge (tgt := 67) hx hb dL_build_41 (by decide) (fun _ => fin x ls locs hS hl) (fun _ => ?_)
      refine lv_bipush (v := 11) hx hb dL_build_44 (by decide) ?_
      refine lv_iload hx hb dL_build_46 (lv_at hl 0 rfl) ?_
      refine lv_ldc hx hb hown (hts _ q699) dL_build_48 ?_
      refine n_below K hAO hml hS (N := 100000) rfl (by decide) (by decide) hl.1 (Nat.le_of_ble_eq_true rfl) ⟨by decide, by decide⟩ dL_build_50 ⟨by show 5 + 71 * i ≤ 1600; omega, by show 9 + 10506 * i ≤ 240000; omega⟩ (fun q hq locs hS => ?_)
      refine lv_imul hx hb dL_build_53 ?_
      refine lv_iload_n hx hb dL_build_54 rfl (lv_at hl 1 rfl) ?_
      refine lv_iconst (v := 3) hx hb dL_build_55 (by decide) ?_
      refine lv_icmp_ge (tgt := 63) hx hb dL_build_56 (by decide) (fun _ => ?_) (fun _ => ?_)
      · refine lv_iconst (v := 2) hx hb dL_build_63 (by decide) ?_
        refine lv_iadd hx hb dL_build_64 ?_
        refine lv_topi (fun x' _ => ?_)
        refine lv_istore (lv' := [(4, .int x'), (3, .int (nI i)), (2, .ref (D 0 0)), (0, .ref (gA E 2 10 0)), (1, .ref b)]) hx hb dL_build_65 hl (by decide) rfl (fun ls hl => ?_)
        exact fin x' ls locs hS hl
      · refine lv_iconst (v := 0) hx hb dL_build_59 (by decide) ?_
        refine lv_goto (tgt := 64) hx hb dL_build_60 (by decide) ?_
        refine lv_iadd hx hb dL_build_64 ?_
        refine lv_topi (fun x' _ => ?_)
        refine lv_istore (lv' := [(4, .int x'), (3, .int (nI i)), (2, .ref (D 0 0)), (0, .ref (gA E 2 10 0)), (1, .ref b)]) hx hb dL_build_65 hl (by decide) rfl (fun ls hl => ?_)
        exact fin x' ls locs hS hl
  have hKn := hSt.K.1 5 _ rfl
  refine W.newcK hx hb hown (hts _ q662) (hts _ q531) (hts _ q6) rfl dL_build_0 (Nat.le_of_ble_eq_true rfl) (Nat.le_of_ble_eq_true rfl) hKn.2.1 rfl fun H1 kC hkC e1 z1 o1 => ?_
  have born := u_born tyX5 hts in_X5 hKn hkC e1 tyX5_ok
  obtain ⟨a, ha⟩ : ∃ a, a = s.heap.size := ⟨_, rfl⟩
  have hz : s.heap.size = a := ha.symm
  have hP0 : iP E a 0 0 H1 := ⟨by
    rw [ha]
    refine born.to (fun k hk => ?_)
    rcases (show k = 0 ∨ k = 1 ∨ k = 2 ∨ k = 3 ∨ k = 4 ∨ k = 5 ∨ k = 6 ∨ k = 7 ∨ k = 8 by omega) with e | e | e | e | e | e | e | e | e <;> subst e <;> rfl, by rw [z1, hz], fun j hj => absurd hj (Nat.not_lt_zero _)⟩
  rw [hz]
  have hS : va_S (gH E) s.heap H1 [] := va_S.grow va_S.rf z1 o1
  refine lv_dup hx hb dL_build_3 rfl ?_
  have cw : va_CN _ s _ "HayThievesLaw" 63 yX5_init "HayThievesLaw" cX5_init 1 none (gws yX5_init cX5_init 1 none) (rmc 1 4 0 12) 4 0 0 ∧ yX5_init.name = "<init>" ∧ (Cond.instanceMethod yX5_init).before _ s = true := ⟨va_cnB (R := rmc 9 1600 240000 158) 0 hts (gws_good q665) rfl rfl rfl (hSt.2.1 _ qm_HLaw_63) (hts _ q6) (by decide +kernel) ⟨by decide, by decide⟩, rfl, hts _ q664⟩
  refine va_callv (va_runIN (As := []) (rest := [.ref a]) ⟨hx, hb, hml, hown, hts⟩ (m_S_init l E a) cw ⟨fun a9 U g mk q => ⟨q.1, q.2.1, q.2.2.blind g mk a9⟩, fun U hU hW => ⟨rfl, by rw [hU]; exact hP0, s_pre K hAO gH_ge hS hU hW⟩⟩ rfl rfl hl.1 rfl (Nat.le_of_ble_eq_true rfl) dL_build_4 ⟨Nat.le_of_ble_eq_true rfl, Nat.le_of_ble_eq_true rfl⟩) hS (fun q _ h => ?_) (fun q h => ?_) (fun u t H2 locs1 ht hvm hw hB hz1 hk1 hS1 => ?_)
  · have h : a ≤ q := h
    show gN E ≤ q
    omega
  · have h : a ≤ q := h
    show gN E ≤ q
    omega
  have hB : iP E a 4 10 t.heap := hB
  rw [ht] at hB
  have hold : ∀ q : Nat, q < a → H2[q]? = s.heap[q]? := fun q hq => (hk1 q (by omega) (Nat.not_le.mpr hq)).trans (o1 q (by omega))
  have hG2 : GW E J I0 H2 := hGW.keep hSt.ok (fun _ _ => rfl) (fun q hq => hold q (by
    have hq : gN E ≤ q ∧ q < gN E + 67 := hq
    omega))
  have hL := LW_init (F := F0s E) hG2 hB (fun q hq => show gN E + 67 ≤ q by omega) F0s_g
  refine lv_astore_n (lv' := [(2, .ref a), (0, .ref (gA E 2 10 0)), (1, .ref b)]) hx hb dL_build_7 rfl hl (by decide) rfl (fun ls hl => ?_)
  refine lv_iconst (v := 0) hx hb dL_build_8 (by decide) ?_
  refine lv_istore_n (lv' := [(3, .int 0), (2, .ref a), (0, .ref (gA E 2 10 0)), (1, .ref b)]) hx hb dL_build_9 rfl hl (by decide) rfl (fun ls hl => ?_)
  exact loop 22 0 (D0 a) (gset I0 5 V0) H2 locs1 ls (by omega) hj0 hL hS1 hl
