/-! THE LAW: one entry of the script (three ints) at a time. What the two sides owe each other stands in sp_: pure facts of the worlds, said of any relation Rel -/
def lw0 (I : gI) : Prop := wf (I 0) ∧ wf (I 1) ∧ (∀ i, i < 6 → I 0 1 i 7 = 0 ∨ I 0 1 i 7 = 1) ∧ (∀ j, I 0 6 0 j = 0 ∨ I 0 6 0 j = 1)
def gcaH (y : MethodName) (b : ByteArray) (n : Nat) (hh : List (Nat × Nat × Nat × Nat)) (na : Nat) : Prop := Cond.codeWith y b n (some .int) hh ∈ lw_all ∧ Cond.initialized y.cls ∈ lw_all ∧ Cond.static y ∈ lw_all ∧ (y.cls ≠ "java/lang/invoke/MethodHandle" ∧ y.cls ≠ "java/lang/invoke/VarHandle" ∧ (parseMethodDescriptor y.desc).map (fun d => d.parameters.length) = some na)
theorem gwsH_good {y : MethodName} {b : ByteArray} {n : Nat} {hh : List (Nat × Nat × Nat × Nat)} (h : Cond.codeWith y b n (some .int) hh ∈ lw_all) : GoodIn lw_all (gwsH y b n hh) := fun w hw => by
  rcases List.mem_cons.mp hw with rfl | hw
  · exact ⟨h, good_of_word (lw_all_good _ h)⟩
  · exact ⟨hw, good_of_word (lw_all_good _ hw)⟩
section GLL
variable {p : Program} {l : Launch} {e : Env} {R : Room} {s : State} {m : MethodId} {args : Array Value} {below : List Frame} {meth : Method} {c : Code} {H : Heap} {locs : List Loc} {cells slots : Nat} {Q : State → Prop}
variable {cc : ByteArray} {pc : Nat} {ls : Array Slot} {rest : List Value} {E : gE} {J : Int64} {I : gI} {own : String}
theorem g_runSH {y : MethodName} {b : ByteArray} {n nL na f L k index : Nat} {hh : List (Nat × Nat × Nat × Nat)} {Qc : Array Value → State → Outcome → State → Prop} {As : List Value}
    (K : kx E p m c cc own args s) (hml : c.maxLocals = nL) (hcal : gcaH y b n hh na) (hlink : Cond.methodLink own index y ∈ lw_all) (hM : Met l y (gwsH y b n hh) (grx f L k) (va_Pc As (gP E J I)) Qc k (6 * k) (gF E))
    (hG : GW E J I H) (hS : va_S (gF E) s.heap H locs) (hn : As.length = na) (hsize : ls.size = nL) (hW : (rest.map fun v => v.category).sum ≤ 8) (hR : f + 1 ≤ R.frames ∧ 8 + (n + 11) + L ≤ R.locals) (hdg : decode cc pc = .ok (.invokestatic index, 3)) (hf : cells + k ≤ R.cells ∧ slots + 6 * k ≤ R.slots) :
    va_Run p l e R s m args below meth c H locs cells slots k (6 * k) (F0 m pc ls (As.reverse ++ rest)) rest (Qc As.toArray) (gF E) := by
  obtain ⟨hx, hb, hts, hown, hSt⟩ := id K
  obtain ⟨c1, c2, c3, c5⟩ := hcal
  have cw : vx_CSW R s args own index y b n (some .int) hh (gwsH y b n hh) (grx f L k) k (6 * k) na := ⟨⟨rfl, rfl, hR.1, hR.2, pay_in hts (gwsH_good c1), List.mem_cons_self⟩, hts _ c1, hts _ c2, ⟨c5.1, c5.2.1⟩, (fun sig h => by
    have h2 := c5.2.2
    rw [h] at h2
    exact (Option.some.inj h2).symm), hts _ hlink, hts _ c3⟩
  exact vx_runSW (As := As) (rest := rest) ⟨hx, hb, hml, hown, hts⟩ hM cw ⟨gP_blind _, fun U hU hW => ⟨rfl, g_pre K hG hS hU hW⟩⟩ rfl hn hsize rfl (by show 2 * 0 + _ ≤ 8; omega) hdg hf
theorem g_kih {st0 : List Value} {a : Array Value} {v : Int32} {J' : Int64} {I' : gI} {k : Nat} (hr : va_Run p l e R s m args below meth c H locs cells slots k (6 * k) (F0 m pc ls st0) rest (va_Qi (fun x (_ : Unit) => x = v) (fun _ t => GW E J' I' t.heap) (gF E) a) (gF E)) (hS : va_S (gF E) s.heap H locs)
    (kk : ∀ (H1 : Heap) (locs1 : List Loc), GW E J' I' H1 → va_S (gF E) s.heap H1 locs1 → W p l e R s m args below meth c H1 locs1 (cells + k) (slots + 6 * k) Q (F0 m (pc + 3) ls (.int v :: rest))) : W p l e R s m args below meth c H locs cells slots Q (F0 m pc ls st0) :=
  va_calli hr hS (fun q _ h => h) (fun q h => h) (fun r u t H1 locs1 ht hvm hw hB hz hk hS1 => by
    subst hw
    exact kk H1 locs1 (by rw [← ht]; exact hB) hS1)
end GLL
/-- what holds all along the law -/
def lx (p : Program) (l : Launch) (s : State) (m : MethodId) (meth : Method) (c : Code) (E : gE) (b L : Nat) (xs : Nat → Int32) : Prop :=
  kx E p m c cL_law "HayThievesLaw" #[Value.ref b] s ∧ c.maxLocals = 9 ∧ meth.sig.returnType = ret ∧ meth.locks = false ∧ va_X b L xs s s.heap ∧ b < s.heap.size ∧ ¬ gF E b ∧ l.stackTraces = false ∧ L ≤ 1536
def llv (E : gE) (b i : Nat) : List (Nat × Value) := [(4, .int (nI i)), (3, .ref (gA E 2 16 0)), (2, .ref (gA E 2 11 0)), (1, .ref (gA E 2 10 0)), (0, .ref b)]
/-- .. and at an entry's end -/
def lk (p : Program) (l : Launch) (e : Env) (s : State) (m : MethodId) (below : List Frame) (meth : Method) (c : Code) (E : gE) (b i : Nat) (Rel : gI → Prop) (cells slots : Nat) : Prop :=
  ∀ (J : Int64) (I : gI) (H : Heap) (locs : List Loc) (k n : Nat) (ls : Array Slot), Rel I → GW E J I H → va_S (gF E) s.heap H locs → lv_has ls 9 (llv E b i) → k ≤ cells + 3 → n ≤ slots + 18 →
    W p l e room_1 s m #[Value.ref b] below meth c H locs k n (lw_Z below #[Value.ref b] s) (F0 m 1104 ls [])
theorem lcmp_eq {x y : Int64} (h : x = y) : lg_cmp x y = 0 := by
  subst h
  unfold lg_cmp
  rw [if_neg (by simp), if_pos rfl]

theorem hcode_z {e1 ex : Nat} (h : hcode e1 ex = 0) : ex = 0 := by
  unfold hcode at h
  by_cases h0 : ex = 0
  · exact h0
  · rw [if_neg h0] at h
    by_cases h1 : ex = e1
    · rw [if_pos h1] at h
      exact absurd h (by decide)
    · rw [if_neg h1] at h
      exact absurd h (by decide)
def sp_come (Rel : gI → Prop) (I : gI) (x : Int32) : Prop := ∀ I1, I1 = hI (f_X4_come_x I x) (f_X4_come_s I x) I → ok_X6_come I1 x ∧ ∀ I2, I2 = f_X6_come_s I1 x → hcode 1 (f_X4_come_x I x) = I2 2 11 0 0 ∧ (f_X4_come_x I x = 0 → f_X4_come_v I x = f_X6_come_v I1 x) ∧ Rel I2
def sp_setWay (Rel : gI → Prop) (I : gI) (x b : Int32) : Prop := ∀ I1, I1 = hI (f_X4_setWay_x I x b) (f_X4_setWay_s I x b) I → ok_X6_setWay I1 x b ∧ ∀ I2, I2 = f_X6_setWay_s I1 x b → hcode 3 (f_X4_setWay_x I x b) = I2 2 11 0 0 ∧ (f_X4_setWay_x I x b = 0 → f_X4_setWay_v I x b = f_X6_setWay_v I1 x b) ∧ Rel I2
def sp_setFork (Rel : gI → Prop) (I : gI) (x : Int32) : Prop := ∀ I1, I1 = hI (f_X4_setFork_x I x) (f_X4_setFork_s I x) I → ok_X6_setFork I1 x ∧ ∀ I2, I2 = f_X6_setFork_s I1 x → hcode 1 (f_X4_setFork_x I x) = I2 2 11 0 0 ∧ (f_X4_setFork_x I x = 0 → f_X4_setFork_v I x = f_X6_setFork_v I1 x) ∧ Rel I2
def sp_bring (Rel : gI → Prop) (I : gI) (x : Int32) : Prop := ∀ I1, I1 = hI (f_X4_bring_x I x) (f_X4_bring_s I x) I → ok_X6_bring I1 x ∧ ∀ I2, I2 = f_X6_bring_s I1 x → hcode 1 (f_X4_bring_x I x) = I2 2 11 0 0 ∧ (f_X4_bring_x I x = 0 → f_X4_bring_v I x = f_X6_bring_v I1 x) ∧ Rel I2
def sp_swap (Rel : gI → Prop) (I : gI) (x b : Int32) : Prop := ∀ I1, I1 = hI (f_X4_swap_x I x b) (f_X4_swap_s I x b) I → ok_X6_swap I1 x b ∧ ∀ I2, I2 = f_X6_swap_s I1 x b → hcode 3 (f_X4_swap_x I x b) = I2 2 11 0 0 ∧ (f_X4_swap_x I x b = 0 → f_X4_swap_v I x b = f_X6_swap_v I1 x b) ∧ Rel I2
def sp_wake (Rel : gI → Prop) (I : gI) (x : Int32) : Prop := ∀ I1, I1 = hI (f_X4_wake_x I x) (f_X4_wake_s I x) I → ok_X6_wake I1 x ∧ ∀ I2, I2 = f_X6_wake_s I1 x → hcode 3 (f_X4_wake_x I x) = I2 2 11 0 0 ∧ (f_X4_wake_x I x = 0 → f_X4_wake_v I x = f_X6_wake_v I1 x) ∧ Rel I2
def sp_lad (Rel : gI → Prop) (I : gI) (x b : Int32) : Prop := ∀ I1, I1 = hI (f_X4_lad_x I x b) I I → ok_X6_lad I1 x b ∧ ∀ I2, I2 = f_X6_lad_s I1 x b → hcode 3 (f_X4_lad_x I x b) = I2 2 11 0 0 ∧ (f_X4_lad_x I x b = 0 → f_X4_lad I x b = f_X6_lad_v I1 x b) ∧ Rel I2
def sp_cart (Rel : gI → Prop) (I : gI) (x b : Int32) : Prop := ∀ I1, I1 = hI (f_X4_cart_x I x b) I I → ok_X6_cart I1 x b ∧ ∀ I2, I2 = f_X6_cart_s I1 x b → hcode 3 (f_X4_cart_x I x b) = I2 2 11 0 0 ∧ (f_X4_cart_x I x b = 0 → f_X4_cart I x b = f_X6_cart_v I1 x b) ∧ Rel I2
def sp_load (Rel : gI → Prop) (I : gI) (x b : Int32) : Prop := ∀ I1, I1 = hI (f_X4_load_x I x b) I I → ok_X6_load I1 x b ∧ ∀ I2, I2 = f_X6_load_s I1 x b → hcode 3 (f_X4_load_x I x b) = I2 2 11 0 0 ∧ (f_X4_load_x I x b = 0 → f_X4_load I x b = f_X6_load_v I1 x b) ∧ Rel I2
def sp_count (Rel : gI → Prop) (I : gI) (x : Int32) : Prop := ∀ I1, I1 = hI (f_X4_count_x I x) I I → ok_X6_count I1 x ∧ ∀ I2, I2 = f_X6_count_s I1 x → hcode 3 (f_X4_count_x I x) = I2 2 11 0 0 ∧ (f_X4_count_x I x = 0 → f_X4_count I x = f_X6_count_v I1 x) ∧ Rel I2
def sp_victim (Rel : gI → Prop) (I : gI) (x : Int32) : Prop := ∀ I1, I1 = hI (f_X4_victim_x I x) I I → ok_X6_victim I1 x ∧ ∀ I2, I2 = f_X6_victim_s I1 x → hcode 3 (f_X4_victim_x I x) = I2 2 11 0 0 ∧ (f_X4_victim_x I x = 0 → f_X4_victim I x = f_X6_victim_v I1 x) ∧ Rel I2
def sp_pass (Rel : gI → Prop) (I : gI) (x : Int32) : Prop := ∀ I1, I1 = hI (f_X4_pass_x I x) (f_X4_pass_s I x) I → ok_X6_pass_ I1 x ∧ ∀ I2, I2 = f_X6_pass__s I1 x → hcode 1 (f_X4_pass_x I x) = I2 2 11 0 0 ∧ (f_X4_pass_x I x = 0 → f_X4_pass_v I x = f_X6_pass__v I1 x) ∧ Rel I2
def sp_until (Rel : gI → Prop) (I : gI) (x : Int32) : Prop := ∀ I1, I1 = hI (f_X4_until_x I x) (f_X4_until_s I x) I → ok_X6_until I1 x ∧ ∀ I2, I2 = f_X6_until_s I1 x → hcode 3 (f_X4_until_x I x) = I2 2 11 0 0 ∧ (f_X4_until_x I x = 0 → f_X4_until_v I x = f_X6_until_v I1 x) ∧ Rel I2
def sp_foresee (Rel : gI → Prop) (I : gI) (x b : Int32) : Prop := ∀ I1, I1 = hI (f_X4_foresee_x I x b) (f_X4_foresee_s I x b) I → ok_X6_foresee I1 x b ∧ ∀ I2, I2 = f_X6_foresee_s I1 x b → hcode 1 (f_X4_foresee_x I x b) = I2 2 11 0 0 ∧ (f_X4_foresee_x I x b = 0 → f_X4_foresee_v I x b = f_X6_foresee_v I1 x b) ∧ Rel I2
def sp_advise (Rel : gI → Prop) (I : gI) (x : Int32) : Prop := ∀ I1, I1 = hI (f_X4_advise_x I x) (f_X4_advise_s I x) I → ok_X6_advise I1 x ∧ ∀ I2, I2 = f_X6_advise_s I1 x → hcode 1 (f_X4_advise_x I x) = I2 2 11 0 0 ∧ (f_X4_advise_x I x = 0 → f_X4_advise_v I x = f_X6_advise_v I1 x) ∧ Rel I2
def sp_thief (Rel : gI → Prop) (I : gI) : Prop := ok_X6_thief I ∧ ∀ I2, I2 = f_X6_thief_s I → f_X4_thief I = f_X6_thief_v I ∧ Rel I2
def sp_mean (Rel : gI → Prop) (I : gI) : Prop := ok_X6_mean I ∧ ∀ I2, I2 = f_X6_mean_s I → f_X4_mean I = f_X6_mean_v I ∧ Rel I2
def sp_digest (Rel : gI → Prop) (I : gI) : Prop := ok_X6_digest I ∧ ∀ I2, I2 = f_X6_digest_s I → f_X4_digest I = f_X6_digest_v I ∧ Rel I2
set_option maxHeartbeats 4000000 in
set_option maxRecDepth 100000 in
theorem law_come {p : Program} {l : Launch} {e : Env} {s : State} {m : MethodId} {below : List Frame} {meth : Method} {c : Code} {E : gE} {b L i : Nat} {xs : Nat → Int32} {Rel : gI → Prop} {J : Int64} {I : gI} {H : Heap} {locs : List Loc} {cells slots : Nat} {ls : Array Slot} (X : lx p l s m meth c E b L xs) (hi : i + 3 ≤ L) (hc : cells + 3 ≤ 601024) (hs : slots + 18 ≤ 7293033) (hq : lw0 I) (hP : sp_come Rel I (xs (i + 1))) (hG : GW E J I H) (hS : va_S (gF E) s.heap H locs) (hl : lv_has ls 9 (llv E b i)) (kk : lk p l e s m below meth c E b i Rel cells slots) : W p l e room_1 s m #[Value.ref b] below meth c H locs cells slots (lw_Z below #[Value.ref b] s) (F0 m 124 ls []) := by
  obtain ⟨K, hml, hr, hlocks, hX, hbl, hbA, hfl, hL⟩ := X
  have hx := K.1
  have hb := K.2.1
  have hts := K.2.2.1
  have hown := K.2.2.2.1
  have hSt := K.2.2.2.2
  obtain ⟨hw0, hw1, hzz, hzd⟩ := hq
  have hl : lv_has ls 9 [(4, .int (nI i)), (3, .ref (gA E 2 16 0)), (2, .ref (gA E 2 11 0)), (1, .ref (gA E 2 10 0)), (0, .ref b)] := hl
  refine lv_aload_n hx hb dL_law_124 rfl (lv_at hl 3 rfl) ?_
  refine lv_aload_n hx hb dL_law_125 rfl (lv_at hl 4 rfl) ?_
  refine lv_iload hx hb dL_law_126 (lv_at hl 0 rfl) ?_
  refine lv_iconst (v := 1) hx hb dL_law_128 (by decide) ?_
  refine lv_iadd hx hb dL_law_129 ?_
  rw [show (nI i : Int32) + 1 = nI (i + 1) from nI_add i 1]
  refine va_sld hx hb hX hbl hbA hS (vp_in_nI (by omega) (by omega)) dL_law_130 ?_
  rw [nI_clamp (show i + 1 < 2 ^ 31 by omega)]
  refine lv_aload_n hx hb dL_law_131 rfl (lv_at hl 1 rfl) ?_
  refine g_kih (g_runSH (As := [.ref (gA E 2 10 0), .int (xs (i + 1)), .ref (gA E 2 16 0)]) (rest := []) K hml (show gcaH yL_come cL_come 4 [(0, 9, 12, 13), (0, 9, 15, 15)] 3 from ⟨q256, q0, q255, by decide +kernel⟩) q254 (m_L_come l E J I (xs (i + 1)) hw0 hfl) hG hS rfl hl.1 (Nat.le_of_ble_eq_true rfl) ⟨by decide, by decide⟩ dL_law_132 ⟨by show cells + 1 ≤ 601024; omega, by show slots + 6 * 1 ≤ 7293033; omega⟩) hS (fun H locs hG hS => ?_)
  obtain ⟨I1, hI1⟩ : ∃ z, z = hI (f_X4_come_x I (xs (i + 1))) (f_X4_come_s I (xs (i + 1))) I := ⟨_, rfl⟩
  rw [← hI1] at hG
  obtain ⟨hok, hP⟩ := hP I1 hI1
  obtain ⟨I2, hI2⟩ : ∃ z, z = f_X6_come_s I1 (xs (i + 1)) := ⟨_, rfl⟩
  obtain ⟨p1, p2, p3⟩ := hP I2 hI2
  refine lv_istore (lv' := [(5, .int (hcode 1 (f_X4_come_x I (xs (i + 1))))), (4, .int (nI i)), (3, .ref (gA E 2 16 0)), (2, .ref (gA E 2 11 0)), (1, .ref (gA E 2 10 0)), (0, .ref b)]) hx hb dL_law_135 hl (by decide) rfl (fun ls hl => ?_)
  refine lv_aload_n hx hb dL_law_137 rfl (lv_at hl 3 rfl) ?_
  refine lv_aload_n hx hb dL_law_138 rfl (lv_at hl 5 rfl) ?_
  refine lv_iload hx hb dL_law_139 (lv_at hl 1 rfl) ?_
  refine lv_iconst (v := 1) hx hb dL_law_141 (by decide) ?_
  refine lv_iadd hx hb dL_law_142 ?_
  rw [show (nI i : Int32) + 1 = nI (i + 1) from nI_add i 1]
  refine va_sld hx hb hX hbl hbA hS (vp_in_nI (by omega) (by omega)) dL_law_143 ?_
  rw [nI_clamp (show i + 1 < 2 ^ 31 by omega)]
  refine g_ki (g_runV (As := [.int (xs (i + 1))]) (rest := []) K hml ca_X6_come q778 (m_X6_come l E _ I1 (xs (i + 1)) hok) hG hS rfl rfl rfl rfl rfl hl.1 (Nat.le_of_ble_eq_true rfl) ⟨by decide, by decide⟩ dL_law_144 ⟨by show cells + 1 + 0 ≤ 601024; omega, by show slots + 6 * 1 + 0 ≤ 7293033; omega⟩) hS (fun H locs hG hS => ?_)
  rw [← hI2] at hG
  refine lv_istore (lv' := [(6, .int (f_X6_come_v I1 (xs (i + 1)))), (5, .int (hcode 1 (f_X4_come_x I (xs (i + 1))))), (4, .int (nI i)), (3, .ref (gA E 2 16 0)), (2, .ref (gA E 2 11 0)), (1, .ref (gA E 2 10 0)), (0, .ref b)]) hx hb dL_law_147 hl (by decide) rfl (fun ls hl => ?_)
  refine lv_aload_n hx hb dL_law_149 rfl (lv_at hl 4 rfl) ?_
  refine g_ki (g_runV (As := []) (rest := []) K hml ca_X6_thrown q774 (m_X6_thrown l E _ I2 trivial) hG hS rfl rfl rfl rfl rfl hl.1 (Nat.le_of_ble_eq_true rfl) ⟨by decide, by decide⟩ dL_law_150 ⟨by show cells + 1 + 0 ≤ 601024; omega, by show slots + 6 * 1 + 0 ≤ 7293033; omega⟩) hS (fun H locs hG hS => ?_)
  refine lv_iload hx hb dL_law_153 (lv_at hl 1 rfl) ?_
  refine lv_icmp_eq (tgt := 160) hx hb dL_law_155 (by decide) (fun _ => ?_) (fun h => absurd p1.symm h)
  refine lv_iload hx hb dL_law_160 (lv_at hl 1 rfl) ?_
  have hz : hcode 1 (f_X4_come_x I (xs (i + 1))) = 0 → f_X4_come_x I (xs (i + 1)) = 0 := hcode_z
  have hend : ∀ (J : Int64) (H : Heap) (locs : List Loc), GW E J I2 H → va_S (gF E) s.heap H locs → W p l e room_1 s m #[Value.ref b] below meth c H locs (cells + 1) (slots + 6 * 1) (lw_Z below #[Value.ref b] s) (F0 m 177 ls []) := fun J H locs hG hS => by
    refine lv_goto (tgt := 1104) hx hb dL_law_177 (by decide) ?_
    exact kk _ I2 H locs _ _ ls p3 hG hS (lv_sub hl [2, 3, 4, 5, 6] rfl) (by omega) (by omega)
  refine lv_if_ne (tgt := 177) hx hb dL_law_162 (by decide) (fun _ => hend _ H locs hG hS) (fun h0 => ?_)
  have h0 := hz h0
  rw [hJ_z h0] at hG
  refine lv_aload_n hx hb dL_law_165 rfl (lv_at hl 3 rfl) ?_
  refine lv_iconst (v := 0) hx hb dL_law_166 (by decide) ?_
  refine g_lald K hG dL_law_167 ?_
  refine lv_iload hx hb dL_law_168 (lv_at hl 0 rfl) ?_
  refine lv_i2l hx hb dL_law_170 rfl ?_
  refine W.lcmp hx hb dL_law_171 ?_
  rw [lcmp_eq (congrArg Int32.toInt64 (p2 h0))]
  exact lv_if_eq (tgt := 177) hx hb dL_law_172 (by decide) (fun _ => hend _ H locs hG hS) (fun h => absurd rfl h)
set_option maxHeartbeats 4000000 in
set_option maxRecDepth 100000 in
theorem law_setWay {p : Program} {l : Launch} {e : Env} {s : State} {m : MethodId} {below : List Frame} {meth : Method} {c : Code} {E : gE} {b L i : Nat} {xs : Nat → Int32} {Rel : gI → Prop} {J : Int64} {I : gI} {H : Heap} {locs : List Loc} {cells slots : Nat} {ls : Array Slot} (X : lx p l s m meth c E b L xs) (hi : i + 3 ≤ L) (hc : cells + 3 ≤ 601024) (hs : slots + 18 ≤ 7293033) (hq : lw0 I) (hP : sp_setWay Rel I (xs (i + 1)) (xs (i + 2))) (hG : GW E J I H) (hS : va_S (gF E) s.heap H locs) (hl : lv_has ls 9 (llv E b i)) (kk : lk p l e s m below meth c E b i Rel cells slots) : W p l e room_1 s m #[Value.ref b] below meth c H locs cells slots (lw_Z below #[Value.ref b] s) (F0 m 180 ls []) := by
  obtain ⟨K, hml, hr, hlocks, hX, hbl, hbA, hfl, hL⟩ := X
  have hx := K.1
  have hb := K.2.1
  have hts := K.2.2.1
  have hown := K.2.2.2.1
  have hSt := K.2.2.2.2
  obtain ⟨hw0, hw1, hzz, hzd⟩ := hq
  have hl : lv_has ls 9 [(4, .int (nI i)), (3, .ref (gA E 2 16 0)), (2, .ref (gA E 2 11 0)), (1, .ref (gA E 2 10 0)), (0, .ref b)] := hl
  refine lv_aload_n hx hb dL_law_180 rfl (lv_at hl 3 rfl) ?_
  refine lv_aload_n hx hb dL_law_181 rfl (lv_at hl 4 rfl) ?_
  refine lv_iload hx hb dL_law_182 (lv_at hl 0 rfl) ?_
  refine lv_iconst (v := 1) hx hb dL_law_184 (by decide) ?_
  refine lv_iadd hx hb dL_law_185 ?_
  rw [show (nI i : Int32) + 1 = nI (i + 1) from nI_add i 1]
  refine va_sld hx hb hX hbl hbA hS (vp_in_nI (by omega) (by omega)) dL_law_186 ?_
  rw [nI_clamp (show i + 1 < 2 ^ 31 by omega)]
  refine lv_aload_n hx hb dL_law_187 rfl (lv_at hl 4 rfl) ?_
  refine lv_iload hx hb dL_law_188 (lv_at hl 0 rfl) ?_
  refine lv_iconst (v := 2) hx hb dL_law_190 (by decide) ?_
  refine lv_iadd hx hb dL_law_191 ?_
  rw [show (nI i : Int32) + 2 = nI (i + 2) from nI_add i 2]
  refine va_sld hx hb hX hbl hbA hS (vp_in_nI (by omega) (by omega)) dL_law_192 ?_
  rw [nI_clamp (show i + 2 < 2 ^ 31 by omega)]
  refine lv_aload_n hx hb dL_law_193 rfl (lv_at hl 1 rfl) ?_
  refine g_kih (g_runSH (As := [.ref (gA E 2 10 0), .int (xs (i + 1)), .int (xs (i + 2)), .ref (gA E 2 16 0)]) (rest := []) K hml (show gcaH yL_setWay cL_setWay 5 [(0, 10, 13, 21)] 4 from ⟨q353, q0, q352, by decide +kernel⟩) q351 (m_L_setWay l E J I (xs (i + 1)) (xs (i + 2)) hw0 hfl) hG hS rfl hl.1 (Nat.le_of_ble_eq_true rfl) ⟨by decide, by decide⟩ dL_law_194 ⟨by show cells + 2 ≤ 601024; omega, by show slots + 6 * 2 ≤ 7293033; omega⟩) hS (fun H locs hG hS => ?_)
  obtain ⟨I1, hI1⟩ : ∃ z, z = hI (f_X4_setWay_x I (xs (i + 1)) (xs (i + 2))) (f_X4_setWay_s I (xs (i + 1)) (xs (i + 2))) I := ⟨_, rfl⟩
  rw [← hI1] at hG
  obtain ⟨hok, hP⟩ := hP I1 hI1
  obtain ⟨I2, hI2⟩ : ∃ z, z = f_X6_setWay_s I1 (xs (i + 1)) (xs (i + 2)) := ⟨_, rfl⟩
  obtain ⟨p1, p2, p3⟩ := hP I2 hI2
  refine lv_istore (lv' := [(5, .int (hcode 3 (f_X4_setWay_x I (xs (i + 1)) (xs (i + 2))))), (4, .int (nI i)), (3, .ref (gA E 2 16 0)), (2, .ref (gA E 2 11 0)), (1, .ref (gA E 2 10 0)), (0, .ref b)]) hx hb dL_law_197 hl (by decide) rfl (fun ls hl => ?_)
  refine lv_aload_n hx hb dL_law_199 rfl (lv_at hl 3 rfl) ?_
  refine lv_aload_n hx hb dL_law_200 rfl (lv_at hl 5 rfl) ?_
  refine lv_iload hx hb dL_law_201 (lv_at hl 1 rfl) ?_
  refine lv_iconst (v := 1) hx hb dL_law_203 (by decide) ?_
  refine lv_iadd hx hb dL_law_204 ?_
  rw [show (nI i : Int32) + 1 = nI (i + 1) from nI_add i 1]
  refine va_sld hx hb hX hbl hbA hS (vp_in_nI (by omega) (by omega)) dL_law_205 ?_
  rw [nI_clamp (show i + 1 < 2 ^ 31 by omega)]
  refine lv_aload_n hx hb dL_law_206 rfl (lv_at hl 5 rfl) ?_
  refine lv_iload hx hb dL_law_207 (lv_at hl 1 rfl) ?_
  refine lv_iconst (v := 2) hx hb dL_law_209 (by decide) ?_
  refine lv_iadd hx hb dL_law_210 ?_
  rw [show (nI i : Int32) + 2 = nI (i + 2) from nI_add i 2]
  refine va_sld hx hb hX hbl hbA hS (vp_in_nI (by omega) (by omega)) dL_law_211 ?_
  rw [nI_clamp (show i + 2 < 2 ^ 31 by omega)]
  refine g_ki (g_runV (As := [.int (xs (i + 1)), .int (xs (i + 2))]) (rest := []) K hml ca_X6_setWay q789 (m_X6_setWay l E _ I1 (xs (i + 1)) (xs (i + 2)) hok) hG hS rfl rfl rfl rfl rfl hl.1 (Nat.le_of_ble_eq_true rfl) ⟨by decide, by decide⟩ dL_law_212 ⟨by show cells + 2 + 0 ≤ 601024; omega, by show slots + 6 * 2 + 0 ≤ 7293033; omega⟩) hS (fun H locs hG hS => ?_)
  rw [← hI2] at hG
  refine lv_istore (lv' := [(6, .int (f_X6_setWay_v I1 (xs (i + 1)) (xs (i + 2)))), (5, .int (hcode 3 (f_X4_setWay_x I (xs (i + 1)) (xs (i + 2))))), (4, .int (nI i)), (3, .ref (gA E 2 16 0)), (2, .ref (gA E 2 11 0)), (1, .ref (gA E 2 10 0)), (0, .ref b)]) hx hb dL_law_215 hl (by decide) rfl (fun ls hl => ?_)
  refine lv_aload_n hx hb dL_law_217 rfl (lv_at hl 4 rfl) ?_
  refine g_ki (g_runV (As := []) (rest := []) K hml ca_X6_thrown q774 (m_X6_thrown l E _ I2 trivial) hG hS rfl rfl rfl rfl rfl hl.1 (Nat.le_of_ble_eq_true rfl) ⟨by decide, by decide⟩ dL_law_218 ⟨by show cells + 2 + 0 ≤ 601024; omega, by show slots + 6 * 2 + 0 ≤ 7293033; omega⟩) hS (fun H locs hG hS => ?_)
  refine lv_iload hx hb dL_law_221 (lv_at hl 1 rfl) ?_
  refine lv_icmp_eq (tgt := 228) hx hb dL_law_223 (by decide) (fun _ => ?_) (fun h => absurd p1.symm h)
  refine lv_iload hx hb dL_law_228 (lv_at hl 1 rfl) ?_
  have hz : hcode 3 (f_X4_setWay_x I (xs (i + 1)) (xs (i + 2))) = 0 → f_X4_setWay_x I (xs (i + 1)) (xs (i + 2)) = 0 := hcode_z
  have hend : ∀ (J : Int64) (H : Heap) (locs : List Loc), GW E J I2 H → va_S (gF E) s.heap H locs → W p l e room_1 s m #[Value.ref b] below meth c H locs (cells + 2) (slots + 6 * 2) (lw_Z below #[Value.ref b] s) (F0 m 245 ls []) := fun J H locs hG hS => by
    refine lv_goto (tgt := 1104) hx hb dL_law_245 (by decide) ?_
    exact kk _ I2 H locs _ _ ls p3 hG hS (lv_sub hl [2, 3, 4, 5, 6] rfl) (by omega) (by omega)
  refine lv_if_ne (tgt := 245) hx hb dL_law_230 (by decide) (fun _ => hend _ H locs hG hS) (fun h0 => ?_)
  have h0 := hz h0
  rw [hJ_z h0] at hG
  refine lv_aload_n hx hb dL_law_233 rfl (lv_at hl 3 rfl) ?_
  refine lv_iconst (v := 0) hx hb dL_law_234 (by decide) ?_
  refine g_lald K hG dL_law_235 ?_
  refine lv_iload hx hb dL_law_236 (lv_at hl 0 rfl) ?_
  refine lv_i2l hx hb dL_law_238 rfl ?_
  refine W.lcmp hx hb dL_law_239 ?_
  rw [lcmp_eq (congrArg Int32.toInt64 (p2 h0))]
  exact lv_if_eq (tgt := 245) hx hb dL_law_240 (by decide) (fun _ => hend _ H locs hG hS) (fun h => absurd rfl h)
set_option maxHeartbeats 4000000 in
set_option maxRecDepth 100000 in
theorem law_setFork {p : Program} {l : Launch} {e : Env} {s : State} {m : MethodId} {below : List Frame} {meth : Method} {c : Code} {E : gE} {b L i : Nat} {xs : Nat → Int32} {Rel : gI → Prop} {J : Int64} {I : gI} {H : Heap} {locs : List Loc} {cells slots : Nat} {ls : Array Slot} (X : lx p l s m meth c E b L xs) (hi : i + 3 ≤ L) (hc : cells + 3 ≤ 601024) (hs : slots + 18 ≤ 7293033) (hq : lw0 I) (hP : sp_setFork Rel I (xs (i + 1))) (hG : GW E J I H) (hS : va_S (gF E) s.heap H locs) (hl : lv_has ls 9 (llv E b i)) (kk : lk p l e s m below meth c E b i Rel cells slots) : W p l e room_1 s m #[Value.ref b] below meth c H locs cells slots (lw_Z below #[Value.ref b] s) (F0 m 248 ls []) := by
  obtain ⟨K, hml, hr, hlocks, hX, hbl, hbA, hfl, hL⟩ := X
  have hx := K.1
  have hb := K.2.1
  have hts := K.2.2.1
  have hown := K.2.2.2.1
  have hSt := K.2.2.2.2
  obtain ⟨hw0, hw1, hzz, hzd⟩ := hq
  have hl : lv_has ls 9 [(4, .int (nI i)), (3, .ref (gA E 2 16 0)), (2, .ref (gA E 2 11 0)), (1, .ref (gA E 2 10 0)), (0, .ref b)] := hl
  refine lv_aload_n hx hb dL_law_248 rfl (lv_at hl 3 rfl) ?_
  refine lv_aload_n hx hb dL_law_249 rfl (lv_at hl 4 rfl) ?_
  refine lv_iload hx hb dL_law_250 (lv_at hl 0 rfl) ?_
  refine lv_iconst (v := 1) hx hb dL_law_252 (by decide) ?_
  refine lv_iadd hx hb dL_law_253 ?_
  rw [show (nI i : Int32) + 1 = nI (i + 1) from nI_add i 1]
  refine va_sld hx hb hX hbl hbA hS (vp_in_nI (by omega) (by omega)) dL_law_254 ?_
  rw [nI_clamp (show i + 1 < 2 ^ 31 by omega)]
  refine lv_aload_n hx hb dL_law_255 rfl (lv_at hl 1 rfl) ?_
  refine g_kih (g_runSH (As := [.ref (gA E 2 10 0), .int (xs (i + 1)), .ref (gA E 2 16 0)]) (rest := []) K hml (show gcaH yL_setFork cL_setFork 4 [(0, 9, 12, 13)] 3 from ⟨q382, q0, q381, by decide +kernel⟩) q380 (m_L_setFork l E J I (xs (i + 1)) hw0 hfl) hG hS rfl hl.1 (Nat.le_of_ble_eq_true rfl) ⟨by decide, by decide⟩ dL_law_256 ⟨by show cells + 1 ≤ 601024; omega, by show slots + 6 * 1 ≤ 7293033; omega⟩) hS (fun H locs hG hS => ?_)
  obtain ⟨I1, hI1⟩ : ∃ z, z = hI (f_X4_setFork_x I (xs (i + 1))) (f_X4_setFork_s I (xs (i + 1))) I := ⟨_, rfl⟩
  rw [← hI1] at hG
  obtain ⟨hok, hP⟩ := hP I1 hI1
  obtain ⟨I2, hI2⟩ : ∃ z, z = f_X6_setFork_s I1 (xs (i + 1)) := ⟨_, rfl⟩
  obtain ⟨p1, p2, p3⟩ := hP I2 hI2
  refine lv_istore (lv' := [(5, .int (hcode 1 (f_X4_setFork_x I (xs (i + 1))))), (4, .int (nI i)), (3, .ref (gA E 2 16 0)), (2, .ref (gA E 2 11 0)), (1, .ref (gA E 2 10 0)), (0, .ref b)]) hx hb dL_law_259 hl (by decide) rfl (fun ls hl => ?_)
  refine lv_aload_n hx hb dL_law_261 rfl (lv_at hl 3 rfl) ?_
  refine lv_aload_n hx hb dL_law_262 rfl (lv_at hl 5 rfl) ?_
  refine lv_iload hx hb dL_law_263 (lv_at hl 1 rfl) ?_
  refine lv_iconst (v := 1) hx hb dL_law_265 (by decide) ?_
  refine lv_iadd hx hb dL_law_266 ?_
  rw [show (nI i : Int32) + 1 = nI (i + 1) from nI_add i 1]
  refine va_sld hx hb hX hbl hbA hS (vp_in_nI (by omega) (by omega)) dL_law_267 ?_
  rw [nI_clamp (show i + 1 < 2 ^ 31 by omega)]
  refine g_ki (g_runV (As := [.int (xs (i + 1))]) (rest := []) K hml ca_X6_setFork q797 (m_X6_setFork l E _ I1 (xs (i + 1)) hok) hG hS rfl rfl rfl rfl rfl hl.1 (Nat.le_of_ble_eq_true rfl) ⟨by decide, by decide⟩ dL_law_268 ⟨by show cells + 1 + 0 ≤ 601024; omega, by show slots + 6 * 1 + 0 ≤ 7293033; omega⟩) hS (fun H locs hG hS => ?_)
  rw [← hI2] at hG
  refine lv_istore (lv' := [(6, .int (f_X6_setFork_v I1 (xs (i + 1)))), (5, .int (hcode 1 (f_X4_setFork_x I (xs (i + 1))))), (4, .int (nI i)), (3, .ref (gA E 2 16 0)), (2, .ref (gA E 2 11 0)), (1, .ref (gA E 2 10 0)), (0, .ref b)]) hx hb dL_law_271 hl (by decide) rfl (fun ls hl => ?_)
  refine lv_aload_n hx hb dL_law_273 rfl (lv_at hl 4 rfl) ?_
  refine g_ki (g_runV (As := []) (rest := []) K hml ca_X6_thrown q774 (m_X6_thrown l E _ I2 trivial) hG hS rfl rfl rfl rfl rfl hl.1 (Nat.le_of_ble_eq_true rfl) ⟨by decide, by decide⟩ dL_law_274 ⟨by show cells + 1 + 0 ≤ 601024; omega, by show slots + 6 * 1 + 0 ≤ 7293033; omega⟩) hS (fun H locs hG hS => ?_)
  refine lv_iload hx hb dL_law_277 (lv_at hl 1 rfl) ?_
  refine lv_icmp_eq (tgt := 284) hx hb dL_law_279 (by decide) (fun _ => ?_) (fun h => absurd p1.symm h)
  refine lv_iload hx hb dL_law_284 (lv_at hl 1 rfl) ?_
  have hz : hcode 1 (f_X4_setFork_x I (xs (i + 1))) = 0 → f_X4_setFork_x I (xs (i + 1)) = 0 := hcode_z
  have hend : ∀ (J : Int64) (H : Heap) (locs : List Loc), GW E J I2 H → va_S (gF E) s.heap H locs → W p l e room_1 s m #[Value.ref b] below meth c H locs (cells + 1) (slots + 6 * 1) (lw_Z below #[Value.ref b] s) (F0 m 301 ls []) := fun J H locs hG hS => by
    refine lv_goto (tgt := 1104) hx hb dL_law_301 (by decide) ?_
    exact kk _ I2 H locs _ _ ls p3 hG hS (lv_sub hl [2, 3, 4, 5, 6] rfl) (by omega) (by omega)
  refine lv_if_ne (tgt := 301) hx hb dL_law_286 (by decide) (fun _ => hend _ H locs hG hS) (fun h0 => ?_)
  have h0 := hz h0
  rw [hJ_z h0] at hG
  refine lv_aload_n hx hb dL_law_289 rfl (lv_at hl 3 rfl) ?_
  refine lv_iconst (v := 0) hx hb dL_law_290 (by decide) ?_
  refine g_lald K hG dL_law_291 ?_
  refine lv_iload hx hb dL_law_292 (lv_at hl 0 rfl) ?_
  refine lv_i2l hx hb dL_law_294 rfl ?_
  refine W.lcmp hx hb dL_law_295 ?_
  rw [lcmp_eq (congrArg Int32.toInt64 (p2 h0))]
  exact lv_if_eq (tgt := 301) hx hb dL_law_296 (by decide) (fun _ => hend _ H locs hG hS) (fun h => absurd rfl h)
set_option maxHeartbeats 4000000 in
set_option maxRecDepth 100000 in
theorem law_bring {p : Program} {l : Launch} {e : Env} {s : State} {m : MethodId} {below : List Frame} {meth : Method} {c : Code} {E : gE} {b L i : Nat} {xs : Nat → Int32} {Rel : gI → Prop} {J : Int64} {I : gI} {H : Heap} {locs : List Loc} {cells slots : Nat} {ls : Array Slot} (X : lx p l s m meth c E b L xs) (hi : i + 3 ≤ L) (hc : cells + 3 ≤ 601024) (hs : slots + 18 ≤ 7293033) (hq : lw0 I) (hP : sp_bring Rel I (xs (i + 1))) (hG : GW E J I H) (hS : va_S (gF E) s.heap H locs) (hl : lv_has ls 9 (llv E b i)) (kk : lk p l e s m below meth c E b i Rel cells slots) : W p l e room_1 s m #[Value.ref b] below meth c H locs cells slots (lw_Z below #[Value.ref b] s) (F0 m 304 ls []) := by
  obtain ⟨K, hml, hr, hlocks, hX, hbl, hbA, hfl, hL⟩ := X
  have hx := K.1
  have hb := K.2.1
  have hts := K.2.2.1
  have hown := K.2.2.2.1
  have hSt := K.2.2.2.2
  obtain ⟨hw0, hw1, hzz, hzd⟩ := hq
  have hl : lv_has ls 9 [(4, .int (nI i)), (3, .ref (gA E 2 16 0)), (2, .ref (gA E 2 11 0)), (1, .ref (gA E 2 10 0)), (0, .ref b)] := hl
  refine lv_aload_n hx hb dL_law_304 rfl (lv_at hl 3 rfl) ?_
  refine lv_aload_n hx hb dL_law_305 rfl (lv_at hl 4 rfl) ?_
  refine lv_iload hx hb dL_law_306 (lv_at hl 0 rfl) ?_
  refine lv_iconst (v := 1) hx hb dL_law_308 (by decide) ?_
  refine lv_iadd hx hb dL_law_309 ?_
  rw [show (nI i : Int32) + 1 = nI (i + 1) from nI_add i 1]
  refine va_sld hx hb hX hbl hbA hS (vp_in_nI (by omega) (by omega)) dL_law_310 ?_
  rw [nI_clamp (show i + 1 < 2 ^ 31 by omega)]
  refine lv_aload_n hx hb dL_law_311 rfl (lv_at hl 1 rfl) ?_
  refine g_kih (g_runSH (As := [.ref (gA E 2 10 0), .int (xs (i + 1)), .ref (gA E 2 16 0)]) (rest := []) K hml (show gcaH yL_bring cL_bring 4 [(0, 9, 12, 13), (0, 9, 15, 15)] 3 from ⟨q390, q0, q389, by decide +kernel⟩) q388 (m_L_bring l E J I (xs (i + 1)) hw0 hfl) hG hS rfl hl.1 (Nat.le_of_ble_eq_true rfl) ⟨by decide, by decide⟩ dL_law_312 ⟨by show cells + 1 ≤ 601024; omega, by show slots + 6 * 1 ≤ 7293033; omega⟩) hS (fun H locs hG hS => ?_)
  obtain ⟨I1, hI1⟩ : ∃ z, z = hI (f_X4_bring_x I (xs (i + 1))) (f_X4_bring_s I (xs (i + 1))) I := ⟨_, rfl⟩
  rw [← hI1] at hG
  obtain ⟨hok, hP⟩ := hP I1 hI1
  obtain ⟨I2, hI2⟩ : ∃ z, z = f_X6_bring_s I1 (xs (i + 1)) := ⟨_, rfl⟩
  obtain ⟨p1, p2, p3⟩ := hP I2 hI2
  refine lv_istore (lv' := [(5, .int (hcode 1 (f_X4_bring_x I (xs (i + 1))))), (4, .int (nI i)), (3, .ref (gA E 2 16 0)), (2, .ref (gA E 2 11 0)), (1, .ref (gA E 2 10 0)), (0, .ref b)]) hx hb dL_law_315 hl (by decide) rfl (fun ls hl => ?_)
  refine lv_aload_n hx hb dL_law_317 rfl (lv_at hl 3 rfl) ?_
  refine lv_aload_n hx hb dL_law_318 rfl (lv_at hl 5 rfl) ?_
  refine lv_iload hx hb dL_law_319 (lv_at hl 1 rfl) ?_
  refine lv_iconst (v := 1) hx hb dL_law_321 (by decide) ?_
  refine lv_iadd hx hb dL_law_322 ?_
  rw [show (nI i : Int32) + 1 = nI (i + 1) from nI_add i 1]
  refine va_sld hx hb hX hbl hbA hS (vp_in_nI (by omega) (by omega)) dL_law_323 ?_
  rw [nI_clamp (show i + 1 < 2 ^ 31 by omega)]
  refine g_ki (g_runV (As := [.int (xs (i + 1))]) (rest := []) K hml ca_X6_bring q801 (m_X6_bring l E _ I1 (xs (i + 1)) hok) hG hS rfl rfl rfl rfl rfl hl.1 (Nat.le_of_ble_eq_true rfl) ⟨by decide, by decide⟩ dL_law_324 ⟨by show cells + 1 + 0 ≤ 601024; omega, by show slots + 6 * 1 + 0 ≤ 7293033; omega⟩) hS (fun H locs hG hS => ?_)
  rw [← hI2] at hG
  refine lv_istore (lv' := [(6, .int (f_X6_bring_v I1 (xs (i + 1)))), (5, .int (hcode 1 (f_X4_bring_x I (xs (i + 1))))), (4, .int (nI i)), (3, .ref (gA E 2 16 0)), (2, .ref (gA E 2 11 0)), (1, .ref (gA E 2 10 0)), (0, .ref b)]) hx hb dL_law_327 hl (by decide) rfl (fun ls hl => ?_)
  refine lv_aload_n hx hb dL_law_329 rfl (lv_at hl 4 rfl) ?_
  refine g_ki (g_runV (As := []) (rest := []) K hml ca_X6_thrown q774 (m_X6_thrown l E _ I2 trivial) hG hS rfl rfl rfl rfl rfl hl.1 (Nat.le_of_ble_eq_true rfl) ⟨by decide, by decide⟩ dL_law_330 ⟨by show cells + 1 + 0 ≤ 601024; omega, by show slots + 6 * 1 + 0 ≤ 7293033; omega⟩) hS (fun H locs hG hS => ?_)
  refine lv_iload hx hb dL_law_333 (lv_at hl 1 rfl) ?_
  refine lv_icmp_eq (tgt := 340) hx hb dL_law_335 (by decide) (fun _ => ?_) (fun h => absurd p1.symm h)
  refine lv_iload hx hb dL_law_340 (lv_at hl 1 rfl) ?_
  have hz : hcode 1 (f_X4_bring_x I (xs (i + 1))) = 0 → f_X4_bring_x I (xs (i + 1)) = 0 := hcode_z
  have hend : ∀ (J : Int64) (H : Heap) (locs : List Loc), GW E J I2 H → va_S (gF E) s.heap H locs → W p l e room_1 s m #[Value.ref b] below meth c H locs (cells + 1) (slots + 6 * 1) (lw_Z below #[Value.ref b] s) (F0 m 357 ls []) := fun J H locs hG hS => by
    refine lv_goto (tgt := 1104) hx hb dL_law_357 (by decide) ?_
    exact kk _ I2 H locs _ _ ls p3 hG hS (lv_sub hl [2, 3, 4, 5, 6] rfl) (by omega) (by omega)
  refine lv_if_ne (tgt := 357) hx hb dL_law_342 (by decide) (fun _ => hend _ H locs hG hS) (fun h0 => ?_)
  have h0 := hz h0
  rw [hJ_z h0] at hG
  refine lv_aload_n hx hb dL_law_345 rfl (lv_at hl 3 rfl) ?_
  refine lv_iconst (v := 0) hx hb dL_law_346 (by decide) ?_
  refine g_lald K hG dL_law_347 ?_
  refine lv_iload hx hb dL_law_348 (lv_at hl 0 rfl) ?_
  refine lv_i2l hx hb dL_law_350 rfl ?_
  refine W.lcmp hx hb dL_law_351 ?_
  rw [lcmp_eq (congrArg Int32.toInt64 (p2 h0))]
  exact lv_if_eq (tgt := 357) hx hb dL_law_352 (by decide) (fun _ => hend _ H locs hG hS) (fun h => absurd rfl h)
set_option maxHeartbeats 4000000 in
set_option maxRecDepth 100000 in
theorem law_swap {p : Program} {l : Launch} {e : Env} {s : State} {m : MethodId} {below : List Frame} {meth : Method} {c : Code} {E : gE} {b L i : Nat} {xs : Nat → Int32} {Rel : gI → Prop} {J : Int64} {I : gI} {H : Heap} {locs : List Loc} {cells slots : Nat} {ls : Array Slot} (X : lx p l s m meth c E b L xs) (hi : i + 3 ≤ L) (hc : cells + 3 ≤ 601024) (hs : slots + 18 ≤ 7293033) (hq : lw0 I) (hP : sp_swap Rel I (xs (i + 1)) (xs (i + 2))) (hG : GW E J I H) (hS : va_S (gF E) s.heap H locs) (hl : lv_has ls 9 (llv E b i)) (kk : lk p l e s m below meth c E b i Rel cells slots) : W p l e room_1 s m #[Value.ref b] below meth c H locs cells slots (lw_Z below #[Value.ref b] s) (F0 m 360 ls []) := by
  obtain ⟨K, hml, hr, hlocks, hX, hbl, hbA, hfl, hL⟩ := X
  have hx := K.1
  have hb := K.2.1
  have hts := K.2.2.1
  have hown := K.2.2.2.1
  have hSt := K.2.2.2.2
  obtain ⟨hw0, hw1, hzz, hzd⟩ := hq
  have hl : lv_has ls 9 [(4, .int (nI i)), (3, .ref (gA E 2 16 0)), (2, .ref (gA E 2 11 0)), (1, .ref (gA E 2 10 0)), (0, .ref b)] := hl
  refine lv_aload_n hx hb dL_law_360 rfl (lv_at hl 3 rfl) ?_
  refine lv_aload_n hx hb dL_law_361 rfl (lv_at hl 4 rfl) ?_
  refine lv_iload hx hb dL_law_362 (lv_at hl 0 rfl) ?_
  refine lv_iconst (v := 1) hx hb dL_law_364 (by decide) ?_
  refine lv_iadd hx hb dL_law_365 ?_
  rw [show (nI i : Int32) + 1 = nI (i + 1) from nI_add i 1]
  refine va_sld hx hb hX hbl hbA hS (vp_in_nI (by omega) (by omega)) dL_law_366 ?_
  rw [nI_clamp (show i + 1 < 2 ^ 31 by omega)]
  refine lv_aload_n hx hb dL_law_367 rfl (lv_at hl 4 rfl) ?_
  refine lv_iload hx hb dL_law_368 (lv_at hl 0 rfl) ?_
  refine lv_iconst (v := 2) hx hb dL_law_370 (by decide) ?_
  refine lv_iadd hx hb dL_law_371 ?_
  rw [show (nI i : Int32) + 2 = nI (i + 2) from nI_add i 2]
  refine va_sld hx hb hX hbl hbA hS (vp_in_nI (by omega) (by omega)) dL_law_372 ?_
  rw [nI_clamp (show i + 2 < 2 ^ 31 by omega)]
  refine lv_aload_n hx hb dL_law_373 rfl (lv_at hl 1 rfl) ?_
  refine g_kih (g_runSH (As := [.ref (gA E 2 10 0), .int (xs (i + 1)), .int (xs (i + 2)), .ref (gA E 2 16 0)]) (rest := []) K hml (show gcaH yL_swap cL_swap 5 [(0, 10, 13, 21), (0, 10, 17, 13)] 4 from ⟨q411, q0, q410, by decide +kernel⟩) q409 (m_L_swap l E J I (xs (i + 1)) (xs (i + 2)) hw0 hfl) hG hS rfl hl.1 (Nat.le_of_ble_eq_true rfl) ⟨by decide, by decide⟩ dL_law_374 ⟨by show cells + 3 ≤ 601024; omega, by show slots + 6 * 3 ≤ 7293033; omega⟩) hS (fun H locs hG hS => ?_)
  obtain ⟨I1, hI1⟩ : ∃ z, z = hI (f_X4_swap_x I (xs (i + 1)) (xs (i + 2))) (f_X4_swap_s I (xs (i + 1)) (xs (i + 2))) I := ⟨_, rfl⟩
  rw [← hI1] at hG
  obtain ⟨hok, hP⟩ := hP I1 hI1
  obtain ⟨I2, hI2⟩ : ∃ z, z = f_X6_swap_s I1 (xs (i + 1)) (xs (i + 2)) := ⟨_, rfl⟩
  obtain ⟨p1, p2, p3⟩ := hP I2 hI2
  refine lv_istore (lv' := [(5, .int (hcode 3 (f_X4_swap_x I (xs (i + 1)) (xs (i + 2))))), (4, .int (nI i)), (3, .ref (gA E 2 16 0)), (2, .ref (gA E 2 11 0)), (1, .ref (gA E 2 10 0)), (0, .ref b)]) hx hb dL_law_377 hl (by decide) rfl (fun ls hl => ?_)
  refine lv_aload_n hx hb dL_law_379 rfl (lv_at hl 3 rfl) ?_
  refine lv_aload_n hx hb dL_law_380 rfl (lv_at hl 5 rfl) ?_
  refine lv_iload hx hb dL_law_381 (lv_at hl 1 rfl) ?_
  refine lv_iconst (v := 1) hx hb dL_law_383 (by decide) ?_
  refine lv_iadd hx hb dL_law_384 ?_
  rw [show (nI i : Int32) + 1 = nI (i + 1) from nI_add i 1]
  refine va_sld hx hb hX hbl hbA hS (vp_in_nI (by omega) (by omega)) dL_law_385 ?_
  rw [nI_clamp (show i + 1 < 2 ^ 31 by omega)]
  refine lv_aload_n hx hb dL_law_386 rfl (lv_at hl 5 rfl) ?_
  refine lv_iload hx hb dL_law_387 (lv_at hl 1 rfl) ?_
  refine lv_iconst (v := 2) hx hb dL_law_389 (by decide) ?_
  refine lv_iadd hx hb dL_law_390 ?_
  rw [show (nI i : Int32) + 2 = nI (i + 2) from nI_add i 2]
  refine va_sld hx hb hX hbl hbA hS (vp_in_nI (by omega) (by omega)) dL_law_391 ?_
  rw [nI_clamp (show i + 2 < 2 ^ 31 by omega)]
  refine g_ki (g_runV (As := [.int (xs (i + 1)), .int (xs (i + 2))]) (rest := []) K hml ca_X6_swap q809 (m_X6_swap l E _ I1 (xs (i + 1)) (xs (i + 2)) hok) hG hS rfl rfl rfl rfl rfl hl.1 (Nat.le_of_ble_eq_true rfl) ⟨by decide, by decide⟩ dL_law_392 ⟨by show cells + 3 + 0 ≤ 601024; omega, by show slots + 6 * 3 + 0 ≤ 7293033; omega⟩) hS (fun H locs hG hS => ?_)
  rw [← hI2] at hG
  refine lv_istore (lv' := [(6, .int (f_X6_swap_v I1 (xs (i + 1)) (xs (i + 2)))), (5, .int (hcode 3 (f_X4_swap_x I (xs (i + 1)) (xs (i + 2))))), (4, .int (nI i)), (3, .ref (gA E 2 16 0)), (2, .ref (gA E 2 11 0)), (1, .ref (gA E 2 10 0)), (0, .ref b)]) hx hb dL_law_395 hl (by decide) rfl (fun ls hl => ?_)
  refine lv_aload_n hx hb dL_law_397 rfl (lv_at hl 4 rfl) ?_
  refine g_ki (g_runV (As := []) (rest := []) K hml ca_X6_thrown q774 (m_X6_thrown l E _ I2 trivial) hG hS rfl rfl rfl rfl rfl hl.1 (Nat.le_of_ble_eq_true rfl) ⟨by decide, by decide⟩ dL_law_398 ⟨by show cells + 3 + 0 ≤ 601024; omega, by show slots + 6 * 3 + 0 ≤ 7293033; omega⟩) hS (fun H locs hG hS => ?_)
  refine lv_iload hx hb dL_law_401 (lv_at hl 1 rfl) ?_
  refine lv_icmp_eq (tgt := 408) hx hb dL_law_403 (by decide) (fun _ => ?_) (fun h => absurd p1.symm h)
  refine lv_iload hx hb dL_law_408 (lv_at hl 1 rfl) ?_
  have hz : hcode 3 (f_X4_swap_x I (xs (i + 1)) (xs (i + 2))) = 0 → f_X4_swap_x I (xs (i + 1)) (xs (i + 2)) = 0 := hcode_z
  have hend : ∀ (J : Int64) (H : Heap) (locs : List Loc), GW E J I2 H → va_S (gF E) s.heap H locs → W p l e room_1 s m #[Value.ref b] below meth c H locs (cells + 3) (slots + 6 * 3) (lw_Z below #[Value.ref b] s) (F0 m 425 ls []) := fun J H locs hG hS => by
    refine lv_goto (tgt := 1104) hx hb dL_law_425 (by decide) ?_
    exact kk _ I2 H locs _ _ ls p3 hG hS (lv_sub hl [2, 3, 4, 5, 6] rfl) (by omega) (by omega)
  refine lv_if_ne (tgt := 425) hx hb dL_law_410 (by decide) (fun _ => hend _ H locs hG hS) (fun h0 => ?_)
  have h0 := hz h0
  rw [hJ_z h0] at hG
  refine lv_aload_n hx hb dL_law_413 rfl (lv_at hl 3 rfl) ?_
  refine lv_iconst (v := 0) hx hb dL_law_414 (by decide) ?_
  refine g_lald K hG dL_law_415 ?_
  refine lv_iload hx hb dL_law_416 (lv_at hl 0 rfl) ?_
  refine lv_i2l hx hb dL_law_418 rfl ?_
  refine W.lcmp hx hb dL_law_419 ?_
  rw [lcmp_eq (congrArg Int32.toInt64 (p2 h0))]
  exact lv_if_eq (tgt := 425) hx hb dL_law_420 (by decide) (fun _ => hend _ H locs hG hS) (fun h => absurd rfl h)
set_option maxHeartbeats 4000000 in
set_option maxRecDepth 100000 in
theorem law_wake {p : Program} {l : Launch} {e : Env} {s : State} {m : MethodId} {below : List Frame} {meth : Method} {c : Code} {E : gE} {b L i : Nat} {xs : Nat → Int32} {Rel : gI → Prop} {J : Int64} {I : gI} {H : Heap} {locs : List Loc} {cells slots : Nat} {ls : Array Slot} (X : lx p l s m meth c E b L xs) (hi : i + 3 ≤ L) (hc : cells + 3 ≤ 601024) (hs : slots + 18 ≤ 7293033) (hq : lw0 I) (hP : sp_wake Rel I (xs (i + 1))) (hG : GW E J I H) (hS : va_S (gF E) s.heap H locs) (hl : lv_has ls 9 (llv E b i)) (kk : lk p l e s m below meth c E b i Rel cells slots) : W p l e room_1 s m #[Value.ref b] below meth c H locs cells slots (lw_Z below #[Value.ref b] s) (F0 m 428 ls []) := by
  obtain ⟨K, hml, hr, hlocks, hX, hbl, hbA, hfl, hL⟩ := X
  have hx := K.1
  have hb := K.2.1
  have hts := K.2.2.1
  have hown := K.2.2.2.1
  have hSt := K.2.2.2.2
  obtain ⟨hw0, hw1, hzz, hzd⟩ := hq
  have hl : lv_has ls 9 [(4, .int (nI i)), (3, .ref (gA E 2 16 0)), (2, .ref (gA E 2 11 0)), (1, .ref (gA E 2 10 0)), (0, .ref b)] := hl
  refine lv_aload_n hx hb dL_law_428 rfl (lv_at hl 3 rfl) ?_
  refine lv_aload_n hx hb dL_law_429 rfl (lv_at hl 4 rfl) ?_
  refine lv_iload hx hb dL_law_430 (lv_at hl 0 rfl) ?_
  refine lv_iconst (v := 1) hx hb dL_law_432 (by decide) ?_
  refine lv_iadd hx hb dL_law_433 ?_
  rw [show (nI i : Int32) + 1 = nI (i + 1) from nI_add i 1]
  refine va_sld hx hb hX hbl hbA hS (vp_in_nI (by omega) (by omega)) dL_law_434 ?_
  rw [nI_clamp (show i + 1 < 2 ^ 31 by omega)]
  refine lv_aload_n hx hb dL_law_435 rfl (lv_at hl 1 rfl) ?_
  refine g_kih (g_runSH (As := [.ref (gA E 2 10 0), .int (xs (i + 1)), .ref (gA E 2 16 0)]) (rest := []) K hml (show gcaH yL_wake cL_wake 4 [(0, 9, 12, 21), (0, 9, 15, 15)] 3 from ⟨q419, q0, q418, by decide +kernel⟩) q417 (m_L_wake l E J I (xs (i + 1)) hw0 hfl) hG hS rfl hl.1 (Nat.le_of_ble_eq_true rfl) ⟨by decide, by decide⟩ dL_law_436 ⟨by show cells + 2 ≤ 601024; omega, by show slots + 6 * 2 ≤ 7293033; omega⟩) hS (fun H locs hG hS => ?_)
  obtain ⟨I1, hI1⟩ : ∃ z, z = hI (f_X4_wake_x I (xs (i + 1))) (f_X4_wake_s I (xs (i + 1))) I := ⟨_, rfl⟩
  rw [← hI1] at hG
  obtain ⟨hok, hP⟩ := hP I1 hI1
  obtain ⟨I2, hI2⟩ : ∃ z, z = f_X6_wake_s I1 (xs (i + 1)) := ⟨_, rfl⟩
  obtain ⟨p1, p2, p3⟩ := hP I2 hI2
  refine lv_istore (lv' := [(5, .int (hcode 3 (f_X4_wake_x I (xs (i + 1))))), (4, .int (nI i)), (3, .ref (gA E 2 16 0)), (2, .ref (gA E 2 11 0)), (1, .ref (gA E 2 10 0)), (0, .ref b)]) hx hb dL_law_439 hl (by decide) rfl (fun ls hl => ?_)
  refine lv_aload_n hx hb dL_law_441 rfl (lv_at hl 3 rfl) ?_
  refine lv_aload_n hx hb dL_law_442 rfl (lv_at hl 5 rfl) ?_
  refine lv_iload hx hb dL_law_443 (lv_at hl 1 rfl) ?_
  refine lv_iconst (v := 1) hx hb dL_law_445 (by decide) ?_
  refine lv_iadd hx hb dL_law_446 ?_
  rw [show (nI i : Int32) + 1 = nI (i + 1) from nI_add i 1]
  refine va_sld hx hb hX hbl hbA hS (vp_in_nI (by omega) (by omega)) dL_law_447 ?_
  rw [nI_clamp (show i + 1 < 2 ^ 31 by omega)]
  refine g_ki (g_runV (As := [.int (xs (i + 1))]) (rest := []) K hml ca_X6_wake q813 (m_X6_wake l E _ I1 (xs (i + 1)) hok) hG hS rfl rfl rfl rfl rfl hl.1 (Nat.le_of_ble_eq_true rfl) ⟨by decide, by decide⟩ dL_law_448 ⟨by show cells + 2 + 0 ≤ 601024; omega, by show slots + 6 * 2 + 0 ≤ 7293033; omega⟩) hS (fun H locs hG hS => ?_)
  rw [← hI2] at hG
  refine lv_istore (lv' := [(6, .int (f_X6_wake_v I1 (xs (i + 1)))), (5, .int (hcode 3 (f_X4_wake_x I (xs (i + 1))))), (4, .int (nI i)), (3, .ref (gA E 2 16 0)), (2, .ref (gA E 2 11 0)), (1, .ref (gA E 2 10 0)), (0, .ref b)]) hx hb dL_law_451 hl (by decide) rfl (fun ls hl => ?_)
  refine lv_aload_n hx hb dL_law_453 rfl (lv_at hl 4 rfl) ?_
  refine g_ki (g_runV (As := []) (rest := []) K hml ca_X6_thrown q774 (m_X6_thrown l E _ I2 trivial) hG hS rfl rfl rfl rfl rfl hl.1 (Nat.le_of_ble_eq_true rfl) ⟨by decide, by decide⟩ dL_law_454 ⟨by show cells + 2 + 0 ≤ 601024; omega, by show slots + 6 * 2 + 0 ≤ 7293033; omega⟩) hS (fun H locs hG hS => ?_)
  refine lv_iload hx hb dL_law_457 (lv_at hl 1 rfl) ?_
  refine lv_icmp_eq (tgt := 464) hx hb dL_law_459 (by decide) (fun _ => ?_) (fun h => absurd p1.symm h)
  refine lv_iload hx hb dL_law_464 (lv_at hl 1 rfl) ?_
  have hz : hcode 3 (f_X4_wake_x I (xs (i + 1))) = 0 → f_X4_wake_x I (xs (i + 1)) = 0 := hcode_z
  have hend : ∀ (J : Int64) (H : Heap) (locs : List Loc), GW E J I2 H → va_S (gF E) s.heap H locs → W p l e room_1 s m #[Value.ref b] below meth c H locs (cells + 2) (slots + 6 * 2) (lw_Z below #[Value.ref b] s) (F0 m 481 ls []) := fun J H locs hG hS => by
    refine lv_goto (tgt := 1104) hx hb dL_law_481 (by decide) ?_
    exact kk _ I2 H locs _ _ ls p3 hG hS (lv_sub hl [2, 3, 4, 5, 6] rfl) (by omega) (by omega)
  refine lv_if_ne (tgt := 481) hx hb dL_law_466 (by decide) (fun _ => hend _ H locs hG hS) (fun h0 => ?_)
  have h0 := hz h0
  rw [hJ_z h0] at hG
  refine lv_aload_n hx hb dL_law_469 rfl (lv_at hl 3 rfl) ?_
  refine lv_iconst (v := 0) hx hb dL_law_470 (by decide) ?_
  refine g_lald K hG dL_law_471 ?_
  refine lv_iload hx hb dL_law_472 (lv_at hl 0 rfl) ?_
  refine lv_i2l hx hb dL_law_474 rfl ?_
  refine W.lcmp hx hb dL_law_475 ?_
  rw [lcmp_eq (congrArg Int32.toInt64 (p2 h0))]
  exact lv_if_eq (tgt := 481) hx hb dL_law_476 (by decide) (fun _ => hend _ H locs hG hS) (fun h => absurd rfl h)
set_option maxHeartbeats 4000000 in
set_option maxRecDepth 100000 in
theorem law_lad {p : Program} {l : Launch} {e : Env} {s : State} {m : MethodId} {below : List Frame} {meth : Method} {c : Code} {E : gE} {b L i : Nat} {xs : Nat → Int32} {Rel : gI → Prop} {J : Int64} {I : gI} {H : Heap} {locs : List Loc} {cells slots : Nat} {ls : Array Slot} (X : lx p l s m meth c E b L xs) (hi : i + 3 ≤ L) (hc : cells + 3 ≤ 601024) (hs : slots + 18 ≤ 7293033) (hq : lw0 I) (hP : sp_lad Rel I (xs (i + 1)) (xs (i + 2))) (hG : GW E J I H) (hS : va_S (gF E) s.heap H locs) (hl : lv_has ls 9 (llv E b i)) (kk : lk p l e s m below meth c E b i Rel cells slots) : W p l e room_1 s m #[Value.ref b] below meth c H locs cells slots (lw_Z below #[Value.ref b] s) (F0 m 484 ls []) := by
  obtain ⟨K, hml, hr, hlocks, hX, hbl, hbA, hfl, hL⟩ := X
  have hx := K.1
  have hb := K.2.1
  have hts := K.2.2.1
  have hown := K.2.2.2.1
  have hSt := K.2.2.2.2
  obtain ⟨hw0, hw1, hzz, hzd⟩ := hq
  have hl : lv_has ls 9 [(4, .int (nI i)), (3, .ref (gA E 2 16 0)), (2, .ref (gA E 2 11 0)), (1, .ref (gA E 2 10 0)), (0, .ref b)] := hl
  refine lv_aload_n hx hb dL_law_484 rfl (lv_at hl 3 rfl) ?_
  refine lv_aload_n hx hb dL_law_485 rfl (lv_at hl 4 rfl) ?_
  refine lv_iload hx hb dL_law_486 (lv_at hl 0 rfl) ?_
  refine lv_iconst (v := 1) hx hb dL_law_488 (by decide) ?_
  refine lv_iadd hx hb dL_law_489 ?_
  rw [show (nI i : Int32) + 1 = nI (i + 1) from nI_add i 1]
  refine va_sld hx hb hX hbl hbA hS (vp_in_nI (by omega) (by omega)) dL_law_490 ?_
  rw [nI_clamp (show i + 1 < 2 ^ 31 by omega)]
  refine lv_aload_n hx hb dL_law_491 rfl (lv_at hl 4 rfl) ?_
  refine lv_iload hx hb dL_law_492 (lv_at hl 0 rfl) ?_
  refine lv_iconst (v := 2) hx hb dL_law_494 (by decide) ?_
  refine lv_iadd hx hb dL_law_495 ?_
  rw [show (nI i : Int32) + 2 = nI (i + 2) from nI_add i 2]
  refine va_sld hx hb hX hbl hbA hS (vp_in_nI (by omega) (by omega)) dL_law_496 ?_
  rw [nI_clamp (show i + 2 < 2 ^ 31 by omega)]
  refine lv_aload_n hx hb dL_law_497 rfl (lv_at hl 1 rfl) ?_
  refine g_kih (g_runSH (As := [.ref (gA E 2 10 0), .int (xs (i + 1)), .int (xs (i + 2)), .ref (gA E 2 16 0)]) (rest := []) K hml (show gcaH yL_lad cL_lad 5 [(0, 10, 13, 21)] 4 from ⟨q428, q0, q427, by decide +kernel⟩) q426 (m_L_lad l E J I (xs (i + 1)) (xs (i + 2)) hw0 hfl) hG hS rfl hl.1 (Nat.le_of_ble_eq_true rfl) ⟨by decide, by decide⟩ dL_law_498 ⟨by show cells + 2 ≤ 601024; omega, by show slots + 6 * 2 ≤ 7293033; omega⟩) hS (fun H locs hG hS => ?_)
  obtain ⟨I1, hI1⟩ : ∃ z, z = hI (f_X4_lad_x I (xs (i + 1)) (xs (i + 2))) I I := ⟨_, rfl⟩
  rw [← hI1] at hG
  obtain ⟨hok, hP⟩ := hP I1 hI1
  obtain ⟨I2, hI2⟩ : ∃ z, z = f_X6_lad_s I1 (xs (i + 1)) (xs (i + 2)) := ⟨_, rfl⟩
  obtain ⟨p1, p2, p3⟩ := hP I2 hI2
  refine lv_istore (lv' := [(5, .int (hcode 3 (f_X4_lad_x I (xs (i + 1)) (xs (i + 2))))), (4, .int (nI i)), (3, .ref (gA E 2 16 0)), (2, .ref (gA E 2 11 0)), (1, .ref (gA E 2 10 0)), (0, .ref b)]) hx hb dL_law_501 hl (by decide) rfl (fun ls hl => ?_)
  refine lv_aload_n hx hb dL_law_503 rfl (lv_at hl 3 rfl) ?_
  refine lv_aload_n hx hb dL_law_504 rfl (lv_at hl 5 rfl) ?_
  refine lv_iload hx hb dL_law_505 (lv_at hl 1 rfl) ?_
  refine lv_iconst (v := 1) hx hb dL_law_507 (by decide) ?_
  refine lv_iadd hx hb dL_law_508 ?_
  rw [show (nI i : Int32) + 1 = nI (i + 1) from nI_add i 1]
  refine va_sld hx hb hX hbl hbA hS (vp_in_nI (by omega) (by omega)) dL_law_509 ?_
  rw [nI_clamp (show i + 1 < 2 ^ 31 by omega)]
  refine lv_aload_n hx hb dL_law_510 rfl (lv_at hl 5 rfl) ?_
  refine lv_iload hx hb dL_law_511 (lv_at hl 1 rfl) ?_
  refine lv_iconst (v := 2) hx hb dL_law_513 (by decide) ?_
  refine lv_iadd hx hb dL_law_514 ?_
  rw [show (nI i : Int32) + 2 = nI (i + 2) from nI_add i 2]
  refine va_sld hx hb hX hbl hbA hS (vp_in_nI (by omega) (by omega)) dL_law_515 ?_
  rw [nI_clamp (show i + 2 < 2 ^ 31 by omega)]
  refine g_ki (g_runV (As := [.int (xs (i + 1)), .int (xs (i + 2))]) (rest := []) K hml ca_X6_lad q821 (m_X6_lad l E _ I1 (xs (i + 1)) (xs (i + 2)) hok) hG hS rfl rfl rfl rfl rfl hl.1 (Nat.le_of_ble_eq_true rfl) ⟨by decide, by decide⟩ dL_law_516 ⟨by show cells + 2 + 0 ≤ 601024; omega, by show slots + 6 * 2 + 0 ≤ 7293033; omega⟩) hS (fun H locs hG hS => ?_)
  rw [← hI2] at hG
  refine lv_istore (lv' := [(6, .int (f_X6_lad_v I1 (xs (i + 1)) (xs (i + 2)))), (5, .int (hcode 3 (f_X4_lad_x I (xs (i + 1)) (xs (i + 2))))), (4, .int (nI i)), (3, .ref (gA E 2 16 0)), (2, .ref (gA E 2 11 0)), (1, .ref (gA E 2 10 0)), (0, .ref b)]) hx hb dL_law_519 hl (by decide) rfl (fun ls hl => ?_)
  refine lv_aload_n hx hb dL_law_521 rfl (lv_at hl 4 rfl) ?_
  refine g_ki (g_runV (As := []) (rest := []) K hml ca_X6_thrown q774 (m_X6_thrown l E _ I2 trivial) hG hS rfl rfl rfl rfl rfl hl.1 (Nat.le_of_ble_eq_true rfl) ⟨by decide, by decide⟩ dL_law_522 ⟨by show cells + 2 + 0 ≤ 601024; omega, by show slots + 6 * 2 + 0 ≤ 7293033; omega⟩) hS (fun H locs hG hS => ?_)
  refine lv_iload hx hb dL_law_525 (lv_at hl 1 rfl) ?_
  refine lv_icmp_eq (tgt := 532) hx hb dL_law_527 (by decide) (fun _ => ?_) (fun h => absurd p1.symm h)
  refine lv_iload hx hb dL_law_532 (lv_at hl 1 rfl) ?_
  have hz : hcode 3 (f_X4_lad_x I (xs (i + 1)) (xs (i + 2))) = 0 → f_X4_lad_x I (xs (i + 1)) (xs (i + 2)) = 0 := hcode_z
  have hend : ∀ (J : Int64) (H : Heap) (locs : List Loc), GW E J I2 H → va_S (gF E) s.heap H locs → W p l e room_1 s m #[Value.ref b] below meth c H locs (cells + 2) (slots + 6 * 2) (lw_Z below #[Value.ref b] s) (F0 m 549 ls []) := fun J H locs hG hS => by
    refine lv_goto (tgt := 1104) hx hb dL_law_549 (by decide) ?_
    exact kk _ I2 H locs _ _ ls p3 hG hS (lv_sub hl [2, 3, 4, 5, 6] rfl) (by omega) (by omega)
  refine lv_if_ne (tgt := 549) hx hb dL_law_534 (by decide) (fun _ => hend _ H locs hG hS) (fun h0 => ?_)
  have h0 := hz h0
  rw [hJ_z h0] at hG
  refine lv_aload_n hx hb dL_law_537 rfl (lv_at hl 3 rfl) ?_
  refine lv_iconst (v := 0) hx hb dL_law_538 (by decide) ?_
  refine g_lald K hG dL_law_539 ?_
  refine lv_iload hx hb dL_law_540 (lv_at hl 0 rfl) ?_
  refine lv_i2l hx hb dL_law_542 rfl ?_
  refine W.lcmp hx hb dL_law_543 ?_
  rw [lcmp_eq (congrArg Int32.toInt64 (p2 h0))]
  exact lv_if_eq (tgt := 549) hx hb dL_law_544 (by decide) (fun _ => hend _ H locs hG hS) (fun h => absurd rfl h)
set_option maxHeartbeats 4000000 in
set_option maxRecDepth 100000 in
theorem law_cart {p : Program} {l : Launch} {e : Env} {s : State} {m : MethodId} {below : List Frame} {meth : Method} {c : Code} {E : gE} {b L i : Nat} {xs : Nat → Int32} {Rel : gI → Prop} {J : Int64} {I : gI} {H : Heap} {locs : List Loc} {cells slots : Nat} {ls : Array Slot} (X : lx p l s m meth c E b L xs) (hi : i + 3 ≤ L) (hc : cells + 3 ≤ 601024) (hs : slots + 18 ≤ 7293033) (hq : lw0 I) (hP : sp_cart Rel I (xs (i + 1)) (xs (i + 2))) (hG : GW E J I H) (hS : va_S (gF E) s.heap H locs) (hl : lv_has ls 9 (llv E b i)) (kk : lk p l e s m below meth c E b i Rel cells slots) : W p l e room_1 s m #[Value.ref b] below meth c H locs cells slots (lw_Z below #[Value.ref b] s) (F0 m 552 ls []) := by
  obtain ⟨K, hml, hr, hlocks, hX, hbl, hbA, hfl, hL⟩ := X
  have hx := K.1
  have hb := K.2.1
  have hts := K.2.2.1
  have hown := K.2.2.2.1
  have hSt := K.2.2.2.2
  obtain ⟨hw0, hw1, hzz, hzd⟩ := hq
  have hl : lv_has ls 9 [(4, .int (nI i)), (3, .ref (gA E 2 16 0)), (2, .ref (gA E 2 11 0)), (1, .ref (gA E 2 10 0)), (0, .ref b)] := hl
  refine lv_aload_n hx hb dL_law_552 rfl (lv_at hl 3 rfl) ?_
  refine lv_aload_n hx hb dL_law_553 rfl (lv_at hl 4 rfl) ?_
  refine lv_iload hx hb dL_law_554 (lv_at hl 0 rfl) ?_
  refine lv_iconst (v := 1) hx hb dL_law_556 (by decide) ?_
  refine lv_iadd hx hb dL_law_557 ?_
  rw [show (nI i : Int32) + 1 = nI (i + 1) from nI_add i 1]
  refine va_sld hx hb hX hbl hbA hS (vp_in_nI (by omega) (by omega)) dL_law_558 ?_
  rw [nI_clamp (show i + 1 < 2 ^ 31 by omega)]
  refine lv_aload_n hx hb dL_law_559 rfl (lv_at hl 4 rfl) ?_
  refine lv_iload hx hb dL_law_560 (lv_at hl 0 rfl) ?_
  refine lv_iconst (v := 2) hx hb dL_law_562 (by decide) ?_
  refine lv_iadd hx hb dL_law_563 ?_
  rw [show (nI i : Int32) + 2 = nI (i + 2) from nI_add i 2]
  refine va_sld hx hb hX hbl hbA hS (vp_in_nI (by omega) (by omega)) dL_law_564 ?_
  rw [nI_clamp (show i + 2 < 2 ^ 31 by omega)]
  refine lv_aload_n hx hb dL_law_565 rfl (lv_at hl 1 rfl) ?_
  refine g_kih (g_runSH (As := [.ref (gA E 2 10 0), .int (xs (i + 1)), .int (xs (i + 2)), .ref (gA E 2 16 0)]) (rest := []) K hml (show gcaH yL_cart cL_cart 5 [(0, 10, 13, 21)] 4 from ⟨q436, q0, q435, by decide +kernel⟩) q434 (m_L_cart l E J I (xs (i + 1)) (xs (i + 2)) hw0 hfl) hG hS rfl hl.1 (Nat.le_of_ble_eq_true rfl) ⟨by decide, by decide⟩ dL_law_566 ⟨by show cells + 2 ≤ 601024; omega, by show slots + 6 * 2 ≤ 7293033; omega⟩) hS (fun H locs hG hS => ?_)
  obtain ⟨I1, hI1⟩ : ∃ z, z = hI (f_X4_cart_x I (xs (i + 1)) (xs (i + 2))) I I := ⟨_, rfl⟩
  rw [← hI1] at hG
  obtain ⟨hok, hP⟩ := hP I1 hI1
  obtain ⟨I2, hI2⟩ : ∃ z, z = f_X6_cart_s I1 (xs (i + 1)) (xs (i + 2)) := ⟨_, rfl⟩
  obtain ⟨p1, p2, p3⟩ := hP I2 hI2
  refine lv_istore (lv' := [(5, .int (hcode 3 (f_X4_cart_x I (xs (i + 1)) (xs (i + 2))))), (4, .int (nI i)), (3, .ref (gA E 2 16 0)), (2, .ref (gA E 2 11 0)), (1, .ref (gA E 2 10 0)), (0, .ref b)]) hx hb dL_law_569 hl (by decide) rfl (fun ls hl => ?_)
  refine lv_aload_n hx hb dL_law_571 rfl (lv_at hl 3 rfl) ?_
  refine lv_aload_n hx hb dL_law_572 rfl (lv_at hl 5 rfl) ?_
  refine lv_iload hx hb dL_law_573 (lv_at hl 1 rfl) ?_
  refine lv_iconst (v := 1) hx hb dL_law_575 (by decide) ?_
  refine lv_iadd hx hb dL_law_576 ?_
  rw [show (nI i : Int32) + 1 = nI (i + 1) from nI_add i 1]
  refine va_sld hx hb hX hbl hbA hS (vp_in_nI (by omega) (by omega)) dL_law_577 ?_
  rw [nI_clamp (show i + 1 < 2 ^ 31 by omega)]
  refine lv_aload_n hx hb dL_law_578 rfl (lv_at hl 5 rfl) ?_
  refine lv_iload hx hb dL_law_579 (lv_at hl 1 rfl) ?_
  refine lv_iconst (v := 2) hx hb dL_law_581 (by decide) ?_
  refine lv_iadd hx hb dL_law_582 ?_
  rw [show (nI i : Int32) + 2 = nI (i + 2) from nI_add i 2]
  refine va_sld hx hb hX hbl hbA hS (vp_in_nI (by omega) (by omega)) dL_law_583 ?_
  rw [nI_clamp (show i + 2 < 2 ^ 31 by omega)]
  refine g_ki (g_runV (As := [.int (xs (i + 1)), .int (xs (i + 2))]) (rest := []) K hml ca_X6_cart q833 (m_X6_cart l E _ I1 (xs (i + 1)) (xs (i + 2)) hok) hG hS rfl rfl rfl rfl rfl hl.1 (Nat.le_of_ble_eq_true rfl) ⟨by decide, by decide⟩ dL_law_584 ⟨by show cells + 2 + 0 ≤ 601024; omega, by show slots + 6 * 2 + 0 ≤ 7293033; omega⟩) hS (fun H locs hG hS => ?_)
  rw [← hI2] at hG
  refine lv_istore (lv' := [(6, .int (f_X6_cart_v I1 (xs (i + 1)) (xs (i + 2)))), (5, .int (hcode 3 (f_X4_cart_x I (xs (i + 1)) (xs (i + 2))))), (4, .int (nI i)), (3, .ref (gA E 2 16 0)), (2, .ref (gA E 2 11 0)), (1, .ref (gA E 2 10 0)), (0, .ref b)]) hx hb dL_law_587 hl (by decide) rfl (fun ls hl => ?_)
  refine lv_aload_n hx hb dL_law_589 rfl (lv_at hl 4 rfl) ?_
  refine g_ki (g_runV (As := []) (rest := []) K hml ca_X6_thrown q774 (m_X6_thrown l E _ I2 trivial) hG hS rfl rfl rfl rfl rfl hl.1 (Nat.le_of_ble_eq_true rfl) ⟨by decide, by decide⟩ dL_law_590 ⟨by show cells + 2 + 0 ≤ 601024; omega, by show slots + 6 * 2 + 0 ≤ 7293033; omega⟩) hS (fun H locs hG hS => ?_)
  refine lv_iload hx hb dL_law_593 (lv_at hl 1 rfl) ?_
  refine lv_icmp_eq (tgt := 600) hx hb dL_law_595 (by decide) (fun _ => ?_) (fun h => absurd p1.symm h)
  refine lv_iload hx hb dL_law_600 (lv_at hl 1 rfl) ?_
  have hz : hcode 3 (f_X4_cart_x I (xs (i + 1)) (xs (i + 2))) = 0 → f_X4_cart_x I (xs (i + 1)) (xs (i + 2)) = 0 := hcode_z
  have hend : ∀ (J : Int64) (H : Heap) (locs : List Loc), GW E J I2 H → va_S (gF E) s.heap H locs → W p l e room_1 s m #[Value.ref b] below meth c H locs (cells + 2) (slots + 6 * 2) (lw_Z below #[Value.ref b] s) (F0 m 617 ls []) := fun J H locs hG hS => by
    refine lv_goto (tgt := 1104) hx hb dL_law_617 (by decide) ?_
    exact kk _ I2 H locs _ _ ls p3 hG hS (lv_sub hl [2, 3, 4, 5, 6] rfl) (by omega) (by omega)
  refine lv_if_ne (tgt := 617) hx hb dL_law_602 (by decide) (fun _ => hend _ H locs hG hS) (fun h0 => ?_)
  have h0 := hz h0
  rw [hJ_z h0] at hG
  refine lv_aload_n hx hb dL_law_605 rfl (lv_at hl 3 rfl) ?_
  refine lv_iconst (v := 0) hx hb dL_law_606 (by decide) ?_
  refine g_lald K hG dL_law_607 ?_
  refine lv_iload hx hb dL_law_608 (lv_at hl 0 rfl) ?_
  refine lv_i2l hx hb dL_law_610 rfl ?_
  refine W.lcmp hx hb dL_law_611 ?_
  rw [lcmp_eq (congrArg Int32.toInt64 (p2 h0))]
  exact lv_if_eq (tgt := 617) hx hb dL_law_612 (by decide) (fun _ => hend _ H locs hG hS) (fun h => absurd rfl h)
set_option maxHeartbeats 4000000 in
set_option maxRecDepth 100000 in
theorem law_load {p : Program} {l : Launch} {e : Env} {s : State} {m : MethodId} {below : List Frame} {meth : Method} {c : Code} {E : gE} {b L i : Nat} {xs : Nat → Int32} {Rel : gI → Prop} {J : Int64} {I : gI} {H : Heap} {locs : List Loc} {cells slots : Nat} {ls : Array Slot} (X : lx p l s m meth c E b L xs) (hi : i + 3 ≤ L) (hc : cells + 3 ≤ 601024) (hs : slots + 18 ≤ 7293033) (hq : lw0 I) (hP : sp_load Rel I (xs (i + 1)) (xs (i + 2))) (hG : GW E J I H) (hS : va_S (gF E) s.heap H locs) (hl : lv_has ls 9 (llv E b i)) (kk : lk p l e s m below meth c E b i Rel cells slots) : W p l e room_1 s m #[Value.ref b] below meth c H locs cells slots (lw_Z below #[Value.ref b] s) (F0 m 620 ls []) := by
  obtain ⟨K, hml, hr, hlocks, hX, hbl, hbA, hfl, hL⟩ := X
  have hx := K.1
  have hb := K.2.1
  have hts := K.2.2.1
  have hown := K.2.2.2.1
  have hSt := K.2.2.2.2
  obtain ⟨hw0, hw1, hzz, hzd⟩ := hq
  have hl : lv_has ls 9 [(4, .int (nI i)), (3, .ref (gA E 2 16 0)), (2, .ref (gA E 2 11 0)), (1, .ref (gA E 2 10 0)), (0, .ref b)] := hl
  refine lv_aload_n hx hb dL_law_620 rfl (lv_at hl 3 rfl) ?_
  refine lv_aload_n hx hb dL_law_621 rfl (lv_at hl 4 rfl) ?_
  refine lv_iload hx hb dL_law_622 (lv_at hl 0 rfl) ?_
  refine lv_iconst (v := 1) hx hb dL_law_624 (by decide) ?_
  refine lv_iadd hx hb dL_law_625 ?_
  rw [show (nI i : Int32) + 1 = nI (i + 1) from nI_add i 1]
  refine va_sld hx hb hX hbl hbA hS (vp_in_nI (by omega) (by omega)) dL_law_626 ?_
  rw [nI_clamp (show i + 1 < 2 ^ 31 by omega)]
  refine lv_aload_n hx hb dL_law_627 rfl (lv_at hl 4 rfl) ?_
  refine lv_iload hx hb dL_law_628 (lv_at hl 0 rfl) ?_
  refine lv_iconst (v := 2) hx hb dL_law_630 (by decide) ?_
  refine lv_iadd hx hb dL_law_631 ?_
  rw [show (nI i : Int32) + 2 = nI (i + 2) from nI_add i 2]
  refine va_sld hx hb hX hbl hbA hS (vp_in_nI (by omega) (by omega)) dL_law_632 ?_
  rw [nI_clamp (show i + 2 < 2 ^ 31 by omega)]
  refine lv_aload_n hx hb dL_law_633 rfl (lv_at hl 1 rfl) ?_
  refine g_kih (g_runSH (As := [.ref (gA E 2 10 0), .int (xs (i + 1)), .int (xs (i + 2)), .ref (gA E 2 16 0)]) (rest := []) K hml (show gcaH yL_load cL_load 5 [(0, 10, 13, 21)] 4 from ⟨q444, q0, q443, by decide +kernel⟩) q442 (m_L_load l E J I (xs (i + 1)) (xs (i + 2)) hw0 hfl) hG hS rfl hl.1 (Nat.le_of_ble_eq_true rfl) ⟨by decide, by decide⟩ dL_law_634 ⟨by show cells + 2 ≤ 601024; omega, by show slots + 6 * 2 ≤ 7293033; omega⟩) hS (fun H locs hG hS => ?_)
  obtain ⟨I1, hI1⟩ : ∃ z, z = hI (f_X4_load_x I (xs (i + 1)) (xs (i + 2))) I I := ⟨_, rfl⟩
  rw [← hI1] at hG
  obtain ⟨hok, hP⟩ := hP I1 hI1
  obtain ⟨I2, hI2⟩ : ∃ z, z = f_X6_load_s I1 (xs (i + 1)) (xs (i + 2)) := ⟨_, rfl⟩
  obtain ⟨p1, p2, p3⟩ := hP I2 hI2
  refine lv_istore (lv' := [(5, .int (hcode 3 (f_X4_load_x I (xs (i + 1)) (xs (i + 2))))), (4, .int (nI i)), (3, .ref (gA E 2 16 0)), (2, .ref (gA E 2 11 0)), (1, .ref (gA E 2 10 0)), (0, .ref b)]) hx hb dL_law_637 hl (by decide) rfl (fun ls hl => ?_)
  refine lv_aload_n hx hb dL_law_639 rfl (lv_at hl 3 rfl) ?_
  refine lv_aload_n hx hb dL_law_640 rfl (lv_at hl 5 rfl) ?_
  refine lv_iload hx hb dL_law_641 (lv_at hl 1 rfl) ?_
  refine lv_iconst (v := 1) hx hb dL_law_643 (by decide) ?_
  refine lv_iadd hx hb dL_law_644 ?_
  rw [show (nI i : Int32) + 1 = nI (i + 1) from nI_add i 1]
  refine va_sld hx hb hX hbl hbA hS (vp_in_nI (by omega) (by omega)) dL_law_645 ?_
  rw [nI_clamp (show i + 1 < 2 ^ 31 by omega)]
  refine lv_aload_n hx hb dL_law_646 rfl (lv_at hl 5 rfl) ?_
  refine lv_iload hx hb dL_law_647 (lv_at hl 1 rfl) ?_
  refine lv_iconst (v := 2) hx hb dL_law_649 (by decide) ?_
  refine lv_iadd hx hb dL_law_650 ?_
  rw [show (nI i : Int32) + 2 = nI (i + 2) from nI_add i 2]
  refine va_sld hx hb hX hbl hbA hS (vp_in_nI (by omega) (by omega)) dL_law_651 ?_
  rw [nI_clamp (show i + 2 < 2 ^ 31 by omega)]
  refine g_ki (g_runV (As := [.int (xs (i + 1)), .int (xs (i + 2))]) (rest := []) K hml ca_X6_load q837 (m_X6_load l E _ I1 (xs (i + 1)) (xs (i + 2)) hok) hG hS rfl rfl rfl rfl rfl hl.1 (Nat.le_of_ble_eq_true rfl) ⟨by decide, by decide⟩ dL_law_652 ⟨by show cells + 2 + 0 ≤ 601024; omega, by show slots + 6 * 2 + 0 ≤ 7293033; omega⟩) hS (fun H locs hG hS => ?_)
  rw [← hI2] at hG
  refine lv_istore (lv' := [(6, .int (f_X6_load_v I1 (xs (i + 1)) (xs (i + 2)))), (5, .int (hcode 3 (f_X4_load_x I (xs (i + 1)) (xs (i + 2))))), (4, .int (nI i)), (3, .ref (gA E 2 16 0)), (2, .ref (gA E 2 11 0)), (1, .ref (gA E 2 10 0)), (0, .ref b)]) hx hb dL_law_655 hl (by decide) rfl (fun ls hl => ?_)
  refine lv_aload_n hx hb dL_law_657 rfl (lv_at hl 4 rfl) ?_
  refine g_ki (g_runV (As := []) (rest := []) K hml ca_X6_thrown q774 (m_X6_thrown l E _ I2 trivial) hG hS rfl rfl rfl rfl rfl hl.1 (Nat.le_of_ble_eq_true rfl) ⟨by decide, by decide⟩ dL_law_658 ⟨by show cells + 2 + 0 ≤ 601024; omega, by show slots + 6 * 2 + 0 ≤ 7293033; omega⟩) hS (fun H locs hG hS => ?_)
  refine lv_iload hx hb dL_law_661 (lv_at hl 1 rfl) ?_
  refine lv_icmp_eq (tgt := 668) hx hb dL_law_663 (by decide) (fun _ => ?_) (fun h => absurd p1.symm h)
  refine lv_iload hx hb dL_law_668 (lv_at hl 1 rfl) ?_
  have hz : hcode 3 (f_X4_load_x I (xs (i + 1)) (xs (i + 2))) = 0 → f_X4_load_x I (xs (i + 1)) (xs (i + 2)) = 0 := hcode_z
  have hend : ∀ (J : Int64) (H : Heap) (locs : List Loc), GW E J I2 H → va_S (gF E) s.heap H locs → W p l e room_1 s m #[Value.ref b] below meth c H locs (cells + 2) (slots + 6 * 2) (lw_Z below #[Value.ref b] s) (F0 m 685 ls []) := fun J H locs hG hS => by
    refine lv_goto (tgt := 1104) hx hb dL_law_685 (by decide) ?_
    exact kk _ I2 H locs _ _ ls p3 hG hS (lv_sub hl [2, 3, 4, 5, 6] rfl) (by omega) (by omega)
  refine lv_if_ne (tgt := 685) hx hb dL_law_670 (by decide) (fun _ => hend _ H locs hG hS) (fun h0 => ?_)
  have h0 := hz h0
  rw [hJ_z h0] at hG
  refine lv_aload_n hx hb dL_law_673 rfl (lv_at hl 3 rfl) ?_
  refine lv_iconst (v := 0) hx hb dL_law_674 (by decide) ?_
  refine g_lald K hG dL_law_675 ?_
  refine lv_iload hx hb dL_law_676 (lv_at hl 0 rfl) ?_
  refine lv_i2l hx hb dL_law_678 rfl ?_
  refine W.lcmp hx hb dL_law_679 ?_
  rw [lcmp_eq (congrArg Int32.toInt64 (p2 h0))]
  exact lv_if_eq (tgt := 685) hx hb dL_law_680 (by decide) (fun _ => hend _ H locs hG hS) (fun h => absurd rfl h)
set_option maxHeartbeats 4000000 in
set_option maxRecDepth 100000 in
theorem law_count {p : Program} {l : Launch} {e : Env} {s : State} {m : MethodId} {below : List Frame} {meth : Method} {c : Code} {E : gE} {b L i : Nat} {xs : Nat → Int32} {Rel : gI → Prop} {J : Int64} {I : gI} {H : Heap} {locs : List Loc} {cells slots : Nat} {ls : Array Slot} (X : lx p l s m meth c E b L xs) (hi : i + 3 ≤ L) (hc : cells + 3 ≤ 601024) (hs : slots + 18 ≤ 7293033) (hq : lw0 I) (hP : sp_count Rel I (xs (i + 1))) (hG : GW E J I H) (hS : va_S (gF E) s.heap H locs) (hl : lv_has ls 9 (llv E b i)) (kk : lk p l e s m below meth c E b i Rel cells slots) : W p l e room_1 s m #[Value.ref b] below meth c H locs cells slots (lw_Z below #[Value.ref b] s) (F0 m 688 ls []) := by
  obtain ⟨K, hml, hr, hlocks, hX, hbl, hbA, hfl, hL⟩ := X
  have hx := K.1
  have hb := K.2.1
  have hts := K.2.2.1
  have hown := K.2.2.2.1
  have hSt := K.2.2.2.2
  obtain ⟨hw0, hw1, hzz, hzd⟩ := hq
  have hl : lv_has ls 9 [(4, .int (nI i)), (3, .ref (gA E 2 16 0)), (2, .ref (gA E 2 11 0)), (1, .ref (gA E 2 10 0)), (0, .ref b)] := hl
  refine lv_aload_n hx hb dL_law_688 rfl (lv_at hl 3 rfl) ?_
  refine lv_aload_n hx hb dL_law_689 rfl (lv_at hl 4 rfl) ?_
  refine lv_iload hx hb dL_law_690 (lv_at hl 0 rfl) ?_
  refine lv_iconst (v := 1) hx hb dL_law_692 (by decide) ?_
  refine lv_iadd hx hb dL_law_693 ?_
  rw [show (nI i : Int32) + 1 = nI (i + 1) from nI_add i 1]
  refine va_sld hx hb hX hbl hbA hS (vp_in_nI (by omega) (by omega)) dL_law_694 ?_
  rw [nI_clamp (show i + 1 < 2 ^ 31 by omega)]
  refine lv_aload_n hx hb dL_law_695 rfl (lv_at hl 1 rfl) ?_
  refine g_kih (g_runSH (As := [.ref (gA E 2 10 0), .int (xs (i + 1)), .ref (gA E 2 16 0)]) (rest := []) K hml (show gcaH yL_count cL_count 4 [(0, 9, 12, 21)] 3 from ⟨q457, q0, q456, by decide +kernel⟩) q455 (m_L_count l E J I (xs (i + 1)) hw0 hfl) hG hS rfl hl.1 (Nat.le_of_ble_eq_true rfl) ⟨by decide, by decide⟩ dL_law_696 ⟨by show cells + 1 ≤ 601024; omega, by show slots + 6 * 1 ≤ 7293033; omega⟩) hS (fun H locs hG hS => ?_)
  obtain ⟨I1, hI1⟩ : ∃ z, z = hI (f_X4_count_x I (xs (i + 1))) I I := ⟨_, rfl⟩
  rw [← hI1] at hG
  obtain ⟨hok, hP⟩ := hP I1 hI1
  obtain ⟨I2, hI2⟩ : ∃ z, z = f_X6_count_s I1 (xs (i + 1)) := ⟨_, rfl⟩
  obtain ⟨p1, p2, p3⟩ := hP I2 hI2
  refine lv_istore (lv' := [(5, .int (hcode 3 (f_X4_count_x I (xs (i + 1))))), (4, .int (nI i)), (3, .ref (gA E 2 16 0)), (2, .ref (gA E 2 11 0)), (1, .ref (gA E 2 10 0)), (0, .ref b)]) hx hb dL_law_699 hl (by decide) rfl (fun ls hl => ?_)
  refine lv_aload_n hx hb dL_law_701 rfl (lv_at hl 3 rfl) ?_
  refine lv_aload_n hx hb dL_law_702 rfl (lv_at hl 5 rfl) ?_
  refine lv_iload hx hb dL_law_703 (lv_at hl 1 rfl) ?_
  refine lv_iconst (v := 1) hx hb dL_law_705 (by decide) ?_
  refine lv_iadd hx hb dL_law_706 ?_
  rw [show (nI i : Int32) + 1 = nI (i + 1) from nI_add i 1]
  refine va_sld hx hb hX hbl hbA hS (vp_in_nI (by omega) (by omega)) dL_law_707 ?_
  rw [nI_clamp (show i + 1 < 2 ^ 31 by omega)]
  refine g_ki (g_runV (As := [.int (xs (i + 1))]) (rest := []) K hml ca_X6_count q849 (m_X6_count l E _ I1 (xs (i + 1)) hok) hG hS rfl rfl rfl rfl rfl hl.1 (Nat.le_of_ble_eq_true rfl) ⟨by decide, by decide⟩ dL_law_708 ⟨by show cells + 1 + 0 ≤ 601024; omega, by show slots + 6 * 1 + 0 ≤ 7293033; omega⟩) hS (fun H locs hG hS => ?_)
  rw [← hI2] at hG
  refine lv_istore (lv' := [(6, .int (f_X6_count_v I1 (xs (i + 1)))), (5, .int (hcode 3 (f_X4_count_x I (xs (i + 1))))), (4, .int (nI i)), (3, .ref (gA E 2 16 0)), (2, .ref (gA E 2 11 0)), (1, .ref (gA E 2 10 0)), (0, .ref b)]) hx hb dL_law_711 hl (by decide) rfl (fun ls hl => ?_)
  refine lv_aload_n hx hb dL_law_713 rfl (lv_at hl 4 rfl) ?_
  refine g_ki (g_runV (As := []) (rest := []) K hml ca_X6_thrown q774 (m_X6_thrown l E _ I2 trivial) hG hS rfl rfl rfl rfl rfl hl.1 (Nat.le_of_ble_eq_true rfl) ⟨by decide, by decide⟩ dL_law_714 ⟨by show cells + 1 + 0 ≤ 601024; omega, by show slots + 6 * 1 + 0 ≤ 7293033; omega⟩) hS (fun H locs hG hS => ?_)
  refine lv_iload hx hb dL_law_717 (lv_at hl 1 rfl) ?_
  refine lv_icmp_eq (tgt := 724) hx hb dL_law_719 (by decide) (fun _ => ?_) (fun h => absurd p1.symm h)
  refine lv_iload hx hb dL_law_724 (lv_at hl 1 rfl) ?_
  have hz : hcode 3 (f_X4_count_x I (xs (i + 1))) = 0 → f_X4_count_x I (xs (i + 1)) = 0 := hcode_z
  have hend : ∀ (J : Int64) (H : Heap) (locs : List Loc), GW E J I2 H → va_S (gF E) s.heap H locs → W p l e room_1 s m #[Value.ref b] below meth c H locs (cells + 1) (slots + 6 * 1) (lw_Z below #[Value.ref b] s) (F0 m 741 ls []) := fun J H locs hG hS => by
    refine lv_goto (tgt := 1104) hx hb dL_law_741 (by decide) ?_
    exact kk _ I2 H locs _ _ ls p3 hG hS (lv_sub hl [2, 3, 4, 5, 6] rfl) (by omega) (by omega)
  refine lv_if_ne (tgt := 741) hx hb dL_law_726 (by decide) (fun _ => hend _ H locs hG hS) (fun h0 => ?_)
  have h0 := hz h0
  rw [hJ_z h0] at hG
  refine lv_aload_n hx hb dL_law_729 rfl (lv_at hl 3 rfl) ?_
  refine lv_iconst (v := 0) hx hb dL_law_730 (by decide) ?_
  refine g_lald K hG dL_law_731 ?_
  refine lv_iload hx hb dL_law_732 (lv_at hl 0 rfl) ?_
  refine lv_i2l hx hb dL_law_734 rfl ?_
  refine W.lcmp hx hb dL_law_735 ?_
  rw [lcmp_eq (congrArg Int32.toInt64 (p2 h0))]
  exact lv_if_eq (tgt := 741) hx hb dL_law_736 (by decide) (fun _ => hend _ H locs hG hS) (fun h => absurd rfl h)
set_option maxHeartbeats 4000000 in
set_option maxRecDepth 100000 in
theorem law_victim {p : Program} {l : Launch} {e : Env} {s : State} {m : MethodId} {below : List Frame} {meth : Method} {c : Code} {E : gE} {b L i : Nat} {xs : Nat → Int32} {Rel : gI → Prop} {J : Int64} {I : gI} {H : Heap} {locs : List Loc} {cells slots : Nat} {ls : Array Slot} (X : lx p l s m meth c E b L xs) (hi : i + 3 ≤ L) (hc : cells + 3 ≤ 601024) (hs : slots + 18 ≤ 7293033) (hq : lw0 I) (hP : sp_victim Rel I (xs (i + 1))) (hG : GW E J I H) (hS : va_S (gF E) s.heap H locs) (hl : lv_has ls 9 (llv E b i)) (kk : lk p l e s m below meth c E b i Rel cells slots) : W p l e room_1 s m #[Value.ref b] below meth c H locs cells slots (lw_Z below #[Value.ref b] s) (F0 m 744 ls []) := by
  obtain ⟨K, hml, hr, hlocks, hX, hbl, hbA, hfl, hL⟩ := X
  have hx := K.1
  have hb := K.2.1
  have hts := K.2.2.1
  have hown := K.2.2.2.1
  have hSt := K.2.2.2.2
  obtain ⟨hw0, hw1, hzz, hzd⟩ := hq
  have hl : lv_has ls 9 [(4, .int (nI i)), (3, .ref (gA E 2 16 0)), (2, .ref (gA E 2 11 0)), (1, .ref (gA E 2 10 0)), (0, .ref b)] := hl
  refine lv_aload_n hx hb dL_law_744 rfl (lv_at hl 3 rfl) ?_
  refine lv_aload_n hx hb dL_law_745 rfl (lv_at hl 4 rfl) ?_
  refine lv_iload hx hb dL_law_746 (lv_at hl 0 rfl) ?_
  refine lv_iconst (v := 1) hx hb dL_law_748 (by decide) ?_
  refine lv_iadd hx hb dL_law_749 ?_
  rw [show (nI i : Int32) + 1 = nI (i + 1) from nI_add i 1]
  refine va_sld hx hb hX hbl hbA hS (vp_in_nI (by omega) (by omega)) dL_law_750 ?_
  rw [nI_clamp (show i + 1 < 2 ^ 31 by omega)]
  refine lv_aload_n hx hb dL_law_751 rfl (lv_at hl 1 rfl) ?_
  refine g_kih (g_runSH (As := [.ref (gA E 2 10 0), .int (xs (i + 1)), .ref (gA E 2 16 0)]) (rest := []) K hml (show gcaH yL_victim cL_victim 4 [(0, 9, 12, 21)] 3 from ⟨q465, q0, q464, by decide +kernel⟩) q463 (m_L_victim l E J I (xs (i + 1)) hw0 hfl) hG hS rfl hl.1 (Nat.le_of_ble_eq_true rfl) ⟨by decide, by decide⟩ dL_law_752 ⟨by show cells + 1 ≤ 601024; omega, by show slots + 6 * 1 ≤ 7293033; omega⟩) hS (fun H locs hG hS => ?_)
  obtain ⟨I1, hI1⟩ : ∃ z, z = hI (f_X4_victim_x I (xs (i + 1))) I I := ⟨_, rfl⟩
  rw [← hI1] at hG
  obtain ⟨hok, hP⟩ := hP I1 hI1
  obtain ⟨I2, hI2⟩ : ∃ z, z = f_X6_victim_s I1 (xs (i + 1)) := ⟨_, rfl⟩
  obtain ⟨p1, p2, p3⟩ := hP I2 hI2
  refine lv_istore (lv' := [(5, .int (hcode 3 (f_X4_victim_x I (xs (i + 1))))), (4, .int (nI i)), (3, .ref (gA E 2 16 0)), (2, .ref (gA E 2 11 0)), (1, .ref (gA E 2 10 0)), (0, .ref b)]) hx hb dL_law_755 hl (by decide) rfl (fun ls hl => ?_)
  refine lv_aload_n hx hb dL_law_757 rfl (lv_at hl 3 rfl) ?_
  refine lv_aload_n hx hb dL_law_758 rfl (lv_at hl 5 rfl) ?_
  refine lv_iload hx hb dL_law_759 (lv_at hl 1 rfl) ?_
  refine lv_iconst (v := 1) hx hb dL_law_761 (by decide) ?_
  refine lv_iadd hx hb dL_law_762 ?_
  rw [show (nI i : Int32) + 1 = nI (i + 1) from nI_add i 1]
  refine va_sld hx hb hX hbl hbA hS (vp_in_nI (by omega) (by omega)) dL_law_763 ?_
  rw [nI_clamp (show i + 1 < 2 ^ 31 by omega)]
  refine g_ki (g_runV (As := [.int (xs (i + 1))]) (rest := []) K hml ca_X6_victim q865 (m_X6_victim l E _ I1 (xs (i + 1)) hok) hG hS rfl rfl rfl rfl rfl hl.1 (Nat.le_of_ble_eq_true rfl) ⟨by decide, by decide⟩ dL_law_764 ⟨by show cells + 1 + 0 ≤ 601024; omega, by show slots + 6 * 1 + 0 ≤ 7293033; omega⟩) hS (fun H locs hG hS => ?_)
  rw [← hI2] at hG
  refine lv_istore (lv' := [(6, .int (f_X6_victim_v I1 (xs (i + 1)))), (5, .int (hcode 3 (f_X4_victim_x I (xs (i + 1))))), (4, .int (nI i)), (3, .ref (gA E 2 16 0)), (2, .ref (gA E 2 11 0)), (1, .ref (gA E 2 10 0)), (0, .ref b)]) hx hb dL_law_767 hl (by decide) rfl (fun ls hl => ?_)
  refine lv_aload_n hx hb dL_law_769 rfl (lv_at hl 4 rfl) ?_
  refine g_ki (g_runV (As := []) (rest := []) K hml ca_X6_thrown q774 (m_X6_thrown l E _ I2 trivial) hG hS rfl rfl rfl rfl rfl hl.1 (Nat.le_of_ble_eq_true rfl) ⟨by decide, by decide⟩ dL_law_770 ⟨by show cells + 1 + 0 ≤ 601024; omega, by show slots + 6 * 1 + 0 ≤ 7293033; omega⟩) hS (fun H locs hG hS => ?_)
  refine lv_iload hx hb dL_law_773 (lv_at hl 1 rfl) ?_
  refine lv_icmp_eq (tgt := 780) hx hb dL_law_775 (by decide) (fun _ => ?_) (fun h => absurd p1.symm h)
  refine lv_iload hx hb dL_law_780 (lv_at hl 1 rfl) ?_
  have hz : hcode 3 (f_X4_victim_x I (xs (i + 1))) = 0 → f_X4_victim_x I (xs (i + 1)) = 0 := hcode_z
  have hend : ∀ (J : Int64) (H : Heap) (locs : List Loc), GW E J I2 H → va_S (gF E) s.heap H locs → W p l e room_1 s m #[Value.ref b] below meth c H locs (cells + 1) (slots + 6 * 1) (lw_Z below #[Value.ref b] s) (F0 m 797 ls []) := fun J H locs hG hS => by
    refine lv_goto (tgt := 1104) hx hb dL_law_797 (by decide) ?_
    exact kk _ I2 H locs _ _ ls p3 hG hS (lv_sub hl [2, 3, 4, 5, 6] rfl) (by omega) (by omega)
  refine lv_if_ne (tgt := 797) hx hb dL_law_782 (by decide) (fun _ => hend _ H locs hG hS) (fun h0 => ?_)
  have h0 := hz h0
  rw [hJ_z h0] at hG
  refine lv_aload_n hx hb dL_law_785 rfl (lv_at hl 3 rfl) ?_
  refine lv_iconst (v := 0) hx hb dL_law_786 (by decide) ?_
  refine g_lald K hG dL_law_787 ?_
  refine lv_iload hx hb dL_law_788 (lv_at hl 0 rfl) ?_
  refine lv_i2l hx hb dL_law_790 rfl ?_
  refine W.lcmp hx hb dL_law_791 ?_
  rw [lcmp_eq (congrArg Int32.toInt64 (p2 h0))]
  exact lv_if_eq (tgt := 797) hx hb dL_law_792 (by decide) (fun _ => hend _ H locs hG hS) (fun h => absurd rfl h)
set_option maxHeartbeats 4000000 in
set_option maxRecDepth 100000 in
theorem law_thief {p : Program} {l : Launch} {e : Env} {s : State} {m : MethodId} {below : List Frame} {meth : Method} {c : Code} {E : gE} {b L i : Nat} {xs : Nat → Int32} {Rel : gI → Prop} {J : Int64} {I : gI} {H : Heap} {locs : List Loc} {cells slots : Nat} {ls : Array Slot} (X : lx p l s m meth c E b L xs) (hi : i + 3 ≤ L) (hc : cells + 3 ≤ 601024) (hs : slots + 18 ≤ 7293033) (hq : lw0 I) (hP : sp_thief Rel I) (hG : GW E J I H) (hS : va_S (gF E) s.heap H locs) (hl : lv_has ls 9 (llv E b i)) (kk : lk p l e s m below meth c E b i Rel cells slots) : W p l e room_1 s m #[Value.ref b] below meth c H locs cells slots (lw_Z below #[Value.ref b] s) (F0 m 800 ls []) := by
  obtain ⟨K, hml, hr, hlocks, hX, hbl, hbA, hfl, hL⟩ := X
  have hx := K.1
  have hb := K.2.1
  have hts := K.2.2.1
  have hown := K.2.2.2.1
  have hSt := K.2.2.2.2
  obtain ⟨hw0, hw1, hzz, hzd⟩ := hq
  have hl : lv_has ls 9 [(4, .int (nI i)), (3, .ref (gA E 2 16 0)), (2, .ref (gA E 2 11 0)), (1, .ref (gA E 2 10 0)), (0, .ref b)] := hl
  obtain ⟨hok, hP⟩ := hP
  obtain ⟨I2, hI2⟩ : ∃ z, z = f_X6_thief_s I := ⟨_, rfl⟩
  obtain ⟨p2, p3⟩ := hP I2 hI2
  refine lv_aload_n hx hb dL_law_800 rfl (lv_at hl 3 rfl) ?_
  refine g_ki (g_runV (As := []) (rest := []) K hml ca_X4_thief q187 (m_X4_thief l E J I hw0) hG hS rfl rfl rfl rfl rfl hl.1 (Nat.le_of_ble_eq_true rfl) ⟨by decide, by decide⟩ dL_law_801 ⟨by show cells + 0 ≤ 601024; omega, by show slots + 0 ≤ 7293033; omega⟩) hS (fun H locs hG hS => ?_)
  refine lv_aload_n hx hb dL_law_804 rfl (lv_at hl 2 rfl) ?_
  refine g_ki (g_runV (As := []) (rest := [.int (f_X4_thief I)]) K hml ca_X6_thief q881 (m_X6_thief l E J I hok) hG hS rfl rfl rfl rfl rfl hl.1 (Nat.le_of_ble_eq_true rfl) ⟨by decide, by decide⟩ dL_law_805 ⟨by show cells + 0 ≤ 601024; omega, by show slots + 0 ≤ 7293033; omega⟩) hS (fun H locs hG hS => ?_)
  rw [← hI2] at hG
  exact lv_icmp_eq (tgt := 1104) hx hb dL_law_808 (by decide) (fun _ => by exact kk _ I2 H locs _ _ ls p3 hG hS (lv_sub hl [0, 1, 2, 3, 4] rfl) (by omega) (by omega)) (fun h => absurd p2 h)
set_option maxHeartbeats 4000000 in
set_option maxRecDepth 100000 in
theorem law_pass {p : Program} {l : Launch} {e : Env} {s : State} {m : MethodId} {below : List Frame} {meth : Method} {c : Code} {E : gE} {b L i : Nat} {xs : Nat → Int32} {Rel : gI → Prop} {J : Int64} {I : gI} {H : Heap} {locs : List Loc} {cells slots : Nat} {ls : Array Slot} (X : lx p l s m meth c E b L xs) (hi : i + 3 ≤ L) (hc : cells + 3 ≤ 601024) (hs : slots + 18 ≤ 7293033) (hq : lw0 I) (hP : sp_pass Rel I (xs (i + 1))) (hG : GW E J I H) (hS : va_S (gF E) s.heap H locs) (hl : lv_has ls 9 (llv E b i)) (kk : lk p l e s m below meth c E b i Rel cells slots) : W p l e room_1 s m #[Value.ref b] below meth c H locs cells slots (lw_Z below #[Value.ref b] s) (F0 m 813 ls []) := by
  obtain ⟨K, hml, hr, hlocks, hX, hbl, hbA, hfl, hL⟩ := X
  have hx := K.1
  have hb := K.2.1
  have hts := K.2.2.1
  have hown := K.2.2.2.1
  have hSt := K.2.2.2.2
  obtain ⟨hw0, hw1, hzz, hzd⟩ := hq
  have hl : lv_has ls 9 [(4, .int (nI i)), (3, .ref (gA E 2 16 0)), (2, .ref (gA E 2 11 0)), (1, .ref (gA E 2 10 0)), (0, .ref b)] := hl
  refine lv_aload_n hx hb dL_law_813 rfl (lv_at hl 3 rfl) ?_
  refine lv_aload_n hx hb dL_law_814 rfl (lv_at hl 4 rfl) ?_
  refine lv_iload hx hb dL_law_815 (lv_at hl 0 rfl) ?_
  refine lv_iconst (v := 1) hx hb dL_law_817 (by decide) ?_
  refine lv_iadd hx hb dL_law_818 ?_
  rw [show (nI i : Int32) + 1 = nI (i + 1) from nI_add i 1]
  refine va_sld hx hb hX hbl hbA hS (vp_in_nI (by omega) (by omega)) dL_law_819 ?_
  rw [nI_clamp (show i + 1 < 2 ^ 31 by omega)]
  refine lv_aload_n hx hb dL_law_820 rfl (lv_at hl 1 rfl) ?_
  refine g_kih (g_runSH (As := [.ref (gA E 2 10 0), .int (xs (i + 1)), .ref (gA E 2 16 0)]) (rest := []) K hml (show gcaH yL_pass cL_pass 4 [(0, 9, 12, 13)] 3 from ⟨q497, q0, q496, by decide +kernel⟩) q495 (m_L_pass l E J I (xs (i + 1)) hw0 hfl) hG hS rfl hl.1 (Nat.le_of_ble_eq_true rfl) ⟨by decide, by decide⟩ dL_law_821 ⟨by show cells + 1 ≤ 601024; omega, by show slots + 6 * 1 ≤ 7293033; omega⟩) hS (fun H locs hG hS => ?_)
  obtain ⟨I1, hI1⟩ : ∃ z, z = hI (f_X4_pass_x I (xs (i + 1))) (f_X4_pass_s I (xs (i + 1))) I := ⟨_, rfl⟩
  rw [← hI1] at hG
  obtain ⟨hok, hP⟩ := hP I1 hI1
  obtain ⟨I2, hI2⟩ : ∃ z, z = f_X6_pass__s I1 (xs (i + 1)) := ⟨_, rfl⟩
  obtain ⟨p1, p2, p3⟩ := hP I2 hI2
  refine lv_istore (lv' := [(5, .int (hcode 1 (f_X4_pass_x I (xs (i + 1))))), (4, .int (nI i)), (3, .ref (gA E 2 16 0)), (2, .ref (gA E 2 11 0)), (1, .ref (gA E 2 10 0)), (0, .ref b)]) hx hb dL_law_824 hl (by decide) rfl (fun ls hl => ?_)
  refine lv_aload_n hx hb dL_law_826 rfl (lv_at hl 3 rfl) ?_
  refine lv_aload_n hx hb dL_law_827 rfl (lv_at hl 5 rfl) ?_
  refine lv_iload hx hb dL_law_828 (lv_at hl 1 rfl) ?_
  refine lv_iconst (v := 1) hx hb dL_law_830 (by decide) ?_
  refine lv_iadd hx hb dL_law_831 ?_
  rw [show (nI i : Int32) + 1 = nI (i + 1) from nI_add i 1]
  refine va_sld hx hb hX hbl hbA hS (vp_in_nI (by omega) (by omega)) dL_law_832 ?_
  rw [nI_clamp (show i + 1 < 2 ^ 31 by omega)]
  refine g_ki (g_runV (As := [.int (xs (i + 1))]) (rest := []) K hml ca_X6_pass_ q885 (m_X6_pass_ l E _ I1 (xs (i + 1)) hok) hG hS rfl rfl rfl rfl rfl hl.1 (Nat.le_of_ble_eq_true rfl) ⟨by decide, by decide⟩ dL_law_833 ⟨by show cells + 1 + 0 ≤ 601024; omega, by show slots + 6 * 1 + 0 ≤ 7293033; omega⟩) hS (fun H locs hG hS => ?_)
  rw [← hI2] at hG
  refine lv_istore (lv' := [(6, .int (f_X6_pass__v I1 (xs (i + 1)))), (5, .int (hcode 1 (f_X4_pass_x I (xs (i + 1))))), (4, .int (nI i)), (3, .ref (gA E 2 16 0)), (2, .ref (gA E 2 11 0)), (1, .ref (gA E 2 10 0)), (0, .ref b)]) hx hb dL_law_836 hl (by decide) rfl (fun ls hl => ?_)
  refine lv_aload_n hx hb dL_law_838 rfl (lv_at hl 4 rfl) ?_
  refine g_ki (g_runV (As := []) (rest := []) K hml ca_X6_thrown q774 (m_X6_thrown l E _ I2 trivial) hG hS rfl rfl rfl rfl rfl hl.1 (Nat.le_of_ble_eq_true rfl) ⟨by decide, by decide⟩ dL_law_839 ⟨by show cells + 1 + 0 ≤ 601024; omega, by show slots + 6 * 1 + 0 ≤ 7293033; omega⟩) hS (fun H locs hG hS => ?_)
  refine lv_iload hx hb dL_law_842 (lv_at hl 1 rfl) ?_
  refine lv_icmp_eq (tgt := 849) hx hb dL_law_844 (by decide) (fun _ => ?_) (fun h => absurd p1.symm h)
  refine lv_iload hx hb dL_law_849 (lv_at hl 1 rfl) ?_
  have hz : hcode 1 (f_X4_pass_x I (xs (i + 1))) = 0 → f_X4_pass_x I (xs (i + 1)) = 0 := hcode_z
  have hend : ∀ (J : Int64) (H : Heap) (locs : List Loc), GW E J I2 H → va_S (gF E) s.heap H locs → W p l e room_1 s m #[Value.ref b] below meth c H locs (cells + 1) (slots + 6 * 1) (lw_Z below #[Value.ref b] s) (F0 m 866 ls []) := fun J H locs hG hS => by
    refine lv_goto (tgt := 1104) hx hb dL_law_866 (by decide) ?_
    exact kk _ I2 H locs _ _ ls p3 hG hS (lv_sub hl [2, 3, 4, 5, 6] rfl) (by omega) (by omega)
  refine lv_if_ne (tgt := 866) hx hb dL_law_851 (by decide) (fun _ => hend _ H locs hG hS) (fun h0 => ?_)
  have h0 := hz h0
  rw [hJ_z h0] at hG
  refine lv_aload_n hx hb dL_law_854 rfl (lv_at hl 3 rfl) ?_
  refine lv_iconst (v := 0) hx hb dL_law_855 (by decide) ?_
  refine g_lald K hG dL_law_856 ?_
  refine lv_iload hx hb dL_law_857 (lv_at hl 0 rfl) ?_
  refine lv_i2l hx hb dL_law_859 rfl ?_
  refine W.lcmp hx hb dL_law_860 ?_
  rw [lcmp_eq (congrArg Int32.toInt64 (p2 h0))]
  exact lv_if_eq (tgt := 866) hx hb dL_law_861 (by decide) (fun _ => hend _ H locs hG hS) (fun h => absurd rfl h)
set_option maxHeartbeats 4000000 in
set_option maxRecDepth 100000 in
theorem law_until {p : Program} {l : Launch} {e : Env} {s : State} {m : MethodId} {below : List Frame} {meth : Method} {c : Code} {E : gE} {b L i : Nat} {xs : Nat → Int32} {Rel : gI → Prop} {J : Int64} {I : gI} {H : Heap} {locs : List Loc} {cells slots : Nat} {ls : Array Slot} (X : lx p l s m meth c E b L xs) (hi : i + 3 ≤ L) (hc : cells + 3 ≤ 601024) (hs : slots + 18 ≤ 7293033) (hq : lw0 I) (hP : sp_until Rel I (xs (i + 1))) (hG : GW E J I H) (hS : va_S (gF E) s.heap H locs) (hl : lv_has ls 9 (llv E b i)) (kk : lk p l e s m below meth c E b i Rel cells slots) : W p l e room_1 s m #[Value.ref b] below meth c H locs cells slots (lw_Z below #[Value.ref b] s) (F0 m 869 ls []) := by
  obtain ⟨K, hml, hr, hlocks, hX, hbl, hbA, hfl, hL⟩ := X
  have hx := K.1
  have hb := K.2.1
  have hts := K.2.2.1
  have hown := K.2.2.2.1
  have hSt := K.2.2.2.2
  obtain ⟨hw0, hw1, hzz, hzd⟩ := hq
  have hl : lv_has ls 9 [(4, .int (nI i)), (3, .ref (gA E 2 16 0)), (2, .ref (gA E 2 11 0)), (1, .ref (gA E 2 10 0)), (0, .ref b)] := hl
  refine lv_aload_n hx hb dL_law_869 rfl (lv_at hl 3 rfl) ?_
  refine lv_aload_n hx hb dL_law_870 rfl (lv_at hl 4 rfl) ?_
  refine lv_iload hx hb dL_law_871 (lv_at hl 0 rfl) ?_
  refine lv_iconst (v := 1) hx hb dL_law_873 (by decide) ?_
  refine lv_iadd hx hb dL_law_874 ?_
  rw [show (nI i : Int32) + 1 = nI (i + 1) from nI_add i 1]
  refine va_sld hx hb hX hbl hbA hS (vp_in_nI (by omega) (by omega)) dL_law_875 ?_
  rw [nI_clamp (show i + 1 < 2 ^ 31 by omega)]
  refine lv_aload_n hx hb dL_law_876 rfl (lv_at hl 1 rfl) ?_
  refine g_kih (g_runSH (As := [.ref (gA E 2 10 0), .int (xs (i + 1)), .ref (gA E 2 16 0)]) (rest := []) K hml (show gcaH yL_until cL_until 4 [(0, 9, 12, 21)] 3 from ⟨q591, q0, q590, by decide +kernel⟩) q589 (m_L_until l E J I (xs (i + 1)) hw0 hw1 hzz hzd hfl) hG hS rfl hl.1 (Nat.le_of_ble_eq_true rfl) ⟨by decide, by decide⟩ dL_law_877 ⟨by show cells + 1 ≤ 601024; omega, by show slots + 6 * 1 ≤ 7293033; omega⟩) hS (fun H locs hG hS => ?_)
  obtain ⟨I1, hI1⟩ : ∃ z, z = hI (f_X4_until_x I (xs (i + 1))) (f_X4_until_s I (xs (i + 1))) I := ⟨_, rfl⟩
  rw [← hI1] at hG
  obtain ⟨hok, hP⟩ := hP I1 hI1
  obtain ⟨I2, hI2⟩ : ∃ z, z = f_X6_until_s I1 (xs (i + 1)) := ⟨_, rfl⟩
  obtain ⟨p1, p2, p3⟩ := hP I2 hI2
  refine lv_istore (lv' := [(5, .int (hcode 3 (f_X4_until_x I (xs (i + 1))))), (4, .int (nI i)), (3, .ref (gA E 2 16 0)), (2, .ref (gA E 2 11 0)), (1, .ref (gA E 2 10 0)), (0, .ref b)]) hx hb dL_law_880 hl (by decide) rfl (fun ls hl => ?_)
  refine lv_aload_n hx hb dL_law_882 rfl (lv_at hl 3 rfl) ?_
  refine lv_aload_n hx hb dL_law_883 rfl (lv_at hl 5 rfl) ?_
  refine lv_iload hx hb dL_law_884 (lv_at hl 1 rfl) ?_
  refine lv_iconst (v := 1) hx hb dL_law_886 (by decide) ?_
  refine lv_iadd hx hb dL_law_887 ?_
  rw [show (nI i : Int32) + 1 = nI (i + 1) from nI_add i 1]
  refine va_sld hx hb hX hbl hbA hS (vp_in_nI (by omega) (by omega)) dL_law_888 ?_
  rw [nI_clamp (show i + 1 < 2 ^ 31 by omega)]
  refine g_ki (g_runV (As := [.int (xs (i + 1))]) (rest := []) K hml ca_X6_until q945 (m_X6_until l E _ I1 (xs (i + 1)) hok) hG hS rfl rfl rfl rfl rfl hl.1 (Nat.le_of_ble_eq_true rfl) ⟨by decide, by decide⟩ dL_law_889 ⟨by show cells + 1 + 0 ≤ 601024; omega, by show slots + 6 * 1 + 0 ≤ 7293033; omega⟩) hS (fun H locs hG hS => ?_)
  rw [← hI2] at hG
  refine lv_istore (lv' := [(6, .int (f_X6_until_v I1 (xs (i + 1)))), (5, .int (hcode 3 (f_X4_until_x I (xs (i + 1))))), (4, .int (nI i)), (3, .ref (gA E 2 16 0)), (2, .ref (gA E 2 11 0)), (1, .ref (gA E 2 10 0)), (0, .ref b)]) hx hb dL_law_892 hl (by decide) rfl (fun ls hl => ?_)
  refine lv_aload_n hx hb dL_law_894 rfl (lv_at hl 4 rfl) ?_
  refine g_ki (g_runV (As := []) (rest := []) K hml ca_X6_thrown q774 (m_X6_thrown l E _ I2 trivial) hG hS rfl rfl rfl rfl rfl hl.1 (Nat.le_of_ble_eq_true rfl) ⟨by decide, by decide⟩ dL_law_895 ⟨by show cells + 1 + 0 ≤ 601024; omega, by show slots + 6 * 1 + 0 ≤ 7293033; omega⟩) hS (fun H locs hG hS => ?_)
  refine lv_iload hx hb dL_law_898 (lv_at hl 1 rfl) ?_
  refine lv_icmp_eq (tgt := 905) hx hb dL_law_900 (by decide) (fun _ => ?_) (fun h => absurd p1.symm h)
  refine lv_iload hx hb dL_law_905 (lv_at hl 1 rfl) ?_
  have hz : hcode 3 (f_X4_until_x I (xs (i + 1))) = 0 → f_X4_until_x I (xs (i + 1)) = 0 := hcode_z
  have hend : ∀ (J : Int64) (H : Heap) (locs : List Loc), GW E J I2 H → va_S (gF E) s.heap H locs → W p l e room_1 s m #[Value.ref b] below meth c H locs (cells + 1) (slots + 6 * 1) (lw_Z below #[Value.ref b] s) (F0 m 922 ls []) := fun J H locs hG hS => by
    refine lv_goto (tgt := 1104) hx hb dL_law_922 (by decide) ?_
    exact kk _ I2 H locs _ _ ls p3 hG hS (lv_sub hl [2, 3, 4, 5, 6] rfl) (by omega) (by omega)
  refine lv_if_ne (tgt := 922) hx hb dL_law_907 (by decide) (fun _ => hend _ H locs hG hS) (fun h0 => ?_)
  have h0 := hz h0
  rw [hJ_z h0] at hG
  refine lv_aload_n hx hb dL_law_910 rfl (lv_at hl 3 rfl) ?_
  refine lv_iconst (v := 0) hx hb dL_law_911 (by decide) ?_
  refine g_lald K hG dL_law_912 ?_
  refine lv_iload hx hb dL_law_913 (lv_at hl 0 rfl) ?_
  refine lv_i2l hx hb dL_law_915 rfl ?_
  refine W.lcmp hx hb dL_law_916 ?_
  rw [lcmp_eq (congrArg Int32.toInt64 (p2 h0))]
  exact lv_if_eq (tgt := 922) hx hb dL_law_917 (by decide) (fun _ => hend _ H locs hG hS) (fun h => absurd rfl h)
set_option maxHeartbeats 4000000 in
set_option maxRecDepth 100000 in
theorem law_foresee {p : Program} {l : Launch} {e : Env} {s : State} {m : MethodId} {below : List Frame} {meth : Method} {c : Code} {E : gE} {b L i : Nat} {xs : Nat → Int32} {Rel : gI → Prop} {J : Int64} {I : gI} {H : Heap} {locs : List Loc} {cells slots : Nat} {ls : Array Slot} (X : lx p l s m meth c E b L xs) (hi : i + 3 ≤ L) (hc : cells + 3 ≤ 601024) (hs : slots + 18 ≤ 7293033) (hq : lw0 I) (hP : sp_foresee Rel I (xs (i + 1)) (xs (i + 2))) (hG : GW E J I H) (hS : va_S (gF E) s.heap H locs) (hl : lv_has ls 9 (llv E b i)) (kk : lk p l e s m below meth c E b i Rel cells slots) : W p l e room_1 s m #[Value.ref b] below meth c H locs cells slots (lw_Z below #[Value.ref b] s) (F0 m 925 ls []) := by
  obtain ⟨K, hml, hr, hlocks, hX, hbl, hbA, hfl, hL⟩ := X
  have hx := K.1
  have hb := K.2.1
  have hts := K.2.2.1
  have hown := K.2.2.2.1
  have hSt := K.2.2.2.2
  obtain ⟨hw0, hw1, hzz, hzd⟩ := hq
  have hl : lv_has ls 9 [(4, .int (nI i)), (3, .ref (gA E 2 16 0)), (2, .ref (gA E 2 11 0)), (1, .ref (gA E 2 10 0)), (0, .ref b)] := hl
  refine lv_aload_n hx hb dL_law_925 rfl (lv_at hl 3 rfl) ?_
  refine lv_aload_n hx hb dL_law_926 rfl (lv_at hl 4 rfl) ?_
  refine lv_iload hx hb dL_law_927 (lv_at hl 0 rfl) ?_
  refine lv_iconst (v := 1) hx hb dL_law_929 (by decide) ?_
  refine lv_iadd hx hb dL_law_930 ?_
  rw [show (nI i : Int32) + 1 = nI (i + 1) from nI_add i 1]
  refine va_sld hx hb hX hbl hbA hS (vp_in_nI (by omega) (by omega)) dL_law_931 ?_
  rw [nI_clamp (show i + 1 < 2 ^ 31 by omega)]
  refine lv_aload_n hx hb dL_law_932 rfl (lv_at hl 4 rfl) ?_
  refine lv_iload hx hb dL_law_933 (lv_at hl 0 rfl) ?_
  refine lv_iconst (v := 2) hx hb dL_law_935 (by decide) ?_
  refine lv_iadd hx hb dL_law_936 ?_
  rw [show (nI i : Int32) + 2 = nI (i + 2) from nI_add i 2]
  refine va_sld hx hb hX hbl hbA hS (vp_in_nI (by omega) (by omega)) dL_law_937 ?_
  rw [nI_clamp (show i + 2 < 2 ^ 31 by omega)]
  refine lv_aload_n hx hb dL_law_938 rfl (lv_at hl 1 rfl) ?_
  refine g_kih (g_runSH (As := [.ref (gA E 2 10 0), .int (xs (i + 1)), .int (xs (i + 2)), .ref (gA E 2 16 0)]) (rest := []) K hml (show gcaH yL_foresee cL_foresee 5 [(0, 10, 13, 13), (0, 10, 17, 21)] 4 from ⟨q615, q0, q614, by decide +kernel⟩) q613 (m_L_foresee l E J I (xs (i + 1)) (xs (i + 2)) hw0 hw1 hzz hzd hfl) hG hS rfl hl.1 (Nat.le_of_ble_eq_true rfl) ⟨by decide, by decide⟩ dL_law_939 ⟨by show cells + 2 ≤ 601024; omega, by show slots + 6 * 2 ≤ 7293033; omega⟩) hS (fun H locs hG hS => ?_)
  obtain ⟨I1, hI1⟩ : ∃ z, z = hI (f_X4_foresee_x I (xs (i + 1)) (xs (i + 2))) (f_X4_foresee_s I (xs (i + 1)) (xs (i + 2))) I := ⟨_, rfl⟩
  rw [← hI1] at hG
  obtain ⟨hok, hP⟩ := hP I1 hI1
  obtain ⟨I2, hI2⟩ : ∃ z, z = f_X6_foresee_s I1 (xs (i + 1)) (xs (i + 2)) := ⟨_, rfl⟩
  obtain ⟨p1, p2, p3⟩ := hP I2 hI2
  refine lv_istore (lv' := [(5, .int (hcode 1 (f_X4_foresee_x I (xs (i + 1)) (xs (i + 2))))), (4, .int (nI i)), (3, .ref (gA E 2 16 0)), (2, .ref (gA E 2 11 0)), (1, .ref (gA E 2 10 0)), (0, .ref b)]) hx hb dL_law_942 hl (by decide) rfl (fun ls hl => ?_)
  refine lv_aload_n hx hb dL_law_944 rfl (lv_at hl 3 rfl) ?_
  refine lv_aload_n hx hb dL_law_945 rfl (lv_at hl 5 rfl) ?_
  refine lv_iload hx hb dL_law_946 (lv_at hl 1 rfl) ?_
  refine lv_iconst (v := 1) hx hb dL_law_948 (by decide) ?_
  refine lv_iadd hx hb dL_law_949 ?_
  rw [show (nI i : Int32) + 1 = nI (i + 1) from nI_add i 1]
  refine va_sld hx hb hX hbl hbA hS (vp_in_nI (by omega) (by omega)) dL_law_950 ?_
  rw [nI_clamp (show i + 1 < 2 ^ 31 by omega)]
  refine lv_aload_n hx hb dL_law_951 rfl (lv_at hl 5 rfl) ?_
  refine lv_iload hx hb dL_law_952 (lv_at hl 1 rfl) ?_
  refine lv_iconst (v := 2) hx hb dL_law_954 (by decide) ?_
  refine lv_iadd hx hb dL_law_955 ?_
  rw [show (nI i : Int32) + 2 = nI (i + 2) from nI_add i 2]
  refine va_sld hx hb hX hbl hbA hS (vp_in_nI (by omega) (by omega)) dL_law_956 ?_
  rw [nI_clamp (show i + 2 < 2 ^ 31 by omega)]
  refine g_ki (g_runV (As := [.int (xs (i + 1)), .int (xs (i + 2))]) (rest := []) K hml ca_X6_foresee q956 (m_X6_foresee l E _ I1 (xs (i + 1)) (xs (i + 2)) hok) hG hS rfl rfl rfl rfl rfl hl.1 (Nat.le_of_ble_eq_true rfl) ⟨by decide, by decide⟩ dL_law_957 ⟨by show cells + 2 + 0 ≤ 601024; omega, by show slots + 6 * 2 + 0 ≤ 7293033; omega⟩) hS (fun H locs hG hS => ?_)
  rw [← hI2] at hG
  refine lv_istore (lv' := [(6, .int (f_X6_foresee_v I1 (xs (i + 1)) (xs (i + 2)))), (5, .int (hcode 1 (f_X4_foresee_x I (xs (i + 1)) (xs (i + 2))))), (4, .int (nI i)), (3, .ref (gA E 2 16 0)), (2, .ref (gA E 2 11 0)), (1, .ref (gA E 2 10 0)), (0, .ref b)]) hx hb dL_law_960 hl (by decide) rfl (fun ls hl => ?_)
  refine lv_aload_n hx hb dL_law_962 rfl (lv_at hl 4 rfl) ?_
  refine g_ki (g_runV (As := []) (rest := []) K hml ca_X6_thrown q774 (m_X6_thrown l E _ I2 trivial) hG hS rfl rfl rfl rfl rfl hl.1 (Nat.le_of_ble_eq_true rfl) ⟨by decide, by decide⟩ dL_law_963 ⟨by show cells + 2 + 0 ≤ 601024; omega, by show slots + 6 * 2 + 0 ≤ 7293033; omega⟩) hS (fun H locs hG hS => ?_)
  refine lv_iload hx hb dL_law_966 (lv_at hl 1 rfl) ?_
  refine lv_icmp_eq (tgt := 973) hx hb dL_law_968 (by decide) (fun _ => ?_) (fun h => absurd p1.symm h)
  refine lv_iload hx hb dL_law_973 (lv_at hl 1 rfl) ?_
  have hz : hcode 1 (f_X4_foresee_x I (xs (i + 1)) (xs (i + 2))) = 0 → f_X4_foresee_x I (xs (i + 1)) (xs (i + 2)) = 0 := hcode_z
  have hend : ∀ (J : Int64) (H : Heap) (locs : List Loc), GW E J I2 H → va_S (gF E) s.heap H locs → W p l e room_1 s m #[Value.ref b] below meth c H locs (cells + 2) (slots + 6 * 2) (lw_Z below #[Value.ref b] s) (F0 m 990 ls []) := fun J H locs hG hS => by
    refine lv_goto (tgt := 1104) hx hb dL_law_990 (by decide) ?_
    exact kk _ I2 H locs _ _ ls p3 hG hS (lv_sub hl [2, 3, 4, 5, 6] rfl) (by omega) (by omega)
  refine lv_if_ne (tgt := 990) hx hb dL_law_975 (by decide) (fun _ => hend _ H locs hG hS) (fun h0 => ?_)
  have h0 := hz h0
  rw [hJ_z h0] at hG
  refine lv_aload_n hx hb dL_law_978 rfl (lv_at hl 3 rfl) ?_
  refine lv_iconst (v := 0) hx hb dL_law_979 (by decide) ?_
  refine g_lald K hG dL_law_980 ?_
  refine lv_iload hx hb dL_law_981 (lv_at hl 0 rfl) ?_
  refine lv_i2l hx hb dL_law_983 rfl ?_
  refine W.lcmp hx hb dL_law_984 ?_
  rw [lcmp_eq (congrArg Int32.toInt64 (p2 h0))]
  exact lv_if_eq (tgt := 990) hx hb dL_law_985 (by decide) (fun _ => hend _ H locs hG hS) (fun h => absurd rfl h)
set_option maxHeartbeats 4000000 in
set_option maxRecDepth 100000 in
theorem law_advise {p : Program} {l : Launch} {e : Env} {s : State} {m : MethodId} {below : List Frame} {meth : Method} {c : Code} {E : gE} {b L i : Nat} {xs : Nat → Int32} {Rel : gI → Prop} {J : Int64} {I : gI} {H : Heap} {locs : List Loc} {cells slots : Nat} {ls : Array Slot} (X : lx p l s m meth c E b L xs) (hi : i + 3 ≤ L) (hc : cells + 3 ≤ 601024) (hs : slots + 18 ≤ 7293033) (hq : lw0 I) (hP : sp_advise Rel I (xs (i + 1))) (hG : GW E J I H) (hS : va_S (gF E) s.heap H locs) (hl : lv_has ls 9 (llv E b i)) (kk : lk p l e s m below meth c E b i Rel cells slots) : W p l e room_1 s m #[Value.ref b] below meth c H locs cells slots (lw_Z below #[Value.ref b] s) (F0 m 993 ls []) := by
  obtain ⟨K, hml, hr, hlocks, hX, hbl, hbA, hfl, hL⟩ := X
  have hx := K.1
  have hb := K.2.1
  have hts := K.2.2.1
  have hown := K.2.2.2.1
  have hSt := K.2.2.2.2
  obtain ⟨hw0, hw1, hzz, hzd⟩ := hq
  have hl : lv_has ls 9 [(4, .int (nI i)), (3, .ref (gA E 2 16 0)), (2, .ref (gA E 2 11 0)), (1, .ref (gA E 2 10 0)), (0, .ref b)] := hl
  refine lv_aload_n hx hb dL_law_993 rfl (lv_at hl 3 rfl) ?_
  refine lv_aload_n hx hb dL_law_994 rfl (lv_at hl 4 rfl) ?_
  refine lv_iload hx hb dL_law_995 (lv_at hl 0 rfl) ?_
  refine lv_iconst (v := 1) hx hb dL_law_997 (by decide) ?_
  refine lv_iadd hx hb dL_law_998 ?_
  rw [show (nI i : Int32) + 1 = nI (i + 1) from nI_add i 1]
  refine va_sld hx hb hX hbl hbA hS (vp_in_nI (by omega) (by omega)) dL_law_999 ?_
  rw [nI_clamp (show i + 1 < 2 ^ 31 by omega)]
  refine lv_aload_n hx hb dL_law_1000 rfl (lv_at hl 1 rfl) ?_
  refine g_kih (g_runSH (As := [.ref (gA E 2 10 0), .int (xs (i + 1)), .ref (gA E 2 16 0)]) (rest := []) K hml (show gcaH yL_advise cL_advise 4 [(0, 9, 12, 13)] 3 from ⟨q623, q0, q622, by decide +kernel⟩) q621 (m_L_advise l E J I (xs (i + 1)) hw0 hw1 hzz hzd hfl) hG hS rfl hl.1 (Nat.le_of_ble_eq_true rfl) ⟨by decide, by decide⟩ dL_law_1001 ⟨by show cells + 1 ≤ 601024; omega, by show slots + 6 * 1 ≤ 7293033; omega⟩) hS (fun H locs hG hS => ?_)
  obtain ⟨I1, hI1⟩ : ∃ z, z = hI (f_X4_advise_x I (xs (i + 1))) (f_X4_advise_s I (xs (i + 1))) I := ⟨_, rfl⟩
  rw [← hI1] at hG
  obtain ⟨hok, hP⟩ := hP I1 hI1
  obtain ⟨I2, hI2⟩ : ∃ z, z = f_X6_advise_s I1 (xs (i + 1)) := ⟨_, rfl⟩
  obtain ⟨p1, p2, p3⟩ := hP I2 hI2
  refine lv_istore (lv' := [(5, .int (hcode 1 (f_X4_advise_x I (xs (i + 1))))), (4, .int (nI i)), (3, .ref (gA E 2 16 0)), (2, .ref (gA E 2 11 0)), (1, .ref (gA E 2 10 0)), (0, .ref b)]) hx hb dL_law_1004 hl (by decide) rfl (fun ls hl => ?_)
  refine lv_aload_n hx hb dL_law_1006 rfl (lv_at hl 3 rfl) ?_
  refine lv_aload_n hx hb dL_law_1007 rfl (lv_at hl 5 rfl) ?_
  refine lv_iload hx hb dL_law_1008 (lv_at hl 1 rfl) ?_
  refine lv_iconst (v := 1) hx hb dL_law_1010 (by decide) ?_
  refine lv_iadd hx hb dL_law_1011 ?_
  rw [show (nI i : Int32) + 1 = nI (i + 1) from nI_add i 1]
  refine va_sld hx hb hX hbl hbA hS (vp_in_nI (by omega) (by omega)) dL_law_1012 ?_
  rw [nI_clamp (show i + 1 < 2 ^ 31 by omega)]
  refine g_ki (g_runV (As := [.int (xs (i + 1))]) (rest := []) K hml ca_X6_advise q960 (m_X6_advise l E _ I1 (xs (i + 1)) hok) hG hS rfl rfl rfl rfl rfl hl.1 (Nat.le_of_ble_eq_true rfl) ⟨by decide, by decide⟩ dL_law_1013 ⟨by show cells + 1 + 0 ≤ 601024; omega, by show slots + 6 * 1 + 0 ≤ 7293033; omega⟩) hS (fun H locs hG hS => ?_)
  rw [← hI2] at hG
  refine lv_istore (lv' := [(6, .int (f_X6_advise_v I1 (xs (i + 1)))), (5, .int (hcode 1 (f_X4_advise_x I (xs (i + 1))))), (4, .int (nI i)), (3, .ref (gA E 2 16 0)), (2, .ref (gA E 2 11 0)), (1, .ref (gA E 2 10 0)), (0, .ref b)]) hx hb dL_law_1016 hl (by decide) rfl (fun ls hl => ?_)
  refine lv_aload_n hx hb dL_law_1018 rfl (lv_at hl 4 rfl) ?_
  refine g_ki (g_runV (As := []) (rest := []) K hml ca_X6_thrown q774 (m_X6_thrown l E _ I2 trivial) hG hS rfl rfl rfl rfl rfl hl.1 (Nat.le_of_ble_eq_true rfl) ⟨by decide, by decide⟩ dL_law_1019 ⟨by show cells + 1 + 0 ≤ 601024; omega, by show slots + 6 * 1 + 0 ≤ 7293033; omega⟩) hS (fun H locs hG hS => ?_)
  refine lv_iload hx hb dL_law_1022 (lv_at hl 1 rfl) ?_
  refine lv_icmp_eq (tgt := 1029) hx hb dL_law_1024 (by decide) (fun _ => ?_) (fun h => absurd p1.symm h)
  refine lv_iload hx hb dL_law_1029 (lv_at hl 1 rfl) ?_
  have hz : hcode 1 (f_X4_advise_x I (xs (i + 1))) = 0 → f_X4_advise_x I (xs (i + 1)) = 0 := hcode_z
  have hend : ∀ (J : Int64) (H : Heap) (locs : List Loc), GW E J I2 H → va_S (gF E) s.heap H locs → W p l e room_1 s m #[Value.ref b] below meth c H locs (cells + 1) (slots + 6 * 1) (lw_Z below #[Value.ref b] s) (F0 m 1046 ls []) := fun J H locs hG hS => by
    refine lv_goto (tgt := 1104) hx hb dL_law_1046 (by decide) ?_
    exact kk _ I2 H locs _ _ ls p3 hG hS (lv_sub hl [2, 3, 4, 5, 6] rfl) (by omega) (by omega)
  refine lv_if_ne (tgt := 1046) hx hb dL_law_1031 (by decide) (fun _ => hend _ H locs hG hS) (fun h0 => ?_)
  have h0 := hz h0
  rw [hJ_z h0] at hG
  refine lv_aload_n hx hb dL_law_1034 rfl (lv_at hl 3 rfl) ?_
  refine lv_iconst (v := 0) hx hb dL_law_1035 (by decide) ?_
  refine g_lald K hG dL_law_1036 ?_
  refine lv_iload hx hb dL_law_1037 (lv_at hl 0 rfl) ?_
  refine lv_i2l hx hb dL_law_1039 rfl ?_
  refine W.lcmp hx hb dL_law_1040 ?_
  rw [lcmp_eq (congrArg Int32.toInt64 (p2 h0))]
  exact lv_if_eq (tgt := 1046) hx hb dL_law_1041 (by decide) (fun _ => hend _ H locs hG hS) (fun h => absurd rfl h)
set_option maxHeartbeats 4000000 in
set_option maxRecDepth 100000 in
theorem law_mean {p : Program} {l : Launch} {e : Env} {s : State} {m : MethodId} {below : List Frame} {meth : Method} {c : Code} {E : gE} {b L i : Nat} {xs : Nat → Int32} {Rel : gI → Prop} {J : Int64} {I : gI} {H : Heap} {locs : List Loc} {cells slots : Nat} {ls : Array Slot} (X : lx p l s m meth c E b L xs) (hi : i + 3 ≤ L) (hc : cells + 3 ≤ 601024) (hs : slots + 18 ≤ 7293033) (hq : lw0 I) (hP : sp_mean Rel I) (hG : GW E J I H) (hS : va_S (gF E) s.heap H locs) (hl : lv_has ls 9 (llv E b i)) (kk : lk p l e s m below meth c E b i Rel cells slots) : W p l e room_1 s m #[Value.ref b] below meth c H locs cells slots (lw_Z below #[Value.ref b] s) (F0 m 1049 ls []) := by
  obtain ⟨K, hml, hr, hlocks, hX, hbl, hbA, hfl, hL⟩ := X
  have hx := K.1
  have hb := K.2.1
  have hts := K.2.2.1
  have hown := K.2.2.2.1
  have hSt := K.2.2.2.2
  obtain ⟨hw0, hw1, hzz, hzd⟩ := hq
  have hl : lv_has ls 9 [(4, .int (nI i)), (3, .ref (gA E 2 16 0)), (2, .ref (gA E 2 11 0)), (1, .ref (gA E 2 10 0)), (0, .ref b)] := hl
  obtain ⟨hok, hP⟩ := hP
  obtain ⟨I2, hI2⟩ : ∃ z, z = f_X6_mean_s I := ⟨_, rfl⟩
  obtain ⟨p2, p3⟩ := hP I2 hI2
  refine lv_aload_n hx hb dL_law_1049 rfl (lv_at hl 3 rfl) ?_
  refine g_kd (g_runV (As := []) (rest := []) K hml ca_X4_mean q191 (m_X4_mean l E J I hw0) hG hS rfl rfl rfl rfl rfl hl.1 (Nat.le_of_ble_eq_true rfl) ⟨by decide, by decide⟩ dL_law_1050 ⟨by show cells + 0 ≤ 601024; omega, by show slots + 0 ≤ 7293033; omega⟩) hS (fun H locs hG hS => ?_)
  refine lv_dstore (lv' := [(5, .double (f_X4_mean I)), (4, .int (nI i)), (3, .ref (gA E 2 16 0)), (2, .ref (gA E 2 11 0)), (1, .ref (gA E 2 10 0)), (0, .ref b)]) hx hb dL_law_1053 hl (by decide) rfl (fun ls hl => ?_)
  refine lv_aload_n hx hb dL_law_1055 rfl (lv_at hl 3 rfl) ?_
  refine g_kd (g_runV (As := []) (rest := []) K hml ca_X6_mean q966 (m_X6_mean l E J I hok) hG hS rfl rfl rfl rfl rfl hl.1 (Nat.le_of_ble_eq_true rfl) ⟨by decide, by decide⟩ dL_law_1056 ⟨by show cells + 0 ≤ 601024; omega, by show slots + 0 ≤ 7293033; omega⟩) hS (fun H locs hG hS => ?_)
  rw [← hI2] at hG
  rw [← p2] at *
  refine lv_dstore (lv' := [(7, .double (f_X4_mean I)), (5, .double (f_X4_mean I)), (4, .int (nI i)), (3, .ref (gA E 2 16 0)), (2, .ref (gA E 2 11 0)), (1, .ref (gA E 2 10 0)), (0, .ref b)]) hx hb dL_law_1059 hl (by decide) rfl (fun ls hl => ?_)
  obtain ⟨v, hv⟩ : ∃ v, v = Op.cmpValue (FP.dcmp (f_X4_mean I) (f_X4_mean I)) CmpOp.l := ⟨_, rfl⟩
  have hend : W p l e room_1 s m #[Value.ref b] below meth c H locs cells slots (lw_Z below #[Value.ref b] s) (F0 m 1087 ls []) := by
    refine lv_goto (tgt := 1104) hx hb dL_law_1087 (by decide) ?_
    exact kk _ I2 H locs _ _ ls p3 hG hS (lv_sub hl [2, 3, 4, 5, 6] rfl) (by omega) (by omega)
  refine lv_dload hx hb dL_law_1061 (lv_at hl 1 rfl) ?_
  refine lv_dload hx hb dL_law_1063 (lv_at hl 0 rfl) ?_
  refine lv_dcmp hx hb dL_law_1065 ?_
  rw [← hv]
  refine lv_if_eq (tgt := 1087) hx hb dL_law_1066 (by decide) (fun _ => hend) (fun h0 => ?_)
  refine lv_dload hx hb dL_law_1069 (lv_at hl 1 rfl) ?_
  refine lv_dload hx hb dL_law_1071 (lv_at hl 1 rfl) ?_
  refine lv_dcmp hx hb dL_law_1073 ?_
  rw [← hv]
  refine lv_if_eq (tgt := 1085) hx hb dL_law_1074 (by decide) (fun h => absurd h h0) (fun _ => ?_)
  refine lv_dload hx hb dL_law_1077 (lv_at hl 0 rfl) ?_
  refine lv_dload hx hb dL_law_1079 (lv_at hl 0 rfl) ?_
  refine lv_dcmp hx hb dL_law_1081 ?_
  rw [← hv]
  exact lv_if_ne (tgt := 1087) hx hb dL_law_1082 (by decide) (fun _ => hend) (fun h => absurd h h0)
set_option maxHeartbeats 4000000 in
set_option maxRecDepth 100000 in
theorem law_digest {p : Program} {l : Launch} {e : Env} {s : State} {m : MethodId} {below : List Frame} {meth : Method} {c : Code} {E : gE} {b L i : Nat} {xs : Nat → Int32} {Rel : gI → Prop} {J : Int64} {I : gI} {H : Heap} {locs : List Loc} {cells slots : Nat} {ls : Array Slot} (X : lx p l s m meth c E b L xs) (hi : i + 3 ≤ L) (hc : cells + 3 ≤ 601024) (hs : slots + 18 ≤ 7293033) (hq : lw0 I) (hP : sp_digest Rel I) (hG : GW E J I H) (hS : va_S (gF E) s.heap H locs) (hl : lv_has ls 9 (llv E b i)) (kk : lk p l e s m below meth c E b i Rel cells slots) : W p l e room_1 s m #[Value.ref b] below meth c H locs cells slots (lw_Z below #[Value.ref b] s) (F0 m 1090 ls []) := by
  obtain ⟨K, hml, hr, hlocks, hX, hbl, hbA, hfl, hL⟩ := X
  have hx := K.1
  have hb := K.2.1
  have hts := K.2.2.1
  have hown := K.2.2.2.1
  have hSt := K.2.2.2.2
  obtain ⟨hw0, hw1, hzz, hzd⟩ := hq
  have hl : lv_has ls 9 [(4, .int (nI i)), (3, .ref (gA E 2 16 0)), (2, .ref (gA E 2 11 0)), (1, .ref (gA E 2 10 0)), (0, .ref b)] := hl
  obtain ⟨hok, hP⟩ := hP
  obtain ⟨I2, hI2⟩ : ∃ z, z = f_X6_digest_s I := ⟨_, rfl⟩
  obtain ⟨p2, p3⟩ := hP I2 hI2
  refine lv_aload_n hx hb dL_law_1090 rfl (lv_at hl 3 rfl) ?_
  refine g_kl (g_runV (As := []) (rest := []) K hml ca_X4_digest q231 (m_X4_digest l E J I hw0) hG hS rfl rfl rfl rfl rfl hl.1 (Nat.le_of_ble_eq_true rfl) ⟨by decide, by decide⟩ dL_law_1091 ⟨by show cells + 0 ≤ 601024; omega, by show slots + 0 ≤ 7293033; omega⟩) hS (fun H locs hG hS => ?_)
  refine lv_aload_n hx hb dL_law_1094 rfl (lv_at hl 2 rfl) ?_
  refine g_kl (g_runV (As := []) (rest := [.long (f_X4_digest I)]) K hml ca_X6_digest q970 (m_X6_digest l E J I hok) hG hS rfl rfl rfl rfl rfl hl.1 (Nat.le_of_ble_eq_true rfl) ⟨by decide, by decide⟩ dL_law_1095 ⟨by show cells + 0 ≤ 601024; omega, by show slots + 0 ≤ 7293033; omega⟩) hS (fun H locs hG hS => ?_)
  rw [← hI2] at hG
  refine W.lcmp hx hb dL_law_1098 ?_
  rw [lcmp_eq p2]
  exact lv_if_eq (tgt := 1104) hx hb dL_law_1099 (by decide) (fun _ => by exact kk _ I2 H locs _ _ ls p3 hG hS (lv_sub hl [0, 1, 2, 3, 4] rfl) (by omega) (by omega)) (fun h => absurd rfl h)
