/-! PRINTED by wip/gen/ctor.py: the law up to its loop -/
section CZ
variable {p : Program} {l : Launch} {e : Env} {R : Room} {s : State} {m : MethodId} {args : Array Value} {below : List Frame} {meth : Method} {c : Code} {H H0 : Heap} {locs : List Loc} {cells slots : Nat} {Q : State → Prop}
variable {cc : ByteArray} {pc : Nat} {ls : Array Slot} {rest : List Value} {D : va_G} {Tk : Nat → ClassId} {own : String} {A : Nat → Prop} {a h : Nat}
/-- the first thing of a world -/
theorem c_new0 (K : kc D Tk p m c cc own args s) (hh : H.size = h) (hS : va_S A H0 H locs) {C : String} {T : u_T} {N ci index : Nat} (hin : ∀ w ∈ u_ws C T N, w ∈ lw_all) (ty : Nat → FieldType) (hty : ∀ k, k < N → parseFieldDescriptor (T k).2.2.1 = some (ty k)) (hcl : Cond.classLink own index C ∈ lw_all) (hinst : Cond.instantiable C N ∈ lw_all) (hini : Cond.initialized C ∈ lw_all)
    (hc : vwCl[ci]? = some (C, T, N)) {fs : List Value} (hfs : ∀ j, j < N → defaultValue (ty j) = vp_V fs j) (hcells : cells + 1 ≤ R.cells) (hslots : slots + N ≤ R.slots) (hdg : decode cc pc = .ok (.new index, 3))
    (kk : ∀ (H1 : Heap), CW D h (.inr (ci, fs)) (h + 1) [] H1 → va_S A H0 H1 locs → W p l e R s m args below meth c H1 locs (cells + 1) (slots + N) Q (F0 m (pc + 3) ls (.ref h :: rest))) : W p l e R s m args below meth c H locs cells slots Q (F0 m pc ls rest) := by
  obtain ⟨hx, hb, hts, hown, hk⟩ := K
  have hKn := hk.1.1 ci _ hc
  subst hh
  refine W.newcK hx hb hown (hts _ hcl) (hts _ hinst) (hts _ hini) rfl hdg hcells hslots hKn.2.1 rfl fun H1 kC hkC e1 z1 o1 => ?_
  exact kk H1 ⟨Nat.lt_succ_self _, ⟨_, hc, (u_born ty hts hin hKn hkC e1 hty).to hfs⟩, fun i e hi => by simp at hi, by rw [z1]; rfl⟩ (va_S.grow hS z1 o1)
/-- its constructor's call -/
theorem c_call0 {y : MethodName} {b : ByteArray} {n nL na f k sl L index ci : Nat} {fs As : List Value} {o' : va_E} {es' : List va_E} (K : kc D Tk p m c cc own args s) (hml : c.maxLocals = nL) (hcal : gcaI y b n na) (hlink : Cond.methodLink own index y ∈ lw_all)
    (hC : CW D a (.inr (ci, fs)) h [] H) (hS : va_S (cA a h) s.heap H locs) (hM : gMc l D Tk y b n f k sl L a h As ci fs o' es') (hn : As.length = na) (hsize : ls.size = nL) (hW : (rest.map fun v => v.category).sum ≤ 8) (hR : f + 1 ≤ R.frames ∧ 8 + (n + 11) + L ≤ R.locals) (hdg : decode cc pc = .ok (.invokespecial index, 3)) (hf : cells + k ≤ R.cells ∧ slots + sl ≤ R.slots)
    (kk : ∀ (H1 : Heap) (locs1 : List Loc), CW D a o' h es' H1 → va_S (cA a h) s.heap H1 locs1 → W p l e R s m args below meth c H1 locs1 (cells + k) (slots + sl) Q (F0 m (pc + 3) ls rest)) : W p l e R s m args below meth c H locs cells slots Q (F0 m pc ls (As.reverse ++ .ref a :: rest)) := by
  obtain ⟨hx, hb, hts, hown, hk⟩ := id K
  obtain ⟨c1, c2, c3, c4, c5⟩ := hcal
  have cw : CallB R s args own index y b n none (gws y b n none) (rmc f k sl L) k sl na ∧ y.name = "<init>" ∧ (Cond.instanceMethod y).before args s = true := ⟨callB_of na hts (gws_good c1) rfl rfl rfl (hts _ c2) (hts _ hlink) c5 hR, c4, hts _ c3⟩
  refine va_callv (va_runI (As := As) (rest := rest) ⟨hx, hb, hml, hown, hts⟩ hM cw ⟨c_blind _, fun U hU hW => ⟨rfl, by rw [hU]; exact hC, hk.moved hW⟩⟩ rfl hn hsize rfl (by show 2 * 0 + _ ≤ 8; omega) hdg hf) hS (fun q _ h9 => h9) (fun q h9 => h9) (fun u t H1 locs1 ht hvm hw hB hz1 hk1 hS1 => ?_)
  have hB : CW D a o' h es' t.heap := hB
  rw [ht] at hB
  exact kk H1 locs1 hB hS1
end CZ

def mO (h : Nat) : va_E := .inr (6, [.int 0, .int 0, .ref (h + 0), .ref (h + 1), .int 0, .ref (h + 2), .ref (h + 3), .int 10, .ref (h + 4), .ref (h + 25)])
def mL (Tk : Nat → ClassId) (h : Nat) : List va_E := [.inl (Tk 0, 6, .inl (fun _ => 0)), .inl (Tk 0, 6, .inl (fun _ => 0)), .inl (Tk 0, 10, .inl (fun _ => 0)), .inl (Tk 0, 10, .inl (fun _ => 0)), .inr (5, [.int 0, .int 0, .int 0, .int 0, .int 0, .ref (h + 5), .ref (h + 6), .ref (h + 7), .ref (h + 8), .ref (h + 9), .ref (h + 10), .ref (h + 11), .ref (h + 12), .ref (h + 13), .ref (h + 14), .ref (h + 15), .ref (h + 16), .ref (h + 17), .ref (h + 18), .int 0, .ref (h + 19), .ref (h + 20), .ref (h + 21), .ref (h + 22), .ref (h + 23), .ref (h + 24)]), .inl (Tk 0, 6, .inl (fun _ => 0)), .inl (Tk 0, 6, .inl (fun _ => 0)), .inl (Tk 0, 6, .inl (fun _ => 0)), .inl (Tk 0, 6, .inl (fun _ => 0)), .inl (Tk 0, 6, .inl (fun _ => 0)), .inl (Tk 0, 6, .inl (fun _ => 0)), .inl (Tk 0, 6, .inl (fun _ => 0)), .inl (Tk 0, 48, .inl (fun _ => 0)), .inl (Tk 0, 10, .inl (fun _ => 0)), .inl (Tk 0, 10, .inl (fun _ => 0)), .inl (Tk 0, 10, .inl (fun _ => 0)), .inl (Tk 0, 10, .inl (fun _ => 0)), .inl (Tk 0, 10, .inl (fun _ => 0)), .inl (Tk 0, 10, .inl (fun _ => 0)), .inl (Tk 0, 600, .inl (fun _ => 0)), .inl (Tk 0, 600, .inl (fun _ => 0)), .inl (Tk 0, 600, .inl (fun _ => 0)), .inl (Tk 0, 600, .inl (fun _ => 0)), .inl (Tk 0, 600, .inl (fun _ => 0)), .inl (Tk 0, 600, .inl (fun _ => 0)), .inr (5, [.int 0, .int 0, .int 0, .int 0, .int 0, .ref (h + 26), .ref (h + 27), .ref (h + 28), .ref (h + 29), .ref (h + 30), .ref (h + 31), .ref (h + 32), .ref (h + 33), .ref (h + 34), .ref (h + 35), .ref (h + 36), .ref (h + 37), .ref (h + 38), .ref (h + 39), .int 0, .ref (h + 40), .ref (h + 41), .ref (h + 42), .ref (h + 43), .ref (h + 44), .ref (h + 45)]), .inl (Tk 0, 6, .inl (fun _ => 0)), .inl (Tk 0, 6, .inl (fun _ => 0)), .inl (Tk 0, 6, .inl (fun _ => 0)), .inl (Tk 0, 6, .inl (fun _ => 0)), .inl (Tk 0, 6, .inl (fun _ => 0)), .inl (Tk 0, 6, .inl (fun _ => 0)), .inl (Tk 0, 6, .inl (fun _ => 0)), .inl (Tk 0, 48, .inl (fun _ => 0)), .inl (Tk 0, 10, .inl (fun _ => 0)), .inl (Tk 0, 10, .inl (fun _ => 0)), .inl (Tk 0, 10, .inl (fun _ => 0)), .inl (Tk 0, 10, .inl (fun _ => 0)), .inl (Tk 0, 10, .inl (fun _ => 0)), .inl (Tk 0, 10, .inl (fun _ => 0)), .inl (Tk 0, 600, .inl (fun _ => 0)), .inl (Tk 0, 600, .inl (fun _ => 0)), .inl (Tk 0, 600, .inl (fun _ => 0)), .inl (Tk 0, 600, .inl (fun _ => 0)), .inl (Tk 0, 600, .inl (fun _ => 0)), .inl (Tk 0, 600, .inl (fun _ => 0))]
def aL (Tk : Nat → ClassId) (h : Nat) : List va_E := yL Tk h ++ yL Tk (h + 33)
theorem aL_len (Tk : Nat → ClassId) (h : Nat) : (aL Tk h).length = 66 := by
  unfold aL
  rw [List.length_append, yL_len, yL_len]
def lawL (Tk : Nat → ClassId) (h : Nat) : List va_E := (aL Tk h ++ mO (h + 67) :: mL Tk (h + 67)) ++ [.inl (Tk 4, 1, .inr (.inl (fun _ => 0)))]
theorem bL_len (Tk : Nat → ClassId) (h : Nat) : (aL Tk h ++ mO (h + 67) :: mL Tk (h + 67)).length = 113 := by
  rw [List.length_append, aL_len]
  rfl
set_option maxHeartbeats 4000000 in
set_option maxRecDepth 100000 in
theorem law_init {p : Program} {l : Launch} {e : Env} {s : State} {m : MethodId} {below : List Frame} {meth : Method} {c : Code} {D : va_G} {Tk : Nat → ClassId} {b N : Nat} {Q : State → Prop} {ls : Array Slot} (K : kc D Tk p m c cL_law "HayThievesLaw" #[Value.ref b] s) (hml : c.maxLocals = 9) (hN : s.heap.size = N) (hl : lv_has ls 9 [(0, .ref b)])
    (kk : ∀ (H : Heap) (locs : List Loc) (ls : Array Slot), CW D N (.inr (4, [.ref (N + 1), .ref (N + 34)])) (N + 1) (lawL Tk (N + 1)) H → va_S (cA N (N + 1)) s.heap H locs → lv_has ls 9 [(4, .int 0), (3, .ref (N + 114)), (2, .ref (N + 67)), (1, .ref N), (0, .ref b)] → W p l e room_1 s m #[Value.ref b] below meth c H locs 115 9333 Q (F0 m 23 ls [])) :
    W p l e room_1 s m #[Value.ref b] below meth c s.heap [] 0 0 Q (F0 m 0 ls []) := by
  have hx := K.1
  have hb := K.2.1
  have hS : va_S (cA N (N + 1)) s.heap s.heap [] := va_S.rf
  refine c_new0 (ci := 4) (C := "HayThieves") (T := TX4) (N := 2) (fs := [.null, .null]) K hN hS in_X4 tyX4 tyX4_ok q16 q17 q1 rfl (by decide) (Nat.le_of_ble_eq_true rfl) (Nat.le_of_ble_eq_true rfl) dL_law_0 (fun H hC hS => ?_)
  refine lv_dup hx hb dL_law_3 rfl ?_
  refine c_call0 (As := []) (rest := [.ref N]) (ci := 4) (fs := [.null, .null]) K hml (show gcaI yX4_init cX4_init 1 0 from ⟨q20, q1, q19, rfl, by decide +kernel⟩) q18 hC hS (k_X4 l D Tk _ _) rfl hl.1 (Nat.le_of_ble_eq_true rfl) ⟨by decide, by decide⟩ dL_law_4 ⟨Nat.le_of_ble_eq_true rfl, Nat.le_of_ble_eq_true rfl⟩ (fun H locs hC hS => ?_)
  have hC : CW D N (.inr (4, [.ref (N + 1), .ref (N + 34)])) (N + 1) (aL Tk (N + 1)) H := hC
  refine lv_astore_n (lv' := [(1, .ref N), (0, .ref b)]) hx hb dL_law_7 rfl hl (by decide) rfl (fun ls hl => ?_)
  refine c_new (ci := 6) (C := "HayThievesModel") (T := TX6) (N := 10) (fs := [.int 0, .int 0, .null, .null, .int 0, .null, .null, .int 0, .null, .null]) K hC hS in_X6 tyX6 tyX6_ok q630 q631 q6 rfl (by decide) (Nat.le_of_ble_eq_true rfl) (Nat.le_of_ble_eq_true rfl) dL_law_8 (fun H hC hS => ?_)
  refine lv_dup hx hb dL_law_11 rfl ?_
  refine c_call (As := []) (rest := [.ref (N + 1 + (aL Tk (N + 1)).length)]) (es := aL Tk (N + 1)) (ci := 6) (fs := [.int 0, .int 0, .null, .null, .int 0, .null, .null, .int 0, .null, .null]) K hml (show gcaI yX6_init cX6_init 1 0 from ⟨q634, q6, q633, rfl, by decide +kernel⟩) q632 hC hS (k_X6 l D Tk _ _) rfl hl.1 (Nat.le_of_ble_eq_true rfl) ⟨by decide, by decide⟩ dL_law_12 ⟨Nat.le_of_ble_eq_true rfl, Nat.le_of_ble_eq_true rfl⟩ (fun H locs hC hS => ?_)
  rw [aL_len] at hC ⊢
  have hC : CW D N (.inr (4, [.ref (N + 1), .ref (N + 34)])) (N + 1) (aL Tk (N + 1) ++ mO (N + 1 + 67) :: mL Tk (N + 1 + 67)) H := hC
  refine lv_astore_n (lv' := [(2, .ref (N + 67)), (1, .ref N), (0, .ref b)]) hx hb dL_law_15 rfl hl (by decide) (by show _ :: _ = _ :: _; rw [show N + 1 + 66 = N + 67 by omega]; rfl) (fun ls hl => ?_)
  refine lv_iconst (v := 1) hx hb dL_law_16 (by decide) ?_
  refine c_newa (atype := .long) (k := 4) (ty := .long) (N' := 1) (a0 := (1, .inr (.inl (fun _ => 0)))) K hC hS rfl q976 rfl (c_fcJ K) (fun _ => rfl) (by decide) rfl (by decide) (Nat.le_of_ble_eq_true rfl) (Nat.le_of_ble_eq_true rfl) dL_law_17 (fun H hC hS => ?_)
  rw [bL_len]
  refine lv_astore_n (lv' := [(3, .ref (N + 114)), (2, .ref (N + 67)), (1, .ref N), (0, .ref b)]) hx hb dL_law_19 rfl hl (by decide) (by show _ :: _ = _ :: _; rw [show N + 1 + 113 = N + 114 by omega]; rfl) (fun ls hl => ?_)
  refine lv_iconst (v := 0) hx hb dL_law_20 (by decide) ?_
  refine lv_istore (lv' := [(4, .int 0), (3, .ref (N + 114)), (2, .ref (N + 67)), (1, .ref N), (0, .ref b)]) hx hb dL_law_21 hl (by decide) rfl (fun ls hl => ?_)
  exact kk H locs ls hC hS hl
