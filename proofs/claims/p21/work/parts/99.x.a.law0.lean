/-! THE CLAIM OUT OF ONE WALK OF THE LAW'S BODY. Your part is whole_start (and what it stands on); all else here is the same for every law, but numbers. -/
def R_law : String := "HayThievesLaw"
def lw_P (b : Addr) (xs : List Int32) (args : Array Value) (s : State) : Prop := args = #[.ref b] ∧ s.IntsAt b xs ∧ xs.length ≤ 260 ∧ (Jvm.Cond.and given_1 narrow_1).before args s = true
/-- what a walk over the start with the record d0 says of its end, said of the start itself -/
theorem lw_closed {s t : State} {o : Outcome} {d0 : Drawn} {L : List Loc} {k n : Nat} (hd0 : s.drawn.sameBut d0 lw_cs) (hv : ∃ v, o = .returned v) (hW : (s.setDrawn d0).WarmedH t.vm) (hs : (s.setDrawn d0).sameButNew ({ t with vm := s.vm } : State) L k n) : State.butDraws s t lw_cs (fun t1 => Framed s o t1 L k n) := by
  have h2 : t.drawn = d0 := congrArg State.drawn hs.1
  refine ⟨⟨hv, hW, State.sameButNew.setDrawn hs s.drawn⟩, ?_, by decide⟩
  rw [h2]
  exact hd0
def lw_Q (_ : Array Value) (s : State) (o : Outcome) (t : State) : Prop := o = .returned (some (.int 1)) ∧ State.butDraws s t lw_cs (fun t1 => Framed s o t1 [] 600172 7300668)
def lw_Z (below : List Frame) (a : Array Value) (s : State) : State → Prop := fun t => ∃ o, t.status = .running ∧ Ended t below o ∧ lw_Q a s o t
/-- the law's own end, with 1 on the stack, nothing written that was there before, its room as the claim has it; d0: the record of draws at this point (at the entry s.drawn: begin with 'refine W.base ?_' and 'have hd0 := Drawn.sameBut.refl s.drawn lw_cs') -/
theorem lw_ret {p : Program} {l : Launch} {e : Env} {s : State} {m : MethodId} {below : List Frame} {meth : Method} {c : Code} {b : Nat} {d0 : Drawn} (hd0 : s.drawn.sameBut d0 lw_cs) (hx : p.tables.exec = Jvm.exec) (hb : c.code = code) (hr : meth.sig.returnType = ret) (hlocks : meth.locks = false) {pc : Nat} {H : Heap} {ls : Array Slot} (hdg : decode code pc = .ok (.ireturn, 1)) : W p l e room_1 (s.setDrawn d0) m #[Value.ref b] below meth c H [] 600172 7300668 (lw_Z below #[Value.ref b] s) (F0 m pc ls [.int 1]) := by
  intro T hT X
  obtain ⟨fs, hret, hrun, hended, hW, hframe⟩ := X.leave (v := some (.int 1)) (hlocks := hlocks) (fun h => by rw [hr] at h; cases h)
  have hmeth' : T.vm.method? m = some meth := X.method'
  refine ⟨T.setFrames fs, ?_, .returned (some (.int 1)), hrun, hended, rfl, lw_closed hd0 ⟨_, rfl⟩ hW hframe⟩
  jvm_step X.here [X.here.top, hx, hb, hdg, hmeth', hr, ret, narrow_b1]
  (try refine ⟨rfl, ?_⟩); (try refine ⟨rfl, ?_⟩)
  first | (intro acts; rw [hret _ acts rfl rfl rfl]) | rw [hret _ _ rfl rfl rfl]
  exact Steps.refl _
/-- what holds at the law's entry: the machine, the code, the tables' words (any of lw_tbl by 'hts w (by decide +kernel)'), the script of L ints xs at the cell b, what the Statement gives of the start (any of its parts by flat_of_before) -/
def lw_At (p : Program) (s : State) (m : MethodId) (meth : Method) (c : Code) (b L : Nat) (xs : Nat → Int32) : Prop :=
  p.tables.exec = Jvm.exec ∧ c.code = code ∧ meth.sig.returnType = ret ∧ c.maxLocals = 27 ∧ s.vm.findClass R_law = some m.cls ∧ (∀ w ∈ lw_tbl, w.before #[Value.ref b] s = true) ∧ va_X b L xs s s.heap ∧ b < s.heap.size ∧ meth.locks = false ∧ (Jvm.Cond.and given_1 narrow_1).before #[Value.ref b] s = true
/-! WHAT THE LAW'S PIECES SHARE -/
theorem zA_lad' {I : gI} {n k : Nat} {x : Int32} (w : Nat) (hc : I 0 0 0 4 = nI n) (hk : k < n) (hn : n ≤ 6) (hx : x = nI w) (hw : w < 9) : f_X4_lad_x I (nI k) x = 0 ∧ f_X4_lad I (nI k) x = f_X1_tell I 0 k x := by
  subst hx
  exact zA_lad hc hk hn hw
theorem zA_load' {I : gI} {n k : Nat} {x : Int32} (w : Nat) (hc : I 0 0 0 5 = nI n) (hk : k < n) (hn : n ≤ 10) (hx : x = nI w) (hw : w < 7) : f_X4_load_x I (nI k) x = 0 ∧ f_X4_load I (nI k) x = f_X2_tell I 0 k x := by
  subst hx
  exact zA_load hc hk hn hw
theorem zA_count' {I : gI} {x : Int32} (w : Nat) (hx : x = nI w) (hw : w < 13) : f_X4_count_x I x = 0 ∧ f_X4_count I x = f_X3_tell I 0 x := by
  subst hx
  exact zA_count hw
theorem zA_vic {I : gI} {n k : Nat} (hc : I 0 0 0 4 = nI n) (hk : k < n) (hn : n ≤ 6) : f_X4_victim_x I (nI k) = 0 ∧ f_X4_victim I (nI k) = f_X3_victimOf I 0 k := by
  have nd := zA_need hc hk hn
  unfold f_X4_victim_x f_X4_victim
  rw [if_pos nd, if_pos nd, nI_clamp (by omega)]
  exact ⟨rfl, rfl⟩
def tS (I : gI) (w : Int32) (k : Nat) : Int32 := ssm (fun k => f_X1_tell I 0 k w) k
def aS (I : gI) (k : Nat) : Int32 := ssm (fun k => if f_X1_tell I 0 k 3 = 3 then 1 else 0) k
def lS (I : gI) (w : Int32) (k : Nat) : Int32 := ssm (fun k => f_X2_tell I 0 k w) k
def lE (I : gI) (w : Int32) (k : Nat) : Int32 := ssm (fun k => if f_X2_tell I 0 k 1 = w then 1 else 0) k
theorem aS_1 {I : gI} {k : Nat} (h : f_X1_tell I 0 k 3 = 3) : aS I k + 1 = aS I (k + 1) := by
  show _ = aS I k + (if f_X1_tell I 0 k 3 = 3 then 1 else 0)
  rw [if_pos h]
theorem aS_0 {I : gI} {k : Nat} (h : ¬ f_X1_tell I 0 k 3 = 3) : aS I k + 0 = aS I (k + 1) := by
  show _ = aS I k + (if f_X1_tell I 0 k 3 = 3 then 1 else 0)
  rw [if_neg h]
theorem lE_1 {I : gI} {w : Int32} {k : Nat} (h : f_X2_tell I 0 k 1 = w) : lE I w k + 1 = lE I w (k + 1) := by
  show _ = lE I w k + (if f_X2_tell I 0 k 1 = w then 1 else 0)
  rw [if_pos h]
theorem lE_0 {I : gI} {w : Int32} {k : Nat} (h : ¬ f_X2_tell I 0 k 1 = w) : lE I w k + 0 = lE I w (k + 1) := by
  show _ = lE I w k + (if f_X2_tell I 0 k 1 = w then 1 else 0)
  rw [if_neg h]
/-- inOthers, where all others' carts are empty -/
def nQo (E : gE) (F : Nat → Prop) (J : Int64) (D : sD) (I : gI) (O : List oR) : Array Value → State → Outcome → State → Prop := va_Qi (fun v (_ : Unit) => v = 0) (fun _ t => LV E F J D I O t.heap) (gH E)
set_option maxHeartbeats 4000000 in
set_option maxRecDepth 100000 in
theorem m_L_inOthers (l : Launch) (E : gE) (F : Nat → Prop) (J : Int64) (D : sD) (I : gI) (O : List oR) (k a : Nat) (hw0 : wf (I 0)) (ha : I 0 0 0 4 = nI a) (a6 : a ≤ 6) (hk : k < a) (he : ∀ o, o < a → o ≠ k → f_X1_tell I 0 o 2 = 0) (hfl : l.stackTraces = false) :
    Met l yL_inOthers (gws yL_inOthers cL_inOthers 4 (some .boolean)) (rmc 8 12 72 125) (va_Pc [.ref (gA E 2 10 0), .int (nI k), .int (nI a)] (fun U => LV E F J D I O U.heap ∧ sK E U)) (nQo E F J D I O) 12 72 (gH E) := by
  refine n_entry (E := E) (lv := [(0, .ref (gA E 2 10 0)), (1, .int (nI k)), (2, .int (nI a))]) (by decide) (Nat.le_of_ble_eq_true rfl) rfl (fun U h => h.2.1) ?_
  intro p e s m below meth c ls K hP hS hml hr hlocks hl
  have K : kx E p m c cL_inOthers "HayThievesLaw" ([.ref (gA E 2 10 0), .int (nI k), .int (nI a)] : List Value).toArray s := K
  obtain ⟨hG, -, hAO⟩ := hP
  have hx := K.1
  have hb := K.2.1
  have loop : ∀ (r i : Nat) (H : Heap) (locs : List Loc) (cells slots : Nat) (ls : Array Slot), i + r = a → cells + 2 * r ≤ 12 → slots + 12 * r ≤ 72 → LV E F J D I O H → va_S (gH E) s.heap H locs → lv_has ls 4 [(3, .int (nI i)), (0, .ref (gA E 2 10 0)), (1, .int (nI k)), (2, .int (nI a))] →
      W p l e (rmc 8 12 72 125) s m ([.ref (gA E 2 10 0), .int (nI k), .int (nI a)] : List Value).toArray below meth c H locs cells slots (MQ below (nQo E F J D I O) ([.ref (gA E 2 10 0), .int (nI k), .int (nI a)] : List Value).toArray s 12 72 (gH E)) (F0 m 2 ls []) := by
    intro r
    induction r with
    | zero =>
      intro i H locs cells slots ls hi hc hs hG hS hl
      refine lv_iload_n hx hb dL_inOthers_2 rfl (lv_at hl 0 rfl) ?_
      refine lv_iload_n hx hb dL_inOthers_3 rfl (lv_at hl 3 rfl) ?_
      refine lv_icmp_ge (tgt := 29) hx hb dL_inOthers_4 (by decide) (fun _ => ?_) (fun h => absurd (nI_le (show a ≤ i by omega) (by omega)) h)
      refine lv_iconst (v := 0) hx hb dL_inOthers_29 (by decide) ?_
      exact W.widen (k := 12) (n := 72) (by omega) (by omega) (W.zret hx hb hr (by show Value.int (vp_nar .boolean 0) = _; rfl) (fun t ht hW => ⟨⟨0, (), rfl, rfl, by show LV E F J D I O t.heap; rw [ht]; exact hG⟩, hS.F ht⟩) hS.2.2 dL_inOthers_30 hlocks)
    | succ r ih =>
      intro i H locs cells slots ls hi hc hs hG hS hl
      refine lv_iload_n hx hb dL_inOthers_2 rfl (lv_at hl 0 rfl) ?_
      refine lv_iload_n hx hb dL_inOthers_3 rfl (lv_at hl 3 rfl) ?_
      refine lv_icmp_ge (tgt := 29) hx hb dL_inOthers_4 (by decide) (fun h => absurd h (nI_ge (by omega) (by omega))) (fun _ => ?_)
      refine lv_iload_n hx hb dL_inOthers_7 rfl (lv_at hl 0 rfl) ?_
      refine lv_iload_n hx hb dL_inOthers_8 rfl (lv_at hl 2 rfl) ?_
      have next : ∀ (H : Heap) (locs : List Loc) (cells1 slots1 : Nat), cells1 ≤ cells + 2 → slots1 ≤ slots + 12 → LV E F J D I O H → va_S (gH E) s.heap H locs → W p l e (rmc 8 12 72 125) s m ([.ref (gA E 2 10 0), .int (nI k), .int (nI a)] : List Value).toArray below meth c H locs cells1 slots1 (MQ below (nQo E F J D I O) ([.ref (gA E 2 10 0), .int (nI k), .int (nI a)] : List Value).toArray s 12 72 (gH E)) (F0 m 23 ls []) := by
        intro H locs cells1 slots1 h1 h2 hG hS
        refine lv_iinc (v := nI (i + 1)) (lv' := [(3, .int (nI (i + 1))), (0, .ref (gA E 2 10 0)), (1, .int (nI k)), (2, .int (nI a))]) hx hb dL_inOthers_23 hl (k := 0) rfl (nI_add i 1) (by decide) rfl (fun ls hl => ?_)
        refine lv_goto (tgt := 2) hx hb dL_inOthers_26 (by decide) ?_
        exact ih (i + 1) H locs _ _ ls (by omega) (by omega) (by omega) hG hS hl
      refine lv_icmp_eq (tgt := 23) hx hb dL_inOthers_9 (by decide) (fun _ => next H locs cells slots (by omega) (by omega) hG hS) (fun h => ?_)
      have ne : i ≠ k := fun z => h (by rw [z])
      refine lv_aload_n hx hb dL_inOthers_12 rfl (lv_at hl 1 rfl) ?_
      refine lv_iload_n hx hb dL_inOthers_13 rfl (lv_at hl 0 rfl) ?_
      refine lv_iconst (v := 2) hx hb dL_inOthers_14 (by decide) ?_
      obtain ⟨x0, xv⟩ := zA_lad' (x := 2) 2 ha (show i < a by omega) a6 rfl (by decide)
      refine v_kn hG (l_runVX (As := [.int (nI i), .int 2]) (rest := []) K hml ca_X4_lad q186 (m_X4_lad l E J I (nI i) 2 hw0 hfl) hG.1.1 hS rfl rfl hl.1 (Nat.le_of_ble_eq_true rfl) ⟨by decide, by decide⟩ dL_inOthers_15 ⟨by show cells + 2 ≤ 12; omega, by show slots + 6 * 2 ≤ 72; omega⟩) hS rfl x0 (fun H locs hG hS => ?_)
      rw [xv, he i (by omega) ne]
      exact lv_if_le (tgt := 23) hx hb dL_inOthers_18 (by decide) (fun _ => next H locs _ _ (by omega) (by omega) hG hS) (fun h => absurd (by decide) h)
  refine lv_iconst (v := 0) hx hb dL_inOthers_0 (by decide) ?_
  refine lv_istore_n (lv' := [(3, .int 0), (0, .ref (gA E 2 10 0)), (1, .int (nI k)), (2, .int (nI a))]) hx hb dL_inOthers_1 rfl hl (by decide) rfl (fun ls hl => ?_)
  exact loop a 0 s.heap [] 0 0 ls (by omega) (by omega) (by omega) hG hS hl
/-- what holds all along the law -/
def gX (p : Program) (l : Launch) (s : State) (m : MethodId) (meth : Method) (c : Code) (E : gE) (b L : Nat) (xs : Nat → Int32) : Prop :=
  kx E p m c cL_law "HayThievesLaw" #[Value.ref b] s ∧ va_AOA s ∧ c.maxLocals = 27 ∧ meth.sig.returnType = ret ∧ meth.locks = false ∧ l.stackTraces = false ∧ va_X b L xs s s.heap ∧ b < s.heap.size ∧ b < gN E ∧ L ≤ 260
section NO
variable {p : Program} {l : Launch} {e : Env} {R : Room} {s : State} {m : MethodId} {args : Array Value} {below : List Frame} {meth : Method} {c : Code} {H : Heap} {locs : List Loc} {cells slots : Nat} {Q : State → Prop}
variable {cc : ByteArray} {pc : Nat} {ls : Array Slot} {rest : List Value} {E : gE} {F : Nat → Prop} {J : Int64} {D : sD} {I : gI} {O : List oR}
theorem n_in (K : kx E p m c cc "HayThievesLaw" args s) (hAO : va_AOA s) {nL : Nat} (hml : c.maxLocals = nL) (hG : LV E F J D I O H) (hS : va_S (gH E) s.heap H locs) {k a : Nat} (hw0 : wf (I 0)) (ha : I 0 0 0 4 = nI a) (a6 : a ≤ 6) (hk : k < a) (he : ∀ o, o < a → o ≠ k → f_X1_tell I 0 o 2 = 0) (hfl : l.stackTraces = false) (hsize : ls.size = nL) (hW : (rest.map fun v => v.category).sum ≤ 8) (hR : 9 ≤ R.frames ∧ 148 ≤ R.locals) (hdg : decode cc pc = .ok (.invokestatic 93, 3)) (hf : cells + 12 ≤ R.cells ∧ slots + 72 ≤ R.slots)
    (kk : ∀ (H1 : Heap) (locs1 : List Loc), LV E F J D I O H1 → va_S (gH E) s.heap H1 locs1 → W p l e R s m args below meth c H1 locs1 (cells + 12) (slots + 72) Q (F0 m (pc + 3) ls (.int 0 :: rest))) : W p l e R s m args below meth c H locs cells slots Q (F0 m pc ls (.int (nI a) :: .int (nI k) :: .ref (gA E 2 10 0) :: rest)) := by
  refine va_calli (n_runS (As := [.ref (gA E 2 10 0), .int (nI k), .int (nI a)]) (rest := rest) K hml ca_L_inOthers q700 (m_L_inOthers l E F J D I O k a hw0 ha a6 hk he hfl) (fun a9 U g mk q => ⟨q.1, q.2.1, q.2.2.blind g mk a9⟩) (fun U hU hW => ⟨by rw [hU]; exact hG, s_pre K hAO gH_ge hS hU hW⟩) rfl hsize hW ⟨hR.1, by omega⟩ hdg hf) hS (fun q _ h => h) (fun q h => h) (fun r u t H1 locs1 ht hvm hw hB hz hk hS1 => ?_)
  have hw : r = 0 := hw
  subst hw
  have hB : LV E F J D I O t.heap := hB
  exact kk H1 locs1 (by rw [← ht]; exact hB) hS1
end NO
