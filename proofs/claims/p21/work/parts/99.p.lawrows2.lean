/-! ROWS OF THE LAW'S OWN METHODS, more: entries and calls over any picture of the start; rows of ints of the law's own beside the Sim's -/
abbrev oR : Type := Nat × Nat × (Nat → Int32)
def oA (E : gE) (F : Nat → Prop) (H : Heap) (x : oR) : Prop := H[x.1]? = some (arrV (E.2.1 0) x.2.1 (fun j => .int (x.2.2 j))) ∧ ¬ F x.1 ∧ ¬ gF E x.1 ∧ gN E ≤ x.1
def LV (E : gE) (F : Nat → Prop) (J : Int64) (D : sD) (I : gI) (O : List oR) (H : Heap) : Prop := LW E F J D I H ∧ (∀ x ∈ O, oA E F H x) ∧ O.Pairwise (fun x y => x.1 ≠ y.1)
theorem oA.lt {E : gE} {F : Nat → Prop} {H : Heap} {x : oR} (h : oA E F H x) : x.1 < H.size := (Array.getElem?_eq_some_iff.mp h.1).1
theorem LV.of {E : gE} {F : Nat → Prop} {J : Int64} {D : sD} {I : gI} {H : Heap} (h : LW E F J D I H) : LV E F J D I [] H := ⟨h, fun _ q => absurd q List.not_mem_nil, List.Pairwise.nil⟩
theorem LV.step {E : gE} {F : Nat → Prop} {J : Int64} {D D' : sD} {I I' : gI} {O : List oR} {H H1 : Heap} (h : LV E F J D I O H) (h1 : LW E F J D' I' H1) (hq : ∀ q, q < H.size → ¬ F q → ¬ gF E q → H1[q]? = H[q]?) : LV E F J D' I' O H1 :=
  ⟨h1, fun x hx => by
    obtain ⟨a, b, c, d⟩ := h.2.1 x hx
    exact ⟨(hq _ (h.2.1 x hx).lt b c).trans a, b, c, d⟩, h.2.2⟩
/-- a wider part of the heap is the Sim's -/
theorem LW.wide {E : gE} {F F' : Nat → Prop} {J : Int64} {D : sD} {I : gI} {H : Heap} (h : LW E F J D I H) (hF : ∀ q, F q → F' q) (hg : ∀ q, F' q → ¬ gF E q) : LW E F' J D I H :=
  ⟨h.1, ⟨h.2.1.1, h.2.1.2.1, fun t i hv => hF _ (h.2.1.2.2.1 t i hv), fun q hq => hF _ (h.2.1.2.2.2.1 q hq), h.2.1.2.2.2.2⟩, hg⟩
section NE
variable {p : Program} {l : Launch} {e : Env} {R : Room} {s : State} {m : MethodId} {args : Array Value} {below : List Frame} {meth : Method} {c : Code} {H : Heap} {locs : List Loc} {cells slots : Nat} {Q : State → Prop}
variable {cc : ByteArray} {pc : Nat} {ls : Array Slot} {rest st0 : List Value} {E : gE} {F : Nat → Prop} {J : Int64} {D : sD} {I : gI} {own : String} {H0 : Heap} {a : Array Value} {O : List oR}
theorem n_entry {y : MethodName} {b : ByteArray} {n f k sl L : Nat} {r : Option FieldType} {av : List Value} {lv : List (Nat × Value)} {PU : State → Prop} {Qc : Array Value → State → Outcome → State → Prop} {A : Nat → Prop} (hy : plainName y.cls = true) (hlen : (lg_sl av).length ≤ n) (hlv : lv_args 0 av = lv) (hg : ∀ U, PU U → gS E U)
    (body : ∀ (p : Program) (e : Env) (s : State) (m : MethodId) (below : List Frame) (meth : Method) (c : Code) (ls : Array Slot), kx E p m c b y.cls av.toArray s → PU s → va_S A s.heap s.heap [] → c.maxLocals = n → meth.sig.returnType = r → meth.locks = false → lv_has ls n lv →
      W p l e (rmc f k sl L) s m av.toArray below meth c s.heap [] 0 0 (MQ below Qc av.toArray s k sl A) (F0 m 0 ls [])) : Met l y (gws y b n r) (rmc f k sl L) (va_Pc av PU) Qc k sl A := by
  refine Met.ofW (cc := b) (maxL := n) (ret := r) hy rfl ?_
  intro p e s m args below meth c s₁ B hml hv
  obtain ⟨rfl, hP⟩ := hv
  have hts0 := atoms_spec (ws := gws y b n r) B.pre
  have hl := lv_entry av hlen
  rw [lg_entry_eq]
  rw [hlv] at hl
  exact body p e s m below meth c _ ⟨B.exec, B.bytes, fun w hw => hts0 w (List.mem_cons_of_mem _ hw), findClass_of_methodNamed B.named, hg _ hP⟩ hP va_S.rf hml B.returns B.notSynchronized hl
def nwsH (y : MethodName) (b : ByteArray) (n : Nat) (r : Option FieldType) (hh : List (Nat × Nat × Nat × Nat)) : List Cond := Cond.codeWith y b n r hh :: lw_all
theorem nwsH_good {y : MethodName} {b : ByteArray} {n : Nat} {r : Option FieldType} {hh : List (Nat × Nat × Nat × Nat)} (h : Cond.codeWith y b n r hh ∈ lw_all) : GoodIn lw_all (nwsH y b n r hh) := fun w hw => by
  rcases List.mem_cons.mp hw with rfl | hw
  · exact ⟨h, good_of_word (lw_all_good _ h)⟩
  · exact ⟨hw, good_of_word (lw_all_good _ hw)⟩
theorem n_entryH {y : MethodName} {b : ByteArray} {n f k sl L : Nat} {r : Option FieldType} {hh : List (Nat × Nat × Nat × Nat)} {av : List Value} {lv : List (Nat × Value)} {PU : State → Prop} {Qc : Array Value → State → Outcome → State → Prop} {A : Nat → Prop} (hy : plainName y.cls = true) (hlen : (lg_sl av).length ≤ n) (hlv : lv_args 0 av = lv) (hg : ∀ U, PU U → gS E U)
    (body : ∀ (p : Program) (e : Env) (s : State) (m : MethodId) (below : List Frame) (meth : Method) (c : Code) (ls : Array Slot), kx E p m c b y.cls av.toArray s → PU s → va_S A s.heap s.heap [] → c.maxLocals = n → meth.sig.returnType = r → meth.locks = false → c.exceptionTable.toList = tableOf hh → lv_has ls n lv →
      W p l e (rmc f k sl L) s m av.toArray below meth c s.heap [] 0 0 (MQ below Qc av.toArray s k sl A) (F0 m 0 ls [])) : Met l y (nwsH y b n r hh) (rmc f k sl L) (va_Pc av PU) Qc k sl A := by
  refine va_MetW (cc := b) (maxL := n) (ret := r) (hh := hh) hy rfl ?_
  intro p e s m args below meth c s₁ B hml hv
  obtain ⟨rfl, hP⟩ := hv
  have hts0 := atoms_spec (ws := nwsH y b n r hh) B.pre
  have htb := vx_table (x := y) B (hts0 _ List.mem_cons_self)
  have hl := lv_entry av hlen
  rw [lg_entry_eq]
  rw [hlv] at hl
  exact body p e s m below meth c _ ⟨B.exec, B.bytes, fun w hw => hts0 w (List.mem_cons_of_mem _ hw), findClass_of_methodNamed B.named, hg _ hP⟩ hP va_S.rf hml B.returns B.notSynchronized htb hl
/-- static calls -/
theorem n_runS {y : MethodName} {b : ByteArray} {n nL na f k sl L index : Nat} {r : Option FieldType} {Qc : Array Value → State → Outcome → State → Prop} {As : List Value} {PU : State → Prop} {A : Nat → Prop} (K : kx E p m c cc own args s) (hml : c.maxLocals = nL) (hcal : gcaS y b n r na) (hlink : Cond.methodLink own index y ∈ lw_all) (hM : Met l y (gws y b n r) (rmc f k sl L) (va_Pc As PU) Qc k sl A)
    (hbl : FrameBlind (va_Pc As PU)) (hP : ∀ U : State, U.heap = H → s.WarmedH U.vm → PU U) (hn : As.length = na) (hsize : ls.size = nL) (hW : (rest.map fun v => v.category).sum ≤ 8) (hR : f + 1 ≤ R.frames ∧ 8 + (n + 11) + L ≤ R.locals) (hdg : decode cc pc = .ok (.invokestatic index, 3)) (hf : cells + k ≤ R.cells ∧ slots + sl ≤ R.slots) :
    va_Run p l e R s m args below meth c H locs cells slots k sl (F0 m pc ls (As.reverse ++ rest)) rest (Qc As.toArray) A := by
  obtain ⟨hx, hb, hts, hown, hSt⟩ := id K
  obtain ⟨c1, c2, c3, c5⟩ := hcal
  have cw : CallB R s args own index y b n r (gws y b n r) (rmc f k sl L) k sl na ∧ (Cond.static y).before args s = true := ⟨callB_of na hts (gws_good c1) rfl rfl rfl (hts _ c2) (hts _ hlink) c5 hR, hts _ c3⟩
  exact va_runS (As := As) (rest := rest) ⟨hx, hb, hml, hown, hts⟩ hM cw ⟨hbl, fun U hU hW => ⟨rfl, hP U hU hW⟩⟩ rfl hn hsize rfl (by show 2 * 0 + _ ≤ 8; omega) hdg hf
def ncaH (y : MethodName) (b : ByteArray) (n : Nat) (r : Option FieldType) (hh : List (Nat × Nat × Nat × Nat)) (na : Nat) : Prop := Cond.codeWith y b n r hh ∈ lw_all ∧ Cond.initialized y.cls ∈ lw_all ∧ Cond.static y ∈ lw_all ∧ (y.cls ≠ "java/lang/invoke/MethodHandle" ∧ y.cls ≠ "java/lang/invoke/VarHandle" ∧ (parseMethodDescriptor y.desc).map (fun d => d.parameters.length) = some na)
theorem n_runSH {y : MethodName} {b : ByteArray} {n nL na f k sl L index : Nat} {r : Option FieldType} {hh : List (Nat × Nat × Nat × Nat)} {Qc : Array Value → State → Outcome → State → Prop} {As : List Value} {PU : State → Prop} {A : Nat → Prop} (K : kx E p m c cc own args s) (hml : c.maxLocals = nL) (hcal : ncaH y b n r hh na) (hlink : Cond.methodLink own index y ∈ lw_all) (hM : Met l y (nwsH y b n r hh) (rmc f k sl L) (va_Pc As PU) Qc k sl A)
    (hbl : FrameBlind (va_Pc As PU)) (hP : ∀ U : State, U.heap = H → s.WarmedH U.vm → PU U) (hn : As.length = na) (hsize : ls.size = nL) (hW : (rest.map fun v => v.category).sum ≤ 8) (hR : f + 1 ≤ R.frames ∧ 8 + (n + 11) + L ≤ R.locals) (hdg : decode cc pc = .ok (.invokestatic index, 3)) (hf : cells + k ≤ R.cells ∧ slots + sl ≤ R.slots) :
    va_Run p l e R s m args below meth c H locs cells slots k sl (F0 m pc ls (As.reverse ++ rest)) rest (Qc As.toArray) A := by
  obtain ⟨hx, hb, hts, hown, hSt⟩ := id K
  obtain ⟨c1, c2, c3, c5⟩ := hcal
  have cw : vx_CSW R s args own index y b n r hh (nwsH y b n r hh) (rmc f k sl L) k sl na := ⟨⟨rfl, rfl, hR.1, hR.2, pay_in hts (nwsH_good c1), List.mem_cons_self⟩, hts _ c1, hts _ c2, ⟨c5.1, c5.2.1⟩, (fun sig h => by
    have h2 := c5.2.2
    rw [h] at h2
    exact (Option.some.inj h2).symm), hts _ hlink, hts _ c3⟩
  exact vx_runSW (As := As) (rest := rest) ⟨hx, hb, hml, hown, hts⟩ hM cw ⟨hbl, fun U hU hW => ⟨rfl, hP U hU hW⟩⟩ rfl hn hsize rfl (by show 2 * 0 + _ ≤ 8; omega) hdg hf
theorem gH_ge : ∀ q, gH E q → gN E ≤ q := fun _ h => h
/-- a new row -/
theorem v_newi (K : kx E p m c cc own args s) (hA : ∀ q, F q → gN E ≤ q) (hG : LV E F J D I O H) (hS0 : va_S (gH E) H0 H locs) {n : Int32} {N : Nat} (hn : n = nI N) (hN : N ≤ 330) (hcells : cells + 1 ≤ R.cells) (hslots : slots + N ≤ R.slots) (hdg : decode cc pc = .ok (.newarray .int, 2))
    (kk : ∀ (a : Nat) (H1 : Heap), LV E (fun q => F q ∧ q ≠ a) J D I ((a, N, fun _ => 0) :: O) H1 → va_S (gH E) H0 H1 locs → W p l e R s m args below meth c H1 locs (cells + 1) (slots + N) Q (F0 m (pc + 2) ls (.ref a :: rest))) : W p l e R s m args below meth c H locs cells slots Q (F0 m pc ls (.int n :: rest)) := by
  have hSt := K.2.2.2.2
  subst hn
  refine va_newaK (atype := .int) K.1 K.2.1 (K.2.2.1 _ q54) rfl hdg rfl (nI_pos (by omega)) (nI_clamp (by omega)) (by show N * 4 ≤ 536870912; omega) hcells hslots rfl fun H1 cA e1 z1 o1 hAr hNm => ?_
  obtain rfl : cA = E.2.1 0 := Option.some.inj (hNm.symm.trans hSt.int)
  obtain ⟨hL, hO, hP⟩ := hG
  have hF : F H.size := hL.2.1.2.2.2.1 _ (Nat.le_refl _)
  have hSW : SW E F D (I 5) H1 := hL.2.1.keep (by omega) (fun q hq _ => o1 q hq)
  have hGW : GW E J I H1 := hL.1.keep hSt.ok (fun _ _ => rfl) (fun q hq => by
    by_cases h : q < H.size
    · exact o1 q h
    · exact absurd hq (hL.2.2 q (hL.2.1.2.2.2.1 q (by omega))))
  have hD : ∀ t i, swv (I 5) t i → D t i ≠ H.size := fun t i hv => Nat.ne_of_lt (hL.2.1.lt hv)
  have hL1 : LW E (fun q => F q ∧ q ≠ H.size) J D I H1 := ⟨hGW, ⟨hSW.1, hSW.2.1, fun t i hv => ⟨hSW.2.2.1 t i hv, hD t i hv⟩, fun q hq => ⟨hSW.2.2.2.1 q hq, by omega⟩, hSW.2.2.2.2⟩, fun q hq => hL.2.2 q hq.1⟩
  refine kk H.size H1 ⟨hL1, fun x hx => ?_, List.Pairwise.cons (fun x hx => Nat.ne_of_gt (hO x hx).lt) hP⟩ (va_S.grow hS0 z1 o1)
  rcases List.mem_cons.mp hx with rfl | hx
  · exact ⟨e1, fun q => q.2 rfl, hL.2.2 _ hF, hA _ hF⟩
  · obtain ⟨a1, a2, a3, a4⟩ := hO x hx
    exact ⟨(o1 _ (hO x hx).lt).trans a1, fun q => a2 q.1, a3, a4⟩
/-- into the newest row -/
theorem v_iast (K : kx E p m c cc own args s) {a N : Nat} {f : Nat → Int32} (hG : LV E F J D I ((a, N, f) :: O) H) (hS0 : va_S (gH E) H0 H locs) {k x : Int32} (hin : vp_in k N) (hdg : decode cc pc = .ok (.iastore, 1))
    (kk : ∀ (H1 : Heap) (locs1 : List Loc), LV E F J D I ((a, N, fun j => if j = k.toNatClampNeg then x else f j) :: O) H1 → va_S (gH E) H0 H1 locs1 → W p l e R s m args below meth c H1 locs1 cells slots Q (F0 m (pc + 1) ls rest)) : W p l e R s m args below meth c H locs cells slots Q (F0 m pc ls (.int x :: .int k :: .ref a :: rest)) := by
  obtain ⟨hL, hO, hP⟩ := hG
  obtain ⟨a1, a2, a3, a4⟩ := hO _ List.mem_cons_self
  refine W.iast K.1 K.2.1 a1 (gtys_at K.2.2.2.2 (k := 0) rfl _ _) (fun q => by cases q) (by show ¬ (k < 0 ∨ (arrV _ _ _).slots.size ≤ _); rw [arrV_size]; exact hin) rfl rfl hdg fun H1 e1 z oq => ?_
  have hGW : GW E J I H1 := hL.1.keep K.2.2.2.2.ok (fun _ _ => rfl) (fun q hq => oq q (fun z => a3 (by rw [← z]; exact hq)))
  have hSW : SW E F D (I 5) H1 := hL.2.1.keep (by omega) (fun q _ hq => oq q (fun z => a2 (by rw [← z]; exact hq)))
  refine kk H1 _ ⟨⟨hGW, hSW, hL.2.2⟩, fun x' hx => ?_, ?_⟩ (hS0.put z oq a4)
  · rcases List.mem_cons.mp hx with rfl | hx
    · refine ⟨?_, a2, a3, a4⟩
      show H1[a]? = _
      rw [e1, arrV_store]
      congr 2
      funext j
      unfold updV
      by_cases hj : j = k.toNatClampNeg
      · simp [hj]
      · simp [hj]
    · obtain ⟨b1, b2, b3, b4⟩ := hO x' (List.mem_cons_of_mem _ hx)
      exact ⟨(oq _ (fun z => (List.pairwise_cons.mp hP).1 x' hx z.symm)).trans b1, b2, b3, b4⟩
  · exact List.Pairwise.cons (fun x' hx => (List.pairwise_cons.mp hP).1 x' hx) (List.pairwise_cons.mp hP).2
theorem v_iald (K : kx E p m c cc own args s) {x : oR} (hG : LV E F J D I O H) (hx : x ∈ O) {k : Int32} (hin : vp_in k x.2.1) (hdg : decode cc pc = .ok (.iaload, 1))
    (kk : W p l e R s m args below meth c H locs cells slots Q (F0 m (pc + 1) ls (.int (x.2.2 k.toNatClampNeg) :: rest))) : W p l e R s m args below meth c H locs cells slots Q (F0 m pc ls (.int k :: .ref x.1 :: rest)) := by
  have hlt : k.toNatClampNeg < x.2.1 := Nat.not_le.mp fun q => hin (Or.inr q)
  exact W.iald (v := .int (x.2.2 k.toNatClampNeg)) K.1 K.2.1 (hG.2.1 x hx).1 (gtys_at K.2.2.2.2 (k := 0) rfl _ _) (fun q => by cases q) (by show ¬ (k < 0 ∨ (arrV _ _ _).slots.size ≤ _); rw [arrV_size]; exact hin) (by show (arrV _ _ _).slots[_]? = _; rw [arrV_read _ _ hlt]) rfl rfl hdg kk
/-- behind a call of the class's -/
theorem v_ki {v : Int32} {I' : gI} (hL : LV E F J D I O H) (hr : va_Run p l e R s m args below meth c H locs cells slots 0 0 (F0 m pc ls st0) rest (va_Qi (fun x (_ : Unit) => x = v) (fun _ t => GW E J I' t.heap) (gF E) a) (gF E)) (hS : va_S (gH E) s.heap H locs) (h5 : I' 5 = I 5)
    (kk : ∀ (H1 : Heap) (locs1 : List Loc), LV E F J D I' O H1 → va_S (gH E) s.heap H1 locs1 → W p l e R s m args below meth c H1 locs1 cells slots Q (F0 m (pc + 3) ls (.int v :: rest))) : W p l e R s m args below meth c H locs cells slots Q (F0 m pc ls st0) :=
  va_calli hr hS (fun q _ h => gFH h) (fun q h => gFH h) (fun r u t H1 locs1 ht hvm hw hB hz hk hS1 => by
    subst hw
    have hB : GW E J I' t.heap := hB
    exact kk H1 locs1 (hL.step (hL.1.cls (by rw [← ht]; exact hB) h5 hz hk) (fun q h1 _ h2 => hk q h1 h2)) hS1)
theorem v_kl {v : Int64} {I' : gI} (hL : LV E F J D I O H) (hr : va_Run p l e R s m args below meth c H locs cells slots 0 0 (F0 m pc ls st0) rest (va_Ql (fun x (_ : Unit) => x = v) (fun _ t => GW E J I' t.heap) (gF E) a) (gF E)) (hS : va_S (gH E) s.heap H locs) (h5 : I' 5 = I 5)
    (kk : ∀ (H1 : Heap) (locs1 : List Loc), LV E F J D I' O H1 → va_S (gH E) s.heap H1 locs1 → W p l e R s m args below meth c H1 locs1 cells slots Q (F0 m (pc + 3) ls (.long v :: rest))) : W p l e R s m args below meth c H locs cells slots Q (F0 m pc ls st0) :=
  va_calll hr hS (fun q _ h => gFH h) (fun q h => gFH h) (fun r u t H1 locs1 ht hvm hw hB hz hk hS1 => by
    subst hw
    have hB : GW E J I' t.heap := hB
    exact kk H1 locs1 (hL.step (hL.1.cls (by rw [← ht]; exact hB) h5 hz hk) (fun q h1 _ h2 => hk q h1 h2)) hS1)
theorem v_kd {v : UInt64} {I' : gI} (hL : LV E F J D I O H) (hr : va_Run p l e R s m args below meth c H locs cells slots 0 0 (F0 m pc ls st0) rest (va_Qd (fun x (_ : Unit) => x = v) (fun _ t => GW E J I' t.heap) (gF E) a) (gF E)) (hS : va_S (gH E) s.heap H locs) (h5 : I' 5 = I 5)
    (kk : ∀ (H1 : Heap) (locs1 : List Loc), LV E F J D I' O H1 → va_S (gH E) s.heap H1 locs1 → W p l e R s m args below meth c H1 locs1 cells slots Q (F0 m (pc + 3) ls (.double v :: rest))) : W p l e R s m args below meth c H locs cells slots Q (F0 m pc ls st0) :=
  va_calld hr hS (fun q _ h => gFH h) (fun q h => gFH h) (fun r u t H1 locs1 ht hvm hw hB hz hk hS1 => by
    subst hw
    have hB : GW E J I' t.heap := hB
    exact kk H1 locs1 (hL.step (hL.1.cls (by rw [← ht]; exact hB) h5 hz hk) (fun q h1 _ h2 => hk q h1 h2)) hS1)
/-- .. that doesn't throw here -/
theorem v_kn {v : Int32} {ex k : Nat} {I' : gI} (hL : LV E F J D I O H) (hr : vx_Run p l e R s m args below meth c H locs cells slots k (6 * k) (F0 m pc ls st0) rest (va_Qi (fun z (_ : Unit) => ex = 0 ∧ z = v) (fun _ t => GW E J I' t.heap) (gF E) a) (gXC E J I ex) (gF E)) (hS : va_S (gH E) s.heap H locs) (h5 : I' 5 = I 5) (h0 : ex = 0)
    (kk : ∀ (H1 : Heap) (locs1 : List Loc), LV E F J D I' O H1 → va_S (gH E) s.heap H1 locs1 → W p l e R s m args below meth c H1 locs1 (cells + k) (slots + 6 * k) Q (F0 m (pc + 3) ls (.int v :: rest))) : W p l e R s m args below meth c H locs cells slots Q (F0 m pc ls st0) :=
  vx_calli hr hS (fun q _ h => gFH h) (fun q h => gFH h) (fun q _ h => gFH h) (fun E9 ce q9 u t H1 locs1 ht hvm hp hB hz hk hS1 hce hcv hcl => absurd h0 hp)
    (fun r u t H1 locs1 ht hvm hw hB hz hk hS1 => by
      obtain ⟨h1, h2⟩ := hw
      subst h2
      have hB : GW E J I' t.heap := hB
      exact kk H1 locs1 (hL.step (hL.1.cls (by rw [← ht]; exact hB) h5 hz hk) (fun q h1 _ h2 => hk q h1 h2)) hS1)
/-- behind a call of the Sim's -/
theorem v_siv {v : Int32} {I' : gI} {k sl : Nat} (hA : ∀ q, F q → gN E ≤ q) (hL : LV E F J D I O H) (hr : va_Run p l e R s m args below meth c H locs cells slots k sl (F0 m pc ls st0) rest (sQiv E F J D I v I' a) F) (hS : va_S (gH E) s.heap H locs)
    (kk : ∀ D1 : sD, sKD D D1 (cnt (I 5) 9) → ∀ (H1 : Heap) (locs1 : List Loc), LV E F J D1 I' O H1 → va_S (gH E) s.heap H1 locs1 → W p l e R s m args below meth c H1 locs1 (cells + k) (slots + sl) Q (F0 m (pc + 3) ls (.int v :: rest))) : W p l e R s m args below meth c H locs cells slots Q (F0 m pc ls st0) :=
  va_calli hr hS (fun q _ h => hA q h) (fun q h => hA q h) (fun r u t H1 locs1 ht hvm hw hB hz hk hS1 => by
    subst hw
    obtain ⟨D1, hD1, hLW⟩ := hB
    exact kk D1 hD1 H1 locs1 (hL.step (by rw [← ht]; exact hLW) (fun q h1 h2 _ => hk q h1 h2)) hS1)
theorem v_si {v : Int32} {k sl : Nat} (hA : ∀ q, F q → gN E ≤ q) (hL : LV E F J D I O H) (hr : va_Run p l e R s m args below meth c H locs cells slots k sl (F0 m pc ls st0) rest (sQi E F J D I v a) F) (hS : va_S (gH E) s.heap H locs)
    (kk : ∀ (H1 : Heap) (locs1 : List Loc), LV E F J D I O H1 → va_S (gH E) s.heap H1 locs1 → W p l e R s m args below meth c H1 locs1 (cells + k) (slots + sl) Q (F0 m (pc + 3) ls (.int v :: rest))) : W p l e R s m args below meth c H locs cells slots Q (F0 m pc ls st0) :=
  va_calli hr hS (fun q _ h => hA q h) (fun q h => hA q h) (fun r u t H1 locs1 ht hvm hw hB hz hk hS1 => by
    subst hw
    have hB : LW E F J D I t.heap := hB
    exact kk H1 locs1 (hL.step (by rw [← ht]; exact hB) (fun q h1 h2 _ => hk q h1 h2)) hS1)
end NE
/-! below, cell -/
def nQb (N : Nat) (H0 : Heap) (A : Nat → Prop) : Array Value → State → Outcome → State → Prop := va_Qi (fun v (_ : Unit) => ∃ q, q < N ∧ v = nI q) (fun _ t => t.heap = H0) A
theorem m_L_below (l : Launch) (E : gE) (H0 : Heap) (x : Int32) (N : Nat) (h0 : 0 < N) (hN : N < 2 ^ 31) : Met l yL_below (gws yL_below cL_below 2 (some .int)) (rmc 0 0 0 0) (va_Pc [.int x, .int (nI N)] (fun U => U.heap = H0 ∧ sK E U)) (nQb N H0 (gH E)) 0 0 (gH E) := by
  refine n_entry (E := E) (lv := [(0, .int x), (1, .int (nI N))]) (by decide) (Nat.le_of_ble_eq_true rfl) rfl (fun U h => h.2.1) ?_
  intro p e s m below meth c0 ls K hP hS hml hr hlocks hl
  have K : kx E p m c0 cL_below "HayThievesLaw" _ s := K
  have hx := K.1
  have hb := K.2.1
  have hts := K.2.2.1
  have hown := K.2.2.2.1
  refine lv_iload_n hx hb dL_below_0 rfl (lv_at hl 0 rfl) ?_
  refine lv_ldc hx hb hown (hts _ q581) dL_below_1 ?_
  refine lv_iand hx hb dL_below_3 ?_
  obtain ⟨j, hj, ej⟩ := pk_andE x (m := 2147483647) 31 (by decide)
  rw [ej]
  refine lv_iload_n hx hb dL_below_4 rfl (lv_at hl 1 rfl) ?_
  refine lv_irem hx hb dL_below_5 (nI_ne0 h0 hN) ?_
  rw [pk_rem (by omega) h0 hN]
  exact W.iret hx hb hr (fun t ht hW => ⟨⟨_, (), rfl, ⟨j % N, Nat.mod_lt _ h0, rfl⟩, by show t.heap = H0; rw [ht]; exact hP.1⟩, hS.F ht⟩) hS.2.2 dL_below_6 hlocks
def nQc (H0 : Heap) (A : Nat → Prop) : Array Value → State → Outcome → State → Prop := va_Qi (fun _ (_ : Unit) => True) (fun _ t => t.heap = H0) A
theorem m_L_cell (l : Launch) (E : gE) (H0 : Heap) (b L k : Nat) (xs : Nat → Int32) (hk : k < 2 ^ 30) (hL : L < 2 ^ 30) (hbE : b < gN E) : Met l yL_cell (gws yL_cell cL_cell 2 (some .int)) (rmc 0 0 0 0) (va_Pc [.ref b, .int (nI k)] (fun U => U.heap = H0 ∧ sK E U ∧ va_X b L xs U U.heap)) (nQc H0 (gH E)) 0 0 (gH E) := by
  refine n_entry (E := E) (lv := [(0, .ref b), (1, .int (nI k))]) (by decide) (Nat.le_of_ble_eq_true rfl) rfl (fun U h => h.2.1.1) ?_
  intro p e s m below meth c0 ls K hP hS hml hr hlocks hl
  have K : kx E p m c0 cL_cell "HayThievesLaw" _ s := K
  have hx := K.1
  have hb := K.2.1
  have hts := K.2.2.1
  have hown := K.2.2.2.1
  obtain ⟨e0, -, hX⟩ := hP
  have hbl : b < s.heap.size := by
    obtain ⟨scr, h, -⟩ := hX
    exact (Array.getElem?_eq_some_iff.mp h).1
  have hbA : ¬ gH E b := Nat.not_le.mpr hbE
  refine lv_iload_n hx hb dL_cell_0 rfl (lv_at hl 1 rfl) ?_
  refine lv_aload_n hx hb dL_cell_1 rfl (lv_at hl 0 rfl) ?_
  refine va_slen hx hb hX hbl hbA hS dL_cell_2 ?_
  refine lv_icmp_ge (tgt := 12) hx hb dL_cell_3 (by decide) (fun _ => ?_) (fun h => ?_)
  · refine lv_ldc hx hb hown (hts _ q585) dL_cell_12 ?_
    refine lv_iload_n hx hb dL_cell_14 rfl (lv_at hl 1 rfl) ?_
    refine lv_iconst (v := 3) hx hb dL_cell_15 (by decide) ?_
    refine lv_iadd hx hb dL_cell_16 ?_
    refine lv_imul hx hb dL_cell_17 ?_
    exact W.iret hx hb hr (fun t ht hW => ⟨⟨_, (), rfl, trivial, by show t.heap = H0; rw [ht]; exact e0⟩, hS.F ht⟩) hS.2.2 dL_cell_18 hlocks
  · have hkL : k < L := Nat.not_le.mp fun q => h (nI_le q (by omega))
    refine lv_aload_n hx hb dL_cell_6 rfl (lv_at hl 0 rfl) ?_
    refine lv_iload_n hx hb dL_cell_7 rfl (lv_at hl 1 rfl) ?_
    refine va_sld hx hb hX hbl hbA hS (vp_in_nI hkL (by omega)) dL_cell_8 ?_
    refine lv_goto (tgt := 18) hx hb dL_cell_9 (by decide) ?_
    exact W.iret hx hb hr (fun t ht hW => ⟨⟨_, (), rfl, trivial, by show t.heap = H0; rw [ht]; exact e0⟩, hS.F ht⟩) hS.2.2 dL_cell_18 hlocks
section NB
variable {p : Program} {l : Launch} {e : Env} {R : Room} {s : State} {m : MethodId} {args : Array Value} {below : List Frame} {meth : Method} {c : Code} {H : Heap} {locs : List Loc} {cells slots : Nat} {Q : State → Prop}
variable {cc : ByteArray} {pc : Nat} {ls : Array Slot} {rest : List Value} {E : gE}
theorem n_below (K : kx E p m c cc "HayThievesLaw" args s) (hAO : va_AOA s) {nL : Nat} (hml : c.maxLocals = nL) (hS : va_S (gH E) s.heap H locs) {x n : Int32} {N : Nat} (hn : n = nI N) (h0 : 0 < N) (hN : N < 2 ^ 31) (hsize : ls.size = nL) (hW : (rest.map fun v => v.category).sum ≤ 8) (hR : 1 ≤ R.frames ∧ 21 ≤ R.locals) (hdg : decode cc pc = .ok (.invokestatic 15, 3)) (hf : cells ≤ R.cells ∧ slots ≤ R.slots)
    (kk : ∀ q, q < N → ∀ locs1 : List Loc, va_S (gH E) s.heap H locs1 → W p l e R s m args below meth c H locs1 cells slots Q (F0 m (pc + 3) ls (.int (nI q) :: rest))) : W p l e R s m args below meth c H locs cells slots Q (F0 m pc ls (.int n :: .int x :: rest)) := by
  subst hn
  refine va_calli (n_runS (As := [.int x, .int (nI N)]) (rest := rest) K hml ca_L_below q578 (m_L_below l E H x N h0 hN) (fun a9 U g mk q => ⟨q.1, q.2.1, q.2.2.blind g mk a9⟩) (fun U hU hW => ⟨hU, s_pre K hAO gH_ge hS hU hW⟩) rfl hsize hW ⟨by omega, by omega⟩ hdg ⟨by omega, by omega⟩) hS (fun q _ h => h) (fun q h => h) (fun r u t H1 locs1 ht hvm hw hB hz hk hS1 => ?_)
  obtain ⟨q, hq, rfl⟩ := hw
  have hB : t.heap = H := hB
  have e1 : H1 = H := ht.symm.trans hB
  subst e1
  exact kk q hq locs1 hS1
theorem n_cell (K : kx E p m c cc "HayThievesLaw" args s) (hAO : va_AOA s) {nL : Nat} (hml : c.maxLocals = nL) (hS : va_S (gH E) s.heap H locs) {b L k : Nat} {xs : Nat → Int32} (hk : k < 2 ^ 30) (hL : L < 2 ^ 30) (hbE : b < gN E) (hbl : b < s.heap.size) (hX : va_X b L xs s s.heap) {x : Int32} (hxk : x = nI k) (hsize : ls.size = nL) (hW : (rest.map fun v => v.category).sum ≤ 8) (hR : 1 ≤ R.frames ∧ 21 ≤ R.locals) (hdg : decode cc pc = .ok (.invokestatic 64, 3)) (hf : cells ≤ R.cells ∧ slots ≤ R.slots)
    (kk : ∀ (v : Int32) (locs1 : List Loc), va_S (gH E) s.heap H locs1 → W p l e R s m args below meth c H locs1 cells slots Q (F0 m (pc + 3) ls (.int v :: rest))) : W p l e R s m args below meth c H locs cells slots Q (F0 m pc ls (.int x :: .ref b :: rest)) := by
  subst hxk
  refine va_calli (n_runS (As := [.ref b, .int (nI k)]) (rest := rest) K hml ca_L_cell q582 (m_L_cell l E H b L k xs hk hL hbE) (fun a9 U g mk q => ⟨q.1, q.2.1, q.2.2.1.blind g mk a9, va_X.moved (u := U) (U := U.calling g mk a9) (Vm.Alike.refl U.vm) q.2.2.2⟩) (fun U hU hW => ⟨hU, s_pre K hAO gH_ge hS hU hW, ?_⟩) rfl hsize hW ⟨by omega, by omega⟩ hdg ⟨by omega, by omega⟩) hS (fun q _ h => h) (fun q h => h) (fun r u t H1 locs1 ht hvm hw hB hz hk hS1 => ?_)
  · rw [hU]
    exact (va_X.moved hW.alike hX).kept (hS.2.1 b hbl (Nat.not_le.mpr hbE))
  · have hB : t.heap = H := hB
    have e1 : H1 = H := ht.symm.trans hB
    subst e1
    exact kk r locs1 hS1
end NB
