/-! CONTRACTS over the world, a method's entry and ends, and calls. -/
def gws (y : MethodName) (b : ByteArray) (n : Nat) (r : Option FieldType) : List Cond := .code y b n r :: lw_all
def grm (f L : Nat) : Room := { frames := f, cells := 0, slots := 0, locals := L }
/-- from the world I the method answers v, and leaves the world I' -/
def gMi (l : Launch) (E : gE) (J : Int64) (y : MethodName) (b : ByteArray) (n : Nat) (r : Option FieldType) (f L : Nat) (av : List Value) (I : gI) (v : Int32) (I' : gI) : Prop := Met l y (gws y b n r) (grm f L) (va_Pc av (gP E J I)) (va_Qi (fun x (_ : Unit) => x = v) (fun _ t => GW E J I' t.heap) (gF E)) 0 0 (gF E)
def gMl (l : Launch) (E : gE) (J : Int64) (y : MethodName) (b : ByteArray) (n : Nat) (r : Option FieldType) (f L : Nat) (av : List Value) (I : gI) (v : Int64) (I' : gI) : Prop := Met l y (gws y b n r) (grm f L) (va_Pc av (gP E J I)) (va_Ql (fun x (_ : Unit) => x = v) (fun _ t => GW E J I' t.heap) (gF E)) 0 0 (gF E)
def gMv (l : Launch) (E : gE) (J : Int64) (y : MethodName) (b : ByteArray) (n : Nat) (r : Option FieldType) (f L : Nat) (av : List Value) (I : gI) (I' : gI) : Prop := Met l y (gws y b n r) (grm f L) (va_Pc av (gP E J I)) (va_Qv (fun (_ : Unit) => True) (fun _ t => GW E J I' t.heap) (gF E)) 0 0 (gF E)
def gMr (l : Launch) (E : gE) (J : Int64) (y : MethodName) (b : ByteArray) (n : Nat) (r : Option FieldType) (f L : Nat) (av : List Value) (I : gI) (v : Nat) (I' : gI) : Prop := Met l y (gws y b n r) (grm f L) (va_Pc av (gP E J I)) (va_Qr (fun (_ : Unit) => True) (fun _ a t => a = v ∧ GW E J I' t.heap) (gF E)) 0 0 (gF E)
/-- a callee's words -/
def gcal (y : MethodName) (b : ByteArray) (n : Nat) (r : Option FieldType) (na : Nat) : Prop := Cond.code y b n r ∈ lw_all ∧ Cond.initialized y.cls ∈ lw_all ∧ Cond.instanceMethod y ∈ lw_all ∧ Cond.selects y.cls y y ∈ lw_all ∧ (y.cls ≠ "java/lang/invoke/MethodHandle" ∧ y.cls ≠ "java/lang/invoke/VarHandle" ∧ (parseMethodDescriptor y.desc).map (fun d => d.parameters.length) = some na)
def gcaS (y : MethodName) (b : ByteArray) (n : Nat) (r : Option FieldType) (na : Nat) : Prop := Cond.code y b n r ∈ lw_all ∧ Cond.initialized y.cls ∈ lw_all ∧ Cond.static y ∈ lw_all ∧ (y.cls ≠ "java/lang/invoke/MethodHandle" ∧ y.cls ≠ "java/lang/invoke/VarHandle" ∧ (parseMethodDescriptor y.desc).map (fun d => d.parameters.length) = some na)
theorem gws_good {y : MethodName} {b : ByteArray} {n : Nat} {r : Option FieldType} (h : Cond.code y b n r ∈ lw_all) : GoodIn lw_all (gws y b n r) := fun w hw => by
  rcases List.mem_cons.mp hw with rfl | hw
  · exact ⟨h, good_of_word (lw_all_good _ h)⟩
  · exact ⟨hw, good_of_word (lw_all_good _ hw)⟩
theorem gP_blind {E : gE} {J : Int64} {I : gI} (av : List Value) : FrameBlind (va_Pc av (gP E J I)) := fun a U g mk q => ⟨q.1, q.2.1, q.2.2.blind g mk a⟩
theorem va_Q_eq {p : Prop} (h : p) : p := h
section GC
variable {p : Program} {l : Launch} {e : Env} {R : Room} {s : State} {m : MethodId} {args : Array Value} {below : List Frame} {meth : Method} {c : Code} {H : Heap} {locs : List Loc} {cells slots : Nat} {Q : State → Prop}
variable {cc : ByteArray} {pc : Nat} {ls : Array Slot} {rest : List Value} {E : gE} {J : Int64} {I : gI} {own : String}
theorem g_pre (K : kx E p m c cc own args s) (hG : GW E J I H) (hS : va_S (gF E) s.heap H locs) {U : State} (hU : U.heap = H) (hW : s.WarmedH U.vm) : gP E J I U :=
  ⟨by rw [hU]; exact hG, K.2.2.2.2.moved hW (by rw [hU]; exact hS.1) (fun q h1 h2 => by rw [hU]; exact hS.2.1 q h1 (fun h => h2 h.1))⟩
theorem g_recv (K : kx E p m c cc own args s) (hG : GW E J I H) {y t i ci N : Nat} {C : String} {T : u_T} (hv : gv y t i = true) (hs : sh t = .inl ci) (hc : vwCl[ci]? = some (C, T, N)) : ∃ cellB : Cell, H[gA E y t i]? = some cellB ∧ cellB.vm.isStatics = false ∧ s.vm.findClass C = some cellB.cls := by
  have h0 := hG y t i hv
  rw [hs] at h0
  obtain ⟨r, h1, cell, q1, q2, q3, q4⟩ := h0
  have hr : r = (C, T, N) := Option.some.inj (h1.symm.trans hc)
  subst hr
  exact ⟨cell, q1, by rw [q3]; rfl, by rw [q2]; exact (K.2.2.2.2.K.1 ci _ hc).2.1⟩
theorem g_runV {y : MethodName} {b : ByteArray} {n nL na f L index : Nat} {r : Option FieldType} {Qc : Array Value → State → Outcome → State → Prop} {As : List Value} {I : gI} {yy t i ci N : Nat} {C : String} {T : u_T}
    (K : kx E p m c cc own args s) (hml : c.maxLocals = nL) (hcal : gcal y b n r na) (hlink : Cond.methodLink own index y ∈ lw_all) (hM : Met l y (gws y b n r) (grm f L) (va_Pc (.ref (gA E yy t i) :: As) (gP E J I)) Qc 0 0 (gF E))
    (hG : GW E J I H) (hS : va_S (gF E) s.heap H locs) (hv : gv yy t i = true) (hs : sh t = .inl ci) (hc : vwCl[ci]? = some (C, T, N)) (hC : y.cls = C) (hn : As.length = na) (hsize : ls.size = nL) (hW : (rest.map fun v => v.category).sum ≤ 8) (hR : f + 1 ≤ R.frames ∧ 8 + (n + 11) + L ≤ R.locals) (hdg : decode cc pc = .ok (.invokevirtual index, 3)) (hf : cells ≤ R.cells ∧ slots ≤ R.slots) :
    va_Run p l e R s m args below meth c H locs cells slots 0 0 (F0 m pc ls (As.reverse ++ .ref (gA E yy t i) :: rest)) rest (Qc (Value.ref (gA E yy t i) :: As).toArray) (gF E) := by
  obtain ⟨hx, hb, hts, hown, hSt⟩ := id K
  obtain ⟨c1, c2, c3, c4, c5⟩ := hcal
  subst hC
  have cw : CallW R s args own y.cls index y b n r (gws y b n r) (grm f L) 0 0 na := ⟨callB_of na hts (gws_good c1) rfl rfl rfl (hts _ c2) (hts _ hlink) c5 hR, hts _ c3, hts _ c4⟩
  exact va_runV (As := As) (rest := rest) ⟨hx, hb, hml, hown, hts⟩ hM cw ⟨gP_blind _, g_recv K hG hv hs hc, fun U hU hW => ⟨rfl, g_pre K hG hS hU hW⟩⟩ rfl hn hsize rfl (by show 2 * 0 + _ ≤ 8; omega) hdg hf
theorem g_runS {y : MethodName} {b : ByteArray} {n nL na f L index : Nat} {r : Option FieldType} {Qc : Array Value → State → Outcome → State → Prop} {As : List Value} {I : gI}
    (K : kx E p m c cc own args s) (hml : c.maxLocals = nL) (hcal : gcaS y b n r na) (hlink : Cond.methodLink own index y ∈ lw_all) (hM : Met l y (gws y b n r) (grm f L) (va_Pc As (gP E J I)) Qc 0 0 (gF E))
    (hG : GW E J I H) (hS : va_S (gF E) s.heap H locs) (hn : As.length = na) (hsize : ls.size = nL) (hW : (rest.map fun v => v.category).sum ≤ 8) (hR : f + 1 ≤ R.frames ∧ 8 + (n + 11) + L ≤ R.locals) (hdg : decode cc pc = .ok (.invokestatic index, 3)) (hf : cells ≤ R.cells ∧ slots ≤ R.slots) :
    va_Run p l e R s m args below meth c H locs cells slots 0 0 (F0 m pc ls (As.reverse ++ rest)) rest (Qc As.toArray) (gF E) := by
  obtain ⟨hx, hb, hts, hown, hSt⟩ := id K
  obtain ⟨c1, c2, c3, c5⟩ := hcal
  have cw : CallB R s args own index y b n r (gws y b n r) (grm f L) 0 0 na ∧ (Cond.static y).before args s = true := ⟨callB_of na hts (gws_good c1) rfl rfl rfl (hts _ c2) (hts _ hlink) c5 hR, hts _ c3⟩
  exact va_runS (As := As) (rest := rest) ⟨hx, hb, hml, hown, hts⟩ hM cw ⟨gP_blind _, fun U hU hW => ⟨rfl, g_pre K hG hS hU hW⟩⟩ rfl hn hsize rfl (by show 2 * 0 + _ ≤ 8; omega) hdg hf
/-- what goes on behind a call -/
theorem g_ki {st0 : List Value} {a : Array Value} {v : Int32} {I' : gI} (hr : va_Run p l e R s m args below meth c H locs cells slots 0 0 (F0 m pc ls st0) rest (va_Qi (fun x (_ : Unit) => x = v) (fun _ t => GW E J I' t.heap) (gF E) a) (gF E)) (hS : va_S (gF E) s.heap H locs)
    (kk : ∀ (H1 : Heap) (locs1 : List Loc), GW E J I' H1 → va_S (gF E) s.heap H1 locs1 → W p l e R s m args below meth c H1 locs1 cells slots Q (F0 m (pc + 3) ls (.int v :: rest))) : W p l e R s m args below meth c H locs cells slots Q (F0 m pc ls st0) :=
  va_calli hr hS (fun q _ h => h) (fun q h => h) (fun r u t H1 locs1 ht hvm hw hB hz hk hS1 => by
    subst hw
    exact kk H1 locs1 (by rw [← ht]; exact hB) hS1)
theorem g_kl {st0 : List Value} {a : Array Value} {v : Int64} {I' : gI} (hr : va_Run p l e R s m args below meth c H locs cells slots 0 0 (F0 m pc ls st0) rest (va_Ql (fun x (_ : Unit) => x = v) (fun _ t => GW E J I' t.heap) (gF E) a) (gF E)) (hS : va_S (gF E) s.heap H locs)
    (kk : ∀ (H1 : Heap) (locs1 : List Loc), GW E J I' H1 → va_S (gF E) s.heap H1 locs1 → W p l e R s m args below meth c H1 locs1 cells slots Q (F0 m (pc + 3) ls (.long v :: rest))) : W p l e R s m args below meth c H locs cells slots Q (F0 m pc ls st0) :=
  va_calll hr hS (fun q _ h => h) (fun q h => h) (fun r u t H1 locs1 ht hvm hw hB hz hk hS1 => by
    subst hw
    exact kk H1 locs1 (by rw [← ht]; exact hB) hS1)
theorem g_kv {st0 : List Value} {a : Array Value} {I' : gI} (hr : va_Run p l e R s m args below meth c H locs cells slots 0 0 (F0 m pc ls st0) rest (va_Qv (fun (_ : Unit) => True) (fun _ t => GW E J I' t.heap) (gF E) a) (gF E)) (hS : va_S (gF E) s.heap H locs)
    (kk : ∀ (H1 : Heap) (locs1 : List Loc), GW E J I' H1 → va_S (gF E) s.heap H1 locs1 → W p l e R s m args below meth c H1 locs1 cells slots Q (F0 m (pc + 3) ls rest)) : W p l e R s m args below meth c H locs cells slots Q (F0 m pc ls st0) :=
  va_callv hr hS (fun q _ h => h) (fun q h => h) (fun u t H1 locs1 ht hvm hw hB hz hk hS1 => kk H1 locs1 (by rw [← ht]; exact hB) hS1)
theorem g_kr {st0 : List Value} {a : Array Value} {v : Nat} {I' : gI} (hr : va_Run p l e R s m args below meth c H locs cells slots 0 0 (F0 m pc ls st0) rest (va_Qr (fun (_ : Unit) => True) (fun _ x t => x = v ∧ GW E J I' t.heap) (gF E) a) (gF E)) (hS : va_S (gF E) s.heap H locs)
    (kk : ∀ (H1 : Heap) (locs1 : List Loc), GW E J I' H1 → va_S (gF E) s.heap H1 locs1 → W p l e R s m args below meth c H1 locs1 cells slots Q (F0 m (pc + 3) ls (.ref v :: rest))) : W p l e R s m args below meth c H locs cells slots Q (F0 m pc ls st0) :=
  va_callr hr hS (fun q _ h => h) (fun q h => h) (fun u x t H1 locs1 ht hvm hw hB hz hk hS1 => by
    obtain ⟨hB1, hB2⟩ := hB
    subst hB1
    exact kk H1 locs1 (by rw [← ht]; exact hB2) hS1)
/-- a method's entry -/
theorem g_entry {y : MethodName} {b : ByteArray} {n f L : Nat} {r : Option FieldType} {av : List Value} {lv : List (Nat × Value)} {Qc : Array Value → State → Outcome → State → Prop} (hy : plainName y.cls = true) (hlen : (lg_sl av).length ≤ n) (hlv : lv_args 0 av = lv)
    (body : ∀ (p : Program) (e : Env) (s : State) (m : MethodId) (below : List Frame) (meth : Method) (c : Code) (ls : Array Slot), kx E p m c b y.cls av.toArray s → GW E J I s.heap → va_S (gF E) s.heap s.heap [] → c.maxLocals = n → meth.sig.returnType = r → meth.locks = false → lv_has ls n lv →
      W p l e (grm f L) s m av.toArray below meth c s.heap [] 0 0 (MQ below Qc av.toArray s 0 0 (gF E)) (F0 m 0 ls [])) : Met l y (gws y b n r) (grm f L) (va_Pc av (gP E J I)) Qc 0 0 (gF E) := by
  refine Met.ofW (cc := b) (maxL := n) (ret := r) hy rfl ?_
  intro p e s m args below meth c s₁ B hml hv
  obtain ⟨rfl, hG, hSt⟩ := hv
  have hts0 := atoms_spec (ws := gws y b n r) B.pre
  have hl := lv_entry av hlen
  rw [lg_entry_eq]
  rw [hlv] at hl
  exact body p e s m below meth c _ ⟨B.exec, B.bytes, fun w hw => hts0 w (List.mem_cons_of_mem _ hw), findClass_of_methodNamed B.named, hSt⟩ hG va_S.rf hml B.returns B.notSynchronized hl
/-- its ends -/
theorem g_iret {av : Array Value} {v x : Int32} {I' : gI} (K : kx E p m c cc own av s) (hG : GW E J I' H) (hS : va_S (gF E) s.heap H locs) (hr : meth.sig.returnType = some .int) (hlocks : meth.locks = false) (hv : x = v) (hdg : decode cc pc = .ok (.ireturn, 1)) : W p l e R s m av below meth c H locs 0 0 (MQ below (va_Qi (fun x (_ : Unit) => x = v) (fun _ t => GW E J I' t.heap) (gF E)) av s 0 0 (gF E)) (F0 m pc ls [.int x]) :=
  W.iret K.1 K.2.1 hr (fun t ht hW => ⟨⟨x, (), rfl, hv, by show GW E J I' t.heap; rw [ht]; exact hG⟩, hS.F ht⟩) hS.2.2 hdg hlocks
theorem g_vret {av : Array Value} {I' : gI} (K : kx E p m c cc own av s) (hG : GW E J I' H) (hS : va_S (gF E) s.heap H locs) (hr : meth.sig.returnType = none) (hlocks : meth.locks = false) (hdg : decode cc pc = .ok (.return_, 1)) : W p l e R s m av below meth c H locs 0 0 (MQ below (va_Qv (fun (_ : Unit) => True) (fun _ t => GW E J I' t.heap) (gF E)) av s 0 0 (gF E)) (F0 m pc ls []) :=
  W.vret K.1 K.2.1 hr (fun t ht hW => ⟨⟨(), rfl, trivial, by show GW E J I' t.heap; rw [ht]; exact hG⟩, hS.F ht⟩) hS.2.2 hdg hlocks
theorem g_lret {av : Array Value} {v x : Int64} {I' : gI} (K : kx E p m c cc own av s) (hG : GW E J I' H) (hS : va_S (gF E) s.heap H locs) (hr : meth.sig.returnType = some .long) (hlocks : meth.locks = false) (hv : x = v) (hdg : decode cc pc = .ok (.lreturn, 1)) : W p l e R s m av below meth c H locs 0 0 (MQ below (va_Ql (fun x (_ : Unit) => x = v) (fun _ t => GW E J I' t.heap) (gF E)) av s 0 0 (gF E)) (F0 m pc ls [.long x]) :=
  W.lret K.1 K.2.1 hr (fun t ht hW => ⟨⟨x, (), rfl, hv, by show GW E J I' t.heap; rw [ht]; exact hG⟩, hS.F ht⟩) hS.2.2 hdg hlocks
theorem g_zret {av : Array Value} {v x : Int32} {I' : gI} (K : kx E p m c cc own av s) (hG : GW E J I' H) (hS : va_S (gF E) s.heap H locs) (hr : meth.sig.returnType = some .boolean) (hlocks : meth.locks = false) (hn : vp_nar .boolean x = x) (hv : x = v) (hdg : decode cc pc = .ok (.ireturn, 1)) : W p l e R s m av below meth c H locs 0 0 (MQ below (va_Qi (fun x (_ : Unit) => x = v) (fun _ t => GW E J I' t.heap) (gF E)) av s 0 0 (gF E)) (F0 m pc ls [.int x]) :=
  W.zret K.1 K.2.1 hr (by show Value.int (vp_nar .boolean x) = _; rw [hn]) (fun t ht hW => ⟨⟨x, (), rfl, hv, by show GW E J I' t.heap; rw [ht]; exact hG⟩, hS.F ht⟩) hS.2.2 hdg hlocks
theorem g_aret {av : Array Value} {v x : Nat} {ty : FieldType} {I' : gI} (K : kx E p m c cc own av s) (hG : GW E J I' H) (hS : va_S (gF E) s.heap H locs) (hr : meth.sig.returnType = some ty) (hty : (∃ n, ty = .object n) ∨ ∃ t, ty = .array t) (hlocks : meth.locks = false) (hv : x = v) (hdg : decode cc pc = .ok (.areturn, 1)) : W p l e R s m av below meth c H locs 0 0 (MQ below (va_Qr (fun (_ : Unit) => True) (fun _ a t => a = v ∧ GW E J I' t.heap) (gF E)) av s 0 0 (gF E)) (F0 m pc ls [.ref x]) :=
  W.aret (v := .ref x) K.1 K.2.1 hr hty (Or.inr ⟨x, rfl⟩) (fun t ht hW => ⟨⟨(), x, rfl, trivial, hv, by show GW E J I' t.heap; rw [ht]; exact hG⟩, hS.F ht⟩) hS.2.2 hdg hlocks
end GC
