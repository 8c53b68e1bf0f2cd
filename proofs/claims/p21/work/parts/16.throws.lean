/-! METHODS THAT MAY THROW: ex 0: it answers; 1 IllegalArgument, 2 IllegalState, 3 IndexOutOfBounds -/
def gxn : Nat → String
  | 1 => "java/lang/IllegalArgumentException"
  | 2 => "java/lang/IllegalStateException"
  | _ => "java/lang/IndexOutOfBoundsException"
def grx (f L k : Nat) : Room := { frames := f, cells := k, slots := 6 * k, locals := L }
abbrev gXC (E : gE) (J : Int64) (I : gI) (ex : Nat) : String → State → State → Prop := vx_X (fun (_ : Unit) => ex ≠ 0) (fun nm _ t => nm = gxn ex ∧ GW E J I t.heap) (gF E)
def gXi (l : Launch) (E : gE) (J : Int64) (y : MethodName) (b : ByteArray) (n : Nat) (r : Option FieldType) (f L k : Nat) (av : List Value) (I : gI) (ex : Nat) (v : Int32) (I' : gI) : Prop := vx_Met l y (gws y b n r) (grx f L k) (va_Pc av (gP E J I)) (va_Qi (fun z (_ : Unit) => ex = 0 ∧ z = v) (fun _ t => GW E J I' t.heap) (gF E)) (gXC E J I ex) k (6 * k) (gF E)
def gXv (l : Launch) (E : gE) (J : Int64) (y : MethodName) (b : ByteArray) (n : Nat) (r : Option FieldType) (f L k : Nat) (av : List Value) (I : gI) (ex : Nat) (I' : gI) : Prop := vx_Met l y (gws y b n r) (grx f L k) (va_Pc av (gP E J I)) (va_Qv (fun (_ : Unit) => ex = 0) (fun _ t => GW E J I' t.heap) (gF E)) (gXC E J I ex) k (6 * k) (gF E)
theorem GW.kept {E : gE} {J : Int64} {I : gI} {H H1 : Heap} (hG : GW E J I H) (hq : ∀ q : Nat, q < H.size → H1[q]? = H[q]?) : GW E J I H1 := by
  intro y t i hv
  have h0 := hG y t i hv
  unfold gat at h0 ⊢
  cases hsh : sh t with
  | inl ci =>
    rw [hsh] at h0
    obtain ⟨r, r1, cell, r2, r3⟩ := h0
    exact ⟨r, r1, cell, by rw [hq _ (Array.getElem?_eq_some_iff.mp r2).1]; exact r2, r3⟩
  | inr kn =>
    rw [hsh] at h0
    exact (hq _ (Array.getElem?_eq_some_iff.mp h0).1).trans h0
theorem hat_IAE {E : gE} {s : State} {args : Array Value} (hts : ∀ w ∈ lw_all, w.before args s = true) (h : gS E s) : ∀ w ∈ ats_IAE, w.before args s = true := vx_hat (B := gnest) (fun w hw => hts w (ats_IAE_g w hw)) ats_IAE_b (fun w hw => h.nest hw)
theorem hat_ISE {E : gE} {s : State} {args : Array Value} (hts : ∀ w ∈ lw_all, w.before args s = true) (h : gS E s) : ∀ w ∈ ats_ISE, w.before args s = true := vx_hat (B := gnest) (fun w hw => hts w (ats_ISE_g w hw)) ats_ISE_b (fun w hw => h.nest hw)
theorem hat_IOB {E : gE} {s : State} {args : Array Value} (hts : ∀ w ∈ lw_all, w.before args s = true) (h : gS E s) : ∀ w ∈ ats_IOB, w.before args s = true := vx_hat (B := gnest) (fun w hw => hts w (ats_IOB_g w hw)) ats_IOB_b (fun w hw => h.nest hw)
/-- the three classes: what a throw of each stands on -/
def gxk (ex ik ic : Nat) : Prop := Bundle.fit (gxn ex) = true ∧ Cond.classLink "HayThieves" ik (gxn ex) ∈ lw_all ∧ Cond.initialized (gxn ex) ∈ lw_all ∧ (∀ w ∈ Cond.classLink "HayThieves" ik (gxn ex) :: Cond.initialized (gxn ex) :: vx_atS "HayThieves" ic (gxn ex) ["java/lang/RuntimeException", "java/lang/Exception"], vx_ot w = true) ∧ ∀ {E : gE} {s : State} {args : Array Value}, (∀ w ∈ lw_all, w.before args s = true) → gS E s → ∀ w ∈ vx_atS "HayThieves" ic (gxn ex) ["java/lang/RuntimeException", "java/lang/Exception"], w.before args s = true
section GX
variable {p : Program} {l : Launch} {e : Env} {R : Room} {s : State} {m : MethodId} {args : Array Value} {below : List Frame} {meth : Method} {c : Code} {H : Heap} {locs : List Loc} {cells slots : Nat} {Q : State → Prop}
variable {cc : ByteArray} {pc : Nat} {ls : Array Slot} {rest : List Value} {E : gE} {J : Int64} {I : gI} {own : String}
/-- 'throw new E("text")' -/
theorem g_throw {av : Array Value} {ex EX ik ic is mc ms : Nat} {text : String} {Qc : Array Value → State → Outcome → State → Prop} (K : kx E p m c cc "HayThieves" av s) (hl : l.stackTraces = false) (hk : gxk ex ik ic) (hex : EX = ex) (h0 : ex ≠ 0) (htx : (is, text) ∈ gtx) (hG : GW E J I H) (hS : va_S (gF E) s.heap H locs) (hsize : ls.size = c.maxLocals)
    (d0 : decode cc pc = .ok (.new ik, 3)) (d3 : decode cc (pc + 3) = .ok (.dup, 1)) (d4 : decode cc (pc + 4) = .ok (.ldc is, 2)) (d6 : decode cc (pc + 6) = .ok (.invokespecial ic, 3)) (d9 : decode cc (pc + 9) = .ok (.athrow, 1))
    (hout : ∀ x ∈ c.exceptionTable.toList, False) (hR : 5 < R.frames ∧ (rest.map fun v => v.category).sum + 82 ≤ R.locals ∧ cells + 1 ≤ R.cells ∧ slots + 6 ≤ R.slots) (hlocks : meth.locks = false) (hc : cells + 1 ≤ mc) (hs : slots + 6 ≤ ms) :
    W p l e R s m av below meth c H locs cells slots (vx_MQ below Qc (gXC E J I EX) av s mc ms (gF E)) (F0 m pc ls rest) := by
  obtain ⟨hx, hb, hts, hown, hSt⟩ := id K
  obtain ⟨k1, k2, k3, k4, k5⟩ := hk
  obtain ⟨-, -, -, -, -, hU, hN, hstr, -⟩ := id hSt
  have hU := hU.narrow (B := gF E) (fun _ h => h.1)
  have hN := hN.narrow (B := gF E) (fun _ h => h.1)
  obtain ⟨sa, hsa⟩ := hstr _ htx
  subst hex
  exact vx_throwS hx hb hl (names := ["java/lang/RuntimeException", "java/lang/Exception"]) (A := gF E) hown k1 (fun n hn => by
      rcases List.mem_cons.mp hn with rfl | hn
      · decide +kernel
      · rcases List.mem_cons.mp hn with rfl | hn
        · decide +kernel
        · cases hn) (hts _ k2) (hts _ k3) hsa (k5 hts hSt) k4 hU hN hS hsize d0 d3 d4 d6 d9 (fun x hx => (hout x hx).elim) hR.1 hR.2.1 hR.2.2.1 hR.2.2.2 hlocks
    (fun t hW hz hq => ⟨(), h0, ⟨rfl, hG.kept hq⟩, Nat.le_trans hS.1 hz, fun q h1 h2 => (hq q (Nat.lt_of_lt_of_le h1 hS.1)).trans (hS.2.1 q h1 h2)⟩) hS.2.2 hc hs
/-- a method that may throw: its entry -/
theorem g_entryX {y : MethodName} {b : ByteArray} {n f L k : Nat} {r : Option FieldType} {av : List Value} {lv : List (Nat × Value)} {Qc : Array Value → State → Outcome → State → Prop} {XC : String → State → State → Prop} (hy : plainName y.cls = true) (hlen : (lg_sl av).length ≤ n) (hlv : lv_args 0 av = lv)
    (body : ∀ (p : Program) (e : Env) (s : State) (m : MethodId) (below : List Frame) (meth : Method) (c : Code) (ls : Array Slot), kx E p m c b y.cls av.toArray s → GW E J I s.heap → va_S (gF E) s.heap s.heap [] → c.maxLocals = n → meth.sig.returnType = r → meth.locks = false → (∀ x ∈ c.exceptionTable.toList, False) → lv_has ls n lv →
      W p l e (grx f L k) s m av.toArray below meth c s.heap [] 0 0 (vx_MQ below Qc XC av.toArray s k (6 * k) (gF E)) (F0 m 0 ls [])) : vx_Met l y (gws y b n r) (grx f L k) (va_Pc av (gP E J I)) Qc XC k (6 * k) (gF E) := by
  refine vx_ofW (cc := b) (maxL := n) (ret := r) hy rfl ?_
  intro p e s m args below meth c s₁ B hml htab hv
  obtain ⟨rfl, hG, hSt⟩ := hv
  have hts0 := atoms_spec (ws := gws y b n r) B.pre
  have hl := lv_entry av hlen
  rw [lg_entry_eq]
  rw [hlv] at hl
  exact body p e s m below meth c _ ⟨B.exec, B.bytes, fun w hw => hts0 w (List.mem_cons_of_mem _ hw), findClass_of_methodNamed B.named, hSt⟩ hG va_S.rf hml B.returns B.notSynchronized htab hl
/-- its ends -/
theorem g_iretX {av : Array Value} {v x : Int32} {I' : gI} {ex mc ms : Nat} {XC : String → State → State → Prop} (K : kx E p m c cc own av s) (hG : GW E J I' H) (hS : va_S (gF E) s.heap H locs) (hr : meth.sig.returnType = some .int) (hlocks : meth.locks = false) (hx0 : ex = 0) (hv : x = v) (hc : cells ≤ mc) (hs : slots ≤ ms) (hdg : decode cc pc = .ok (.ireturn, 1)) : W p l e R s m av below meth c H locs cells slots (vx_MQ below (va_Qi (fun z (_ : Unit) => ex = 0 ∧ z = v) (fun _ t => GW E J I' t.heap) (gF E)) XC av s mc ms (gF E)) (F0 m pc ls [.int x]) :=
  vx_ret (W.widen (k := mc) (n := ms) hc hs (W.iret K.1 K.2.1 hr (fun t ht hW => ⟨⟨x, (), rfl, ⟨hx0, hv⟩, by show GW E J I' t.heap; rw [ht]; exact hG⟩, hS.F ht⟩) hS.2.2 hdg hlocks))
theorem g_vretX {av : Array Value} {I' : gI} {ex mc ms : Nat} {XC : String → State → State → Prop} (K : kx E p m c cc own av s) (hG : GW E J I' H) (hS : va_S (gF E) s.heap H locs) (hr : meth.sig.returnType = none) (hlocks : meth.locks = false) (hx0 : ex = 0) (hc : cells ≤ mc) (hs : slots ≤ ms) (hdg : decode cc pc = .ok (.return_, 1)) : W p l e R s m av below meth c H locs cells slots (vx_MQ below (va_Qv (fun (_ : Unit) => ex = 0) (fun _ t => GW E J I' t.heap) (gF E)) XC av s mc ms (gF E)) (F0 m pc ls []) :=
  vx_ret (W.widen (k := mc) (n := ms) hc hs (W.vret K.1 K.2.1 hr (fun t ht hW => ⟨⟨(), rfl, hx0, by show GW E J I' t.heap; rw [ht]; exact hG⟩, hS.F ht⟩) hS.2.2 hdg hlocks))
/-- calls of methods that may throw -/
theorem g_runVX {y : MethodName} {b : ByteArray} {n nL na f L k index : Nat} {r : Option FieldType} {Qc : Array Value → State → Outcome → State → Prop} {XC : String → State → State → Prop} {As : List Value} {yy t i ci N : Nat} {C : String} {T : u_T}
    (K : kx E p m c cc own args s) (hml : c.maxLocals = nL) (hcal : gcal y b n r na) (hlink : Cond.methodLink own index y ∈ lw_all) (hM : vx_Met l y (gws y b n r) (grx f L k) (va_Pc (.ref (gA E yy t i) :: As) (gP E J I)) Qc XC k (6 * k) (gF E))
    (hG : GW E J I H) (hS : va_S (gF E) s.heap H locs) (hv : gv yy t i = true) (hs : sh t = .inl ci) (hc : vwCl[ci]? = some (C, T, N)) (hC : y.cls = C) (hn : As.length = na) (hsize : ls.size = nL) (hW : (rest.map fun v => v.category).sum ≤ 8) (hR : f + 1 ≤ R.frames ∧ 8 + (n + 11) + L ≤ R.locals) (hdg : decode cc pc = .ok (.invokevirtual index, 3)) (hf : cells + k ≤ R.cells ∧ slots + 6 * k ≤ R.slots) :
    vx_Run p l e R s m args below meth c H locs cells slots k (6 * k) (F0 m pc ls (As.reverse ++ .ref (gA E yy t i) :: rest)) rest (Qc (Value.ref (gA E yy t i) :: As).toArray) XC (gF E) := by
  obtain ⟨hx, hb, hts, hown, hSt⟩ := id K
  obtain ⟨c1, c2, c3, c4, c5⟩ := hcal
  subst hC
  have cw : CallW R s args own y.cls index y b n r (gws y b n r) (grx f L k) k (6 * k) na := ⟨callB_of na hts (gws_good c1) rfl rfl rfl (hts _ c2) (hts _ hlink) c5 hR, hts _ c3, hts _ c4⟩
  exact vx_runV (As := As) (rest := rest) ⟨hx, hb, hml, hown, hts⟩ hM cw ⟨gP_blind _, g_recv K hG hv hs hc, fun U hU hW => ⟨rfl, g_pre K hG hS hU hW⟩⟩ rfl hn hsize rfl (by show 2 * 0 + _ ≤ 8; omega) hdg hf
theorem g_runSX {y : MethodName} {b : ByteArray} {n nL na f L k index : Nat} {r : Option FieldType} {Qc : Array Value → State → Outcome → State → Prop} {XC : String → State → State → Prop} {As : List Value}
    (K : kx E p m c cc own args s) (hml : c.maxLocals = nL) (hcal : gcaS y b n r na) (hlink : Cond.methodLink own index y ∈ lw_all) (hM : vx_Met l y (gws y b n r) (grx f L k) (va_Pc As (gP E J I)) Qc XC k (6 * k) (gF E))
    (hG : GW E J I H) (hS : va_S (gF E) s.heap H locs) (hn : As.length = na) (hsize : ls.size = nL) (hW : (rest.map fun v => v.category).sum ≤ 8) (hR : f + 1 ≤ R.frames ∧ 8 + (n + 11) + L ≤ R.locals) (hdg : decode cc pc = .ok (.invokestatic index, 3)) (hf : cells + k ≤ R.cells ∧ slots + 6 * k ≤ R.slots) :
    vx_Run p l e R s m args below meth c H locs cells slots k (6 * k) (F0 m pc ls (As.reverse ++ rest)) rest (Qc As.toArray) XC (gF E) := by
  obtain ⟨hx, hb, hts, hown, hSt⟩ := id K
  obtain ⟨c1, c2, c3, c5⟩ := hcal
  have cw : CallB R s args own index y b n r (gws y b n r) (grx f L k) k (6 * k) na ∧ (Cond.static y).before args s = true := ⟨callB_of na hts (gws_good c1) rfl rfl rfl (hts _ c2) (hts _ hlink) c5 hR, hts _ c3⟩
  exact vx_runS (As := As) (rest := rest) ⟨hx, hb, hml, hown, hts⟩ hM cw ⟨gP_blind _, fun U hU hW => ⟨rfl, g_pre K hG hS hU hW⟩⟩ rfl hn hsize rfl (by show 2 * 0 + _ ≤ 8; omega) hdg hf
/-- behind such a call, in a method that lets the exception pass: its world is still the one at the start -/
theorem g_kxv {st0 : List Value} {a : Array Value} {av : Array Value} {ex EX k mc ms : Nat} {I0 I' : gI} {Qc : Array Value → State → Outcome → State → Prop} (hr : vx_Run p l e R s m av below meth c H locs cells slots k (6 * k) (F0 m pc ls st0) rest (va_Qv (fun (_ : Unit) => ex = 0) (fun _ t => GW E J I' t.heap) (gF E) a) (gXC E J I ex) (gF E)) (hS : va_S (gF E) s.heap H locs) (hI : I0 = I) (hEX : ex ≠ 0 → EX = ex) (hout : ∀ x ∈ c.exceptionTable.toList, False) (hlocks : meth.locks = false) (hc : cells + k ≤ mc) (hs : slots + 6 * k ≤ ms)
    (kk : ex = 0 → ∀ (H1 : Heap) (locs1 : List Loc), GW E J I' H1 → va_S (gF E) s.heap H1 locs1 → W p l e R s m av below meth c H1 locs1 (cells + k) (slots + 6 * k) (vx_MQ below Qc (gXC E J I0 EX) av s mc ms (gF E)) (F0 m (pc + 3) ls rest)) : W p l e R s m av below meth c H locs cells slots (vx_MQ below Qc (gXC E J I0 EX) av s mc ms (gF E)) (F0 m pc ls st0) :=
  vx_callv hr hS (fun q _ h => h) (fun q h => h) (fun q _ h => h) (fun E9 ce q9 u t H1 locs1 ht hvm hp hB hz hk hS1 hce hcv hcl => by
      subst hI
      refine vx_out (fun x hx => (hout x hx).elim) hlocks hce hcv hcl (fun t2 ht2 hW2 => ⟨(), by rw [hEX hp]; exact hp, ⟨by rw [hEX hp]; exact hB.1, by rw [ht2, ← ht]; exact hB.2⟩, hS1.F ht2⟩) hS1.2.2 hc hs)
    (fun u t H1 locs1 ht hvm hw hB hz hk hS1 => kk hw H1 locs1 (by rw [← ht]; exact hB) hS1)
end GX
theorem gxk1 : gxk 1 19 23 := ⟨by decide +kernel, q355, q10, by decide +kernel, fun h1 h2 => hat_IAE h1 h2⟩
theorem gxk2 : gxk 2 30 34 := ⟨by decide +kernel, q595, q11, by decide +kernel, fun h1 h2 => hat_ISE h1 h2⟩
theorem gxk3 : gxk 3 43 47 := ⟨by decide +kernel, q194, q12, by decide +kernel, fun h1 h2 => hat_IOB h1 h2⟩
