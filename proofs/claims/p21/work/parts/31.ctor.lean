/-! THE CONSTRUCTORS: at the heap's end, so every address is known: the object a, then the cells h, h + 1, .. in their order -/
def gty5 (T : Nat → ClassId) : List (ClassId × FieldType) := [(T 0, .int), (T 1, .boolean), (T 2, .object "HayThieves$Lad"), (T 3, .object "HayThieves$Load"), (T 4, .array .int)]
def kD (D : va_G) (T : Nat → ClassId) (U : State) : Prop := va_K D vwCl (gty5 T) U ∧ (∀ w ∈ gnest, va_Nw w U) ∧ va_AO "HayThieves$Lad" U ∧ va_AO "HayThieves$Load" U
theorem kD.moved {D : va_G} {T : Nat → ClassId} {u U : State} (h : kD D T u) (hW : u.WarmedH U.vm) : kD D T U := ⟨va_K.moved hW.alike h.1, fun w hw => gnest_warm hW hw (h.2.1 w hw), va_AO.moved hW.alike h.2.2.1, va_AO.moved hW.alike h.2.2.2⟩
theorem kD.blind {D : va_G} {T : Nat → ClassId} {U : State} (g : JFrame) (mk : MethodId) (a : Array Value) (h : kD D T U) : kD D T (U.calling g mk a) := ⟨va_K.moved (u := U) (U := U.calling g mk a) (Vm.Alike.refl U.vm) h.1, fun w hw => va_Nw.same (u := U) (U := U.calling g mk a) (gnest_ot hw) rfl (h.2.1 w hw), va_AO.moved (u := U) (U := U.calling g mk a) (Vm.Alike.refl U.vm) h.2.2.1, va_AO.moved (u := U) (U := U.calling g mk a) (Vm.Alike.refl U.vm) h.2.2.2⟩
theorem kD.nest {D : va_G} {T : Nat → ClassId} {U : State} (h : kD D T U) {w : Cond} (hw : w ∈ gnest) {args : Array Value} : w.before args U = true := va_Nw.use (gnest_ot hw) (h.2.1 w hw)
def kc (D : va_G) (T : Nat → ClassId) (p : Program) (m : MethodId) (c : Code) (cc : ByteArray) (own : String) (args : Array Value) (s : State) : Prop :=
  p.tables.exec = Jvm.exec ∧ c.code = cc ∧ (∀ w ∈ lw_all, w.before args s = true) ∧ s.vm.findClass own = some m.cls ∧ kD D T s
/-- a world: a's thing x, and the things es from h on; the heap ends behind them -/
def CW (D : va_G) (a : Nat) (x : va_E) (h : Nat) (es : List va_E) (H : Heap) : Prop :=
  a < h ∧ va_at D vwCl (a, x) H ∧ (∀ (i : Nat) (e : va_E), es[i]? = some e → va_at D vwCl (h + i, e) H) ∧ H.size = h + es.length
def cA (a h : Nat) : Nat → Prop := fun q => q = a ∨ h ≤ q
theorem va_at.kept9 {D : va_G} {q : Nat × va_E} {H H1 : Heap} (h : va_at D vwCl q H) (hq : H1[q.1]? = H[q.1]?) : va_at D vwCl q H1 := h.kept hq
/-- one more -/
theorem CW.push {D : va_G} {a h : Nat} {x e : va_E} {es : List va_E} {H H1 : Heap} (C : CW D a x h es H) (he : va_at D vwCl (H.size, e) H1) (hz : H1.size = H.size + 1) (hq : ∀ q : Nat, q < H.size → H1[q]? = H[q]?) : CW D a x h (es ++ [e]) H1 := by
  obtain ⟨c1, c2, c3, c4⟩ := C
  refine ⟨c1, va_at.kept9 c2 (hq _ (by show a < H.size; omega)), fun i e' hi => ?_, by rw [hz, c4, List.length_append]; simp; omega⟩
  by_cases hl : i < es.length
  · rw [List.getElem?_append_left hl] at hi
    exact va_at.kept9 (c3 i e' hi) (hq _ (by show h + i < H.size; omega))
  · rw [List.getElem?_append_right (by omega)] at hi
    have hz : i - es.length < 1 := (List.getElem?_eq_some_iff.mp hi).1
    have h0 : i = es.length := by omega
    subst h0
    rw [show es.length - es.length = 0 by omega] at hi
    cases hi
    rw [← c4]
    exact he
/-- a's thing anew -/
theorem CW.own {D : va_G} {a h : Nat} {x x' : va_E} {es : List va_E} {H H1 : Heap} (C : CW D a x h es H) (he : va_at D vwCl (a, x') H1) (hz : H1.size = H.size) (hq : ∀ q : Nat, q ≠ a → H1[q]? = H[q]?) : CW D a x' h es H1 := by
  obtain ⟨c1, c2, c3, c4⟩ := C
  exact ⟨c1, he, fun i e' hi => va_at.kept9 (c3 i e' hi) (hq _ (by show h + i ≠ a; omega)), by rw [hz, c4]⟩
/-- the k-th thing anew -/
theorem CW.set {D : va_G} {a h k : Nat} {x e : va_E} {es : List va_E} {H H1 : Heap} (C : CW D a x h es H) (hk : k < es.length) (he : va_at D vwCl (h + k, e) H1) (hz : H1.size = H.size) (hq : ∀ q : Nat, q ≠ h + k → H1[q]? = H[q]?) : CW D a x h (es.set k e) H1 := by
  obtain ⟨c1, c2, c3, c4⟩ := C
  refine ⟨c1, va_at.kept9 c2 (hq _ (by show a ≠ h + k; omega)), fun i e' hi => ?_, by rw [hz, c4, List.length_set]⟩
  by_cases hik : i = k
  · subst hik
    rw [List.getElem?_set_self hk] at hi
    cases hi
    exact he
  · rw [List.getElem?_set_ne (fun q => hik q.symm)] at hi
    exact va_at.kept9 (c3 i e' hi) (hq _ (by show h + i ≠ h + k; omega))
/-- behind a constructor's call on the last thing -/
theorem CW.call {D : va_G} {a h : Nat} {x o o' : va_E} {es es' : List va_E} {H H1 : Heap} (C : CW D a x h (es ++ [o]) H) (C' : CW D (h + es.length) o' (h + es.length + 1) es' H1) (hq : ∀ q : Nat, q < H.size → ¬ cA (h + es.length) (h + es.length + 1) q → H1[q]? = H[q]?) : CW D a x h (es ++ o' :: es') H1 := by
  obtain ⟨c1, c2, c3, c4⟩ := C
  obtain ⟨d1, d2, d3, d4⟩ := C'
  have hl : (es ++ [o]).length = es.length + 1 := by simp
  rw [hl] at c4
  have hk : ∀ q : Nat, q < h + es.length → H1[q]? = H[q]? := fun q hh => hq q (by omega) (fun z => by rcases z with z | z <;> omega)
  refine ⟨c1, va_at.kept9 c2 (hk _ (by show a < h + es.length; omega)), fun i e' hi => ?_, by rw [d4]; simp; omega⟩
  by_cases h1 : i < es.length
  · rw [List.getElem?_append_left h1] at hi
    exact va_at.kept9 (c3 i e' (by rw [List.getElem?_append_left h1]; exact hi)) (hk _ (by show h + i < h + es.length; omega))
  · rw [List.getElem?_append_right (by omega)] at hi
    by_cases h2 : i = es.length
    · subst h2
      rw [show es.length - es.length = 0 by omega] at hi
      cases hi
      exact d2
    · obtain ⟨j, hj⟩ : ∃ j, i = es.length + 1 + j := ⟨i - es.length - 1, by omega⟩
      subst hj
      rw [show es.length + 1 + j - es.length = j + 1 by omega] at hi
      have h9 := d3 j e' hi
      rw [show h + (es.length + 1 + j) = h + es.length + 1 + j by omega]
      exact h9
section CR
variable {p : Program} {l : Launch} {e : Env} {R : Room} {s : State} {m : MethodId} {args : Array Value} {below : List Frame} {meth : Method} {c : Code} {H H0 : Heap} {locs : List Loc} {cells slots : Nat} {Q : State → Prop}
variable {cc : ByteArray} {pc : Nat} {ls : Array Slot} {rest : List Value} {D : va_G} {Tk : Nat → ClassId} {own : String} {A : Nat → Prop} {a h : Nat} {x : va_E} {es : List va_E}
theorem va_S.grow {H1 : Heap} (hS : va_S A H0 H locs) (hz : H1.size = H.size + 1) (hq : ∀ q : Nat, q < H.size → H1[q]? = H[q]?) : va_S A H0 H1 locs :=
  ⟨Nat.le_trans hS.1 (by omega), fun q h1 h2 => (hq q (Nat.lt_of_lt_of_le h1 hS.1)).trans (hS.2.1 q h1 h2), hS.2.2⟩
/-- newarray -/
theorem c_newa (K : kc D Tk p m c cc own args s) (hC : CW D a x h es H) (hS : va_S A H0 H locs) {atype : ArrayType} {k : Nat} {ty : FieldType} (hty : newarray.typeOf atype = ty) (harr : Cond.arrayClass (newarray.typeOf atype) ∈ lw_all) (hk : (gty5 Tk)[k]? = some (Tk k, ty)) (hfc : ∀ cA, s.vm.findClass ("[" ++ ty.toString) = some cA → cA = Tk k)
    {n : Int32} {N' : Nat} {a0 : vp_A} (ha : ∀ cA : ClassId, vp_cell cA a0 = arrV cA N' (fun _ => defaultValue ty)) (hn : ¬ n < 0) (hN : n.toNatClampNeg = N') (hbytes : N' * componentBytes ty ≤ 536870912) (hcells : cells + 1 ≤ R.cells) (hslots : slots + N' ≤ R.slots) (hdg : decode cc pc = .ok (.newarray atype, 2))
    (kk : ∀ (H1 : Heap), CW D a x h (es ++ [.inl (Tk k, a0)]) H1 → va_S A H0 H1 locs → W p l e R s m args below meth c H1 locs (cells + 1) (slots + N') Q (F0 m (pc + 2) ls (.ref (h + es.length) :: rest))) : W p l e R s m args below meth c H locs cells slots Q (F0 m pc ls (.int n :: rest)) := by
  subst hty
  refine va_newaK K.1 K.2.1 (K.2.2.1 _ harr) rfl hdg rfl hn hN hbytes hcells hslots rfl fun H1 cA e1 z1 o1 hAr hNm => ?_
  obtain rfl := hfc cA hNm
  rw [hC.2.2.2]
  exact kk H1 (hC.push (by show H1[H.size]? = some (vp_cell _ _); rw [ha]; exact e1) z1 o1) (va_S.grow hS z1 o1)
/-- new -/
theorem c_new (K : kc D Tk p m c cc own args s) (hC : CW D a x h es H) (hS : va_S A H0 H locs) {C : String} {T : u_T} {N ci index : Nat} (hin : ∀ w ∈ u_ws C T N, w ∈ lw_all) (ty : Nat → FieldType) (hty : ∀ k, k < N → parseFieldDescriptor (T k).2.2.1 = some (ty k)) (hcl : Cond.classLink own index C ∈ lw_all) (hinst : Cond.instantiable C N ∈ lw_all) (hini : Cond.initialized C ∈ lw_all)
    (hc : vwCl[ci]? = some (C, T, N)) {fs : List Value} (hfs : ∀ j, j < N → defaultValue (ty j) = vp_V fs j) (hcells : cells + 1 ≤ R.cells) (hslots : slots + N ≤ R.slots) (hdg : decode cc pc = .ok (.new index, 3))
    (kk : ∀ (H1 : Heap), CW D a x h (es ++ [.inr (ci, fs)]) H1 → va_S A H0 H1 locs → W p l e R s m args below meth c H1 locs (cells + 1) (slots + N) Q (F0 m (pc + 3) ls (.ref (h + es.length) :: rest))) : W p l e R s m args below meth c H locs cells slots Q (F0 m pc ls rest) := by
  obtain ⟨hx, hb, hts, hown, hk⟩ := K
  have hKn := hk.1.1 ci _ hc
  refine W.newcK hx hb hown (hts _ hcl) (hts _ hinst) (hts _ hini) rfl hdg hcells hslots hKn.2.1 rfl fun H1 kC hkC e1 z1 o1 => ?_
  rw [hC.2.2.2]
  exact kk H1 (hC.push ⟨_, hc, (u_born ty hts hin hKn hkC e1 hty).to hfs⟩ z1 o1) (va_S.grow hS z1 o1)
/-- putfield of this -/
theorem c_put (K : kc D Tk p m c cc own args s) {ci : Nat} {fs : List Value} (hC : CW D a (.inr (ci, fs)) h es H) (hS : va_S A H0 H locs) (hA : A a) {C : String} {T : u_T} {N index : Nat} (hin : ∀ w ∈ u_ws C T N, w ∈ lw_all) (ty0 : Nat → FieldType) (hty : ∀ k, k < N → parseFieldDescriptor (T k).2.2.1 = some (ty0 k)) (hnm : ∀ a, a < N → ∀ b, b < N → a ≠ b → (T a).2.1 ≠ (T b).2.1)
    (hc : vwCl[ci]? = some (C, T, N)) (k : Nat) (hk : k < N) (hlink : Cond.fieldLink own index (T k).1 (T k).2.1 (T k).2.2.1 ∈ lw_all) (hfin : (T k).2.2.2 = false) {ty : FieldType} {v : Value} (hd : parseFieldDescriptor (T k).2.2.1 = some ty) (hn : narrow ty v = v) (hfit : fits ty v = true) (hl : k < fs.length) (hdg : decode cc pc = .ok (.putfield index, 3))
    (kk : ∀ (H1 : Heap) (locs1 : List Loc), CW D a (.inr (ci, fs.set k v)) h es H1 → va_S A H0 H1 locs1 → W p l e R s m args below meth c H1 locs1 cells slots Q (F0 m (pc + 3) ls rest)) : W p l e R s m args below meth c H locs cells slots Q (F0 m pc ls (v :: .ref a :: rest)) := by
  obtain ⟨hx, hb, hts, hown, hK⟩ := K
  have hap := va_apart (own := own) hts hin ty0 hty hnm hK.1 hc
  obtain ⟨r, h1, cell, q1, q2, q3, q4⟩ := hC.2.1
  have hr : r = (C, T, N) := Option.some.inj (h1.symm.trans hc)
  subst hr
  obtain ⟨hSl, hfc, kC, hkC, hkind⟩ := hK.1.1 ci _ hc
  obtain ⟨cf, kf, fi, f, hi, hsl⟩ := hSl k hk
  have hlay := hts _ (hin _ (u_in_lay hk))
  unfold u_lay at hlay
  rw [if_neg (by rw [hfin]; decide)] at hlay
  have hst := (u_facts hfc hkC (u_lays hts hin hk) hi).1
  have h6 := u_store hfc hkC hkind hlay hi hd hn hfit
  refine W.putK hx hb (f := f) ⟨hown, hts _ hlink, ⟨_, _, _, hi⟩, hst⟩ (by rw [q2]; exact h6) q1 q3 (by rw [hsl]; exact k2_hasslot (q4 k hk)) rfl rfl hdg fun H' e1 e2 e3 => ?_
  rw [hsl] at e1 ⊢
  exact kk H' _ (hC.own ⟨_, hc, t_OB.to (V := updV (vp_V fs) k v) ⟨_, e1, q2, q3, t_set q4 hap hk v⟩ (fun j _ => vp_updV_set hl v j)⟩ e2 e3) (hS.put e2 e3 hA)
end CR
/-- a constructor's contract -/
def rmc (f k sl L : Nat) : Room := { frames := f, cells := k, slots := sl, locals := L }
def gMc (l : Launch) (D : va_G) (Tk : Nat → ClassId) (y : MethodName) (b : ByteArray) (n f k sl L a h : Nat) (As : List Value) (ci : Nat) (fs : List Value) (x' : va_E) (es' : List va_E) : Prop :=
  Met l y (gws y b n none) (rmc f k sl L) (va_Pc (.ref a :: As) (fun U => CW D a (.inr (ci, fs)) h [] U.heap ∧ kD D Tk U)) (va_Qv (fun (_ : Unit) => True) (fun _ t => CW D a x' h es' t.heap) (cA a h)) k sl (cA a h)
theorem c_blind {D : va_G} {Tk : Nat → ClassId} {a h ci : Nat} {fs : List Value} (av : List Value) : FrameBlind (va_Pc av (fun U => CW D a (.inr (ci, fs)) h [] U.heap ∧ kD D Tk U)) := fun a9 U g mk q => ⟨q.1, q.2.1, q.2.2.blind g mk a9⟩
section CS
variable {p : Program} {l : Launch} {e : Env} {R : Room} {s : State} {m : MethodId} {args : Array Value} {below : List Frame} {meth : Method} {c : Code} {H H0 : Heap} {locs : List Loc} {cells slots : Nat} {Q : State → Prop}
variable {cc : ByteArray} {pc : Nat} {ls : Array Slot} {rest : List Value} {D : va_G} {Tk : Nat → ClassId} {own : String} {A : Nat → Prop} {a h : Nat} {x : va_E} {es : List va_E}
theorem c_entry {y : MethodName} {b : ByteArray} {n f k sl L ci : Nat} {fs As : List Value} {lv : List (Nat × Value)} {x' : va_E} {es' : List va_E} (hy : plainName y.cls = true) (hlen : (lg_sl (.ref a :: As)).length ≤ n) (hlv : lv_args 0 (.ref a :: As) = lv)
    (body : ∀ (p : Program) (e : Env) (s : State) (m : MethodId) (below : List Frame) (meth : Method) (c : Code) (ls : Array Slot), kc D Tk p m c b y.cls (.ref a :: As : List Value).toArray s → CW D a (.inr (ci, fs)) h [] s.heap → va_S (cA a h) s.heap s.heap [] → c.maxLocals = n → meth.sig.returnType = none → meth.locks = false → meth.name = y.name → lv_has ls n lv →
      W p l e (rmc f k sl L) s m (.ref a :: As : List Value).toArray below meth c s.heap [] 0 0 (MQ below (va_Qv (fun (_ : Unit) => True) (fun _ t => CW D a x' h es' t.heap) (cA a h)) (.ref a :: As : List Value).toArray s k sl (cA a h)) (F0 m 0 ls [])) : gMc l D Tk y b n f k sl L a h As ci fs x' es' := by
  refine Met.ofW (cc := b) (maxL := n) (ret := none) hy rfl ?_
  intro p e s m args below meth c s₁ B hml hv
  obtain ⟨rfl, hC, hK⟩ := hv
  have hts0 := atoms_spec (ws := gws y b n none) B.pre
  have hl := lv_entry (.ref a :: As) hlen
  rw [lg_entry_eq]
  rw [hlv] at hl
  exact body p e s m below meth c _ ⟨B.exec, B.bytes, fun w hw => hts0 w (List.mem_cons_of_mem _ hw), findClass_of_methodNamed B.named, hK⟩ hC va_S.rf hml B.returns B.notSynchronized (name_of_methodNamed B.named B.method).1 hl
theorem c_ret {av : Array Value} {x' : va_E} {es' : List va_E} {k sl : Nat} (K : kc D Tk p m c cc own av s) (hC : CW D a x' h es' H) (hS : va_S (cA a h) s.heap H locs) (hr : meth.sig.returnType = none) (hlocks : meth.locks = false) (hc : cells ≤ k) (hs : slots ≤ sl) (hdg : decode cc pc = .ok (.return_, 1)) : W p l e R s m av below meth c H locs cells slots (MQ below (va_Qv (fun (_ : Unit) => True) (fun _ t => CW D a x' h es' t.heap) (cA a h)) av s k sl (cA a h)) (F0 m pc ls []) :=
  W.widen (k := k) (n := sl) hc hs (W.vret K.1 K.2.1 hr (fun t ht hW => ⟨⟨(), rfl, trivial, by show CW D a x' h es' t.heap; rw [ht]; exact hC⟩, hS.F ht⟩) hS.2.2 hdg hlocks)
/-- Object's own constructor -/
theorem c_obj (K : kc D Tk p m c cc own args s) {idx a9 : Nat} (hlink : Cond.methodLink own idx Lib.objectInit ∈ lw_all) (hsize : ls.size = c.maxLocals) (hframes : 1 ≤ R.frames) (hlocals : (rest.map fun v => v.category).sum + 12 ≤ R.locals) (hdg : decode cc pc = .ok (.invokespecial idx, 3))
    (kk : W p l e R s m args below meth c H locs cells slots Q (F0 m (pc + 3) ls rest)) : W p l e R s m args below meth c H locs cells slots Q (F0 m pc ls (.ref a9 :: rest)) :=
  W.objInit K.1 K.2.1 K.2.2.2.1 (K.2.2.1 _ hlink) (K.2.2.1 _ q21) (K.2.2.1 _ q22) rfl hsize rfl hdg hframes (by show 2 * 0 + _ + 12 ≤ R.locals; omega) kk
/-- the prim arrays' classes -/
theorem c_fcI (K : kc D Tk p m c cc own args s) : ∀ cA, s.vm.findClass ("[" ++ (FieldType.int).toString) = some cA → cA = Tk 0 := fun cA h9 => Option.some.inj (h9.symm.trans (K.2.2.2.2.1.2 0 _ rfl).2)
theorem c_fcZ (K : kc D Tk p m c cc own args s) : ∀ cA, s.vm.findClass ("[" ++ (FieldType.boolean).toString) = some cA → cA = Tk 1 := fun cA h9 => Option.some.inj (h9.symm.trans (K.2.2.2.2.1.2 1 _ rfl).2)
/-- a constructor's call on the last thing -/
def gcaI (y : MethodName) (b : ByteArray) (n na : Nat) : Prop := Cond.code y b n none ∈ lw_all ∧ Cond.initialized y.cls ∈ lw_all ∧ Cond.instanceMethod y ∈ lw_all ∧ y.name = "<init>" ∧ (y.cls ≠ "java/lang/invoke/MethodHandle" ∧ y.cls ≠ "java/lang/invoke/VarHandle" ∧ (parseMethodDescriptor y.desc).map (fun d => d.parameters.length) = some na)
theorem c_call {y : MethodName} {b : ByteArray} {n nL na f k sl L index ci : Nat} {fs As : List Value} {o' : va_E} {es' : List va_E} (K : kc D Tk p m c cc own args s) (hml : c.maxLocals = nL) (hcal : gcaI y b n na) (hlink : Cond.methodLink own index y ∈ lw_all)
    (hC : CW D a x h (es ++ [.inr (ci, fs)]) H) (hS : va_S (cA a h) s.heap H locs) (hM : gMc l D Tk y b n f k sl L (h + es.length) (h + es.length + 1) As ci fs o' es') (hn : As.length = na) (hsize : ls.size = nL) (hW : (rest.map fun v => v.category).sum ≤ 8) (hR : f + 1 ≤ R.frames ∧ 8 + (n + 11) + L ≤ R.locals) (hdg : decode cc pc = .ok (.invokespecial index, 3)) (hf : cells + k ≤ R.cells ∧ slots + sl ≤ R.slots)
    (kk : ∀ (H1 : Heap) (locs1 : List Loc), CW D a x h (es ++ o' :: es') H1 → va_S (cA a h) s.heap H1 locs1 → W p l e R s m args below meth c H1 locs1 (cells + k) (slots + sl) Q (F0 m (pc + 3) ls rest)) : W p l e R s m args below meth c H locs cells slots Q (F0 m pc ls (As.reverse ++ .ref (h + es.length) :: rest)) := by
  obtain ⟨hx, hb, hts, hown, hk⟩ := id K
  obtain ⟨c1, c2, c3, c4, c5⟩ := hcal
  have hz : H.size = h + es.length + 1 := by rw [hC.2.2.2]; simp; omega
  have h0 : va_at D vwCl (h + es.length, .inr (ci, fs)) H := hC.2.2.1 es.length _ (by rw [List.getElem?_append_right (Nat.le_refl _)]; simp)
  have cw : CallB R s args own index y b n none (gws y b n none) (rmc f k sl L) k sl na ∧ y.name = "<init>" ∧ (Cond.instanceMethod y).before args s = true := ⟨callB_of na hts (gws_good c1) rfl rfl rfl (hts _ c2) (hts _ hlink) c5 hR, c4, hts _ c3⟩
  refine va_callv (va_runI (As := As) (rest := rest) ⟨hx, hb, hml, hown, hts⟩ hM cw ⟨c_blind _, fun U hU hW => ⟨rfl, by rw [hU]; exact ⟨Nat.lt_succ_self _, h0, fun i e hi => by simp at hi, by simpa using hz⟩, hk.moved hW⟩⟩ rfl hn hsize rfl (by show 2 * 0 + _ ≤ 8; omega) hdg hf) hS (fun q _ h9 => ?_) (fun q h9 => ?_) (fun u t H1 locs1 ht hvm hw hB hz1 hk1 hS1 => ?_)
  · rcases h9 with h9 | h9
    · exact Or.inr (by omega)
    · exact Or.inr (by omega)
  · rcases h9 with h9 | h9
    · exact Or.inr (by omega)
    · exact Or.inr (by omega)
  · have hB : CW D (h + es.length) o' (h + es.length + 1) es' t.heap := hB
    rw [ht] at hB
    exact kk H1 locs1 (hC.call hB hk1) hS1
/-- .. of a nest mate's private constructor -/
theorem c_callN {y : MethodName} {host : String} {b : ByteArray} {n nL na f k sl L index ci : Nat} {fs As : List Value} {o' : va_E} {es' : List va_E} (K : kc D Tk p m c cc own args s) (hml : c.maxLocals = nL) (hcal : gcaI y b n na) (hlink : Cond.methodLinkNest own index y host ∈ gnest)
    (hC : CW D a x h (es ++ [.inr (ci, fs)]) H) (hS : va_S (cA a h) s.heap H locs) (hM : gMc l D Tk y b n f k sl L (h + es.length) (h + es.length + 1) As ci fs o' es') (hn : As.length = na) (hsize : ls.size = nL) (hW : (rest.map fun v => v.category).sum ≤ 8) (hR : f + 1 ≤ R.frames ∧ 8 + (n + 11) + L ≤ R.locals) (hdg : decode cc pc = .ok (.invokespecial index, 3)) (hf : cells + k ≤ R.cells ∧ slots + sl ≤ R.slots)
    (kk : ∀ (H1 : Heap) (locs1 : List Loc), CW D a x h (es ++ o' :: es') H1 → va_S (cA a h) s.heap H1 locs1 → W p l e R s m args below meth c H1 locs1 (cells + k) (slots + sl) Q (F0 m (pc + 3) ls rest)) : W p l e R s m args below meth c H locs cells slots Q (F0 m pc ls (As.reverse ++ .ref (h + es.length) :: rest)) := by
  obtain ⟨hx, hb, hts, hown, hk⟩ := id K
  obtain ⟨c1, c2, c3, c4, c5⟩ := hcal
  have hz : H.size = h + es.length + 1 := by rw [hC.2.2.2]; simp; omega
  have h0 : va_at D vwCl (h + es.length, .inr (ci, fs)) H := hC.2.2.1 es.length _ (by rw [List.getElem?_append_right (Nat.le_refl _)]; simp)
  have cw : va_CN R s args own index y host b n none (gws y b n none) (rmc f k sl L) k sl na ∧ y.name = "<init>" ∧ (Cond.instanceMethod y).before args s = true := ⟨va_cnB na hts (gws_good c1) rfl rfl rfl (hk.2.1 _ hlink) (hts _ c2) c5 hR, c4, hts _ c3⟩
  refine va_callv (va_runIN (As := As) (rest := rest) ⟨hx, hb, hml, hown, hts⟩ hM cw ⟨c_blind _, fun U hU hW => ⟨rfl, by rw [hU]; exact ⟨Nat.lt_succ_self _, h0, fun i e hi => by simp at hi, by simpa using hz⟩, hk.moved hW⟩⟩ rfl hn hsize rfl (by show 2 * 0 + _ ≤ 8; omega) hdg hf) hS (fun q _ h9 => ?_) (fun q h9 => ?_) (fun u t H1 locs1 ht hvm hw hB hz1 hk1 hS1 => ?_)
  · rcases h9 with h9 | h9
    · exact Or.inr (by omega)
    · exact Or.inr (by omega)
  · rcases h9 with h9 | h9
    · exact Or.inr (by omega)
    · exact Or.inr (by omega)
  · have hB : CW D (h + es.length) o' (h + es.length + 1) es' t.heap := hB
    rw [ht] at hB
    exact kk H1 locs1 (hC.call hB hk1) hS1
end CS
