/-! CONTRACTS of the Sim's methods, calls of them; 'more' and 'less'; the rows that stand on these -/
def sK (E : gE) (U : State) : Prop := gS E U ∧ va_AOA U
theorem sK.blind {E : gE} {U : State} (g : JFrame) (mk : MethodId) (a : Array Value) (h : sK E U) : sK E (U.calling g mk a) := ⟨h.1.blind g mk a, va_AOA.moved (u := U) (U := U.calling g mk a) (Vm.Alike.refl U.vm) h.2⟩
def sM (l : Launch) (E : gE) (y : MethodName) (b : ByteArray) (n : Nat) (r : Option FieldType) (f k sl L : Nat) (av : List Value) (P : Heap → Prop) (Qc : Array Value → State → Outcome → State → Prop) (A : Nat → Prop) : Prop := Met l y (gws y b n r) (rmc f k sl L) (va_Pc av (fun U => P U.heap ∧ sK E U)) Qc k sl A
theorem s_blind {E : gE} {P : Heap → Prop} (av : List Value) : FrameBlind (va_Pc av (fun U => P U.heap ∧ sK E U)) := fun a9 U g mk q => ⟨q.1, q.2.1, q.2.2.blind g mk a9⟩
theorem tsI : (FieldType.array .int).toString = "[I" := by decide +kernel
section SC
variable {p : Program} {l : Launch} {e : Env} {R : Room} {s : State} {m : MethodId} {args : Array Value} {below : List Frame} {meth : Method} {c : Code} {H : Heap} {locs : List Loc} {cells slots : Nat} {Q : State → Prop}
variable {cc : ByteArray} {pc : Nat} {ls : Array Slot} {rest : List Value} {E : gE} {F : Nat → Prop} {J : Int64} {D : sD} {I : gI} {own : String} {H0 : Heap}
theorem s_entry {y : MethodName} {b : ByteArray} {n f k sl L : Nat} {r : Option FieldType} {av : List Value} {lv : List (Nat × Value)} {P : Heap → Prop} {Qc : Array Value → State → Outcome → State → Prop} {A : Nat → Prop} (hy : plainName y.cls = true) (hlen : (lg_sl av).length ≤ n) (hlv : lv_args 0 av = lv)
    (body : ∀ (p : Program) (e : Env) (s : State) (m : MethodId) (below : List Frame) (meth : Method) (c : Code) (ls : Array Slot), kx E p m c b y.cls av.toArray s → va_AOA s → P s.heap → va_S A s.heap s.heap [] → c.maxLocals = n → meth.sig.returnType = r → meth.locks = false → lv_has ls n lv →
      W p l e (rmc f k sl L) s m av.toArray below meth c s.heap [] 0 0 (MQ below Qc av.toArray s k sl A) (F0 m 0 ls [])) : sM l E y b n r f k sl L av P Qc A := by
  refine Met.ofW (cc := b) (maxL := n) (ret := r) hy rfl ?_
  intro p e s m args below meth c s₁ B hml hv
  obtain ⟨rfl, hP, hSt, hAO⟩ := hv
  have hts0 := atoms_spec (ws := gws y b n r) B.pre
  have hl := lv_entry av hlen
  rw [lg_entry_eq]
  rw [hlv] at hl
  exact body p e s m below meth c _ ⟨B.exec, B.bytes, fun w hw => hts0 w (List.mem_cons_of_mem _ hw), findClass_of_methodNamed B.named, hSt⟩ hAO hP va_S.rf hml B.returns B.notSynchronized hl
theorem s_pre (K : kx E p m c cc own args s) (hAO : va_AOA s) {A0 : Nat → Prop} (hA : ∀ q, A0 q → gN E ≤ q) (hS : va_S A0 s.heap H locs) {U : State} (hU : U.heap = H) (hW : s.WarmedH U.vm) : sK E U :=
  ⟨K.2.2.2.2.moved hW (by rw [hU]; exact hS.1) (fun q h1 h2 => by rw [hU]; exact hS.2.1 q h1 (fun h => h2 (hA q h))), va_AOA.moved hW.alike hAO⟩
theorem s_runS {y : MethodName} {b : ByteArray} {n nL na f k sl L index : Nat} {r : Option FieldType} {Qc : Array Value → State → Outcome → State → Prop} {As : List Value} {P : Heap → Prop} {A A0 : Nat → Prop} (K : kx E p m c cc own args s) (hAO : va_AOA s) (hA : ∀ q, A0 q → gN E ≤ q) (hml : c.maxLocals = nL) (hcal : gcaS y b n r na) (hlink : Cond.methodLink own index y ∈ lw_all) (hM : sM l E y b n r f k sl L As P Qc A)
    (hP : P H) (hS : va_S A0 s.heap H locs) (hn : As.length = na) (hsize : ls.size = nL) (hW : (rest.map fun v => v.category).sum ≤ 8) (hR : f + 1 ≤ R.frames ∧ 8 + (n + 11) + L ≤ R.locals) (hdg : decode cc pc = .ok (.invokestatic index, 3)) (hf : cells + k ≤ R.cells ∧ slots + sl ≤ R.slots) :
    va_Run p l e R s m args below meth c H locs cells slots k sl (F0 m pc ls (As.reverse ++ rest)) rest (Qc As.toArray) A := by
  obtain ⟨hx, hb, hts, hown, hSt⟩ := id K
  obtain ⟨c1, c2, c3, c5⟩ := hcal
  have cw : CallB R s args own index y b n r (gws y b n r) (rmc f k sl L) k sl na ∧ (Cond.static y).before args s = true := ⟨callB_of na hts (gws_good c1) rfl rfl rfl (hts _ c2) (hts _ hlink) c5 hR, hts _ c3⟩
  exact va_runS (As := As) (rest := rest) ⟨hx, hb, hml, hown, hts⟩ hM cw ⟨s_blind _, fun U hU hW => ⟨rfl, by rw [hU]; exact hP, s_pre K hAO hA hS hU hW⟩⟩ rfl hn hsize rfl (by show 2 * 0 + _ ≤ 8; omega) hdg hf
theorem s_recv (K : kx E p m c cc own args s) (hG : LW E F J D I H) : ∃ cellB : Cell, H[D 0 0]? = some cellB ∧ cellB.vm.isStatics = false ∧ s.vm.findClass RX5 = some cellB.cls := by
  obtain ⟨cell, q1, q2, q3, q4⟩ := hG.2.1.c0
  exact ⟨cell, q1, by rw [q3]; rfl, by rw [q2]; exact (K.2.2.2.2.K.1 5 _ rfl).2.1⟩
theorem s_runV {y : MethodName} {b : ByteArray} {n nL na f k sl L index : Nat} {r : Option FieldType} {Qc : Array Value → State → Outcome → State → Prop} {As : List Value} {P : Heap → Prop} {A A0 : Nat → Prop} (K : kx E p m c cc own args s) (hAO : va_AOA s) (hA : ∀ q, A0 q → gN E ≤ q) (hml : c.maxLocals = nL) (hcal : gcal y b n r na) (hlink : Cond.methodLink own index y ∈ lw_all) (hM : sM l E y b n r f k sl L (.ref (D 0 0) :: As) P Qc A)
    (hG : LW E F J D I H) (hP : P H) (hS : va_S A0 s.heap H locs) (hC : y.cls = RX5) (hn : As.length = na) (hsize : ls.size = nL) (hW : (rest.map fun v => v.category).sum ≤ 8) (hR : f + 1 ≤ R.frames ∧ 8 + (n + 11) + L ≤ R.locals) (hdg : decode cc pc = .ok (.invokevirtual index, 3)) (hf : cells + k ≤ R.cells ∧ slots + sl ≤ R.slots) :
    va_Run p l e R s m args below meth c H locs cells slots k sl (F0 m pc ls (As.reverse ++ .ref (D 0 0) :: rest)) rest (Qc (Value.ref (D 0 0) :: As).toArray) A := by
  obtain ⟨hx, hb, hts, hown, hSt⟩ := id K
  obtain ⟨c1, c2, c3, c4, c5⟩ := hcal
  have cw : CallW R s args own y.cls index y b n r (gws y b n r) (rmc f k sl L) k sl na := ⟨callB_of na hts (gws_good c1) rfl rfl rfl (hts _ c2) (hts _ hlink) c5 hR, hts _ c3, hts _ c4⟩
  exact va_runV (As := As) (rest := rest) ⟨hx, hb, hml, hown, hts⟩ hM cw ⟨s_blind _, by rw [hC]; exact s_recv K hG, fun U hU hW => ⟨rfl, by rw [hU]; exact hP, s_pre K hAO hA hS hU hW⟩⟩ rfl hn hsize rfl (by show 2 * 0 + _ ≤ 8; omega) hdg hf
/-- a new row of ints -/
theorem s_newi (K : kx E p m c cc own args s) (hG : LW E F J D I H) (hS0 : va_S F H0 H locs) {n : Int32} {N : Nat} (hn : n = nI N) (hN : N ≤ 330) (h9 : cnt (I 5) 9 < 330) (hcells : cells + 1 ≤ R.cells) (hslots : slots + N ≤ R.slots) (hdg : decode cc pc = .ok (.newarray .int, 2))
    (kk : ∀ (a : Nat) (D1 : sD), D1 = u2 D 9 (cnt (I 5) 9) a → ∀ I1 : gI, I1 = gset I 5 (pLoose (I 5) N (fun _ => 0)) → ∀ H1 : Heap, LW E F J D1 I1 H1 → va_S F H0 H1 locs → W p l e R s m args below meth c H1 locs (cells + 1) (slots + N) Q (F0 m (pc + 2) ls (.ref (D1 9 (cnt (I 5) 9)) :: rest))) : W p l e R s m args below meth c H locs cells slots Q (F0 m pc ls (.int n :: rest)) := by
  have hSt := K.2.2.2.2
  subst hn
  refine va_newaK (atype := .int) K.1 K.2.1 (K.2.2.1 _ q54) rfl hdg rfl (nI_pos (by omega)) (nI_clamp (by omega)) (by show N * 4 ≤ 536870912; omega) hcells hslots rfl fun H1 cA e1 z1 o1 hAr hNm => ?_
  obtain rfl : cA = E.2.1 0 := Option.some.inj (hNm.symm.trans hSt.int)
  have hF : F H.size := hG.2.1.2.2.2.1 _ (Nat.le_refl _)
  have hSW : SW E F D (I 5) H1 := hG.2.1.keep (by omega) (fun q hq _ => o1 q hq)
  have hL := hSW.loose (a := H.size) (n := N) (f := fun _ => 0) e1 (fun t i hv => Nat.ne_of_lt (hG.2.1.lt hv)) hF hN h9
  have hk := kk H.size _ rfl _ rfl H1 (hG.to hSt.ok (fun q hq => by
    by_cases h : q < H.size
    · exact o1 q h
    · exact absurd (hG.2.1.2.2.2.1 q (by omega)) hq) hL) (va_S.grow hS0 z1 o1)
  rw [show u2 D 9 (cnt (I 5) 9) H.size 9 (cnt (I 5) 9) = H.size from if_pos ⟨rfl, rfl⟩] at hk
  exact hk
/-- a row into the carts' row -/
theorem s_cart (K : kx E p m c cc own args s) (hAO : va_AOA s) (hG : LW E F J D I H) (hS0 : va_S F H0 H locs) {x : Int32} (hin : vp_in x (cnt (I 5) 3)) (h9 : 0 < cnt (I 5) 9) (hdg : decode cc pc = .ok (.aastore, 1))
    (kk : ∀ D1 : sD, D1 = u2 D 3 x.toNatClampNeg (D 9 (cnt (I 5) 9 - 1)) → ∀ I1 : gI, I1 = gset I 5 (pCart (I 5) x.toNatClampNeg) → ∀ (H1 : Heap) (locs1 : List Loc), LW E F J D1 I1 H1 → va_S F H0 H1 locs1 → W p l e R s m args below meth c H1 locs1 cells slots Q (F0 m (pc + 1) ls rest)) : W p l e R s m args below meth c H locs cells slots Q (F0 m pc ls (.ref (D 9 (cnt (I 5) 9 - 1)) :: .int x :: .ref (D 1 3) :: rest)) := by
  have hSt := K.2.2.2.2
  have hlt : x.toNatClampNeg < cnt (I 5) 3 := Nat.not_le.mp fun q => hin (Or.inr q)
  have h0 : ¬ x < 0 := fun q => hin (Or.inl q)
  obtain ⟨k4, k0, g1, g2, g3⟩ := hSt.outer hAO
  have hF := hG.2.1.2.2.1 1 3 (swv1 _ (by omega))
  refine W.aast K.1 K.2.1 (hG.2.1.c1 (i := 3) (by omega)) (fun q h => by cases h) (fun h => by cases h) g1 g2 rfl g3 ⟨h0, by show _ < (arrV _ _ _).slots.size; rw [arrV_size]; exact hlt⟩ (hG.2.1.cr (t := 9) (by omega) (by omega : cnt (I 5) 9 - 1 < cnt (I 5) 9)) (fun q h => by cases h) g3 (va_asg _ _) rfl rfl hdg fun H1 e1 z oq => ?_
  refine kk _ rfl _ rfl H1 _ (hG.to hSt.ok (fun q hq => oq q (fun z => hq (by rw [z]; exact hF))) (hG.2.1.cart hlt ?_ z oq h9)) (hS0.put z oq hF)
  rw [e1, arrV_store]
end SC
