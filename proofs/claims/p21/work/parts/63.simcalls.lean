/-! CONTRACTS of the Sim's methods, calls of them; 'more' and 'less'; the rows that stand on these -/
def sK (E : gE) (U : State) : Prop := gS E U ∧ va_AOA U
theorem sK.blind {E : gE} {U : State} (g : JFrame) (mk : MethodId) (a : Array Value) (h : sK E U) : sK E (U.calling g mk a) := ⟨h.1.blind g mk a, va_AOA.moved (u := U) (U := U.calling g mk a) (Vm.Alike.refl U.vm) h.2⟩
def sM (l : Launch) (E : gE) (y : MethodName) (b : ByteArray) (n : Nat) (r : Option FieldType) (f k sl L : Nat) (av : List Value) (P : Heap → Prop) (Qc : Array Value → State → Outcome → State → Prop) (A : Nat → Prop) : Prop := Met l y (gws y b n r) (rmc f k sl L) (va_Pc av (fun U => P U.heap ∧ sK E U)) Qc k sl A
theorem s_blind {E : gE} {P : Heap → Prop} (av : List Value) : FrameBlind (va_Pc av (fun U => P U.heap ∧ sK E U)) := fun a9 U g mk q => ⟨q.1, q.2.1, q.2.2.blind g mk a9⟩
theorem tsI : (FieldType.array .int).toString = "[I" := by decide +kernel
section SC
variable {p : Program} {l : Launch} {e : Env} {R : Room} {s : State} {m : MethodId} {args : Array Value} {below : List Frame} {meth : Method} {c : Code} {H : Heap} {locs : List Loc} {cells slots : Nat} {Q : State → Prop}
variable {cc : ByteArray} {pc : Nat} {ls : Array Slot} {rest : List Value} {E : gE} {F : Nat → Prop} {J : Int64} {D : sD} {I : gI} {own : String} {H0 : Heap}
theorem s_entry {y : MethodName} {b : ByteArray} {n f k sl L : Nat} {r : Option FieldType} {av : List Value} {lv : List (Nat × Value)} {P : Heap → Prop} {Qc : Array Value → State → Outcome → State → Prop} {A : Nat → Prop} (hy : plainName y.cls = true) (hlen : (lg_sl av).length ≤ n) (hlv : lv_args 0 av = lv)
    (body : ∀ (p : Program) (e : Env) (s : State) (m : MethodId) (below : List Frame) (meth : Method) (c : Code) (ls : Array Slot), kx E p m c b y.cls av.toArray s → va_AOA s → P s.heap → va_S A s.heap s.heap [] → c.maxLocals = n → meth.sig.returnType = r → meth.locks = false → lv_has ls n lv →
      W p l e (rmc f k sl L) s m av.toArray below meth c s.heap [] 0 0 (MQ below Qc av.toArray s k sl A) (F0 m 0 ls [])) : sM l E y b n r f k sl L av P Qc A := by
  refine Met.ofW (cc := b) (maxL := n) (ret := r) hy rfl ?_
  intro p e s m args below meth c s₁ B hml hv
  obtain ⟨rfl, hP, hSt, hAO⟩ := hv
  have hts0 := atoms_spec (ws := gws y b n r) B.pre
  have hl := lv_entry av hlen
  rw [lg_entry_eq]
  rw [hlv] at hl
  exact body p e s m below meth c _ ⟨B.exec, B.bytes, fun w hw => hts0 w (List.mem_cons_of_mem _ hw), findClass_of_methodNamed B.named, hSt⟩ hAO hP va_S.rf hml B.returns B.notSynchronized hl
theorem s_pre (K : kx E p m c cc own args s) (hAO : va_AOA s) {A0 : Nat → Prop} (hA : ∀ q, A0 q → gN E ≤ q) (hS : va_S A0 s.heap H locs) {U : State} (hU : U.heap = H) (hW : s.WarmedH U.vm) : sK E U :=
  ⟨K.2.2.2.2.moved hW (by rw [hU]; exact hS.1) (fun q h1 h2 => by rw [hU]; exact hS.2.1 q h1 (fun h => h2 (hA q h))), va_AOA.moved hW.alike hAO⟩
theorem s_runS {y : MethodName} {b : ByteArray} {n nL na f k sl L index : Nat} {r : Option FieldType} {Qc : Array Value → State → Outcome → State → Prop} {As : List Value} {P : Heap → Prop} {A A0 : Nat → Prop} (K : kx E p m c cc own args s) (hAO : va_AOA s) (hA : ∀ q, A0 q → gN E ≤ q) (hml : c.maxLocals = nL) (hcal : gcaS y b n r na) (hlink : Cond.methodLink own index y ∈ lw_all) (hM : sM l E y b n r f k sl L As P Qc A)
    (hP : P H) (hS : va_S A0 s.heap H locs) (hn : As.length = na) (hsize : ls.size = nL) (hW : (rest.map fun v => v.category).sum ≤ 8) (hR : f + 1 ≤ R.frames ∧ 8 + (n + 11) + L ≤ R.locals) (hdg : decode cc pc = .ok (.invokestatic index, 3)) (hf : cells + k ≤ R.cells ∧ slots + sl ≤ R.slots) :
    va_Run p l e R s m args below meth c H locs cells slots k sl (F0 m pc ls (As.reverse ++ rest)) rest (Qc As.toArray) A := by
  obtain ⟨hx, hb, hts, hown, hSt⟩ := id K
  obtain ⟨c1, c2, c3, c5⟩ := hcal
  have cw : CallB R s args own index y b n r (gws y b n r) (rmc f k sl L) k sl na ∧ (Cond.static y).before args s = true := ⟨callB_of na hts (gws_good c1) rfl rfl rfl (hts _ c2) (hts _ hlink) c5 hR, hts _ c3⟩
  exact va_runS (As := As) (rest := rest) ⟨hx, hb, hml, hown, hts⟩ hM cw ⟨s_blind _, fun U hU hW => ⟨rfl, by rw [hU]; exact hP, s_pre K hAO hA hS hU hW⟩⟩ rfl hn hsize rfl (by show 2 * 0 + _ ≤ 8; omega) hdg hf
theorem s_recv (K : kx E p m c cc own args s) (hG : LW E F J D I H) : ∃ cellB : Cell, H[D 0 0]? = some cellB ∧ cellB.vm.isStatics = false ∧ s.vm.findClass RX5 = some cellB.cls := by
  obtain ⟨cell, q1, q2, q3, q4⟩ := hG.2.1.c0
  exact ⟨cell, q1, by rw [q3]; rfl, by rw [q2]; exact (K.2.2.2.2.K.1 5 _ rfl).2.1⟩
theorem s_runV {y : MethodName} {b : ByteArray} {n nL na f k sl L index : Nat} {r : Option FieldType} {Qc : Array Value → State → Outcome → State → Prop} {As : List Value} {P : Heap → Prop} {A A0 : Nat → Prop} (K : kx E p m c cc own args s) (hAO : va_AOA s) (hA : ∀ q, A0 q → gN E ≤ q) (hml : c.maxLocals = nL) (hcal : gcal y b n r na) (hlink : Cond.methodLink own index y ∈ lw_all) (hM : sM l E y b n r f k sl L (.ref (D 0 0) :: As) P Qc A)
    (hG : LW E F J D I H) (hP : P H) (hS : va_S A0 s.heap H locs) (hC : y.cls = RX5) (hn : As.length = na) (hsize : ls.size = nL) (hW : (rest.map fun v => v.category).sum ≤ 8) (hR : f + 1 ≤ R.frames ∧ 8 + (n + 11) + L ≤ R.locals) (hdg : decode cc pc = .ok (.invokevirtual index, 3)) (hf : cells + k ≤ R.cells ∧ slots + sl ≤ R.slots) :
    va_Run p l e R s m args below meth c H locs cells slots k sl (F0 m pc ls (As.reverse ++ .ref (D 0 0) :: rest)) rest (Qc (Value.ref (D 0 0) :: As).toArray) A := by
  obtain ⟨hx, hb, hts, hown, hSt⟩ := id K
  obtain ⟨c1, c2, c3, c4, c5⟩ := hcal
  have cw : CallW R s args own y.cls index y b n r (gws y b n r) (rmc f k sl L) k sl na := ⟨callB_of na hts (gws_good c1) rfl rfl rfl (hts _ c2) (hts _ hlink) c5 hR, hts _ c3, hts _ c4⟩
  exact va_runV (As := As) (rest := rest) ⟨hx, hb, hml, hown, hts⟩ hM cw ⟨s_blind _, by rw [hC]; exact s_recv K hG, fun U hU hW => ⟨rfl, by rw [hU]; exact hP, s_pre K hAO hA hS hU hW⟩⟩ rfl hn hsize rfl (by show 2 * 0 + _ ≤ 8; omega) hdg hf
/-- a new row of ints -/
theorem s_newi (K : kx E p m c cc own args s) (hG : LW E F J D I H) (hS0 : va_S F H0 H locs) {n : Int32} {N : Nat} (hn : n = nI N) (hN : N ≤ 330) (h9 : cnt (I 5) 9 < 330) (hcells : cells + 1 ≤ R.cells) (hslots : slots + N ≤ R.slots) (hdg : decode cc pc = .ok (.newarray .int, 2))
    (kk : ∀ (a : Nat) (D1 : sD), D1 = u2 D 9 (cnt (I 5) 9) a → ∀ I1 : gI, I1 = gset I 5 (pLoose (I 5) N (fun _ => 0)) → ∀ H1 : Heap, LW E F J D1 I1 H1 → va_S F H0 H1 locs → W p l e R s m args below meth c H1 locs (cells + 1) (slots + N) Q (F0 m (pc + 2) ls (.ref (D1 9 (cnt (I 5) 9)) :: rest))) : W p l e R s m args below meth c H locs cells slots Q (F0 m pc ls (.int n :: rest)) := by
  have hSt := K.2.2.2.2
  subst hn
  refine va_newaK (atype := .int) K.1 K.2.1 (K.2.2.1 _ q54) rfl hdg rfl (nI_pos (by omega)) (nI_clamp (by omega)) (by show N * 4 ≤ 536870912; omega) hcells hslots rfl fun H1 cA e1 z1 o1 hAr hNm => ?_
  obtain rfl : cA = E.2.1 0 := Option.some.inj (hNm.symm.trans hSt.int)
  have hF : F H.size := hG.2.1.2.2.2.1 _ (Nat.le_refl _)
  have hSW : SW E F D (I 5) H1 := hG.2.1.keep (by omega) (fun q hq _ => o1 q hq)
  have hL := hSW.loose (a := H.size) (n := N) (f := fun _ => 0) e1 (fun t i hv => Nat.ne_of_lt (hG.2.1.lt hv)) hF hN h9
  have hk := kk H.size _ rfl _ rfl H1 (hG.to hSt.ok (fun q hq => by
    by_cases h : q < H.size
    · exact o1 q h
    · exact absurd (hG.2.1.2.2.2.1 q (by omega)) hq) hL) (va_S.grow hS0 z1 o1)
  rw [show u2 D 9 (cnt (I 5) 9) H.size 9 (cnt (I 5) 9) = H.size from if_pos ⟨rfl, rfl⟩] at hk
  exact hk
/-- a row into the carts' row -/
theorem s_cart (K : kx E p m c cc own args s) (hAO : va_AOA s) (hG : LW E F J D I H) (hS0 : va_S F H0 H locs) {x : Int32} (hin : vp_in x (cnt (I 5) 3)) (h9 : 0 < cnt (I 5) 9) (hdg : decode cc pc = .ok (.aastore, 1))
    (kk : ∀ D1 : sD, D1 = u2 D 3 x.toNatClampNeg (D 9 (cnt (I 5) 9 - 1)) → ∀ I1 : gI, I1 = gset I 5 (pCart (I 5) x.toNatClampNeg) → ∀ (H1 : Heap) (locs1 : List Loc), LW E F J D1 I1 H1 → va_S F H0 H1 locs1 → W p l e R s m args below meth c H1 locs1 cells slots Q (F0 m (pc + 1) ls rest)) : W p l e R s m args below meth c H locs cells slots Q (F0 m pc ls (.ref (D 9 (cnt (I 5) 9 - 1)) :: .int x :: .ref (D 1 3) :: rest)) := by
  have hSt := K.2.2.2.2
  have hlt : x.toNatClampNeg < cnt (I 5) 3 := Nat.not_le.mp fun q => hin (Or.inr q)
  have h0 : ¬ x < 0 := fun q => hin (Or.inl q)
  obtain ⟨k4, k0, g1, g2, g3⟩ := hSt.outer hAO
  have hF := hG.2.1.2.2.1 1 3 (swv1 _ (by omega))
  refine W.aast K.1 K.2.1 (hG.2.1.c1 (i := 3) (by omega)) (fun q h => by cases h) (fun h => by cases h) g1 g2 rfl g3 ⟨h0, by show _ < (arrV _ _ _).slots.size; rw [arrV_size]; exact hlt⟩ (hG.2.1.cr (t := 9) (by omega) (by omega : cnt (I 5) 9 - 1 < cnt (I 5) 9)) (fun q h => by cases h) g3 (va_asg _ _) rfl rfl hdg fun H1 e1 z oq => ?_
  refine kk _ rfl _ rfl H1 _ (hG.to hSt.ok (fun q hq => oq q (fun z => hq (by rw [z]; exact hF))) (hG.2.1.cart hlt ?_ z oq h9)) (hS0.put z oq hF)
  rw [e1, arrV_store]
end SC
/-! more -/
def moP (E : gE) (n0 a b N : Nat) (r : Nat → Nat) (H : Heap) : Prop := H.size = n0 ∧ H[a]? = some (arrV (E.2.1 4) N (fun j => .ref (r j))) ∧ (∀ j, j < N → ∃ (n : Nat) (g : Nat → Value), H[r j]? = some (arrV (E.2.1 0) n g)) ∧ (∃ (n : Nat) (g : Nat → Value), H[b]? = some (arrV (E.2.1 0) n g)) ∧ N < 330
def moQ (E : gE) (n0 b N : Nat) (r : Nat → Nat) : Array Value → State → Outcome → State → Prop := va_Qr (fun (_ : Unit) => True) (fun _ x t => x = n0 ∧ t.heap[n0]? = some (arrV (E.2.1 4) (N + 1) (fun j => if j < N then .ref (r j) else .ref b))) (fun q => n0 ≤ q)
set_option maxHeartbeats 4000000 in
theorem m_S_more (l : Launch) (E : gE) (n0 a b N : Nat) (r : Nat → Nat) : sM l E yX5_more cX5_more 4 (some (.array (.array .int))) 0 1 330 0 [.ref a, .ref b] (moP E n0 a b N r) (moQ E n0 b N r) (fun q => n0 ≤ q) := by
  refine s_entry (lv := [(0, .ref a), (1, .ref b)]) (by decide) (Nat.le_of_ble_eq_true rfl) rfl ?_
  intro p e s m below meth c ls K hAO hP hS hml hr hlocks hl
  obtain ⟨hz, ha, hrr, ⟨nb, gb, hbb⟩, hN⟩ := hP
  have K : kx E p m c cX5_more "HayThievesLaw$Sim" _ s := K
  have hx := K.1
  have hb := K.2.1
  have hts := K.2.2.1
  have hown := K.2.2.2.1
  have hSt := K.2.2.2.2
  obtain ⟨k4, k0, g1, g2, g3⟩ := hSt.outer hAO
  have ha0 : a < n0 := by rw [← hz]; exact (Array.getElem?_eq_some_iff.mp ha).1
  refine lv_aload_n hx hb dX5_more_0 rfl (lv_at hl 0 rfl) ?_
  refine W.alen (n := nI N) hx hb ha (gtys_at hSt (k := 4) rfl _ _) (by rw [arrV_size]; rfl) rfl rfl dX5_more_1 ?_
  refine lv_iconst (v := 1) hx hb dX5_more_2 (by decide) ?_
  refine lv_iadd hx hb dX5_more_3 ?_
  rw [nI_1]
  refine W.anewA (t := .int) hx hb hown (by rw [tsI]; exact hts _ q547) hAO rfl dX5_more_4 rfl (nI_pos (by omega)) (by rw [nI_clamp (by omega)]; omega) (Nat.le_of_ble_eq_true rfl) (by rw [nI_clamp (by omega)]; show 0 + (N + 1) ≤ 330; omega) fun cA kA comp f1 f2 f3 f4 => ?_
  obtain rfl : cA = E.2.1 4 := Option.some.inj (f1.symm.trans hSt.arr)
  rw [nI_clamp (show N + 1 < 2 ^ 31 by omega)]
  generalize hH1 : s.heap.push ({ cls := E.2.1 4, slots := Array.replicate (N + 1) .null, vm := .none } : Cell) = H1
  have z1 : H1.size = n0 + 1 := by rw [← hH1, Array.size_push, hz]
  have e1 : H1[n0]? = some (arrV (E.2.1 4) (N + 1) (fun _ => .null)) := by rw [← hH1, ← hz, Array.getElem?_push_size, ← arrV_new]
  have o1 : ∀ q : Nat, q < n0 → H1[q]? = s.heap[q]? := fun q hq => by rw [← hH1, Array.getElem?_push, if_neg (by omega)]
  rw [hz]
  refine W.widen (k := 1) (n := 330) (by omega) (by omega) ?_
  have hS1 : va_S (fun q => n0 ≤ q) s.heap H1 [] := ⟨by omega, fun q h1 h2 => o1 q (by omega), fun _ h => by cases h⟩
  refine lv_astore_n (lv' := [(2, .ref n0), (0, .ref a), (1, .ref b)]) hx hb dX5_more_7 rfl hl (by decide) rfl (fun ls hl => ?_)
  refine lv_iconst (v := 0) hx hb dX5_more_8 (by decide) ?_
  refine lv_istore_n (lv' := [(3, .int 0), (2, .ref n0), (0, .ref a), (1, .ref b)]) hx hb dX5_more_9 rfl hl (by decide) rfl (fun ls hl => ?_)
  have loop : ∀ (k i : Nat) (H : Heap) (locs : List Loc) (ls : Array Slot), i + k = N → H.size = n0 + 1 → H[n0]? = some (arrV (E.2.1 4) (N + 1) (fun j => if j < i then .ref (r j) else .null)) → (∀ q : Nat, q < n0 → H[q]? = s.heap[q]?) → va_S (fun q => n0 ≤ q) s.heap H locs → lv_has ls 4 [(3, .int (nI i)), (2, .ref n0), (0, .ref a), (1, .ref b)] →
      W p l e (rmc 0 1 330 0) s m ([.ref a, .ref b] : List Value).toArray below meth c H locs 1 330 (MQ below (moQ E n0 b N r) ([.ref a, .ref b] : List Value).toArray s 1 330 (fun q => n0 ≤ q)) (F0 m 10 ls []) := by
    intro k
    induction k with
    | zero =>
      intro i H locs ls hi hz hc ho hS hl
      obtain rfl : i = N := by omega
      refine lv_iload_n hx hb dX5_more_10 rfl (lv_at hl 0 rfl) ?_
      refine lv_aload_n hx hb dX5_more_11 rfl (lv_at hl 2 rfl) ?_
      refine W.alen (n := nI i) hx hb (by rw [ho a ha0]; exact ha) (gtys_at hSt (k := 4) rfl _ _) (by rw [arrV_size]; rfl) rfl rfl dX5_more_12 ?_
      refine lv_icmp_ge (tgt := 28) hx hb dX5_more_13 (by decide) (fun _ => ?_) (fun h => absurd (nI_le (Nat.le_refl i) (by omega)) h)
      refine lv_aload_n hx hb dX5_more_28 rfl (lv_at hl 1 rfl) ?_
      refine lv_aload_n hx hb dX5_more_29 rfl (lv_at hl 2 rfl) ?_
      refine W.alen (n := nI i) hx hb (by rw [ho a ha0]; exact ha) (gtys_at hSt (k := 4) rfl _ _) (by rw [arrV_size]; rfl) rfl rfl dX5_more_30 ?_
      refine lv_aload_n hx hb dX5_more_31 rfl (lv_at hl 3 rfl) ?_
      have hb0 : b < n0 := by rw [← ‹s.heap.size = n0›]; exact (Array.getElem?_eq_some_iff.mp hbb).1
      refine W.aast hx hb hc (fun q h => by cases h) (fun h => by cases h) g1 g2 rfl g3 ⟨nI_pos (by omega), by show _ < (arrV _ _ _).slots.size; rw [arrV_size, nI_clamp (by omega)]; omega⟩ (by rw [ho b hb0]; exact hbb) (fun q h => by cases h) g3 (va_asg _ _) rfl rfl dX5_more_32 fun H1 e1 z oq => ?_
      have hS := hS.put z oq (show n0 ≤ n0 from Nat.le_refl _)
      refine lv_aload_n hx hb dX5_more_33 rfl (lv_at hl 1 rfl) ?_
      refine W.aret (v := .ref n0) hx hb hr (Or.inr ⟨_, rfl⟩) (Or.inr ⟨n0, rfl⟩) (fun t ht hW => ⟨⟨(), n0, rfl, trivial, rfl, ?_⟩, hS.F ht⟩) hS.2.2 dX5_more_34 hlocks
      rw [ht, e1, arrV_store, nI_clamp (by omega)]
      refine congrArg some (arrV_alike (fun j hj => ?_))
      unfold updV
      by_cases e : j = i
      · rw [if_pos e, if_neg (by omega)]
      · rw [if_neg e]
        by_cases e2 : j < i
        · rw [if_pos e2, if_pos e2]
        · omega
    | succ k ih =>
      intro i H locs ls hi hz hc ho hS hl
      obtain ⟨nr, gr, hri⟩ := hrr i (by omega)
      have hr0 : r i < n0 := by rw [← ‹s.heap.size = n0›]; exact (Array.getElem?_eq_some_iff.mp hri).1
      refine lv_iload_n hx hb dX5_more_10 rfl (lv_at hl 0 rfl) ?_
      refine lv_aload_n hx hb dX5_more_11 rfl (lv_at hl 2 rfl) ?_
      refine W.alen (n := nI N) hx hb (by rw [ho a ha0]; exact ha) (gtys_at hSt (k := 4) rfl _ _) (by rw [arrV_size]; rfl) rfl rfl dX5_more_12 ?_
      refine lv_icmp_ge (tgt := 28) hx hb dX5_more_13 (by decide) (fun h => absurd h (nI_ge (by omega) (by omega))) (fun _ => ?_)
      refine lv_aload_n hx hb dX5_more_16 rfl (lv_at hl 1 rfl) ?_
      refine lv_iload_n hx hb dX5_more_17 rfl (lv_at hl 0 rfl) ?_
      refine lv_aload_n hx hb dX5_more_18 rfl (lv_at hl 2 rfl) ?_
      refine lv_iload_n hx hb dX5_more_19 rfl (lv_at hl 0 rfl) ?_
      refine W.aald (v := .ref (r i)) (ty := .array .int) hx hb (by rw [ho a ha0]; exact ha) (gtys_at hSt (k := 4) rfl _ _) rfl (fun q => by cases q) (by show ¬ (_ ∨ (arrV _ _ _).slots.size ≤ _); rw [arrV_size]; exact vp_in_nI (by omega) (by omega)) (by show (arrV _ _ _).slots[_]? = _; rw [nI_clamp (by omega), arrV_read _ _ (by omega)]) rfl rfl dX5_more_20 ?_
      refine W.aast hx hb hc (fun q h => by cases h) (fun h => by cases h) g1 g2 rfl g3 ⟨nI_pos (by omega), by show _ < (arrV _ _ _).slots.size; rw [arrV_size, nI_clamp (by omega)]; omega⟩ (by rw [ho _ hr0]; exact hri) (fun q h => by cases h) g3 (va_asg _ _) rfl rfl dX5_more_21 fun H1 e1 z oq => ?_
      have hS := hS.put z oq (show n0 ≤ n0 from Nat.le_refl _)
      refine lv_iinc (v := nI (i + 1)) (lv' := [(3, .int (nI (i + 1))), (2, .ref n0), (0, .ref a), (1, .ref b)]) hx hb dX5_more_22 hl (k := 0) rfl (nI_add i 1) (by decide) rfl (fun ls hl => ?_)
      refine lv_goto (tgt := 10) hx hb dX5_more_25 (by decide) ?_
      refine ih (i + 1) H1 _ ls (by omega) (by omega) ?_ (fun q hq => (oq q (by omega)).trans (ho q hq)) hS hl
      rw [e1, arrV_store, nI_clamp (by omega)]
      refine congrArg some (arrV_alike (fun j hj => ?_))
      unfold updV
      by_cases e : j = i
      · rw [if_pos e, if_pos (by omega), e]
      · rw [if_neg e]
        by_cases e2 : j < i
        · rw [if_pos e2, if_pos (by omega)]
        · rw [if_neg e2, if_neg (by omega)]
  exact loop N 0 H1 [] ls (by omega) z1 (by rw [e1]; exact congrArg some (arrV_alike (fun j _ => by rw [if_neg (by omega)]))) o1 hS1 hl
