/-! ROWS OF THE LAW'S OWN METHODS: over LW, all that lies behind the start may change -/
theorem LW.cls {E : gE} {F : Nat → Prop} {J : Int64} {D : sD} {I I' : gI} {H H1 : Heap} (h : LW E F J D I H) (hG : GW E J I' H1) (h5 : I' 5 = I 5) (hz : H.size ≤ H1.size) (hk : ∀ q, q < H.size → ¬ gF E q → H1[q]? = H[q]?) : LW E F J D I' H1 :=
  ⟨hG, by rw [h5]; exact h.2.1.keep hz (fun q hq hf => hk q hq (h.2.2 q hf)), h.2.2⟩
theorem gv_cases {y t i : Nat} (h : gv y t i = true) : y < 2 ∨ (y = 2 ∧ t = 10) := by
  by_cases hy : y < 2
  · exact Or.inl hy
  · refine Or.inr ?_
    have e : decide (y < 2) = false := decide_eq_false hy
    unfold gv at h
    rw [e, Bool.false_and, Bool.false_or, Bool.and_eq_true, Bool.and_eq_true] at h
    exact ⟨of_decide_eq_true h.1.1, of_decide_eq_true h.2⟩
theorem sv10 (E : gE) (J : Int64) (I I' : gI) (i : Nat) : sv E J I' 2 10 i = sv E J I 2 10 i := by
  funext j
  unfold sv
  simp only [gk, grf]
  simp
/-- the ghost's numbers may be others -/
theorem LW.ghost {E : gE} {F : Nat → Prop} {J : Int64} {D : sD} {I I' : gI} {H : Heap} (h : LW E F J D I H) (h0 : I' 0 = I 0) (h1 : I' 1 = I 1) (h5 : I' 5 = I 5) : LW E F J D I' H := by
  refine ⟨fun y t i hv => ?_, by rw [h5]; exact h.2.1, h.2.2⟩
  have hg := h.1 y t i hv
  have e : sv E J I' y t i = sv E J I y t i := by
    have hy := gv_cases hv
    rcases hy with hy | ⟨rfl, rfl⟩
    · have e1 : I' y = I y := by
        rcases (show y = 0 ∨ y = 1 by omega) with rfl | rfl
        · exact h0
        · exact h1
      funext j
      unfold sv
      have e2 : grf E I' y t i j = grf E I y t i j := by
        unfold grf
        split <;> try rfl
        rw [e1]
      rw [e1, e2]
    · exact sv10 E J I I' i
  rw [e]
  exact hg
section SL
variable {p : Program} {l : Launch} {e : Env} {R : Room} {s : State} {m : MethodId} {args : Array Value} {below : List Frame} {meth : Method} {c : Code} {H : Heap} {locs : List Loc} {cells slots : Nat} {Q : State → Prop}
variable {cc : ByteArray} {pc : Nat} {ls : Array Slot} {rest st0 : List Value} {E : gE} {F : Nat → Prop} {J : Int64} {D : sD} {I : gI} {own : String} {H0 : Heap} {a : Array Value}
theorem l_put (K : kx E p m c cc own args s) (hA : ∀ q, F q → gN E ≤ q) (hG : LW E F J D I H) (hS0 : va_S (gH E) H0 H locs) {index : Nat} (k : Nat) (hk : k < 9) (hk2 : ¬ (2 ≤ k ∧ k ≤ 5)) (hlink : Cond.fieldLink own index (TX5 k).1 (TX5 k).2.1 (TX5 k).2.2.1 ∈ lw_all) (hfin : (TX5 k).2.2.2 = false) {x : Int32} (hd : parseFieldDescriptor (TX5 k).2.2.1 = some .int) (hdg : decode cc pc = .ok (.putfield index, 3))
    (kk : ∀ I1 : gI, I1 = gU I 5 0 0 k x → ∀ (H1 : Heap) (locs1 : List Loc), LW E F J D I1 H1 → va_S (gH E) H0 H1 locs1 → W p l e R s m args below meth c H1 locs1 cells slots Q (F0 m (pc + 3) ls rest)) : W p l e R s m args below meth c H locs cells slots Q (F0 m pc ls (.int x :: .ref (D 0 0) :: rest)) := by
  obtain ⟨hx, hb, hts, hown, hSt⟩ := K
  obtain ⟨cell, q1, q2, q3, q4⟩ := hG.2.1.c0
  obtain ⟨hSl, hfc, kC, hkC, hkind⟩ := hSt.K.1 5 _ rfl
  obtain ⟨cf, kf, fi, f, hi, hsl⟩ := hSl k hk
  have hlay := hts _ (in_X5 _ (u_in_lay hk))
  unfold u_lay at hlay
  rw [if_neg (by rw [hfin]; decide)] at hlay
  have hst := (u_facts hfc hkC (u_lays hts in_X5 hk) hi).1
  have h6 := u_store hfc hkC hkind hlay hi hd (show narrow .int (.int x) = .int x from rfl) (show fits .int (.int x) = true from rfl)
  have hap := va_apart (own := RX5) hts in_X5 tyX5 tyX5_ok nmX5 hSt.K (show vwCl[5]? = some (RX5, TX5, 9) from rfl)
  have hF := hG.2.1.2.2.1 0 0 (swv0 _)
  refine W.putK hx hb (f := f) ⟨hown, hts _ hlink, ⟨_, _, _, hi⟩, hst⟩ (by rw [q2]; exact h6) q1 q3 (by rw [hsl]; exact k2_hasslot (q4 k hk)) rfl rfl hdg fun H' e1 e2 e3 => ?_
  rw [hsl] at e1 ⊢
  refine kk _ rfl H' _ (hG.to hSt.ok (fun q hf => e3 q (fun z => hf (by rw [z]; exact hF))) ?_) (hS0.put e2 e3 (hA _ hF))
  refine hG.2.1.upd (swv0 _) (swc_of0 (t_OB.to (V := updV (sO D (I 5)) k (.int x)) ⟨_, e1, q2, q3, t_set q4 hap hk (.int x)⟩ (fun j hj => ?_)) 0) e2 e3 (swb_u3 hG.b (by decide)) (cnt_u3 (by decide)) (rln_u3 (by decide)) (fun t' i' hv hn j => ?_)
  · unfold updV sO
    by_cases hjk : j = k
    · subst hjk
      rw [if_pos rfl, if_neg hk2]
      simp [u3]
    · rw [if_neg hjk]
      by_cases hj2 : 2 ≤ j ∧ j ≤ 5
      · rw [if_pos hj2, if_pos hj2]
      · rw [if_neg hj2, if_neg hj2]
        simp [u3, hjk]
  · unfold u3
    rw [if_neg (fun q => hn ⟨q.1, q.2.1⟩)]
theorem l_iast (K : kx E p m c cc own args s) (hA : ∀ q, F q → gN E ≤ q) (hG : LW E F J D I H) (hS0 : va_S (gH E) H0 H locs) {t i : Nat} (ht : t = 2 ∨ t = 3 ∨ t = 4 ∨ t = 5 ∨ t = 9) (hi : i < cnt (I 5) t) {k x : Int32} (hin : vp_in k (rln (I 5) t i)) (hdg : decode cc pc = .ok (.iastore, 1))
    (kk : ∀ (I' : gI), I' = gU I 5 t i k.toNatClampNeg x → ∀ (H1 : Heap) (locs1 : List Loc), LW E F J D I' H1 → va_S (gH E) H0 H1 locs1 → W p l e R s m args below meth c H1 locs1 cells slots Q (F0 m (pc + 1) ls rest)) : W p l e R s m args below meth c H locs cells slots Q (F0 m pc ls (.int x :: .int k :: .ref (D t i) :: rest)) := by
  have hF := hG.2.1.2.2.1 t i (swvr ht hi)
  refine W.iast K.1 K.2.1 (hG.2.1.cr ht hi) (gtys_at K.2.2.2.2 (k := 0) rfl _ _) (fun q => by cases q) (by show ¬ (k < 0 ∨ (arrV _ _ _).slots.size ≤ _); rw [arrV_size]; exact hin) rfl rfl hdg fun H1 e1 z oq => ?_
  refine kk _ rfl H1 _ (hG.to K.2.2.2.2.ok (fun q hf => oq q (fun z => hf (by rw [z]; exact hF))) ?_) (hS0.put z oq (hA _ hF))
  have hr : rln (u3 (I 5) t i k.toNatClampNeg x) t i = rln (I 5) t i := rln_u3 (by omega) t i
  refine hG.2.1.upd (swvr ht hi) (swc_ofr ht ?_) z oq (swb_u3 hG.b (by omega)) (cnt_u3 (by omega)) (rln_u3 (by omega)) (fun t' i' hv hn j => ?_)
  · rw [e1, arrV_store, hr]
    congr 2
    funext j
    unfold updV u3
    by_cases hj : j = k.toNatClampNeg
    · simp [hj]
    · simp [hj]
  · unfold u3
    rw [if_neg (fun q => hn ⟨q.1, q.2.1⟩)]
/-- behind a call of the Sim's -/
theorem l_sv {I' : gI} {k sl : Nat} (hA : ∀ q, F q → gN E ≤ q) (hr : va_Run p l e R s m args below meth c H locs cells slots k sl (F0 m pc ls st0) rest (sQv E F J D I I' a) F) (hS : va_S (gH E) s.heap H locs)
    (kk : ∀ D1 : sD, sKD D D1 (cnt (I 5) 9) → ∀ (H1 : Heap) (locs1 : List Loc), LW E F J D1 I' H1 → va_S (gH E) s.heap H1 locs1 → W p l e R s m args below meth c H1 locs1 (cells + k) (slots + sl) Q (F0 m (pc + 3) ls rest)) : W p l e R s m args below meth c H locs cells slots Q (F0 m pc ls st0) :=
  va_callv hr hS (fun q _ h => hA q h) (fun q h => hA q h) (fun u t H1 locs1 ht hvm hw hB hz hk hS1 => by
    obtain ⟨D1, hD1, hL⟩ := hB
    exact kk D1 hD1 H1 locs1 (by rw [← ht]; exact hL) hS1)
theorem l_siv {v : Int32} {I' : gI} {k sl : Nat} (hA : ∀ q, F q → gN E ≤ q) (hr : va_Run p l e R s m args below meth c H locs cells slots k sl (F0 m pc ls st0) rest (sQiv E F J D I v I' a) F) (hS : va_S (gH E) s.heap H locs)
    (kk : ∀ D1 : sD, sKD D D1 (cnt (I 5) 9) → ∀ (H1 : Heap) (locs1 : List Loc), LW E F J D1 I' H1 → va_S (gH E) s.heap H1 locs1 → W p l e R s m args below meth c H1 locs1 (cells + k) (slots + sl) Q (F0 m (pc + 3) ls (.int v :: rest))) : W p l e R s m args below meth c H locs cells slots Q (F0 m pc ls st0) :=
  va_calli hr hS (fun q _ h => hA q h) (fun q h => hA q h) (fun r u t H1 locs1 ht hvm hw hB hz hk hS1 => by
    subst hw
    obtain ⟨D1, hD1, hL⟩ := hB
    exact kk D1 hD1 H1 locs1 (by rw [← ht]; exact hL) hS1)
theorem l_si {v : Int32} {k sl : Nat} (hA : ∀ q, F q → gN E ≤ q) (hr : va_Run p l e R s m args below meth c H locs cells slots k sl (F0 m pc ls st0) rest (sQi E F J D I v a) F) (hS : va_S (gH E) s.heap H locs)
    (kk : ∀ (H1 : Heap) (locs1 : List Loc), LW E F J D I H1 → va_S (gH E) s.heap H1 locs1 → W p l e R s m args below meth c H1 locs1 (cells + k) (slots + sl) Q (F0 m (pc + 3) ls (.int v :: rest))) : W p l e R s m args below meth c H locs cells slots Q (F0 m pc ls st0) :=
  va_calli hr hS (fun q _ h => hA q h) (fun q h => hA q h) (fun r u t H1 locs1 ht hvm hw hB hz hk hS1 => by
    subst hw
    have hB : LW E F J D I t.heap := hB
    exact kk H1 locs1 (by rw [← ht]; exact hB) hS1)
theorem l_sr {I' : gI} {k sl : Nat} (hA : ∀ q, F q → gN E ≤ q) (hr : va_Run p l e R s m args below meth c H locs cells slots k sl (F0 m pc ls st0) rest (sQr E F J D I I' a) F) (hS : va_S (gH E) s.heap H locs)
    (kk : ∀ D1 : sD, sKD D D1 (cnt (I 5) 9) → ∀ (H1 : Heap) (locs1 : List Loc), LW E F J D1 I' H1 → va_S (gH E) s.heap H1 locs1 → W p l e R s m args below meth c H1 locs1 (cells + k) (slots + sl) Q (F0 m (pc + 3) ls (.ref (D1 9 (cnt (I 5) 9)) :: rest))) : W p l e R s m args below meth c H locs cells slots Q (F0 m pc ls st0) :=
  va_callr hr hS (fun q _ h => hA q h) (fun q h => hA q h) (fun u ra t H1 locs1 ht hvm hw hB hz hk hS1 => by
    obtain ⟨D1, hD1, hra, hL⟩ := hB
    subst hra
    exact kk D1 hD1 H1 locs1 (by rw [← ht]; exact hL) hS1)
/-- a call of the class's -/
theorem l_runV {y : MethodName} {b : ByteArray} {n nL na f L index : Nat} {r : Option FieldType} {Qc : Array Value → State → Outcome → State → Prop} {As : List Value}
    (K : kx E p m c cc own args s) (hml : c.maxLocals = nL) (hcal : gcal y b n r na) (hlink : Cond.methodLink own index y ∈ lw_all) (hM : Met l y (gws y b n r) (grm f L) (va_Pc (.ref (gA E 2 10 0) :: As) (gP E J I)) Qc 0 0 (gF E))
    (hG : GW E J I H) (hS : va_S (gH E) s.heap H locs) (hC : y.cls = RX4) (hn : As.length = na) (hsize : ls.size = nL) (hW : (rest.map fun v => v.category).sum ≤ 8) (hR : f + 1 ≤ R.frames ∧ 8 + (n + 11) + L ≤ R.locals) (hdg : decode cc pc = .ok (.invokevirtual index, 3)) (hf : cells ≤ R.cells ∧ slots ≤ R.slots) :
    va_Run p l e R s m args below meth c H locs cells slots 0 0 (F0 m pc ls (As.reverse ++ .ref (gA E 2 10 0) :: rest)) rest (Qc (Value.ref (gA E 2 10 0) :: As).toArray) (gF E) := by
  obtain ⟨hx, hb, hts, hown, hSt⟩ := id K
  obtain ⟨c1, c2, c3, c4, c5⟩ := hcal
  have cw : CallW R s args own y.cls index y b n r (gws y b n r) (grm f L) 0 0 na := ⟨callB_of na hts (gws_good c1) rfl rfl rfl (hts _ c2) (hts _ hlink) c5 hR, hts _ c3, hts _ c4⟩
  exact va_runV (As := As) (rest := rest) ⟨hx, hb, hml, hown, hts⟩ hM cw ⟨gP_blind _, by rw [hC]; exact g_recv K hG (show gv 2 10 0 = true from rfl) rfl rfl, fun U hU hW => ⟨rfl, ⟨by rw [hU]; exact hG, K.2.2.2.2.moved hW (by rw [hU]; exact hS.1) (fun q h1 h2 => by rw [hU]; exact hS.2.1 q h1 h2)⟩⟩⟩ rfl hn hsize rfl (by show 2 * 0 + _ ≤ 8; omega) hdg hf
theorem l_runVX {y : MethodName} {b : ByteArray} {n nL na f L k index : Nat} {r : Option FieldType} {Qc : Array Value → State → Outcome → State → Prop} {XC : String → State → State → Prop} {As : List Value}
    (K : kx E p m c cc own args s) (hml : c.maxLocals = nL) (hcal : gcal y b n r na) (hlink : Cond.methodLink own index y ∈ lw_all) (hM : vx_Met l y (gws y b n r) (grx f L k) (va_Pc (.ref (gA E 2 10 0) :: As) (gP E J I)) Qc XC k (6 * k) (gF E))
    (hG : GW E J I H) (hS : va_S (gH E) s.heap H locs) (hC : y.cls = RX4) (hn : As.length = na) (hsize : ls.size = nL) (hW : (rest.map fun v => v.category).sum ≤ 8) (hR : f + 1 ≤ R.frames ∧ 8 + (n + 11) + L ≤ R.locals) (hdg : decode cc pc = .ok (.invokevirtual index, 3)) (hf : cells + k ≤ R.cells ∧ slots + 6 * k ≤ R.slots) :
    vx_Run p l e R s m args below meth c H locs cells slots k (6 * k) (F0 m pc ls (As.reverse ++ .ref (gA E 2 10 0) :: rest)) rest (Qc (Value.ref (gA E 2 10 0) :: As).toArray) XC (gF E) := by
  obtain ⟨hx, hb, hts, hown, hSt⟩ := id K
  obtain ⟨c1, c2, c3, c4, c5⟩ := hcal
  have cw : CallW R s args own y.cls index y b n r (gws y b n r) (grx f L k) k (6 * k) na := ⟨callB_of na hts (gws_good c1) rfl rfl rfl (hts _ c2) (hts _ hlink) c5 hR, hts _ c3, hts _ c4⟩
  exact vx_runV (As := As) (rest := rest) ⟨hx, hb, hml, hown, hts⟩ hM cw ⟨gP_blind _, by rw [hC]; exact g_recv K hG (show gv 2 10 0 = true from rfl) rfl rfl, fun U hU hW => ⟨rfl, ⟨by rw [hU]; exact hG, K.2.2.2.2.moved hW (by rw [hU]; exact hS.1) (fun q h1 h2 => by rw [hU]; exact hS.2.1 q h1 h2)⟩⟩⟩ rfl hn hsize rfl (by show 2 * 0 + _ ≤ 8; omega) hdg hf
theorem gFH {q : Nat} (h : gF E q) : gH E q := h.1
theorem l_ki {v : Int32} {I' : gI} (hL : LW E F J D I H) (hr : va_Run p l e R s m args below meth c H locs cells slots 0 0 (F0 m pc ls st0) rest (va_Qi (fun x (_ : Unit) => x = v) (fun _ t => GW E J I' t.heap) (gF E) a) (gF E)) (hS : va_S (gH E) s.heap H locs) (h5 : I' 5 = I 5)
    (kk : ∀ (H1 : Heap) (locs1 : List Loc), LW E F J D I' H1 → va_S (gH E) s.heap H1 locs1 → W p l e R s m args below meth c H1 locs1 cells slots Q (F0 m (pc + 3) ls (.int v :: rest))) : W p l e R s m args below meth c H locs cells slots Q (F0 m pc ls st0) :=
  va_calli hr hS (fun q _ h => gFH h) (fun q h => gFH h) (fun r u t H1 locs1 ht hvm hw hB hz hk hS1 => by
    subst hw
    have hB : GW E J I' t.heap := hB
    exact kk H1 locs1 (hL.cls (by rw [← ht]; exact hB) h5 hz hk) hS1)
theorem l_kl {v : Int64} {I' : gI} (hL : LW E F J D I H) (hr : va_Run p l e R s m args below meth c H locs cells slots 0 0 (F0 m pc ls st0) rest (va_Ql (fun x (_ : Unit) => x = v) (fun _ t => GW E J I' t.heap) (gF E) a) (gF E)) (hS : va_S (gH E) s.heap H locs) (h5 : I' 5 = I 5)
    (kk : ∀ (H1 : Heap) (locs1 : List Loc), LW E F J D I' H1 → va_S (gH E) s.heap H1 locs1 → W p l e R s m args below meth c H1 locs1 cells slots Q (F0 m (pc + 3) ls (.long v :: rest))) : W p l e R s m args below meth c H locs cells slots Q (F0 m pc ls st0) :=
  va_calll hr hS (fun q _ h => gFH h) (fun q h => gFH h) (fun r u t H1 locs1 ht hvm hw hB hz hk hS1 => by
    subst hw
    have hB : GW E J I' t.heap := hB
    exact kk H1 locs1 (hL.cls (by rw [← ht]; exact hB) h5 hz hk) hS1)
theorem l_kd {v : UInt64} {I' : gI} (hL : LW E F J D I H) (hr : va_Run p l e R s m args below meth c H locs cells slots 0 0 (F0 m pc ls st0) rest (va_Qd (fun x (_ : Unit) => x = v) (fun _ t => GW E J I' t.heap) (gF E) a) (gF E)) (hS : va_S (gH E) s.heap H locs) (h5 : I' 5 = I 5)
    (kk : ∀ (H1 : Heap) (locs1 : List Loc), LW E F J D I' H1 → va_S (gH E) s.heap H1 locs1 → W p l e R s m args below meth c H1 locs1 cells slots Q (F0 m (pc + 3) ls (.double v :: rest))) : W p l e R s m args below meth c H locs cells slots Q (F0 m pc ls st0) :=
  va_calld hr hS (fun q _ h => gFH h) (fun q h => gFH h) (fun r u t H1 locs1 ht hvm hw hB hz hk hS1 => by
    subst hw
    have hB : GW E J I' t.heap := hB
    exact kk H1 locs1 (hL.cls (by rw [← ht]; exact hB) h5 hz hk) hS1)
/-- .. of a method that may throw -/
theorem l_kx {v : Int32} {ex k : Nat} {I' : gI} (hL : LW E F J D I H) (hr : vx_Run p l e R s m args below meth c H locs cells slots k (6 * k) (F0 m pc ls st0) rest (va_Qi (fun z (_ : Unit) => ex = 0 ∧ z = v) (fun _ t => GW E J I' t.heap) (gF E) a) (gXC E J I ex) (gF E)) (hS : va_S (gH E) s.heap H locs) (h5 : I' 5 = I 5)
    (kx : ∀ (ce : Cell) (q9 : Addr) (H1 : Heap) (locs1 : List Loc), ex ≠ 0 → LW E F J D I H1 → va_S (gH E) s.heap H1 locs1 → H1[q9]? = some ce → ce.vm = .none → s.vm.findClass (gxn ex) = some ce.cls → vx_W p l e R s m args below meth c H1 locs1 (cells + k) (slots + 6 * k) Q (F0 m pc ls rest) q9)
    (kk : ex = 0 → ∀ (H1 : Heap) (locs1 : List Loc), LW E F J D I' H1 → va_S (gH E) s.heap H1 locs1 → W p l e R s m args below meth c H1 locs1 (cells + k) (slots + 6 * k) Q (F0 m (pc + 3) ls (.int v :: rest))) : W p l e R s m args below meth c H locs cells slots Q (F0 m pc ls st0) :=
  vx_calli hr hS (fun q _ h => gFH h) (fun q h => gFH h) (fun q _ h => gFH h) (fun E9 ce q9 u t H1 locs1 ht hvm hp hB hz hk hS1 hce hcv hcl => kx ce q9 H1 locs1 hp (hL.cls (by rw [← ht]; exact hB.2) rfl hz hk) hS1 hce hcv (by rw [← hB.1]; exact hcl))
    (fun r u t H1 locs1 ht hvm hw hB hz hk hS1 => by
      obtain ⟨h1, h2⟩ := hw
      subst h2
      have hB : GW E J I' t.heap := hB
      exact kk h1 H1 locs1 (hL.cls (by rw [← ht]; exact hB) h5 hz hk) hS1)
/-- .. that doesn't throw here -/
theorem l_kn {v : Int32} {ex k : Nat} {I' : gI} (hL : LW E F J D I H) (hr : vx_Run p l e R s m args below meth c H locs cells slots k (6 * k) (F0 m pc ls st0) rest (va_Qi (fun z (_ : Unit) => ex = 0 ∧ z = v) (fun _ t => GW E J I' t.heap) (gF E) a) (gXC E J I ex) (gF E)) (hS : va_S (gH E) s.heap H locs) (h5 : I' 5 = I 5) (h0 : ex = 0)
    (kk : ∀ (H1 : Heap) (locs1 : List Loc), LW E F J D I' H1 → va_S (gH E) s.heap H1 locs1 → W p l e R s m args below meth c H1 locs1 (cells + k) (slots + 6 * k) Q (F0 m (pc + 3) ls (.int v :: rest))) : W p l e R s m args below meth c H locs cells slots Q (F0 m pc ls st0) :=
  l_kx hL hr hS h5 (fun _ _ _ _ h => absurd h0 h) (fun _ => kk)
end SL
