/-! THE LAW'S HELPERS: they call the class, write the answer into out[0], and turn an exception into 1 or 2 -/
section GL
variable {p : Program} {l : Launch} {e : Env} {R : Room} {s : State} {m : MethodId} {args : Array Value} {below : List Frame} {meth : Method} {c : Code} {H : Heap} {locs : List Loc} {cells slots : Nat} {Q : State → Prop}
variable {cc : ByteArray} {pc : Nat} {ls : Array Slot} {rest : List Value} {E : gE} {J : Int64} {I : gI} {own : String}
theorem g_lald (K : kx E p m c cc own args s) (hG : GW E J I H) (hdg : decode cc pc = .ok (.laload, 1))
    (kk : W p l e R s m args below meth c H locs cells slots Q (F0 m (pc + 1) ls (.long J :: rest))) : W p l e R s m args below meth c H locs cells slots Q (F0 m pc ls (.int 0 :: .ref (gA E 2 16 0) :: rest)) := by
  have h0 := hG 2 16 0 rfl
  exact W.lald (v := .long J) K.1 K.2.1 h0 (gtys_at K.2.2.2.2 (k := 4) rfl 1 _) (fun q => by cases q) (by show ¬ ((0 : Int32) < 0 ∨ (arrV _ _ _).slots.size ≤ _); rw [arrV_size]; decide) (by show (arrV _ _ _).slots[_]? = _; rw [arrV_read _ _ (by decide)]; rfl) rfl rfl hdg kk
theorem sv_J (J J' : Int64) {y t i j : Nat} (h : t ≠ 16) : sv E J I y t i j = sv E J' I y t i j := by
  unfold sv
  rw [if_neg h, if_neg h]
theorem gv16 {y i : Nat} (h : gv y 16 i = true) : y = 2 ∧ i = 0 := by
  unfold gv at h
  simp at h
  omega
theorem g_last (K : kx E p m c cc own args s) (hG : GW E J I H) (hS0 : va_S (gF E) s.heap H locs) {x : Int64} (hdg : decode cc pc = .ok (.lastore, 1))
    (kk : ∀ (H1 : Heap) (locs1 : List Loc), GW E x I H1 → va_S (gF E) s.heap H1 locs1 → W p l e R s m args below meth c H1 locs1 cells slots Q (F0 m (pc + 1) ls rest)) : W p l e R s m args below meth c H locs cells slots Q (F0 m pc ls (.long x :: .int 0 :: .ref (gA E 2 16 0) :: rest)) := by
  have hSt := K.2.2.2.2
  have h0 := hG 2 16 0 rfl
  refine W.last K.1 K.2.1 h0 (gtys_at hSt (k := 4) rfl 1 _) (fun q => by cases q) (by show ¬ ((0 : Int32) < 0 ∨ (arrV _ _ _).slots.size ≤ _); rw [arrV_size]; decide) rfl rfl hdg fun H1 e1 z oq => kk H1 _ ?_ (hS0.put z oq (gA_in hSt rfl))
  intro y t i hv
  by_cases ht : t = 16
  · subst ht
    obtain ⟨rfl, rfl⟩ := gv16 hv
    show H1[gA E 2 16 0]? = some (arrV (E.2.1 4) 1 _)
    rw [e1, arrV_store]
    refine congrArg some ?_
    unfold arrV
    congr 1
  · have hne : gA E y t i ≠ gA E 2 16 0 := fun q => ht (hSt.ok.1 _ _ _ _ _ _ hv rfl q).2.1
    have h1 := hG y t i hv
    have hV : sv E x I y t i = sv E J I y t i := funext fun j => sv_J x J ht
    rw [hV]
    unfold gat at h1 ⊢
    cases hsh : sh t with
    | inl ci =>
      rw [hsh] at h1
      obtain ⟨r, r1, cell, r2, r3⟩ := h1
      exact ⟨r, r1, cell, by rw [oq _ hne]; exact r2, r3⟩
    | inr kn =>
      rw [hsh] at h1
      exact (oq _ hne).trans h1
/-- a helper's contract: 0, and the answer in out[0]; or 1 (the exception e1), 2 (another), and nothing changed -/
def hcode (e1 ex : Nat) : Int32 := if ex = 0 then 0 else if ex = e1 then 1 else 2
def hJ (ex : Nat) (v : Int32) (J : Int64) : Int64 := if ex = 0 then v.toInt64 else J
def hI (ex : Nat) (I' I : gI) : gI := if ex = 0 then I' else I
theorem hJ_z {ex : Nat} {v : Int32} {J : Int64} (h : ex = 0) : hJ ex v J = v.toInt64 := if_pos h
theorem hJ_n {ex : Nat} {v : Int32} {J : Int64} (h : ex ≠ 0) : hJ ex v J = J := if_neg h
theorem hI_z {ex : Nat} {I' I : gI} (h : ex = 0) : hI ex I' I = I' := if_pos h
theorem hI_n {ex : Nat} {I' I : gI} (h : ex ≠ 0) : hI ex I' I = I := if_neg h
theorem hcode_0 {e1 ex : Nat} (h : ex = 0) : hcode e1 ex = 0 := if_pos h
theorem hcode_1 {e1 ex : Nat} (h : ex = e1) (h0 : ex ≠ 0) : hcode e1 ex = 1 := (if_neg h0).trans (if_pos h)
theorem hcode_2 {e1 ex : Nat} (h : ex ≠ e1) (h0 : ex ≠ 0) : hcode e1 ex = 2 := (if_neg h0).trans (if_neg h)
def gwsH (y : MethodName) (b : ByteArray) (n : Nat) (hh : List (Nat × Nat × Nat × Nat)) : List Cond := Cond.codeWith y b n (some .int) hh :: lw_all
def gMh (l : Launch) (E : gE) (J : Int64) (y : MethodName) (b : ByteArray) (n : Nat) (hh : List (Nat × Nat × Nat × Nat)) (f L k : Nat) (av : List Value) (I : gI) (e1 ex : Nat) (v : Int32) (I' : gI) : Prop := Met l y (gwsH y b n hh) (grx f L k) (va_Pc av (gP E J I)) (va_Qi (fun z (_ : Unit) => z = hcode e1 ex) (fun _ t => GW E (hJ ex v J) (hI ex I' I) t.heap) (gF E)) k (6 * k) (gF E)
theorem g_entryH {y : MethodName} {b : ByteArray} {n f L k : Nat} {hh : List (Nat × Nat × Nat × Nat)} {av : List Value} {lv : List (Nat × Value)} {Qc : Array Value → State → Outcome → State → Prop} (hy : plainName y.cls = true) (hlen : (lg_sl av).length ≤ n) (hlv : lv_args 0 av = lv)
    (body : ∀ (p : Program) (e : Env) (s : State) (m : MethodId) (below : List Frame) (meth : Method) (c : Code) (ls : Array Slot), kx E p m c b y.cls av.toArray s → GW E J I s.heap → va_S (gF E) s.heap s.heap [] → c.maxLocals = n → meth.sig.returnType = some .int → meth.locks = false → c.exceptionTable.toList = tableOf hh → lv_has ls n lv →
      W p l e (grx f L k) s m av.toArray below meth c s.heap [] 0 0 (MQ below Qc av.toArray s k (6 * k) (gF E)) (F0 m 0 ls [])) : Met l y (gwsH y b n hh) (grx f L k) (va_Pc av (gP E J I)) Qc k (6 * k) (gF E) := by
  refine va_MetW (cc := b) (maxL := n) (ret := some .int) (hh := hh) hy rfl ?_
  intro p e s m args below meth c s₁ B hml hv
  obtain ⟨rfl, hG, hSt⟩ := hv
  have hts0 := atoms_spec (ws := gwsH y b n hh) B.pre
  have htb := vx_table (x := y) B (hts0 _ List.mem_cons_self)
  have hl := lv_entry av hlen
  rw [lg_entry_eq]
  rw [hlv] at hl
  exact body p e s m below meth c _ ⟨B.exec, B.bytes, fun w hw => hts0 w (List.mem_cons_of_mem _ hw), findClass_of_methodNamed B.named, hSt⟩ hG va_S.rf hml B.returns B.notSynchronized htb hl
theorem g_kh {st0 : List Value} {a : Array Value} {v : Int32} {ex k : Nat} {I' : gI} (hr : vx_Run p l e R s m args below meth c H locs cells slots k (6 * k) (F0 m pc ls st0) rest (va_Qi (fun z (_ : Unit) => ex = 0 ∧ z = v) (fun _ t => GW E J I' t.heap) (gF E) a) (gXC E J I ex) (gF E)) (hS : va_S (gF E) s.heap H locs)
    (kx : ∀ (ce : Cell) (q9 : Addr) (H1 : Heap) (locs1 : List Loc), ex ≠ 0 → GW E J I H1 → va_S (gF E) s.heap H1 locs1 → H1[q9]? = some ce → ce.vm = .none → s.vm.findClass (gxn ex) = some ce.cls → vx_W p l e R s m args below meth c H1 locs1 (cells + k) (slots + 6 * k) Q (F0 m pc ls rest) q9)
    (kk : ex = 0 → ∀ (H1 : Heap) (locs1 : List Loc), GW E J I' H1 → va_S (gF E) s.heap H1 locs1 → W p l e R s m args below meth c H1 locs1 (cells + k) (slots + 6 * k) Q (F0 m (pc + 3) ls (.int v :: rest))) : W p l e R s m args below meth c H locs cells slots Q (F0 m pc ls st0) :=
  vx_calli hr hS (fun q _ h => h) (fun q h => h) (fun q _ h => h) (fun E9 ce q9 u t H1 locs1 ht hvm hp hB hz hk hS1 hce hcv hcl => kx ce q9 H1 locs1 hp (by rw [← ht]; exact hB.2) hS1 hce hcv (by rw [← hB.1]; exact hcl))
    (fun r u t H1 locs1 ht hvm hw hB hz hk hS1 => by
      obtain ⟨h1, h2⟩ := hw
      subst h2
      exact kk h1 H1 locs1 (by rw [← ht]; exact hB) hS1)
theorem g_hret {av : Array Value} {v x : Int32} {J' : Int64} {I' : gI} {mc ms : Nat} (K : kx E p m c cc own av s) (hG : GW E J' I' H) (hS : va_S (gF E) s.heap H locs) (hr : meth.sig.returnType = some .int) (hlocks : meth.locks = false) (hv : x = v) (hc : cells = mc) (hs : slots = ms) (hdg : decode cc pc = .ok (.ireturn, 1)) : W p l e R s m av below meth c H locs cells slots (MQ below (va_Qi (fun z (_ : Unit) => z = v) (fun _ t => GW E J' I' t.heap) (gF E)) av s mc ms (gF E)) (F0 m pc ls [.int x]) := by
  subst hc; subst hs
  exact W.iret K.1 K.2.1 hr (fun t ht hW => ⟨⟨x, (), rfl, hv, by show GW E J' I' t.heap; rw [ht]; exact hG⟩, hS.F ht⟩) hS.2.2 hdg hlocks
theorem gncN (hSt : gS E s) {q : String × String} (h : q ∈ gnc) : va_Nc q.1 q.2 s := by
  obtain ⟨-, -, -, -, -, -, -, -, -, h10⟩ := hSt
  exact h10 q h
end GL
theorem fx_X4_needLad (I : gI) (x : Int32) : f_X4_needLad_x I x = 0 ∨ f_X4_needLad_x I x = 3 := by
  unfold f_X4_needLad_x
  (repeat' split) <;> omega
theorem fx_X4_needLoad (I : gI) (x : Int32) : f_X4_needLoad_x I x = 0 ∨ f_X4_needLoad_x I x = 3 := by
  unfold f_X4_needLoad_x
  (repeat' split) <;> omega
theorem fx_X4_needMinutes (I : gI) (x b : Int32) : f_X4_needMinutes_x I x b = 0 ∨ f_X4_needMinutes_x I x b = 1 := by
  unfold f_X4_needMinutes_x
  (repeat' split) <;> omega
theorem fx_X4_come (I : gI) (x : Int32) : f_X4_come_x I x = 0 ∨ f_X4_come_x I x = 1 ∨ f_X4_come_x I x = 2 := by
  have h1 := fx_X4_needLad I x
  have h2 := fx_X4_needLad I x
  have h3 := fx_X4_needLoad I x
  have h4 := fx_X4_needMinutes I x 60
  have h5 := fx_X4_needMinutes I x 40
  unfold f_X4_come_x
  try dsimp only
  (repeat' split) <;> omega
set_option maxHeartbeats 4000000 in
set_option maxRecDepth 100000 in
theorem m_L_come (l : Launch) (E : gE) (J : Int64) (I : gI) (x : Int32) (hw0 : wf (I 0)) (hfl : l.stackTraces = false) : gMh l E J yL_come cL_come 4 [(0, 9, 12, 13), (0, 9, 15, 15)] 7 103 1 [.ref (gA E 2 10 0), .int x, .ref (gA E 2 16 0)] I 1 (f_X4_come_x I x) (f_X4_come_v I x) (f_X4_come_s I x) := by
  refine g_entryH (lv := [(0, .ref (gA E 2 10 0)), (1, .int x), (2, .ref (gA E 2 16 0))]) (by decide) (Nat.le_of_ble_eq_true rfl) rfl ?_
  intro p e s m below meth c0 ls K hG hS hml hr hlocks htb hl
  have K : kx E p m c0 cL_come "HayThievesLaw" _ s := K
  have hx := K.1
  have hb := K.2.1
  have hts := K.2.2.1
  have hown := K.2.2.2.1
  have hSt := K.2.2.2.2
  refine lv_aload_n hx hb dL_come_0 rfl (lv_at hl 2 rfl) ?_
  refine lv_iconst (v := 0) hx hb dL_come_1 (by decide) ?_
  refine lv_aload_n hx hb dL_come_2 rfl (lv_at hl 0 rfl) ?_
  refine lv_iload_n hx hb dL_come_3 rfl (lv_at hl 1 rfl) ?_
  refine g_kh (g_runVX (As := [.int x]) (rest := [.int 0, .ref (gA E 2 16 0)]) K hml ca_X4_come q259 (m_X4_come l E J I x hw0 hfl) hG hS rfl rfl rfl rfl rfl hl.1 (Nat.le_of_ble_eq_true rfl) ⟨by decide, by decide⟩ dL_come_4 ⟨by decide, by decide⟩) hS (fun ce q9 H1 locs1 h0 hG hS hce hcv hcl => ?_) (fun h0 H1 locs1 hG hS => ?_)
  · rcases fx_X4_come I x with h | h | h
    · exact absurd h h0
    · rw [h] at hcl
      refine vx_catch (own := "HayThievesLaw") (name := "java/lang/IllegalArgumentException") hown [] ⟨0, 9, 12, 13⟩ [⟨0, 9, 15, 15⟩] (by rw [htb]; rfl) (fun z hz => absurd hz List.not_mem_nil) rfl (by decide) (hts _ q257) (hSt.nest qc_0) hce hcv hcl ?_
      refine lv_astore_n (lv' := [(3, .ref q9), (0, .ref (gA E 2 10 0)), (1, .int x), (2, .ref (gA E 2 16 0))]) hx hb dL_come_12 rfl hl (by decide) rfl (fun ls hl => ?_)
      refine lv_iconst (v := 1) hx hb dL_come_13 (by decide) ?_
      exact g_hret K (by rw [hJ_n h0, hI_n h0]; exact hG) hS hr hlocks (hcode_1 h h0).symm rfl rfl dL_come_14
    · rw [h] at hcl
      refine vx_catch (own := "HayThievesLaw") (name := "java/lang/IllegalStateException") hown [⟨0, 9, 12, 13⟩] ⟨0, 9, 15, 15⟩ [] (by rw [htb]; rfl) (fun z hz => Or.inr (by rw [List.mem_singleton.mp hz]; exact ⟨by decide, "java/lang/IllegalArgumentException", hts _ q257, gncN hSt (q := ("java/lang/IllegalStateException", "java/lang/IllegalArgumentException")) (by decide)⟩)) rfl (by decide) (hts _ q258) (hSt.nest qc_1) hce hcv hcl ?_
      refine lv_astore_n (lv' := [(3, .ref q9), (0, .ref (gA E 2 10 0)), (1, .int x), (2, .ref (gA E 2 16 0))]) hx hb dL_come_15 rfl hl (by decide) rfl (fun ls hl => ?_)
      refine lv_iconst (v := 2) hx hb dL_come_16 (by decide) ?_
      exact g_hret K (by rw [hJ_n h0, hI_n h0]; exact hG) hS hr hlocks (hcode_2 (by rw [h]; decide) h0).symm rfl rfl dL_come_17
  · refine lv_i2l hx hb dL_come_7 rfl ?_
    refine g_last K hG hS dL_come_8 (fun H1 locs1 hG hS => ?_)
    refine lv_goto (tgt := 18) hx hb dL_come_9 (by decide) ?_
    refine lv_iconst (v := 0) hx hb dL_come_18 (by decide) ?_
    exact g_hret K (by rw [hJ_z h0, hI_z h0]; exact hG) hS hr hlocks (hcode_0 h0).symm rfl rfl dL_come_19
theorem fx_X4_setWay (I : gI) (x b : Int32) : f_X4_setWay_x I x b = 0 ∨ f_X4_setWay_x I x b = 3 := by
  have h1 := fx_X4_needLad I x
  have h2 := fx_X4_needLad I b
  have h3 := fx_X4_needLoad I x
  have h4 := fx_X4_needMinutes I x 60
  have h5 := fx_X4_needMinutes I x 40
  unfold f_X4_setWay_x
  try dsimp only
  (repeat' split) <;> omega
set_option maxHeartbeats 4000000 in
set_option maxRecDepth 100000 in
theorem m_L_setWay (l : Launch) (E : gE) (J : Int64) (I : gI) (x b : Int32) (hw0 : wf (I 0)) (hfl : l.stackTraces = false) : gMh l E J yL_setWay cL_setWay 5 [(0, 10, 13, 21)] 8 126 2 [.ref (gA E 2 10 0), .int x, .int b, .ref (gA E 2 16 0)] I 3 (f_X4_setWay_x I x b) (f_X4_setWay_v I x b) (f_X4_setWay_s I x b) := by
  refine g_entryH (lv := [(0, .ref (gA E 2 10 0)), (1, .int x), (2, .int b), (3, .ref (gA E 2 16 0))]) (by decide) (Nat.le_of_ble_eq_true rfl) rfl ?_
  intro p e s m below meth c0 ls K hG hS hml hr hlocks htb hl
  have K : kx E p m c0 cL_setWay "HayThievesLaw" _ s := K
  have hx := K.1
  have hb := K.2.1
  have hts := K.2.2.1
  have hown := K.2.2.2.1
  have hSt := K.2.2.2.2
  refine lv_aload_n hx hb dL_setWay_0 rfl (lv_at hl 3 rfl) ?_
  refine lv_iconst (v := 0) hx hb dL_setWay_1 (by decide) ?_
  refine lv_aload_n hx hb dL_setWay_2 rfl (lv_at hl 0 rfl) ?_
  refine lv_iload_n hx hb dL_setWay_3 rfl (lv_at hl 1 rfl) ?_
  refine lv_iload_n hx hb dL_setWay_4 rfl (lv_at hl 2 rfl) ?_
  refine g_kh (g_runVX (As := [.int x, .int b]) (rest := [.int 0, .ref (gA E 2 16 0)]) K hml ca_X4_setWay q355 (m_X4_setWay l E J I x b hw0 hfl) hG hS rfl rfl rfl rfl rfl hl.1 (Nat.le_of_ble_eq_true rfl) ⟨by decide, by decide⟩ dL_setWay_5 ⟨by decide, by decide⟩) hS (fun ce q9 H1 locs1 h0 hG hS hce hcv hcl => ?_) (fun h0 H1 locs1 hG hS => ?_)
  · rcases fx_X4_setWay I x b with h | h
    · exact absurd h h0
    · rw [h] at hcl
      refine vx_catch (own := "HayThievesLaw") (name := "java/lang/IndexOutOfBoundsException") hown [] ⟨0, 10, 13, 21⟩ [] (by rw [htb]; rfl) (fun z hz => absurd hz List.not_mem_nil) rfl (by decide) (hts _ q354) (hSt.nest qc_2) hce hcv hcl ?_
      refine lv_astore (lv' := [(4, .ref q9), (0, .ref (gA E 2 10 0)), (1, .int x), (2, .int b), (3, .ref (gA E 2 16 0))]) hx hb dL_setWay_13 hl (by decide) rfl (fun ls hl => ?_)
      refine lv_iconst (v := 1) hx hb dL_setWay_15 (by decide) ?_
      exact g_hret K (by rw [hJ_n h0, hI_n h0]; exact hG) hS hr hlocks (hcode_1 h h0).symm rfl rfl dL_setWay_16
  · refine lv_i2l hx hb dL_setWay_8 rfl ?_
    refine g_last K hG hS dL_setWay_9 (fun H1 locs1 hG hS => ?_)
    refine lv_goto (tgt := 17) hx hb dL_setWay_10 (by decide) ?_
    refine lv_iconst (v := 0) hx hb dL_setWay_17 (by decide) ?_
    exact g_hret K (by rw [hJ_z h0, hI_z h0]; exact hG) hS hr hlocks (hcode_0 h0).symm rfl rfl dL_setWay_18
theorem fx_X4_setFork (I : gI) (x : Int32) : f_X4_setFork_x I x = 0 ∨ f_X4_setFork_x I x = 1 := by
  have h1 := fx_X4_needLad I x
  have h2 := fx_X4_needLad I x
  have h3 := fx_X4_needLoad I x
  have h4 := fx_X4_needMinutes I x 60
  have h5 := fx_X4_needMinutes I x 40
  unfold f_X4_setFork_x
  try dsimp only
  (repeat' split) <;> omega
set_option maxHeartbeats 4000000 in
set_option maxRecDepth 100000 in
theorem m_L_setFork (l : Launch) (E : gE) (J : Int64) (I : gI) (x : Int32) (hw0 : wf (I 0)) (hfl : l.stackTraces = false) : gMh l E J yL_setFork cL_setFork 4 [(0, 9, 12, 13)] 7 104 1 [.ref (gA E 2 10 0), .int x, .ref (gA E 2 16 0)] I 1 (f_X4_setFork_x I x) (f_X4_setFork_v I x) (f_X4_setFork_s I x) := by
  refine g_entryH (lv := [(0, .ref (gA E 2 10 0)), (1, .int x), (2, .ref (gA E 2 16 0))]) (by decide) (Nat.le_of_ble_eq_true rfl) rfl ?_
  intro p e s m below meth c0 ls K hG hS hml hr hlocks htb hl
  have K : kx E p m c0 cL_setFork "HayThievesLaw" _ s := K
  have hx := K.1
  have hb := K.2.1
  have hts := K.2.2.1
  have hown := K.2.2.2.1
  have hSt := K.2.2.2.2
  refine lv_aload_n hx hb dL_setFork_0 rfl (lv_at hl 2 rfl) ?_
  refine lv_iconst (v := 0) hx hb dL_setFork_1 (by decide) ?_
  refine lv_aload_n hx hb dL_setFork_2 rfl (lv_at hl 0 rfl) ?_
  refine lv_iload_n hx hb dL_setFork_3 rfl (lv_at hl 1 rfl) ?_
  refine g_kh (g_runVX (As := [.int x]) (rest := [.int 0, .ref (gA E 2 16 0)]) K hml ca_X4_setFork q383 (m_X4_setFork l E J I x hw0 hfl) hG hS rfl rfl rfl rfl rfl hl.1 (Nat.le_of_ble_eq_true rfl) ⟨by decide, by decide⟩ dL_setFork_4 ⟨by decide, by decide⟩) hS (fun ce q9 H1 locs1 h0 hG hS hce hcv hcl => ?_) (fun h0 H1 locs1 hG hS => ?_)
  · rcases fx_X4_setFork I x with h | h
    · exact absurd h h0
    · rw [h] at hcl
      refine vx_catch (own := "HayThievesLaw") (name := "java/lang/IllegalArgumentException") hown [] ⟨0, 9, 12, 13⟩ [] (by rw [htb]; rfl) (fun z hz => absurd hz List.not_mem_nil) rfl (by decide) (hts _ q257) (hSt.nest qc_0) hce hcv hcl ?_
      refine lv_astore_n (lv' := [(3, .ref q9), (0, .ref (gA E 2 10 0)), (1, .int x), (2, .ref (gA E 2 16 0))]) hx hb dL_setFork_12 rfl hl (by decide) rfl (fun ls hl => ?_)
      refine lv_iconst (v := 1) hx hb dL_setFork_13 (by decide) ?_
      exact g_hret K (by rw [hJ_n h0, hI_n h0]; exact hG) hS hr hlocks (hcode_1 h h0).symm rfl rfl dL_setFork_14
  · refine lv_i2l hx hb dL_setFork_7 rfl ?_
    refine g_last K hG hS dL_setFork_8 (fun H1 locs1 hG hS => ?_)
    refine lv_goto (tgt := 15) hx hb dL_setFork_9 (by decide) ?_
    refine lv_iconst (v := 0) hx hb dL_setFork_15 (by decide) ?_
    exact g_hret K (by rw [hJ_z h0, hI_z h0]; exact hG) hS hr hlocks (hcode_0 h0).symm rfl rfl dL_setFork_16
theorem fx_X4_bring (I : gI) (x : Int32) : f_X4_bring_x I x = 0 ∨ f_X4_bring_x I x = 1 ∨ f_X4_bring_x I x = 2 := by
  have h1 := fx_X4_needLad I x
  have h2 := fx_X4_needLad I x
  have h3 := fx_X4_needLoad I x
  have h4 := fx_X4_needMinutes I x 60
  have h5 := fx_X4_needMinutes I x 40
  unfold f_X4_bring_x
  try dsimp only
  (repeat' split) <;> omega
set_option maxHeartbeats 4000000 in
set_option maxRecDepth 100000 in
theorem m_L_bring (l : Launch) (E : gE) (J : Int64) (I : gI) (x : Int32) (hw0 : wf (I 0)) (hfl : l.stackTraces = false) : gMh l E J yL_bring cL_bring 4 [(0, 9, 12, 13), (0, 9, 15, 15)] 7 103 1 [.ref (gA E 2 10 0), .int x, .ref (gA E 2 16 0)] I 1 (f_X4_bring_x I x) (f_X4_bring_v I x) (f_X4_bring_s I x) := by
  refine g_entryH (lv := [(0, .ref (gA E 2 10 0)), (1, .int x), (2, .ref (gA E 2 16 0))]) (by decide) (Nat.le_of_ble_eq_true rfl) rfl ?_
  intro p e s m below meth c0 ls K hG hS hml hr hlocks htb hl
  have K : kx E p m c0 cL_bring "HayThievesLaw" _ s := K
  have hx := K.1
  have hb := K.2.1
  have hts := K.2.2.1
  have hown := K.2.2.2.1
  have hSt := K.2.2.2.2
  refine lv_aload_n hx hb dL_bring_0 rfl (lv_at hl 2 rfl) ?_
  refine lv_iconst (v := 0) hx hb dL_bring_1 (by decide) ?_
  refine lv_aload_n hx hb dL_bring_2 rfl (lv_at hl 0 rfl) ?_
  refine lv_iload_n hx hb dL_bring_3 rfl (lv_at hl 1 rfl) ?_
  refine g_kh (g_runVX (As := [.int x]) (rest := [.int 0, .ref (gA E 2 16 0)]) K hml ca_X4_bring q391 (m_X4_bring l E J I x hw0 hfl) hG hS rfl rfl rfl rfl rfl hl.1 (Nat.le_of_ble_eq_true rfl) ⟨by decide, by decide⟩ dL_bring_4 ⟨by decide, by decide⟩) hS (fun ce q9 H1 locs1 h0 hG hS hce hcv hcl => ?_) (fun h0 H1 locs1 hG hS => ?_)
  · rcases fx_X4_bring I x with h | h | h
    · exact absurd h h0
    · rw [h] at hcl
      refine vx_catch (own := "HayThievesLaw") (name := "java/lang/IllegalArgumentException") hown [] ⟨0, 9, 12, 13⟩ [⟨0, 9, 15, 15⟩] (by rw [htb]; rfl) (fun z hz => absurd hz List.not_mem_nil) rfl (by decide) (hts _ q257) (hSt.nest qc_0) hce hcv hcl ?_
      refine lv_astore_n (lv' := [(3, .ref q9), (0, .ref (gA E 2 10 0)), (1, .int x), (2, .ref (gA E 2 16 0))]) hx hb dL_bring_12 rfl hl (by decide) rfl (fun ls hl => ?_)
      refine lv_iconst (v := 1) hx hb dL_bring_13 (by decide) ?_
      exact g_hret K (by rw [hJ_n h0, hI_n h0]; exact hG) hS hr hlocks (hcode_1 h h0).symm rfl rfl dL_bring_14
    · rw [h] at hcl
      refine vx_catch (own := "HayThievesLaw") (name := "java/lang/IllegalStateException") hown [⟨0, 9, 12, 13⟩] ⟨0, 9, 15, 15⟩ [] (by rw [htb]; rfl) (fun z hz => Or.inr (by rw [List.mem_singleton.mp hz]; exact ⟨by decide, "java/lang/IllegalArgumentException", hts _ q257, gncN hSt (q := ("java/lang/IllegalStateException", "java/lang/IllegalArgumentException")) (by decide)⟩)) rfl (by decide) (hts _ q258) (hSt.nest qc_1) hce hcv hcl ?_
      refine lv_astore_n (lv' := [(3, .ref q9), (0, .ref (gA E 2 10 0)), (1, .int x), (2, .ref (gA E 2 16 0))]) hx hb dL_bring_15 rfl hl (by decide) rfl (fun ls hl => ?_)
      refine lv_iconst (v := 2) hx hb dL_bring_16 (by decide) ?_
      exact g_hret K (by rw [hJ_n h0, hI_n h0]; exact hG) hS hr hlocks (hcode_2 (by rw [h]; decide) h0).symm rfl rfl dL_bring_17
  · refine lv_i2l hx hb dL_bring_7 rfl ?_
    refine g_last K hG hS dL_bring_8 (fun H1 locs1 hG hS => ?_)
    refine lv_goto (tgt := 18) hx hb dL_bring_9 (by decide) ?_
    refine lv_iconst (v := 0) hx hb dL_bring_18 (by decide) ?_
    exact g_hret K (by rw [hJ_z h0, hI_z h0]; exact hG) hS hr hlocks (hcode_0 h0).symm rfl rfl dL_bring_19
theorem fx_X4_swap (I : gI) (x b : Int32) : f_X4_swap_x I x b = 0 ∨ f_X4_swap_x I x b = 3 ∨ f_X4_swap_x I x b = 1 := by
  have h1 := fx_X4_needLad I x
  have h2 := fx_X4_needLad I b
  have h3 := fx_X4_needLoad I x
  have h4 := fx_X4_needMinutes I x 60
  have h5 := fx_X4_needMinutes I x 40
  unfold f_X4_swap_x
  try dsimp only
  (repeat' split) <;> omega
set_option maxHeartbeats 4000000 in
set_option maxRecDepth 100000 in
theorem m_L_swap (l : Launch) (E : gE) (J : Int64) (I : gI) (x b : Int32) (hw0 : wf (I 0)) (hfl : l.stackTraces = false) : gMh l E J yL_swap cL_swap 5 [(0, 10, 13, 21), (0, 10, 17, 13)] 8 126 3 [.ref (gA E 2 10 0), .int x, .int b, .ref (gA E 2 16 0)] I 3 (f_X4_swap_x I x b) (f_X4_swap_v I x b) (f_X4_swap_s I x b) := by
  refine g_entryH (lv := [(0, .ref (gA E 2 10 0)), (1, .int x), (2, .int b), (3, .ref (gA E 2 16 0))]) (by decide) (Nat.le_of_ble_eq_true rfl) rfl ?_
  intro p e s m below meth c0 ls K hG hS hml hr hlocks htb hl
  have K : kx E p m c0 cL_swap "HayThievesLaw" _ s := K
  have hx := K.1
  have hb := K.2.1
  have hts := K.2.2.1
  have hown := K.2.2.2.1
  have hSt := K.2.2.2.2
  refine lv_aload_n hx hb dL_swap_0 rfl (lv_at hl 3 rfl) ?_
  refine lv_iconst (v := 0) hx hb dL_swap_1 (by decide) ?_
  refine lv_aload_n hx hb dL_swap_2 rfl (lv_at hl 0 rfl) ?_
  refine lv_iload_n hx hb dL_swap_3 rfl (lv_at hl 1 rfl) ?_
  refine lv_iload_n hx hb dL_swap_4 rfl (lv_at hl 2 rfl) ?_
  refine g_kh (g_runVX (As := [.int x, .int b]) (rest := [.int 0, .ref (gA E 2 16 0)]) K hml ca_X4_swap q412 (m_X4_swap l E J I x b hw0 hfl) hG hS rfl rfl rfl rfl rfl hl.1 (Nat.le_of_ble_eq_true rfl) ⟨by decide, by decide⟩ dL_swap_5 ⟨by decide, by decide⟩) hS (fun ce q9 H1 locs1 h0 hG hS hce hcv hcl => ?_) (fun h0 H1 locs1 hG hS => ?_)
  · rcases fx_X4_swap I x b with h | h | h
    · exact absurd h h0
    · rw [h] at hcl
      refine vx_catch (own := "HayThievesLaw") (name := "java/lang/IndexOutOfBoundsException") hown [] ⟨0, 10, 13, 21⟩ [⟨0, 10, 17, 13⟩] (by rw [htb]; rfl) (fun z hz => absurd hz List.not_mem_nil) rfl (by decide) (hts _ q354) (hSt.nest qc_2) hce hcv hcl ?_
      refine lv_astore (lv' := [(4, .ref q9), (0, .ref (gA E 2 10 0)), (1, .int x), (2, .int b), (3, .ref (gA E 2 16 0))]) hx hb dL_swap_13 hl (by decide) rfl (fun ls hl => ?_)
      refine lv_iconst (v := 1) hx hb dL_swap_15 (by decide) ?_
      exact g_hret K (by rw [hJ_n h0, hI_n h0]; exact hG) hS hr hlocks (hcode_1 h h0).symm rfl rfl dL_swap_16
    · rw [h] at hcl
      refine vx_catch (own := "HayThievesLaw") (name := "java/lang/IllegalArgumentException") hown [⟨0, 10, 13, 21⟩] ⟨0, 10, 17, 13⟩ [] (by rw [htb]; rfl) (fun z hz => Or.inr (by rw [List.mem_singleton.mp hz]; exact ⟨by decide, "java/lang/IndexOutOfBoundsException", hts _ q354, gncN hSt (q := ("java/lang/IllegalArgumentException", "java/lang/IndexOutOfBoundsException")) (by decide)⟩)) rfl (by decide) (hts _ q257) (hSt.nest qc_0) hce hcv hcl ?_
      refine lv_astore (lv' := [(4, .ref q9), (0, .ref (gA E 2 10 0)), (1, .int x), (2, .int b), (3, .ref (gA E 2 16 0))]) hx hb dL_swap_17 hl (by decide) rfl (fun ls hl => ?_)
      refine lv_iconst (v := 2) hx hb dL_swap_19 (by decide) ?_
      exact g_hret K (by rw [hJ_n h0, hI_n h0]; exact hG) hS hr hlocks (hcode_2 (by rw [h]; decide) h0).symm rfl rfl dL_swap_20
  · refine lv_i2l hx hb dL_swap_8 rfl ?_
    refine g_last K hG hS dL_swap_9 (fun H1 locs1 hG hS => ?_)
    refine lv_goto (tgt := 21) hx hb dL_swap_10 (by decide) ?_
    refine lv_iconst (v := 0) hx hb dL_swap_21 (by decide) ?_
    exact g_hret K (by rw [hJ_z h0, hI_z h0]; exact hG) hS hr hlocks (hcode_0 h0).symm rfl rfl dL_swap_22
theorem fx_X4_wake (I : gI) (x : Int32) : f_X4_wake_x I x = 0 ∨ f_X4_wake_x I x = 3 ∨ f_X4_wake_x I x = 2 := by
  have h1 := fx_X4_needLad I x
  have h2 := fx_X4_needLad I x
  have h3 := fx_X4_needLoad I x
  have h4 := fx_X4_needMinutes I x 60
  have h5 := fx_X4_needMinutes I x 40
  unfold f_X4_wake_x
  try dsimp only
  (repeat' split) <;> omega
set_option maxHeartbeats 4000000 in
set_option maxRecDepth 100000 in
theorem m_L_wake (l : Launch) (E : gE) (J : Int64) (I : gI) (x : Int32) (hw0 : wf (I 0)) (hfl : l.stackTraces = false) : gMh l E J yL_wake cL_wake 4 [(0, 9, 12, 21), (0, 9, 15, 15)] 8 124 2 [.ref (gA E 2 10 0), .int x, .ref (gA E 2 16 0)] I 3 (f_X4_wake_x I x) (f_X4_wake_v I x) (f_X4_wake_s I x) := by
  refine g_entryH (lv := [(0, .ref (gA E 2 10 0)), (1, .int x), (2, .ref (gA E 2 16 0))]) (by decide) (Nat.le_of_ble_eq_true rfl) rfl ?_
  intro p e s m below meth c0 ls K hG hS hml hr hlocks htb hl
  have K : kx E p m c0 cL_wake "HayThievesLaw" _ s := K
  have hx := K.1
  have hb := K.2.1
  have hts := K.2.2.1
  have hown := K.2.2.2.1
  have hSt := K.2.2.2.2
  refine lv_aload_n hx hb dL_wake_0 rfl (lv_at hl 2 rfl) ?_
  refine lv_iconst (v := 0) hx hb dL_wake_1 (by decide) ?_
  refine lv_aload_n hx hb dL_wake_2 rfl (lv_at hl 0 rfl) ?_
  refine lv_iload_n hx hb dL_wake_3 rfl (lv_at hl 1 rfl) ?_
  refine g_kh (g_runVX (As := [.int x]) (rest := [.int 0, .ref (gA E 2 16 0)]) K hml ca_X4_wake q420 (m_X4_wake l E J I x hw0 hfl) hG hS rfl rfl rfl rfl rfl hl.1 (Nat.le_of_ble_eq_true rfl) ⟨by decide, by decide⟩ dL_wake_4 ⟨by decide, by decide⟩) hS (fun ce q9 H1 locs1 h0 hG hS hce hcv hcl => ?_) (fun h0 H1 locs1 hG hS => ?_)
  · rcases fx_X4_wake I x with h | h | h
    · exact absurd h h0
    · rw [h] at hcl
      refine vx_catch (own := "HayThievesLaw") (name := "java/lang/IndexOutOfBoundsException") hown [] ⟨0, 9, 12, 21⟩ [⟨0, 9, 15, 15⟩] (by rw [htb]; rfl) (fun z hz => absurd hz List.not_mem_nil) rfl (by decide) (hts _ q354) (hSt.nest qc_2) hce hcv hcl ?_
      refine lv_astore_n (lv' := [(3, .ref q9), (0, .ref (gA E 2 10 0)), (1, .int x), (2, .ref (gA E 2 16 0))]) hx hb dL_wake_12 rfl hl (by decide) rfl (fun ls hl => ?_)
      refine lv_iconst (v := 1) hx hb dL_wake_13 (by decide) ?_
      exact g_hret K (by rw [hJ_n h0, hI_n h0]; exact hG) hS hr hlocks (hcode_1 h h0).symm rfl rfl dL_wake_14
    · rw [h] at hcl
      refine vx_catch (own := "HayThievesLaw") (name := "java/lang/IllegalStateException") hown [⟨0, 9, 12, 21⟩] ⟨0, 9, 15, 15⟩ [] (by rw [htb]; rfl) (fun z hz => Or.inr (by rw [List.mem_singleton.mp hz]; exact ⟨by decide, "java/lang/IndexOutOfBoundsException", hts _ q354, gncN hSt (q := ("java/lang/IllegalStateException", "java/lang/IndexOutOfBoundsException")) (by decide)⟩)) rfl (by decide) (hts _ q258) (hSt.nest qc_1) hce hcv hcl ?_
      refine lv_astore_n (lv' := [(3, .ref q9), (0, .ref (gA E 2 10 0)), (1, .int x), (2, .ref (gA E 2 16 0))]) hx hb dL_wake_15 rfl hl (by decide) rfl (fun ls hl => ?_)
      refine lv_iconst (v := 2) hx hb dL_wake_16 (by decide) ?_
      exact g_hret K (by rw [hJ_n h0, hI_n h0]; exact hG) hS hr hlocks (hcode_2 (by rw [h]; decide) h0).symm rfl rfl dL_wake_17
  · refine lv_i2l hx hb dL_wake_7 rfl ?_
    refine g_last K hG hS dL_wake_8 (fun H1 locs1 hG hS => ?_)
    refine lv_goto (tgt := 18) hx hb dL_wake_9 (by decide) ?_
    refine lv_iconst (v := 0) hx hb dL_wake_18 (by decide) ?_
    exact g_hret K (by rw [hJ_z h0, hI_z h0]; exact hG) hS hr hlocks (hcode_0 h0).symm rfl rfl dL_wake_19
theorem fx_X4_lad (I : gI) (x b : Int32) : f_X4_lad_x I x b = 0 ∨ f_X4_lad_x I x b = 3 := by
  have h1 := fx_X4_needLad I x
  have h2 := fx_X4_needLad I b
  have h3 := fx_X4_needLoad I x
  have h4 := fx_X4_needMinutes I x 60
  have h5 := fx_X4_needMinutes I x 40
  unfold f_X4_lad_x
  try dsimp only
  (repeat' split) <;> omega
set_option maxHeartbeats 4000000 in
set_option maxRecDepth 100000 in
theorem m_L_lad (l : Launch) (E : gE) (J : Int64) (I : gI) (x b : Int32) (hw0 : wf (I 0)) (hfl : l.stackTraces = false) : gMh l E J yL_lad cL_lad 5 [(0, 10, 13, 21)] 8 125 2 [.ref (gA E 2 10 0), .int x, .int b, .ref (gA E 2 16 0)] I 3 (f_X4_lad_x I x b) (f_X4_lad I x b) I := by
  refine g_entryH (lv := [(0, .ref (gA E 2 10 0)), (1, .int x), (2, .int b), (3, .ref (gA E 2 16 0))]) (by decide) (Nat.le_of_ble_eq_true rfl) rfl ?_
  intro p e s m below meth c0 ls K hG hS hml hr hlocks htb hl
  have K : kx E p m c0 cL_lad "HayThievesLaw" _ s := K
  have hx := K.1
  have hb := K.2.1
  have hts := K.2.2.1
  have hown := K.2.2.2.1
  have hSt := K.2.2.2.2
  refine lv_aload_n hx hb dL_lad_0 rfl (lv_at hl 3 rfl) ?_
  refine lv_iconst (v := 0) hx hb dL_lad_1 (by decide) ?_
  refine lv_aload_n hx hb dL_lad_2 rfl (lv_at hl 0 rfl) ?_
  refine lv_iload_n hx hb dL_lad_3 rfl (lv_at hl 1 rfl) ?_
  refine lv_iload_n hx hb dL_lad_4 rfl (lv_at hl 2 rfl) ?_
  refine g_kh (g_runVX (As := [.int x, .int b]) (rest := [.int 0, .ref (gA E 2 16 0)]) K hml ca_X4_lad q429 (m_X4_lad l E J I x b hw0 hfl) hG hS rfl rfl rfl rfl rfl hl.1 (Nat.le_of_ble_eq_true rfl) ⟨by decide, by decide⟩ dL_lad_5 ⟨by decide, by decide⟩) hS (fun ce q9 H1 locs1 h0 hG hS hce hcv hcl => ?_) (fun h0 H1 locs1 hG hS => ?_)
  · rcases fx_X4_lad I x b with h | h
    · exact absurd h h0
    · rw [h] at hcl
      refine vx_catch (own := "HayThievesLaw") (name := "java/lang/IndexOutOfBoundsException") hown [] ⟨0, 10, 13, 21⟩ [] (by rw [htb]; rfl) (fun z hz => absurd hz List.not_mem_nil) rfl (by decide) (hts _ q354) (hSt.nest qc_2) hce hcv hcl ?_
      refine lv_astore (lv' := [(4, .ref q9), (0, .ref (gA E 2 10 0)), (1, .int x), (2, .int b), (3, .ref (gA E 2 16 0))]) hx hb dL_lad_13 hl (by decide) rfl (fun ls hl => ?_)
      refine lv_iconst (v := 1) hx hb dL_lad_15 (by decide) ?_
      exact g_hret K (by rw [hJ_n h0, hI_n h0]; exact hG) hS hr hlocks (hcode_1 h h0).symm rfl rfl dL_lad_16
  · refine lv_i2l hx hb dL_lad_8 rfl ?_
    refine g_last K hG hS dL_lad_9 (fun H1 locs1 hG hS => ?_)
    refine lv_goto (tgt := 17) hx hb dL_lad_10 (by decide) ?_
    refine lv_iconst (v := 0) hx hb dL_lad_17 (by decide) ?_
    exact g_hret K (by rw [hJ_z h0, hI_z h0]; exact hG) hS hr hlocks (hcode_0 h0).symm rfl rfl dL_lad_18
theorem fx_X4_cart (I : gI) (x b : Int32) : f_X4_cart_x I x b = 0 ∨ f_X4_cart_x I x b = 3 := by
  have h1 := fx_X4_needLad I x
  have h2 := fx_X4_needLad I b
  have h3 := fx_X4_needLoad I x
  have h4 := fx_X4_needMinutes I x 60
  have h5 := fx_X4_needMinutes I x 40
  unfold f_X4_cart_x
  try dsimp only
  (repeat' split) <;> omega
set_option maxHeartbeats 4000000 in
set_option maxRecDepth 100000 in
theorem m_L_cart (l : Launch) (E : gE) (J : Int64) (I : gI) (x b : Int32) (hw0 : wf (I 0)) (hfl : l.stackTraces = false) : gMh l E J yL_cart cL_cart 5 [(0, 10, 13, 21)] 8 125 2 [.ref (gA E 2 10 0), .int x, .int b, .ref (gA E 2 16 0)] I 3 (f_X4_cart_x I x b) (f_X4_cart I x b) I := by
  refine g_entryH (lv := [(0, .ref (gA E 2 10 0)), (1, .int x), (2, .int b), (3, .ref (gA E 2 16 0))]) (by decide) (Nat.le_of_ble_eq_true rfl) rfl ?_
  intro p e s m below meth c0 ls K hG hS hml hr hlocks htb hl
  have K : kx E p m c0 cL_cart "HayThievesLaw" _ s := K
  have hx := K.1
  have hb := K.2.1
  have hts := K.2.2.1
  have hown := K.2.2.2.1
  have hSt := K.2.2.2.2
  refine lv_aload_n hx hb dL_cart_0 rfl (lv_at hl 3 rfl) ?_
  refine lv_iconst (v := 0) hx hb dL_cart_1 (by decide) ?_
  refine lv_aload_n hx hb dL_cart_2 rfl (lv_at hl 0 rfl) ?_
  refine lv_iload_n hx hb dL_cart_3 rfl (lv_at hl 1 rfl) ?_
  refine lv_iload_n hx hb dL_cart_4 rfl (lv_at hl 2 rfl) ?_
  refine g_kh (g_runVX (As := [.int x, .int b]) (rest := [.int 0, .ref (gA E 2 16 0)]) K hml ca_X4_cart q437 (m_X4_cart l E J I x b hw0 hfl) hG hS rfl rfl rfl rfl rfl hl.1 (Nat.le_of_ble_eq_true rfl) ⟨by decide, by decide⟩ dL_cart_5 ⟨by decide, by decide⟩) hS (fun ce q9 H1 locs1 h0 hG hS hce hcv hcl => ?_) (fun h0 H1 locs1 hG hS => ?_)
  · rcases fx_X4_cart I x b with h | h
    · exact absurd h h0
    · rw [h] at hcl
      refine vx_catch (own := "HayThievesLaw") (name := "java/lang/IndexOutOfBoundsException") hown [] ⟨0, 10, 13, 21⟩ [] (by rw [htb]; rfl) (fun z hz => absurd hz List.not_mem_nil) rfl (by decide) (hts _ q354) (hSt.nest qc_2) hce hcv hcl ?_
      refine lv_astore (lv' := [(4, .ref q9), (0, .ref (gA E 2 10 0)), (1, .int x), (2, .int b), (3, .ref (gA E 2 16 0))]) hx hb dL_cart_13 hl (by decide) rfl (fun ls hl => ?_)
      refine lv_iconst (v := 1) hx hb dL_cart_15 (by decide) ?_
      exact g_hret K (by rw [hJ_n h0, hI_n h0]; exact hG) hS hr hlocks (hcode_1 h h0).symm rfl rfl dL_cart_16
  · refine lv_i2l hx hb dL_cart_8 rfl ?_
    refine g_last K hG hS dL_cart_9 (fun H1 locs1 hG hS => ?_)
    refine lv_goto (tgt := 17) hx hb dL_cart_10 (by decide) ?_
    refine lv_iconst (v := 0) hx hb dL_cart_17 (by decide) ?_
    exact g_hret K (by rw [hJ_z h0, hI_z h0]; exact hG) hS hr hlocks (hcode_0 h0).symm rfl rfl dL_cart_18
theorem fx_X4_load (I : gI) (x b : Int32) : f_X4_load_x I x b = 0 ∨ f_X4_load_x I x b = 3 := by
  have h1 := fx_X4_needLad I x
  have h2 := fx_X4_needLad I b
  have h3 := fx_X4_needLoad I x
  have h4 := fx_X4_needMinutes I x 60
  have h5 := fx_X4_needMinutes I x 40
  unfold f_X4_load_x
  try dsimp only
  (repeat' split) <;> omega
set_option maxHeartbeats 4000000 in
set_option maxRecDepth 100000 in
theorem m_L_load (l : Launch) (E : gE) (J : Int64) (I : gI) (x b : Int32) (hw0 : wf (I 0)) (hfl : l.stackTraces = false) : gMh l E J yL_load cL_load 5 [(0, 10, 13, 21)] 8 125 2 [.ref (gA E 2 10 0), .int x, .int b, .ref (gA E 2 16 0)] I 3 (f_X4_load_x I x b) (f_X4_load I x b) I := by
  refine g_entryH (lv := [(0, .ref (gA E 2 10 0)), (1, .int x), (2, .int b), (3, .ref (gA E 2 16 0))]) (by decide) (Nat.le_of_ble_eq_true rfl) rfl ?_
  intro p e s m below meth c0 ls K hG hS hml hr hlocks htb hl
  have K : kx E p m c0 cL_load "HayThievesLaw" _ s := K
  have hx := K.1
  have hb := K.2.1
  have hts := K.2.2.1
  have hown := K.2.2.2.1
  have hSt := K.2.2.2.2
  refine lv_aload_n hx hb dL_load_0 rfl (lv_at hl 3 rfl) ?_
  refine lv_iconst (v := 0) hx hb dL_load_1 (by decide) ?_
  refine lv_aload_n hx hb dL_load_2 rfl (lv_at hl 0 rfl) ?_
  refine lv_iload_n hx hb dL_load_3 rfl (lv_at hl 1 rfl) ?_
  refine lv_iload_n hx hb dL_load_4 rfl (lv_at hl 2 rfl) ?_
  refine g_kh (g_runVX (As := [.int x, .int b]) (rest := [.int 0, .ref (gA E 2 16 0)]) K hml ca_X4_load q445 (m_X4_load l E J I x b hw0 hfl) hG hS rfl rfl rfl rfl rfl hl.1 (Nat.le_of_ble_eq_true rfl) ⟨by decide, by decide⟩ dL_load_5 ⟨by decide, by decide⟩) hS (fun ce q9 H1 locs1 h0 hG hS hce hcv hcl => ?_) (fun h0 H1 locs1 hG hS => ?_)
  · rcases fx_X4_load I x b with h | h
    · exact absurd h h0
    · rw [h] at hcl
      refine vx_catch (own := "HayThievesLaw") (name := "java/lang/IndexOutOfBoundsException") hown [] ⟨0, 10, 13, 21⟩ [] (by rw [htb]; rfl) (fun z hz => absurd hz List.not_mem_nil) rfl (by decide) (hts _ q354) (hSt.nest qc_2) hce hcv hcl ?_
      refine lv_astore (lv' := [(4, .ref q9), (0, .ref (gA E 2 10 0)), (1, .int x), (2, .int b), (3, .ref (gA E 2 16 0))]) hx hb dL_load_13 hl (by decide) rfl (fun ls hl => ?_)
      refine lv_iconst (v := 1) hx hb dL_load_15 (by decide) ?_
      exact g_hret K (by rw [hJ_n h0, hI_n h0]; exact hG) hS hr hlocks (hcode_1 h h0).symm rfl rfl dL_load_16
  · refine lv_i2l hx hb dL_load_8 rfl ?_
    refine g_last K hG hS dL_load_9 (fun H1 locs1 hG hS => ?_)
    refine lv_goto (tgt := 17) hx hb dL_load_10 (by decide) ?_
    refine lv_iconst (v := 0) hx hb dL_load_17 (by decide) ?_
    exact g_hret K (by rw [hJ_z h0, hI_z h0]; exact hG) hS hr hlocks (hcode_0 h0).symm rfl rfl dL_load_18
theorem fx_X4_count (I : gI) (x : Int32) : f_X4_count_x I x = 0 ∨ f_X4_count_x I x = 3 := by
  have h1 := fx_X4_needLad I x
  have h2 := fx_X4_needLad I x
  have h3 := fx_X4_needLoad I x
  have h4 := fx_X4_needMinutes I x 60
  have h5 := fx_X4_needMinutes I x 40
  unfold f_X4_count_x
  try dsimp only
  (repeat' split) <;> omega
set_option maxHeartbeats 4000000 in
set_option maxRecDepth 100000 in
theorem m_L_count (l : Launch) (E : gE) (J : Int64) (I : gI) (x : Int32) (hw0 : wf (I 0)) (hfl : l.stackTraces = false) : gMh l E J yL_count cL_count 4 [(0, 9, 12, 21)] 7 107 1 [.ref (gA E 2 10 0), .int x, .ref (gA E 2 16 0)] I 3 (f_X4_count_x I x) (f_X4_count I x) I := by
  refine g_entryH (lv := [(0, .ref (gA E 2 10 0)), (1, .int x), (2, .ref (gA E 2 16 0))]) (by decide) (Nat.le_of_ble_eq_true rfl) rfl ?_
  intro p e s m below meth c0 ls K hG hS hml hr hlocks htb hl
  have K : kx E p m c0 cL_count "HayThievesLaw" _ s := K
  have hx := K.1
  have hb := K.2.1
  have hts := K.2.2.1
  have hown := K.2.2.2.1
  have hSt := K.2.2.2.2
  refine lv_aload_n hx hb dL_count_0 rfl (lv_at hl 2 rfl) ?_
  refine lv_iconst (v := 0) hx hb dL_count_1 (by decide) ?_
  refine lv_aload_n hx hb dL_count_2 rfl (lv_at hl 0 rfl) ?_
  refine lv_iload_n hx hb dL_count_3 rfl (lv_at hl 1 rfl) ?_
  refine g_kh (g_runVX (As := [.int x]) (rest := [.int 0, .ref (gA E 2 16 0)]) K hml ca_X4_count q458 (m_X4_count l E J I x hw0 hfl) hG hS rfl rfl rfl rfl rfl hl.1 (Nat.le_of_ble_eq_true rfl) ⟨by decide, by decide⟩ dL_count_4 ⟨by decide, by decide⟩) hS (fun ce q9 H1 locs1 h0 hG hS hce hcv hcl => ?_) (fun h0 H1 locs1 hG hS => ?_)
  · rcases fx_X4_count I x with h | h
    · exact absurd h h0
    · rw [h] at hcl
      refine vx_catch (own := "HayThievesLaw") (name := "java/lang/IndexOutOfBoundsException") hown [] ⟨0, 9, 12, 21⟩ [] (by rw [htb]; rfl) (fun z hz => absurd hz List.not_mem_nil) rfl (by decide) (hts _ q354) (hSt.nest qc_2) hce hcv hcl ?_
      refine lv_astore_n (lv' := [(3, .ref q9), (0, .ref (gA E 2 10 0)), (1, .int x), (2, .ref (gA E 2 16 0))]) hx hb dL_count_12 rfl hl (by decide) rfl (fun ls hl => ?_)
      refine lv_iconst (v := 1) hx hb dL_count_13 (by decide) ?_
      exact g_hret K (by rw [hJ_n h0, hI_n h0]; exact hG) hS hr hlocks (hcode_1 h h0).symm rfl rfl dL_count_14
  · refine lv_i2l hx hb dL_count_7 rfl ?_
    refine g_last K hG hS dL_count_8 (fun H1 locs1 hG hS => ?_)
    refine lv_goto (tgt := 15) hx hb dL_count_9 (by decide) ?_
    refine lv_iconst (v := 0) hx hb dL_count_15 (by decide) ?_
    exact g_hret K (by rw [hJ_z h0, hI_z h0]; exact hG) hS hr hlocks (hcode_0 h0).symm rfl rfl dL_count_16
theorem fx_X4_victim (I : gI) (x : Int32) : f_X4_victim_x I x = 0 ∨ f_X4_victim_x I x = 3 := by
  have h1 := fx_X4_needLad I x
  have h2 := fx_X4_needLad I x
  have h3 := fx_X4_needLoad I x
  have h4 := fx_X4_needMinutes I x 60
  have h5 := fx_X4_needMinutes I x 40
  unfold f_X4_victim_x
  try dsimp only
  (repeat' split) <;> omega
set_option maxHeartbeats 4000000 in
set_option maxRecDepth 100000 in
theorem m_L_victim (l : Launch) (E : gE) (J : Int64) (I : gI) (x : Int32) (hw0 : wf (I 0)) (hfl : l.stackTraces = false) : gMh l E J yL_victim cL_victim 4 [(0, 9, 12, 21)] 8 124 1 [.ref (gA E 2 10 0), .int x, .ref (gA E 2 16 0)] I 3 (f_X4_victim_x I x) (f_X4_victim I x) I := by
  refine g_entryH (lv := [(0, .ref (gA E 2 10 0)), (1, .int x), (2, .ref (gA E 2 16 0))]) (by decide) (Nat.le_of_ble_eq_true rfl) rfl ?_
  intro p e s m below meth c0 ls K hG hS hml hr hlocks htb hl
  have K : kx E p m c0 cL_victim "HayThievesLaw" _ s := K
  have hx := K.1
  have hb := K.2.1
  have hts := K.2.2.1
  have hown := K.2.2.2.1
  have hSt := K.2.2.2.2
  refine lv_aload_n hx hb dL_victim_0 rfl (lv_at hl 2 rfl) ?_
  refine lv_iconst (v := 0) hx hb dL_victim_1 (by decide) ?_
  refine lv_aload_n hx hb dL_victim_2 rfl (lv_at hl 0 rfl) ?_
  refine lv_iload_n hx hb dL_victim_3 rfl (lv_at hl 1 rfl) ?_
  refine g_kh (g_runVX (As := [.int x]) (rest := [.int 0, .ref (gA E 2 16 0)]) K hml ca_X4_victim q466 (m_X4_victim l E J I x hw0 hfl) hG hS rfl rfl rfl rfl rfl hl.1 (Nat.le_of_ble_eq_true rfl) ⟨by decide, by decide⟩ dL_victim_4 ⟨by decide, by decide⟩) hS (fun ce q9 H1 locs1 h0 hG hS hce hcv hcl => ?_) (fun h0 H1 locs1 hG hS => ?_)
  · rcases fx_X4_victim I x with h | h
    · exact absurd h h0
    · rw [h] at hcl
      refine vx_catch (own := "HayThievesLaw") (name := "java/lang/IndexOutOfBoundsException") hown [] ⟨0, 9, 12, 21⟩ [] (by rw [htb]; rfl) (fun z hz => absurd hz List.not_mem_nil) rfl (by decide) (hts _ q354) (hSt.nest qc_2) hce hcv hcl ?_
      refine lv_astore_n (lv' := [(3, .ref q9), (0, .ref (gA E 2 10 0)), (1, .int x), (2, .ref (gA E 2 16 0))]) hx hb dL_victim_12 rfl hl (by decide) rfl (fun ls hl => ?_)
      refine lv_iconst (v := 1) hx hb dL_victim_13 (by decide) ?_
      exact g_hret K (by rw [hJ_n h0, hI_n h0]; exact hG) hS hr hlocks (hcode_1 h h0).symm rfl rfl dL_victim_14
  · refine lv_i2l hx hb dL_victim_7 rfl ?_
    refine g_last K hG hS dL_victim_8 (fun H1 locs1 hG hS => ?_)
    refine lv_goto (tgt := 15) hx hb dL_victim_9 (by decide) ?_
    refine lv_iconst (v := 0) hx hb dL_victim_15 (by decide) ?_
    exact g_hret K (by rw [hJ_z h0, hI_z h0]; exact hG) hS hr hlocks (hcode_0 h0).symm rfl rfl dL_victim_16
theorem fx_X4_pass (I : gI) (x : Int32) : f_X4_pass_x I x = 0 ∨ f_X4_pass_x I x = 1 := by
  have h1 := fx_X4_needLad I x
  have h2 := fx_X4_needLad I x
  have h3 := fx_X4_needLoad I x
  have h4 := fx_X4_needMinutes I x 60
  have h5 := fx_X4_needMinutes I x 40
  unfold f_X4_pass_x
  try dsimp only
  (repeat' split) <;> omega
set_option maxHeartbeats 4000000 in
set_option maxRecDepth 100000 in
theorem m_L_pass (l : Launch) (E : gE) (J : Int64) (I : gI) (x : Int32) (hw0 : wf (I 0)) (hfl : l.stackTraces = false) : gMh l E J yL_pass cL_pass 4 [(0, 9, 12, 13)] 8 158 1 [.ref (gA E 2 10 0), .int x, .ref (gA E 2 16 0)] I 1 (f_X4_pass_x I x) (f_X4_pass_v I x) (f_X4_pass_s I x) := by
  refine g_entryH (lv := [(0, .ref (gA E 2 10 0)), (1, .int x), (2, .ref (gA E 2 16 0))]) (by decide) (Nat.le_of_ble_eq_true rfl) rfl ?_
  intro p e s m below meth c0 ls K hG hS hml hr hlocks htb hl
  have K : kx E p m c0 cL_pass "HayThievesLaw" _ s := K
  have hx := K.1
  have hb := K.2.1
  have hts := K.2.2.1
  have hown := K.2.2.2.1
  have hSt := K.2.2.2.2
  refine lv_aload_n hx hb dL_pass_0 rfl (lv_at hl 2 rfl) ?_
  refine lv_iconst (v := 0) hx hb dL_pass_1 (by decide) ?_
  refine lv_aload_n hx hb dL_pass_2 rfl (lv_at hl 0 rfl) ?_
  refine lv_iload_n hx hb dL_pass_3 rfl (lv_at hl 1 rfl) ?_
  refine g_kh (g_runVX (As := [.int x]) (rest := [.int 0, .ref (gA E 2 16 0)]) K hml ca_X4_pass q498 (m_X4_pass l E J I x hw0 hfl) hG hS rfl rfl rfl rfl rfl hl.1 (Nat.le_of_ble_eq_true rfl) ⟨by decide, by decide⟩ dL_pass_4 ⟨by decide, by decide⟩) hS (fun ce q9 H1 locs1 h0 hG hS hce hcv hcl => ?_) (fun h0 H1 locs1 hG hS => ?_)
  · rcases fx_X4_pass I x with h | h
    · exact absurd h h0
    · rw [h] at hcl
      refine vx_catch (own := "HayThievesLaw") (name := "java/lang/IllegalArgumentException") hown [] ⟨0, 9, 12, 13⟩ [] (by rw [htb]; rfl) (fun z hz => absurd hz List.not_mem_nil) rfl (by decide) (hts _ q257) (hSt.nest qc_0) hce hcv hcl ?_
      refine lv_astore_n (lv' := [(3, .ref q9), (0, .ref (gA E 2 10 0)), (1, .int x), (2, .ref (gA E 2 16 0))]) hx hb dL_pass_12 rfl hl (by decide) rfl (fun ls hl => ?_)
      refine lv_iconst (v := 1) hx hb dL_pass_13 (by decide) ?_
      exact g_hret K (by rw [hJ_n h0, hI_n h0]; exact hG) hS hr hlocks (hcode_1 h h0).symm rfl rfl dL_pass_14
  · refine lv_i2l hx hb dL_pass_7 rfl ?_
    refine g_last K hG hS dL_pass_8 (fun H1 locs1 hG hS => ?_)
    refine lv_goto (tgt := 15) hx hb dL_pass_9 (by decide) ?_
    refine lv_iconst (v := 0) hx hb dL_pass_15 (by decide) ?_
    exact g_hret K (by rw [hJ_z h0, hI_z h0]; exact hG) hS hr hlocks (hcode_0 h0).symm rfl rfl dL_pass_16
theorem fx_X4_until (I : gI) (x : Int32) : f_X4_until_x I x = 0 ∨ f_X4_until_x I x = 3 := by
  have h1 := fx_X4_needLad I x
  have h2 := fx_X4_needLad I x
  have h3 := fx_X4_needLoad I x
  have h4 := fx_X4_needMinutes I x 60
  have h5 := fx_X4_needMinutes I x 40
  unfold f_X4_until_x
  try dsimp only
  (repeat' split) <;> omega
set_option maxHeartbeats 4000000 in
set_option maxRecDepth 100000 in
theorem m_L_until (l : Launch) (E : gE) (J : Int64) (I : gI) (x : Int32) (hw0 : wf (I 0)) (hw1 : wf (I 1)) (hzz : ∀ i, i < 6 → I 0 1 i 7 = 0 ∨ I 0 1 i 7 = 1) (hzd : ∀ j, I 0 6 0 j = 0 ∨ I 0 6 0 j = 1) (hfl : l.stackTraces = false) : gMh l E J yL_until cL_until 4 [(0, 9, 12, 21)] 8 159 1 [.ref (gA E 2 10 0), .int x, .ref (gA E 2 16 0)] I 3 (f_X4_until_x I x) (f_X4_until_v I x) (f_X4_until_s I x) := by
  refine g_entryH (lv := [(0, .ref (gA E 2 10 0)), (1, .int x), (2, .ref (gA E 2 16 0))]) (by decide) (Nat.le_of_ble_eq_true rfl) rfl ?_
  intro p e s m below meth c0 ls K hG hS hml hr hlocks htb hl
  have K : kx E p m c0 cL_until "HayThievesLaw" _ s := K
  have hx := K.1
  have hb := K.2.1
  have hts := K.2.2.1
  have hown := K.2.2.2.1
  have hSt := K.2.2.2.2
  refine lv_aload_n hx hb dL_until_0 rfl (lv_at hl 2 rfl) ?_
  refine lv_iconst (v := 0) hx hb dL_until_1 (by decide) ?_
  refine lv_aload_n hx hb dL_until_2 rfl (lv_at hl 0 rfl) ?_
  refine lv_iload_n hx hb dL_until_3 rfl (lv_at hl 1 rfl) ?_
  refine g_kh (g_runVX (As := [.int x]) (rest := [.int 0, .ref (gA E 2 16 0)]) K hml ca_X4_until q592 (m_X4_until l E J I x hw0 hw1 hzz hzd hfl) hG hS rfl rfl rfl rfl rfl hl.1 (Nat.le_of_ble_eq_true rfl) ⟨by decide, by decide⟩ dL_until_4 ⟨by decide, by decide⟩) hS (fun ce q9 H1 locs1 h0 hG hS hce hcv hcl => ?_) (fun h0 H1 locs1 hG hS => ?_)
  · rcases fx_X4_until I x with h | h
    · exact absurd h h0
    · rw [h] at hcl
      refine vx_catch (own := "HayThievesLaw") (name := "java/lang/IndexOutOfBoundsException") hown [] ⟨0, 9, 12, 21⟩ [] (by rw [htb]; rfl) (fun z hz => absurd hz List.not_mem_nil) rfl (by decide) (hts _ q354) (hSt.nest qc_2) hce hcv hcl ?_
      refine lv_astore_n (lv' := [(3, .ref q9), (0, .ref (gA E 2 10 0)), (1, .int x), (2, .ref (gA E 2 16 0))]) hx hb dL_until_12 rfl hl (by decide) rfl (fun ls hl => ?_)
      refine lv_iconst (v := 1) hx hb dL_until_13 (by decide) ?_
      exact g_hret K (by rw [hJ_n h0, hI_n h0]; exact hG) hS hr hlocks (hcode_1 h h0).symm rfl rfl dL_until_14
  · refine lv_i2l hx hb dL_until_7 rfl ?_
    refine g_last K hG hS dL_until_8 (fun H1 locs1 hG hS => ?_)
    refine lv_goto (tgt := 15) hx hb dL_until_9 (by decide) ?_
    refine lv_iconst (v := 0) hx hb dL_until_15 (by decide) ?_
    exact g_hret K (by rw [hJ_z h0, hI_z h0]; exact hG) hS hr hlocks (hcode_0 h0).symm rfl rfl dL_until_16
theorem fx_X4_foresee (I : gI) (x b : Int32) : f_X4_foresee_x I x b = 0 ∨ f_X4_foresee_x I x b = 1 ∨ f_X4_foresee_x I x b = 3 := by
  have h1 := fx_X4_needLad I x
  have h2 := fx_X4_needLad I b
  have h3 := fx_X4_needLoad I x
  have h4 := fx_X4_needMinutes I x 60
  have h5 := fx_X4_needMinutes I x 40
  unfold f_X4_foresee_x
  try dsimp only
  (repeat' split) <;> omega
set_option maxHeartbeats 4000000 in
set_option maxRecDepth 100000 in
theorem m_L_foresee (l : Launch) (E : gE) (J : Int64) (I : gI) (x b : Int32) (hw0 : wf (I 0)) (hw1 : wf (I 1)) (hzz : ∀ i, i < 6 → I 0 1 i 7 = 0 ∨ I 0 1 i 7 = 1) (hzd : ∀ j, I 0 6 0 j = 0 ∨ I 0 6 0 j = 1) (hfl : l.stackTraces = false) : gMh l E J yL_foresee cL_foresee 5 [(0, 10, 13, 13), (0, 10, 17, 21)] 8 158 2 [.ref (gA E 2 10 0), .int x, .int b, .ref (gA E 2 16 0)] I 1 (f_X4_foresee_x I x b) (f_X4_foresee_v I x b) (f_X4_foresee_s I x b) := by
  refine g_entryH (lv := [(0, .ref (gA E 2 10 0)), (1, .int x), (2, .int b), (3, .ref (gA E 2 16 0))]) (by decide) (Nat.le_of_ble_eq_true rfl) rfl ?_
  intro p e s m below meth c0 ls K hG hS hml hr hlocks htb hl
  have K : kx E p m c0 cL_foresee "HayThievesLaw" _ s := K
  have hx := K.1
  have hb := K.2.1
  have hts := K.2.2.1
  have hown := K.2.2.2.1
  have hSt := K.2.2.2.2
  refine lv_aload_n hx hb dL_foresee_0 rfl (lv_at hl 3 rfl) ?_
  refine lv_iconst (v := 0) hx hb dL_foresee_1 (by decide) ?_
  refine lv_aload_n hx hb dL_foresee_2 rfl (lv_at hl 0 rfl) ?_
  refine lv_iload_n hx hb dL_foresee_3 rfl (lv_at hl 1 rfl) ?_
  refine lv_iload_n hx hb dL_foresee_4 rfl (lv_at hl 2 rfl) ?_
  refine g_kh (g_runVX (As := [.int x, .int b]) (rest := [.int 0, .ref (gA E 2 16 0)]) K hml ca_X4_foresee q616 (m_X4_foresee l E J I x b hw0 hw1 hzz hzd hfl) hG hS rfl rfl rfl rfl rfl hl.1 (Nat.le_of_ble_eq_true rfl) ⟨by decide, by decide⟩ dL_foresee_5 ⟨by decide, by decide⟩) hS (fun ce q9 H1 locs1 h0 hG hS hce hcv hcl => ?_) (fun h0 H1 locs1 hG hS => ?_)
  · rcases fx_X4_foresee I x b with h | h | h
    · exact absurd h h0
    · rw [h] at hcl
      refine vx_catch (own := "HayThievesLaw") (name := "java/lang/IllegalArgumentException") hown [] ⟨0, 10, 13, 13⟩ [⟨0, 10, 17, 21⟩] (by rw [htb]; rfl) (fun z hz => absurd hz List.not_mem_nil) rfl (by decide) (hts _ q257) (hSt.nest qc_0) hce hcv hcl ?_
      refine lv_astore (lv' := [(4, .ref q9), (0, .ref (gA E 2 10 0)), (1, .int x), (2, .int b), (3, .ref (gA E 2 16 0))]) hx hb dL_foresee_13 hl (by decide) rfl (fun ls hl => ?_)
      refine lv_iconst (v := 1) hx hb dL_foresee_15 (by decide) ?_
      exact g_hret K (by rw [hJ_n h0, hI_n h0]; exact hG) hS hr hlocks (hcode_1 h h0).symm rfl rfl dL_foresee_16
    · rw [h] at hcl
      refine vx_catch (own := "HayThievesLaw") (name := "java/lang/IndexOutOfBoundsException") hown [⟨0, 10, 13, 13⟩] ⟨0, 10, 17, 21⟩ [] (by rw [htb]; rfl) (fun z hz => Or.inr (by rw [List.mem_singleton.mp hz]; exact ⟨by decide, "java/lang/IllegalArgumentException", hts _ q257, gncN hSt (q := ("java/lang/IndexOutOfBoundsException", "java/lang/IllegalArgumentException")) (by decide)⟩)) rfl (by decide) (hts _ q354) (hSt.nest qc_2) hce hcv hcl ?_
      refine lv_astore (lv' := [(4, .ref q9), (0, .ref (gA E 2 10 0)), (1, .int x), (2, .int b), (3, .ref (gA E 2 16 0))]) hx hb dL_foresee_17 hl (by decide) rfl (fun ls hl => ?_)
      refine lv_iconst (v := 2) hx hb dL_foresee_19 (by decide) ?_
      exact g_hret K (by rw [hJ_n h0, hI_n h0]; exact hG) hS hr hlocks (hcode_2 (by rw [h]; decide) h0).symm rfl rfl dL_foresee_20
  · refine lv_i2l hx hb dL_foresee_8 rfl ?_
    refine g_last K hG hS dL_foresee_9 (fun H1 locs1 hG hS => ?_)
    refine lv_goto (tgt := 21) hx hb dL_foresee_10 (by decide) ?_
    refine lv_iconst (v := 0) hx hb dL_foresee_21 (by decide) ?_
    exact g_hret K (by rw [hJ_z h0, hI_z h0]; exact hG) hS hr hlocks (hcode_0 h0).symm rfl rfl dL_foresee_22
theorem fx_X4_advise (I : gI) (x : Int32) : f_X4_advise_x I x = 0 ∨ f_X4_advise_x I x = 1 := by
  have h1 := fx_X4_needLad I x
  have h2 := fx_X4_needLad I x
  have h3 := fx_X4_needLoad I x
  have h4 := fx_X4_needMinutes I x 60
  have h5 := fx_X4_needMinutes I x 40
  unfold f_X4_advise_x
  try dsimp only
  (repeat' split) <;> omega
set_option maxHeartbeats 4000000 in
set_option maxRecDepth 100000 in
theorem m_L_advise (l : Launch) (E : gE) (J : Int64) (I : gI) (x : Int32) (hw0 : wf (I 0)) (hw1 : wf (I 1)) (hzz : ∀ i, i < 6 → I 0 1 i 7 = 0 ∨ I 0 1 i 7 = 1) (hzd : ∀ j, I 0 6 0 j = 0 ∨ I 0 6 0 j = 1) (hfl : l.stackTraces = false) : gMh l E J yL_advise cL_advise 4 [(0, 9, 12, 13)] 8 164 1 [.ref (gA E 2 10 0), .int x, .ref (gA E 2 16 0)] I 1 (f_X4_advise_x I x) (f_X4_advise_v I x) (f_X4_advise_s I x) := by
  refine g_entryH (lv := [(0, .ref (gA E 2 10 0)), (1, .int x), (2, .ref (gA E 2 16 0))]) (by decide) (Nat.le_of_ble_eq_true rfl) rfl ?_
  intro p e s m below meth c0 ls K hG hS hml hr hlocks htb hl
  have K : kx E p m c0 cL_advise "HayThievesLaw" _ s := K
  have hx := K.1
  have hb := K.2.1
  have hts := K.2.2.1
  have hown := K.2.2.2.1
  have hSt := K.2.2.2.2
  refine lv_aload_n hx hb dL_advise_0 rfl (lv_at hl 2 rfl) ?_
  refine lv_iconst (v := 0) hx hb dL_advise_1 (by decide) ?_
  refine lv_aload_n hx hb dL_advise_2 rfl (lv_at hl 0 rfl) ?_
  refine lv_iload_n hx hb dL_advise_3 rfl (lv_at hl 1 rfl) ?_
  refine g_kh (g_runVX (As := [.int x]) (rest := [.int 0, .ref (gA E 2 16 0)]) K hml ca_X4_advise q624 (m_X4_advise l E J I x hw0 hw1 hzz hzd hfl) hG hS rfl rfl rfl rfl rfl hl.1 (Nat.le_of_ble_eq_true rfl) ⟨by decide, by decide⟩ dL_advise_4 ⟨by decide, by decide⟩) hS (fun ce q9 H1 locs1 h0 hG hS hce hcv hcl => ?_) (fun h0 H1 locs1 hG hS => ?_)
  · rcases fx_X4_advise I x with h | h
    · exact absurd h h0
    · rw [h] at hcl
      refine vx_catch (own := "HayThievesLaw") (name := "java/lang/IllegalArgumentException") hown [] ⟨0, 9, 12, 13⟩ [] (by rw [htb]; rfl) (fun z hz => absurd hz List.not_mem_nil) rfl (by decide) (hts _ q257) (hSt.nest qc_0) hce hcv hcl ?_
      refine lv_astore_n (lv' := [(3, .ref q9), (0, .ref (gA E 2 10 0)), (1, .int x), (2, .ref (gA E 2 16 0))]) hx hb dL_advise_12 rfl hl (by decide) rfl (fun ls hl => ?_)
      refine lv_iconst (v := 1) hx hb dL_advise_13 (by decide) ?_
      exact g_hret K (by rw [hJ_n h0, hI_n h0]; exact hG) hS hr hlocks (hcode_1 h h0).symm rfl rfl dL_advise_14
  · refine lv_i2l hx hb dL_advise_7 rfl ?_
    refine g_last K hG hS dL_advise_8 (fun H1 locs1 hG hS => ?_)
    refine lv_goto (tgt := 15) hx hb dL_advise_9 (by decide) ?_
    refine lv_iconst (v := 0) hx hb dL_advise_15 (by decide) ?_
    exact g_hret K (by rw [hJ_z h0, hI_z h0]; exact hG) hS hr hlocks (hcode_0 h0).symm rfl rfl dL_advise_16
