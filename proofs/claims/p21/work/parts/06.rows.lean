/-! THE ROWS: an instruction over the world. -/
/-- what a method's walk stands on -/
def kx (E : gE) (p : Program) (m : MethodId) (c : Code) (cc : ByteArray) (own : String) (args : Array Value) (s : State) : Prop := p.tables.exec = Jvm.exec ∧ c.code = cc ∧ (∀ w ∈ lw_all, w.before args s = true) ∧ s.vm.findClass own = some m.cls ∧ gS E s
theorem gS.K {E : gE} {s : State} (h : gS E s) : va_K E.1 vwCl (gtys E) s := h.1
theorem gS.ok {E : gE} {s : State} (h : gS E s) : gok E := h.2.2.1
theorem gS.nest {E : gE} {s : State} (h : gS E s) {w : Cond} (hw : w ∈ gnest) {args : Array Value} : w.before args s = true := va_Nw.use (gnest_ot hw) (h.2.1 w hw)
theorem gtys_at {E : gE} {s : State} (h : gS E s) {k : Nat} {ty : FieldType} (hk : (gtys E)[k]? = some (E.2.1 k, ty)) : ArrOfT s (E.2.1 k) ty := (h.K.2 k _ hk).1
theorem sv_int {E : gE} {J : Int64} {I : gI} {y t i j : Nat} (h : gk t j = true) : sv E J I y t i j = .int (I y t i j) := by simp [sv, h]
theorem gA_in {E : gE} {s : State} (h : gS E s) {y t i : Nat} (hv : gv y t i = true) : gF E (gA E y t i) := h.ok.2 y t i hv
/-- another world whose slots of references are the same, and whose slots differ at one place alone -/
theorem sv_u3 {E : gE} {J : Int64} {I : gI} {y t i j : Nat} {x : Int32} (hk : gk t j = true) (hr : ∀ y' t' i' j', gk t' j' = false → grf E (gset I y (u3 (I y) t i j x)) y' t' i' j' = grf E I y' t' i' j') (y' t' i' j' : Nat) : sv E J (gset I y (u3 (I y) t i j x)) y' t' i' j' = if y' = y ∧ t' = t ∧ i' = i ∧ j' = j then .int x else sv E J I y' t' i' j' := by
  by_cases h : y' = y ∧ t' = t ∧ i' = i ∧ j' = j
  · obtain ⟨rfl, rfl, rfl, rfl⟩ := h
    rw [if_pos ⟨rfl, rfl, rfl, rfl⟩, sv_int hk, gset_at]
    simp [u3]
  · rw [if_neg h]
    by_cases hk' : gk t' j' = true
    · rw [sv_int hk', sv_int hk']
      congr 1
      by_cases hy : y' = y
      · subst hy
        rw [gset_at]
        unfold u3
        rw [if_neg]
        intro q
        exact h ⟨rfl, q⟩
      · rw [gset_ne I _ hy]
    · have hk2 : gk t' j' = false := by simpa using hk'
      unfold sv
      rw [hk2, hr y' t' i' j' hk2]
      simp
/-- a slot of a whole number leads nowhere: what the references are stays, but for a lad's cart -/
theorem grf_u3 {E : gE} {I : gI} {y t i j : Nat} {x : Int32} (h : ¬ (t = 1 ∧ j = 3)) (y' t' i' j' : Nat) : grf E (gset I y (u3 (I y) t i j x)) y' t' i' j' = grf E I y' t' i' j' := by
  unfold grf
  split <;> try rfl
  have e : gset I y (u3 (I y) t i j x) y' 1 i' 3 = I y' 1 i' 3 := by
    by_cases hy : y' = y
    · subst hy
      rw [gset_at]
      unfold u3
      rw [if_neg]
      intro q
      exact h ⟨q.1.symm, q.2.2.symm⟩
    · rw [gset_ne I _ hy]
  rw [e]
theorem gk_not13 {t j : Nat} (h : gk t j = true) : ¬ (t = 1 ∧ j = 3) := by
  rintro ⟨rfl, rfl⟩
  exact absurd h (by decide)
section GR
variable {p : Program} {l : Launch} {e : Env} {R : Room} {s : State} {m : MethodId} {args : Array Value} {below : List Frame} {meth : Method} {c : Code} {H : Heap} {locs : List Loc} {cells slots : Nat} {Q : State → Prop}
variable {cc : ByteArray} {pc : Nat} {ls : Array Slot} {rest : List Value} {E : gE} {J : Int64} {I : gI} {own : String} {H0 : Heap}
theorem g_get {C : String} {T : u_T} {N ci index : Nat} (K : kx E p m c cc own args s) (hG : GW E J I H) {y t i : Nat} (hv : gv y t i = true) (hs : sh t = .inl ci) (hc : vwCl[ci]? = some (C, T, N)) (hin : ∀ w ∈ u_ws C T N, w ∈ lw_all) (k : Nat) (hk : k < N) (hlink : Cond.fieldLink own index (T k).1 (T k).2.1 (T k).2.2.1 ∈ lw_all) {v : Value} (hV : sv E J I y t i k = v) (hdg : decode cc pc = .ok (.getfield index, 3))
    (kk : W p l e R s m args below meth c H locs cells slots Q (F0 m (pc + 3) ls (v :: rest))) : W p l e R s m args below meth c H locs cells slots Q (F0 m pc ls (.ref (gA E y t i) :: rest)) := by
  obtain ⟨hx, hb, hts, hown, hSt⟩ := K
  have h0 := hG y t i hv
  rw [hs] at h0
  obtain ⟨r, h1, cell, q1, q2, q3, q4⟩ := h0
  have hr : r = (C, T, N) := Option.some.inj (h1.symm.trans hc)
  subst hr
  obtain ⟨hS, hfc, kC, hkC, hkind⟩ := hSt.K.1 ci _ hc
  obtain ⟨cf, kf, fi, f, hi, hsl⟩ := hS k hk
  refine W.getf hx hb hown (hts _ hlink) hi (u_facts hfc hkC (u_lays hts hin hk) hi).1 q1 (by rw [q3]; exact fun h => by cases h) (v := v) ?_ rfl rfl hdg kk
  rw [hsl, q4 k hk, hV]
theorem g_getN {host C : String} {T : u_T} {N ci index : Nat} (K : kx E p m c cc own args s) (hG : GW E J I H) {y t i : Nat} (hv : gv y t i = true) (hs : sh t = .inl ci) (hc : vwCl[ci]? = some (C, T, N)) (hin : ∀ w ∈ u_ws C T N, w ∈ lw_all) (k : Nat) (hk : k < N) (hlink : Cond.fieldLinkNest own index (T k).1 (T k).2.1 (T k).2.2.1 host ∈ gnest) {v : Value} (hV : sv E J I y t i k = v) (hdg : decode cc pc = .ok (.getfield index, 3))
    (kk : W p l e R s m args below meth c H locs cells slots Q (F0 m (pc + 3) ls (v :: rest))) : W p l e R s m args below meth c H locs cells slots Q (F0 m pc ls (.ref (gA E y t i) :: rest)) := by
  obtain ⟨hx, hb, hts, hown, hSt⟩ := K
  have h0 := hG y t i hv
  rw [hs] at h0
  obtain ⟨r, h1, cell, q1, q2, q3, q4⟩ := h0
  have hr : r = (C, T, N) := Option.some.inj (h1.symm.trans hc)
  subst hr
  obtain ⟨hS, hfc, kC, hkC, hkind⟩ := hSt.K.1 ci _ hc
  obtain ⟨cf, kf, fi, f, hi, hsl⟩ := hS k hk
  refine va_Wgetf hx hb hown (hSt.nest hlink) hi (u_facts hfc hkC (u_lays hts hin hk) hi).1 q1 (by rw [q3]; exact fun h => by cases h) (v := v) ?_ rfl rfl hdg kk
  rw [hsl, q4 k hk, hV]
/-- behind a store into an object: the world with that slot changed -/
theorem g_objput {E : gE} {s : State} {C : String} {T : u_T} {N ci : Nat} (hSt : gS E s) (hts : ∀ w ∈ lw_all, w.before args s = true) (hc : vwCl[ci]? = some (C, T, N)) (hin : ∀ w ∈ u_ws C T N, w ∈ lw_all) (ty0 : Nat → FieldType) (hty : ∀ k, k < N → parseFieldDescriptor (T k).2.2.1 = some (ty0 k)) (hnm : ∀ a, a < N → ∀ b, b < N → a ≠ b → (T a).2.1 ≠ (T b).2.1)
    (hG : GW E J I H) {y t i : Nat} (hv : gv y t i = true) (hs : sh t = .inl ci) {k : Nat} (hk : k < N) {x : Value} {I' : gI} (hI : ∀ y' t' i' j', sv E J I' y' t' i' j' = if y' = y ∧ t' = t ∧ i' = i ∧ j' = k then x else sv E J I y' t' i' j') {cell : Cell} (q1 : H[gA E y t i]? = some cell) {H1 : Heap} (e1 : H1[gA E y t i]? = some (cell.setSlot (E.1.2 ci k) x)) (e3 : ∀ q, q ≠ gA E y t i → H1[q]? = H[q]?) : GW E J I' H1 := by
  have hap := va_apart (own := C) hts hin ty0 hty hnm hSt.K hc
  refine hG.put hSt.ok hv ?_ e3 (fun y' t' i' j' hn => by rw [hI, if_neg]; exact fun q => hn ⟨q.1, q.2.1, q.2.2.1⟩)
  have h0 := hG y t i hv
  rw [hs] at h0 ⊢
  obtain ⟨r, h1, cell2, q1', q2, q3, q4⟩ := h0
  have hr : r = (C, T, N) := Option.some.inj (h1.symm.trans hc)
  subst hr
  cases q1.symm.trans q1'
  refine ⟨_, hc, t_OB.to (V := updV (sv E J I y t i) k x) ⟨_, e1, q2, q3, t_set q4 hap hk x⟩ (fun j _ => ?_)⟩
  rw [hI]
  unfold updV
  by_cases hj : j = k
  · simp [hj]
  · simp [hj]
theorem g_putV {C : String} {T : u_T} {N ci index : Nat} (K : kx E p m c cc own args s) (ty0 : Nat → FieldType) (hty : ∀ k, k < N → parseFieldDescriptor (T k).2.2.1 = some (ty0 k)) (hnm : ∀ a, a < N → ∀ b, b < N → a ≠ b → (T a).2.1 ≠ (T b).2.1) (hG : GW E J I H) (hS0 : va_S (gF E) H0 H locs) {y t i : Nat} (hv : gv y t i = true) (hs : sh t = .inl ci) (hc : vwCl[ci]? = some (C, T, N)) (hin : ∀ w ∈ u_ws C T N, w ∈ lw_all) (k : Nat) (hk : k < N) (hlink : Cond.fieldLink own index (T k).1 (T k).2.1 (T k).2.2.1 ∈ lw_all) (hfin : (T k).2.2.2 = false) {ty : FieldType} {x : Value} (hd : parseFieldDescriptor (T k).2.2.1 = some ty) (hn : narrow ty x = x) (hfit : fits ty x = true) {I' : gI} (hI : ∀ y' t' i' j', sv E J I' y' t' i' j' = if y' = y ∧ t' = t ∧ i' = i ∧ j' = k then x else sv E J I y' t' i' j') (hdg : decode cc pc = .ok (.putfield index, 3))
    (kk : ∀ (H1 : Heap) (locs1 : List Loc), GW E J I' H1 → va_S (gF E) H0 H1 locs1 → W p l e R s m args below meth c H1 locs1 cells slots Q (F0 m (pc + 3) ls rest)) : W p l e R s m args below meth c H locs cells slots Q (F0 m pc ls (x :: .ref (gA E y t i) :: rest)) := by
  obtain ⟨hx, hb, hts, hown, hSt⟩ := K
  have h0 := hG y t i hv
  rw [hs] at h0
  obtain ⟨r, h1, cell, q1, q2, q3, q4⟩ := h0
  have hr : r = (C, T, N) := Option.some.inj (h1.symm.trans hc)
  subst hr
  obtain ⟨hS, hfc, kC, hkC, hkind⟩ := hSt.K.1 ci _ hc
  obtain ⟨cf, kf, fi, f, hi, hsl⟩ := hS k hk
  have hlay := hts _ (hin _ (u_in_lay hk))
  unfold u_lay at hlay
  rw [if_neg (by rw [hfin]; decide)] at hlay
  have hst := (u_facts hfc hkC (u_lays hts hin hk) hi).1
  have h6 := u_store hfc hkC hkind hlay hi hd hn hfit
  refine W.putK hx hb (f := f) ⟨hown, hts _ hlink, ⟨_, _, _, hi⟩, hst⟩ (by rw [q2]; exact h6) q1 q3 (by rw [hsl]; exact k2_hasslot (q4 k hk)) rfl rfl hdg fun H' e1 e2 e3 => ?_
  rw [hsl] at e1 ⊢
  exact kk H' _ (g_objput hSt hts hc hin ty0 hty hnm hG hv hs hk hI q1 e1 e3) (hS0.put e2 e3 (gA_in hSt hv))
theorem g_putVN {host C : String} {T : u_T} {N ci index : Nat} (K : kx E p m c cc own args s) (ty0 : Nat → FieldType) (hty : ∀ k, k < N → parseFieldDescriptor (T k).2.2.1 = some (ty0 k)) (hnm : ∀ a, a < N → ∀ b, b < N → a ≠ b → (T a).2.1 ≠ (T b).2.1) (hG : GW E J I H) (hS0 : va_S (gF E) H0 H locs) {y t i : Nat} (hv : gv y t i = true) (hs : sh t = .inl ci) (hc : vwCl[ci]? = some (C, T, N)) (hin : ∀ w ∈ u_ws C T N, w ∈ lw_all) (k : Nat) (hk : k < N) (hlink : Cond.fieldLinkNest own index (T k).1 (T k).2.1 (T k).2.2.1 host ∈ gnest) (hfin : (T k).2.2.2 = false) {ty : FieldType} {x : Value} (hd : parseFieldDescriptor (T k).2.2.1 = some ty) (hn : narrow ty x = x) (hfit : fits ty x = true) {I' : gI} (hI : ∀ y' t' i' j', sv E J I' y' t' i' j' = if y' = y ∧ t' = t ∧ i' = i ∧ j' = k then x else sv E J I y' t' i' j') (hdg : decode cc pc = .ok (.putfield index, 3))
    (kk : ∀ (H1 : Heap) (locs1 : List Loc), GW E J I' H1 → va_S (gF E) H0 H1 locs1 → W p l e R s m args below meth c H1 locs1 cells slots Q (F0 m (pc + 3) ls rest)) : W p l e R s m args below meth c H locs cells slots Q (F0 m pc ls (x :: .ref (gA E y t i) :: rest)) := by
  obtain ⟨hx, hb, hts, hown, hSt⟩ := K
  have h0 := hG y t i hv
  rw [hs] at h0
  obtain ⟨r, h1, cell, q1, q2, q3, q4⟩ := h0
  have hr : r = (C, T, N) := Option.some.inj (h1.symm.trans hc)
  subst hr
  obtain ⟨hS, hfc, kC, hkC, hkind⟩ := hSt.K.1 ci _ hc
  obtain ⟨cf, kf, fi, f, hi, hsl⟩ := hS k hk
  have hlay := hts _ (hin _ (u_in_lay hk))
  unfold u_lay at hlay
  rw [if_neg (by rw [hfin]; decide)] at hlay
  have hst := (u_facts hfc hkC (u_lays hts hin hk) hi).1
  have h6 := u_store hfc hkC hkind hlay hi hd hn hfit
  refine va_WputK hx hb (f := f) hown (hSt.nest hlink) hi hst (by rw [q2]; exact h6) q1 q3 (by rw [hsl]; exact k2_hasslot (q4 k hk)) rfl rfl hdg fun H' e1 e2 e3 => ?_
  rw [hsl] at e1 ⊢
  exact kk H' _ (g_objput hSt hts hc hin ty0 hty hnm hG hv hs hk hI q1 e1 e3) (hS0.put e2 e3 (gA_in hSt hv))
/-- loads from rows -/
theorem g_iald (K : kx E p m c cc own args s) (hG : GW E J I H) {y t i n : Nat} (hv : gv y t i = true) (hs : sh t = .inr (0, n)) (hk : ∀ j, gk t j = true) {x : Int32} (hin : vp_in x n) (hdg : decode cc pc = .ok (.iaload, 1))
    (kk : W p l e R s m args below meth c H locs cells slots Q (F0 m (pc + 1) ls (.int (I y t i x.toNatClampNeg) :: rest))) : W p l e R s m args below meth c H locs cells slots Q (F0 m pc ls (.int x :: .ref (gA E y t i) :: rest)) := by
  have hlt : x.toNatClampNeg < n := Nat.not_le.mp fun q => hin (Or.inr q)
  have h0 := hG y t i hv
  rw [hs] at h0
  exact W.iald (v := .int (I y t i x.toNatClampNeg)) K.1 K.2.1 h0 (gtys_at K.2.2.2.2 (k := 0) rfl n _) (fun q => by cases q) (by show ¬ (x < 0 ∨ (arrV _ _ _).slots.size ≤ _); rw [arrV_size]; exact hin) (by show (arrV _ _ _).slots[_]? = _; rw [arrV_read _ _ hlt, sv_int (hk _)]) rfl rfl hdg kk
theorem g_zald (K : kx E p m c cc own args s) (hG : GW E J I H) {y t i n : Nat} (hv : gv y t i = true) (hs : sh t = .inr (1, n)) (hk : ∀ j, gk t j = true) {x : Int32} (hin : vp_in x n) (hdg : decode cc pc = .ok (.baload, 1))
    (kk : W p l e R s m args below meth c H locs cells slots Q (F0 m (pc + 1) ls (.int (I y t i x.toNatClampNeg) :: rest))) : W p l e R s m args below meth c H locs cells slots Q (F0 m pc ls (.int x :: .ref (gA E y t i) :: rest)) := by
  have hlt : x.toNatClampNeg < n := Nat.not_le.mp fun q => hin (Or.inr q)
  have h0 := hG y t i hv
  rw [hs] at h0
  exact W.zald (v := .int (I y t i x.toNatClampNeg)) K.1 K.2.1 h0 (gtys_at K.2.2.2.2 (k := 1) rfl n _) (fun q => by cases q) (by show ¬ (x < 0 ∨ (arrV _ _ _).slots.size ≤ _); rw [arrV_size]; exact hin) (by show (arrV _ _ _).slots[_]? = _; rw [arrV_read _ _ hlt, sv_int (hk _)]) rfl rfl hdg kk
theorem g_lads (K : kx E p m c cc own args s) (hG : GW E J I H) {y : Nat} (hv : gv y 7 0 = true) {x : Int32} (hin : vp_in x 6) (hdg : decode cc pc = .ok (.aaload, 1))
    (kk : W p l e R s m args below meth c H locs cells slots Q (F0 m (pc + 1) ls (.ref (gA E y 1 x.toNatClampNeg) :: rest))) : W p l e R s m args below meth c H locs cells slots Q (F0 m pc ls (.int x :: .ref (gA E y 7 0) :: rest)) := by
  have hlt : x.toNatClampNeg < 6 := Nat.not_le.mp fun q => hin (Or.inr q)
  have h0 := hG y 7 0 hv
  exact W.aald (v := .ref (gA E y 1 x.toNatClampNeg)) (ty := .object "HayThieves$Lad") K.1 K.2.1 h0 (gtys_at K.2.2.2.2 (k := 2) rfl 6 _) rfl (fun q => by cases q) (by show ¬ (x < 0 ∨ (arrV _ _ _).slots.size ≤ _); rw [arrV_size]; exact hin) (by show (arrV _ _ _).slots[_]? = _; rw [arrV_read _ _ hlt]; rfl) rfl rfl hdg kk
theorem g_loads (K : kx E p m c cc own args s) (hG : GW E J I H) {y : Nat} (hv : gv y 8 0 = true) {x : Int32} (hin : vp_in x 10) (hdg : decode cc pc = .ok (.aaload, 1))
    (kk : W p l e R s m args below meth c H locs cells slots Q (F0 m (pc + 1) ls (.ref (gA E y 4 x.toNatClampNeg) :: rest))) : W p l e R s m args below meth c H locs cells slots Q (F0 m pc ls (.int x :: .ref (gA E y 8 0) :: rest)) := by
  have hlt : x.toNatClampNeg < 10 := Nat.not_le.mp fun q => hin (Or.inr q)
  have h0 := hG y 8 0 hv
  exact W.aald (v := .ref (gA E y 4 x.toNatClampNeg)) (ty := .object "HayThieves$Load") K.1 K.2.1 h0 (gtys_at K.2.2.2.2 (k := 3) rfl 10 _) rfl (fun q => by cases q) (by show ¬ (x < 0 ∨ (arrV _ _ _).slots.size ≤ _); rw [arrV_size]; exact hin) (by show (arrV _ _ _).slots[_]? = _; rw [arrV_read _ _ hlt]; rfl) rfl rfl hdg kk
/-- stores into rows -/
theorem g_rowput {n a : Nat} (hSt : gS E s) (hG : GW E J I H) {y t i : Nat} (hv : gv y t i = true) (hs : sh t = .inr (a, n)) (hk : ∀ j, gk t j = true) (hr : ∀ j, ¬ (t = 1 ∧ j = 3)) {k : Nat} {x : Int32} {H1 : Heap} (e1 : H1[gA E y t i]? = some ((arrV (E.2.1 a) n (sv E J I y t i)).setSlot k (.int x))) (e3 : ∀ q, q ≠ gA E y t i → H1[q]? = H[q]?) : GW E J (gset I y (u3 (I y) t i k x)) H1 := by
  have hI := sv_u3 (E := E) (J := J) (I := I) (y := y) (t := t) (i := i) (j := k) (x := x) (hk k) (fun y' t' i' j' _ => grf_u3 (hr k) y' t' i' j')
  refine hG.put hSt.ok hv ?_ e3 (fun y' t' i' j' hn => by rw [hI, if_neg]; exact fun q => hn ⟨q.1, q.2.1, q.2.2.1⟩)
  rw [hs]
  show H1[gA E y t i]? = some (arrV (E.2.1 a) n _)
  rw [e1, arrV_store]
  congr 2
  funext j
  rw [hI]
  unfold updV
  by_cases hj : j = k
  · simp [hj]
  · simp [hj]
theorem g_iast (K : kx E p m c cc own args s) (hG : GW E J I H) (hS0 : va_S (gF E) H0 H locs) {y t i n : Nat} (hv : gv y t i = true) (hs : sh t = .inr (0, n)) (hk : ∀ j, gk t j = true) (hr : ∀ j, ¬ (t = 1 ∧ j = 3)) {k x : Int32} (hin : vp_in k n) (hdg : decode cc pc = .ok (.iastore, 1))
    (kk : ∀ (I' : gI), I' = gU I y t i k.toNatClampNeg x → ∀ (H1 : Heap) (locs1 : List Loc), GW E J I' H1 → va_S (gF E) H0 H1 locs1 → W p l e R s m args below meth c H1 locs1 cells slots Q (F0 m (pc + 1) ls rest)) : W p l e R s m args below meth c H locs cells slots Q (F0 m pc ls (.int x :: .int k :: .ref (gA E y t i) :: rest)) := by
  have h0 := hG y t i hv
  rw [hs] at h0
  exact W.iast K.1 K.2.1 h0 (gtys_at K.2.2.2.2 (k := 0) rfl n _) (fun q => by cases q) (by show ¬ (k < 0 ∨ (arrV _ _ _).slots.size ≤ _); rw [arrV_size]; exact hin) rfl rfl hdg fun H1 e1 z oq => kk _ rfl H1 _ (g_rowput K.2.2.2.2 hG hv hs hk hr e1 oq) (hS0.put z oq (gA_in K.2.2.2.2 hv))
theorem g_zast (K : kx E p m c cc own args s) (hG : GW E J I H) (hS0 : va_S (gF E) H0 H locs) {y t i n : Nat} (hv : gv y t i = true) (hs : sh t = .inr (1, n)) (hk : ∀ j, gk t j = true) (hr : ∀ j, ¬ (t = 1 ∧ j = 3)) {k x : Int32} (hx : vp_nar .boolean x = x) (hin : vp_in k n) (hdg : decode cc pc = .ok (.bastore, 1))
    (kk : ∀ (I' : gI), I' = gU I y t i k.toNatClampNeg x → ∀ (H1 : Heap) (locs1 : List Loc), GW E J I' H1 → va_S (gF E) H0 H1 locs1 → W p l e R s m args below meth c H1 locs1 cells slots Q (F0 m (pc + 1) ls rest)) : W p l e R s m args below meth c H locs cells slots Q (F0 m pc ls (.int x :: .int k :: .ref (gA E y t i) :: rest)) := by
  have h0 := hG y t i hv
  rw [hs] at h0
  refine W.zast K.1 K.2.1 h0 (gtys_at K.2.2.2.2 (k := 1) rfl n _) (fun q => by cases q) (by show ¬ (k < 0 ∨ (arrV _ _ _).slots.size ≤ _); rw [arrV_size]; exact hin) rfl rfl hdg fun H1 e1 z oq => kk _ rfl H1 _ (g_rowput K.2.2.2.2 hG hv hs hk hr ?_ oq) (hS0.put z oq (gA_in K.2.2.2.2 hv))
  rw [e1]
  congr 2
  show narrow .boolean (.int x) = .int x
  have h2 : narrow .boolean (.int x) = .int (vp_nar .boolean x) := rfl
  rw [h2, hx]
end GR
