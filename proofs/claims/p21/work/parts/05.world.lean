/-! THE WORLD: the class's cells by keys (module y, kind t, number i), each cell's slots by j.
y 0, 1: the two yards (t 0 the yard, 1 lads, 2 carts, 3 the carts' rows, 4 loads, 5 heapBales, 6 heapDone, 7 the row of lads, 8 the row of loads);
y 2: 10 HayThieves. What lies beside, the law's own, is not of this world: gF names the class's 67 cells alone. -/
abbrev gE : Type := va_G × (Nat → ClassId) × (Nat → Nat → Nat → Nat) × Nat
abbrev gI : Type := Nat → Nat → Nat → Nat → Int32
abbrev gY : Type := Nat → Nat → Nat → Int32
def gA (E : gE) (y t i : Nat) : Nat := E.2.2.1 y t i
def gN (E : gE) : Nat := E.2.2.2
def gF (E : gE) : Nat → Prop := fun q => gN E ≤ q ∧ q < gN E + 67
/-- where the law's run makes things: no static lies there -/
def gH (E : gE) : Nat → Prop := fun q => gN E ≤ q
def u3 (Y : gY) (t i j : Nat) (x : Int32) : gY := fun t' i' j' => if t' = t ∧ i' = i ∧ j' = j then x else Y t' i' j'
def gset (I : gI) (y : Nat) (Y : gY) : gI := fun y' => if y' = y then Y else I y'
/-- one slot changes -/
def gU (I : gI) (y t i j : Nat) (x : Int32) : gI := gset I y (u3 (I y) t i j x)
/-- a row's contents as a whole -/
def urow (Y : gY) (t i : Nat) (g : Nat → Int32) : gY := fun t' i' j' => if t' = t ∧ i' = i then g j' else Y t' i' j'
def gR (I : gI) (y t i : Nat) (g : Nat → Int32) : gI := gset I y (urow (I y) t i g)
theorem gset_at (I : gI) (y : Nat) (Y : gY) : gset I y Y y = Y := by simp [gset]
theorem gset_ne (I : gI) {y y' : Nat} (Y : gY) (h : y' ≠ y) : gset I y Y y' = I y' := by simp [gset, h]
theorem gset_gset (I : gI) (y : Nat) (Y Z : gY) : gset (gset I y Y) y Z = gset I y Z := by
  funext q
  by_cases h : q = y <;> simp [gset, h]
theorem gset_self (I : gI) (y : Nat) : gset I y (I y) = I := by
  funext q
  by_cases h : q = y <;> simp [gset, h]
def sh (t : Nat) : Nat ⊕ (Nat × Nat) := match t with
  | 0 => .inl 3
  | 1 => .inl 1
  | 2 => .inl 0
  | 3 => .inr (0, 8)
  | 4 => .inl 2
  | 5 => .inr (0, 320)
  | 6 => .inr (1, 320)
  | 7 => .inr (2, 6)
  | 8 => .inr (3, 10)
  | 10 => .inl 4
  | 11 => .inl 6
  | 12 => .inr (0, 6)
  | 13 => .inr (0, 6)
  | 14 => .inr (0, 10)
  | 15 => .inr (0, 10)
  | 16 => .inr (4, 1)
  | 20 => .inl 5
  | 25 => .inr (0, 6)
  | 26 => .inr (0, 6)
  | 27 => .inr (0, 6)
  | 28 => .inr (0, 6)
  | 29 => .inr (0, 6)
  | 30 => .inr (0, 6)
  | 31 => .inr (0, 6)
  | 32 => .inr (0, 48)
  | 33 => .inr (0, 10)
  | 34 => .inr (0, 10)
  | 35 => .inr (0, 10)
  | 36 => .inr (0, 10)
  | 37 => .inr (0, 10)
  | 38 => .inr (0, 10)
  | _ => .inr (0, 600)
def gv (y t i : Nat) : Bool :=
  (decide (y < 2) && ((decide (i = 0) && (decide (t = 0) || decide (t = 5) || decide (t = 6) || decide (t = 7) || decide (t = 8))) || ((decide (t = 1) || decide (t = 2) || decide (t = 3)) && decide (i < 6)) || (decide (t = 4) && decide (i < 10))))
  || (decide (y = 2) && decide (i = 0) && decide (t = 10))
/-- is it a slot of a whole number? -/
def gk (t j : Nat) : Bool := match t with
  | 0 => decide (4 ≤ j)
  | 1 => decide (j ≠ 3)
  | 2 => decide (j ≠ 0)
  | 7 => false
  | 8 => false
  | 10 => false
  | 11 => decide (j = 0) || decide (j = 1) || decide (j = 4) || decide (j = 7)
  | 16 => false
  | 20 => decide (j ≤ 4) || decide (j = 19)
  | _ => true
/-- where a slot of a reference leads -/
def grf (E : gE) (I : gI) (y t i j : Nat) : Nat := match t with
  | 0 => if j = 0 then gA E y 7 0 else if j = 1 then gA E y 8 0 else if j = 2 then gA E y 5 0 else gA E y 6 0
  | 1 => gA E y 2 (I y 1 i 3).toNatClampNeg
  | 2 => gA E y 3 i
  | 7 => gA E y 1 j
  | 8 => gA E y 4 j
  | 10 => if j = 0 then gA E 0 0 0 else gA E 1 0 0
  | 11 => if j = 2 then gA E 2 12 0 else if j = 3 then gA E 2 13 0 else if j = 5 then gA E 2 14 0 else if j = 6 then gA E 2 15 0 else if j = 8 then gA E 3 20 0 else gA E 4 20 0
  | _ => gA E y (20 + j) 0
def sv (E : gE) (J : Int64) (I : gI) (y t i j : Nat) : Value := if gk t j = true then .int (I y t i j) else if t = 16 then .long J else .ref (grf E I y t i j)
def gat (E : gE) (sp : Nat ⊕ (Nat × Nat)) (a : Nat) (H : Heap) (V : Nat → Value) : Prop := match sp with
  | .inl ci => ∃ r : vw_C, vwCl[ci]? = some r ∧ t_OB a (E.1.1 ci) r.2.2 (E.1.2 ci) H V
  | .inr kn => H[a]? = some (arrV (E.2.1 kn.1) kn.2 V)
def GW (E : gE) (J : Int64) (I : gI) (H : Heap) : Prop := ∀ y t i, gv y t i = true → gat E (sh t) (gA E y t i) H (sv E J I y t i)
def gtys (E : gE) : List (ClassId × FieldType) := [(E.2.1 0, .int), (E.2.1 1, .boolean), (E.2.1 2, .object "HayThieves$Lad"), (E.2.1 3, .object "HayThieves$Load"), (E.2.1 4, .array .int)]
/-- the addresses are apart, and behind the start -/
def gok (E : gE) : Prop := (∀ y t i y' t' i', gv y t i = true → gv y' t' i' = true → gA E y t i = gA E y' t' i' → y = y' ∧ t = t' ∧ i = i') ∧ ∀ y t i, gv y t i = true → gN E ≤ gA E y t i ∧ gA E y t i < gN E + 67
/-- the fork sizes that both try -/
def gsz (j : Nat) : Int32 := ([4, 8, 16, 32, 60] : List Int32).getD j 0
def gsta (E : gE) (C n : String) (U : State) : Prop := ∃ t, va_Z C n "[I" (.ref t) (gH E) U U.heap ∧ va_T .int t 5 (fun j => .int (gsz j)) (gH E) U U.heap
/-- the texts of the class's exceptions -/
def gtx : List (Nat × String) := [(21, "strength is not 1 to 9"), (32, "there are 6 lads"), (160, "there is no such lad"), (45, "way is not 0 to 2"), (57, "size is not 4 to 60"), (62, "bales is not 1 to 60"), (67, "there were 10 loads"), (72, "both lads are the same"), (87, "this lad does not sleep"), (93, "what is not 0 to 8"), (98, "there is no such place"), (162, "there is no such load"), (109, "what is not 0 to 6"), (118, "what is not 0 to 12"), (164, "minutes is below 1 or too many"), (142, "what is not 3 to 11")]
/-- exceptions that a handler lets pass: here none is needed -/
def gnc : List (String × String) := []
def gT (E : gE) (U : State) : Prop := gsta E "HayThieves" "ADVISED_FORKS" U ∧ vx_Zq Bundle.tN "UNASSIGNED_STACK" Bundle.steD (gH E) U U.heap ∧ vx_Zq Bundle.tN "SUPPRESSED_SENTINEL" Bundle.listD (gH E) U U.heap ∧ (∀ q ∈ gtx, ∃ sa, vk_R "HayThieves" q.1 q.2 sa U) ∧ ∀ q ∈ gnc, va_Nc q.1 q.2 U
/-- what does not change: classes, links, addresses, statics -/
def gS (E : gE) (U : State) : Prop := va_K E.1 vwCl (gtys E) U ∧ (∀ w ∈ gnest, va_Nw w U) ∧ gok E ∧ gN E ≤ U.heap.size ∧ gT E U
theorem gsta.moved {E : gE} {C n : String} {u U : State} (h : gsta E C n u) (hW : u.WarmedH U.vm) (hq : ∀ q, q < u.heap.size → ¬ gH E q → U.heap[q]? = u.heap[q]?) : gsta E C n U := by
  obtain ⟨t, h1, h2⟩ := h
  exact ⟨t, va_Z.kept (va_Z.moved hW.alike h1) hq, va_T.kept (va_T.moved hW.alike h2) hq⟩
theorem gS.moved {E : gE} {u U : State} (h : gS E u) (hW : u.WarmedH U.vm) (hz : u.heap.size ≤ U.heap.size) (hq : ∀ q, q < u.heap.size → ¬ gH E q → U.heap[q]? = u.heap[q]?) : gS E U := by
  obtain ⟨h1, h2, h3, h4, h5, h7, h8, h9, h10⟩ := h
  exact ⟨va_K.moved hW.alike h1, fun w hw => gnest_warm hW hw (h2 w hw), h3, Nat.le_trans h4 hz, h5.moved hW hq, vx_Zq.kept (vx_Zq.moved hW.alike h7) hq, vx_Zq.kept (vx_Zq.moved hW.alike h8) hq, fun q hq' => by
    obtain ⟨sa, hs⟩ := h9 q hq'
    exact ⟨sa, vk_R.warm hW hs⟩, fun q hq' => va_Nc.moved hW.alike (h10 q hq')⟩
theorem gsta.blind {E : gE} {C n : String} {U : State} (g : JFrame) (mk : MethodId) (a : Array Value) (h : gsta E C n U) : gsta E C n (U.calling g mk a) := by
  obtain ⟨t, h1, h2⟩ := h
  exact ⟨t, va_Z.moved (u := U) (U := U.calling g mk a) (Vm.Alike.refl U.vm) h1, va_T.moved (u := U) (U := U.calling g mk a) (Vm.Alike.refl U.vm) h2⟩
/-- .. the start of a call: only the frames have changed -/
theorem gS.blind {E : gE} {U : State} (g : JFrame) (mk : MethodId) (a : Array Value) (h : gS E U) : gS E (U.calling g mk a) := by
  obtain ⟨h1, h2, h3, h4, h5, h7, h8, h9, h10⟩ := h
  exact ⟨va_K.moved (u := U) (U := U.calling g mk a) (Vm.Alike.refl U.vm) h1, fun w hw => va_Nw.same (u := U) (U := U.calling g mk a) (gnest_ot hw) rfl (h2 w hw), h3, h4, gsta.blind g mk a h5, vx_Zq.moved (u := U) (U := U.calling g mk a) (Vm.Alike.refl U.vm) h7, vx_Zq.moved (u := U) (U := U.calling g mk a) (Vm.Alike.refl U.vm) h8, fun q hq' => by
    obtain ⟨sa, hs⟩ := h9 q hq'
    exact ⟨sa, vk_R.same rfl hs⟩, fun q hq' => va_Nc.moved (u := U) (U := U.calling g mk a) (Vm.Alike.refl U.vm) (h10 q hq')⟩
/-- a method's start: the world I, the out J -/
def gP (E : gE) (J : Int64) (I : gI) (U : State) : Prop := GW E J I U.heap ∧ gS E U
/-- a cell's slot changes; the others stay -/
theorem GW.put {E : gE} {J : Int64} {I I' : gI} {H H1 : Heap} (hG : GW E J I H) (hok : gok E) {y t i : Nat} (hv : gv y t i = true) (h1 : gat E (sh t) (gA E y t i) H1 (sv E J I' y t i)) (hq : ∀ q, q ≠ gA E y t i → H1[q]? = H[q]?)
    (hI : ∀ y' t' i' j', ¬ (y' = y ∧ t' = t ∧ i' = i) → sv E J I' y' t' i' j' = sv E J I y' t' i' j') : GW E J I' H1 := by
  intro y' t' i' hv'
  by_cases hk : y' = y ∧ t' = t ∧ i' = i
  · obtain ⟨rfl, rfl, rfl⟩ := hk
    exact h1
  · have hne : gA E y' t' i' ≠ gA E y t i := fun q => hk (hok.1 _ _ _ _ _ _ hv' hv q)
    have h0 := hG y' t' i' hv'
    have hV : sv E J I' y' t' i' = sv E J I y' t' i' := funext fun j => hI y' t' i' j hk
    rw [hV]
    unfold gat at h0 ⊢
    cases hsh : sh t' with
    | inl ci =>
      rw [hsh] at h0
      obtain ⟨r, r1, r2⟩ := h0
      exact ⟨r, r1, r2.kept (hq _ hne)⟩
    | inr kn =>
      rw [hsh] at h0
      exact (hq _ hne).trans h0
