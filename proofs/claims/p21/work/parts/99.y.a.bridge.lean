/-! THE BRIDGE (out of the first row): the cells that the constructors made are the world GW -/
section CZ
variable {p : Program} {l : Launch} {e : Env} {R : Room} {s : State} {m : MethodId} {args : Array Value} {below : List Frame} {meth : Method} {c : Code} {H H0 : Heap} {locs : List Loc} {cells slots : Nat} {Q : State → Prop}
variable {cc : ByteArray} {pc : Nat} {ls : Array Slot} {rest : List Value} {D : va_G} {Tk : Nat → ClassId} {own : String} {A : Nat → Prop} {a h : Nat}
/-- the first thing of a world -/
theorem c_new0 (K : kc D Tk p m c cc own args s) (hh : H.size = h) (hS : va_S A H0 H locs) {C : String} {T : u_T} {N ci index : Nat} (hin : ∀ w ∈ u_ws C T N, w ∈ lw_all) (ty : Nat → FieldType) (hty : ∀ k, k < N → parseFieldDescriptor (T k).2.2.1 = some (ty k)) (hcl : Cond.classLink own index C ∈ lw_all) (hinst : Cond.instantiable C N ∈ lw_all) (hini : Cond.initialized C ∈ lw_all)
    (hc : vwCl[ci]? = some (C, T, N)) {fs : List Value} (hfs : ∀ j, j < N → defaultValue (ty j) = vp_V fs j) (hcells : cells + 1 ≤ R.cells) (hslots : slots + N ≤ R.slots) (hdg : decode cc pc = .ok (.new index, 3))
    (kk : ∀ (H1 : Heap), CW D h (.inr (ci, fs)) (h + 1) [] H1 → va_S A H0 H1 locs → W p l e R s m args below meth c H1 locs (cells + 1) (slots + N) Q (F0 m (pc + 3) ls (.ref h :: rest))) : W p l e R s m args below meth c H locs cells slots Q (F0 m pc ls rest) := by
  obtain ⟨hx, hb, hts, hown, hk⟩ := K
  have hKn := hk.1.1 ci _ hc
  subst hh
  refine W.newcK hx hb hown (hts _ hcl) (hts _ hinst) (hts _ hini) rfl hdg hcells hslots hKn.2.1 rfl fun H1 kC hkC e1 z1 o1 => ?_
  exact kk H1 ⟨Nat.lt_succ_self _, ⟨_, hc, (u_born ty hts hin hKn hkC e1 hty).to hfs⟩, fun i e hi => by simp at hi, by rw [z1]; rfl⟩ (va_S.grow hS z1 o1)
/-- its constructor's call -/
theorem c_call0 {y : MethodName} {b : ByteArray} {n nL na f k sl L index ci : Nat} {fs As : List Value} {o' : va_E} {es' : List va_E} (K : kc D Tk p m c cc own args s) (hml : c.maxLocals = nL) (hcal : gcaI y b n na) (hlink : Cond.methodLink own index y ∈ lw_all)
    (hC : CW D a (.inr (ci, fs)) h [] H) (hS : va_S (cA a h) s.heap H locs) (hM : gMc l D Tk y b n f k sl L a h As ci fs o' es') (hn : As.length = na) (hsize : ls.size = nL) (hW : (rest.map fun v => v.category).sum ≤ 8) (hR : f + 1 ≤ R.frames ∧ 8 + (n + 11) + L ≤ R.locals) (hdg : decode cc pc = .ok (.invokespecial index, 3)) (hf : cells + k ≤ R.cells ∧ slots + sl ≤ R.slots)
    (kk : ∀ (H1 : Heap) (locs1 : List Loc), CW D a o' h es' H1 → va_S (cA a h) s.heap H1 locs1 → W p l e R s m args below meth c H1 locs1 (cells + k) (slots + sl) Q (F0 m (pc + 3) ls rest)) : W p l e R s m args below meth c H locs cells slots Q (F0 m pc ls (As.reverse ++ .ref a :: rest)) := by
  obtain ⟨hx, hb, hts, hown, hk⟩ := id K
  obtain ⟨c1, c2, c3, c4, c5⟩ := hcal
  have cw : CallB R s args own index y b n none (gws y b n none) (rmc f k sl L) k sl na ∧ y.name = "<init>" ∧ (Cond.instanceMethod y).before args s = true := ⟨callB_of na hts (gws_good c1) rfl rfl rfl (hts _ c2) (hts _ hlink) c5 hR, c4, hts _ c3⟩
  refine va_callv (va_runI (As := As) (rest := rest) ⟨hx, hb, hml, hown, hts⟩ hM cw ⟨c_blind _, fun U hU hW => ⟨rfl, by rw [hU]; exact hC, hk.moved hW⟩⟩ rfl hn hsize rfl (by show 2 * 0 + _ ≤ 8; omega) hdg hf) hS (fun q _ h9 => h9) (fun q h9 => h9) (fun u t H1 locs1 ht hvm hw hB hz1 hk1 hS1 => ?_)
  have hB : CW D a o' h es' t.heap := hB
  rw [ht] at hB
  exact kk H1 locs1 hB hS1
end CZ
def aL (Tk : Nat → ClassId) (h : Nat) : List va_E := yL Tk h ++ yL Tk (h + 33)
theorem aL_len (Tk : Nat → ClassId) (h : Nat) : (aL Tk h).length = 66 := by
  unfold aL
  rw [List.length_append, yL_len, yL_len]
def adr (N y t i : Nat) : Nat := if y < 2 then N + 1 + 33 * y + (match t with
  | 0 => 0
  | 7 => 1
  | 8 => 2
  | 5 => 3
  | 6 => 4
  | 1 => 5 + 3 * i
  | 2 => 6 + 3 * i
  | 3 => 7 + 3 * i
  | _ => 23 + i) else N
def gE0 (D : va_G) (Tk : Nat → ClassId) (N : Nat) : gE := (D, Tk, adr N, N)
def gI0 : gI := fun y t i j => if y < 2 then (match t with
  | 0 => if j = 7 then 10 else 0
  | 1 => if j = 0 ∨ j = 3 then nI i else if j = 4 ∨ j = 6 then -1 else 0
  | 4 => if j = 3 then -1 else if j = 4 then 1 else 0
  | _ => 0) else if y = 2 ∧ t = 11 ∧ j = 7 then 10 else 0
theorem gv_ind {P : Nat → Nat → Nat → Prop} (h0 : ∀ y, y < 2 → P y 0 0) (h5 : ∀ y, y < 2 → P y 5 0) (h6 : ∀ y, y < 2 → P y 6 0) (h7 : ∀ y, y < 2 → P y 7 0) (h8 : ∀ y, y < 2 → P y 8 0) (h1 : ∀ y i, y < 2 → i < 6 → P y 1 i) (h2 : ∀ y i, y < 2 → i < 6 → P y 2 i) (h3 : ∀ y i, y < 2 → i < 6 → P y 3 i) (h4 : ∀ y i, y < 2 → i < 10 → P y 4 i)
    (h10 : P 2 10 0) : ∀ y t i, gv y t i = true → P y t i := by
  intro y t i h
  unfold gv at h
  simp only [Bool.or_eq_true, Bool.and_eq_true, decide_eq_true_eq] at h
  rcases h with ⟨hy, h⟩ | ⟨⟨hy, hi⟩, ht⟩
  · rcases h with (⟨hi, h⟩ | ⟨h, hi⟩) | ⟨h, hi⟩
    · subst hi
      rcases h with (((h | h) | h) | h) | h <;> subst h
      · exact h0 y hy
      · exact h5 y hy
      · exact h6 y hy
      · exact h7 y hy
      · exact h8 y hy
    · rcases h with (h | h) | h <;> subst h
      · exact h1 y i hy hi
      · exact h2 y i hy hi
      · exact h3 y i hy hi
    · subst h
      exact h4 y i hy hi
  · subst hy; subst hi; subst ht
    exact h10
def adk : List (Nat × Nat × Nat) := (List.range 2).flatMap (fun y => [(y, 0, 0), (y, 5, 0), (y, 6, 0), (y, 7, 0), (y, 8, 0)] ++ (List.range 6).flatMap (fun i => [(y, 1, i), (y, 2, i), (y, 3, i)]) ++ (List.range 10).map (fun i => (y, 4, i))) ++ [(2, 10, 0)]
def adf (n : Nat) : Option (Nat × Nat × Nat) := adk.find? (fun k => gv k.1 k.2.1 k.2.2 && adr 0 k.1 k.2.1 k.2.2 == n)
theorem adf_ok : ∀ y t i, gv y t i = true → adf (adr 0 y t i) = some (y, t, i) ∧ adr 0 y t i < 67 := by
  refine gv_ind (by decide +kernel) (by decide +kernel) (by decide +kernel) (by decide +kernel) (by decide +kernel) ?_ ?_ ?_ ?_ (by decide +kernel)
  · have h : ∀ y, y < 2 → ∀ i, i < 6 → adf (adr 0 y 1 i) = some (y, 1, i) ∧ adr 0 y 1 i < 67 := by decide +kernel
    exact fun y i a b => h y a i b
  · have h : ∀ y, y < 2 → ∀ i, i < 6 → adf (adr 0 y 2 i) = some (y, 2, i) ∧ adr 0 y 2 i < 67 := by decide +kernel
    exact fun y i a b => h y a i b
  · have h : ∀ y, y < 2 → ∀ i, i < 6 → adf (adr 0 y 3 i) = some (y, 3, i) ∧ adr 0 y 3 i < 67 := by decide +kernel
    exact fun y i a b => h y a i b
  · have h : ∀ y, y < 2 → ∀ i, i < 10 → adf (adr 0 y 4 i) = some (y, 4, i) ∧ adr 0 y 4 i < 67 := by decide +kernel
    exact fun y i a b => h y a i b
theorem adr_N (N y t i : Nat) : adr N y t i = N + adr 0 y t i := by
  unfold adr
  repeat' split
  all_goals omega
theorem adr_inj (N : Nat) : ∀ y t i y' t' i', gv y t i = true → gv y' t' i' = true → adr N y t i = adr N y' t' i' → y = y' ∧ t = t' ∧ i = i' := by
  intro y t i y' t' i' h h' he
  rw [adr_N, adr_N N y'] at he
  have h1 := (adf_ok y t i h).1
  have h2 := (adf_ok y' t' i' h').1
  rw [show adr 0 y t i = adr 0 y' t' i' by omega, h2] at h1
  have h3 := Option.some.inj h1
  simp only [Prod.mk.injEq] at h3
  exact ⟨h3.1.symm, h3.2.1.symm, h3.2.2.symm⟩
theorem br_obj {D : va_G} {a h k ci q : Nat} {x : va_E} {es : List va_E} {H : Heap} {vs : List Value} {r : vw_C} {V : Nat → Value} (C : CW D a x h es H) (hk : es[k]? = some (.inr (ci, vs))) (hq : q = h + k) (hc : vwCl[ci]? = some r) (hV : vs = (List.range r.2.2).map V) : ∃ r, vwCl[ci]? = some r ∧ t_OB q (D.1 ci) r.2.2 (D.2 ci) H V := by
  obtain ⟨r', h1, h2⟩ := C.2.2.1 k _ hk
  obtain rfl : r' = r := Option.some.inj (h1.symm.trans hc)
  subst hq
  refine ⟨r', h1, h2.to (fun j hj => ?_)⟩
  show vp_V vs j = V j
  rw [hV]
  unfold vp_V
  simp [hj]
theorem br_arr {D : va_G} {a h k q n : Nat} {x : va_E} {es : List va_E} {H : Heap} {cA : ClassId} {a0 : vp_A} {V : Nat → Value} (C : CW D a x h es H) (hk : es[k]? = some (.inl (cA, a0))) (hq : q = h + k) (hV : vp_cell cA a0 = arrV cA n V) : H[q]? = some (arrV cA n V) := by
  have h1 : H[h + k]? = some (vp_cell cA a0) := C.2.2.1 k _ hk
  rw [hq, h1, hV]
theorem gok0 (D : va_G) (Tk : Nat → ClassId) (N : Nat) : gok (gE0 D Tk N) := ⟨adr_inj N, fun y t i h => by
  have h1 := (adf_ok y t i h).2
  have h2 := adr_N N y t i
  show N ≤ adr N y t i ∧ adr N y t i < N + 67
  omega⟩
theorem br_row {D : va_G} {a h k q n : Nat} {x : va_E} {es : List va_E} {H : Heap} {cA : ClassId} {f : Nat → Int32} {V : Nat → Value} (C : CW D a x h es H) (hk : es[k]? = some (.inl (cA, n, .inl f))) (hq : q = h + k) (hV : ∀ j, Value.int (f j) = V j) : H[q]? = some (arrV cA n V) :=
  br_arr C hk hq (by show arrV cA n (fun j => .int (f j)) = _; rw [show (fun j => Value.int (f j)) = V from funext hV])
theorem arrV_same {cA : ClassId} {n : Nat} {f g : Nat → Value} (h : ∀ j, j < n → f j = g j) : arrV cA n f = arrV cA n g := by
  unfold arrV
  congr 1
  exact congrArg Array.ofFn (funext fun j => h j.val j.isLt)
theorem br_refs {D : va_G} {a h k q n : Nat} {x : va_E} {es : List va_E} {H : Heap} {cA : ClassId} {f : Nat → Option Nat} {V : Nat → Value} (C : CW D a x h es H) (hk : es[k]? = some (.inl (cA, n, .inr (.inr (.inr (.inr f)))))) (hq : q = h + k) (hV : ∀ j, j < n → va_rf (f j) = V j) : H[q]? = some (arrV cA n V) :=
  br_arr C hk hq (arrV_same (f := fun j => va_rf (f j)) hV)
set_option maxHeartbeats 4000000 in
set_option maxRecDepth 100000 in
theorem GW0_0 {D : va_G} {Tk : Nat → ClassId} {N : Nat} {H : Heap} (C : CW D N (.inr (4, [.ref (N + 1), .ref (N + 34)])) (N + 1) (aL Tk (N + 1)) H) : ∀ y, y < 2 → gat (gE0 D Tk N) (sh 0) (gA (gE0 D Tk N) y 0 0) H (sv (gE0 D Tk N) 0 gI0 y 0 0) := by
  intro y hy
  rcases (show y = 0 ∨ y = 1 by omega) with rfl | rfl
  · exact br_obj C (k := 0) rfl rfl rfl rfl
  · exact br_obj C (k := 33) rfl rfl rfl rfl
set_option maxHeartbeats 4000000 in
set_option maxRecDepth 100000 in
theorem GW0_5 {D : va_G} {Tk : Nat → ClassId} {N : Nat} {H : Heap} (C : CW D N (.inr (4, [.ref (N + 1), .ref (N + 34)])) (N + 1) (aL Tk (N + 1)) H) : ∀ y, y < 2 → gat (gE0 D Tk N) (sh 5) (gA (gE0 D Tk N) y 5 0) H (sv (gE0 D Tk N) 0 gI0 y 5 0) := by
  intro y hy
  rcases (show y = 0 ∨ y = 1 by omega) with rfl | rfl
  · exact br_row C (k := 3) rfl rfl (fun j => rfl)
  · exact br_row C (k := 36) rfl rfl (fun j => rfl)
set_option maxHeartbeats 4000000 in
set_option maxRecDepth 100000 in
theorem GW0_6 {D : va_G} {Tk : Nat → ClassId} {N : Nat} {H : Heap} (C : CW D N (.inr (4, [.ref (N + 1), .ref (N + 34)])) (N + 1) (aL Tk (N + 1)) H) : ∀ y, y < 2 → gat (gE0 D Tk N) (sh 6) (gA (gE0 D Tk N) y 6 0) H (sv (gE0 D Tk N) 0 gI0 y 6 0) := by
  intro y hy
  rcases (show y = 0 ∨ y = 1 by omega) with rfl | rfl
  · exact br_row C (k := 4) rfl rfl (fun j => rfl)
  · exact br_row C (k := 37) rfl rfl (fun j => rfl)
set_option maxHeartbeats 4000000 in
set_option maxRecDepth 100000 in
theorem GW0_7 {D : va_G} {Tk : Nat → ClassId} {N : Nat} {H : Heap} (C : CW D N (.inr (4, [.ref (N + 1), .ref (N + 34)])) (N + 1) (aL Tk (N + 1)) H) : ∀ y, y < 2 → gat (gE0 D Tk N) (sh 7) (gA (gE0 D Tk N) y 7 0) H (sv (gE0 D Tk N) 0 gI0 y 7 0) := by
  intro y hy
  rcases (show y = 0 ∨ y = 1 by omega) with rfl | rfl
  · refine br_refs C (k := 1) rfl rfl (fun j hj => ?_)
    show va_rf (if j < 6 then some (N + 1 + 0 + 1 + 4 + 3 * j) else none) = Value.ref (adr N 0 1 j)
    rw [if_pos hj]
    unfold adr
    rw [if_pos (by decide)]
    show Value.ref _ = Value.ref _
    congr 1
    show _ = N + 1 + 33 * 0 + (5 + 3 * j)
    omega
  · refine br_refs C (k := 34) rfl rfl (fun j hj => ?_)
    show va_rf (if j < 6 then some (N + 1 + 33 + 1 + 4 + 3 * j) else none) = Value.ref (adr N 1 1 j)
    rw [if_pos hj]
    unfold adr
    rw [if_pos (by decide)]
    show Value.ref _ = Value.ref _
    congr 1
    show _ = N + 1 + 33 * 1 + (5 + 3 * j)
    omega
set_option maxHeartbeats 4000000 in
set_option maxRecDepth 100000 in
theorem GW0_8 {D : va_G} {Tk : Nat → ClassId} {N : Nat} {H : Heap} (C : CW D N (.inr (4, [.ref (N + 1), .ref (N + 34)])) (N + 1) (aL Tk (N + 1)) H) : ∀ y, y < 2 → gat (gE0 D Tk N) (sh 8) (gA (gE0 D Tk N) y 8 0) H (sv (gE0 D Tk N) 0 gI0 y 8 0) := by
  intro y hy
  rcases (show y = 0 ∨ y = 1 by omega) with rfl | rfl
  · refine br_refs C (k := 2) rfl rfl (fun j hj => ?_)
    show va_rf (if j < 10 then some (N + 1 + 0 + 1 + 22 + 1 * j) else none) = Value.ref (adr N 0 4 j)
    rw [if_pos hj]
    unfold adr
    rw [if_pos (by decide)]
    show Value.ref _ = Value.ref _
    congr 1
    show _ = N + 1 + 33 * 0 + (23 + j)
    omega
  · refine br_refs C (k := 35) rfl rfl (fun j hj => ?_)
    show va_rf (if j < 10 then some (N + 1 + 33 + 1 + 22 + 1 * j) else none) = Value.ref (adr N 1 4 j)
    rw [if_pos hj]
    unfold adr
    rw [if_pos (by decide)]
    show Value.ref _ = Value.ref _
    congr 1
    show _ = N + 1 + 33 * 1 + (23 + j)
    omega
set_option maxHeartbeats 4000000 in
set_option maxRecDepth 100000 in
theorem GW0_1 {D : va_G} {Tk : Nat → ClassId} {N : Nat} {H : Heap} (C : CW D N (.inr (4, [.ref (N + 1), .ref (N + 34)])) (N + 1) (aL Tk (N + 1)) H) : ∀ y i, y < 2 → i < 6 → gat (gE0 D Tk N) (sh 1) (gA (gE0 D Tk N) y 1 i) H (sv (gE0 D Tk N) 0 gI0 y 1 i) := by
  intro y i hy hi
  rcases (show y = 0 ∨ y = 1 by omega) with rfl | rfl
  · rcases (show i = 0 ∨ i = 1 ∨ i = 2 ∨ i = 3 ∨ i = 4 ∨ i = 5 by omega) with rfl | rfl | rfl | rfl | rfl | rfl
    · exact br_obj C (k := 5) rfl rfl rfl rfl
    · exact br_obj C (k := 8) rfl rfl rfl rfl
    · exact br_obj C (k := 11) rfl rfl rfl rfl
    · exact br_obj C (k := 14) rfl rfl rfl rfl
    · exact br_obj C (k := 17) rfl rfl rfl rfl
    · exact br_obj C (k := 20) rfl rfl rfl rfl
  · rcases (show i = 0 ∨ i = 1 ∨ i = 2 ∨ i = 3 ∨ i = 4 ∨ i = 5 by omega) with rfl | rfl | rfl | rfl | rfl | rfl
    · exact br_obj C (k := 38) rfl rfl rfl rfl
    · exact br_obj C (k := 41) rfl rfl rfl rfl
    · exact br_obj C (k := 44) rfl rfl rfl rfl
    · exact br_obj C (k := 47) rfl rfl rfl rfl
    · exact br_obj C (k := 50) rfl rfl rfl rfl
    · exact br_obj C (k := 53) rfl rfl rfl rfl
set_option maxHeartbeats 4000000 in
set_option maxRecDepth 100000 in
theorem GW0_2 {D : va_G} {Tk : Nat → ClassId} {N : Nat} {H : Heap} (C : CW D N (.inr (4, [.ref (N + 1), .ref (N + 34)])) (N + 1) (aL Tk (N + 1)) H) : ∀ y i, y < 2 → i < 6 → gat (gE0 D Tk N) (sh 2) (gA (gE0 D Tk N) y 2 i) H (sv (gE0 D Tk N) 0 gI0 y 2 i) := by
  intro y i hy hi
  rcases (show y = 0 ∨ y = 1 by omega) with rfl | rfl
  · rcases (show i = 0 ∨ i = 1 ∨ i = 2 ∨ i = 3 ∨ i = 4 ∨ i = 5 by omega) with rfl | rfl | rfl | rfl | rfl | rfl
    · exact br_obj C (k := 6) rfl rfl rfl rfl
    · exact br_obj C (k := 9) rfl rfl rfl rfl
    · exact br_obj C (k := 12) rfl rfl rfl rfl
    · exact br_obj C (k := 15) rfl rfl rfl rfl
    · exact br_obj C (k := 18) rfl rfl rfl rfl
    · exact br_obj C (k := 21) rfl rfl rfl rfl
  · rcases (show i = 0 ∨ i = 1 ∨ i = 2 ∨ i = 3 ∨ i = 4 ∨ i = 5 by omega) with rfl | rfl | rfl | rfl | rfl | rfl
    · exact br_obj C (k := 39) rfl rfl rfl rfl
    · exact br_obj C (k := 42) rfl rfl rfl rfl
    · exact br_obj C (k := 45) rfl rfl rfl rfl
    · exact br_obj C (k := 48) rfl rfl rfl rfl
    · exact br_obj C (k := 51) rfl rfl rfl rfl
    · exact br_obj C (k := 54) rfl rfl rfl rfl
set_option maxHeartbeats 4000000 in
set_option maxRecDepth 100000 in
theorem GW0_3 {D : va_G} {Tk : Nat → ClassId} {N : Nat} {H : Heap} (C : CW D N (.inr (4, [.ref (N + 1), .ref (N + 34)])) (N + 1) (aL Tk (N + 1)) H) : ∀ y i, y < 2 → i < 6 → gat (gE0 D Tk N) (sh 3) (gA (gE0 D Tk N) y 3 i) H (sv (gE0 D Tk N) 0 gI0 y 3 i) := by
  intro y i hy hi
  rcases (show y = 0 ∨ y = 1 by omega) with rfl | rfl
  · rcases (show i = 0 ∨ i = 1 ∨ i = 2 ∨ i = 3 ∨ i = 4 ∨ i = 5 by omega) with rfl | rfl | rfl | rfl | rfl | rfl
    · exact br_row C (k := 7) rfl rfl (fun j => rfl)
    · exact br_row C (k := 10) rfl rfl (fun j => rfl)
    · exact br_row C (k := 13) rfl rfl (fun j => rfl)
    · exact br_row C (k := 16) rfl rfl (fun j => rfl)
    · exact br_row C (k := 19) rfl rfl (fun j => rfl)
    · exact br_row C (k := 22) rfl rfl (fun j => rfl)
  · rcases (show i = 0 ∨ i = 1 ∨ i = 2 ∨ i = 3 ∨ i = 4 ∨ i = 5 by omega) with rfl | rfl | rfl | rfl | rfl | rfl
    · exact br_row C (k := 40) rfl rfl (fun j => rfl)
    · exact br_row C (k := 43) rfl rfl (fun j => rfl)
    · exact br_row C (k := 46) rfl rfl (fun j => rfl)
    · exact br_row C (k := 49) rfl rfl (fun j => rfl)
    · exact br_row C (k := 52) rfl rfl (fun j => rfl)
    · exact br_row C (k := 55) rfl rfl (fun j => rfl)
set_option maxHeartbeats 4000000 in
set_option maxRecDepth 100000 in
theorem GW0_4 {D : va_G} {Tk : Nat → ClassId} {N : Nat} {H : Heap} (C : CW D N (.inr (4, [.ref (N + 1), .ref (N + 34)])) (N + 1) (aL Tk (N + 1)) H) : ∀ y i, y < 2 → i < 10 → gat (gE0 D Tk N) (sh 4) (gA (gE0 D Tk N) y 4 i) H (sv (gE0 D Tk N) 0 gI0 y 4 i) := by
  intro y i hy hi
  rcases (show y = 0 ∨ y = 1 by omega) with rfl | rfl
  · rcases (show i = 0 ∨ i = 1 ∨ i = 2 ∨ i = 3 ∨ i = 4 ∨ i = 5 ∨ i = 6 ∨ i = 7 ∨ i = 8 ∨ i = 9 by omega) with rfl | rfl | rfl | rfl | rfl | rfl | rfl | rfl | rfl | rfl
    · exact br_obj C (k := 23) rfl rfl rfl rfl
    · exact br_obj C (k := 24) rfl rfl rfl rfl
    · exact br_obj C (k := 25) rfl rfl rfl rfl
    · exact br_obj C (k := 26) rfl rfl rfl rfl
    · exact br_obj C (k := 27) rfl rfl rfl rfl
    · exact br_obj C (k := 28) rfl rfl rfl rfl
    · exact br_obj C (k := 29) rfl rfl rfl rfl
    · exact br_obj C (k := 30) rfl rfl rfl rfl
    · exact br_obj C (k := 31) rfl rfl rfl rfl
    · exact br_obj C (k := 32) rfl rfl rfl rfl
  · rcases (show i = 0 ∨ i = 1 ∨ i = 2 ∨ i = 3 ∨ i = 4 ∨ i = 5 ∨ i = 6 ∨ i = 7 ∨ i = 8 ∨ i = 9 by omega) with rfl | rfl | rfl | rfl | rfl | rfl | rfl | rfl | rfl | rfl
    · exact br_obj C (k := 56) rfl rfl rfl rfl
    · exact br_obj C (k := 57) rfl rfl rfl rfl
    · exact br_obj C (k := 58) rfl rfl rfl rfl
    · exact br_obj C (k := 59) rfl rfl rfl rfl
    · exact br_obj C (k := 60) rfl rfl rfl rfl
    · exact br_obj C (k := 61) rfl rfl rfl rfl
    · exact br_obj C (k := 62) rfl rfl rfl rfl
    · exact br_obj C (k := 63) rfl rfl rfl rfl
    · exact br_obj C (k := 64) rfl rfl rfl rfl
    · exact br_obj C (k := 65) rfl rfl rfl rfl
theorem GW0_10 {D : va_G} {Tk : Nat → ClassId} {N : Nat} {H : Heap} (C : CW D N (.inr (4, [.ref (N + 1), .ref (N + 34)])) (N + 1) (aL Tk (N + 1)) H) : gat (gE0 D Tk N) (sh 10) (gA (gE0 D Tk N) 2 10 0) H (sv (gE0 D Tk N) 0 gI0 2 10 0) := by
  obtain ⟨r, h1, h2⟩ := C.2.1
  exact ⟨r, h1, h2.to (fun j hj => by
    obtain rfl : r = ("HayThieves", TX4, 2) := Option.some.inj (h1.symm.trans rfl)
    rcases (show j = 0 ∨ j = 1 by have : j < 2 := hj; omega) with rfl | rfl <;> rfl)⟩
/-- what the constructors made is the world -/
theorem GW0 {D : va_G} {Tk : Nat → ClassId} {N : Nat} {H : Heap} (C : CW D N (.inr (4, [.ref (N + 1), .ref (N + 34)])) (N + 1) (aL Tk (N + 1)) H) : GW (gE0 D Tk N) 0 gI0 H := gv_ind (P := fun y t i => gat (gE0 D Tk N) (sh t) (gA (gE0 D Tk N) y t i) H (sv (gE0 D Tk N) 0 gI0 y t i)) (GW0_0 C) (GW0_5 C) (GW0_6 C) (GW0_7 C) (GW0_8 C) (GW0_1 C) (GW0_2 C) (GW0_3 C) (GW0_4 C) (GW0_10 C)
