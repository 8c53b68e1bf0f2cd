/-! THE SIM'S ROWS: an instruction over LW -/
theorem arrV_alike {cA : ClassId} {n : Nat} {f g : Nat → Value} (h : ∀ j, j < n → f j = g j) : arrV cA n f = arrV cA n g := by
  unfold arrV
  congr 1
  exact congrArg Array.ofFn (funext fun j => h j.val j.isLt)
/-- a key's cell in another picture -/
theorem swc.same {E : gE} {D D' : sD} {V V' : gY} {t i : Nat} {H H1 : Heap} (h : swc E D V t i H) (hv : swv V t i) (hq : H1[D t i]? = H[D t i]?) (hD : D' t i = D t i) (h0 : t = 0 → (∀ k, 2 ≤ k ∧ k ≤ 5 → D' 1 k = D 1 k) ∧ ∀ j, V' 0 0 j = V 0 0 j) (h1 : t = 1 → cnt V' i = cnt V i ∧ ∀ j, j < cnt V i → D' i j = D i j) (h2 : 2 ≤ t → rln V' t i = rln V t i ∧ ∀ j, j < rln V t i → V' t i j = V t i j) : swc E D' V' t i H1 := by
  have h9 := h.kept hv.z hq
  unfold swc at h9 ⊢
  by_cases e0 : t = 0
  · subst e0
    have hi := hv.z rfl
    subst hi
    rw [if_pos rfl] at h9 ⊢
    rw [hD]
    refine h9.to (fun k hk => ?_)
    unfold sO
    by_cases e : 2 ≤ k ∧ k ≤ 5
    · rw [if_pos e, if_pos e, (h0 rfl).1 k e]
    · rw [if_neg e, if_neg e, (h0 rfl).2 k]
  · rw [if_neg e0] at h9 ⊢
    by_cases e1 : t = 1
    · subst e1
      rw [if_pos rfl] at h9 ⊢
      rw [hD, h9, (h1 rfl).1]
      exact congrArg some (arrV_alike (fun j hj => by rw [(h1 rfl).2 j hj]))
    · rw [if_neg e1] at h9 ⊢
      rw [hD, h9, (h2 (by omega)).1]
      exact congrArg some (arrV_alike (fun j hj => by rw [(h2 (by omega)).2 j hj]))
/-- another picture: each new key comes from an old one, or is the one fresh cell -/
theorem SW.gen {E : gE} {F : Nat → Prop} {D D' : sD} {V V' : gY} {H H1 : Heap} {a : Nat} (h : SW E F D V H) (hz : H.size ≤ H1.size) (hb : swb V') (o : Nat → Nat → Option (Nat × Nat)) (hfr : ∀ t i, swv V t i → D t i ≠ a) (hFa : F a)
    (ho : ∀ t i p, swv V' t i → o t i = some p → swv V p.1 p.2 ∧ D' t i = D p.1 p.2) (hf : ∀ t i, swv V' t i → o t i = none → D' t i = a) (h1 : ∀ t i t' i', swv V' t i → swv V' t' i' → o t i = none → o t' i' = none → t = t' ∧ i = i')
    (h2 : ∀ t i t' i' p, swv V' t i → swv V' t' i' → o t i = some p → o t' i' = some p → t = t' ∧ i = i') (hc : ∀ t i, swv V' t i → swc E D' V' t i H1) : SW E F D' V' H1 := by
  refine ⟨hc, fun t i t' i' w w' e => ?_, fun t i w => ?_, fun q hq => h.2.2.2.1 q (Nat.le_trans hz hq), hb⟩
  · cases e1 : o t i with
    | none =>
      cases e2 : o t' i' with
      | none => exact h1 _ _ _ _ w w' e1 e2
      | some p' =>
        obtain ⟨g1, g2⟩ := ho _ _ _ w' e2
        rw [hf _ _ w e1, g2] at e
        exact absurd e.symm (hfr _ _ g1)
    | some p =>
      obtain ⟨g1, g2⟩ := ho _ _ _ w e1
      cases e2 : o t' i' with
      | none =>
        rw [hf _ _ w' e2, g2] at e
        exact absurd e (hfr _ _ g1)
      | some p' =>
        obtain ⟨g1', g2'⟩ := ho _ _ _ w' e2
        rw [g2, g2'] at e
        have h3 := h.2.1 _ _ _ _ g1 g1' e
        have h4 : p = p' := Prod.ext h3.1 h3.2
        subst h4
        exact h2 _ _ _ _ _ w w' e1 e2
  · cases e1 : o t i with
    | none =>
      rw [hf _ _ w e1]
      exact hFa
    | some p =>
      obtain ⟨g1, g2⟩ := ho _ _ _ w e1
      rw [g2]
      exact h.2.2.1 _ _ g1
theorem isN_nn {x : Int32} {b : Nat} (h : isN x b) : x = nI x.toNatClampNeg := h.2
theorem swb.c {V : gY} (h : swb V) (t : Nat) : V 1 t 0 = nI (cnt V t) := (h.1 t).2
theorem swb.cl {V : gY} (h : swb V) (t : Nat) : cnt V t ≤ 330 := (h.1 t).1
theorem swb.rl {V : gY} (h : swb V) (t i : Nat) : rln V t i ≤ 330 := by
  unfold rln
  have := h.2 i
  unfold isN at this
  repeat' split
  all_goals omega
theorem LW.b {E : gE} {F : Nat → Prop} {J : Int64} {D : sD} {I : gI} {H : Heap} (h : LW E F J D I H) : swb (I 5) := h.2.1.2.2.2.2
def va_AOA (U : State) : Prop := (Cond.arrayOver (.array .int)).before #[] U = true
theorem va_AOA.moved {u U : State} (hvm : u.vm.Alike U.vm) (h : va_AOA u) : va_AOA U := by
  obtain ⟨comp, c, k, h1, h2, h3, h4, h5⟩ := arrayOverA_spec h
  obtain ⟨k', hk', he⟩ := hvm.2.2 _ _ h3
  have hi : (U.vm.classes.findIdx? fun (x : Class) => match x.kind with | .array component _ => component == comp | _ => false) = some c := by
    rw [hvm.findIdx?_eq _ (fun _ => rfl)]
    exact h2
  have hkind : k'.kind = .array comp (.array .int) := by rw [he]; exact h4
  have f1 : U.vm.findClass (FieldType.array .int).toString = some comp := by rw [hvm.findClass]; exact h1
  have f2 : U.vm.findClass ("[" ++ (FieldType.array .int).toString) = some c := by rw [hvm.findClass]; exact h5
  unfold va_AOA Cond.before Cond.holds
  simp only [Cond.value]
  rw [f1, Option.bind_some]
  refine (congrArg (fun o : Option Nat => (o.bind (fun c => (U.vm.classes[c]?).map fun (k : Class) => match k.kind with | .array _ ty => decide (ty = FieldType.array .int) && decide (U.vm.findClass ("[" ++ (FieldType.array .int).toString) = some c) | _ => false) == some true)) hi).trans ?_
  simp [hk', hkind, f2]
theorem gS.int {E : gE} {s : State} (h : gS E s) : s.vm.findClass ("[" ++ (FieldType.int).toString) = some (E.2.1 0) := (h.K.2 0 _ rfl).2
theorem gS.arr {E : gE} {s : State} (h : gS E s) : s.vm.findClass ("[" ++ (FieldType.array .int).toString) = some (E.2.1 4) := (h.K.2 4 _ rfl).2
/-- the outer rows' class: its parts are rows of ints -/
theorem gS.outer {E : gE} {s : State} (h : gS E s) (hA : va_AOA s) : ∃ k4 k0 : Class, s.vm.classes[E.2.1 4]? = some k4 ∧ k4.kind = .array (E.2.1 0) (.array .int) ∧ s.vm.classes[E.2.1 0]? = some k0 := by
  obtain ⟨comp, c, k, h1, -, h3, h4, h5⟩ := arrayOverA_spec hA
  have e1 : c = E.2.1 4 := Option.some.inj (h5.symm.trans h.arr)
  have e2 : comp = E.2.1 0 := Option.some.inj (h1.symm.trans h.int)
  subst e1
  subst e2
  obtain ⟨-, k0, hk0, -⟩ := gtys_at h (k := 0) rfl 0 (fun _ => .null)
  exact ⟨k, k0, h3, h4, hk0⟩
def pNew (V : gY) (n : Int32) : gY := u3 (u3 (urow V 9 (cnt V 9) (fun _ => 0)) 7 (cnt V 9) 0 n) 1 9 0 (nI (cnt V 9 + 1))
section SR
variable {p : Program} {l : Launch} {e : Env} {R : Room} {s : State} {m : MethodId} {args : Array Value} {below : List Frame} {meth : Method} {c : Code} {H : Heap} {locs : List Loc} {cells slots : Nat} {Q : State → Prop}
variable {cc : ByteArray} {pc : Nat} {ls : Array Slot} {rest : List Value} {E : gE} {F : Nat → Prop} {J : Int64} {D : sD} {I : gI} {own : String} {H0 : Heap}
theorem s_get (K : kx E p m c cc own args s) (hG : LW E F J D I H) {index : Nat} (k : Nat) (hk : k < 9) (hlink : Cond.fieldLink own index (TX5 k).1 (TX5 k).2.1 (TX5 k).2.2.1 ∈ lw_all) {v : Value} (hV : sO D (I 5) k = v) (hdg : decode cc pc = .ok (.getfield index, 3))
    (kk : W p l e R s m args below meth c H locs cells slots Q (F0 m (pc + 3) ls (v :: rest))) : W p l e R s m args below meth c H locs cells slots Q (F0 m pc ls (.ref (D 0 0) :: rest)) := by
  obtain ⟨hx, hb, hts, hown, hSt⟩ := K
  obtain ⟨cell, q1, q2, q3, q4⟩ := hG.2.1.c0
  obtain ⟨hS, hfc, kC, hkC, hkind⟩ := hSt.K.1 5 _ rfl
  obtain ⟨cf, kf, fi, f, hi, hsl⟩ := hS k hk
  refine W.getf hx hb hown (hts _ hlink) hi (u_facts hfc hkC (u_lays hts in_X5 hk) hi).1 q1 (by rw [q3]; exact fun h => by cases h) (v := v) ?_ rfl rfl hdg kk
  rw [hsl, q4 k hk, hV]
theorem swb_u3 {V : gY} (h : swb V) {t i j : Nat} {x : Int32} (hn : ¬ t = 1 ∧ ¬ t = 6 ∧ ¬ t = 7) : swb (u3 V t i j x) := by
  refine ⟨fun t' => ?_, fun i' => ⟨?_, ?_⟩⟩
  · rw [show u3 V t i j x 1 t' 0 = V 1 t' 0 from if_neg (fun q => hn.1 q.1.symm)]
    exact h.1 t'
  · rw [show u3 V t i j x 6 i' 0 = V 6 i' 0 from if_neg (fun q => hn.2.1 q.1.symm)]
    exact (h.2 i').1
  · rw [show u3 V t i j x 7 i' 0 = V 7 i' 0 from if_neg (fun q => hn.2.2 q.1.symm)]
    exact (h.2 i').2
theorem cnt_u3 {V : gY} {t i j : Nat} {x : Int32} (hn : ¬ t = 1) (t' : Nat) : cnt (u3 V t i j x) t' = cnt V t' := by
  unfold cnt
  rw [show u3 V t i j x 1 t' 0 = V 1 t' 0 from if_neg (fun q => hn q.1.symm)]
theorem rln_u3 {V : gY} {t i j : Nat} {x : Int32} (hn : ¬ t = 6 ∧ ¬ t = 7) (t' i' : Nat) : rln (u3 V t i j x) t' i' = rln V t' i' := by
  unfold rln
  rw [show u3 V t i j x 6 i' 0 = V 6 i' 0 from if_neg (fun q => hn.1 q.1.symm), show u3 V t i j x 7 i' 0 = V 7 i' 0 from if_neg (fun q => hn.2 q.1.symm)]
theorem s_put (K : kx E p m c cc own args s) (hG : LW E F J D I H) (hS0 : va_S F H0 H locs) {index : Nat} (k : Nat) (hk : k < 9) (hk2 : ¬ (2 ≤ k ∧ k ≤ 5)) (hlink : Cond.fieldLink own index (TX5 k).1 (TX5 k).2.1 (TX5 k).2.2.1 ∈ lw_all) (hfin : (TX5 k).2.2.2 = false) {x : Int32} (hd : parseFieldDescriptor (TX5 k).2.2.1 = some .int) (hdg : decode cc pc = .ok (.putfield index, 3))
    (kk : ∀ I1 : gI, I1 = gU I 5 0 0 k x → ∀ (H1 : Heap) (locs1 : List Loc), LW E F J D I1 H1 → va_S F H0 H1 locs1 → W p l e R s m args below meth c H1 locs1 cells slots Q (F0 m (pc + 3) ls rest)) : W p l e R s m args below meth c H locs cells slots Q (F0 m pc ls (.int x :: .ref (D 0 0) :: rest)) := by
  obtain ⟨hx, hb, hts, hown, hSt⟩ := K
  obtain ⟨cell, q1, q2, q3, q4⟩ := hG.2.1.c0
  obtain ⟨hSl, hfc, kC, hkC, hkind⟩ := hSt.K.1 5 _ rfl
  obtain ⟨cf, kf, fi, f, hi, hsl⟩ := hSl k hk
  have hlay := hts _ (in_X5 _ (u_in_lay hk))
  unfold u_lay at hlay
  rw [if_neg (by rw [hfin]; decide)] at hlay
  have hst := (u_facts hfc hkC (u_lays hts in_X5 hk) hi).1
  have h6 := u_store hfc hkC hkind hlay hi hd (show narrow .int (.int x) = .int x from rfl) (show fits .int (.int x) = true from rfl)
  have hap := va_apart (own := RX5) hts in_X5 tyX5 tyX5_ok nmX5 hSt.K (show vwCl[5]? = some (RX5, TX5, 9) from rfl)
  refine W.putK hx hb (f := f) ⟨hown, hts _ hlink, ⟨_, _, _, hi⟩, hst⟩ (by rw [q2]; exact h6) q1 q3 (by rw [hsl]; exact k2_hasslot (q4 k hk)) rfl rfl hdg fun H' e1 e2 e3 => ?_
  rw [hsl] at e1 ⊢
  refine kk _ rfl H' _ (hG.to hSt.ok (fun q hf => e3 q (fun z => hf (by rw [z]; exact hG.2.1.2.2.1 0 0 (swv0 _)))) ?_) (hS0.put e2 e3 (hG.2.1.2.2.1 0 0 (swv0 _)))
  refine hG.2.1.upd (swv0 _) (swc_of0 (t_OB.to (V := updV (sO D (I 5)) k (.int x)) ⟨_, e1, q2, q3, t_set q4 hap hk (.int x)⟩ (fun j hj => ?_)) 0) e2 e3 (swb_u3 hG.b (by decide)) (cnt_u3 (by decide)) (rln_u3 (by decide)) (fun t' i' hv hn j => ?_)
  · unfold updV sO
    by_cases hjk : j = k
    · subst hjk
      rw [if_pos rfl, if_neg hk2]
      simp [u3]
    · rw [if_neg hjk]
      by_cases hj2 : 2 ≤ j ∧ j ≤ 5
      · rw [if_pos hj2, if_pos hj2]
      · rw [if_neg hj2, if_neg hj2]
        simp [u3, hjk]
  · unfold u3
    rw [if_neg (fun q => hn ⟨q.1, q.2.1⟩)]
theorem s_alen1 (K : kx E p m c cc own args s) (hG : LW E F J D I H) {t : Nat} (ht : 2 ≤ t ∧ t ≤ 5) (hdg : decode cc pc = .ok (.arraylength, 1))
    (kk : W p l e R s m args below meth c H locs cells slots Q (F0 m (pc + 1) ls (.int (I 5 1 t 0) :: rest))) : W p l e R s m args below meth c H locs cells slots Q (F0 m pc ls (.ref (D 1 t) :: rest)) :=
  W.alen (n := I 5 1 t 0) K.1 K.2.1 (hG.2.1.c1 ht) (gtys_at K.2.2.2.2 (k := 4) rfl _ _) (by rw [arrV_size, hG.b.c t]; rfl) rfl rfl hdg kk
theorem s_alen (K : kx E p m c cc own args s) (hG : LW E F J D I H) {t i : Nat} (ht : t = 2 ∨ t = 3 ∨ t = 4 ∨ t = 5 ∨ t = 9) (hi : i < cnt (I 5) t) {v : Int32} (hv : v = nI (rln (I 5) t i)) (hdg : decode cc pc = .ok (.arraylength, 1))
    (kk : W p l e R s m args below meth c H locs cells slots Q (F0 m (pc + 1) ls (.int v :: rest))) : W p l e R s m args below meth c H locs cells slots Q (F0 m pc ls (.ref (D t i) :: rest)) :=
  W.alen (n := v) K.1 K.2.1 (hG.2.1.cr ht hi) (gtys_at K.2.2.2.2 (k := 0) rfl _ _) (by rw [arrV_size, hv]; rfl) rfl rfl hdg kk
theorem s_aald (K : kx E p m c cc own args s) (hG : LW E F J D I H) {t : Nat} (ht : 2 ≤ t ∧ t ≤ 5) {x : Int32} (hin : vp_in x (cnt (I 5) t)) (hdg : decode cc pc = .ok (.aaload, 1))
    (kk : W p l e R s m args below meth c H locs cells slots Q (F0 m (pc + 1) ls (.ref (D t x.toNatClampNeg) :: rest))) : W p l e R s m args below meth c H locs cells slots Q (F0 m pc ls (.int x :: .ref (D 1 t) :: rest)) := by
  have hlt : x.toNatClampNeg < cnt (I 5) t := Nat.not_le.mp fun q => hin (Or.inr q)
  exact W.aald (v := .ref (D t x.toNatClampNeg)) (ty := .array .int) K.1 K.2.1 (hG.2.1.c1 ht) (gtys_at K.2.2.2.2 (k := 4) rfl _ _) rfl (fun q => by cases q) (by show ¬ (x < 0 ∨ (arrV _ _ _).slots.size ≤ _); rw [arrV_size]; exact hin) (by show (arrV _ _ _).slots[_]? = _; rw [arrV_read _ _ hlt]) rfl rfl hdg kk
theorem s_iald (K : kx E p m c cc own args s) (hG : LW E F J D I H) {t i : Nat} (ht : t = 2 ∨ t = 3 ∨ t = 4 ∨ t = 5 ∨ t = 9) (hi : i < cnt (I 5) t) {x : Int32} (hin : vp_in x (rln (I 5) t i)) (hdg : decode cc pc = .ok (.iaload, 1))
    (kk : W p l e R s m args below meth c H locs cells slots Q (F0 m (pc + 1) ls (.int (I 5 t i x.toNatClampNeg) :: rest))) : W p l e R s m args below meth c H locs cells slots Q (F0 m pc ls (.int x :: .ref (D t i) :: rest)) := by
  have hlt : x.toNatClampNeg < rln (I 5) t i := Nat.not_le.mp fun q => hin (Or.inr q)
  exact W.iald (v := .int (I 5 t i x.toNatClampNeg)) K.1 K.2.1 (hG.2.1.cr ht hi) (gtys_at K.2.2.2.2 (k := 0) rfl _ _) (fun q => by cases q) (by show ¬ (x < 0 ∨ (arrV _ _ _).slots.size ≤ _); rw [arrV_size]; exact hin) (by show (arrV _ _ _).slots[_]? = _; rw [arrV_read _ _ hlt]) rfl rfl hdg kk
theorem s_iast (K : kx E p m c cc own args s) (hG : LW E F J D I H) (hS0 : va_S F H0 H locs) {t i : Nat} (ht : t = 2 ∨ t = 3 ∨ t = 4 ∨ t = 5 ∨ t = 9) (hi : i < cnt (I 5) t) {k x : Int32} (hin : vp_in k (rln (I 5) t i)) (hdg : decode cc pc = .ok (.iastore, 1))
    (kk : ∀ (I' : gI), I' = gU I 5 t i k.toNatClampNeg x → ∀ (H1 : Heap) (locs1 : List Loc), LW E F J D I' H1 → va_S F H0 H1 locs1 → W p l e R s m args below meth c H1 locs1 cells slots Q (F0 m (pc + 1) ls rest)) : W p l e R s m args below meth c H locs cells slots Q (F0 m pc ls (.int x :: .int k :: .ref (D t i) :: rest)) := by
  have hF := hG.2.1.2.2.1 t i (swvr ht hi)
  refine W.iast K.1 K.2.1 (hG.2.1.cr ht hi) (gtys_at K.2.2.2.2 (k := 0) rfl _ _) (fun q => by cases q) (by show ¬ (k < 0 ∨ (arrV _ _ _).slots.size ≤ _); rw [arrV_size]; exact hin) rfl rfl hdg fun H1 e1 z oq => ?_
  refine kk _ rfl H1 _ (hG.to K.2.2.2.2.ok (fun q hf => oq q (fun z => hf (by rw [z]; exact hF))) ?_) (hS0.put z oq hF)
  have hr : rln (u3 (I 5) t i k.toNatClampNeg x) t i = rln (I 5) t i := rln_u3 (by omega) t i
  refine hG.2.1.upd (swvr ht hi) (swc_ofr ht ?_) z oq (swb_u3 hG.b (by omega)) (cnt_u3 (by omega)) (rln_u3 (by omega)) (fun t' i' hv hn j => ?_)
  · rw [e1, arrV_store, hr]
    congr 2
    funext j
    unfold updV u3
    by_cases hj : j = k.toNatClampNeg
    · simp [hj]
    · simp [hj]
  · unfold u3
    rw [if_neg (fun q => hn ⟨q.1, q.2.1⟩)]
end SR
