/-! THE SIM'S CONSTRUCTOR -/
def iV (a n : Nat) (f : Int32) : Nat → Value := fun k => if k = 1 then .int f else if 2 ≤ k ∧ k ≤ 5 then (if k < 2 + n then .ref (a + (k - 1)) else .null) else .int 0
def iP (E : gE) (a n : Nat) (f : Int32) (H : Heap) : Prop := t_OB a (E.1.1 5) 9 (E.1.2 5) H (iV a n f) ∧ H.size = a + 1 + n ∧ ∀ j, j < n → H[a + 1 + j]? = some (arrV (E.2.1 4) 0 (fun _ => .null))
section NI
variable {p : Program} {l : Launch} {e : Env} {R : Room} {s : State} {m : MethodId} {args : Array Value} {below : List Frame} {meth : Method} {c : Code} {H : Heap} {locs : List Loc} {cells slots : Nat} {Q : State → Prop}
variable {cc : ByteArray} {pc : Nat} {ls : Array Slot} {rest : List Value} {E : gE} {H0 : Heap} {A : Nat → Prop}
theorem n_putO {a k index : Nat} {V : Nat → Value} {v : Value} {ty : FieldType} (K : kx E p m c cc "HayThievesLaw$Sim" args s) (h : t_OB a (E.1.1 5) 9 (E.1.2 5) H V) (hS : va_S A H0 H locs) (hA : A a) (hk : k < 9) (hlink : Cond.fieldLink "HayThievesLaw$Sim" index (TX5 k).1 (TX5 k).2.1 (TX5 k).2.2.1 ∈ lw_all) (hfin : (TX5 k).2.2.2 = false) (hd : parseFieldDescriptor (TX5 k).2.2.1 = some ty) (hn : narrow ty v = v) (hfit : fits ty v = true) (hdg : decode cc pc = .ok (.putfield index, 3))
    (kk : ∀ (H1 : Heap) (locs1 : List Loc), t_OB a (E.1.1 5) 9 (E.1.2 5) H1 (updV V k v) → H1.size = H.size → (∀ q, q ≠ a → H1[q]? = H[q]?) → va_S A H0 H1 locs1 → W p l e R s m args below meth c H1 locs1 cells slots Q (F0 m (pc + 3) ls rest)) : W p l e R s m args below meth c H locs cells slots Q (F0 m pc ls (v :: .ref a :: rest)) := by
  obtain ⟨hx, hb, hts, hown, hSt⟩ := K
  obtain ⟨cell, q1, q2, q3, q4⟩ := h
  obtain ⟨hSl, hfc, kC, hkC, hkind⟩ := hSt.K.1 5 _ rfl
  obtain ⟨cf, kf, fi, f, hi, hsl⟩ := hSl k hk
  have hlay := hts _ (in_X5 _ (u_in_lay hk))
  unfold u_lay at hlay
  rw [if_neg (by rw [hfin]; decide)] at hlay
  have hst := (u_facts hfc hkC (u_lays hts in_X5 hk) hi).1
  have h6 := u_store hfc hkC hkind hlay hi hd hn hfit
  have hap := va_apart (own := RX5) hts in_X5 tyX5 tyX5_ok nmX5 hSt.K (show vwCl[5]? = some (RX5, TX5, 9) from rfl)
  refine W.putK hx hb (f := f) ⟨hown, hts _ hlink, ⟨_, _, _, hi⟩, hst⟩ (by rw [q2]; exact h6) q1 q3 (by rw [hsl]; exact k2_hasslot (q4 k hk)) rfl rfl hdg fun H' e1 e2 e3 => ?_
  rw [hsl] at e1 ⊢
  exact kk H' _ ⟨_, e1, q2, q3, t_set q4 hap hk v⟩ e2 e3 (hS.put e2 e3 hA)
theorem n_arr {a n index : Nat} (K : kx E p m c cc "HayThievesLaw$Sim" args s) (hAO : va_AOA s) (hP : iP E a n 10 H) (hn4 : n < 4) (hS : va_S (fun q => a ≤ q) s.heap H locs) (hl : lv_has ls 1 [(0, .ref a)]) (hlink : Cond.fieldLink "HayThievesLaw$Sim" index (TX5 (n + 2)).1 (TX5 (n + 2)).2.1 (TX5 (n + 2)).2.2.1 ∈ lw_all) (hfin : (TX5 (n + 2)).2.2.2 = false) (hd : parseFieldDescriptor (TX5 (n + 2)).2.2.1 = some (.array (.array .int)))
    (d0 : decode cc pc = .ok (.aload_n 0, 1)) (d1 : decode cc (pc + 1) = .ok (.iconst 0, 1)) (d2 : decode cc (pc + 1 + 1) = .ok (.anewarray 13, 3)) (d3 : decode cc (pc + 1 + 1 + 3) = .ok (.putfield index, 3)) (hc : cells + 1 ≤ R.cells ∧ slots + 0 ≤ R.slots)
    (kk : ∀ (H1 : Heap) (locs1 : List Loc), iP E a (n + 1) 10 H1 → va_S (fun q => a ≤ q) s.heap H1 locs1 → W p l e R s m args below meth c H1 locs1 (cells + 1) slots Q (F0 m (pc + 1 + 1 + 3 + 3) ls [])) : W p l e R s m args below meth c H locs cells slots Q (F0 m pc ls []) := by
  obtain ⟨hx, hb, hts, hown, hSt⟩ := id K
  obtain ⟨p1, p2, p3⟩ := hP
  refine lv_aload_n hx hb d0 rfl (lv_at hl 0 rfl) ?_
  refine lv_iconst (v := 0) hx hb d1 (by decide) ?_
  refine W.anewA (t := .int) hx hb hown (by rw [tsI]; exact hts _ q547) hAO.use rfl d2 rfl (by decide) (by decide) hc.1 hc.2 fun cA kA comp f1 f2 f3 f4 => ?_
  obtain rfl : cA = E.2.1 4 := Option.some.inj (f1.symm.trans hSt.arr)
  generalize hH1 : H.push ({ cls := E.2.1 4, slots := Array.replicate (0 : Int32).toNatClampNeg .null, vm := .none } : Cell) = H1
  have z1 : H1.size = H.size + 1 := by rw [← hH1, Array.size_push]
  have e1 : H1[H.size]? = some (arrV (E.2.1 4) 0 (fun _ => .null)) := by rw [← hH1, Array.getElem?_push_size, show ((0 : Int32).toNatClampNeg) = 0 from rfl, ← arrV_new]
  have o1 : ∀ q : Nat, q < H.size → H1[q]? = H[q]? := fun q hq => by rw [← hH1, Array.getElem?_push, if_neg (Nat.ne_of_lt hq)]
  have ev : (Value.ref H.size) = .ref (a + (n + 2 - 1)) := congrArg Value.ref (p2.trans (show a + 1 + n = a + (n + 2 - 1) by omega))
  rw [ev]
  refine n_putO K (h := p1.kept (o1 a (by omega))) (va_S.grow hS z1 o1) (Nat.le_refl a) (show n + 2 < 9 by omega) hlink hfin hd rfl rfl d3 (fun H2 locs1 g1 g2 g3 hS => ?_)
  refine kk H2 locs1 ⟨g1.to (fun k hk => ?_), by omega, fun j hj => ?_⟩ hS
  · unfold updV iV
    by_cases e : k = n + 2
    · subst e
      rw [if_pos rfl, if_neg (by omega), if_pos (by omega), if_pos (by omega)]
    · rw [if_neg e]
      by_cases c1 : k = 1
      · rw [if_pos c1, if_pos c1]
      · rw [if_neg c1, if_neg c1]
        by_cases c2 : 2 ≤ k ∧ k ≤ 5
        · rw [if_pos c2, if_pos c2]
          by_cases c3 : k < 2 + n
          · rw [if_pos c3, if_pos (by omega)]
          · rw [if_neg c3, if_neg (by omega)]
        · rw [if_neg c2, if_neg c2]
  · rw [g3 _ (by omega)]
    by_cases e : j = n
    · subst e
      rw [show a + 1 + j = H.size by omega]
      exact e1
    · rw [o1 _ (by omega)]
      exact p3 j (by omega)
end NI
set_option maxHeartbeats 4000000 in
set_option maxRecDepth 100000 in
theorem m_S_init (l : Launch) (E : gE) (a : Nat) : Met l yX5_init (gws yX5_init cX5_init 1 none) (rmc 1 4 0 12) (va_Pc [.ref a] (fun U => iP E a 0 0 U.heap ∧ sK E U)) (va_Qv (fun (_ : Unit) => True) (fun _ t => iP E a 4 10 t.heap) (fun q => a ≤ q)) 4 0 (fun q => a ≤ q) := by
  refine n_entry (E := E) (lv := [(0, .ref a)]) (by decide) (Nat.le_of_ble_eq_true rfl) rfl (fun U h => h.2.1) ?_
  intro p e s m below meth c ls K hP hS hml hr hlocks hl
  have K : kx E p m c cX5_init "HayThievesLaw$Sim" _ s := K
  obtain ⟨hP, -, hAO⟩ := hP
  have hx := K.1
  have hb := K.2.1
  have hts := K.2.2.1
  have hown := K.2.2.2.1
  refine lv_aload_n hx hb dX5_init_0 rfl (lv_at hl 0 rfl) ?_
  refine W.objInit hx hb hown (hts _ q666) (hts _ q21) (hts _ q22) rfl (hl.1.trans hml.symm) rfl dX5_init_1 (Nat.le_of_ble_eq_true rfl) (Nat.le_of_ble_eq_true rfl) ?_
  refine lv_aload_n hx hb dX5_init_4 rfl (lv_at hl 0 rfl) ?_
  refine lv_bipush (v := 10) hx hb dX5_init_5 (by decide) ?_
  refine n_putO (k := 1) K hP.1 hS (Nat.le_refl a) (by decide) q668 rfl (ty := .int) (by decide +kernel) rfl rfl dX5_init_7 (fun H locs g1 g2 g3 hS => ?_)
  have hP : iP E a 0 10 H := ⟨g1.to (fun k hk => by
    unfold updV iV
    by_cases e : k = 1
    · rw [if_pos e, if_pos e]
    · rw [if_neg e, if_neg e, if_neg e]), by rw [g2]; exact hP.2.1, fun j hj => absurd hj (Nat.not_lt_zero _)⟩
  refine n_arr (n := 0) K hAO hP (by decide) hS hl q670 rfl (by decide +kernel) dX5_init_10 dX5_init_11 dX5_init_12 dX5_init_15 ⟨Nat.le_of_ble_eq_true rfl, Nat.le_of_ble_eq_true rfl⟩ (fun H locs hP hS => ?_)
  refine n_arr (n := 1) K hAO hP (by decide) hS hl q672 rfl (by decide +kernel) dX5_init_18 dX5_init_19 dX5_init_20 dX5_init_23 ⟨Nat.le_of_ble_eq_true rfl, Nat.le_of_ble_eq_true rfl⟩ (fun H locs hP hS => ?_)
  refine n_arr (n := 2) K hAO hP (by decide) hS hl q674 rfl (by decide +kernel) dX5_init_26 dX5_init_27 dX5_init_28 dX5_init_31 ⟨Nat.le_of_ble_eq_true rfl, Nat.le_of_ble_eq_true rfl⟩ (fun H locs hP hS => ?_)
  refine n_arr (n := 3) K hAO hP (by decide) hS hl q676 rfl (by decide +kernel) dX5_init_34 dX5_init_35 dX5_init_36 dX5_init_39 ⟨Nat.le_of_ble_eq_true rfl, Nat.le_of_ble_eq_true rfl⟩ (fun H locs hP hS => ?_)
  exact W.vret hx hb hr (fun t ht hW => ⟨⟨(), rfl, trivial, by show iP E a 4 10 t.heap; rw [ht]; exact hP⟩, hS.F ht⟩) hS.2.2 dX5_init_42 hlocks
/-! the new Sim is a world -/
def D0 (a : Nat) : sD := fun t i => if t = 0 then a else if t = 1 then a + (i - 1) else 0
def V0 : gY := fun t i j => if t = 0 ∧ i = 0 ∧ j = 1 then 10 else 0
theorem cnt_V0 (t : Nat) : cnt V0 t = 0 := by
  unfold cnt V0
  rw [if_neg (by omega)]
  rfl
theorem LW_init {E : gE} {F : Nat → Prop} {J : Int64} {I : gI} {H : Heap} {a : Nat} (hG : GW E J I H) (hP : iP E a 4 10 H) (hF : ∀ q, a ≤ q → F q) (hg : ∀ q, F q → ¬ gF E q) : LW E F J (D0 a) (gset I 5 V0) H := by
  obtain ⟨p1, p2, p3⟩ := hP
  have cs : ∀ t i, swv V0 t i → (t = 0 ∧ i = 0) ∨ (t = 1 ∧ 2 ≤ i ∧ i ≤ 5) := fun t i h => by
    rcases h with h | h | ⟨-, h⟩
    · exact Or.inl h
    · exact Or.inr h
    · rw [cnt_V0] at h
      exact absurd h (Nat.not_lt_zero _)
  refine ⟨fun y t i hv => ?_, ?_, hg⟩
  · have h := hG y t i hv
    have e : sv E J (gset I 5 V0) y t i = sv E J I y t i := by
      rcases gv_cases hv with hy | ⟨rfl, rfl⟩
      · have e1 : gset I 5 V0 y = I y := gset_ne _ _ (by omega)
        funext j
        unfold sv
        have e2 : grf E (gset I 5 V0) y t i j = grf E I y t i j := by
          unfold grf
          split <;> try rfl
          rw [e1]
        rw [e1, e2]
      · exact sv10 E J _ _ i
    rw [e]
    exact h
  · rw [gset_at]
    refine ⟨fun t i hv => ?_, fun t i t' i' hv hv' he => ?_, fun t i hv => ?_, fun q hq => hF q (by omega), ⟨fun t => ?_, fun i => ⟨?_, ?_⟩⟩⟩
    · rcases cs t i hv with ⟨rfl, rfl⟩ | ⟨rfl, h1, h2⟩
      · refine swc_of0 (p1.to (fun k hk => ?_)) 0
        unfold iV sO
        by_cases c1 : k = 1
        · subst c1
          rfl
        · rw [if_neg c1]
          by_cases c2 : 2 ≤ k ∧ k ≤ 5
          · rw [if_pos c2, if_pos c2, if_pos (by omega)]
            rfl
          · rw [if_neg c2, if_neg c2]
            unfold V0
            rw [if_neg (by omega)]
      · refine swc_of1 ?_
        have := p3 (i - 2) (by omega)
        show H[a + (i - 1)]? = _
        rw [show a + (i - 1) = a + 1 + (i - 2) by omega, this, cnt_V0]
        exact congrArg some (arrV_alike (fun j hj => absurd hj (Nat.not_lt_zero _)))
    · rcases cs t i hv with ⟨rfl, rfl⟩ | ⟨rfl, h1, h2⟩
      · rcases cs t' i' hv' with ⟨rfl, rfl⟩ | ⟨rfl, h3, h4⟩
        · exact ⟨rfl, rfl⟩
        · have he : a = a + (i' - 1) := he
          omega
      · rcases cs t' i' hv' with ⟨rfl, rfl⟩ | ⟨rfl, h3, h4⟩
        · have he : a + (i - 1) = a := he
          omega
        · have he : a + (i - 1) = a + (i' - 1) := he
          exact ⟨rfl, by omega⟩
    · rcases cs t i hv with ⟨rfl, rfl⟩ | ⟨rfl, h1, h2⟩
      · exact hF _ (Nat.le_refl a)
      · exact hF _ (show a ≤ a + (i - 1) by omega)
    · unfold V0
      rw [if_neg (by omega)]
      exact isN_nI (k := 0) (by decide) (by decide)
    · unfold V0
      rw [if_neg (by omega)]
      exact isN_nI (k := 0) (by decide) (by decide)
    · unfold V0
      rw [if_neg (by omega)]
      exact isN_nI (k := 0) (by decide) (by decide)
