/-! more -/
theorem va_AOA.use {A : Array Value} {U : State} (h : va_AOA U) : (Cond.arrayOver (.array .int)).before A U = true := by
  unfold va_AOA Cond.before Cond.holds at h
  unfold Cond.before Cond.holds
  simp only [Cond.value] at h ⊢
  exact h
def moP (E : gE) (n0 a b N : Nat) (r : Nat → Nat) (H : Heap) : Prop := H.size = n0 ∧ H[a]? = some (arrV (E.2.1 4) N (fun j => .ref (r j))) ∧ (∀ j, j < N → ∃ (n : Nat) (g : Nat → Value), H[r j]? = some (arrV (E.2.1 0) n g)) ∧ (∃ (n : Nat) (g : Nat → Value), H[b]? = some (arrV (E.2.1 0) n g)) ∧ N < 330
def moQ (E : gE) (n0 b N : Nat) (r : Nat → Nat) : Array Value → State → Outcome → State → Prop := va_Qr (fun (_ : Unit) => True) (fun _ x t => x = n0 ∧ t.heap[n0]? = some (arrV (E.2.1 4) (N + 1) (fun j => if j < N then .ref (r j) else .ref b))) (fun q => n0 ≤ q)
set_option maxHeartbeats 4000000 in
theorem m_S_more (l : Launch) (E : gE) (n0 a b N : Nat) (r : Nat → Nat) : sM l E yX5_more cX5_more 4 (some (.array (.array .int))) 0 1 330 0 [.ref a, .ref b] (moP E n0 a b N r) (moQ E n0 b N r) (fun q => n0 ≤ q) := by
  refine s_entry (lv := [(0, .ref a), (1, .ref b)]) (by decide) (Nat.le_of_ble_eq_true rfl) rfl ?_
  intro p e s m below meth c ls K hAO hP hS hml hr hlocks hl
  obtain ⟨hz, ha, hrr, ⟨nb, gb, hbb⟩, hN⟩ := hP
  have K : kx E p m c cX5_more "HayThievesLaw$Sim" _ s := K
  have hx := K.1
  have hb := K.2.1
  have hts := K.2.2.1
  have hown := K.2.2.2.1
  have hSt := K.2.2.2.2
  obtain ⟨k4, k0, g1, g2, g3⟩ := hSt.outer hAO
  have ha0 : a < n0 := by rw [← hz]; exact (Array.getElem?_eq_some_iff.mp ha).1
  refine lv_aload_n hx hb dX5_more_0 rfl (lv_at hl 0 rfl) ?_
  refine W.alen (n := nI N) hx hb ha (gtys_at hSt (k := 4) rfl _ _) (by rw [arrV_size]; rfl) rfl rfl dX5_more_1 ?_
  refine lv_iconst (v := 1) hx hb dX5_more_2 (by decide) ?_
  refine lv_iadd hx hb dX5_more_3 ?_
  rw [nI_1]
  refine W.anewA (t := .int) hx hb hown (by rw [tsI]; exact hts _ q547) hAO.use rfl dX5_more_4 rfl (nI_pos (by omega)) (by rw [nI_clamp (by omega)]; omega) (Nat.le_of_ble_eq_true rfl) (by rw [nI_clamp (by omega)]; show 0 + (N + 1) ≤ 330; omega) fun cA kA comp f1 f2 f3 f4 => ?_
  obtain rfl : cA = E.2.1 4 := Option.some.inj (f1.symm.trans hSt.arr)
  rw [nI_clamp (show N + 1 < 2 ^ 31 by omega)]
  generalize hH1 : s.heap.push ({ cls := E.2.1 4, slots := Array.replicate (N + 1) .null, vm := .none } : Cell) = H1
  have z1 : H1.size = n0 + 1 := by rw [← hH1, Array.size_push, hz]
  have e1 : H1[n0]? = some (arrV (E.2.1 4) (N + 1) (fun _ => .null)) := by rw [← hH1, ← hz, Array.getElem?_push_size, ← arrV_new]
  have o1 : ∀ q : Nat, q < n0 → H1[q]? = s.heap[q]? := fun q hq => by rw [← hH1, Array.getElem?_push, if_neg (by omega)]
  rw [hz]
  refine W.widen (k := 1) (n := 330) (by omega) (by omega) ?_
  have hS1 : va_S (fun q => n0 ≤ q) s.heap H1 [] := ⟨by omega, fun q h1 h2 => o1 q (by omega), fun _ h => by cases h⟩
  refine lv_astore_n (lv' := [(2, .ref n0), (0, .ref a), (1, .ref b)]) hx hb dX5_more_7 rfl hl (by decide) rfl (fun ls hl => ?_)
  refine lv_iconst (v := 0) hx hb dX5_more_8 (by decide) ?_
  refine lv_istore_n (lv' := [(3, .int 0), (2, .ref n0), (0, .ref a), (1, .ref b)]) hx hb dX5_more_9 rfl hl (by decide) rfl (fun ls hl => ?_)
  have loop : ∀ (k i : Nat) (H : Heap) (locs : List Loc) (ls : Array Slot), i + k = N → H.size = n0 + 1 → H[n0]? = some (arrV (E.2.1 4) (N + 1) (fun j => if j < i then .ref (r j) else .null)) → (∀ q : Nat, q < n0 → H[q]? = s.heap[q]?) → va_S (fun q => n0 ≤ q) s.heap H locs → lv_has ls 4 [(3, .int (nI i)), (2, .ref n0), (0, .ref a), (1, .ref b)] →
      W p l e (rmc 0 1 330 0) s m ([.ref a, .ref b] : List Value).toArray below meth c H locs 1 330 (MQ below (moQ E n0 b N r) ([.ref a, .ref b] : List Value).toArray s 1 330 (fun q => n0 ≤ q)) (F0 m 10 ls []) := by
    intro k
    induction k with
    | zero =>
      intro i H locs ls hi hz hc ho hS hl
      obtain rfl : i = N := by omega
      refine lv_iload_n hx hb dX5_more_10 rfl (lv_at hl 0 rfl) ?_
      refine lv_aload_n hx hb dX5_more_11 rfl (lv_at hl 2 rfl) ?_
      refine W.alen (n := nI i) hx hb (by rw [ho a ha0]; exact ha) (gtys_at hSt (k := 4) rfl _ _) (by rw [arrV_size]; rfl) rfl rfl dX5_more_12 ?_
      refine lv_icmp_ge (tgt := 28) hx hb dX5_more_13 rfl (fun _ => ?_) (fun h => absurd (nI_le (Nat.le_refl i) (by omega)) h)
      refine lv_aload_n hx hb dX5_more_28 rfl (lv_at hl 1 rfl) ?_
      refine lv_aload_n hx hb dX5_more_29 rfl (lv_at hl 2 rfl) ?_
      refine W.alen (n := nI i) hx hb (by rw [ho a ha0]; exact ha) (gtys_at hSt (k := 4) rfl _ _) (by rw [arrV_size]; rfl) rfl rfl dX5_more_30 ?_
      refine lv_aload_n hx hb dX5_more_31 rfl (lv_at hl 3 rfl) ?_
      have hb0 : b < n0 := by rw [← ‹s.heap.size = n0›]; exact (Array.getElem?_eq_some_iff.mp hbb).1
      refine W.aast hx hb hc (fun q h => by cases h) (fun h => by cases h) g1 g2 rfl g3 ⟨nI_pos (by omega), by show _ < (arrV _ _ _).slots.size; rw [arrV_size, nI_clamp (by omega)]; omega⟩ (by rw [ho b hb0]; exact hbb) (fun q h => by cases h) g3 (va_asg _ _) rfl rfl dX5_more_32 fun H1 e1 z oq => ?_
      have hS := hS.put (k := (nI i).toNatClampNeg) z oq (show n0 ≤ n0 from Nat.le_refl _)
      refine lv_aload_n hx hb dX5_more_33 rfl (lv_at hl 1 rfl) ?_
      refine W.aret (v := .ref n0) hx hb hr (Or.inr ⟨_, rfl⟩) (Or.inr ⟨n0, rfl⟩) (fun t ht hW => ⟨⟨(), n0, rfl, trivial, rfl, ?_⟩, hS.F ht⟩) hS.2.2 dX5_more_34 hlocks
      rw [ht, e1, arrV_store, nI_clamp (by omega)]
      refine congrArg some (arrV_alike (fun j hj => ?_))
      unfold updV
      by_cases e : j = i
      · subst e
        simp
      · have e2 : j < i := by omega
        simp [e, e2]
    | succ k ih =>
      intro i H locs ls hi hz hc ho hS hl
      obtain ⟨nr, gr, hri⟩ := hrr i (by omega)
      have hr0 : r i < n0 := by rw [← ‹s.heap.size = n0›]; exact (Array.getElem?_eq_some_iff.mp hri).1
      refine lv_iload_n hx hb dX5_more_10 rfl (lv_at hl 0 rfl) ?_
      refine lv_aload_n hx hb dX5_more_11 rfl (lv_at hl 2 rfl) ?_
      refine W.alen (n := nI N) hx hb (by rw [ho a ha0]; exact ha) (gtys_at hSt (k := 4) rfl _ _) (by rw [arrV_size]; rfl) rfl rfl dX5_more_12 ?_
      refine lv_icmp_ge (tgt := 28) hx hb dX5_more_13 rfl (fun h => absurd h (nI_ge (by omega) (by omega))) (fun _ => ?_)
      refine lv_aload_n hx hb dX5_more_16 rfl (lv_at hl 1 rfl) ?_
      refine lv_iload_n hx hb dX5_more_17 rfl (lv_at hl 0 rfl) ?_
      refine lv_aload_n hx hb dX5_more_18 rfl (lv_at hl 2 rfl) ?_
      refine lv_iload_n hx hb dX5_more_19 rfl (lv_at hl 0 rfl) ?_
      refine W.aald (v := .ref (r i)) (ty := .array .int) hx hb (by rw [ho a ha0]; exact ha) (gtys_at hSt (k := 4) rfl _ _) rfl (fun q => by cases q) (by show ¬ (_ ∨ (arrV _ _ _).slots.size ≤ _); rw [arrV_size]; exact vp_in_nI (by omega) (by omega)) (by show (arrV _ _ _).slots[_]? = _; rw [nI_clamp (by omega), arrV_read _ _ (by omega)]) rfl rfl dX5_more_20 ?_
      refine W.aast hx hb hc (fun q h => by cases h) (fun h => by cases h) g1 g2 rfl g3 ⟨nI_pos (by omega), by show _ < (arrV _ _ _).slots.size; rw [arrV_size, nI_clamp (by omega)]; omega⟩ (by rw [ho _ hr0]; exact hri) (fun q h => by cases h) g3 (va_asg _ _) rfl rfl dX5_more_21 fun H1 e1 z oq => ?_
      have hS := hS.put (k := (nI i).toNatClampNeg) z oq (show n0 ≤ n0 from Nat.le_refl _)
      refine lv_iinc (v := nI (i + 1)) (lv' := [(3, .int (nI (i + 1))), (2, .ref n0), (0, .ref a), (1, .ref b)]) hx hb dX5_more_22 hl (k := 0) rfl (nI_add i 1) (by decide) rfl (fun ls hl => ?_)
      refine lv_goto (tgt := 10) hx hb dX5_more_25 rfl ?_
      refine ih (i + 1) H1 _ ls (by omega) (by omega) ?_ (fun q hq => (oq q (Nat.ne_of_lt hq)).trans (ho q hq)) hS hl
      rw [e1, arrV_store, nI_clamp (by omega)]
      refine congrArg some (arrV_alike (fun j hj => ?_))
      unfold updV
      by_cases e : j = i
      · subst e
        simp
      · by_cases e2 : j < i
        · simp [e, e2, show j < i + 1 by omega]
        · simp [e, e2, show ¬ j < i + 1 by omega]
  exact loop N 0 H1 [] ls (by omega) z1 (by rw [e1]; exact congrArg some (arrV_alike (fun j _ => by rw [if_neg (by omega)]))) o1 hS1 hl
/-! less -/
def leP (E : gE) (n0 a N : Nat) (g : Nat → Int32) (H : Heap) : Prop := H.size = n0 ∧ H[a]? = some (arrV (E.2.1 0) (N + 1) (fun j => .int (g j))) ∧ N < 330
def leQ (E : gE) (n0 N : Nat) (x : Int32) (g : Nat → Int32) : Array Value → State → Outcome → State → Prop := va_Qr (fun (_ : Unit) => True) (fun _ y t => y = n0 ∧ t.heap[n0]? = some (arrV (E.2.1 0) N (fun j => .int (if x = 0 then g j else g (j + 1))))) (fun q => n0 ≤ q)
set_option maxHeartbeats 4000000 in
theorem m_S_less (l : Launch) (E : gE) (n0 a N : Nat) (x : Int32) (g : Nat → Int32) : sM l E yX5_less cX5_less 4 (some (.array .int)) 0 1 330 0 [.ref a, .int x] (leP E n0 a N g) (leQ E n0 N x g) (fun q => n0 ≤ q) := by
  refine s_entry (lv := [(0, .ref a), (1, .int x)]) (by decide) (Nat.le_of_ble_eq_true rfl) rfl ?_
  intro p e s m below meth c ls K hAO hP hS hml hr hlocks hl
  obtain ⟨hz, ha, hN⟩ := hP
  have K : kx E p m c cX5_less "HayThievesLaw$Sim" _ s := K
  have hx := K.1
  have hb := K.2.1
  have hts := K.2.2.1
  have hSt := K.2.2.2.2
  have ha0 : a < n0 := by rw [← hz]; exact (Array.getElem?_eq_some_iff.mp ha).1
  refine lv_aload_n hx hb dX5_less_0 rfl (lv_at hl 0 rfl) ?_
  refine W.alen (n := nI (N + 1)) hx hb ha (gtys_at hSt (k := 0) rfl _ _) (by rw [arrV_size]; rfl) rfl rfl dX5_less_1 ?_
  refine lv_iconst (v := 1) hx hb dX5_less_2 (by decide) ?_
  refine lv_isub hx hb dX5_less_3 ?_
  rw [zc_sub1 (show 0 < N + 1 by omega), Nat.add_sub_cancel]
  refine va_newaK (atype := .int) (N := N) hx hb (hts _ q54) rfl dX5_less_4 rfl (nI_pos (by omega)) (nI_clamp (by omega)) (by show N * 4 ≤ 536870912; omega) (Nat.le_of_ble_eq_true rfl) (by show 0 + N ≤ 330; omega) hz fun H1 cA e1 z1 o1 hAr hNm => ?_
  obtain rfl : cA = E.2.1 0 := Option.some.inj (hNm.symm.trans hSt.int)
  refine W.widen (k := 1) (n := 330) (by omega) (by omega) ?_
  have hS1 : va_S (fun q => n0 ≤ q) s.heap H1 [] := ⟨by omega, fun q h1 h2 => o1 q (by omega), fun _ h => by cases h⟩
  refine lv_astore_n (lv' := [(2, .ref n0), (0, .ref a), (1, .int x)]) hx hb dX5_less_6 rfl hl (by decide) rfl (fun ls hl => ?_)
  refine lv_iconst (v := 0) hx hb dX5_less_7 (by decide) ?_
  refine lv_istore_n (lv' := [(3, .int 0), (2, .ref n0), (0, .ref a), (1, .int x)]) hx hb dX5_less_8 rfl hl (by decide) rfl (fun ls hl => ?_)
  have loop : ∀ (k i : Nat) (H : Heap) (locs : List Loc) (ls : Array Slot), i + k = N → H.size = n0 + 1 → H[n0]? = some (arrV (E.2.1 0) N (fun j => if j < i then .int (if x = 0 then g j else g (j + 1)) else .int 0)) → (∀ q : Nat, q < n0 → H[q]? = s.heap[q]?) → va_S (fun q => n0 ≤ q) s.heap H locs → lv_has ls 4 [(3, .int (nI i)), (2, .ref n0), (0, .ref a), (1, .int x)] →
      W p l e (rmc 0 1 330 0) s m ([.ref a, .int x] : List Value).toArray below meth c H locs 1 330 (MQ below (leQ E n0 N x g) ([.ref a, .int x] : List Value).toArray s 1 330 (fun q => n0 ≤ q)) (F0 m 9 ls []) := by
    intro k
    induction k with
    | zero =>
      intro i H locs ls hi hz hc ho hS hl
      obtain rfl : i = N := by omega
      refine lv_iload_n hx hb dX5_less_9 rfl (lv_at hl 0 rfl) ?_
      refine lv_aload_n hx hb dX5_less_10 rfl (lv_at hl 1 rfl) ?_
      refine W.alen (n := nI i) hx hb hc (gtys_at hSt (k := 0) rfl _ _) (by rw [arrV_size]; rfl) rfl rfl dX5_less_11 ?_
      refine lv_icmp_ge (tgt := 37) hx hb dX5_less_12 rfl (fun _ => ?_) (fun h => absurd (nI_le (Nat.le_refl i) (by omega)) h)
      refine lv_aload_n hx hb dX5_less_37 rfl (lv_at hl 1 rfl) ?_
      refine W.aret (v := .ref n0) hx hb hr (Or.inr ⟨_, rfl⟩) (Or.inr ⟨n0, rfl⟩) (fun t ht hW => ⟨⟨(), n0, rfl, trivial, rfl, ?_⟩, hS.F ht⟩) hS.2.2 dX5_less_38 hlocks
      rw [ht, hc]
      exact congrArg some (arrV_alike (fun j hj => by rw [if_pos hj]))
    | succ k ih =>
      intro i H locs ls hi hz hc ho hS hl
      refine lv_iload_n hx hb dX5_less_9 rfl (lv_at hl 0 rfl) ?_
      refine lv_aload_n hx hb dX5_less_10 rfl (lv_at hl 1 rfl) ?_
      refine W.alen (n := nI N) hx hb hc (gtys_at hSt (k := 0) rfl _ _) (by rw [arrV_size]; rfl) rfl rfl dX5_less_11 ?_
      refine lv_icmp_ge (tgt := 37) hx hb dX5_less_12 rfl (fun h => absurd h (nI_ge (by omega) (by omega))) (fun _ => ?_)
      refine lv_aload_n hx hb dX5_less_15 rfl (lv_at hl 1 rfl) ?_
      refine lv_iload_n hx hb dX5_less_16 rfl (lv_at hl 0 rfl) ?_
      refine lv_aload_n hx hb dX5_less_17 rfl (lv_at hl 2 rfl) ?_
      refine lv_iload_n hx hb dX5_less_18 rfl (lv_at hl 3 rfl) ?_
      have st : ∀ w, w < N + 1 → g w = (if x = 0 then g i else g (i + 1)) → W p l e (rmc 0 1 330 0) s m ([.ref a, .int x] : List Value).toArray below meth c H locs 1 330 (MQ below (leQ E n0 N x g) ([.ref a, .int x] : List Value).toArray s 1 330 (fun q => n0 ≤ q)) (F0 m 29 ls [.int (nI w), .ref a, .int (nI i), .ref n0]) := by
        intro w hw hg
        refine W.iald (v := .int (g w)) hx hb (by rw [ho a ha0]; exact ha) (gtys_at hSt (k := 0) rfl _ _) (fun q => by cases q) (by show ¬ (_ ∨ (arrV _ _ _).slots.size ≤ _); rw [arrV_size]; exact vp_in_nI hw (by omega)) (by show (arrV _ _ _).slots[_]? = _; rw [nI_clamp (by omega), arrV_read _ _ hw]) rfl rfl dX5_less_29 ?_
        refine W.iast hx hb hc (gtys_at hSt (k := 0) rfl _ _) (fun q => by cases q) (by show ¬ (_ ∨ (arrV _ _ _).slots.size ≤ _); rw [arrV_size]; exact vp_in_nI (by omega) (by omega)) rfl rfl dX5_less_30 fun H1 e1 z oq => ?_
        have hS := hS.put (k := (nI i).toNatClampNeg) z oq (show n0 ≤ n0 from Nat.le_refl _)
        refine lv_iinc (v := nI (i + 1)) (lv' := [(3, .int (nI (i + 1))), (2, .ref n0), (0, .ref a), (1, .int x)]) hx hb dX5_less_31 hl (k := 0) rfl (nI_add i 1) (by decide) rfl (fun ls hl => ?_)
        refine lv_goto (tgt := 9) hx hb dX5_less_34 rfl ?_
        refine ih (i + 1) H1 _ ls (by omega) (by omega) ?_ (fun q hq => (oq q (Nat.ne_of_lt hq)).trans (ho q hq)) hS hl
        rw [e1, arrV_store, nI_clamp (by omega)]
        refine congrArg some (arrV_alike (fun j hj => ?_))
        unfold updV
        by_cases e : j = i
        · subst e
          simp [hg]
        · by_cases e2 : j < i
          · simp [e, e2, show j < i + 1 by omega]
          · simp [e, e2, show ¬ j < i + 1 by omega]
      refine lv_if_eq (tgt := 28) hx hb dX5_less_19 rfl (fun h => ?_) (fun h => ?_)
      · refine lv_iload_n hx hb dX5_less_28 rfl (lv_at hl 0 rfl) ?_
        exact st i (by omega) (by rw [if_pos h])
      · refine lv_iload_n hx hb dX5_less_22 rfl (lv_at hl 0 rfl) ?_
        refine lv_iconst (v := 1) hx hb dX5_less_23 (by decide) ?_
        refine lv_iadd hx hb dX5_less_24 ?_
        rw [nI_1]
        refine lv_goto (tgt := 29) hx hb dX5_less_25 rfl ?_
        exact st (i + 1) (by omega) (by rw [if_neg h])
  exact loop N 0 H1 [] ls (by omega) z1 (by rw [e1]; exact congrArg some (arrV_alike (fun j _ => by rw [if_neg (by omega)]; rfl))) o1 hS1 hl
