/-! 'more' into a field; 'less' into the carts -/
def pLess (V : gY) (k : Nat) (x : Int32) : gY := pCart (pLoose V (rln V 3 k - 1) (fun j => if x = 0 then V 3 k j else V 3 k (j + 1))) k
section SX
variable {p : Program} {l : Launch} {e : Env} {R : Room} {s : State} {m : MethodId} {args : Array Value} {below : List Frame} {meth : Method} {c : Code} {H : Heap} {locs : List Loc} {cells slots : Nat} {Q : State → Prop}
variable {cc : ByteArray} {pc : Nat} {ls : Array Slot} {rest : List Value} {E : gE} {F : Nat → Prop} {J : Int64} {D : sD} {I : gI} {own : String} {H0 : Heap}
theorem cat_le {rest : List Value} {k : Nat} (h : (rest.map fun v => v.category).sum ≤ k) (a : Nat) : ((Value.ref a :: rest).map fun v => v.category).sum ≤ k + 1 := by
  have e : (Value.ref a).category = 1 := rfl
  simp only [List.map_cons, List.sum_cons]
  omega
theorem s_more {nL index : Nat} (K : kx E p m c cc "HayThievesLaw$Sim" args s) (hAO : va_AOA s) (hA : ∀ q, F q → gN E ≤ q) (hml : c.maxLocals = nL) (hG : LW E F J D I H) (hS : va_S F s.heap H locs) {t : Nat} (ht : 2 ≤ t ∧ t ≤ 5) {q0 : Nat} (hq0 : q0 = cnt (I 5) 9 - 1) (h9 : 0 < cnt (I 5) 9) (hN : cnt (I 5) t < 330) (hlen : t ≠ 3 → rln (I 5) 9 (cnt (I 5) 9 - 1) = rln (I 5) t 0) (hsize : ls.size = nL) (hW : (rest.map fun v => v.category).sum ≤ 6) (hR : 1 ≤ R.frames ∧ 23 ≤ R.locals) (hc : cells + 1 ≤ R.cells ∧ slots + 330 ≤ R.slots)
    (hlink2 : Cond.fieldLink "HayThievesLaw$Sim" index (TX5 t).1 (TX5 t).2.1 (TX5 t).2.2.1 ∈ lw_all) (hfin : (TX5 t).2.2.2 = false) (hd : parseFieldDescriptor (TX5 t).2.2.1 = some (.array (.array .int))) (hdg : decode cc pc = .ok (.invokestatic 49, 3)) (hdg2 : decode cc (pc + 3) = .ok (.putfield index, 3))
    (kk : ∀ (a : Nat) (D1 : sD), D1 = u2 (u2 D 1 t a) t (cnt (I 5) t) (D 9 (cnt (I 5) 9 - 1)) → ∀ I1 : gI, I1 = gset I 5 (pMore (I 5) t) → ∀ (H1 : Heap) (locs1 : List Loc), LW E F J D1 I1 H1 → va_S F s.heap H1 locs1 → W p l e R s m args below meth c H1 locs1 (cells + 1) (slots + 330) Q (F0 m (pc + 6) ls rest)) :
    W p l e R s m args below meth c H locs cells slots Q (F0 m pc ls (.ref (D 9 q0) :: .ref (D 1 t) :: .ref (D 0 0) :: rest)) := by
  have hSt := K.2.2.2.2
  subst hq0
  have hP : moP E H.size (D 1 t) (D 9 (cnt (I 5) 9 - 1)) (cnt (I 5) t) (fun j => D t j) H := ⟨rfl, hG.2.1.c1 ht, fun j hj => ⟨_, _, hG.2.1.cr (by omega) hj⟩, ⟨_, _, hG.2.1.cr (by omega) (by omega : cnt (I 5) 9 - 1 < cnt (I 5) 9)⟩, hN⟩
  have run := s_runS (e := e) (below := below) (meth := meth) (As := [.ref (D 1 t), .ref (D 9 (cnt (I 5) 9 - 1))]) (rest := .ref (D 0 0) :: rest) K hAO hA hml ca_X5_more q544 (m_S_more l E H.size _ _ _ _) hP hS rfl hsize (Nat.le_trans (cat_le hW _) (by omega)) ⟨by omega, by omega⟩ hdg hc
  have hF : F H.size := hG.2.1.2.2.2.1 _ (Nat.le_refl _)
  refine va_callr run hS (fun q h1 h2 => absurd h1 (Nat.not_lt.mpr h2)) (fun q h => hG.2.1.2.2.2.1 q h) (fun _ ra t1 H1 locs1 ht1 hvm _ hB hz hk hS1 => ?_)
  obtain ⟨rfl, hB2⟩ := hB
  rw [ht1] at hB2
  have hold : ∀ q : Nat, q < H.size → H1[q]? = H[q]? := fun q hq => hk q hq (Nat.not_le.mpr hq)
  have hSW : SW E F D (I 5) H1 := hG.2.1.keep hz (fun q hq _ => hold q hq)
  have hLW : LW E F J D I H1 := ⟨hG.1.keep hSt.ok (fun _ _ => rfl) (fun q hq => by
    by_cases h : q < H.size
    · exact hold q h
    · exact absurd hq (hG.2.2 q (hG.2.1.2.2.2.1 q (by omega)))), hSW, hG.2.2⟩
  obtain ⟨hx, hb, hts, hown, -⟩ := id K
  obtain ⟨cell, q1, q2, q3, q4⟩ := hSW.c0
  obtain ⟨hSl, hfc, kC, hkC, hkind⟩ := hSt.K.1 5 _ rfl
  have hk9 : t < 9 := by omega
  obtain ⟨cf, kf, fi, f, hi, hsl⟩ := hSl t hk9
  have hlay := hts _ (in_X5 _ (u_in_lay hk9))
  unfold u_lay at hlay
  rw [if_neg (by rw [hfin]; decide)] at hlay
  have hst := (u_facts hfc hkC (u_lays hts in_X5 hk9) hi).1
  have h6 := u_store hfc hkC hkind hlay hi hd (show narrow (.array (.array .int)) (.ref H.size) = .ref H.size from rfl) (show fits (.array (.array .int)) (.ref H.size) = true from rfl)
  have hap := va_apart (own := RX5) hts in_X5 tyX5 tyX5_ok nmX5 hSt.K (show vwCl[5]? = some (RX5, TX5, 9) from rfl)
  have hF0 := hG.2.1.2.2.1 0 0 (swv0 _)
  refine W.putK hx hb (f := f) ⟨hown, hts _ hlink2, ⟨_, _, _, hi⟩, hst⟩ (by rw [q2]; exact h6) q1 q3 (by rw [hsl]; exact k2_hasslot (q4 t hk9)) rfl rfl hdg2 fun H2 e1 e2 e3 => ?_
  rw [hsl] at e1 ⊢
  have hne : H.size ≠ D 0 0 := Nat.ne_of_gt (hG.2.1.lt (swv0 _))
  refine kk H.size _ rfl _ rfl H2 _ (hLW.to hSt.ok (fun q hf => e3 q (fun z => hf (by rw [z]; exact hF0))) ?_) (hS1.put e2 e3 hF0)
  exact hSW.more ht (by rw [e3 _ hne]; exact hB2) (fun t' i' hv => Nat.ne_of_lt (hG.2.1.lt hv)) hF ⟨_, e1, q2, q3, t_set q4 hap hk9 (.ref H.size)⟩ e2 e3 h9 hN hlen
theorem s_less {nL : Nat} (K : kx E p m c cc "HayThievesLaw$Sim" args s) (hAO : va_AOA s) (hA : ∀ q, F q → gN E ≤ q) (hml : c.maxLocals = nL) (hG : LW E F J D I H) (hS : va_S F s.heap H locs) {k : Nat} {x y : Int32} (hy : y = nI k) (hk : k < cnt (I 5) 3) (h1 : 0 < rln (I 5) 3 k) (h9 : cnt (I 5) 9 < 330) (hsize : ls.size = nL) (hW : (rest.map fun v => v.category).sum ≤ 5) (hR : 1 ≤ R.frames ∧ 23 ≤ R.locals) (hc : cells + 1 ≤ R.cells ∧ slots + 330 ≤ R.slots)
    (hdg : decode cc pc = .ok (.invokestatic 63, 3)) (hdg2 : decode cc (pc + 3) = .ok (.aastore, 1))
    (kk : ∀ (a : Nat) (D1 : sD), (∀ t i, t ≠ 3 → t ≠ 9 → D1 t i = D t i) → (∀ i, i < cnt (I 5) 9 → D1 9 i = D 9 i) → ∀ I1 : gI, I1 = gset I 5 (pLess (I 5) k x) → ∀ (H1 : Heap) (locs1 : List Loc), LW E F J D1 I1 H1 → va_S F s.heap H1 locs1 → W p l e R s m args below meth c H1 locs1 (cells + 1) (slots + 330) Q (F0 m (pc + 4) ls rest)) :
    W p l e R s m args below meth c H locs cells slots Q (F0 m pc ls (.int x :: .ref (D 3 k) :: .int y :: .ref (D 1 3) :: rest)) := by
  have hSt := K.2.2.2.2
  subst hy
  have hb := hG.b
  have hrl := hb.rl 3 k
  have hc3 := hb.cl 3
  have hP : leP E H.size (D 3 k) (rln (I 5) 3 k - 1) (fun j => I 5 3 k j) H := ⟨rfl, by rw [Nat.sub_add_cancel h1]; exact hG.2.1.cr (by omega) hk, by omega⟩
  have run := s_runS (e := e) (below := below) (meth := meth) (As := [.ref (D 3 k), .int x]) (rest := .int (nI k) :: .ref (D 1 3) :: rest) K hAO hA hml ca_X5_less q537 (m_S_less l E H.size _ _ _ _) hP hS rfl hsize (by have e1 : (Value.ref (D 1 3)).category = 1 := rfl; have e2 : (Value.int (nI k)).category = 1 := rfl; simp only [List.map_cons, List.sum_cons]; omega) ⟨by omega, by omega⟩ hdg hc
  have hF : F H.size := hG.2.1.2.2.2.1 _ (Nat.le_refl _)
  refine va_callr run hS (fun q h1 h2 => absurd h1 (Nat.not_lt.mpr h2)) (fun q h => hG.2.1.2.2.2.1 q h) (fun _ ra t1 H1 locs1 ht1 hvm _ hB hz hkk hS1 => ?_)
  obtain ⟨rfl, hB2⟩ := hB
  rw [ht1] at hB2
  have hold : ∀ q : Nat, q < H.size → H1[q]? = H[q]? := fun q hq => hkk q hq (Nat.not_le.mpr hq)
  have hSW : SW E F D (I 5) H1 := hG.2.1.keep hz (fun q hq _ => hold q hq)
  have hL := hSW.loose (a := H.size) hB2 (fun t i hv => Nat.ne_of_lt (hG.2.1.lt hv)) hF (by omega) h9
  have hLW := hG.to (H1 := H1) hSt.ok (fun q hq => by
    by_cases h : q < H.size
    · exact hold q h
    · exact absurd (hG.2.1.2.2.2.1 q (by omega)) hq) hL
  have g5 : ∀ V : gY, gset I 5 V 5 = V := fun V => gset_at I 5 V
  have c9 : ∀ n f, cnt (pLoose (I 5) n f) 9 = cnt (I 5) 9 + 1 := fun n f => by
    show (u3 _ 1 9 0 _ 1 9 0).toNatClampNeg = _
    rw [u3_at, nI_clamp (by omega)]
  have c3 : ∀ n f, cnt (pLoose (I 5) n f) 3 = cnt (I 5) 3 := fun n f => by
    unfold cnt pLoose
    simp [u3_eq, urow_eq]
  have hst := s_cart (p := p) (l := l) (e := e) (R := R) (m := m) (below := below) (meth := meth) (locs := locs1) (cells := cells + 1) (slots := slots + 330) (Q := Q) (pc := pc + 3) (ls := ls) (rest := rest) (x := nI k) K hAO hLW hS1 (by rw [g5, c3]; exact vp_in_nI hk (by omega)) (by rw [g5, c9]; omega) hdg2
  rw [g5, c9, Nat.add_sub_cancel, show u2 D 9 (cnt (I 5) 9) H.size 9 (cnt (I 5) 9) = H.size from if_pos ⟨rfl, rfl⟩, show u2 D 9 (cnt (I 5) 9) H.size 1 3 = D 1 3 from if_neg (by omega), nI_clamp (show k < 2 ^ 31 by omega)] at hst
  refine hst (fun D1 hD1 I1 hI1 H2 locs2 hG2 hS2 => ?_)
  rw [gset_gset] at hI1
  refine kk H.size D1 (fun t i h3 h9 => ?_) (fun i hi => ?_) I1 ?_ H2 locs2 hG2 hS2
  · rw [hD1, u2_eq, if_neg (by omega), u2_eq, if_neg (by omega)]
  · rw [hD1, u2_eq, if_neg (by omega), u2_eq, if_neg (by omega)]
  · rw [hI1]
    rfl
end SX
