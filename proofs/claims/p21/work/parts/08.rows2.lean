/-! more rows: valid keys, lengths, copies of rows, switches -/
theorem gv0 {y : Nat} (h : y < 2) : gv y 0 0 = true := by simp [gv, h]
theorem gv1 {y i : Nat} (h : y < 2) (hi : i < 6) : gv y 1 i = true := by simp [gv, h, hi]
theorem gv2 {y i : Nat} (h : y < 2) (hi : i < 6) : gv y 2 i = true := by simp [gv, h, hi]
theorem gv3 {y i : Nat} (h : y < 2) (hi : i < 6) : gv y 3 i = true := by simp [gv, h, hi]
theorem gv4 {y i : Nat} (h : y < 2) (hi : i < 10) : gv y 4 i = true := by simp [gv, h, hi]
theorem gv5 {y : Nat} (h : y < 2) : gv y 5 0 = true := by simp [gv, h]
theorem gv6 {y : Nat} (h : y < 2) : gv y 6 0 = true := by simp [gv, h]
theorem gv7 {y : Nat} (h : y < 2) : gv y 7 0 = true := by simp [gv, h]
theorem gv8 {y : Nat} (h : y < 2) : gv y 8 0 = true := by simp [gv, h]
theorem gvs {y : Nat} (h : y = 3 ∨ y = 4) (t : Nat) (ht : gv 3 t 0 = true) : gv y t 0 = true := by
  rcases h with rfl | rfl
  · exact ht
  · simpa [gv] using ht
theorem sv_urow {E : gE} {J : Int64} {I : gI} {y t i : Nat} {g : Nat → Int32} (hk : ∀ j, gk t j = true) (hr : t ≠ 1) (y' t' i' j' : Nat) : sv E J (gset I y (urow (I y) t i g)) y' t' i' j' = if y' = y ∧ t' = t ∧ i' = i then .int (g j') else sv E J I y' t' i' j' := by
  by_cases h : y' = y ∧ t' = t ∧ i' = i
  · obtain ⟨rfl, rfl, rfl⟩ := h
    rw [if_pos ⟨rfl, rfl, rfl⟩, sv_int (hk _), gset_at]
    simp [urow]
  · rw [if_neg h]
    have e : ∀ a b d, ¬ (a = y ∧ b = t ∧ d = i) → ∀ j, gset I y (urow (I y) t i g) a b d j = I a b d j := by
      intro a b d hn j
      by_cases hy : a = y
      · subst hy
        rw [gset_at]
        unfold urow
        rw [if_neg]
        intro q
        exact hn ⟨rfl, q⟩
      · rw [gset_ne I _ hy]
    unfold sv
    rw [e _ _ _ h]
    have e2 : grf E (gset I y (urow (I y) t i g)) y' t' i' j' = grf E I y' t' i' j' := by
      unfold grf
      split <;> try rfl
      rw [e _ _ _ (fun q => hr q.2.1.symm)]
    rw [e2]
section GR2
variable {p : Program} {l : Launch} {e : Env} {R : Room} {s : State} {m : MethodId} {args : Array Value} {below : List Frame} {meth : Method} {c : Code} {H : Heap} {locs : List Loc} {cells slots : Nat} {Q : State → Prop}
variable {cc : ByteArray} {pc : Nat} {ls : Array Slot} {rest : List Value} {E : gE} {J : Int64} {I : gI} {own : String} {H0 : Heap}
theorem g_alen (K : kx E p m c cc own args s) (hG : GW E J I H) {y t i a n : Nat} {ty : FieldType} (hv : gv y t i = true) (hs : sh t = .inr (a, n)) (hty : (gtys E)[a]? = some (E.2.1 a, ty)) {v : Int32} (hn : Int32.ofNat n = v) (hdg : decode cc pc = .ok (.arraylength, 1))
    (kk : W p l e R s m args below meth c H locs cells slots Q (F0 m (pc + 1) ls (.int v :: rest))) : W p l e R s m args below meth c H locs cells slots Q (F0 m pc ls (.ref (gA E y t i) :: rest)) := by
  have h0 := hG y t i hv
  rw [hs] at h0
  exact W.alen (n := v) K.1 K.2.1 h0 (gtys_at K.2.2.2.2 (k := a) hty n _) (by rw [arrV_size]; exact hn) rfl rfl hdg kk
theorem g_copy (K : kx E p m c cc own args s) (hml : c.maxLocals = ls.size) {index : Nat} (hlink : Cond.methodLink own index arraycopyName ∈ lw_all) (hG : GW E J I H) (hS : va_S (gF E) H0 H locs) {ys ts is y t i a n0 n1 : Nat} {ty : FieldType} (hv0 : gv ys ts is = true) (hv1 : gv y t i = true) (hs0 : sh ts = .inr (a, n0)) (hs1 : sh t = .inr (a, n1)) (hk0 : ∀ j, gk ts j = true) (hk1 : ∀ j, gk t j = true) (ht1 : t ≠ 1) (hty : (gtys E)[a]? = some (E.2.1 a, ty)) (hprim : refKind ty = false)
    {sp dp n : Int32} (h1 : ¬ sp < 0) (h2 : ¬ dp < 0) (h3 : ¬ n < 0) (h4 : sp.toNatClampNeg + n.toNatClampNeg ≤ n0) (h5 : dp.toNatClampNeg + n.toNatClampNeg ≤ n1) (hfit : ∀ i, i < n.toNatClampNeg → fits ty (.int (I ys ts is (sp.toNatClampNeg + i))) = true)
    (hframes : 1 ≤ R.frames) (hlocals : (rest.map fun v => v.category).sum + (nativeFrameWords "java/lang/System" "arraycopy" 5 + 11) ≤ R.locals) (hdg : decode cc pc = .ok (.invokestatic index, 3))
    (kk : ∀ I' : gI, I' = gset I y (urow (I y) t i (va_cpy (I ys ts is) (I y t i) sp.toNatClampNeg dp.toNatClampNeg n.toNatClampNeg)) → ∀ (H1 : Heap) (locs1 : List Loc), GW E J I' H1 → va_S (gF E) H0 H1 locs1 → W p l e R s m args below meth c H1 locs1 cells slots Q (F0 m (pc + 3) ls rest)) : W p l e R s m args below meth c H locs cells slots Q (F0 m pc ls (.int n :: .int dp :: .ref (gA E y t i) :: .int sp :: .ref (gA E ys ts is) :: rest)) := by
  have nn : ∀ z : Int32, ¬ z < 0 → z.toInt = (z.toNatClampNeg : Int) := by
    intro z hz
    have hz0 : (0 : Int) ≤ z.toInt := by
      have := Int32.not_lt.mp hz
      simpa using Int32.le_iff_toInt_le.mp this
    show z.toInt = ((z.toInt.toNat : Nat) : Int)
    omega
  obtain ⟨hexec, hb, hts, hown, hSt⟩ := id K
  intro T hT X
  have hc0 := hG ys ts is hv0
  rw [hs0] at hc0
  have hc1 := hG y t i hv1
  rw [hs1] at hc1
  have e0 : arrV (E.2.1 a) n0 (sv E J I ys ts is) = arrV (E.2.1 a) n0 (fun j => .int (I ys ts is j)) := by
    congr 1
    funext j
    exact sv_int (hk0 j)
  have e1 : arrV (E.2.1 a) n1 (sv E J I y t i) = arrV (E.2.1 a) n1 (fun j => .int (I y t i j)) := by
    congr 1
    funext j
    exact sv_int (hk1 j)
  replace hc0 : H[gA E ys ts is]? = some (arrV (E.2.1 a) n0 (fun j => .int (I ys ts is j))) := by rw [← e0]; exact hc0
  replace hc1 : H[gA E y t i]? = some (arrV (E.2.1 a) n1 (fun j => .int (I y t i j))) := by rw [← e1]; exact hc1
  obtain ⟨-, k0, hk0', cm0, hkk0⟩ := gtys_at hSt (k := a) hty n0 (fun j => .int (I ys ts is j))
  obtain ⟨-, k1, hk1', cm1, hkk1⟩ := gtys_at hSt (k := a) hty n1 (fun j => .int (I y t i j))
  obtain ⟨vm', X', step⟩ := X.arraycopy hexec hown (hts _ hlink) (hts _ q456) (hts _ q455) (hts _ q13) (src := gA E ys ts is) (dst := gA E y t i) (cs := arrV (E.2.1 a) n0 (fun j => .int (I ys ts is j))) (cd := arrV (E.2.1 a) n1 (fun j => .int (I y t i j))) (srcPos := sp) (destPos := dp) (n := n) (by rw [hT]; exact hc0) (by rw [hT]; exact hc1)
    (fun _ h => by cases h) (fun _ h => by cases h) (fun h => by cases h) (fun h => by cases h) hk0' hk1' hkk0 hkk1 (by simp [hprim]) h1 h2 h3
    (by rw [nn sp h1, nn n h3]; rw [arrV_size]; omega)
    (by rw [nn dp h2, nn n h3]; rw [arrV_size]; omega)
    (fun vm₁ _ k hk => by
      have e : (arrV (E.2.1 a) n0 (fun j => Value.int (I ys ts is j))).slots.getD (sp.toNatClampNeg + k) .null = .int (I ys ts is (sp.toNatClampNeg + k)) := by
        rw [Array.getD_eq_getD_getElem?, arrV_read _ _ (by omega)]
        rfl
      refine ⟨?_, ?_⟩
      · rw [e]
        exact hfit k hk
      · rw [e]
        exact trivial)
    (g := F0 m pc ls (.int n :: .int dp :: .ref (gA E y t i) :: .int sp :: .ref (gA E ys ts is) :: rest)) rfl (by rw [hml]) (rest := rest) rfl (by rw [hb]; exact hdg) hframes (by show 2 * 0 + _ + _ ≤ _; omega)
  have e2 : copied (arrV (E.2.1 a) n0 (fun j => Value.int (I ys ts is j))) (arrV (E.2.1 a) n1 (fun j => Value.int (I y t i j))) sp dp n = arrV (E.2.1 a) n1 (fun j => .int (va_cpy (I ys ts is) (I y t i) sp.toNatClampNeg dp.toNatClampNeg n.toNatClampNeg j)) := va_copied (fun z => .int z) _ _ _ _ h4
  rw [e2] at X' step
  have hl : gA E y t i < H.size := (Array.getElem?_eq_some_iff.mp hc1).1
  have hheap : ((T.setVm vm').setCell (gA E y t i) (arrV (E.2.1 a) n1 (fun j => .int (va_cpy (I ys ts is) (I y t i) sp.toNatClampNeg dp.toNatClampNeg n.toNatClampNeg j)))).heap = H.setIfInBounds (gA E y t i) (arrV (E.2.1 a) n1 (fun j => .int (va_cpy (I ys ts is) (I y t i) sp.toNatClampNeg dp.toNatClampNeg n.toNatClampNeg j))) := by rw [← hT]; rfl
  have oq : ∀ q : Nat, q ≠ gA E y t i → (H.setIfInBounds (gA E y t i) (arrV (E.2.1 a) n1 (fun j => .int (va_cpy (I ys ts is) (I y t i) sp.toNatClampNeg dp.toNatClampNeg n.toNatClampNeg j))))[q]? = H[q]? := fun q hq => by simp [Array.getElem?_setIfInBounds, Ne.symm hq]
  have hI := sv_urow (E := E) (J := J) (I := I) (y := y) (t := t) (i := i) (g := va_cpy (I ys ts is) (I y t i) sp.toNatClampNeg dp.toNatClampNeg n.toNatClampNeg) hk1 ht1
  obtain ⟨t2, a1, b1⟩ := kk _ rfl _ _ (hG.put hSt.ok hv1 (by
      rw [hs1]
      show (H.setIfInBounds (gA E y t i) _)[gA E y t i]? = some (arrV _ _ _)
      rw [Array.getElem?_setIfInBounds, if_pos rfl, if_pos hl]
      congr 2
      funext j
      rw [hI, if_pos ⟨rfl, rfl, rfl⟩]) oq (fun y' t' i' j' hn => by rw [hI, if_neg hn])) ⟨by simp; exact hS.1, fun q g1 g2 => by
      rw [oq q (fun e => g2 (by rw [e]; exact gA_in hSt hv1))]
      exact hS.2.1 q g1 g2, fun q hq => by
      rcases List.mem_append.mp hq with h | h
      · exact hS.2.2 q h
      · obtain ⟨z, -, hz⟩ := List.mem_map.mp h
        rw [← hz]
        exact gA_in hSt hv1⟩ _ hheap X'
  exact ⟨t2, step t2 a1, b1⟩
end GR2
theorem gfitZ {x : Int32} (hx : x = 0 ∨ x = 1) : fits .boolean (.int x) = true := by
  rcases hx with rfl | rfl <;> rfl
theorem gnarZ {x : Int32} (hx : x = 0 ∨ x = 1) : narrow .boolean (.int x) = .int x := by
  rcases hx with rfl | rfl <;> rfl
theorem gvpZ {x : Int32} (hx : x = 0 ∨ x = 1) : vp_nar .boolean x = x := by
  rcases hx with rfl | rfl <;> rfl
theorem gz0 : (0 : Int32) = 0 ∨ (0 : Int32) = 1 := Or.inl rfl
theorem gz1 : (1 : Int32) = 0 ∨ (1 : Int32) = 1 := Or.inr rfl

/-! the yards' shape: what their code needs to stay within -/
def isN (x : Int32) (b : Nat) : Prop := x.toNatClampNeg ≤ b ∧ x = nI x.toNatClampNeg
def wf (Z : gY) : Prop := isN (Z 0 0 4) 6 ∧ isN (Z 0 0 5) 10 ∧ (∀ i, i < 6 → (Z 1 i 3).toNatClampNeg < 6) ∧ (∀ c, c < 6 → isN (Z 2 c 1) 8) ∧ ∀ i, i < 6 → Z 1 i 0 = nI i
theorem wf.N {Z : gY} (h : wf Z) : (Z 0 0 4).toNatClampNeg ≤ 6 := h.1.1
theorem wf.Ne {Z : gY} (h : wf Z) : Z 0 0 4 = nI (Z 0 0 4).toNatClampNeg := h.1.2
theorem wf.M {Z : gY} (h : wf Z) : (Z 0 0 5).toNatClampNeg ≤ 10 := h.2.1.1
theorem wf.Me {Z : gY} (h : wf Z) : Z 0 0 5 = nI (Z 0 0 5).toNatClampNeg := h.2.1.2
theorem wf.cart {Z : gY} (h : wf Z) {i : Nat} (hi : i < 6) : (Z 1 i 3).toNatClampNeg < 6 := h.2.2.1 i hi
theorem wf.size {Z : gY} (h : wf Z) {c : Nat} (hc : c < 6) : (Z 2 c 1).toNatClampNeg ≤ 8 := (h.2.2.2.1 c hc).1
theorem wf.sizeE {Z : gY} (h : wf Z) {c : Nat} (hc : c < 6) : Z 2 c 1 = nI (Z 2 c 1).toNatClampNeg := (h.2.2.2.1 c hc).2
theorem wf.num {Z : gY} (h : wf Z) {i : Nat} (hi : i < 6) : Z 1 i 0 = nI i := h.2.2.2.2 i hi
/-- the slots that wf speaks of -/
def wfP (t j : Nat) : Bool := (t == 0 && (j == 4 || j == 5)) || (t == 1 && (j == 3 || j == 0)) || (t == 2 && j == 1)
theorem wf_ext {Z Z' : gY} (h : wf Z) (e : ∀ t' i' j', wfP t' j' = true → Z' t' i' j' = Z t' i' j') : wf Z' := by
  obtain ⟨h1, h2, h3, h4, h5⟩ := h
  refine ⟨?_, ?_, fun i hi => ?_, fun c hc => ?_, fun i hi => ?_⟩
  · rw [e _ _ _ rfl]; exact h1
  · rw [e _ _ _ rfl]; exact h2
  · rw [e _ _ _ rfl]; exact h3 i hi
  · rw [e _ _ _ rfl]; exact h4 c hc
  · rw [e _ _ _ rfl]; exact h5 i hi
theorem wf_u3 {Z : gY} {t i j : Nat} {x : Int32} (hp : wfP t j = false) (h : wf Z) : wf (u3 Z t i j x) := by
  refine wf_ext h (fun t' i' j' h' => ?_)
  unfold u3
  rw [if_neg]
  rintro ⟨rfl, -, rfl⟩
  rw [hp] at h'
  cases h'
theorem gU_at (I : gI) (y t i j : Nat) (x : Int32) : gU I y t i j x y = u3 (I y) t i j x := gset_at _ _ _
theorem gU_ne (I : gI) {y y' : Nat} (t i j : Nat) (x : Int32) (h : y' ≠ y) : gU I y t i j x y' = I y' := gset_ne _ _ h
theorem gR_at (I : gI) (y t i : Nat) (g : Nat → Int32) : gR I y t i g y = urow (I y) t i g := gset_at _ _ _
theorem gR_ne (I : gI) {y y' : Nat} (t i : Nat) (g : Nat → Int32) (h : y' ≠ y) : gR I y t i g y' = I y' := gset_ne _ _ h
theorem wf_gU {I : gI} {y t i j : Nat} {x : Int32} (hp : wfP t j = false) (h : wf (I y)) : wf (gU I y t i j x y) := by
  rw [gU_at]; exact wf_u3 hp h
theorem wf_other {I : gI} {y y' t i j : Nat} {x : Int32} (hn : y' ≠ y) (h : wf (I y')) : wf (gU I y t i j x y') := by
  rw [gU_ne _ _ _ _ _ hn]; exact h
theorem wf_gR {I : gI} {y t i : Nat} {g : Nat → Int32} (ht : 3 ≤ t) (h : wf (I y)) : wf (gR I y t i g y) := by
  rw [gR_at]
  refine wf_ext h (fun t' i' j' h' => ?_)
  unfold urow
  rw [if_neg]
  rintro ⟨rfl, -⟩
  simp only [wfP, Bool.or_eq_true, Bool.and_eq_true, beq_iff_eq] at h'
  omega
theorem wf_otherR {I : gI} {y y' t i : Nat} {g : Nat → Int32} (hn : y' ≠ y) (h : wf (I y')) : wf (gR I y t i g y') := by
  rw [gR_ne _ _ _ _ hn]; exact h
/-- a cart's size grows, or falls -/
theorem wf_size {I : gI} {y c : Nat} {x : Int32} (hx : isN x 8) (h : wf (I y)) : wf (gU I y 2 c 1 x y) := by
  rw [gU_at]
  obtain ⟨h1, h2, h3, h4, h5⟩ := h
  refine ⟨h1, h2, h3, fun d hd => ?_, h5⟩
  unfold u3
  by_cases e : d = c
  · subst e
    simpa using hx
  · rw [if_neg (by rintro ⟨-, q, -⟩; exact e q)]
    exact h4 d hd
theorem isN_nI {k b : Nat} (h : k ≤ b) (hb : b < 2 ^ 31) : isN (nI k) b := by
  have e : (nI k).toNatClampNeg = k := nI_clamp (by omega)
  exact ⟨by rw [e]; exact h, by rw [e]⟩
theorem vp_lt {x : Int32} {n : Nat} (h : vp_in x n) : x.toNatClampNeg < n := Nat.not_le.mp fun q => h (Or.inr q)
theorem gin0 {n : Nat} (h : 0 < n) (hn : n < 2 ^ 31) : vp_in 0 n := vp_in_nI (n := 0) h hn
/-- loops' ends -/
theorem lp_ge {x : Int32} {N i : Nat} (hx : x = nI N) (hN : N < 2 ^ 31) (h : i + 0 = N) : x ≤ nI i := by
  rw [hx, show i = N by omega]
  exact nI_le (Nat.le_refl _) hN
theorem lp_nge {x : Int32} {N i n : Nat} (hx : x = nI N) (hN : N < 2 ^ 31) (h : i + (n + 1) = N) : ¬ x ≤ nI i := by
  rw [hx]
  exact nI_ge (by omega) hN
theorem gA_eq {E : gE} {s : State} (hSt : gS E s) {y t i y' t' i' : Nat} (h : gv y t i = true) (h' : gv y' t' i' = true) (q : some (gA E y t i) = some (gA E y' t' i')) : i = i' := (hSt.ok.1 _ _ _ _ _ _ h h' (Option.some.inj q)).2.2
theorem gA_ne {E : gE} {y t i i' : Nat} (q : ¬ some (gA E y t i) = some (gA E y t i')) : ¬ i = i' := fun z => q (by rw [z])
theorem gtoInt_ne {x : Int32} {k : Int32} (h : ¬ x = k) : x.toInt ≠ k.toInt := fun q => h (Int32.toInt_inj.mp q)
theorem gsw_0_7 {x : Int32} (h0 : ¬ x = 0) (h1 : ¬ x = 1) (h2 : ¬ x = 2) (h3 : ¬ x = 3) (h4 : ¬ x = 4) (h5 : ¬ x = 5) (h6 : ¬ x = 6) (h7 : ¬ x = 7) : x.toInt < 0 ∨ 7 < x.toInt := by
  have := gtoInt_ne h0; have := gtoInt_ne h1; have := gtoInt_ne h2; have := gtoInt_ne h3; have := gtoInt_ne h4; have := gtoInt_ne h5; have := gtoInt_ne h6; have := gtoInt_ne h7
  simp at *
  omega
theorem gsw_0_5 {x : Int32} (h0 : ¬ x = 0) (h1 : ¬ x = 1) (h2 : ¬ x = 2) (h3 : ¬ x = 3) (h4 : ¬ x = 4) (h5 : ¬ x = 5) : x.toInt < 0 ∨ 5 < x.toInt := by
  have := gtoInt_ne h0; have := gtoInt_ne h1; have := gtoInt_ne h2; have := gtoInt_ne h3; have := gtoInt_ne h4; have := gtoInt_ne h5
  simp at *
  omega
theorem gsw_0_11 {x : Int32} (h0 : ¬ x = 0) (h1 : ¬ x = 1) (h2 : ¬ x = 2) (h3 : ¬ x = 3) (h4 : ¬ x = 4) (h5 : ¬ x = 5) (h6 : ¬ x = 6) (h7 : ¬ x = 7) (h8 : ¬ x = 8) (h9 : ¬ x = 9) (h10 : ¬ x = 10) (h11 : ¬ x = 11) : x.toInt < 0 ∨ 11 < x.toInt := by
  have := gtoInt_ne h0; have := gtoInt_ne h1; have := gtoInt_ne h2; have := gtoInt_ne h3; have := gtoInt_ne h4; have := gtoInt_ne h5; have := gtoInt_ne h6; have := gtoInt_ne h7
  have := gtoInt_ne h8; have := gtoInt_ne h9; have := gtoInt_ne h10; have := gtoInt_ne h11
  simp at *
  omega
