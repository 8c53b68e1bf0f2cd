/-! WHAT IS TOLD: both sides alike -/
theorem zq_doing {I : gI} {A : zN} {y K i : Nat} (hc : zCL A (I y)) (hi : zIV K A) (hn : i < A 0 0 0) : f_X1_doing I y i = nI (A 1 i 0) := by
  have h1 := hi.k1
  have h2 := hi.k2 i (by omega)
  have hw : i < A 0 0 3 := by omega
  unfold f_X1_doing
  rw [hc.k10 i hw, hc.k9 i hw, hc.k7 i hw]
  rcases (show A 1 i 0 = 0 ∨ A 1 i 0 = 1 ∨ A 1 i 0 = 2 ∨ A 1 i 0 = 3 by omega) with e | e | e | e
  · rw [e]; rfl
  · have hq := hi.k9 i (by omega) (Or.inl e)
    have hg := hi.g320 hq
    rw [e, if_neg (show ¬ 1 = 3 by decide), if_pos rfl, if_neg (show ¬ 1 = 2 by decide), if_pos rfl, if_pos rfl, if_neg (zn_m1 (by omega))]
    rfl
  · have hq := hi.k9 i (by omega) (Or.inr e)
    have hg := hi.g320 hq
    rw [e, if_neg (show ¬ 2 = 3 by decide), if_pos rfl, if_pos rfl, if_neg (zn_m1 (by omega))]
    rfl
  · rw [e, if_pos rfl, if_neg (by decide)]
    rfl
theorem zq_load {I : gI} {A : zN} {y K i : Nat} (hc : zCL A (I y)) (hi : zIV K A) (hn : i < A 0 0 0) : f_X1_loadAtWork I y i = if A 1 i 0 = 1 ∨ A 1 i 0 = 2 then nI (A 4 (A 1 i 1) 0 / 32) else -1 := by
  have h1 := hi.k1
  have h2 := hi.k2 i (by omega)
  have hw : i < A 0 0 3 := by omega
  unfold f_X1_loadAtWork
  rw [hc.k9 i hw, hc.k7 i hw]
  rcases (show A 1 i 0 = 1 ∨ A 1 i 0 = 2 ∨ (A 1 i 0 ≠ 1 ∧ A 1 i 0 ≠ 2) by omega) with e | e | ⟨e1, e2⟩
  · have hq := hi.k9 i (by omega) (Or.inl e)
    have hg := hi.g320 hq
    rw [e, if_pos rfl, if_neg (zn_m1 (by omega)), zc_div (by omega), if_pos (Or.inl rfl)]
  · have hq := hi.k9 i (by omega) (Or.inr e)
    have hg := hi.g320 hq
    rw [e, if_neg (show ¬ 2 = 1 by decide), if_pos rfl, if_pos rfl, if_neg (zn_m1 (by omega)), zc_div (by omega), if_pos (Or.inr rfl)]
  · rw [if_neg e1, if_neg e2, if_pos rfl, if_pos rfl, if_neg (fun q => q.elim e1 e2)]
theorem zr_load {J : gI} {A : zN} {K i : Nat} (hr : zRF A (J 2) (J 3)) (hi : zIV K A) (hn : i < A 0 0 0) : f_X6_loadOf J (nI i) = (if A 1 i 0 = 1 ∨ A 1 i 0 = 2 then nI (A 4 (A 1 i 1) 0 / 32) else -1) ∧ ok_X6_loadOf J (nI i) := by
  have h1 := hi.k1
  have h2 := hi.k2 i (by omega)
  have hw : i < A 0 0 3 := by omega
  have c25 : ∀ d, d < 4 → (J 3 25 0 i = nI d ↔ A 1 i 0 = d) := fun d hd => by rw [hr.k4 i (by omega)]; exact nI_eq (by omega) (by omega)
  have c1 : J 3 25 0 i = 1 ↔ A 1 i 0 = 1 := c25 1 (by decide)
  have c2 : J 3 25 0 i = 2 ↔ A 1 i 0 = 2 := c25 2 (by decide)
  unfold f_X6_loadOf ok_X6_loadOf
  rw [nI_clamp (by omega)]
  by_cases e : A 1 i 0 = 1 ∨ A 1 i 0 = 2
  · have hq := hi.k9 i (by omega) e
    have q3 := hi.q600 hq
    have e26 := hr.k5 i hw e
    have e42 := hr.k17 _ hq
    rw [e26, nI_clamp (by omega), e42, if_pos e]
    refine ⟨?_, vp_in_nI (by omega) (by decide), fun _ => ⟨vp_in_nI (by omega) (by decide), trivial⟩, fun _ => ⟨fun _ => ⟨vp_in_nI (by omega) (by decide), trivial⟩, fun _ => trivial⟩⟩
    rcases e with e | e
    · rw [if_pos (c1.mpr e)]
    · rw [if_pos (c2.mpr e)]
      split <;> rfl
  · have n1 : ¬ J 3 25 0 i = 1 := fun q => e (Or.inl (c1.mp q))
    have n2 : ¬ J 3 25 0 i = 2 := fun q => e (Or.inr (c2.mp q))
    rw [if_neg n1, if_neg n2, if_neg e]
    exact ⟨rfl, vp_in_nI (by omega) (by decide), fun q => absurd q n1, fun _ => ⟨fun q => absurd q n2, fun _ => trivial⟩⟩
/-- what lad() tells -/
theorem zT_lad {I J : gI} {A : zN} {K i : Nat} (h : zR 6 K A (I 0) (J 2) (J 3)) (hn : i < A 0 0 0) (b : Int32) : f_X1_tell I 0 i b = f_X6_ladTold J (nI i) b ∧ ok_X6_ladTold J (nI i) b := by
  have hi := h.2.2.2
  have hc := h.1
  have hr := h.2.1
  have he := h.2.2.1
  have h1 := hi.k1
  have h2 := hi.k2 i (by omega)
  have hw : i < A 0 0 3 := by omega
  obtain ⟨l1, l2⟩ := zr_load hr hi hn
  have ci : (nI i).toNatClampNeg = i := nI_clamp (by omega)
  have v6 : vp_in (nI i) 6 := vp_in_nI (by omega) (by decide)
  have e4 : I 0 1 i 5 = if J 3 25 0 i = 1 then J 3 41 0 (J 3 26 0 i).toNatClampNeg else 0 := by
    rw [hc.k8 i hw, hr.k4 i (by omega)]
    by_cases e : A 1 i 0 = 1
    · have hq := hi.k9 i (by omega) (Or.inl e)
      have q3 := hi.q600 hq
      rw [if_pos e, e, if_pos (show nI 1 = 1 from rfl), hr.k5 i hw (Or.inl e), nI_clamp (by omega), hr.k16 _ hq]
    · rw [if_neg e, if_neg (show ¬ nI (A 1 i 0) = 1 from fun q => e ((nI_eq (b := 1) (by omega) (by decide)).mp q))]
  have o4 : J 3 25 0 i = 1 → vp_in (J 3 26 0 i) 600 := by
    intro q
    rw [hr.k4 i (by omega)] at q
    have e : A 1 i 0 = 1 := (nI_eq (b := 1) (by omega) (by decide)).mp q
    have hq := hi.k9 i (by omega) (Or.inl e)
    have q3 := hi.q600 hq
    rw [hr.k5 i hw (Or.inl e)]
    exact vp_in_nI (by omega) (by decide)
  refine ⟨?_, ?_⟩
  · unfold f_X1_tell f_X6_ladTold
    rw [ci, zq_doing hc hi hn, zq_load hc hi hn, l1, hc.cart hi (by omega), hc.k5 i hw, hr.k6 i hw, hc.k12 i hn, hr.k8 i hn, hc.k11 i hw, hr.k9 i hw, hc.k13 i hw, hr.k10 i hw, he.k6 i hw, he.k5 i hw, e4, hr.k4 i (by omega)]
  · unfold ok_X6_ladTold
    rw [ci]
    exact ⟨fun _ => ⟨v6, trivial⟩, fun _ => ⟨fun _ => ⟨v6, trivial⟩, fun _ => ⟨fun _ => ⟨v6, trivial⟩, fun _ => ⟨fun _ => ⟨v6, trivial⟩, fun _ => ⟨fun _ => ⟨v6, fun q => ⟨o4 q, trivial⟩, fun _ => trivial⟩, fun _ => ⟨fun _ => ⟨v6, trivial⟩, fun _ => ⟨fun _ => ⟨v6, trivial⟩, fun _ => ⟨fun _ => ⟨v6, trivial⟩, fun _ => ⟨l2, trivial⟩⟩⟩⟩⟩⟩⟩⟩⟩
/-- what load() tells -/
theorem zT_load {I J : gI} {A : zN} {K j : Nat} (h : zR 6 K A (I 0) (J 2) (J 3)) (hj : j < A 0 0 1) (b : Int32) : f_X2_tell I 0 j b = f_X6_loadTold J (nI j) b ∧ ok_X6_loadTold J (nI j) b := by
  have hi := h.2.2.2
  have hc := h.1
  have hr := h.2.1
  have he := h.2.2.1
  have h1 := hi.k1
  have hv : j < A 0 0 4 := by omega
  have v10 : vp_in (nI j) 10 := vp_in_nI (by omega) (by decide)
  refine ⟨?_, ?_⟩
  · unfold f_X2_tell f_X6_loadTold
    rw [nI_clamp (by omega), hc.k16 j hj, hr.k14 j hj, hc.k14 j hv, hr.k12 j hj, he.k9 j hj, he.k10 j hv, he.k7 j hj, he.k8 j hj, hc.k15 j hv, hr.k11 j hv]
  · exact ⟨fun _ => ⟨v10, trivial⟩, fun _ => ⟨fun _ => ⟨v10, trivial⟩, fun _ => ⟨fun _ => ⟨v10, trivial⟩, fun _ => ⟨fun _ => ⟨v10, trivial⟩, fun _ => ⟨fun _ => ⟨v10, trivial⟩, fun _ => ⟨fun _ => ⟨v10, trivial⟩, fun _ => ⟨v10, trivial⟩⟩⟩⟩⟩⟩⟩
/-- the sums' loops -/
theorem zq_that {I J : gI} {y z : Nat} (x : Int32) : ∀ m i a, (∀ j, i ≤ j → j < i + m → I y 4 j 1 = J z 33 0 j) → f_X3_loadsThatAre_l1 y x m i a I = f_X6_loadsThat_l1 z x m i a J ∧ ok_f_X6_loadsThat_l1 z x m i a J := by
  intro m
  induction m with
  | zero => intro i a _; exact ⟨rfl, trivial⟩
  | succ m ih =>
    intro i a h
    have e := h i (by omega) (by omega)
    have g1 := ih (i + 1) (a + 1) (fun j p q => h j (by omega) (by omega))
    have g2 := ih (i + 1) a (fun j p q => h j (by omega) (by omega))
    simp only [f_X3_loadsThatAre_l1, f_X6_loadsThat_l1, ok_f_X6_loadsThat_l1, e, Int32.add_zero]
    refine ⟨?_, fun _ => g1.2, fun _ => g2.2⟩
    rw [g1.1, g2.1]
theorem zq_sum {I J : gI} {y z t : Nat} (x : Int32) : ∀ m i a, (∀ j, i ≤ j → j < i + m → f_X1_tell I y j x = J z t 0 j) → f_X3_sumOverLads_l1 y x m i a I = f_X6_sumOf_l1 z t m i a J ∧ ok_f_X6_sumOf_l1 z t m i a J := by
  intro m
  induction m with
  | zero => intro i a _; exact ⟨rfl, trivial⟩
  | succ m ih =>
    intro i a h
    have e := h i (by omega) (by omega)
    have g1 := ih (i + 1) (a + J z t 0 i) (fun j p q => h j (by omega) (by omega))
    simp only [f_X3_sumOverLads_l1, f_X6_sumOf_l1, ok_f_X6_sumOf_l1, e]
    exact g1
theorem zq_sleep {I J : gI} {y z : Nat} : ∀ m i a, (∀ j, i ≤ j → j < i + m → (I y 1 j 7 = 0 ↔ ¬ J z 25 0 j = 3)) → f_X3_sleepers_l1 y m i a I = f_X6_sleepers_l1 z m i a J ∧ ok_f_X6_sleepers_l1 z m i a J := by
  intro m
  induction m with
  | zero => intro i a _; exact ⟨rfl, trivial⟩
  | succ m ih =>
    intro i a h
    have e := h i (by omega) (by omega)
    have g1 := ih (i + 1) (a + 1) (fun j p q => h j (by omega) (by omega))
    have g2 := ih (i + 1) a (fun j p q => h j (by omega) (by omega))
    simp only [f_X3_sleepers_l1, f_X6_sleepers_l1, ok_f_X6_sleepers_l1, Int32.add_zero]
    refine ⟨?_, fun _ => g1.2, fun _ => g2.2⟩
    by_cases q : J z 25 0 i = 3
    · rw [if_pos q, if_neg (fun p => (e.mp p) q), g1.1]
    · rw [if_neg q, if_pos (e.mpr q), g2.1]
theorem zq_nat {f : Nat → Nat} {g : Nat → Int32} : ∀ m i (a : Nat), (∀ j, i ≤ j → j < i + m → g j = nI (f j)) → a = zsm f i → ∀ {F : Nat → Nat → Int32 → Int32}, (∀ i a, F 0 i a = a) → (∀ m i a, F (m + 1) i a = F m (i + 1) (a + g i)) → F m i (nI a) = nI (zsm f (i + m)) := by
  intro m
  induction m with
  | zero => intro i a _ h F f0 f1; rw [f0, h]; rfl
  | succ m ih =>
    intro i a h ha F f0 f1
    rw [f1, h i (by omega) (by omega), nI_add, ih (i + 1) (a + f i) (fun j p q => h j (by omega) (by omega)) (by rw [ha]; rfl) f0 f1]
    congr 2
    omega
/-- what count() tells; b: is the model's own fork size the yard's? (asked of the last answer alone) -/
theorem zT_count {I J : gI} {A : zN} {y z K : Nat} (h : zR 6 K A (I y) (J 2) (J z)) (hf : J 2 11 0 7 = nI (A 0 0 6)) (x : Int32) : f_X3_tell I y x = f_X6_counted J z x ∧ ok_X6_counted J z x := by
  have hi := h.2.2.2
  have hc := h.1
  have hr := h.2.1
  have he := h.2.2.1
  have h1 := hi.k1
  have c1 : (I y 0 0 4).toNatClampNeg = A 0 0 0 := by rw [hc.k1, nI_clamp (by omega)]
  have c2 : (I y 0 0 5).toNatClampNeg = A 0 0 1 := by rw [hc.k2, nI_clamp (by omega)]
  have d1 : (J 2 11 0 1).toNatClampNeg = A 0 0 0 := by rw [hr.k1, nI_clamp (by omega)]
  have d2 : (J 2 11 0 4).toNatClampNeg = A 0 0 1 := by rw [hr.k2, nI_clamp (by omega)]
  have i6 : isN (J 2 11 0 1) 6 := by rw [hr.k1]; exact isN_nI (by omega) (by decide)
  have i10 : isN (J 2 11 0 4) 10 := by rw [hr.k2]; exact isN_nI (by omega) (by decide)
  have that : ∀ s, f_X3_loadsThatAre I y s = f_X6_loadsThat J z s ∧ ok_X6_loadsThat J z s := by
    intro s
    have g := zq_that (I := I) (J := J) (y := y) (z := z) s (A 0 0 1) 0 0 (fun j _ q => by rw [hc.k14 j (by omega), hr.k12 j (by omega)])
    unfold f_X3_loadsThatAre f_X6_loadsThat ok_X6_loadsThat
    rw [c2, d2]
    exact ⟨g.1, i10, g.2⟩
  have sum2 : f_X3_sumOverLads I y 2 = f_X6_sumOf J z 31 ∧ ok_X6_sumOf J z 31 := by
    have g := zq_sum (I := I) (J := J) (y := y) (z := z) (t := 31) 2 (A 0 0 0) 0 0 (fun j _ q => by
      unfold f_X1_tell
      rw [if_neg (by decide), if_neg (by decide), if_pos rfl, hc.cart hi (by omega), hc.k5 j (by omega), hr.k6 j (by omega)])
    unfold f_X3_sumOverLads f_X6_sumOf ok_X6_sumOf
    rw [c1, d1]
    exact ⟨g.1, i6, g.2⟩
  have sum7 : f_X3_sumOverLads I y 7 = f_X6_sumOf J z 30 ∧ ok_X6_sumOf J z 30 := by
    have g := zq_sum (I := I) (J := J) (y := y) (z := z) (t := 30) 7 (A 0 0 0) 0 0 (fun j _ q => by
      unfold f_X1_tell
      rw [if_neg (by decide), if_neg (by decide), if_neg (by decide), if_neg (by decide), if_neg (by decide), if_neg (by decide), if_neg (by decide), if_pos rfl, he.k5 j (by omega)])
    unfold f_X3_sumOverLads f_X6_sumOf ok_X6_sumOf
    rw [c1, d1]
    exact ⟨g.1, i6, g.2⟩
  have slp : f_X3_sleepers I y = f_X6_sleepers J z ∧ ok_X6_sleepers J z := by
    have g := zq_sleep (I := I) (J := J) (y := y) (z := z) (A 0 0 0) 0 0 (fun j _ q => by
      have h2 := hi.k2 j (by omega)
      rw [hc.k10 j (by omega), hr.k4 j (by omega)]
      have e3 : nI (A 1 j 0) = 3 ↔ A 1 j 0 = 3 := nI_eq (b := 3) (by omega) (by decide)
      rw [e3]
      by_cases e : A 1 j 0 = 3 <;> simp [e])
    unfold f_X3_sleepers f_X6_sleepers ok_X6_sleepers
    rw [c1, d1]
    exact ⟨g.1, i6, g.2⟩
  have sum5 : f_X3_sumOverLads I y 5 = J z 20 0 1 := by
    rw [hr.k21]
    unfold f_X3_sumOverLads
    rw [c1]
    have g := zq_nat (f := fun i => A 1 i 6) (g := fun i => f_X1_tell I y i 5) (A 0 0 0) 0 0 (fun j _ q => by
      unfold f_X1_tell
      rw [if_neg (by decide), if_neg (by decide), if_neg (by decide), if_neg (by decide), if_neg (by decide), if_pos rfl, hc.k13 j (by omega)]) rfl (F := fun m i a => f_X3_sumOverLads_l1 y 5 m i a I) (fun _ _ => rfl) (fun _ _ _ => rfl)
    rw [Nat.zero_add] at g
    exact g
  have sum6 : f_X3_sumOverLoads I y 6 = J z 20 0 4 := by
    rw [hr.k22]
    unfold f_X3_sumOverLoads
    rw [c2]
    have g := zq_nat (f := fun i => A 3 i 2) (g := fun i => f_X2_tell I y i 6) (A 0 0 1) 0 0 (fun j _ q => by
      unfold f_X2_tell
      rw [if_neg (by decide), if_neg (by decide), if_neg (by decide), if_neg (by decide), if_neg (by decide), if_neg (by decide), hc.k15 j (by omega)]) rfl (F := fun m i a => f_X3_sumOverLoads_l1 y 6 m i a I) (fun _ _ => rfl) (fun _ _ _ => rfl)
    rw [Nat.zero_add] at g
    exact g
  refine ⟨?_, ?_⟩
  · unfold f_X3_tell f_X6_counted
    rw [he.k1, hc.k1, hr.k1, hc.k2, hr.k2, (that 2).1, (that 0).1, sum2.1, slp.1, sum5, he.k2, he.k3, sum7.1, sum6, hc.k3, hf]
  · exact ⟨fun _ => trivial, fun _ => ⟨fun _ => trivial, fun _ => ⟨fun _ => trivial, fun _ => ⟨fun _ => ⟨(that 2).2, trivial⟩, fun _ => ⟨fun _ => ⟨(that 0).2, trivial⟩, fun _ => ⟨fun _ => ⟨sum2.2, trivial⟩, fun _ => ⟨fun _ => ⟨slp.2, trivial⟩, fun _ => ⟨fun _ => trivial, fun _ => ⟨fun _ => trivial, fun _ => ⟨fun _ => trivial, fun _ => ⟨fun _ => ⟨sum7.2, trivial⟩, fun _ => ⟨fun _ => trivial, fun _ => trivial⟩⟩⟩⟩⟩⟩⟩⟩⟩⟩⟩⟩
