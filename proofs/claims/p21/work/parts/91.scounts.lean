/-! COUNTS: the Sim tells what the ghost tells -/
theorem dup2 (V : gY) (q j k : Nat) (a b a' b' : Int32) : u3 (u3 (u3 (u3 V 9 q j a) 9 q k b) 9 q j a') 9 q k b' = u3 (u3 V 9 q j a') 9 q k b' := by
  funext t i c
  simp only [u3_eq]
  grind
theorem same2 (V : gY) (q j k : Nat) : u3 (u3 V 9 q j (V 9 q j)) 9 q k (V 9 q k) = V := by
  funext t i c
  simp only [u3_eq]
  grind
theorem zs_c1 {q lo : Nat} {J : gI} : ∀ m i I1, (∀ j, j < lo → (I1 5 4 j 3 < 0 ↔ ¬ J 3 33 0 j = 2) ∧ (I1 5 4 j 5 = 0 ↔ J 3 33 0 j = 0)) → i + m = lo → ok_f_S_counts_l1 q m i I1 ∧ f_S_counts_l1 q m i I1 5 = u3 (u3 (I1 5) 9 q 3 (f_X6_loadsThat_l1 3 2 m i (I1 5 9 q 3) J)) 9 q 4 (f_X6_loadsThat_l1 3 0 m i (I1 5 9 q 4) J) := by
  intro m
  induction m with
  | zero => intro i I1 _ _; exact ⟨trivial, (same2 _ _ _ _).symm⟩
  | succ m ih =>
    intro i I1 h e
    obtain ⟨h1, h2⟩ := h i (by omega)
    have key : ∀ x y : Int32, ok_f_S_counts_l1 q m (i + 1) (gU (gU I1 5 9 q 3 x) 5 9 q 4 y) ∧ f_S_counts_l1 q m (i + 1) (gU (gU I1 5 9 q 3 x) 5 9 q 4 y) 5 = u3 (u3 (I1 5) 9 q 3 (f_X6_loadsThat_l1 3 2 m (i + 1) x J)) 9 q 4 (f_X6_loadsThat_l1 3 0 m (i + 1) y J) := fun x y => by
      obtain ⟨a, b⟩ := ih (i + 1) (gU (gU I1 5 9 q 3 x) 5 9 q 4 y) (fun j hj => by
        simp (disch := decide) only [gU_at, u3_skip]
        exact h j hj) (by omega)
      refine ⟨a, ?_⟩
      rw [b]
      simp only [gU_at]
      rw [u3_skipj _ _ (show 3 ≠ 4 by decide), u3_at, u3_at, dup2]
    have g4 : ∀ x, gU I1 5 9 q 3 x 5 4 i 5 = I1 5 4 i 5 := fun x => by rw [gU_at, u3_skip _ _ _ _ (by decide)]
    have g9 : ∀ x, gU I1 5 9 q 3 x 5 9 q 4 = I1 5 9 q 4 := fun x => by rw [gU_at, u3_skipj _ _ (by decide)]
    simp only [f_S_counts_l1, ok_f_S_counts_l1, f_X6_loadsThat_l1, g4, g9]
    by_cases c2 : J 3 33 0 i = 2
    · have n1 : ¬ I1 5 4 i 3 < 0 := fun q => h1.mp q c2
      have c0 : ¬ J 3 33 0 i = 0 := by rw [c2]; decide
      have n5 : ¬ I1 5 4 i 5 = 0 := fun q => c0 (h2.mp q)
      rw [if_neg n1, if_pos c2, if_neg n5, if_neg c0]
      refine ⟨⟨fun q => absurd q n1, fun _ => ?_⟩, (key _ _).2⟩
      rintro _ rfl
      rw [g4, g9]
      refine ⟨fun q => absurd q n5, fun _ => ?_⟩
      rintro _ rfl
      exact (key _ _).1
    · have n1 : I1 5 4 i 3 < 0 := h1.mpr c2
      rw [if_pos n1, if_neg c2]
      by_cases c0 : J 3 33 0 i = 0
      · have n5 : I1 5 4 i 5 = 0 := h2.mpr c0
        rw [if_pos n5, if_pos c0]
        refine ⟨⟨fun _ => ?_, fun q => absurd n1 q⟩, (key _ _).2⟩
        rintro _ rfl
        rw [g4, g9]
        refine ⟨fun _ => ?_, fun q => absurd n5 q⟩
        rintro _ rfl
        exact (key _ _).1
      · have n5 : ¬ I1 5 4 i 5 = 0 := fun q => c0 (h2.mp q)
        rw [if_neg n5, if_neg c0]
        refine ⟨⟨fun _ => ?_, fun q => absurd n1 q⟩, (key _ _).2⟩
        rintro _ rfl
        rw [g4, g9]
        refine ⟨fun q => absurd q n5, fun _ => ?_⟩
        rintro _ rfl
        exact (key _ _).1
theorem same1 (V : gY) (q j : Nat) : u3 V 9 q j (V 9 q j) = V := by
  funext t i c
  simp only [u3_eq]
  grind
theorem zs_c2 {q n : Nat} {I1 J : gI} (h : ∀ j, j < n → nI (rln (I1 5) 3 j) = J 3 31 0 j) : ∀ m i I, i + m = n → ok_f_S_counts_l2 q I1 m i I ∧ f_S_counts_l2 q I1 m i I 5 = u3 (I 5) 9 q 5 (f_X6_sumOf_l1 3 31 m i (I 5 9 q 5) J) := by
  intro m
  induction m with
  | zero => intro i I _; exact ⟨trivial, (same1 _ _ _).symm⟩
  | succ m ih =>
    intro i I e
    obtain ⟨a, b⟩ := ih (i + 1) (gU I 5 9 q 5 (I 5 9 q 5 + nI (rln (I1 5) 3 i))) (by omega)
    simp only [f_S_counts_l2, ok_f_S_counts_l2, f_X6_sumOf_l1]
    refine ⟨?_, ?_⟩
    · rintro _ rfl
      exact a
    · rw [b, gU_at, u3_at, u3_dup, h i (by omega)]
theorem zs_c3 {q n : Nat} {J : gI} : ∀ m i I, (∀ j, j < n → I 5 2 j 2 = J 3 25 0 j ∧ I 5 2 j 7 = J 3 30 0 j) → i + m = n → ok_f_S_counts_l3 q m i I ∧ f_S_counts_l3 q m i I 5 = u3 (u3 (I 5) 9 q 6 (f_X6_sleepers_l1 3 m i (I 5 9 q 6) J)) 9 q 10 (f_X6_sumOf_l1 3 30 m i (I 5 9 q 10) J) := by
  intro m
  induction m with
  | zero => intro i I _ _; exact ⟨trivial, (same2 _ _ _ _).symm⟩
  | succ m ih =>
    intro i I h e
    obtain ⟨h1, h2⟩ := h i (by omega)
    have key : ∀ x y : Int32, ok_f_S_counts_l3 q m (i + 1) (gU (gU I 5 9 q 6 x) 5 9 q 10 y) ∧ f_S_counts_l3 q m (i + 1) (gU (gU I 5 9 q 6 x) 5 9 q 10 y) 5 = u3 (u3 (I 5) 9 q 6 (f_X6_sleepers_l1 3 m (i + 1) x J)) 9 q 10 (f_X6_sumOf_l1 3 30 m (i + 1) y J) := fun x y => by
      obtain ⟨a, b⟩ := ih (i + 1) (gU (gU I 5 9 q 6 x) 5 9 q 10 y) (fun j hj => by
        simp (disch := decide) only [gU_at, u3_skip]
        exact h j hj) (by omega)
      refine ⟨a, ?_⟩
      rw [b]
      simp only [gU_at]
      rw [u3_skipj _ _ (show 6 ≠ 10 by decide), u3_at, u3_at, dup2]
    have g4 : ∀ x, gU I 5 9 q 6 x 5 2 i 7 = J 3 30 0 i := fun x => by rw [gU_at, u3_skip _ _ _ _ (by decide), h2]
    have g9 : ∀ x, gU I 5 9 q 6 x 5 9 q 10 = I 5 9 q 10 := fun x => by rw [gU_at, u3_skipj _ _ (by decide)]
    simp only [f_S_counts_l3, ok_f_S_counts_l3, f_X6_sleepers_l1, f_X6_sumOf_l1, g4, g9, h1]
    by_cases c : J 3 25 0 i = 3
    · rw [if_pos c, if_pos c]
      refine ⟨⟨fun _ => ?_, fun q => absurd c q⟩, (key _ _).2⟩
      rintro _ rfl
      rw [g4, g9]
      rintro _ rfl
      exact (key _ _).1
    · rw [if_neg c, if_neg c]
      refine ⟨⟨fun q => absurd q c, fun _ => ?_⟩, (key _ _).2⟩
      rintro _ rfl
      rw [g4, g9]
      rintro _ rfl
      exact (key _ _).1
/-- the bales that were pitched -/
theorem zs_ptok {x : Int32} {I : gI} : ∀ m i a, ok_f_S_pitched_l1 x m i a I := by
  intro m
  induction m with
  | zero => intro i a; trivial
  | succ m ih => intro i a; exact ⟨fun _ => ih _ _, fun _ => ⟨fun _ => ih _ _, fun _ => ih _ _⟩⟩
theorem zs_pitchedAll {T : gY} {L K i t : Nat} {A : zN} {I M' : gI} {M S : gY} (hr : zRF A M S) (hi : zIV K A) (hg : zg T i t A M S) (h : sR L (A 0 0 0) (A 0 0 1) (I 5) M S) (hL : L < 300) : f_S_pitched I (-1) = S 20 0 4 := by
  have h1 := hi.k1
  have c := h.c (by omega) (by omega) (by omega)
  have hN : (S 20 0 19).toNatClampNeg = A 0 0 2 := by rw [hr.k3, nI_clamp (by omega)]
  have g := zq_nat (f := fun h => A 4 h 3 - A 4 h 4) (g := fun j => I 5 5 j 0 - I 5 5 j 1) (A 0 0 2) 0 0 (fun j _ q => by
    have v := h.k7 j (by rw [hN]; omega)
    have h12 := hi.k12 j (by omega)
    rw [v.1, v.2.1, hr.k15 j (by omega), hr.k16 j (by omega), pk_sub (by omega)]) rfl (F := fun m i a => f_S_pitched_l1 (-1) m i a I) (fun _ _ => rfl) (fun m i a => by simp only [f_S_pitched_l1]; rw [if_pos (by decide)])
  rw [Nat.zero_add] at g
  unfold f_S_pitched
  rw [c.2.2.2.1, hN, hr.k22, ← hg.2.1.2.2]
  exact g
