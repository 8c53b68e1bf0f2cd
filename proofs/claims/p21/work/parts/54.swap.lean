/-! TWO LADS CHANGE THEIR CARTS -/
def zsw (a b i : Nat) : Nat := if i = a then b else if i = b then a else i
theorem zsw_inj {a b i i' : Nat} (h : zsw a b i = zsw a b i') : i = i' := by
  unfold zsw at h
  (repeat' split at h) <;> omega
theorem zsw_lt {a b i n : Nat} (ha : a < n) (hb : b < n) (h : i < n) : zsw a b i < n := by
  unfold zsw
  (repeat' split) <;> omega
theorem zsw_ge {a b i n : Nat} (ha : a < n) (hb : b < n) (h : n ≤ i) : zsw a b i = i := by
  unfold zsw
  (repeat' split) <;> omega
def zSP (A : zN) (a b : Nat) : zN := fun t i j => if (t = 1 ∧ (j = 2 ∨ j = 3)) ∨ t = 2 then A t (zsw a b i) j else A t i j
def zSW (S : gY) (a b n : Nat) : gY := urow S 32 0 (fun q => if 8 * a + n ≤ q ∧ q < 8 * a + 8 then S 32 0 (q - 8 * a + 8 * b) else if 8 * b + n ≤ q ∧ q < 8 * b + 8 then S 32 0 (q - 8 * b + 8 * a) else S 32 0 q)
theorem zIV_SP {K a b : Nat} {A : zN} (hi : zIV K A) (hf : A 0 0 5 = 0) (ha : a < A 0 0 0) (hb : b < A 0 0 0) : zIV K (zSP A a b) := by
  have h1 := hi.k1
  have s6 : ∀ i, i < 6 → zsw a b i < 6 := fun i h => zsw_lt (by omega) (by omega) h
  refine ⟨?_, ?_, ?_, ?_, ?_, ?_, ?_, ?_, ?_, ?_, ?_, ?_, ?_, ?_, ?_, ?_, ?_, ?_, ?_, ?_, ?_, ?_, ?_, ?_⟩ <;> (try simp [zSP])
  · exact h1
  · intro i h
    have x := hi.k2 i h
    have y := hi.k2 _ (s6 i h)
    exact ⟨x.1, y.2.1, y.2.2.1, x.2.2.2.1, x.2.2.2.2⟩
  · exact hi.k3
  · intro i h h'
    rw [zsw_ge ha hb h]
    exact hi.k4 i h h'
  · intro i i' h h' e
    exact zsw_inj (hi.k5 _ _ (s6 i h) (s6 i' h') e)
  · intro q
    omega
  · exact hi.k7
  · exact hi.k8
  · exact hi.k9
  · intro i p h h'
    exact hi.k10 _ p (s6 i h) h'
  · exact hi.k11
  · exact hi.k12
  · exact hi.k13
  · exact hi.k14
  · exact hi.k15
  · intro i i' p h h' x y
    exact hi.k16 i _ p h (s6 i' h') x y
  · exact hi.k17
  · intro i i' p p' h h' x y e
    have z := hi.k18 _ _ p p' (s6 i h) (s6 i' h') x y e
    exact ⟨zsw_inj z.1, z.2⟩
  · intro i p j h h' x y
    exact hi.k19 _ p j (s6 i h) h' x y
  · exact hi.k20
  · intro q i p h h' x y
    exact hi.k21 q _ p h h' (s6 i x) y
  · exact hi.k22
  · intro i p h h'
    exact hi.k23 _ p (s6 i h) h'
  · exact hi.k24
theorem zCL_SP {K a b : Nat} {A : zN} {Y : gY} (h : zCL A Y) (hi : zIV K A) (ha : a < A 0 0 0) (hb : b < A 0 0 0) : zCL (zSP A a b) (u3 (u3 Y 1 a 3 (nI (A 1 b 3))) 1 b 3 (nI (A 1 a 3))) := by
  have h1 := hi.k1
  have sw : ∀ i, i < A 0 0 3 → zsw a b i < A 0 0 3 := fun i h => zsw_lt (by omega) (by omega) h
  refine ⟨?_, ?_, ?_, ?_, ?_, ?_, ?_, ?_, ?_, ?_, ?_, ?_, ?_, ?_, ?_, ?_, ?_, ?_, ?_⟩ <;> (try simp [zSP, u3])
  · exact h.k1
  · exact h.k2
  · exact h.k3
  · intro i h6
    have := h.k4 i h6
    unfold zsw
    by_cases e : i = b
    · subst e
      by_cases e2 : i = a
      · subst e2; simp
      · simp [e2]
    · by_cases e2 : i = a
      · subst e2; simp [e]
      · simp [e, e2]
        exact this
  · intro i hw
    exact h.k5 _ (sw i hw)
  · intro i q hw hq
    exact h.k6 _ q (sw i hw) hq
  · exact h.k7
  · exact h.k8
  · exact h.k9
  · exact h.k10
  · exact h.k11
  · exact h.k12
  · exact h.k13
  · exact h.k14
  · exact h.k15
  · exact h.k16
  · exact h.k17
  · exact h.k18
  · exact h.k19
theorem zRF_SP {K a b : Nat} {A : zN} {M S : gY} (h : zRF A M S) (hi : zIV K A) (ha : a < A 0 0 0) (hb : b < A 0 0 0) (hab : a ≠ b) : zRF (zSP A a b) M (u3 (u3 (zSW S a b 0) 31 0 a (nI (A 1 b 2))) 31 0 b (nI (A 1 a 2))) := by
  have h1 := hi.k1
  refine ⟨?_, ?_, ?_, ?_, ?_, ?_, ?_, ?_, ?_, ?_, ?_, ?_, ?_, ?_, ?_, ?_, ?_, ?_, ?_, ?_, ?_, ?_⟩ <;> (try simp [zSP, u3, zSW, urow])
  · exact h.k1
  · exact h.k2
  · exact h.k3
  · exact h.k4
  · exact h.k5
  · intro i hw
    have := h.k6 i hw
    unfold zsw
    by_cases e : i = b
    · subst e
      simp [hab.symm]
    · by_cases e2 : i = a
      · subst e2; simp [e]
      · simp [e, e2]
        exact this
  · intro i p hw hp
    have g := h.k7
    have b2 := hi.k2
    unfold zsw at hp ⊢
    by_cases e : i = a
    · subst e
      simp at hp ⊢
      have q := (b2 b (by omega)).2.1
      rw [if_pos (by omega), show p + 8 * b = 8 * b + p by omega]
      exact g b p (by omega) hp
    · by_cases e2 : i = b
      · subst e2
        simp [e] at hp ⊢
        have q := (b2 a (by omega)).2.1
        rw [if_neg (by omega), if_pos (by omega), show p + 8 * a = 8 * a + p by omega]
        exact g a p (by omega) hp
      · simp [e, e2] at hp ⊢
        have q := (b2 i (by omega)).2.1
        rw [if_neg (by omega), if_neg (by omega)]
        exact g i p hw hp
  · exact h.k8
  · exact h.k9
  · exact h.k10
  · exact h.k11
  · exact h.k12
  · exact h.k13
  · exact h.k14
  · exact h.k15
  · exact h.k16
  · exact h.k17
  · exact h.k18
  · exact h.k19
  · exact h.k20
  · exact h.k21
  · exact h.k22
theorem zEQ_SP {K a b : Nat} {A : zN} {Y M S : gY} (h : zEQ 6 A Y M S) (hi : zIV K A) (ha : a < A 0 0 0) (hb : b < A 0 0 0) : zEQ 6 (zSP A a b) (u3 (u3 Y 1 a 3 (nI (A 1 b 3))) 1 b 3 (nI (A 1 a 3))) M (u3 (u3 (zSW S a b 0) 31 0 a (nI (A 1 b 2))) 31 0 b (nI (A 1 a 2))) := by
  refine ⟨?_, ?_, ?_, ?_, ?_, ?_, ?_, ?_, ?_, ?_, ?_, fun q => absurd q (by decide)⟩ <;> (try simp [zSP, u3, zSW, urow])
  · exact h.k1
  · exact h.k2
  · exact h.k3
  · exact h.k4
  · exact h.k5
  · exact h.k6
  · exact h.k7
  · exact h.k8
  · exact h.k9
  · exact h.k10
  · exact h.k11
/-- the model's eight exchanges -/
theorem zr_swap {z a b : Nat} (ha : a < 6) (hb : b < 6) (hab : a ≠ b) : ∀ (m i : Nat) (J : gI), i + m = 8 →
    f_X6_swap_l1_s (nI a) (nI b) m i J 3 = u3 (u3 (zSW (J 3) a b i) 31 0 a (J 3 31 0 b)) 31 0 b (J 3 31 0 a) ∧ f_X6_swap_l1_v (nI a) (nI b) m i J = J 3 31 0 b ∧ ok_f_X6_swap_l1 (nI a) (nI b) m i J ∧ (∀ y, y ≠ 3 → f_X6_swap_l1_s (nI a) (nI b) m i J y = J y) := by
  have ca : (nI a).toNatClampNeg = a := nI_clamp (by omega)
  have cb : (nI b).toNatClampNeg = b := nI_clamp (by omega)
  intro m
  induction m with
  | zero =>
    intro i J hi
    have e : zSW (J 3) a b i = J 3 := by
      funext t i' j
      simp only [zSW, urow]
      by_cases h : t = 32 ∧ i' = 0
      · rw [if_pos h, if_neg (by omega), if_neg (by omega), h.1, h.2]
      · rw [if_neg h]
    simp only [f_X6_swap_l1_s, f_X6_swap_l1_v, ok_f_X6_swap_l1, ca, cb, gU_at]
    refine ⟨by rw [e], ?_, ⟨vp_in_nI (by omega) (by decide), vp_in_nI (by omega) (by decide), fun _ _ _ _ => trivial⟩, fun y hy => ?_⟩
    · rw [u3_skipj _ _ hab, u3_at]
    · rw [gU_ne _ _ _ _ _ hy, gU_ne _ _ _ _ _ hy]
  | succ m ih =>
    intro i J hi
    have c8a : ((8 : Int32) * nI a + nI i).toNatClampNeg = 8 * a + i := by rw [zc_8, nI_add, nI_clamp (by omega)]
    have c8b : ((8 : Int32) * nI b + nI i).toNatClampNeg = 8 * b + i := by rw [zc_8, nI_add, nI_clamp (by omega)]
    obtain ⟨g1, g2, g3, g4⟩ := ih (i + 1) (gU (gU J 3 32 0 (8 * a + i) (J 3 32 0 (8 * b + i))) 3 32 0 (8 * b + i) (J 3 32 0 (8 * a + i))) (by omega)
    simp only [f_X6_swap_l1_s, f_X6_swap_l1_v, ok_f_X6_swap_l1, c8a, c8b]
    have e : zSW (gU (gU J 3 32 0 (8 * a + i) (J 3 32 0 (8 * b + i))) 3 32 0 (8 * b + i) (J 3 32 0 (8 * a + i)) 3) a b (i + 1) = zSW (J 3) a b i := by
      funext t i' j
      simp only [zSW, urow, gU_at]
      by_cases h : t = 32 ∧ i' = 0
      · obtain ⟨rfl, rfl⟩ := h
        simp only [u3, true_and, and_self, if_true]
        by_cases j1 : 8 * a + (i + 1) ≤ j ∧ j < 8 * a + 8
        · rw [if_pos j1, if_pos (show 8 * a + i ≤ j ∧ j < 8 * a + 8 by omega), if_neg (show ¬ j - 8 * a + 8 * b = 8 * b + i by omega), if_neg (show ¬ j - 8 * a + 8 * b = 8 * a + i by omega)]
        · rw [if_neg j1]
          by_cases j2 : 8 * b + (i + 1) ≤ j ∧ j < 8 * b + 8
          · rw [if_pos j2, if_neg (show ¬ (8 * a + i ≤ j ∧ j < 8 * a + 8) by omega), if_pos (show 8 * b + i ≤ j ∧ j < 8 * b + 8 by omega), if_neg (show ¬ j - 8 * b + 8 * a = 8 * b + i by omega), if_neg (show ¬ j - 8 * b + 8 * a = 8 * a + i by omega)]
          · rw [if_neg j2]
            by_cases j3 : j = 8 * b + i
            · rw [if_pos j3, if_neg (show ¬ (8 * a + i ≤ j ∧ j < 8 * a + 8) by omega), if_pos (show 8 * b + i ≤ j ∧ j < 8 * b + 8 by omega), show j - 8 * b + 8 * a = 8 * a + i by omega]
            · rw [if_neg j3]
              by_cases j4 : j = 8 * a + i
              · rw [if_pos j4, if_pos (show 8 * a + i ≤ j ∧ j < 8 * a + 8 by omega), show j - 8 * a + 8 * b = 8 * b + i by omega]
              · rw [if_neg j4, if_neg (show ¬ (8 * a + i ≤ j ∧ j < 8 * a + 8) by omega), if_neg (show ¬ (8 * b + i ≤ j ∧ j < 8 * b + 8) by omega)]
      · rw [if_neg h, if_neg h, u3, u3]
        rw [if_neg (fun q => h ⟨q.1, q.2.1⟩), if_neg (fun q => h ⟨q.1, q.2.1⟩)]
    have e31 : ∀ k, gU (gU J 3 32 0 (8 * a + i) (J 3 32 0 (8 * b + i))) 3 32 0 (8 * b + i) (J 3 32 0 (8 * a + i)) 3 31 0 k = J 3 31 0 k := fun k => by simp (disch := decide) only [gU_at, u3_skip]
    rw [e, e31, e31] at g1
    rw [e31] at g2
    refine ⟨g1, g2, ⟨by rw [zc_8, nI_add]; exact vp_in_nI (by omega) (by decide), by rw [zc_8, nI_add]; exact vp_in_nI (by omega) (by decide), ?_⟩, fun y hy => ?_⟩
    · rintro _ rfl _ rfl
      exact g3
    · rw [g4 y hy, gU_ne _ _ _ _ _ hy, gU_ne _ _ _ _ _ hy]
