/-! A LOAD IS BROUGHT, as a step of the relation -/
def zBR (A : zN) (x : Nat) : zN := zu (zu (zu (zu (zu (zu (zu (zu (zu A 4 (A 0 0 2) 0 (32 * A 0 0 1 + 1)) 4 (A 0 0 2) 1 0) 4 (A 0 0 2) 2 0) 4 (A 0 0 2) 3 x) 4 (A 0 0 2) 4 x) 4 (A 0 0 2) 5 0) 3 (A 0 0 1) 1 (A 0 0 2)) 0 0 2 (A 0 0 2 + 1)) 0 0 1 (A 0 0 1 + 1)
theorem zIV_BR {K x : Nat} {A : zN} (hi : zIV K A) (hv : A 0 0 4 = 10) (hl : A 0 0 1 < 10) (hx : 1 ≤ x ∧ x ≤ 60) : zIV K (zBR A x) := by
  have h1 := hi.k1
  have f1 : ∀ a, a < A 0 0 2 → A 4 a 0 ≠ 32 * A 0 0 1 + 1 := fun a q => by have := (hi.k12 a q).1; omega
  have hN : A 0 0 2 + 1 ≤ 320 := zpig 320 (A 0 0 2 + 1) (fun a => if a = A 0 0 2 then 32 * A 0 0 1 + 1 else A 4 a 0) (fun a ha => by
    by_cases e : a = A 0 0 2
    · rw [if_pos e]; omega
    · rw [if_neg e]; have := (hi.k12 a (by omega)).1; omega) (fun a c ha hc e => by
    by_cases e1 : a = A 0 0 2
    · by_cases e2 : c = A 0 0 2
      · omega
      · rw [if_pos e1, if_neg e2] at e
        exact absurd e.symm (f1 c (by omega))
    · by_cases e2 : c = A 0 0 2
      · rw [if_neg e1, if_pos e2] at e
        exact absurd e (f1 a (by omega))
      · rw [if_neg e1, if_neg e2] at e
        exact hi.k14 a c (by omega) (by omega) e)
  refine ⟨?_, ?_, ?_, ?_, ?_, ?_, ?_, ?_, ?_, ?_, ?_, ?_, ?_, ?_, ?_, ?_, ?_, ?_, ?_, ?_, ?_, ?_, ?_, ?_⟩ <;> (try simp [zBR, zu])
  · omega
  · exact hi.k2
  · exact hi.k3
  · exact hi.k4
  · exact hi.k5
  · exact hi.k6
  · exact hi.k7
  · intro j h h'
    exact hi.k8 j (by omega) h'
  · intro i h d
    have := hi.k9 i h d
    omega
  · intro i p h d
    have := hi.k10 i p h d
    omega
  · intro j h
    by_cases e : j = A 0 0 1
    · subst e
      simp
    · have := hi.k11 j (by omega)
      have n : ¬ A 3 j 1 = A 0 0 2 := by omega
      simp [e, n]
      exact ⟨by omega, this.2⟩
  · intro a h
    by_cases e : a = A 0 0 2
    · subst e
      have e1 : (32 * A 0 0 1 + 1) % 32 = 1 := by omega
      simp [e1, zB]
      omega
    · have := hi.k12 a (by omega)
      simp [e]
      omega
  · intro a h
    by_cases e : a = A 0 0 2
    · subst e
      have e1 : (32 * A 0 0 1 + 1) % 32 = 1 := by omega
      simp
    · simp [e]
      intro z
      have b := hi.k13 a (by omega) z
      have n3 : ¬ A 4 a 1 = A 0 0 2 := by omega
      have n5 : ¬ A 4 a 2 = A 0 0 2 := by omega
      simp [n3, n5]
      exact ⟨by omega, by omega, b.2.2.1, b.2.2.2⟩
  · intro a c ha hc
    by_cases e1 : a = A 0 0 2
    · by_cases e2 : c = A 0 0 2
      · simp [e1, e2]
      · simp [e1, e2]
        intro e
        exact absurd e.symm (f1 c (by omega))
    · by_cases e2 : c = A 0 0 2
      · simp [e1, e2]
        intro e
        exact absurd e (f1 a (by omega))
      · simp [e1, e2]
        exact hi.k14 a c (by omega) (by omega)
  · exact hi.k15
  · exact hi.k16
  · intro i j h h' d z
    by_cases e : j = A 0 0 1
    · have := hi.k9 i h (Or.inl d)
      simp [e]
      omega
    · simp [e]
      exact hi.k17 i j h (by omega) d z
  · exact hi.k18
  · intro i p j h h' d z
    by_cases e : j = A 0 0 1
    · have := hi.k10 i p h d
      simp [e]
      omega
    · simp [e]
      exact hi.k19 i p j h (by omega) d z
  · intro a i h
    by_cases e : a = A 0 0 2
    · subst e
      simp
    · simp [e]
      exact hi.k20 a i (by omega)
  · intro a i p h
    by_cases e : a = A 0 0 2
    · subst e
      simp
    · simp [e]
      exact hi.k21 a i p (by omega)
  · intro a j h
    by_cases e : a = A 0 0 2
    · subst e
      simp
    · simp [e]
      intro z hj s
      have b := hi.k13 a (by omega) z
      by_cases e2 : j = A 0 0 1
      · simp [e2]
        omega
      · simp [e2]
        exact hi.k22 a j (by omega) z (by omega) s
  · intro i p h d
    have := hi.k10 i p h d
    have n : ¬ A 2 i p = A 0 0 2 := by omega
    simp [n]
    exact hi.k23 i p h d
  · intro j h z
    by_cases e : j = A 0 0 1
    · simp [e]
    · have := hi.k11 j (by omega)
      have n : ¬ A 3 j 1 = A 0 0 2 := by omega
      simp [e, n]
      exact hi.k24 j (by omega) z
theorem zCL_BR {K x : Nat} {A : zN} {Y : gY} (h : zCL A Y) (hi : zIV K A) (hv : A 0 0 4 = 10) (hl : A 0 0 1 < 10) (hx : 1 ≤ x ∧ x ≤ 60) : zCL (zBR A x) (u3 (u3 (u3 (u3 Y 4 (A 0 0 1) 0 (nI x)) 4 (A 0 0 1) 2 (Y 0 0 6)) 5 0 (32 * A 0 0 1 + 1) (nI x)) 0 0 5 (nI (A 0 0 1 + 1))) := by
  have h1 := hi.k1
  have f1 : ∀ a, a < A 0 0 2 → A 4 a 0 ≠ 32 * A 0 0 1 + 1 := fun a q => by have := (hi.k12 a q).1; omega
  have z0 : nI 0 = 0 := rfl
  refine ⟨?_, ?_, ?_, ?_, ?_, ?_, ?_, ?_, ?_, ?_, ?_, ?_, ?_, ?_, ?_, ?_, ?_, ?_, ?_⟩
  · simp [zBR, zu, u3]; exact h.k1
  · simp [zBR, zu, u3]
  · simp [zBR, zu, u3]; exact h.k3
  · simp [zBR, zu, u3]; exact h.k4
  · simp [zBR, zu, u3]; exact h.k5
  · simp [zBR, zu, u3]
    intro i q hw hq
    have := hi.k10 i (A 1 i 2 - 1 - q) (by omega) (by omega)
    rw [if_neg (show ¬ A 2 i (A 1 i 2 - 1 - q) = A 0 0 2 by omega)]
    exact h.k6 i q hw hq
  · simp [zBR, zu, u3]
    intro i hw
    have g := h.k7 i hw
    by_cases d : A 1 i 0 = 1
    · have := hi.k9 i (by omega) (Or.inl d)
      rw [if_pos d] at g
      rw [if_pos d, if_neg (show ¬ A 1 i 1 = A 0 0 2 by omega), g]
    · rw [if_neg d] at g
      rw [if_neg d, g]
  · simp [zBR, zu, u3]
    intro i hw
    have g := h.k8 i hw
    by_cases d : A 1 i 0 = 1
    · have := hi.k9 i (by omega) (Or.inl d)
      rw [if_pos d] at g
      rw [if_pos d, if_neg (show ¬ A 1 i 1 = A 0 0 2 by omega), g]
    · rw [if_neg d] at g
      rw [if_neg d, g]
  · simp [zBR, zu, u3]
    intro i hw
    have g := h.k9 i hw
    by_cases d : A 1 i 0 = 2
    · have := hi.k9 i (by omega) (Or.inr d)
      rw [if_pos d] at g
      rw [if_pos d, if_neg (show ¬ A 1 i 1 = A 0 0 2 by omega), g]
    · rw [if_neg d] at g
      rw [if_neg d, g]
  · simp [zBR, zu, u3]; exact h.k10
  · simp [zBR, zu, u3]; exact h.k11
  · simp [zBR, zu, u3]; exact h.k12
  · simp [zBR, zu, u3]; exact h.k13
  · simp [zBR, zu, u3]; exact h.k14
  · simp [zBR, zu, u3]; exact h.k15
  · simp [zBR, zu, u3]
    intro j hj
    by_cases e : j = A 0 0 1
    · simp [e]
    · have := hi.k11 j (by omega)
      have n : ¬ A 3 j 1 = A 0 0 2 := by omega
      simp [e, n]
      exact h.k16 j (by omega)
  · simp [zBR, zu, u3]
    intro a ha
    by_cases e : a = A 0 0 2
    · simp [e]
    · have n := f1 a (by omega)
      simp [e, n]
      exact h.k17 a (by omega)
  · simp [zBR, zu, u3]
    intro a ha
    by_cases e : a = A 0 0 2
    · simp [e]
      rw [z0]
      exact h.k19 _ (Or.inl (by omega)) (fun q hq => f1 q hq)
    · simp [e]
      exact h.k18 a (by omega)
  · simp [zBR, zu, u3]
    intro q hq g
    refine h.k19 q hq (fun a ha => ?_)
    have := g a (by omega)
    rw [if_neg (show ¬ a = A 0 0 2 by omega)] at this
    exact this
theorem zRF_BR {K x : Nat} {A : zN} {M S : gY} (h : zRF A M S) (hi : zIV K A) (hv : A 0 0 4 = 10) (hl : A 0 0 1 < 10) (hx : 1 ≤ x ∧ x ≤ 60) : zRF (zBR A x) (u3 (u3 (u3 M 14 0 (A 0 0 1) (nI x)) 15 0 (A 0 0 1) (S 20 0 0)) 11 0 4 (nI (A 0 0 1 + 1))) (u3 (u3 (u3 (u3 (u3 (u3 (u3 (u3 (u3 (u3 (u3 S 33 0 (A 0 0 1) 0) 35 0 (A 0 0 1) (-1)) 36 0 (A 0 0 1) 1) 40 0 (A 0 0 2) (nI x)) 41 0 (A 0 0 2) (nI x)) 42 0 (A 0 0 2) (nI (A 0 0 1))) 43 0 (A 0 0 2) (-1)) 44 0 (A 0 0 2) (-1)) 45 0 (A 0 0 2) 0) 20 0 19 (nI (A 0 0 2 + 1))) 34 0 (A 0 0 1) (nI (A 0 0 2))) := by
  have h1 := hi.k1
  have z0 : nI 0 = 0 := rfl
  have h8 := hi.k8 (A 0 0 1) (Nat.le_refl _) hl
  refine ⟨?_, ?_, ?_, ?_, ?_, ?_, ?_, ?_, ?_, ?_, ?_, ?_, ?_, ?_, ?_, ?_, ?_, ?_, ?_, ?_, ?_, ?_⟩
  · simp [zBR, zu, u3]; exact h.k1
  · simp [zBR, zu, u3]
  · simp [zBR, zu, u3]
  · simp [zBR, zu, u3]; exact h.k4
  · simp [zBR, zu, u3]; exact h.k5
  · simp [zBR, zu, u3]; exact h.k6
  · simp [zBR, zu, u3]; exact h.k7
  · simp [zBR, zu, u3]; exact h.k8
  · simp [zBR, zu, u3]; exact h.k9
  · simp [zBR, zu, u3]; exact h.k10
  · simp [zBR, zu, u3]; exact h.k11
  · simp [zBR, zu, u3]
    intro j hj
    by_cases e : j = A 0 0 1
    · subst e
      simp
      rw [h8.1, z0]
    · simp [e]
      exact h.k12 j (by omega)
  · simp [zBR, zu, u3]
    intro j hj
    by_cases e : j = A 0 0 1
    · simp [e]
    · simp [e]
      exact h.k13 j (by omega)
  · simp [zBR, zu, u3]
    intro j hj
    by_cases e : j = A 0 0 1
    · simp [e]
    · have := hi.k11 j (by omega)
      have n : ¬ A 3 j 1 = A 0 0 2 := by omega
      simp [e, n]
      exact h.k14 j (by omega)
  · simp [zBR, zu, u3]
    intro a ha
    by_cases e : a = A 0 0 2
    · simp [e]
    · simp [e]
      exact h.k15 a (by omega)
  · simp [zBR, zu, u3]
    intro a ha
    by_cases e : a = A 0 0 2
    · simp [e]
    · simp [e]
      exact h.k16 a (by omega)
  · simp [zBR, zu, u3]
    intro a ha
    by_cases e : a = A 0 0 2
    · simp [e]
      congr 1
      omega
    · simp [e]
      exact h.k17 a (by omega)
  · simp [zBR, zu, u3]
    intro a ha
    by_cases e : a = A 0 0 2
    · simp [e]
      rfl
    · simp [e]
      exact h.k18 a (by omega)
  · simp [zBR, zu, u3]
    intro a ha
    by_cases e : a = A 0 0 2
    · simp [e]
    · simp [e]
      exact h.k19 a (by omega)
  · simp [zBR, zu, u3]
    intro a ha
    by_cases e : a = A 0 0 2
    · have e1 : (32 * A 0 0 1 + 1) % 32 = 1 := by omega
      simp [e]
    · simp [e]
      exact h.k20 a (by omega)
  · simp [zBR, zu, u3]; exact h.k21
  · simp [zBR, zu, u3]
    rw [h.k22]
    simp only [zsm]
    rw [h8.2, Nat.add_zero]
theorem zEQ_BR {K x : Nat} {A : zN} {Y M S : gY} (h : zEQ 6 A Y M S) (hi : zIV K A) (hv : A 0 0 4 = 10) (hl : A 0 0 1 < 10) : zEQ 6 (zBR A x) (u3 (u3 (u3 (u3 Y 4 (A 0 0 1) 0 (nI x)) 4 (A 0 0 1) 2 (Y 0 0 6)) 5 0 (32 * A 0 0 1 + 1) (nI x)) 0 0 5 (nI (A 0 0 1 + 1))) (u3 (u3 (u3 M 14 0 (A 0 0 1) (nI x)) 15 0 (A 0 0 1) (S 20 0 0)) 11 0 4 (nI (A 0 0 1 + 1))) (u3 (u3 (u3 (u3 (u3 (u3 (u3 (u3 (u3 (u3 (u3 S 33 0 (A 0 0 1) 0) 35 0 (A 0 0 1) (-1)) 36 0 (A 0 0 1) 1) 40 0 (A 0 0 2) (nI x)) 41 0 (A 0 0 2) (nI x)) 42 0 (A 0 0 2) (nI (A 0 0 1))) 43 0 (A 0 0 2) (-1)) 44 0 (A 0 0 2) (-1)) 45 0 (A 0 0 2) 0) 20 0 19 (nI (A 0 0 2 + 1))) 34 0 (A 0 0 1) (nI (A 0 0 2))) := by
  have h1 := hi.k1
  refine ⟨?_, ?_, ?_, ?_, ?_, ?_, ?_, ?_, ?_, ?_, ?_, fun q => absurd q (by decide)⟩
  · simp [u3]; exact h.k1
  · simp [u3]; exact h.k2
  · simp [u3]; exact h.k3
  · simp [zBR, zu, u3]; exact h.k4
  · simp [zBR, zu, u3]; exact h.k5
  · simp [zBR, zu, u3]; exact h.k6
  · simp [zBR, zu, u3]
    intro j hj
    by_cases e : j = A 0 0 1
    · simp [e]; exact h.k1
    · simp [e]; exact h.k7 j (by omega)
  · simp [zBR, zu, u3]
    intro j hj
    by_cases e : j = A 0 0 1
    · simp [e]; exact (h.k11 _ (Nat.le_refl _) (by omega)).1
    · simp [e]; exact h.k8 j (by omega)
  · simp [zBR, zu, u3]
    intro j hj
    by_cases e : j = A 0 0 1
    · simp [e]; exact (h.k11 _ (Nat.le_refl _) (by omega)).2
    · simp [e]; exact h.k9 j (by omega)
  · simp [zBR, zu, u3]; exact h.k10
  · simp [zBR, zu, u3]
    intro j hj
    exact h.k11 j (by omega)
theorem zR_BR {K x : Nat} {A : zN} {Y M S : gY} (h : zR 6 K A Y M S) (hv : A 0 0 4 = 10) (hl : A 0 0 1 < 10) (hx : 1 ≤ x ∧ x ≤ 60) : zR 6 K (zBR A x) (u3 (u3 (u3 (u3 Y 4 (A 0 0 1) 0 (nI x)) 4 (A 0 0 1) 2 (Y 0 0 6)) 5 0 (32 * A 0 0 1 + 1) (nI x)) 0 0 5 (nI (A 0 0 1 + 1))) (u3 (u3 (u3 M 14 0 (A 0 0 1) (nI x)) 15 0 (A 0 0 1) (S 20 0 0)) 11 0 4 (nI (A 0 0 1 + 1))) (u3 (u3 (u3 (u3 (u3 (u3 (u3 (u3 (u3 (u3 (u3 S 33 0 (A 0 0 1) 0) 35 0 (A 0 0 1) (-1)) 36 0 (A 0 0 1) 1) 40 0 (A 0 0 2) (nI x)) 41 0 (A 0 0 2) (nI x)) 42 0 (A 0 0 2) (nI (A 0 0 1))) 43 0 (A 0 0 2) (-1)) 44 0 (A 0 0 2) (-1)) 45 0 (A 0 0 2) 0) 20 0 19 (nI (A 0 0 2 + 1))) 34 0 (A 0 0 1) (nI (A 0 0 2))) :=
  ⟨zCL_BR h.1 h.2.2.2 hv hl hx, zRF_BR h.2.1 h.2.2.2 hv hl hx, zEQ_BR h.2.2.1 h.2.2.2 hv hl, zIV_BR h.2.2.2 hv hl hx⟩
