/-! PRINTED by wip/gen/steps2.py: THE CALLS BY HAND, as steps of the relation -/
theorem zIV_CM {K : Nat} {A : zN} {s : Nat} (hi : zIV K A) (hw : A 0 0 3 = 6) (hn : A 0 0 0 < 6) (hs : 1 ≤ s ∧ s ≤ 9) : zIV (K) (zu (zu A 1 (A 0 0 0) 4 s) 0 0 0 (A 0 0 0 + 1)) := by
  have hi1 := hi.k1
  have z0 : nI 0 = 0 := rfl
  have z1 : nI 1 = 1 := rfl
  have z2 : nI 2 = 2 := rfl
  have z3 : nI 3 = 3 := rfl
  refine ⟨?_, ?_, ?_, ?_, ?_, ?_, ?_, ?_, ?_, ?_, ?_, ?_, ?_, ?_, ?_, ?_, ?_, ?_, ?_, ?_, ?_, ?_, ?_, ?_⟩
  · (try simp [zu, zrow]) <;> (
      first
      | exact hi.k1
      | (have b1 := hi.k1
         clear hi
         grind))
  · (try simp [zu, zrow]) <;> (
      first
      | exact hi.k2
      | (have b2 := hi.k2
         clear hi
         grind))
  · (try simp [zu, zrow]) <;> (
      first
      | exact hi.k3
      | (have b3 := hi.k3
         clear hi
         grind))
  · (try simp [zu, zrow]) <;> (
      first
      | exact hi.k4
      | (have b4 := hi.k4
         clear hi
         grind))
  · (try simp [zu, zrow]) <;> (
      first
      | exact hi.k5
      | (have b5 := hi.k5
         clear hi
         grind))
  · (try simp [zu, zrow]) <;> (
      first
      | exact hi.k6
      | (have b6 := hi.k6
         clear hi
         grind))
  · (try simp [zu, zrow]) <;> (
      first
      | exact hi.k7
      | (have b7 := hi.k7
         clear hi
         grind))
  · (try simp [zu, zrow]) <;> (
      first
      | exact hi.k8
      | (have b8 := hi.k8
         clear hi
         grind))
  · (try simp [zu, zrow]) <;> (
      first
      | exact hi.k9
      | (have b9 := hi.k9
         clear hi
         grind))
  · (try simp [zu, zrow]) <;> (
      first
      | exact hi.k10
      | (have b10 := hi.k10
         clear hi
         grind))
  · (try simp [zu, zrow]) <;> (
      first
      | exact hi.k11
      | (have b11 := hi.k11
         clear hi
         grind))
  · (try simp [zu, zrow]) <;> (
      first
      | exact hi.k12
      | (have b12 := hi.k12
         clear hi
         grind))
  · (try simp [zu, zrow]) <;> (
      first
      | exact hi.k13
      | (have b13 := hi.k13
         clear hi
         grind))
  · (try simp [zu, zrow]) <;> (
      first
      | exact hi.k14
      | (have b14 := hi.k14
         clear hi
         grind))
  · (try simp [zu, zrow]) <;> (
      first
      | exact hi.k15
      | (have b15 := hi.k15
         clear hi
         grind))
  · (try simp [zu, zrow]) <;> (
      first
      | exact hi.k16
      | (have b16 := hi.k16
         clear hi
         grind))
  · (try simp [zu, zrow]) <;> (
      first
      | exact hi.k17
      | (have b17 := hi.k17
         clear hi
         grind))
  · (try simp [zu, zrow]) <;> (
      first
      | exact hi.k18
      | (have b18 := hi.k18
         clear hi
         grind))
  · (try simp [zu, zrow]) <;> (
      first
      | exact hi.k19
      | (have b19 := hi.k19
         clear hi
         grind))
  · (try simp [zu, zrow]) <;> (
      first
      | exact hi.k20
      | (have b20 := hi.k20
         clear hi
         grind))
  · (try simp [zu, zrow]) <;> (
      first
      | exact hi.k21
      | (have b21 := hi.k21
         clear hi
         grind))
  · (try simp [zu, zrow]) <;> (
      first
      | exact hi.k22
      | (have b22 := hi.k22
         clear hi
         grind))
  · (try simp [zu, zrow]) <;> (
      first
      | exact hi.k23
      | (have b23 := hi.k23
         clear hi
         grind))
  · (try simp [zu, zrow]) <;> (
      first
      | exact hi.k24
      | (have b24 := hi.k24
         clear hi
         grind))
theorem zCL_CM {K : Nat} {A : zN} {Y : gY} {s : Nat} (h : zCL A Y) (hi : zIV K A) (hw : A 0 0 3 = 6) (hn : A 0 0 0 < 6) (hs : 1 ≤ s ∧ s ≤ 9) : zCL (zu (zu A 1 (A 0 0 0) 4 s) 0 0 0 (A 0 0 0 + 1)) (u3 (u3 Y 1 (A 0 0 0) 1 (nI s)) 0 0 4 (nI (A 0 0 0 + 1))) := by
  have hi1 := hi.k1
  have z0 : nI 0 = 0 := rfl
  have z1 : nI 1 = 1 := rfl
  have z2 : nI 2 = 2 := rfl
  have z3 : nI 3 = 3 := rfl
  refine ⟨?_, ?_, ?_, ?_, ?_, ?_, ?_, ?_, ?_, ?_, ?_, ?_, ?_, ?_, ?_, ?_, ?_, ?_, ?_⟩
  · (try simp [zu, zrow, u3, urow]) <;> (
      first
      | exact h.k1
      | (have a1 := h.k1
         clear h hi
         grind))
  · (try simp [zu, zrow, u3, urow]) <;> (
      first
      | exact h.k2
      | (have a2 := h.k2
         clear h hi
         grind))
  · (try simp [zu, zrow, u3, urow]) <;> (
      first
      | exact h.k3
      | (have a3 := h.k3
         clear h hi
         grind))
  · (try simp [zu, zrow, u3, urow]) <;> (
      first
      | exact h.k4
      | (have a4 := h.k4
         clear h hi
         grind))
  · (try simp [zu, zrow, u3, urow]) <;> (
      first
      | exact h.k5
      | (have a5 := h.k5
         clear h hi
         grind))
  · (try simp [zu, zrow, u3, urow]) <;> (
      first
      | exact h.k6
      | (have a6 := h.k6
         clear h hi
         grind))
  · (try simp [zu, zrow, u3, urow]) <;> (
      first
      | exact h.k7
      | (have a7 := h.k7
         clear h hi
         grind))
  · (try simp [zu, zrow, u3, urow]) <;> (
      first
      | exact h.k8
      | (have a8 := h.k8
         clear h hi
         grind))
  · (try simp [zu, zrow, u3, urow]) <;> (
      first
      | exact h.k9
      | (have a9 := h.k9
         clear h hi
         grind))
  · (try simp [zu, zrow, u3, urow]) <;> (
      first
      | exact h.k10
      | (have a10 := h.k10
         clear h hi
         grind))
  · (try simp [zu, zrow, u3, urow]) <;> (
      first
      | exact h.k11
      | (have a11 := h.k11
         clear h hi
         grind))
  · (try simp [zu, zrow, u3, urow]) <;> (
      first
      | exact h.k12
      | (have a12 := h.k12
         clear h hi
         grind))
  · (try simp [zu, zrow, u3, urow]) <;> (
      first
      | exact h.k13
      | (have a13 := h.k13
         clear h hi
         grind))
  · (try simp [zu, zrow, u3, urow]) <;> (
      first
      | exact h.k14
      | (have a14 := h.k14
         clear h hi
         grind))
  · (try simp [zu, zrow, u3, urow]) <;> (
      first
      | exact h.k15
      | (have a15 := h.k15
         clear h hi
         grind))
  · (try simp [zu, zrow, u3, urow]) <;> (
      first
      | exact h.k16
      | (have a16 := h.k16
         clear h hi
         grind))
  · (try simp [zu, zrow, u3, urow]) <;> (
      first
      | exact h.k17
      | (have a17 := h.k17
         clear h hi
         grind))
  · (try simp [zu, zrow, u3, urow]) <;> (
      first
      | exact h.k18
      | (have a18 := h.k18
         clear h hi
         grind))
  · (try simp [zu, zrow, u3, urow]) <;> (
      first
      | exact h.k19
      | (have a19 := h.k19
         clear h hi
         grind))
theorem zRF_CM {K : Nat} {A : zN} {M S : gY} {s : Nat} (h : zRF A M S) (hi : zIV K A) (hw : A 0 0 3 = 6) (hn : A 0 0 0 < 6) (hs : 1 ≤ s ∧ s ≤ 9) : zRF (zu (zu A 1 (A 0 0 0) 4 s) 0 0 0 (A 0 0 0 + 1)) (u3 (u3 M 12 0 (A 0 0 0) (nI s)) 11 0 1 (nI (A 0 0 0 + 1))) S := by
  have hi1 := hi.k1
  have z0 : nI 0 = 0 := rfl
  have z1 : nI 1 = 1 := rfl
  have z2 : nI 2 = 2 := rfl
  have z3 : nI 3 = 3 := rfl
  refine ⟨?_, ?_, ?_, ?_, ?_, ?_, ?_, ?_, ?_, ?_, ?_, ?_, ?_, ?_, ?_, ?_, ?_, ?_, ?_, ?_, ?_, ?_⟩
  · (try simp [zu, zrow, u3, urow]) <;> (
      first
      | exact h.k1
      | (have a1 := h.k1
         clear h hi
         grind))
  · (try simp [zu, zrow, u3, urow]) <;> (
      first
      | exact h.k2
      | (have a2 := h.k2
         clear h hi
         grind))
  · (try simp [zu, zrow, u3, urow]) <;> (
      first
      | exact h.k3
      | (have a3 := h.k3
         clear h hi
         grind))
  · (try simp [zu, zrow, u3, urow]) <;> (
      first
      | exact h.k4
      | (have a4 := h.k4
         clear h hi
         grind))
  · (try simp [zu, zrow, u3, urow]) <;> (
      first
      | exact h.k5
      | (have a5 := h.k5
         clear h hi
         grind))
  · (try simp [zu, zrow, u3, urow]) <;> (
      first
      | exact h.k6
      | (have a6 := h.k6
         clear h hi
         grind))
  · (try simp [zu, zrow, u3, urow]) <;> (
      first
      | exact h.k7
      | (have a7 := h.k7
         clear h hi
         grind))
  · (try simp [zu, zrow, u3, urow]) <;> (
      first
      | exact h.k8
      | (have a8 := h.k8
         clear h hi
         grind))
  · (try simp [zu, zrow, u3, urow]) <;> (
      first
      | exact h.k9
      | (have a9 := h.k9
         clear h hi
         grind))
  · (try simp [zu, zrow, u3, urow]) <;> (
      first
      | exact h.k10
      | (have a10 := h.k10
         clear h hi
         grind))
  · (try simp [zu, zrow, u3, urow]) <;> (
      first
      | exact h.k11
      | (have a11 := h.k11
         clear h hi
         grind))
  · (try simp [zu, zrow, u3, urow]) <;> (
      first
      | exact h.k12
      | (have a12 := h.k12
         clear h hi
         grind))
  · (try simp [zu, zrow, u3, urow]) <;> (
      first
      | exact h.k13
      | (have a13 := h.k13
         clear h hi
         grind))
  · (try simp [zu, zrow, u3, urow]) <;> (
      first
      | exact h.k14
      | (have a14 := h.k14
         clear h hi
         grind))
  · (try simp [zu, zrow, u3, urow]) <;> (
      first
      | exact h.k15
      | (have a15 := h.k15
         clear h hi
         grind))
  · (try simp [zu, zrow, u3, urow]) <;> (
      first
      | exact h.k16
      | (have a16 := h.k16
         clear h hi
         grind))
  · (try simp [zu, zrow, u3, urow]) <;> (
      first
      | exact h.k17
      | (have a17 := h.k17
         clear h hi
         grind))
  · (try simp [zu, zrow, u3, urow]) <;> (
      first
      | exact h.k18
      | (have a18 := h.k18
         clear h hi
         grind))
  · (try simp [zu, zrow, u3, urow]) <;> (
      first
      | exact h.k19
      | (have a19 := h.k19
         clear h hi
         grind))
  · (try simp [zu, zrow, u3, urow]) <;> (
      first
      | exact h.k20
      | (have a20 := h.k20
         clear h hi
         grind))
  · (try simp [zu, zrow, u3, urow]) <;> (
      have h0 := (hi.k4 (A 0 0 0) (Nat.le_refl _) hn).2.2
      rw [h.k21]
      simp only [zsm]
      rw [h0, Nat.add_zero])
  · (try simp [zu, zrow, u3, urow]) <;> (
      first
      | exact h.k22
      | (have a22 := h.k22
         clear h hi
         grind))
theorem zEQ_CM {ko K : Nat} {A : zN} {Y M S : gY} {s : Nat} (h : zEQ ko A Y M S) (hi : zIV K A) (hw : A 0 0 3 = 6) (hn : A 0 0 0 < 6) (hs : 1 ≤ s ∧ s ≤ 9) : zEQ ko (zu (zu A 1 (A 0 0 0) 4 s) 0 0 0 (A 0 0 0 + 1)) (u3 (u3 Y 1 (A 0 0 0) 1 (nI s)) 0 0 4 (nI (A 0 0 0 + 1))) (u3 (u3 M 12 0 (A 0 0 0) (nI s)) 11 0 1 (nI (A 0 0 0 + 1))) S := by
  have hi1 := hi.k1
  have z0 : nI 0 = 0 := rfl
  have z1 : nI 1 = 1 := rfl
  have z2 : nI 2 = 2 := rfl
  have z3 : nI 3 = 3 := rfl
  refine ⟨?_, ?_, ?_, ?_, ?_, ?_, ?_, ?_, ?_, ?_, ?_, ?_⟩
  · (try simp [zu, zrow, u3, urow]) <;> (
      first
      | exact h.k1
      | (have a1 := h.k1
         clear h hi
         grind))
  · (try simp [zu, zrow, u3, urow]) <;> (
      first
      | exact h.k2
      | (have a2 := h.k2
         clear h hi
         grind))
  · (try simp [zu, zrow, u3, urow]) <;> (
      first
      | exact h.k3
      | (have a3 := h.k3
         clear h hi
         grind))
  · (try simp [zu, zrow, u3, urow]) <;> (
      first
      | exact h.k4
      | (have a4 := h.k4
         clear h hi
         grind))
  · (try simp [zu, zrow, u3, urow]) <;> (
      first
      | exact h.k5
      | (have a5 := h.k5
         clear h hi
         grind))
  · (try simp [zu, zrow, u3, urow]) <;> (
      first
      | exact h.k6
      | (have a6 := h.k6
         clear h hi
         grind))
  · (try simp [zu, zrow, u3, urow]) <;> (
      first
      | exact h.k7
      | (have a7 := h.k7
         clear h hi
         grind))
  · (try simp [zu, zrow, u3, urow]) <;> (
      first
      | exact h.k8
      | (have a8 := h.k8
         clear h hi
         grind))
  · (try simp [zu, zrow, u3, urow]) <;> (
      first
      | exact h.k9
      | (have a9 := h.k9
         clear h hi
         grind))
  · (try simp [zu, zrow, u3, urow]) <;> (
      first
      | exact h.k10
      | (have a10 := h.k10
         clear h hi
         grind))
  · (try simp [zu, zrow, u3, urow]) <;> (
      first
      | exact h.k11
      | (have a11 := h.k11
         clear h hi
         grind))
  · (try simp [zu, zrow, u3, urow]) <;> (
      first
      | exact h.k12
      | (have a12 := h.k12
         clear h hi
         grind))
theorem zR_CM {ko K : Nat} {A : zN} {Y M S : gY} {s : Nat} (h : zR ko K A Y M S) (hw : A 0 0 3 = 6) (hn : A 0 0 0 < 6) (hs : 1 ≤ s ∧ s ≤ 9) : zR ko (K) (zu (zu A 1 (A 0 0 0) 4 s) 0 0 0 (A 0 0 0 + 1)) (u3 (u3 Y 1 (A 0 0 0) 1 (nI s)) 0 0 4 (nI (A 0 0 0 + 1))) (u3 (u3 M 12 0 (A 0 0 0) (nI s)) 11 0 1 (nI (A 0 0 0 + 1))) S :=
  ⟨zCL_CM h.1 h.2.2.2 hw hn hs, zRF_CM h.2.1 h.2.2.2 hw hn hs, zEQ_CM h.2.2.1 h.2.2.2 hw hn hs, zIV_CM h.2.2.2 hw hn hs⟩
theorem zIV_SW {K : Nat} {A : zN} {k b : Nat} (hi : zIV K A) (hk : k < A 0 0 0) (hb : b ≤ 2) : zIV (K) (zu A 1 k 5 b) := by
  have hi1 := hi.k1
  have z0 : nI 0 = 0 := rfl
  have z1 : nI 1 = 1 := rfl
  have z2 : nI 2 = 2 := rfl
  have z3 : nI 3 = 3 := rfl
  have hk6 : k < 6 := by omega
  refine ⟨?_, ?_, ?_, ?_, ?_, ?_, ?_, ?_, ?_, ?_, ?_, ?_, ?_, ?_, ?_, ?_, ?_, ?_, ?_, ?_, ?_, ?_, ?_, ?_⟩
  · (try simp [zu, zrow]) <;> (
      first
      | exact hi.k1
      | (have b1 := hi.k1
         clear hi
         grind))
  · (try simp [zu, zrow]) <;> (
      first
      | exact hi.k2
      | (have b2 := hi.k2
         clear hi
         grind))
  · (try simp [zu, zrow]) <;> (
      first
      | exact hi.k3
      | (have b3 := hi.k3
         clear hi
         grind))
  · (try simp [zu, zrow]) <;> (
      first
      | exact hi.k4
      | (have b4 := hi.k4
         clear hi
         grind))
  · (try simp [zu, zrow]) <;> (
      first
      | exact hi.k5
      | (have b5 := hi.k5
         clear hi
         grind))
  · (try simp [zu, zrow]) <;> (
      first
      | exact hi.k6
      | (have b6 := hi.k6
         clear hi
         grind))
  · (try simp [zu, zrow]) <;> (
      first
      | exact hi.k7
      | (have b7 := hi.k7
         clear hi
         grind))
  · (try simp [zu, zrow]) <;> (
      first
      | exact hi.k8
      | (have b8 := hi.k8
         clear hi
         grind))
  · (try simp [zu, zrow]) <;> (
      first
      | exact hi.k9
      | (have b9 := hi.k9
         clear hi
         grind))
  · (try simp [zu, zrow]) <;> (
      first
      | exact hi.k10
      | (have b10 := hi.k10
         clear hi
         grind))
  · (try simp [zu, zrow]) <;> (
      first
      | exact hi.k11
      | (have b11 := hi.k11
         clear hi
         grind))
  · (try simp [zu, zrow]) <;> (
      first
      | exact hi.k12
      | (have b12 := hi.k12
         clear hi
         grind))
  · (try simp [zu, zrow]) <;> (
      first
      | exact hi.k13
      | (have b13 := hi.k13
         clear hi
         grind))
  · (try simp [zu, zrow]) <;> (
      first
      | exact hi.k14
      | (have b14 := hi.k14
         clear hi
         grind))
  · (try simp [zu, zrow]) <;> (
      first
      | exact hi.k15
      | (have b15 := hi.k15
         clear hi
         grind))
  · (try simp [zu, zrow]) <;> (
      first
      | exact hi.k16
      | (have b16 := hi.k16
         clear hi
         grind))
  · (try simp [zu, zrow]) <;> (
      first
      | exact hi.k17
      | (have b17 := hi.k17
         clear hi
         grind))
  · (try simp [zu, zrow]) <;> (
      first
      | exact hi.k18
      | (have b18 := hi.k18
         clear hi
         grind))
  · (try simp [zu, zrow]) <;> (
      first
      | exact hi.k19
      | (have b19 := hi.k19
         clear hi
         grind))
  · (try simp [zu, zrow]) <;> (
      first
      | exact hi.k20
      | (have b20 := hi.k20
         clear hi
         grind))
  · (try simp [zu, zrow]) <;> (
      first
      | exact hi.k21
      | (have b21 := hi.k21
         clear hi
         grind))
  · (try simp [zu, zrow]) <;> (
      first
      | exact hi.k22
      | (have b22 := hi.k22
         clear hi
         grind))
  · (try simp [zu, zrow]) <;> (
      first
      | exact hi.k23
      | (have b23 := hi.k23
         clear hi
         grind))
  · (try simp [zu, zrow]) <;> (
      first
      | exact hi.k24
      | (have b24 := hi.k24
         clear hi
         grind))
theorem zCL_SW {K : Nat} {A : zN} {Y : gY} {k b : Nat} (h : zCL A Y) (hi : zIV K A) (hk : k < A 0 0 0) (hb : b ≤ 2) : zCL (zu A 1 k 5 b) (u3 Y 1 k 2 (nI b)) := by
  have hi1 := hi.k1
  have z0 : nI 0 = 0 := rfl
  have z1 : nI 1 = 1 := rfl
  have z2 : nI 2 = 2 := rfl
  have z3 : nI 3 = 3 := rfl
  have hk6 : k < 6 := by omega
  refine ⟨?_, ?_, ?_, ?_, ?_, ?_, ?_, ?_, ?_, ?_, ?_, ?_, ?_, ?_, ?_, ?_, ?_, ?_, ?_⟩
  · (try simp [zu, zrow, u3, urow]) <;> (
      first
      | exact h.k1
      | (have a1 := h.k1
         clear h hi
         grind))
  · (try simp [zu, zrow, u3, urow]) <;> (
      first
      | exact h.k2
      | (have a2 := h.k2
         clear h hi
         grind))
  · (try simp [zu, zrow, u3, urow]) <;> (
      first
      | exact h.k3
      | (have a3 := h.k3
         clear h hi
         grind))
  · (try simp [zu, zrow, u3, urow]) <;> (
      first
      | exact h.k4
      | (have a4 := h.k4
         clear h hi
         grind))
  · (try simp [zu, zrow, u3, urow]) <;> (
      first
      | exact h.k5
      | (have a5 := h.k5
         clear h hi
         grind))
  · (try simp [zu, zrow, u3, urow]) <;> (
      first
      | exact h.k6
      | (have a6 := h.k6
         clear h hi
         grind))
  · (try simp [zu, zrow, u3, urow]) <;> (
      first
      | exact h.k7
      | (have a7 := h.k7
         clear h hi
         grind))
  · (try simp [zu, zrow, u3, urow]) <;> (
      first
      | exact h.k8
      | (have a8 := h.k8
         clear h hi
         grind))
  · (try simp [zu, zrow, u3, urow]) <;> (
      first
      | exact h.k9
      | (have a9 := h.k9
         clear h hi
         grind))
  · (try simp [zu, zrow, u3, urow]) <;> (
      first
      | exact h.k10
      | (have a10 := h.k10
         clear h hi
         grind))
  · (try simp [zu, zrow, u3, urow]) <;> (
      first
      | exact h.k11
      | (have a11 := h.k11
         clear h hi
         grind))
  · (try simp [zu, zrow, u3, urow]) <;> (
      first
      | exact h.k12
      | (have a12 := h.k12
         clear h hi
         grind))
  · (try simp [zu, zrow, u3, urow]) <;> (
      first
      | exact h.k13
      | (have a13 := h.k13
         clear h hi
         grind))
  · (try simp [zu, zrow, u3, urow]) <;> (
      first
      | exact h.k14
      | (have a14 := h.k14
         clear h hi
         grind))
  · (try simp [zu, zrow, u3, urow]) <;> (
      first
      | exact h.k15
      | (have a15 := h.k15
         clear h hi
         grind))
  · (try simp [zu, zrow, u3, urow]) <;> (
      first
      | exact h.k16
      | (have a16 := h.k16
         clear h hi
         grind))
  · (try simp [zu, zrow, u3, urow]) <;> (
      first
      | exact h.k17
      | (have a17 := h.k17
         clear h hi
         grind))
  · (try simp [zu, zrow, u3, urow]) <;> (
      first
      | exact h.k18
      | (have a18 := h.k18
         clear h hi
         grind))
  · (try simp [zu, zrow, u3, urow]) <;> (
      first
      | exact h.k19
      | (have a19 := h.k19
         clear h hi
         grind))
theorem zRF_SW {K : Nat} {A : zN} {M S : gY} {k b : Nat} (h : zRF A M S) (hi : zIV K A) (hk : k < A 0 0 0) (hb : b ≤ 2) : zRF (zu A 1 k 5 b) (u3 M 13 0 k (nI b)) S := by
  have hi1 := hi.k1
  have z0 : nI 0 = 0 := rfl
  have z1 : nI 1 = 1 := rfl
  have z2 : nI 2 = 2 := rfl
  have z3 : nI 3 = 3 := rfl
  have hk6 : k < 6 := by omega
  refine ⟨?_, ?_, ?_, ?_, ?_, ?_, ?_, ?_, ?_, ?_, ?_, ?_, ?_, ?_, ?_, ?_, ?_, ?_, ?_, ?_, ?_, ?_⟩
  · (try simp [zu, zrow, u3, urow]) <;> (
      first
      | exact h.k1
      | (have a1 := h.k1
         clear h hi
         grind))
  · (try simp [zu, zrow, u3, urow]) <;> (
      first
      | exact h.k2
      | (have a2 := h.k2
         clear h hi
         grind))
  · (try simp [zu, zrow, u3, urow]) <;> (
      first
      | exact h.k3
      | (have a3 := h.k3
         clear h hi
         grind))
  · (try simp [zu, zrow, u3, urow]) <;> (
      first
      | exact h.k4
      | (have a4 := h.k4
         clear h hi
         grind))
  · (try simp [zu, zrow, u3, urow]) <;> (
      first
      | exact h.k5
      | (have a5 := h.k5
         clear h hi
         grind))
  · (try simp [zu, zrow, u3, urow]) <;> (
      first
      | exact h.k6
      | (have a6 := h.k6
         clear h hi
         grind))
  · (try simp [zu, zrow, u3, urow]) <;> (
      first
      | exact h.k7
      | (have a7 := h.k7
         clear h hi
         grind))
  · (try simp [zu, zrow, u3, urow]) <;> (
      first
      | exact h.k8
      | (have a8 := h.k8
         clear h hi
         grind))
  · (try simp [zu, zrow, u3, urow]) <;> (
      first
      | exact h.k9
      | (have a9 := h.k9
         clear h hi
         grind))
  · (try simp [zu, zrow, u3, urow]) <;> (
      first
      | exact h.k10
      | (have a10 := h.k10
         clear h hi
         grind))
  · (try simp [zu, zrow, u3, urow]) <;> (
      first
      | exact h.k11
      | (have a11 := h.k11
         clear h hi
         grind))
  · (try simp [zu, zrow, u3, urow]) <;> (
      first
      | exact h.k12
      | (have a12 := h.k12
         clear h hi
         grind))
  · (try simp [zu, zrow, u3, urow]) <;> (
      first
      | exact h.k13
      | (have a13 := h.k13
         clear h hi
         grind))
  · (try simp [zu, zrow, u3, urow]) <;> (
      first
      | exact h.k14
      | (have a14 := h.k14
         clear h hi
         grind))
  · (try simp [zu, zrow, u3, urow]) <;> (
      first
      | exact h.k15
      | (have a15 := h.k15
         clear h hi
         grind))
  · (try simp [zu, zrow, u3, urow]) <;> (
      first
      | exact h.k16
      | (have a16 := h.k16
         clear h hi
         grind))
  · (try simp [zu, zrow, u3, urow]) <;> (
      first
      | exact h.k17
      | (have a17 := h.k17
         clear h hi
         grind))
  · (try simp [zu, zrow, u3, urow]) <;> (
      first
      | exact h.k18
      | (have a18 := h.k18
         clear h hi
         grind))
  · (try simp [zu, zrow, u3, urow]) <;> (
      first
      | exact h.k19
      | (have a19 := h.k19
         clear h hi
         grind))
  · (try simp [zu, zrow, u3, urow]) <;> (
      first
      | exact h.k20
      | (have a20 := h.k20
         clear h hi
         grind))
  · (try simp [zu, zrow, u3, urow]) <;> (
      first
      | exact h.k21
      | (have a21 := h.k21
         clear h hi
         grind))
  · (try simp [zu, zrow, u3, urow]) <;> (
      first
      | exact h.k22
      | (have a22 := h.k22
         clear h hi
         grind))
theorem zEQ_SW {ko K : Nat} {A : zN} {Y M S : gY} {k b : Nat} (h : zEQ ko A Y M S) (hi : zIV K A) (hk : k < A 0 0 0) (hb : b ≤ 2) : zEQ ko (zu A 1 k 5 b) (u3 Y 1 k 2 (nI b)) (u3 M 13 0 k (nI b)) S := by
  have hi1 := hi.k1
  have z0 : nI 0 = 0 := rfl
  have z1 : nI 1 = 1 := rfl
  have z2 : nI 2 = 2 := rfl
  have z3 : nI 3 = 3 := rfl
  have hk6 : k < 6 := by omega
  refine ⟨?_, ?_, ?_, ?_, ?_, ?_, ?_, ?_, ?_, ?_, ?_, ?_⟩
  · (try simp [zu, zrow, u3, urow]) <;> (
      first
      | exact h.k1
      | (have a1 := h.k1
         clear h hi
         grind))
  · (try simp [zu, zrow, u3, urow]) <;> (
      first
      | exact h.k2
      | (have a2 := h.k2
         clear h hi
         grind))
  · (try simp [zu, zrow, u3, urow]) <;> (
      first
      | exact h.k3
      | (have a3 := h.k3
         clear h hi
         grind))
  · (try simp [zu, zrow, u3, urow]) <;> (
      first
      | exact h.k4
      | (have a4 := h.k4
         clear h hi
         grind))
  · (try simp [zu, zrow, u3, urow]) <;> (
      first
      | exact h.k5
      | (have a5 := h.k5
         clear h hi
         grind))
  · (try simp [zu, zrow, u3, urow]) <;> (
      first
      | exact h.k6
      | (have a6 := h.k6
         clear h hi
         grind))
  · (try simp [zu, zrow, u3, urow]) <;> (
      first
      | exact h.k7
      | (have a7 := h.k7
         clear h hi
         grind))
  · (try simp [zu, zrow, u3, urow]) <;> (
      first
      | exact h.k8
      | (have a8 := h.k8
         clear h hi
         grind))
  · (try simp [zu, zrow, u3, urow]) <;> (
      first
      | exact h.k9
      | (have a9 := h.k9
         clear h hi
         grind))
  · (try simp [zu, zrow, u3, urow]) <;> (
      first
      | exact h.k10
      | (have a10 := h.k10
         clear h hi
         grind))
  · (try simp [zu, zrow, u3, urow]) <;> (
      first
      | exact h.k11
      | (have a11 := h.k11
         clear h hi
         grind))
  · (try simp [zu, zrow, u3, urow]) <;> (
      first
      | exact h.k12
      | (have a12 := h.k12
         clear h hi
         grind))
theorem zR_SW {ko K : Nat} {A : zN} {Y M S : gY} {k b : Nat} (h : zR ko K A Y M S) (hk : k < A 0 0 0) (hb : b ≤ 2) : zR ko (K) (zu A 1 k 5 b) (u3 Y 1 k 2 (nI b)) (u3 M 13 0 k (nI b)) S :=
  ⟨zCL_SW h.1 h.2.2.2 hk hb, zRF_SW h.2.1 h.2.2.2 hk hb, zEQ_SW h.2.2.1 h.2.2.2 hk hb, zIV_SW h.2.2.2 hk hb⟩
theorem zIV_SF {K : Nat} {A : zN} {b : Nat} (hi : zIV K A) (hb : 4 ≤ b ∧ b ≤ 60) : zIV (K) (zu A 0 0 6 b) := by
  have hi1 := hi.k1
  have z0 : nI 0 = 0 := rfl
  have z1 : nI 1 = 1 := rfl
  have z2 : nI 2 = 2 := rfl
  have z3 : nI 3 = 3 := rfl
  refine ⟨?_, ?_, ?_, ?_, ?_, ?_, ?_, ?_, ?_, ?_, ?_, ?_, ?_, ?_, ?_, ?_, ?_, ?_, ?_, ?_, ?_, ?_, ?_, ?_⟩
  · (try simp [zu, zrow]) <;> (
      first
      | exact hi.k1
      | (have b1 := hi.k1
         clear hi
         grind))
  · (try simp [zu, zrow]) <;> (
      first
      | exact hi.k2
      | (have b2 := hi.k2
         clear hi
         grind))
  · (try simp [zu, zrow]) <;> (
      first
      | exact hi.k3
      | (have b3 := hi.k3
         clear hi
         grind))
  · (try simp [zu, zrow]) <;> (
      first
      | exact hi.k4
      | (have b4 := hi.k4
         clear hi
         grind))
  · (try simp [zu, zrow]) <;> (
      first
      | exact hi.k5
      | (have b5 := hi.k5
         clear hi
         grind))
  · (try simp [zu, zrow]) <;> (
      first
      | exact hi.k6
      | (have b6 := hi.k6
         clear hi
         grind))
  · (try simp [zu, zrow]) <;> (
      first
      | exact hi.k7
      | (have b7 := hi.k7
         clear hi
         grind))
  · (try simp [zu, zrow]) <;> (
      first
      | exact hi.k8
      | (have b8 := hi.k8
         clear hi
         grind))
  · (try simp [zu, zrow]) <;> (
      first
      | exact hi.k9
      | (have b9 := hi.k9
         clear hi
         grind))
  · (try simp [zu, zrow]) <;> (
      first
      | exact hi.k10
      | (have b10 := hi.k10
         clear hi
         grind))
  · (try simp [zu, zrow]) <;> (
      first
      | exact hi.k11
      | (have b11 := hi.k11
         clear hi
         grind))
  · (try simp [zu, zrow]) <;> (
      first
      | exact hi.k12
      | (have b12 := hi.k12
         clear hi
         grind))
  · (try simp [zu, zrow]) <;> (
      first
      | exact hi.k13
      | (have b13 := hi.k13
         clear hi
         grind))
  · (try simp [zu, zrow]) <;> (
      first
      | exact hi.k14
      | (have b14 := hi.k14
         clear hi
         grind))
  · (try simp [zu, zrow]) <;> (
      first
      | exact hi.k15
      | (have b15 := hi.k15
         clear hi
         grind))
  · (try simp [zu, zrow]) <;> (
      first
      | exact hi.k16
      | (have b16 := hi.k16
         clear hi
         grind))
  · (try simp [zu, zrow]) <;> (
      first
      | exact hi.k17
      | (have b17 := hi.k17
         clear hi
         grind))
  · (try simp [zu, zrow]) <;> (
      first
      | exact hi.k18
      | (have b18 := hi.k18
         clear hi
         grind))
  · (try simp [zu, zrow]) <;> (
      first
      | exact hi.k19
      | (have b19 := hi.k19
         clear hi
         grind))
  · (try simp [zu, zrow]) <;> (
      first
      | exact hi.k20
      | (have b20 := hi.k20
         clear hi
         grind))
  · (try simp [zu, zrow]) <;> (
      first
      | exact hi.k21
      | (have b21 := hi.k21
         clear hi
         grind))
  · (try simp [zu, zrow]) <;> (
      first
      | exact hi.k22
      | (have b22 := hi.k22
         clear hi
         grind))
  · (try simp [zu, zrow]) <;> (
      first
      | exact hi.k23
      | (have b23 := hi.k23
         clear hi
         grind))
  · (try simp [zu, zrow]) <;> (
      first
      | exact hi.k24
      | (have b24 := hi.k24
         clear hi
         grind))
theorem zCL_SF {K : Nat} {A : zN} {Y : gY} {b : Nat} (h : zCL A Y) (hi : zIV K A) (hb : 4 ≤ b ∧ b ≤ 60) : zCL (zu A 0 0 6 b) (u3 Y 0 0 7 (nI b)) := by
  have hi1 := hi.k1
  have z0 : nI 0 = 0 := rfl
  have z1 : nI 1 = 1 := rfl
  have z2 : nI 2 = 2 := rfl
  have z3 : nI 3 = 3 := rfl
  refine ⟨?_, ?_, ?_, ?_, ?_, ?_, ?_, ?_, ?_, ?_, ?_, ?_, ?_, ?_, ?_, ?_, ?_, ?_, ?_⟩
  · (try simp [zu, zrow, u3, urow]) <;> (
      first
      | exact h.k1
      | (have a1 := h.k1
         clear h hi
         grind))
  · (try simp [zu, zrow, u3, urow]) <;> (
      first
      | exact h.k2
      | (have a2 := h.k2
         clear h hi
         grind))
  · (try simp [zu, zrow, u3, urow]) <;> (
      first
      | exact h.k3
      | (have a3 := h.k3
         clear h hi
         grind))
  · (try simp [zu, zrow, u3, urow]) <;> (
      first
      | exact h.k4
      | (have a4 := h.k4
         clear h hi
         grind))
  · (try simp [zu, zrow, u3, urow]) <;> (
      first
      | exact h.k5
      | (have a5 := h.k5
         clear h hi
         grind))
  · (try simp [zu, zrow, u3, urow]) <;> (
      first
      | exact h.k6
      | (have a6 := h.k6
         clear h hi
         grind))
  · (try simp [zu, zrow, u3, urow]) <;> (
      first
      | exact h.k7
      | (have a7 := h.k7
         clear h hi
         grind))
  · (try simp [zu, zrow, u3, urow]) <;> (
      first
      | exact h.k8
      | (have a8 := h.k8
         clear h hi
         grind))
  · (try simp [zu, zrow, u3, urow]) <;> (
      first
      | exact h.k9
      | (have a9 := h.k9
         clear h hi
         grind))
  · (try simp [zu, zrow, u3, urow]) <;> (
      first
      | exact h.k10
      | (have a10 := h.k10
         clear h hi
         grind))
  · (try simp [zu, zrow, u3, urow]) <;> (
      first
      | exact h.k11
      | (have a11 := h.k11
         clear h hi
         grind))
  · (try simp [zu, zrow, u3, urow]) <;> (
      first
      | exact h.k12
      | (have a12 := h.k12
         clear h hi
         grind))
  · (try simp [zu, zrow, u3, urow]) <;> (
      first
      | exact h.k13
      | (have a13 := h.k13
         clear h hi
         grind))
  · (try simp [zu, zrow, u3, urow]) <;> (
      first
      | exact h.k14
      | (have a14 := h.k14
         clear h hi
         grind))
  · (try simp [zu, zrow, u3, urow]) <;> (
      first
      | exact h.k15
      | (have a15 := h.k15
         clear h hi
         grind))
  · (try simp [zu, zrow, u3, urow]) <;> (
      first
      | exact h.k16
      | (have a16 := h.k16
         clear h hi
         grind))
  · (try simp [zu, zrow, u3, urow]) <;> (
      first
      | exact h.k17
      | (have a17 := h.k17
         clear h hi
         grind))
  · (try simp [zu, zrow, u3, urow]) <;> (
      first
      | exact h.k18
      | (have a18 := h.k18
         clear h hi
         grind))
  · (try simp [zu, zrow, u3, urow]) <;> (
      first
      | exact h.k19
      | (have a19 := h.k19
         clear h hi
         grind))
theorem zRF_SF {K : Nat} {A : zN} {M S : gY} {b : Nat} (h : zRF A M S) (hi : zIV K A) (hb : 4 ≤ b ∧ b ≤ 60) : zRF (zu A 0 0 6 b) (u3 M 11 0 7 (nI b)) S := by
  have hi1 := hi.k1
  have z0 : nI 0 = 0 := rfl
  have z1 : nI 1 = 1 := rfl
  have z2 : nI 2 = 2 := rfl
  have z3 : nI 3 = 3 := rfl
  refine ⟨?_, ?_, ?_, ?_, ?_, ?_, ?_, ?_, ?_, ?_, ?_, ?_, ?_, ?_, ?_, ?_, ?_, ?_, ?_, ?_, ?_, ?_⟩
  · (try simp [zu, zrow, u3, urow]) <;> (
      first
      | exact h.k1
      | (have a1 := h.k1
         clear h hi
         grind))
  · (try simp [zu, zrow, u3, urow]) <;> (
      first
      | exact h.k2
      | (have a2 := h.k2
         clear h hi
         grind))
  · (try simp [zu, zrow, u3, urow]) <;> (
      first
      | exact h.k3
      | (have a3 := h.k3
         clear h hi
         grind))
  · (try simp [zu, zrow, u3, urow]) <;> (
      first
      | exact h.k4
      | (have a4 := h.k4
         clear h hi
         grind))
  · (try simp [zu, zrow, u3, urow]) <;> (
      first
      | exact h.k5
      | (have a5 := h.k5
         clear h hi
         grind))
  · (try simp [zu, zrow, u3, urow]) <;> (
      first
      | exact h.k6
      | (have a6 := h.k6
         clear h hi
         grind))
  · (try simp [zu, zrow, u3, urow]) <;> (
      first
      | exact h.k7
      | (have a7 := h.k7
         clear h hi
         grind))
  · (try simp [zu, zrow, u3, urow]) <;> (
      first
      | exact h.k8
      | (have a8 := h.k8
         clear h hi
         grind))
  · (try simp [zu, zrow, u3, urow]) <;> (
      first
      | exact h.k9
      | (have a9 := h.k9
         clear h hi
         grind))
  · (try simp [zu, zrow, u3, urow]) <;> (
      first
      | exact h.k10
      | (have a10 := h.k10
         clear h hi
         grind))
  · (try simp [zu, zrow, u3, urow]) <;> (
      first
      | exact h.k11
      | (have a11 := h.k11
         clear h hi
         grind))
  · (try simp [zu, zrow, u3, urow]) <;> (
      first
      | exact h.k12
      | (have a12 := h.k12
         clear h hi
         grind))
  · (try simp [zu, zrow, u3, urow]) <;> (
      first
      | exact h.k13
      | (have a13 := h.k13
         clear h hi
         grind))
  · (try simp [zu, zrow, u3, urow]) <;> (
      first
      | exact h.k14
      | (have a14 := h.k14
         clear h hi
         grind))
  · (try simp [zu, zrow, u3, urow]) <;> (
      first
      | exact h.k15
      | (have a15 := h.k15
         clear h hi
         grind))
  · (try simp [zu, zrow, u3, urow]) <;> (
      first
      | exact h.k16
      | (have a16 := h.k16
         clear h hi
         grind))
  · (try simp [zu, zrow, u3, urow]) <;> (
      first
      | exact h.k17
      | (have a17 := h.k17
         clear h hi
         grind))
  · (try simp [zu, zrow, u3, urow]) <;> (
      first
      | exact h.k18
      | (have a18 := h.k18
         clear h hi
         grind))
  · (try simp [zu, zrow, u3, urow]) <;> (
      first
      | exact h.k19
      | (have a19 := h.k19
         clear h hi
         grind))
  · (try simp [zu, zrow, u3, urow]) <;> (
      first
      | exact h.k20
      | (have a20 := h.k20
         clear h hi
         grind))
  · (try simp [zu, zrow, u3, urow]) <;> (
      first
      | exact h.k21
      | (have a21 := h.k21
         clear h hi
         grind))
  · (try simp [zu, zrow, u3, urow]) <;> (
      first
      | exact h.k22
      | (have a22 := h.k22
         clear h hi
         grind))
theorem zEQ_SF {ko K : Nat} {A : zN} {Y M S : gY} {b : Nat} (h : zEQ ko A Y M S) (hi : zIV K A) (hb : 4 ≤ b ∧ b ≤ 60) : zEQ ko (zu A 0 0 6 b) (u3 Y 0 0 7 (nI b)) (u3 M 11 0 7 (nI b)) S := by
  have hi1 := hi.k1
  have z0 : nI 0 = 0 := rfl
  have z1 : nI 1 = 1 := rfl
  have z2 : nI 2 = 2 := rfl
  have z3 : nI 3 = 3 := rfl
  refine ⟨?_, ?_, ?_, ?_, ?_, ?_, ?_, ?_, ?_, ?_, ?_, ?_⟩
  · (try simp [zu, zrow, u3, urow]) <;> (
      first
      | exact h.k1
      | (have a1 := h.k1
         clear h hi
         grind))
  · (try simp [zu, zrow, u3, urow]) <;> (
      first
      | exact h.k2
      | (have a2 := h.k2
         clear h hi
         grind))
  · (try simp [zu, zrow, u3, urow]) <;> (
      first
      | exact h.k3
      | (have a3 := h.k3
         clear h hi
         grind))
  · (try simp [zu, zrow, u3, urow]) <;> (
      first
      | exact h.k4
      | (have a4 := h.k4
         clear h hi
         grind))
  · (try simp [zu, zrow, u3, urow]) <;> (
      first
      | exact h.k5
      | (have a5 := h.k5
         clear h hi
         grind))
  · (try simp [zu, zrow, u3, urow]) <;> (
      first
      | exact h.k6
      | (have a6 := h.k6
         clear h hi
         grind))
  · (try simp [zu, zrow, u3, urow]) <;> (
      first
      | exact h.k7
      | (have a7 := h.k7
         clear h hi
         grind))
  · (try simp [zu, zrow, u3, urow]) <;> (
      first
      | exact h.k8
      | (have a8 := h.k8
         clear h hi
         grind))
  · (try simp [zu, zrow, u3, urow]) <;> (
      first
      | exact h.k9
      | (have a9 := h.k9
         clear h hi
         grind))
  · (try simp [zu, zrow, u3, urow]) <;> (
      first
      | exact h.k10
      | (have a10 := h.k10
         clear h hi
         grind))
  · (try simp [zu, zrow, u3, urow]) <;> (
      first
      | exact h.k11
      | (have a11 := h.k11
         clear h hi
         grind))
  · (try simp [zu, zrow, u3, urow]) <;> (
      first
      | exact h.k12
      | (have a12 := h.k12
         clear h hi
         grind))
theorem zR_SF {ko K : Nat} {A : zN} {Y M S : gY} {b : Nat} (h : zR ko K A Y M S) (hb : 4 ≤ b ∧ b ≤ 60) : zR ko (K) (zu A 0 0 6 b) (u3 Y 0 0 7 (nI b)) (u3 M 11 0 7 (nI b)) S :=
  ⟨zCL_SF h.1 h.2.2.2 hb, zRF_SF h.2.1 h.2.2.2 hb, zEQ_SF h.2.2.1 h.2.2.2 hb, zIV_SF h.2.2.2 hb⟩
theorem zIV_SG {K : Nat} {A : zN} {b : Nat} (hi : zIV K A) (hb : 4 ≤ b ∧ b ≤ 60) : zIV (K) (zu A 0 0 6 b) := by
  have hi1 := hi.k1
  have z0 : nI 0 = 0 := rfl
  have z1 : nI 1 = 1 := rfl
  have z2 : nI 2 = 2 := rfl
  have z3 : nI 3 = 3 := rfl
  refine ⟨?_, ?_, ?_, ?_, ?_, ?_, ?_, ?_, ?_, ?_, ?_, ?_, ?_, ?_, ?_, ?_, ?_, ?_, ?_, ?_, ?_, ?_, ?_, ?_⟩
  · (try simp [zu, zrow]) <;> (
      first
      | exact hi.k1
      | (have b1 := hi.k1
         clear hi
         grind))
  · (try simp [zu, zrow]) <;> (
      first
      | exact hi.k2
      | (have b2 := hi.k2
         clear hi
         grind))
  · (try simp [zu, zrow]) <;> (
      first
      | exact hi.k3
      | (have b3 := hi.k3
         clear hi
         grind))
  · (try simp [zu, zrow]) <;> (
      first
      | exact hi.k4
      | (have b4 := hi.k4
         clear hi
         grind))
  · (try simp [zu, zrow]) <;> (
      first
      | exact hi.k5
      | (have b5 := hi.k5
         clear hi
         grind))
  · (try simp [zu, zrow]) <;> (
      first
      | exact hi.k6
      | (have b6 := hi.k6
         clear hi
         grind))
  · (try simp [zu, zrow]) <;> (
      first
      | exact hi.k7
      | (have b7 := hi.k7
         clear hi
         grind))
  · (try simp [zu, zrow]) <;> (
      first
      | exact hi.k8
      | (have b8 := hi.k8
         clear hi
         grind))
  · (try simp [zu, zrow]) <;> (
      first
      | exact hi.k9
      | (have b9 := hi.k9
         clear hi
         grind))
  · (try simp [zu, zrow]) <;> (
      first
      | exact hi.k10
      | (have b10 := hi.k10
         clear hi
         grind))
  · (try simp [zu, zrow]) <;> (
      first
      | exact hi.k11
      | (have b11 := hi.k11
         clear hi
         grind))
  · (try simp [zu, zrow]) <;> (
      first
      | exact hi.k12
      | (have b12 := hi.k12
         clear hi
         grind))
  · (try simp [zu, zrow]) <;> (
      first
      | exact hi.k13
      | (have b13 := hi.k13
         clear hi
         grind))
  · (try simp [zu, zrow]) <;> (
      first
      | exact hi.k14
      | (have b14 := hi.k14
         clear hi
         grind))
  · (try simp [zu, zrow]) <;> (
      first
      | exact hi.k15
      | (have b15 := hi.k15
         clear hi
         grind))
  · (try simp [zu, zrow]) <;> (
      first
      | exact hi.k16
      | (have b16 := hi.k16
         clear hi
         grind))
  · (try simp [zu, zrow]) <;> (
      first
      | exact hi.k17
      | (have b17 := hi.k17
         clear hi
         grind))
  · (try simp [zu, zrow]) <;> (
      first
      | exact hi.k18
      | (have b18 := hi.k18
         clear hi
         grind))
  · (try simp [zu, zrow]) <;> (
      first
      | exact hi.k19
      | (have b19 := hi.k19
         clear hi
         grind))
  · (try simp [zu, zrow]) <;> (
      first
      | exact hi.k20
      | (have b20 := hi.k20
         clear hi
         grind))
  · (try simp [zu, zrow]) <;> (
      first
      | exact hi.k21
      | (have b21 := hi.k21
         clear hi
         grind))
  · (try simp [zu, zrow]) <;> (
      first
      | exact hi.k22
      | (have b22 := hi.k22
         clear hi
         grind))
  · (try simp [zu, zrow]) <;> (
      first
      | exact hi.k23
      | (have b23 := hi.k23
         clear hi
         grind))
  · (try simp [zu, zrow]) <;> (
      first
      | exact hi.k24
      | (have b24 := hi.k24
         clear hi
         grind))
theorem zCL_SG {K : Nat} {A : zN} {Y : gY} {b : Nat} (h : zCL A Y) (hi : zIV K A) (hb : 4 ≤ b ∧ b ≤ 60) : zCL (zu A 0 0 6 b) (u3 Y 0 0 7 (nI b)) := by
  have hi1 := hi.k1
  have z0 : nI 0 = 0 := rfl
  have z1 : nI 1 = 1 := rfl
  have z2 : nI 2 = 2 := rfl
  have z3 : nI 3 = 3 := rfl
  refine ⟨?_, ?_, ?_, ?_, ?_, ?_, ?_, ?_, ?_, ?_, ?_, ?_, ?_, ?_, ?_, ?_, ?_, ?_, ?_⟩
  · (try simp [zu, zrow, u3, urow]) <;> (
      first
      | exact h.k1
      | (have a1 := h.k1
         clear h hi
         grind))
  · (try simp [zu, zrow, u3, urow]) <;> (
      first
      | exact h.k2
      | (have a2 := h.k2
         clear h hi
         grind))
  · (try simp [zu, zrow, u3, urow]) <;> (
      first
      | exact h.k3
      | (have a3 := h.k3
         clear h hi
         grind))
  · (try simp [zu, zrow, u3, urow]) <;> (
      first
      | exact h.k4
      | (have a4 := h.k4
         clear h hi
         grind))
  · (try simp [zu, zrow, u3, urow]) <;> (
      first
      | exact h.k5
      | (have a5 := h.k5
         clear h hi
         grind))
  · (try simp [zu, zrow, u3, urow]) <;> (
      first
      | exact h.k6
      | (have a6 := h.k6
         clear h hi
         grind))
  · (try simp [zu, zrow, u3, urow]) <;> (
      first
      | exact h.k7
      | (have a7 := h.k7
         clear h hi
         grind))
  · (try simp [zu, zrow, u3, urow]) <;> (
      first
      | exact h.k8
      | (have a8 := h.k8
         clear h hi
         grind))
  · (try simp [zu, zrow, u3, urow]) <;> (
      first
      | exact h.k9
      | (have a9 := h.k9
         clear h hi
         grind))
  · (try simp [zu, zrow, u3, urow]) <;> (
      first
      | exact h.k10
      | (have a10 := h.k10
         clear h hi
         grind))
  · (try simp [zu, zrow, u3, urow]) <;> (
      first
      | exact h.k11
      | (have a11 := h.k11
         clear h hi
         grind))
  · (try simp [zu, zrow, u3, urow]) <;> (
      first
      | exact h.k12
      | (have a12 := h.k12
         clear h hi
         grind))
  · (try simp [zu, zrow, u3, urow]) <;> (
      first
      | exact h.k13
      | (have a13 := h.k13
         clear h hi
         grind))
  · (try simp [zu, zrow, u3, urow]) <;> (
      first
      | exact h.k14
      | (have a14 := h.k14
         clear h hi
         grind))
  · (try simp [zu, zrow, u3, urow]) <;> (
      first
      | exact h.k15
      | (have a15 := h.k15
         clear h hi
         grind))
  · (try simp [zu, zrow, u3, urow]) <;> (
      first
      | exact h.k16
      | (have a16 := h.k16
         clear h hi
         grind))
  · (try simp [zu, zrow, u3, urow]) <;> (
      first
      | exact h.k17
      | (have a17 := h.k17
         clear h hi
         grind))
  · (try simp [zu, zrow, u3, urow]) <;> (
      first
      | exact h.k18
      | (have a18 := h.k18
         clear h hi
         grind))
  · (try simp [zu, zrow, u3, urow]) <;> (
      first
      | exact h.k19
      | (have a19 := h.k19
         clear h hi
         grind))
theorem zRF_SG {K : Nat} {A : zN} {M S : gY} {b : Nat} (h : zRF A M S) (hi : zIV K A) (hb : 4 ≤ b ∧ b ≤ 60) : zRF (zu A 0 0 6 b) M S := by
  have hi1 := hi.k1
  have z0 : nI 0 = 0 := rfl
  have z1 : nI 1 = 1 := rfl
  have z2 : nI 2 = 2 := rfl
  have z3 : nI 3 = 3 := rfl
  refine ⟨?_, ?_, ?_, ?_, ?_, ?_, ?_, ?_, ?_, ?_, ?_, ?_, ?_, ?_, ?_, ?_, ?_, ?_, ?_, ?_, ?_, ?_⟩
  · (try simp [zu, zrow, u3, urow]) <;> (
      first
      | exact h.k1
      | (have a1 := h.k1
         clear h hi
         grind))
  · (try simp [zu, zrow, u3, urow]) <;> (
      first
      | exact h.k2
      | (have a2 := h.k2
         clear h hi
         grind))
  · (try simp [zu, zrow, u3, urow]) <;> (
      first
      | exact h.k3
      | (have a3 := h.k3
         clear h hi
         grind))
  · (try simp [zu, zrow, u3, urow]) <;> (
      first
      | exact h.k4
      | (have a4 := h.k4
         clear h hi
         grind))
  · (try simp [zu, zrow, u3, urow]) <;> (
      first
      | exact h.k5
      | (have a5 := h.k5
         clear h hi
         grind))
  · (try simp [zu, zrow, u3, urow]) <;> (
      first
      | exact h.k6
      | (have a6 := h.k6
         clear h hi
         grind))
  · (try simp [zu, zrow, u3, urow]) <;> (
      first
      | exact h.k7
      | (have a7 := h.k7
         clear h hi
         grind))
  · (try simp [zu, zrow, u3, urow]) <;> (
      first
      | exact h.k8
      | (have a8 := h.k8
         clear h hi
         grind))
  · (try simp [zu, zrow, u3, urow]) <;> (
      first
      | exact h.k9
      | (have a9 := h.k9
         clear h hi
         grind))
  · (try simp [zu, zrow, u3, urow]) <;> (
      first
      | exact h.k10
      | (have a10 := h.k10
         clear h hi
         grind))
  · (try simp [zu, zrow, u3, urow]) <;> (
      first
      | exact h.k11
      | (have a11 := h.k11
         clear h hi
         grind))
  · (try simp [zu, zrow, u3, urow]) <;> (
      first
      | exact h.k12
      | (have a12 := h.k12
         clear h hi
         grind))
  · (try simp [zu, zrow, u3, urow]) <;> (
      first
      | exact h.k13
      | (have a13 := h.k13
         clear h hi
         grind))
  · (try simp [zu, zrow, u3, urow]) <;> (
      first
      | exact h.k14
      | (have a14 := h.k14
         clear h hi
         grind))
  · (try simp [zu, zrow, u3, urow]) <;> (
      first
      | exact h.k15
      | (have a15 := h.k15
         clear h hi
         grind))
  · (try simp [zu, zrow, u3, urow]) <;> (
      first
      | exact h.k16
      | (have a16 := h.k16
         clear h hi
         grind))
  · (try simp [zu, zrow, u3, urow]) <;> (
      first
      | exact h.k17
      | (have a17 := h.k17
         clear h hi
         grind))
  · (try simp [zu, zrow, u3, urow]) <;> (
      first
      | exact h.k18
      | (have a18 := h.k18
         clear h hi
         grind))
  · (try simp [zu, zrow, u3, urow]) <;> (
      first
      | exact h.k19
      | (have a19 := h.k19
         clear h hi
         grind))
  · (try simp [zu, zrow, u3, urow]) <;> (
      first
      | exact h.k20
      | (have a20 := h.k20
         clear h hi
         grind))
  · (try simp [zu, zrow, u3, urow]) <;> (
      first
      | exact h.k21
      | (have a21 := h.k21
         clear h hi
         grind))
  · (try simp [zu, zrow, u3, urow]) <;> (
      first
      | exact h.k22
      | (have a22 := h.k22
         clear h hi
         grind))
theorem zEQ_SG {ko K : Nat} {A : zN} {Y M S : gY} {b : Nat} (h : zEQ ko A Y M S) (hi : zIV K A) (hb : 4 ≤ b ∧ b ≤ 60) : zEQ ko (zu A 0 0 6 b) (u3 Y 0 0 7 (nI b)) M S := by
  have hi1 := hi.k1
  have z0 : nI 0 = 0 := rfl
  have z1 : nI 1 = 1 := rfl
  have z2 : nI 2 = 2 := rfl
  have z3 : nI 3 = 3 := rfl
  refine ⟨?_, ?_, ?_, ?_, ?_, ?_, ?_, ?_, ?_, ?_, ?_, ?_⟩
  · (try simp [zu, zrow, u3, urow]) <;> (
      first
      | exact h.k1
      | (have a1 := h.k1
         clear h hi
         grind))
  · (try simp [zu, zrow, u3, urow]) <;> (
      first
      | exact h.k2
      | (have a2 := h.k2
         clear h hi
         grind))
  · (try simp [zu, zrow, u3, urow]) <;> (
      first
      | exact h.k3
      | (have a3 := h.k3
         clear h hi
         grind))
  · (try simp [zu, zrow, u3, urow]) <;> (
      first
      | exact h.k4
      | (have a4 := h.k4
         clear h hi
         grind))
  · (try simp [zu, zrow, u3, urow]) <;> (
      first
      | exact h.k5
      | (have a5 := h.k5
         clear h hi
         grind))
  · (try simp [zu, zrow, u3, urow]) <;> (
      first
      | exact h.k6
      | (have a6 := h.k6
         clear h hi
         grind))
  · (try simp [zu, zrow, u3, urow]) <;> (
      first
      | exact h.k7
      | (have a7 := h.k7
         clear h hi
         grind))
  · (try simp [zu, zrow, u3, urow]) <;> (
      first
      | exact h.k8
      | (have a8 := h.k8
         clear h hi
         grind))
  · (try simp [zu, zrow, u3, urow]) <;> (
      first
      | exact h.k9
      | (have a9 := h.k9
         clear h hi
         grind))
  · (try simp [zu, zrow, u3, urow]) <;> (
      first
      | exact h.k10
      | (have a10 := h.k10
         clear h hi
         grind))
  · (try simp [zu, zrow, u3, urow]) <;> (
      first
      | exact h.k11
      | (have a11 := h.k11
         clear h hi
         grind))
  · (try simp [zu, zrow, u3, urow]) <;> (
      first
      | exact h.k12
      | (have a12 := h.k12
         clear h hi
         grind))
theorem zR_SG {ko K : Nat} {A : zN} {Y M S : gY} {b : Nat} (h : zR ko K A Y M S) (hb : 4 ≤ b ∧ b ≤ 60) : zR ko (K) (zu A 0 0 6 b) (u3 Y 0 0 7 (nI b)) M S :=
  ⟨zCL_SG h.1 h.2.2.2 hb, zRF_SG h.2.1 h.2.2.2 hb, zEQ_SG h.2.2.1 h.2.2.2 hb, zIV_SG h.2.2.2 hb⟩
theorem zIV_TH {K : Nat} {A : zN} {c : Int32} (hi : zIV K A)  : zIV (K) A := by
  have hi1 := hi.k1
  have z0 : nI 0 = 0 := rfl
  have z1 : nI 1 = 1 := rfl
  have z2 : nI 2 = 2 := rfl
  have z3 : nI 3 = 3 := rfl
  refine ⟨?_, ?_, ?_, ?_, ?_, ?_, ?_, ?_, ?_, ?_, ?_, ?_, ?_, ?_, ?_, ?_, ?_, ?_, ?_, ?_, ?_, ?_, ?_, ?_⟩
  · (try simp [zu, zrow]) <;> (
      first
      | exact hi.k1
      | (have b1 := hi.k1
         clear hi
         grind))
  · (try simp [zu, zrow]) <;> (
      first
      | exact hi.k2
      | (have b2 := hi.k2
         clear hi
         grind))
  · (try simp [zu, zrow]) <;> (
      first
      | exact hi.k3
      | (have b3 := hi.k3
         clear hi
         grind))
  · (try simp [zu, zrow]) <;> (
      first
      | exact hi.k4
      | (have b4 := hi.k4
         clear hi
         grind))
  · (try simp [zu, zrow]) <;> (
      first
      | exact hi.k5
      | (have b5 := hi.k5
         clear hi
         grind))
  · (try simp [zu, zrow]) <;> (
      first
      | exact hi.k6
      | (have b6 := hi.k6
         clear hi
         grind))
  · (try simp [zu, zrow]) <;> (
      first
      | exact hi.k7
      | (have b7 := hi.k7
         clear hi
         grind))
  · (try simp [zu, zrow]) <;> (
      first
      | exact hi.k8
      | (have b8 := hi.k8
         clear hi
         grind))
  · (try simp [zu, zrow]) <;> (
      first
      | exact hi.k9
      | (have b9 := hi.k9
         clear hi
         grind))
  · (try simp [zu, zrow]) <;> (
      first
      | exact hi.k10
      | (have b10 := hi.k10
         clear hi
         grind))
  · (try simp [zu, zrow]) <;> (
      first
      | exact hi.k11
      | (have b11 := hi.k11
         clear hi
         grind))
  · (try simp [zu, zrow]) <;> (
      first
      | exact hi.k12
      | (have b12 := hi.k12
         clear hi
         grind))
  · (try simp [zu, zrow]) <;> (
      first
      | exact hi.k13
      | (have b13 := hi.k13
         clear hi
         grind))
  · (try simp [zu, zrow]) <;> (
      first
      | exact hi.k14
      | (have b14 := hi.k14
         clear hi
         grind))
  · (try simp [zu, zrow]) <;> (
      first
      | exact hi.k15
      | (have b15 := hi.k15
         clear hi
         grind))
  · (try simp [zu, zrow]) <;> (
      first
      | exact hi.k16
      | (have b16 := hi.k16
         clear hi
         grind))
  · (try simp [zu, zrow]) <;> (
      first
      | exact hi.k17
      | (have b17 := hi.k17
         clear hi
         grind))
  · (try simp [zu, zrow]) <;> (
      first
      | exact hi.k18
      | (have b18 := hi.k18
         clear hi
         grind))
  · (try simp [zu, zrow]) <;> (
      first
      | exact hi.k19
      | (have b19 := hi.k19
         clear hi
         grind))
  · (try simp [zu, zrow]) <;> (
      first
      | exact hi.k20
      | (have b20 := hi.k20
         clear hi
         grind))
  · (try simp [zu, zrow]) <;> (
      first
      | exact hi.k21
      | (have b21 := hi.k21
         clear hi
         grind))
  · (try simp [zu, zrow]) <;> (
      first
      | exact hi.k22
      | (have b22 := hi.k22
         clear hi
         grind))
  · (try simp [zu, zrow]) <;> (
      first
      | exact hi.k23
      | (have b23 := hi.k23
         clear hi
         grind))
  · (try simp [zu, zrow]) <;> (
      first
      | exact hi.k24
      | (have b24 := hi.k24
         clear hi
         grind))
theorem zCL_TH {K : Nat} {A : zN} {Y : gY} {c : Int32} (h : zCL A Y) (hi : zIV K A)  : zCL A Y := by
  have hi1 := hi.k1
  have z0 : nI 0 = 0 := rfl
  have z1 : nI 1 = 1 := rfl
  have z2 : nI 2 = 2 := rfl
  have z3 : nI 3 = 3 := rfl
  refine ⟨?_, ?_, ?_, ?_, ?_, ?_, ?_, ?_, ?_, ?_, ?_, ?_, ?_, ?_, ?_, ?_, ?_, ?_, ?_⟩
  · (try simp [zu, zrow, u3, urow]) <;> (
      first
      | exact h.k1
      | (have a1 := h.k1
         clear h hi
         grind))
  · (try simp [zu, zrow, u3, urow]) <;> (
      first
      | exact h.k2
      | (have a2 := h.k2
         clear h hi
         grind))
  · (try simp [zu, zrow, u3, urow]) <;> (
      first
      | exact h.k3
      | (have a3 := h.k3
         clear h hi
         grind))
  · (try simp [zu, zrow, u3, urow]) <;> (
      first
      | exact h.k4
      | (have a4 := h.k4
         clear h hi
         grind))
  · (try simp [zu, zrow, u3, urow]) <;> (
      first
      | exact h.k5
      | (have a5 := h.k5
         clear h hi
         grind))
  · (try simp [zu, zrow, u3, urow]) <;> (
      first
      | exact h.k6
      | (have a6 := h.k6
         clear h hi
         grind))
  · (try simp [zu, zrow, u3, urow]) <;> (
      first
      | exact h.k7
      | (have a7 := h.k7
         clear h hi
         grind))
  · (try simp [zu, zrow, u3, urow]) <;> (
      first
      | exact h.k8
      | (have a8 := h.k8
         clear h hi
         grind))
  · (try simp [zu, zrow, u3, urow]) <;> (
      first
      | exact h.k9
      | (have a9 := h.k9
         clear h hi
         grind))
  · (try simp [zu, zrow, u3, urow]) <;> (
      first
      | exact h.k10
      | (have a10 := h.k10
         clear h hi
         grind))
  · (try simp [zu, zrow, u3, urow]) <;> (
      first
      | exact h.k11
      | (have a11 := h.k11
         clear h hi
         grind))
  · (try simp [zu, zrow, u3, urow]) <;> (
      first
      | exact h.k12
      | (have a12 := h.k12
         clear h hi
         grind))
  · (try simp [zu, zrow, u3, urow]) <;> (
      first
      | exact h.k13
      | (have a13 := h.k13
         clear h hi
         grind))
  · (try simp [zu, zrow, u3, urow]) <;> (
      first
      | exact h.k14
      | (have a14 := h.k14
         clear h hi
         grind))
  · (try simp [zu, zrow, u3, urow]) <;> (
      first
      | exact h.k15
      | (have a15 := h.k15
         clear h hi
         grind))
  · (try simp [zu, zrow, u3, urow]) <;> (
      first
      | exact h.k16
      | (have a16 := h.k16
         clear h hi
         grind))
  · (try simp [zu, zrow, u3, urow]) <;> (
      first
      | exact h.k17
      | (have a17 := h.k17
         clear h hi
         grind))
  · (try simp [zu, zrow, u3, urow]) <;> (
      first
      | exact h.k18
      | (have a18 := h.k18
         clear h hi
         grind))
  · (try simp [zu, zrow, u3, urow]) <;> (
      first
      | exact h.k19
      | (have a19 := h.k19
         clear h hi
         grind))
theorem zRF_TH {K : Nat} {A : zN} {M S : gY} {c : Int32} (h : zRF A M S) (hi : zIV K A)  : zRF A (u3 M 11 0 0 c) S := by
  have hi1 := hi.k1
  have z0 : nI 0 = 0 := rfl
  have z1 : nI 1 = 1 := rfl
  have z2 : nI 2 = 2 := rfl
  have z3 : nI 3 = 3 := rfl
  refine ⟨?_, ?_, ?_, ?_, ?_, ?_, ?_, ?_, ?_, ?_, ?_, ?_, ?_, ?_, ?_, ?_, ?_, ?_, ?_, ?_, ?_, ?_⟩
  · (try simp [zu, zrow, u3, urow]) <;> (
      first
      | exact h.k1
      | (have a1 := h.k1
         clear h hi
         grind))
  · (try simp [zu, zrow, u3, urow]) <;> (
      first
      | exact h.k2
      | (have a2 := h.k2
         clear h hi
         grind))
  · (try simp [zu, zrow, u3, urow]) <;> (
      first
      | exact h.k3
      | (have a3 := h.k3
         clear h hi
         grind))
  · (try simp [zu, zrow, u3, urow]) <;> (
      first
      | exact h.k4
      | (have a4 := h.k4
         clear h hi
         grind))
  · (try simp [zu, zrow, u3, urow]) <;> (
      first
      | exact h.k5
      | (have a5 := h.k5
         clear h hi
         grind))
  · (try simp [zu, zrow, u3, urow]) <;> (
      first
      | exact h.k6
      | (have a6 := h.k6
         clear h hi
         grind))
  · (try simp [zu, zrow, u3, urow]) <;> (
      first
      | exact h.k7
      | (have a7 := h.k7
         clear h hi
         grind))
  · (try simp [zu, zrow, u3, urow]) <;> (
      first
      | exact h.k8
      | (have a8 := h.k8
         clear h hi
         grind))
  · (try simp [zu, zrow, u3, urow]) <;> (
      first
      | exact h.k9
      | (have a9 := h.k9
         clear h hi
         grind))
  · (try simp [zu, zrow, u3, urow]) <;> (
      first
      | exact h.k10
      | (have a10 := h.k10
         clear h hi
         grind))
  · (try simp [zu, zrow, u3, urow]) <;> (
      first
      | exact h.k11
      | (have a11 := h.k11
         clear h hi
         grind))
  · (try simp [zu, zrow, u3, urow]) <;> (
      first
      | exact h.k12
      | (have a12 := h.k12
         clear h hi
         grind))
  · (try simp [zu, zrow, u3, urow]) <;> (
      first
      | exact h.k13
      | (have a13 := h.k13
         clear h hi
         grind))
  · (try simp [zu, zrow, u3, urow]) <;> (
      first
      | exact h.k14
      | (have a14 := h.k14
         clear h hi
         grind))
  · (try simp [zu, zrow, u3, urow]) <;> (
      first
      | exact h.k15
      | (have a15 := h.k15
         clear h hi
         grind))
  · (try simp [zu, zrow, u3, urow]) <;> (
      first
      | exact h.k16
      | (have a16 := h.k16
         clear h hi
         grind))
  · (try simp [zu, zrow, u3, urow]) <;> (
      first
      | exact h.k17
      | (have a17 := h.k17
         clear h hi
         grind))
  · (try simp [zu, zrow, u3, urow]) <;> (
      first
      | exact h.k18
      | (have a18 := h.k18
         clear h hi
         grind))
  · (try simp [zu, zrow, u3, urow]) <;> (
      first
      | exact h.k19
      | (have a19 := h.k19
         clear h hi
         grind))
  · (try simp [zu, zrow, u3, urow]) <;> (
      first
      | exact h.k20
      | (have a20 := h.k20
         clear h hi
         grind))
  · (try simp [zu, zrow, u3, urow]) <;> (
      first
      | exact h.k21
      | (have a21 := h.k21
         clear h hi
         grind))
  · (try simp [zu, zrow, u3, urow]) <;> (
      first
      | exact h.k22
      | (have a22 := h.k22
         clear h hi
         grind))
theorem zEQ_TH {ko K : Nat} {A : zN} {Y M S : gY} {c : Int32} (h : zEQ ko A Y M S) (hi : zIV K A)  : zEQ ko A Y (u3 M 11 0 0 c) S := by
  have hi1 := hi.k1
  have z0 : nI 0 = 0 := rfl
  have z1 : nI 1 = 1 := rfl
  have z2 : nI 2 = 2 := rfl
  have z3 : nI 3 = 3 := rfl
  refine ⟨?_, ?_, ?_, ?_, ?_, ?_, ?_, ?_, ?_, ?_, ?_, ?_⟩
  · (try simp [zu, zrow, u3, urow]) <;> (
      first
      | exact h.k1
      | (have a1 := h.k1
         clear h hi
         grind))
  · (try simp [zu, zrow, u3, urow]) <;> (
      first
      | exact h.k2
      | (have a2 := h.k2
         clear h hi
         grind))
  · (try simp [zu, zrow, u3, urow]) <;> (
      first
      | exact h.k3
      | (have a3 := h.k3
         clear h hi
         grind))
  · (try simp [zu, zrow, u3, urow]) <;> (
      first
      | exact h.k4
      | (have a4 := h.k4
         clear h hi
         grind))
  · (try simp [zu, zrow, u3, urow]) <;> (
      first
      | exact h.k5
      | (have a5 := h.k5
         clear h hi
         grind))
  · (try simp [zu, zrow, u3, urow]) <;> (
      first
      | exact h.k6
      | (have a6 := h.k6
         clear h hi
         grind))
  · (try simp [zu, zrow, u3, urow]) <;> (
      first
      | exact h.k7
      | (have a7 := h.k7
         clear h hi
         grind))
  · (try simp [zu, zrow, u3, urow]) <;> (
      first
      | exact h.k8
      | (have a8 := h.k8
         clear h hi
         grind))
  · (try simp [zu, zrow, u3, urow]) <;> (
      first
      | exact h.k9
      | (have a9 := h.k9
         clear h hi
         grind))
  · (try simp [zu, zrow, u3, urow]) <;> (
      first
      | exact h.k10
      | (have a10 := h.k10
         clear h hi
         grind))
  · (try simp [zu, zrow, u3, urow]) <;> (
      first
      | exact h.k11
      | (have a11 := h.k11
         clear h hi
         grind))
  · (try simp [zu, zrow, u3, urow]) <;> (
      first
      | exact h.k12
      | (have a12 := h.k12
         clear h hi
         grind))
theorem zR_TH {ko K : Nat} {A : zN} {Y M S : gY} {c : Int32} (h : zR ko K A Y M S)  : zR ko (K) A Y (u3 M 11 0 0 c) S :=
  ⟨h.1, zRF_TH h.2.1 h.2.2.2, zEQ_TH h.2.2.1 h.2.2.2, h.2.2.2⟩
