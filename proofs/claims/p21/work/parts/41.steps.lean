/-! PRINTED by wip/gen/steps.py: THE RELATION, STEP BY STEP -/
def zrow (A : zN) (i : Nat) (f : Nat → Nat) : zN := fun t' i' j' => if t' = 2 ∧ i' = i then f j' else A t' i' j'
theorem zsm_add (f : Nat → Nat) (J d : Nat) : ∀ n, J < n → zsm (fun j => if j = J then f J + d else f j) n = zsm f n + d := by
  have h0 : ∀ n, n ≤ J → zsm (fun j => if j = J then f J + d else f j) n = zsm f n := by
    intro n
    induction n with
    | zero => intro _; rfl
    | succ n ih => intro h; simp only [zsm]; rw [ih (by omega), if_neg (by omega)]
  intro n
  induction n with
  | zero => intro h; omega
  | succ n ih =>
    intro h
    simp only [zsm]
    by_cases e : n = J
    · subst e; rw [h0 n (Nat.le_refl n), if_pos rfl]; omega
    · rw [ih (by omega), if_neg e]; omega
theorem zpig (m : Nat) : ∀ (n : Nat) (g : Nat → Nat), (∀ h, h < n → g h < m) → (∀ h h', h < n → h' < n → g h = g h' → h = h') → n ≤ m := by
  induction m with
  | zero =>
    intro n g h1 h2
    rcases Nat.eq_zero_or_pos n with h | h
    · omega
    · exact absurd (h1 0 h) (by omega)
  | succ m ih =>
    intro n g h1 h2
    cases n with
    | zero => omega
    | succ n =>
      have h := ih n (fun h => if g h = m then g n else g h) (fun h hh => by
        have a1 := h1 n (by omega)
        have a2 := h1 h (by omega)
        have a3 := h2 h n (by omega) (by omega)
        by_cases e : g h = m
        · simp only [e, if_true]; by_cases e2 : g n = m
          · have := a3 (by omega); omega
          · omega
        · simp only [e, if_false]; omega) (fun h h' hh hh' e => by
        have a1 := h2 h n (by omega) (by omega)
        have a2 := h2 h' n (by omega) (by omega)
        have a3 := h2 h h' (by omega) (by omega)
        by_cases e1 : g h = m <;> by_cases e2 : g h' = m
        · exact a3 (by omega)
        · simp only [e1, e2, if_true, if_false] at e; have := a2 (by omega); omega
        · simp only [e1, e2, if_true, if_false] at e; have := a1 (by omega); omega
        · simp only [e1, e2, if_false] at e; exact a3 e)
      omega
def zTN (A : zN) (k : Nat) : zN := zu (zu (zu (zrow A k (fun p => A 2 k (p + 1))) 1 k 2 (A 1 k 2 - 1)) 1 k 0 1) 1 k 1 (A 2 k 0)
theorem zIV_TN {K : Nat} {A : zN} {k : Nat} (hi : zIV K A) (hk : k < A 0 0 0) (h0 : A 1 k 0 = 0) (hm : 0 < A 1 k 2) : zIV (K) (zTN A k) := by
  have hi1 := hi.k1
  have z0 : nI 0 = 0 := rfl
  have z1 : nI 1 = 1 := rfl
  have z2 : nI 2 = 2 := rfl
  have z3 : nI 3 = 3 := rfl
  have hk6 : k < 6 := by omega
  refine ⟨?_, ?_, ?_, ?_, ?_, ?_, ?_, ?_, ?_, ?_, ?_, ?_, ?_, ?_, ?_, ?_, ?_, ?_, ?_, ?_, ?_, ?_, ?_, ?_⟩
  · (try simp [zTN, zu, zrow]) <;> (
      first
      | exact hi.k1
      | (have b1 := hi.k1
         clear hi
         grind))
  · (try simp [zTN, zu, zrow]) <;> (
      first
      | exact hi.k2
      | (have b2 := hi.k2
         clear hi
         grind))
  · (try simp [zTN, zu, zrow]) <;> (
      first
      | exact hi.k3
      | (have b3 := hi.k3
         clear hi
         grind))
  · (try simp [zTN, zu, zrow]) <;> (
      first
      | exact hi.k4
      | (have b4 := hi.k4
         clear hi
         grind))
  · (try simp [zTN, zu, zrow]) <;> (
      first
      | exact hi.k5
      | (have b5 := hi.k5
         clear hi
         grind))
  · (try simp [zTN, zu, zrow]) <;> (
      first
      | exact hi.k6
      | (have b6 := hi.k6
         clear hi
         grind))
  · (try simp [zTN, zu, zrow]) <;> (
      first
      | exact hi.k7
      | (have b7 := hi.k7
         clear hi
         grind))
  · (try simp [zTN, zu, zrow]) <;> (
      first
      | exact hi.k8
      | (have b8 := hi.k8
         clear hi
         grind))
  · (try simp [zTN, zu, zrow]) <;> (
      first
      | exact hi.k9
      | (have b9 := hi.k9
         have b10 := hi.k10
         clear hi
         grind))
  · (try simp [zTN, zu, zrow]) <;> (
      first
      | exact hi.k10
      | (have b10 := hi.k10
         clear hi
         grind))
  · (try simp [zTN, zu, zrow]) <;> (
      first
      | exact hi.k11
      | (have b11 := hi.k11
         clear hi
         grind))
  · (try simp [zTN, zu, zrow]) <;> (
      first
      | exact hi.k12
      | (have b12 := hi.k12
         clear hi
         grind))
  · (try simp [zTN, zu, zrow]) <;> (
      first
      | exact hi.k13
      | (have b13 := hi.k13
         clear hi
         grind))
  · (try simp [zTN, zu, zrow]) <;> (
      first
      | exact hi.k14
      | (have b14 := hi.k14
         clear hi
         grind))
  · (try simp [zTN, zu, zrow]) <;> (
      first
      | exact hi.k15
      | (have b15 := hi.k15
         have b16 := hi.k16
         clear hi
         grind))
  · (try simp [zTN, zu, zrow]) <;> (
      first
      | exact hi.k16
      | (have b16 := hi.k16
         have b18 := hi.k18
         clear hi
         grind))
  · (try simp [zTN, zu, zrow]) <;> (
      first
      | exact hi.k17
      | (have b17 := hi.k17
         have b19 := hi.k19
         clear hi
         grind))
  · (try simp [zTN, zu, zrow]) <;> (
      first
      | exact hi.k18
      | (have b18 := hi.k18
         clear hi
         grind))
  · (try simp [zTN, zu, zrow]) <;> (
      first
      | exact hi.k19
      | (have b19 := hi.k19
         clear hi
         grind))
  · (try simp [zTN, zu, zrow]) <;> (
      first
      | exact hi.k20
      | (have b20 := hi.k20
         have b21 := hi.k21
         clear hi
         grind))
  · (try simp [zTN, zu, zrow]) <;> (
      first
      | exact hi.k21
      | (have b21 := hi.k21
         clear hi
         grind))
  · (try simp [zTN, zu, zrow]) <;> (
      first
      | exact hi.k22
      | (have b22 := hi.k22
         clear hi
         grind))
  · (try simp [zTN, zu, zrow]) <;> (
      first
      | exact hi.k23
      | (have b23 := hi.k23
         clear hi
         grind))
  · (try simp [zTN, zu, zrow]) <;> (
      first
      | exact hi.k24
      | (have b24 := hi.k24
         clear hi
         grind))
theorem zCL_TN {K : Nat} {A : zN} {Y : gY} {k : Nat} (h : zCL A Y) (hi : zIV K A) (hk : k < A 0 0 0) (h0 : A 1 k 0 = 0) (hm : 0 < A 1 k 2) : zCL (zTN A k) (u3 (u3 (u3 Y 2 (A 1 k 3) 1 (nI (A 1 k 2 - 1))) 1 k 4 (nI (A 4 (A 2 k 0) 0))) 1 k 5 (nI (A 4 (A 2 k 0) 3))) := by
  have hi1 := hi.k1
  have z0 : nI 0 = 0 := rfl
  have z1 : nI 1 = 1 := rfl
  have z2 : nI 2 = 2 := rfl
  have z3 : nI 3 = 3 := rfl
  have hk6 : k < 6 := by omega
  refine ⟨?_, ?_, ?_, ?_, ?_, ?_, ?_, ?_, ?_, ?_, ?_, ?_, ?_, ?_, ?_, ?_, ?_, ?_, ?_⟩
  · (try simp [zTN, zu, zrow, u3, urow]) <;> (
      first
      | exact h.k1
      | (have a1 := h.k1
         clear h hi
         grind))
  · (try simp [zTN, zu, zrow, u3, urow]) <;> (
      first
      | exact h.k2
      | (have a2 := h.k2
         clear h hi
         grind))
  · (try simp [zTN, zu, zrow, u3, urow]) <;> (
      first
      | exact h.k3
      | (have a3 := h.k3
         clear h hi
         grind))
  · (try simp [zTN, zu, zrow, u3, urow]) <;> (
      first
      | exact h.k4
      | (have a4 := h.k4
         clear h hi
         grind))
  · (try simp [zTN, zu, zrow, u3, urow]) <;> (
      first
      | exact h.k5
      | (have a5 := h.k5
         have b5 := hi.k5
         clear h hi
         grind))
  · (try simp [zTN, zu, zrow, u3, urow]) <;> (
      intro i q h1 h2
      have h6 := h.k6
      have h5 := hi.k5
      by_cases e : i = k
      · subst e
        have e1 := h6 i q h1 (by simp at h2; omega)
        simp at h2 ⊢
        rw [e1]
        congr 3
        omega
      · simp [e] at h2 ⊢
        exact h6 i q h1 h2)
  · (try simp [zTN, zu, zrow, u3, urow]) <;> (
      first
      | exact h.k7
      | (have a7 := h.k7
         clear h hi
         grind))
  · (try simp [zTN, zu, zrow, u3, urow]) <;> (
      first
      | exact h.k8
      | (have a8 := h.k8
         have b23 := hi.k23
         clear h hi
         grind))
  · (try simp [zTN, zu, zrow, u3, urow]) <;> (
      first
      | exact h.k9
      | (have a9 := h.k9
         clear h hi
         grind))
  · (try simp [zTN, zu, zrow, u3, urow]) <;> (
      first
      | exact h.k10
      | (have a10 := h.k10
         clear h hi
         grind))
  · (try simp [zTN, zu, zrow, u3, urow]) <;> (
      first
      | exact h.k11
      | (have a11 := h.k11
         clear h hi
         grind))
  · (try simp [zTN, zu, zrow, u3, urow]) <;> (
      first
      | exact h.k12
      | (have a12 := h.k12
         clear h hi
         grind))
  · (try simp [zTN, zu, zrow, u3, urow]) <;> (
      first
      | exact h.k13
      | (have a13 := h.k13
         clear h hi
         grind))
  · (try simp [zTN, zu, zrow, u3, urow]) <;> (
      first
      | exact h.k14
      | (have a14 := h.k14
         clear h hi
         grind))
  · (try simp [zTN, zu, zrow, u3, urow]) <;> (
      first
      | exact h.k15
      | (have a15 := h.k15
         clear h hi
         grind))
  · (try simp [zTN, zu, zrow, u3, urow]) <;> (
      first
      | exact h.k16
      | (have a16 := h.k16
         clear h hi
         grind))
  · (try simp [zTN, zu, zrow, u3, urow]) <;> (
      first
      | exact h.k17
      | (have a17 := h.k17
         clear h hi
         grind))
  · (try simp [zTN, zu, zrow, u3, urow]) <;> (
      first
      | exact h.k18
      | (have a18 := h.k18
         clear h hi
         grind))
  · (try simp [zTN, zu, zrow, u3, urow]) <;> (
      first
      | exact h.k19
      | (have a19 := h.k19
         clear h hi
         grind))
theorem zRF_TN {K : Nat} {A : zN} {M S : gY} {k : Nat} (h : zRF A M S) (hi : zIV K A) (hk : k < A 0 0 0) (h0 : A 1 k 0 = 0) (hm : 0 < A 1 k 2) : zRF (zTN A k) M (u3 (u3 (urow (u3 S 31 0 k (nI (A 1 k 2 - 1))) 32 0 (va_cpy (S 32 0) (S 32 0) (8 * k + 1) (8 * k) (A 1 k 2 - 1))) 25 0 k 1) 26 0 k (nI (A 2 k 0))) := by
  have hi1 := hi.k1
  have z0 : nI 0 = 0 := rfl
  have z1 : nI 1 = 1 := rfl
  have z2 : nI 2 = 2 := rfl
  have z3 : nI 3 = 3 := rfl
  have hk6 : k < 6 := by omega
  refine ⟨?_, ?_, ?_, ?_, ?_, ?_, ?_, ?_, ?_, ?_, ?_, ?_, ?_, ?_, ?_, ?_, ?_, ?_, ?_, ?_, ?_, ?_⟩
  · (try simp [zTN, zu, zrow, u3, urow]) <;> (
      first
      | exact h.k1
      | (have a1 := h.k1
         clear h hi
         grind))
  · (try simp [zTN, zu, zrow, u3, urow]) <;> (
      first
      | exact h.k2
      | (have a2 := h.k2
         clear h hi
         grind))
  · (try simp [zTN, zu, zrow, u3, urow]) <;> (
      first
      | exact h.k3
      | (have a3 := h.k3
         clear h hi
         grind))
  · (try simp [zTN, zu, zrow, u3, urow]) <;> (
      first
      | exact h.k4
      | (have a4 := h.k4
         clear h hi
         grind))
  · (try simp [zTN, zu, zrow, u3, urow]) <;> (
      first
      | exact h.k5
      | (have a5 := h.k5
         clear h hi
         grind))
  · (try simp [zTN, zu, zrow, u3, urow]) <;> (
      first
      | exact h.k6
      | (have a6 := h.k6
         clear h hi
         grind))
  · (try simp [zTN, zu, zrow, u3, urow]) <;> (
      intro i p h1 h2
      have h7 := h.k7
      by_cases e : i = k
      · subst e
        have e1 := h7 i (p + 1) h1 (by simp at h2; omega)
        simp at h2 ⊢
        rw [pk_cpy_in (by omega) (by omega), ← e1]
        congr 1
        omega
      · have b2 := (hi.k2 i (by omega)).2.1
        have b3 := (hi.k2 k hk6).2.1
        simp [e] at h2 ⊢
        rw [pk_cpy_out (by omega)]
        exact h7 i p h1 h2)
  · (try simp [zTN, zu, zrow, u3, urow]) <;> (
      first
      | exact h.k8
      | (have a8 := h.k8
         clear h hi
         grind))
  · (try simp [zTN, zu, zrow, u3, urow]) <;> (
      first
      | exact h.k9
      | (have a9 := h.k9
         clear h hi
         grind))
  · (try simp [zTN, zu, zrow, u3, urow]) <;> (
      first
      | exact h.k10
      | (have a10 := h.k10
         clear h hi
         grind))
  · (try simp [zTN, zu, zrow, u3, urow]) <;> (
      first
      | exact h.k11
      | (have a11 := h.k11
         clear h hi
         grind))
  · (try simp [zTN, zu, zrow, u3, urow]) <;> (
      first
      | exact h.k12
      | (have a12 := h.k12
         clear h hi
         grind))
  · (try simp [zTN, zu, zrow, u3, urow]) <;> (
      first
      | exact h.k13
      | (have a13 := h.k13
         clear h hi
         grind))
  · (try simp [zTN, zu, zrow, u3, urow]) <;> (
      first
      | exact h.k14
      | (have a14 := h.k14
         clear h hi
         grind))
  · (try simp [zTN, zu, zrow, u3, urow]) <;> (
      first
      | exact h.k15
      | (have a15 := h.k15
         clear h hi
         grind))
  · (try simp [zTN, zu, zrow, u3, urow]) <;> (
      first
      | exact h.k16
      | (have a16 := h.k16
         clear h hi
         grind))
  · (try simp [zTN, zu, zrow, u3, urow]) <;> (
      first
      | exact h.k17
      | (have a17 := h.k17
         clear h hi
         grind))
  · (try simp [zTN, zu, zrow, u3, urow]) <;> (
      first
      | exact h.k18
      | (have a18 := h.k18
         clear h hi
         grind))
  · (try simp [zTN, zu, zrow, u3, urow]) <;> (
      first
      | exact h.k19
      | (have a19 := h.k19
         clear h hi
         grind))
  · (try simp [zTN, zu, zrow, u3, urow]) <;> (
      first
      | exact h.k20
      | (have a20 := h.k20
         clear h hi
         grind))
  · (try simp [zTN, zu, zrow, u3, urow]) <;> (
      first
      | exact h.k21
      | (have a21 := h.k21
         clear h hi
         grind))
  · (try simp [zTN, zu, zrow, u3, urow]) <;> (
      first
      | exact h.k22
      | (have a22 := h.k22
         clear h hi
         grind))
theorem zEQ_TN {ko K : Nat} {A : zN} {Y M S : gY} {k : Nat} (h : zEQ ko A Y M S) (hi : zIV K A) (hk : k < A 0 0 0) (h0 : A 1 k 0 = 0) (hm : 0 < A 1 k 2) : zEQ ko (zTN A k) (u3 (u3 (u3 Y 2 (A 1 k 3) 1 (nI (A 1 k 2 - 1))) 1 k 4 (nI (A 4 (A 2 k 0) 0))) 1 k 5 (nI (A 4 (A 2 k 0) 3))) M (u3 (u3 (urow (u3 S 31 0 k (nI (A 1 k 2 - 1))) 32 0 (va_cpy (S 32 0) (S 32 0) (8 * k + 1) (8 * k) (A 1 k 2 - 1))) 25 0 k 1) 26 0 k (nI (A 2 k 0))) := by
  have hi1 := hi.k1
  have z0 : nI 0 = 0 := rfl
  have z1 : nI 1 = 1 := rfl
  have z2 : nI 2 = 2 := rfl
  have z3 : nI 3 = 3 := rfl
  have hk6 : k < 6 := by omega
  refine ⟨?_, ?_, ?_, ?_, ?_, ?_, ?_, ?_, ?_, ?_, ?_, ?_⟩
  · (try simp [zTN, zu, zrow, u3, urow]) <;> (
      first
      | exact h.k1
      | (have a1 := h.k1
         clear h hi
         grind))
  · (try simp [zTN, zu, zrow, u3, urow]) <;> (
      first
      | exact h.k2
      | (have a2 := h.k2
         clear h hi
         grind))
  · (try simp [zTN, zu, zrow, u3, urow]) <;> (
      first
      | exact h.k3
      | (have a3 := h.k3
         clear h hi
         grind))
  · (try simp [zTN, zu, zrow, u3, urow]) <;> (
      first
      | exact h.k4
      | (have a4 := h.k4
         clear h hi
         grind))
  · (try simp [zTN, zu, zrow, u3, urow]) <;> (
      first
      | exact h.k5
      | (have a5 := h.k5
         clear h hi
         grind))
  · (try simp [zTN, zu, zrow, u3, urow]) <;> (
      first
      | exact h.k6
      | (have a6 := h.k6
         clear h hi
         grind))
  · (try simp [zTN, zu, zrow, u3, urow]) <;> (
      first
      | exact h.k7
      | (have a7 := h.k7
         clear h hi
         grind))
  · (try simp [zTN, zu, zrow, u3, urow]) <;> (
      first
      | exact h.k8
      | (have a8 := h.k8
         clear h hi
         grind))
  · (try simp [zTN, zu, zrow, u3, urow]) <;> (
      first
      | exact h.k9
      | (have a9 := h.k9
         clear h hi
         grind))
  · (try simp [zTN, zu, zrow, u3, urow]) <;> (
      first
      | exact h.k10
      | (have a10 := h.k10
         clear h hi
         grind))
  · (try simp [zTN, zu, zrow, u3, urow]) <;> (
      first
      | exact h.k11
      | (have a11 := h.k11
         clear h hi
         grind))
  · (try simp [zTN, zu, zrow, u3, urow]) <;> (
      first
      | exact h.k12
      | (have a12 := h.k12
         clear h hi
         grind))
theorem zR_TN {ko K : Nat} {A : zN} {Y M S : gY} {k : Nat} (h : zR ko K A Y M S) (hk : k < A 0 0 0) (h0 : A 1 k 0 = 0) (hm : 0 < A 1 k 2) : zR ko (K) (zTN A k) (u3 (u3 (u3 Y 2 (A 1 k 3) 1 (nI (A 1 k 2 - 1))) 1 k 4 (nI (A 4 (A 2 k 0) 0))) 1 k 5 (nI (A 4 (A 2 k 0) 3))) M (u3 (u3 (urow (u3 S 31 0 k (nI (A 1 k 2 - 1))) 32 0 (va_cpy (S 32 0) (S 32 0) (8 * k + 1) (8 * k) (A 1 k 2 - 1))) 25 0 k 1) 26 0 k (nI (A 2 k 0))) :=
  ⟨zCL_TN h.1 h.2.2.2 hk h0 hm, zRF_TN h.2.1 h.2.2.2 hk h0 hm, zEQ_TN h.2.2.1 h.2.2.2 hk h0 hm, zIV_TN h.2.2.2 hk h0 hm⟩
theorem zIV_DR1 {K : Nat} {A : zN} {k : Nat} (hi : zIV K A) (hk : k < A 0 0 0) (h0 : A 1 k 0 = 1) (hl : A 4 (A 1 k 1) 4 = 0) : zIV (K) (zu A 1 k 0 0) := by
  have hi1 := hi.k1
  have z0 : nI 0 = 0 := rfl
  have z1 : nI 1 = 1 := rfl
  have z2 : nI 2 = 2 := rfl
  have z3 : nI 3 = 3 := rfl
  have hk6 : k < 6 := by omega
  refine ⟨?_, ?_, ?_, ?_, ?_, ?_, ?_, ?_, ?_, ?_, ?_, ?_, ?_, ?_, ?_, ?_, ?_, ?_, ?_, ?_, ?_, ?_, ?_, ?_⟩
  · (try simp [zu, zrow]) <;> (
      first
      | exact hi.k1
      | (have b1 := hi.k1
         clear hi
         grind))
  · (try simp [zu, zrow]) <;> (
      first
      | exact hi.k2
      | (have b2 := hi.k2
         clear hi
         grind))
  · (try simp [zu, zrow]) <;> (
      first
      | exact hi.k3
      | (have b3 := hi.k3
         clear hi
         grind))
  · (try simp [zu, zrow]) <;> (
      first
      | exact hi.k4
      | (have b4 := hi.k4
         clear hi
         grind))
  · (try simp [zu, zrow]) <;> (
      first
      | exact hi.k5
      | (have b5 := hi.k5
         clear hi
         grind))
  · (try simp [zu, zrow]) <;> (
      first
      | exact hi.k6
      | (have b6 := hi.k6
         clear hi
         grind))
  · (try simp [zu, zrow]) <;> (
      first
      | exact hi.k7
      | (have b7 := hi.k7
         clear hi
         grind))
  · (try simp [zu, zrow]) <;> (
      first
      | exact hi.k8
      | (have b8 := hi.k8
         clear hi
         grind))
  · (try simp [zu, zrow]) <;> (
      first
      | exact hi.k9
      | (have b9 := hi.k9
         clear hi
         grind))
  · (try simp [zu, zrow]) <;> (
      first
      | exact hi.k10
      | (have b10 := hi.k10
         clear hi
         grind))
  · (try simp [zu, zrow]) <;> (
      first
      | exact hi.k11
      | (have b11 := hi.k11
         clear hi
         grind))
  · (try simp [zu, zrow]) <;> (
      first
      | exact hi.k12
      | (have b12 := hi.k12
         clear hi
         grind))
  · (try simp [zu, zrow]) <;> (
      first
      | exact hi.k13
      | (have b13 := hi.k13
         clear hi
         grind))
  · (try simp [zu, zrow]) <;> (
      first
      | exact hi.k14
      | (have b14 := hi.k14
         clear hi
         grind))
  · (try simp [zu, zrow]) <;> (
      first
      | exact hi.k15
      | (have b15 := hi.k15
         clear hi
         grind))
  · (try simp [zu, zrow]) <;> (
      first
      | exact hi.k16
      | (have b16 := hi.k16
         clear hi
         grind))
  · (try simp [zu, zrow]) <;> (
      first
      | exact hi.k17
      | (have b17 := hi.k17
         clear hi
         grind))
  · (try simp [zu, zrow]) <;> (
      first
      | exact hi.k18
      | (have b18 := hi.k18
         clear hi
         grind))
  · (try simp [zu, zrow]) <;> (
      first
      | exact hi.k19
      | (have b19 := hi.k19
         clear hi
         grind))
  · (try simp [zu, zrow]) <;> (
      first
      | exact hi.k20
      | (have b20 := hi.k20
         clear hi
         grind))
  · (try simp [zu, zrow]) <;> (
      first
      | exact hi.k21
      | (have b21 := hi.k21
         clear hi
         grind))
  · (try simp [zu, zrow]) <;> (
      first
      | exact hi.k22
      | (have b22 := hi.k22
         clear hi
         grind))
  · (try simp [zu, zrow]) <;> (
      first
      | exact hi.k23
      | (have b23 := hi.k23
         clear hi
         grind))
  · (try simp [zu, zrow]) <;> (
      first
      | exact hi.k24
      | (have b24 := hi.k24
         clear hi
         grind))
theorem zCL_DR1 {K : Nat} {A : zN} {Y : gY} {k : Nat} (h : zCL A Y) (hi : zIV K A) (hk : k < A 0 0 0) (h0 : A 1 k 0 = 1) (hl : A 4 (A 1 k 1) 4 = 0) : zCL (zu A 1 k 0 0) (u3 Y 1 k 4 (-1)) := by
  have hi1 := hi.k1
  have z0 : nI 0 = 0 := rfl
  have z1 : nI 1 = 1 := rfl
  have z2 : nI 2 = 2 := rfl
  have z3 : nI 3 = 3 := rfl
  have hk6 : k < 6 := by omega
  refine ⟨?_, ?_, ?_, ?_, ?_, ?_, ?_, ?_, ?_, ?_, ?_, ?_, ?_, ?_, ?_, ?_, ?_, ?_, ?_⟩
  · (try simp [zu, zrow, u3, urow]) <;> (
      first
      | exact h.k1
      | (have a1 := h.k1
         clear h hi
         grind))
  · (try simp [zu, zrow, u3, urow]) <;> (
      first
      | exact h.k2
      | (have a2 := h.k2
         clear h hi
         grind))
  · (try simp [zu, zrow, u3, urow]) <;> (
      first
      | exact h.k3
      | (have a3 := h.k3
         clear h hi
         grind))
  · (try simp [zu, zrow, u3, urow]) <;> (
      first
      | exact h.k4
      | (have a4 := h.k4
         clear h hi
         grind))
  · (try simp [zu, zrow, u3, urow]) <;> (
      first
      | exact h.k5
      | (have a5 := h.k5
         clear h hi
         grind))
  · (try simp [zu, zrow, u3, urow]) <;> (
      first
      | exact h.k6
      | (have a6 := h.k6
         clear h hi
         grind))
  · (try simp [zu, zrow, u3, urow]) <;> (
      first
      | exact h.k7
      | (have a7 := h.k7
         clear h hi
         grind))
  · (try simp [zu, zrow, u3, urow]) <;> (
      first
      | exact h.k8
      | (have a8 := h.k8
         clear h hi
         grind))
  · (try simp [zu, zrow, u3, urow]) <;> (
      first
      | exact h.k9
      | (have a9 := h.k9
         clear h hi
         grind))
  · (try simp [zu, zrow, u3, urow]) <;> (
      first
      | exact h.k10
      | (have a10 := h.k10
         clear h hi
         grind))
  · (try simp [zu, zrow, u3, urow]) <;> (
      first
      | exact h.k11
      | (have a11 := h.k11
         clear h hi
         grind))
  · (try simp [zu, zrow, u3, urow]) <;> (
      first
      | exact h.k12
      | (have a12 := h.k12
         clear h hi
         grind))
  · (try simp [zu, zrow, u3, urow]) <;> (
      first
      | exact h.k13
      | (have a13 := h.k13
         clear h hi
         grind))
  · (try simp [zu, zrow, u3, urow]) <;> (
      first
      | exact h.k14
      | (have a14 := h.k14
         clear h hi
         grind))
  · (try simp [zu, zrow, u3, urow]) <;> (
      first
      | exact h.k15
      | (have a15 := h.k15
         clear h hi
         grind))
  · (try simp [zu, zrow, u3, urow]) <;> (
      first
      | exact h.k16
      | (have a16 := h.k16
         clear h hi
         grind))
  · (try simp [zu, zrow, u3, urow]) <;> (
      first
      | exact h.k17
      | (have a17 := h.k17
         clear h hi
         grind))
  · (try simp [zu, zrow, u3, urow]) <;> (
      first
      | exact h.k18
      | (have a18 := h.k18
         clear h hi
         grind))
  · (try simp [zu, zrow, u3, urow]) <;> (
      first
      | exact h.k19
      | (have a19 := h.k19
         clear h hi
         grind))
theorem zRF_DR1 {K : Nat} {A : zN} {M S : gY} {k : Nat} (h : zRF A M S) (hi : zIV K A) (hk : k < A 0 0 0) (h0 : A 1 k 0 = 1) (hl : A 4 (A 1 k 1) 4 = 0) : zRF (zu A 1 k 0 0) M (u3 S 25 0 k 0) := by
  have hi1 := hi.k1
  have z0 : nI 0 = 0 := rfl
  have z1 : nI 1 = 1 := rfl
  have z2 : nI 2 = 2 := rfl
  have z3 : nI 3 = 3 := rfl
  have hk6 : k < 6 := by omega
  refine ⟨?_, ?_, ?_, ?_, ?_, ?_, ?_, ?_, ?_, ?_, ?_, ?_, ?_, ?_, ?_, ?_, ?_, ?_, ?_, ?_, ?_, ?_⟩
  · (try simp [zu, zrow, u3, urow]) <;> (
      first
      | exact h.k1
      | (have a1 := h.k1
         clear h hi
         grind))
  · (try simp [zu, zrow, u3, urow]) <;> (
      first
      | exact h.k2
      | (have a2 := h.k2
         clear h hi
         grind))
  · (try simp [zu, zrow, u3, urow]) <;> (
      first
      | exact h.k3
      | (have a3 := h.k3
         clear h hi
         grind))
  · (try simp [zu, zrow, u3, urow]) <;> (
      first
      | exact h.k4
      | (have a4 := h.k4
         clear h hi
         grind))
  · (try simp [zu, zrow, u3, urow]) <;> (
      first
      | exact h.k5
      | (have a5 := h.k5
         clear h hi
         grind))
  · (try simp [zu, zrow, u3, urow]) <;> (
      first
      | exact h.k6
      | (have a6 := h.k6
         clear h hi
         grind))
  · (try simp [zu, zrow, u3, urow]) <;> (
      first
      | exact h.k7
      | (have a7 := h.k7
         clear h hi
         grind))
  · (try simp [zu, zrow, u3, urow]) <;> (
      first
      | exact h.k8
      | (have a8 := h.k8
         clear h hi
         grind))
  · (try simp [zu, zrow, u3, urow]) <;> (
      first
      | exact h.k9
      | (have a9 := h.k9
         clear h hi
         grind))
  · (try simp [zu, zrow, u3, urow]) <;> (
      first
      | exact h.k10
      | (have a10 := h.k10
         clear h hi
         grind))
  · (try simp [zu, zrow, u3, urow]) <;> (
      first
      | exact h.k11
      | (have a11 := h.k11
         clear h hi
         grind))
  · (try simp [zu, zrow, u3, urow]) <;> (
      first
      | exact h.k12
      | (have a12 := h.k12
         clear h hi
         grind))
  · (try simp [zu, zrow, u3, urow]) <;> (
      first
      | exact h.k13
      | (have a13 := h.k13
         clear h hi
         grind))
  · (try simp [zu, zrow, u3, urow]) <;> (
      first
      | exact h.k14
      | (have a14 := h.k14
         clear h hi
         grind))
  · (try simp [zu, zrow, u3, urow]) <;> (
      first
      | exact h.k15
      | (have a15 := h.k15
         clear h hi
         grind))
  · (try simp [zu, zrow, u3, urow]) <;> (
      first
      | exact h.k16
      | (have a16 := h.k16
         clear h hi
         grind))
  · (try simp [zu, zrow, u3, urow]) <;> (
      first
      | exact h.k17
      | (have a17 := h.k17
         clear h hi
         grind))
  · (try simp [zu, zrow, u3, urow]) <;> (
      first
      | exact h.k18
      | (have a18 := h.k18
         clear h hi
         grind))
  · (try simp [zu, zrow, u3, urow]) <;> (
      first
      | exact h.k19
      | (have a19 := h.k19
         clear h hi
         grind))
  · (try simp [zu, zrow, u3, urow]) <;> (
      first
      | exact h.k20
      | (have a20 := h.k20
         clear h hi
         grind))
  · (try simp [zu, zrow, u3, urow]) <;> (
      first
      | exact h.k21
      | (have a21 := h.k21
         clear h hi
         grind))
  · (try simp [zu, zrow, u3, urow]) <;> (
      first
      | exact h.k22
      | (have a22 := h.k22
         clear h hi
         grind))
theorem zEQ_DR1 {ko K : Nat} {A : zN} {Y M S : gY} {k : Nat} (h : zEQ ko A Y M S) (hi : zIV K A) (hk : k < A 0 0 0) (h0 : A 1 k 0 = 1) (hl : A 4 (A 1 k 1) 4 = 0) : zEQ ko (zu A 1 k 0 0) (u3 Y 1 k 4 (-1)) M (u3 S 25 0 k 0) := by
  have hi1 := hi.k1
  have z0 : nI 0 = 0 := rfl
  have z1 : nI 1 = 1 := rfl
  have z2 : nI 2 = 2 := rfl
  have z3 : nI 3 = 3 := rfl
  have hk6 : k < 6 := by omega
  refine ⟨?_, ?_, ?_, ?_, ?_, ?_, ?_, ?_, ?_, ?_, ?_, ?_⟩
  · (try simp [zu, zrow, u3, urow]) <;> (
      first
      | exact h.k1
      | (have a1 := h.k1
         clear h hi
         grind))
  · (try simp [zu, zrow, u3, urow]) <;> (
      first
      | exact h.k2
      | (have a2 := h.k2
         clear h hi
         grind))
  · (try simp [zu, zrow, u3, urow]) <;> (
      first
      | exact h.k3
      | (have a3 := h.k3
         clear h hi
         grind))
  · (try simp [zu, zrow, u3, urow]) <;> (
      first
      | exact h.k4
      | (have a4 := h.k4
         clear h hi
         grind))
  · (try simp [zu, zrow, u3, urow]) <;> (
      first
      | exact h.k5
      | (have a5 := h.k5
         clear h hi
         grind))
  · (try simp [zu, zrow, u3, urow]) <;> (
      first
      | exact h.k6
      | (have a6 := h.k6
         clear h hi
         grind))
  · (try simp [zu, zrow, u3, urow]) <;> (
      first
      | exact h.k7
      | (have a7 := h.k7
         clear h hi
         grind))
  · (try simp [zu, zrow, u3, urow]) <;> (
      first
      | exact h.k8
      | (have a8 := h.k8
         clear h hi
         grind))
  · (try simp [zu, zrow, u3, urow]) <;> (
      first
      | exact h.k9
      | (have a9 := h.k9
         clear h hi
         grind))
  · (try simp [zu, zrow, u3, urow]) <;> (
      first
      | exact h.k10
      | (have a10 := h.k10
         clear h hi
         grind))
  · (try simp [zu, zrow, u3, urow]) <;> (
      first
      | exact h.k11
      | (have a11 := h.k11
         clear h hi
         grind))
  · (try simp [zu, zrow, u3, urow]) <;> (
      first
      | exact h.k12
      | (have a12 := h.k12
         clear h hi
         grind))
theorem zR_DR1 {ko K : Nat} {A : zN} {Y M S : gY} {k : Nat} (h : zR ko K A Y M S) (hk : k < A 0 0 0) (h0 : A 1 k 0 = 1) (hl : A 4 (A 1 k 1) 4 = 0) : zR ko (K) (zu A 1 k 0 0) (u3 Y 1 k 4 (-1)) M (u3 S 25 0 k 0) :=
  ⟨zCL_DR1 h.1 h.2.2.2 hk h0 hl, zRF_DR1 h.2.1 h.2.2.2 hk h0 hl, zEQ_DR1 h.2.2.1 h.2.2.2 hk h0 hl, zIV_DR1 h.2.2.2 hk h0 hl⟩
theorem zIV_DR2 {K : Nat} {A : zN} {k : Nat} (hi : zIV K A) (hk : k < A 0 0 0) (h0 : A 1 k 0 = 2) : zIV (K) (zu A 1 k 0 0) := by
  have hi1 := hi.k1
  have z0 : nI 0 = 0 := rfl
  have z1 : nI 1 = 1 := rfl
  have z2 : nI 2 = 2 := rfl
  have z3 : nI 3 = 3 := rfl
  have hk6 : k < 6 := by omega
  refine ⟨?_, ?_, ?_, ?_, ?_, ?_, ?_, ?_, ?_, ?_, ?_, ?_, ?_, ?_, ?_, ?_, ?_, ?_, ?_, ?_, ?_, ?_, ?_, ?_⟩
  · (try simp [zu, zrow]) <;> (
      first
      | exact hi.k1
      | (have b1 := hi.k1
         clear hi
         grind))
  · (try simp [zu, zrow]) <;> (
      first
      | exact hi.k2
      | (have b2 := hi.k2
         clear hi
         grind))
  · (try simp [zu, zrow]) <;> (
      first
      | exact hi.k3
      | (have b3 := hi.k3
         clear hi
         grind))
  · (try simp [zu, zrow]) <;> (
      first
      | exact hi.k4
      | (have b4 := hi.k4
         clear hi
         grind))
  · (try simp [zu, zrow]) <;> (
      first
      | exact hi.k5
      | (have b5 := hi.k5
         clear hi
         grind))
  · (try simp [zu, zrow]) <;> (
      first
      | exact hi.k6
      | (have b6 := hi.k6
         clear hi
         grind))
  · (try simp [zu, zrow]) <;> (
      first
      | exact hi.k7
      | (have b7 := hi.k7
         clear hi
         grind))
  · (try simp [zu, zrow]) <;> (
      first
      | exact hi.k8
      | (have b8 := hi.k8
         clear hi
         grind))
  · (try simp [zu, zrow]) <;> (
      first
      | exact hi.k9
      | (have b9 := hi.k9
         clear hi
         grind))
  · (try simp [zu, zrow]) <;> (
      first
      | exact hi.k10
      | (have b10 := hi.k10
         clear hi
         grind))
  · (try simp [zu, zrow]) <;> (
      first
      | exact hi.k11
      | (have b11 := hi.k11
         clear hi
         grind))
  · (try simp [zu, zrow]) <;> (
      first
      | exact hi.k12
      | (have b12 := hi.k12
         clear hi
         grind))
  · (try simp [zu, zrow]) <;> (
      first
      | exact hi.k13
      | (have b13 := hi.k13
         clear hi
         grind))
  · (try simp [zu, zrow]) <;> (
      first
      | exact hi.k14
      | (have b14 := hi.k14
         clear hi
         grind))
  · (try simp [zu, zrow]) <;> (
      first
      | exact hi.k15
      | (have b15 := hi.k15
         clear hi
         grind))
  · (try simp [zu, zrow]) <;> (
      first
      | exact hi.k16
      | (have b16 := hi.k16
         clear hi
         grind))
  · (try simp [zu, zrow]) <;> (
      first
      | exact hi.k17
      | (have b17 := hi.k17
         clear hi
         grind))
  · (try simp [zu, zrow]) <;> (
      first
      | exact hi.k18
      | (have b18 := hi.k18
         clear hi
         grind))
  · (try simp [zu, zrow]) <;> (
      first
      | exact hi.k19
      | (have b19 := hi.k19
         clear hi
         grind))
  · (try simp [zu, zrow]) <;> (
      first
      | exact hi.k20
      | (have b20 := hi.k20
         clear hi
         grind))
  · (try simp [zu, zrow]) <;> (
      first
      | exact hi.k21
      | (have b21 := hi.k21
         clear hi
         grind))
  · (try simp [zu, zrow]) <;> (
      first
      | exact hi.k22
      | (have b22 := hi.k22
         clear hi
         grind))
  · (try simp [zu, zrow]) <;> (
      first
      | exact hi.k23
      | (have b23 := hi.k23
         clear hi
         grind))
  · (try simp [zu, zrow]) <;> (
      first
      | exact hi.k24
      | (have b24 := hi.k24
         clear hi
         grind))
theorem zCL_DR2 {K : Nat} {A : zN} {Y : gY} {k : Nat} (h : zCL A Y) (hi : zIV K A) (hk : k < A 0 0 0) (h0 : A 1 k 0 = 2) : zCL (zu A 1 k 0 0) (u3 Y 1 k 6 (-1)) := by
  have hi1 := hi.k1
  have z0 : nI 0 = 0 := rfl
  have z1 : nI 1 = 1 := rfl
  have z2 : nI 2 = 2 := rfl
  have z3 : nI 3 = 3 := rfl
  have hk6 : k < 6 := by omega
  refine ⟨?_, ?_, ?_, ?_, ?_, ?_, ?_, ?_, ?_, ?_, ?_, ?_, ?_, ?_, ?_, ?_, ?_, ?_, ?_⟩
  · (try simp [zu, zrow, u3, urow]) <;> (
      first
      | exact h.k1
      | (have a1 := h.k1
         clear h hi
         grind))
  · (try simp [zu, zrow, u3, urow]) <;> (
      first
      | exact h.k2
      | (have a2 := h.k2
         clear h hi
         grind))
  · (try simp [zu, zrow, u3, urow]) <;> (
      first
      | exact h.k3
      | (have a3 := h.k3
         clear h hi
         grind))
  · (try simp [zu, zrow, u3, urow]) <;> (
      first
      | exact h.k4
      | (have a4 := h.k4
         clear h hi
         grind))
  · (try simp [zu, zrow, u3, urow]) <;> (
      first
      | exact h.k5
      | (have a5 := h.k5
         clear h hi
         grind))
  · (try simp [zu, zrow, u3, urow]) <;> (
      first
      | exact h.k6
      | (have a6 := h.k6
         clear h hi
         grind))
  · (try simp [zu, zrow, u3, urow]) <;> (
      first
      | exact h.k7
      | (have a7 := h.k7
         clear h hi
         grind))
  · (try simp [zu, zrow, u3, urow]) <;> (
      first
      | exact h.k8
      | (have a8 := h.k8
         clear h hi
         grind))
  · (try simp [zu, zrow, u3, urow]) <;> (
      first
      | exact h.k9
      | (have a9 := h.k9
         clear h hi
         grind))
  · (try simp [zu, zrow, u3, urow]) <;> (
      first
      | exact h.k10
      | (have a10 := h.k10
         clear h hi
         grind))
  · (try simp [zu, zrow, u3, urow]) <;> (
      first
      | exact h.k11
      | (have a11 := h.k11
         clear h hi
         grind))
  · (try simp [zu, zrow, u3, urow]) <;> (
      first
      | exact h.k12
      | (have a12 := h.k12
         clear h hi
         grind))
  · (try simp [zu, zrow, u3, urow]) <;> (
      first
      | exact h.k13
      | (have a13 := h.k13
         clear h hi
         grind))
  · (try simp [zu, zrow, u3, urow]) <;> (
      first
      | exact h.k14
      | (have a14 := h.k14
         clear h hi
         grind))
  · (try simp [zu, zrow, u3, urow]) <;> (
      first
      | exact h.k15
      | (have a15 := h.k15
         clear h hi
         grind))
  · (try simp [zu, zrow, u3, urow]) <;> (
      first
      | exact h.k16
      | (have a16 := h.k16
         clear h hi
         grind))
  · (try simp [zu, zrow, u3, urow]) <;> (
      first
      | exact h.k17
      | (have a17 := h.k17
         clear h hi
         grind))
  · (try simp [zu, zrow, u3, urow]) <;> (
      first
      | exact h.k18
      | (have a18 := h.k18
         clear h hi
         grind))
  · (try simp [zu, zrow, u3, urow]) <;> (
      first
      | exact h.k19
      | (have a19 := h.k19
         clear h hi
         grind))
theorem zRF_DR2 {K : Nat} {A : zN} {M S : gY} {k : Nat} (h : zRF A M S) (hi : zIV K A) (hk : k < A 0 0 0) (h0 : A 1 k 0 = 2) : zRF (zu A 1 k 0 0) M (u3 S 25 0 k 0) := by
  have hi1 := hi.k1
  have z0 : nI 0 = 0 := rfl
  have z1 : nI 1 = 1 := rfl
  have z2 : nI 2 = 2 := rfl
  have z3 : nI 3 = 3 := rfl
  have hk6 : k < 6 := by omega
  refine ⟨?_, ?_, ?_, ?_, ?_, ?_, ?_, ?_, ?_, ?_, ?_, ?_, ?_, ?_, ?_, ?_, ?_, ?_, ?_, ?_, ?_, ?_⟩
  · (try simp [zu, zrow, u3, urow]) <;> (
      first
      | exact h.k1
      | (have a1 := h.k1
         clear h hi
         grind))
  · (try simp [zu, zrow, u3, urow]) <;> (
      first
      | exact h.k2
      | (have a2 := h.k2
         clear h hi
         grind))
  · (try simp [zu, zrow, u3, urow]) <;> (
      first
      | exact h.k3
      | (have a3 := h.k3
         clear h hi
         grind))
  · (try simp [zu, zrow, u3, urow]) <;> (
      first
      | exact h.k4
      | (have a4 := h.k4
         clear h hi
         grind))
  · (try simp [zu, zrow, u3, urow]) <;> (
      first
      | exact h.k5
      | (have a5 := h.k5
         clear h hi
         grind))
  · (try simp [zu, zrow, u3, urow]) <;> (
      first
      | exact h.k6
      | (have a6 := h.k6
         clear h hi
         grind))
  · (try simp [zu, zrow, u3, urow]) <;> (
      first
      | exact h.k7
      | (have a7 := h.k7
         clear h hi
         grind))
  · (try simp [zu, zrow, u3, urow]) <;> (
      first
      | exact h.k8
      | (have a8 := h.k8
         clear h hi
         grind))
  · (try simp [zu, zrow, u3, urow]) <;> (
      first
      | exact h.k9
      | (have a9 := h.k9
         clear h hi
         grind))
  · (try simp [zu, zrow, u3, urow]) <;> (
      first
      | exact h.k10
      | (have a10 := h.k10
         clear h hi
         grind))
  · (try simp [zu, zrow, u3, urow]) <;> (
      first
      | exact h.k11
      | (have a11 := h.k11
         clear h hi
         grind))
  · (try simp [zu, zrow, u3, urow]) <;> (
      first
      | exact h.k12
      | (have a12 := h.k12
         clear h hi
         grind))
  · (try simp [zu, zrow, u3, urow]) <;> (
      first
      | exact h.k13
      | (have a13 := h.k13
         clear h hi
         grind))
  · (try simp [zu, zrow, u3, urow]) <;> (
      first
      | exact h.k14
      | (have a14 := h.k14
         clear h hi
         grind))
  · (try simp [zu, zrow, u3, urow]) <;> (
      first
      | exact h.k15
      | (have a15 := h.k15
         clear h hi
         grind))
  · (try simp [zu, zrow, u3, urow]) <;> (
      first
      | exact h.k16
      | (have a16 := h.k16
         clear h hi
         grind))
  · (try simp [zu, zrow, u3, urow]) <;> (
      first
      | exact h.k17
      | (have a17 := h.k17
         clear h hi
         grind))
  · (try simp [zu, zrow, u3, urow]) <;> (
      first
      | exact h.k18
      | (have a18 := h.k18
         clear h hi
         grind))
  · (try simp [zu, zrow, u3, urow]) <;> (
      first
      | exact h.k19
      | (have a19 := h.k19
         clear h hi
         grind))
  · (try simp [zu, zrow, u3, urow]) <;> (
      first
      | exact h.k20
      | (have a20 := h.k20
         clear h hi
         grind))
  · (try simp [zu, zrow, u3, urow]) <;> (
      first
      | exact h.k21
      | (have a21 := h.k21
         clear h hi
         grind))
  · (try simp [zu, zrow, u3, urow]) <;> (
      first
      | exact h.k22
      | (have a22 := h.k22
         clear h hi
         grind))
theorem zEQ_DR2 {ko K : Nat} {A : zN} {Y M S : gY} {k : Nat} (h : zEQ ko A Y M S) (hi : zIV K A) (hk : k < A 0 0 0) (h0 : A 1 k 0 = 2) : zEQ ko (zu A 1 k 0 0) (u3 Y 1 k 6 (-1)) M (u3 S 25 0 k 0) := by
  have hi1 := hi.k1
  have z0 : nI 0 = 0 := rfl
  have z1 : nI 1 = 1 := rfl
  have z2 : nI 2 = 2 := rfl
  have z3 : nI 3 = 3 := rfl
  have hk6 : k < 6 := by omega
  refine ⟨?_, ?_, ?_, ?_, ?_, ?_, ?_, ?_, ?_, ?_, ?_, ?_⟩
  · (try simp [zu, zrow, u3, urow]) <;> (
      first
      | exact h.k1
      | (have a1 := h.k1
         clear h hi
         grind))
  · (try simp [zu, zrow, u3, urow]) <;> (
      first
      | exact h.k2
      | (have a2 := h.k2
         clear h hi
         grind))
  · (try simp [zu, zrow, u3, urow]) <;> (
      first
      | exact h.k3
      | (have a3 := h.k3
         clear h hi
         grind))
  · (try simp [zu, zrow, u3, urow]) <;> (
      first
      | exact h.k4
      | (have a4 := h.k4
         clear h hi
         grind))
  · (try simp [zu, zrow, u3, urow]) <;> (
      first
      | exact h.k5
      | (have a5 := h.k5
         clear h hi
         grind))
  · (try simp [zu, zrow, u3, urow]) <;> (
      first
      | exact h.k6
      | (have a6 := h.k6
         clear h hi
         grind))
  · (try simp [zu, zrow, u3, urow]) <;> (
      first
      | exact h.k7
      | (have a7 := h.k7
         clear h hi
         grind))
  · (try simp [zu, zrow, u3, urow]) <;> (
      first
      | exact h.k8
      | (have a8 := h.k8
         clear h hi
         grind))
  · (try simp [zu, zrow, u3, urow]) <;> (
      first
      | exact h.k9
      | (have a9 := h.k9
         clear h hi
         grind))
  · (try simp [zu, zrow, u3, urow]) <;> (
      first
      | exact h.k10
      | (have a10 := h.k10
         clear h hi
         grind))
  · (try simp [zu, zrow, u3, urow]) <;> (
      first
      | exact h.k11
      | (have a11 := h.k11
         clear h hi
         grind))
  · (try simp [zu, zrow, u3, urow]) <;> (
      first
      | exact h.k12
      | (have a12 := h.k12
         clear h hi
         grind))
theorem zR_DR2 {ko K : Nat} {A : zN} {Y M S : gY} {k : Nat} (h : zR ko K A Y M S) (hk : k < A 0 0 0) (h0 : A 1 k 0 = 2) : zR ko (K) (zu A 1 k 0 0) (u3 Y 1 k 6 (-1)) M (u3 S 25 0 k 0) :=
  ⟨zCL_DR2 h.1 h.2.2.2 hk h0, zRF_DR2 h.2.1 h.2.2.2 hk h0, zEQ_DR2 h.2.2.1 h.2.2.2 hk h0, zIV_DR2 h.2.2.2 hk h0⟩
theorem zIV_DN {K : Nat} {A : zN} {k q : Nat} (hi : zIV K A) (hk : k < A 0 0 0) (h0 : A 1 k 0 = 0) (hq : q < A 0 0 2) : zIV (K) (zu A 4 q 5 1) := by
  have hi1 := hi.k1
  have z0 : nI 0 = 0 := rfl
  have z1 : nI 1 = 1 := rfl
  have z2 : nI 2 = 2 := rfl
  have z3 : nI 3 = 3 := rfl
  have hk6 : k < 6 := by omega
  refine ⟨?_, ?_, ?_, ?_, ?_, ?_, ?_, ?_, ?_, ?_, ?_, ?_, ?_, ?_, ?_, ?_, ?_, ?_, ?_, ?_, ?_, ?_, ?_, ?_⟩
  · (try simp [zu, zrow]) <;> (
      first
      | exact hi.k1
      | (have b1 := hi.k1
         clear hi
         grind))
  · (try simp [zu, zrow]) <;> (
      first
      | exact hi.k2
      | (have b2 := hi.k2
         clear hi
         grind))
  · (try simp [zu, zrow]) <;> (
      first
      | exact hi.k3
      | (have b3 := hi.k3
         clear hi
         grind))
  · (try simp [zu, zrow]) <;> (
      first
      | exact hi.k4
      | (have b4 := hi.k4
         clear hi
         grind))
  · (try simp [zu, zrow]) <;> (
      first
      | exact hi.k5
      | (have b5 := hi.k5
         clear hi
         grind))
  · (try simp [zu, zrow]) <;> (
      first
      | exact hi.k6
      | (have b6 := hi.k6
         clear hi
         grind))
  · (try simp [zu, zrow]) <;> (
      first
      | exact hi.k7
      | (have b7 := hi.k7
         clear hi
         grind))
  · (try simp [zu, zrow]) <;> (
      first
      | exact hi.k8
      | (have b8 := hi.k8
         clear hi
         grind))
  · (try simp [zu, zrow]) <;> (
      first
      | exact hi.k9
      | (have b9 := hi.k9
         clear hi
         grind))
  · (try simp [zu, zrow]) <;> (
      first
      | exact hi.k10
      | (have b10 := hi.k10
         clear hi
         grind))
  · (try simp [zu, zrow]) <;> (
      first
      | exact hi.k11
      | (have b11 := hi.k11
         clear hi
         grind))
  · (try simp [zu, zrow]) <;> (
      first
      | exact hi.k12
      | (have b12 := hi.k12
         clear hi
         grind))
  · (try simp [zu, zrow]) <;> (
      first
      | exact hi.k13
      | (have b13 := hi.k13
         clear hi
         grind))
  · (try simp [zu, zrow]) <;> (
      first
      | exact hi.k14
      | (have b14 := hi.k14
         clear hi
         grind))
  · (try simp [zu, zrow]) <;> (
      first
      | exact hi.k15
      | (have b15 := hi.k15
         clear hi
         grind))
  · (try simp [zu, zrow]) <;> (
      first
      | exact hi.k16
      | (have b16 := hi.k16
         clear hi
         grind))
  · (try simp [zu, zrow]) <;> (
      first
      | exact hi.k17
      | (have b17 := hi.k17
         clear hi
         grind))
  · (try simp [zu, zrow]) <;> (
      first
      | exact hi.k18
      | (have b18 := hi.k18
         clear hi
         grind))
  · (try simp [zu, zrow]) <;> (
      first
      | exact hi.k19
      | (have b19 := hi.k19
         clear hi
         grind))
  · (try simp [zu, zrow]) <;> (
      first
      | exact hi.k20
      | (have b20 := hi.k20
         clear hi
         grind))
  · (try simp [zu, zrow]) <;> (
      first
      | exact hi.k21
      | (have b21 := hi.k21
         clear hi
         grind))
  · (try simp [zu, zrow]) <;> (
      first
      | exact hi.k22
      | (have b22 := hi.k22
         clear hi
         grind))
  · (try simp [zu, zrow]) <;> (
      first
      | exact hi.k23
      | (have b23 := hi.k23
         clear hi
         grind))
  · (try simp [zu, zrow]) <;> (
      first
      | exact hi.k24
      | (have b24 := hi.k24
         clear hi
         grind))
theorem zCL_DN {K : Nat} {A : zN} {Y : gY} {k q : Nat} (h : zCL A Y) (hi : zIV K A) (hk : k < A 0 0 0) (h0 : A 1 k 0 = 0) (hq : q < A 0 0 2) : zCL (zu A 4 q 5 1) (u3 (u3 Y 1 k 4 (-1)) 6 0 (A 4 q 0) 1) := by
  have hi1 := hi.k1
  have z0 : nI 0 = 0 := rfl
  have z1 : nI 1 = 1 := rfl
  have z2 : nI 2 = 2 := rfl
  have z3 : nI 3 = 3 := rfl
  have hk6 : k < 6 := by omega
  refine ⟨?_, ?_, ?_, ?_, ?_, ?_, ?_, ?_, ?_, ?_, ?_, ?_, ?_, ?_, ?_, ?_, ?_, ?_, ?_⟩
  · (try simp [zu, zrow, u3, urow]) <;> (
      first
      | exact h.k1
      | (have a1 := h.k1
         clear h hi
         grind))
  · (try simp [zu, zrow, u3, urow]) <;> (
      first
      | exact h.k2
      | (have a2 := h.k2
         clear h hi
         grind))
  · (try simp [zu, zrow, u3, urow]) <;> (
      first
      | exact h.k3
      | (have a3 := h.k3
         clear h hi
         grind))
  · (try simp [zu, zrow, u3, urow]) <;> (
      first
      | exact h.k4
      | (have a4 := h.k4
         clear h hi
         grind))
  · (try simp [zu, zrow, u3, urow]) <;> (
      first
      | exact h.k5
      | (have a5 := h.k5
         clear h hi
         grind))
  · (try simp [zu, zrow, u3, urow]) <;> (
      first
      | exact h.k6
      | (have a6 := h.k6
         clear h hi
         grind))
  · (try simp [zu, zrow, u3, urow]) <;> (
      first
      | exact h.k7
      | (have a7 := h.k7
         clear h hi
         grind))
  · (try simp [zu, zrow, u3, urow]) <;> (
      first
      | exact h.k8
      | (have a8 := h.k8
         clear h hi
         grind))
  · (try simp [zu, zrow, u3, urow]) <;> (
      first
      | exact h.k9
      | (have a9 := h.k9
         clear h hi
         grind))
  · (try simp [zu, zrow, u3, urow]) <;> (
      first
      | exact h.k10
      | (have a10 := h.k10
         clear h hi
         grind))
  · (try simp [zu, zrow, u3, urow]) <;> (
      first
      | exact h.k11
      | (have a11 := h.k11
         clear h hi
         grind))
  · (try simp [zu, zrow, u3, urow]) <;> (
      first
      | exact h.k12
      | (have a12 := h.k12
         clear h hi
         grind))
  · (try simp [zu, zrow, u3, urow]) <;> (
      first
      | exact h.k13
      | (have a13 := h.k13
         clear h hi
         grind))
  · (try simp [zu, zrow, u3, urow]) <;> (
      first
      | exact h.k14
      | (have a14 := h.k14
         clear h hi
         grind))
  · (try simp [zu, zrow, u3, urow]) <;> (
      first
      | exact h.k15
      | (have a15 := h.k15
         clear h hi
         grind))
  · (try simp [zu, zrow, u3, urow]) <;> (
      first
      | exact h.k16
      | (have a16 := h.k16
         clear h hi
         grind))
  · (try simp [zu, zrow, u3, urow]) <;> (
      first
      | exact h.k17
      | (have a17 := h.k17
         clear h hi
         grind))
  · (try simp [zu, zrow, u3, urow]) <;> (
      first
      | exact h.k18
      | (have a18 := h.k18
         have b14 := hi.k14
         clear h hi
         grind))
  · (try simp [zu, zrow, u3, urow]) <;> (
      first
      | exact h.k19
      | (have a19 := h.k19
         clear h hi
         grind))
theorem zRF_DN {K : Nat} {A : zN} {M S : gY} {k q : Nat} (h : zRF A M S) (hi : zIV K A) (hk : k < A 0 0 0) (h0 : A 1 k 0 = 0) (hq : q < A 0 0 2) : zRF (zu A 4 q 5 1) M (u3 (u3 S 45 0 q 1) 25 0 k 0) := by
  have hi1 := hi.k1
  have z0 : nI 0 = 0 := rfl
  have z1 : nI 1 = 1 := rfl
  have z2 : nI 2 = 2 := rfl
  have z3 : nI 3 = 3 := rfl
  have hk6 : k < 6 := by omega
  refine ⟨?_, ?_, ?_, ?_, ?_, ?_, ?_, ?_, ?_, ?_, ?_, ?_, ?_, ?_, ?_, ?_, ?_, ?_, ?_, ?_, ?_, ?_⟩
  · (try simp [zu, zrow, u3, urow]) <;> (
      first
      | exact h.k1
      | (have a1 := h.k1
         clear h hi
         grind))
  · (try simp [zu, zrow, u3, urow]) <;> (
      first
      | exact h.k2
      | (have a2 := h.k2
         clear h hi
         grind))
  · (try simp [zu, zrow, u3, urow]) <;> (
      first
      | exact h.k3
      | (have a3 := h.k3
         clear h hi
         grind))
  · (try simp [zu, zrow, u3, urow]) <;> (
      first
      | exact h.k4
      | (have a4 := h.k4
         clear h hi
         grind))
  · (try simp [zu, zrow, u3, urow]) <;> (
      first
      | exact h.k5
      | (have a5 := h.k5
         clear h hi
         grind))
  · (try simp [zu, zrow, u3, urow]) <;> (
      first
      | exact h.k6
      | (have a6 := h.k6
         clear h hi
         grind))
  · (try simp [zu, zrow, u3, urow]) <;> (
      first
      | exact h.k7
      | (have a7 := h.k7
         clear h hi
         grind))
  · (try simp [zu, zrow, u3, urow]) <;> (
      first
      | exact h.k8
      | (have a8 := h.k8
         clear h hi
         grind))
  · (try simp [zu, zrow, u3, urow]) <;> (
      first
      | exact h.k9
      | (have a9 := h.k9
         clear h hi
         grind))
  · (try simp [zu, zrow, u3, urow]) <;> (
      first
      | exact h.k10
      | (have a10 := h.k10
         clear h hi
         grind))
  · (try simp [zu, zrow, u3, urow]) <;> (
      first
      | exact h.k11
      | (have a11 := h.k11
         clear h hi
         grind))
  · (try simp [zu, zrow, u3, urow]) <;> (
      first
      | exact h.k12
      | (have a12 := h.k12
         clear h hi
         grind))
  · (try simp [zu, zrow, u3, urow]) <;> (
      first
      | exact h.k13
      | (have a13 := h.k13
         clear h hi
         grind))
  · (try simp [zu, zrow, u3, urow]) <;> (
      first
      | exact h.k14
      | (have a14 := h.k14
         clear h hi
         grind))
  · (try simp [zu, zrow, u3, urow]) <;> (
      first
      | exact h.k15
      | (have a15 := h.k15
         clear h hi
         grind))
  · (try simp [zu, zrow, u3, urow]) <;> (
      first
      | exact h.k16
      | (have a16 := h.k16
         clear h hi
         grind))
  · (try simp [zu, zrow, u3, urow]) <;> (
      first
      | exact h.k17
      | (have a17 := h.k17
         clear h hi
         grind))
  · (try simp [zu, zrow, u3, urow]) <;> (
      first
      | exact h.k18
      | (have a18 := h.k18
         clear h hi
         grind))
  · (try simp [zu, zrow, u3, urow]) <;> (
      first
      | exact h.k19
      | (have a19 := h.k19
         clear h hi
         grind))
  · (try simp [zu, zrow, u3, urow]) <;> (
      first
      | exact h.k20
      | (have a20 := h.k20
         clear h hi
         grind))
  · (try simp [zu, zrow, u3, urow]) <;> (
      first
      | exact h.k21
      | (have a21 := h.k21
         clear h hi
         grind))
  · (try simp [zu, zrow, u3, urow]) <;> (
      first
      | exact h.k22
      | (have a22 := h.k22
         clear h hi
         grind))
theorem zEQ_DN {ko K : Nat} {A : zN} {Y M S : gY} {k q : Nat} (h : zEQ ko A Y M S) (hi : zIV K A) (hk : k < A 0 0 0) (h0 : A 1 k 0 = 0) (hq : q < A 0 0 2) : zEQ ko (zu A 4 q 5 1) (u3 (u3 Y 1 k 4 (-1)) 6 0 (A 4 q 0) 1) M (u3 (u3 S 45 0 q 1) 25 0 k 0) := by
  have hi1 := hi.k1
  have z0 : nI 0 = 0 := rfl
  have z1 : nI 1 = 1 := rfl
  have z2 : nI 2 = 2 := rfl
  have z3 : nI 3 = 3 := rfl
  have hk6 : k < 6 := by omega
  refine ⟨?_, ?_, ?_, ?_, ?_, ?_, ?_, ?_, ?_, ?_, ?_, ?_⟩
  · (try simp [zu, zrow, u3, urow]) <;> (
      first
      | exact h.k1
      | (have a1 := h.k1
         clear h hi
         grind))
  · (try simp [zu, zrow, u3, urow]) <;> (
      first
      | exact h.k2
      | (have a2 := h.k2
         clear h hi
         grind))
  · (try simp [zu, zrow, u3, urow]) <;> (
      first
      | exact h.k3
      | (have a3 := h.k3
         clear h hi
         grind))
  · (try simp [zu, zrow, u3, urow]) <;> (
      first
      | exact h.k4
      | (have a4 := h.k4
         clear h hi
         grind))
  · (try simp [zu, zrow, u3, urow]) <;> (
      first
      | exact h.k5
      | (have a5 := h.k5
         clear h hi
         grind))
  · (try simp [zu, zrow, u3, urow]) <;> (
      first
      | exact h.k6
      | (have a6 := h.k6
         clear h hi
         grind))
  · (try simp [zu, zrow, u3, urow]) <;> (
      first
      | exact h.k7
      | (have a7 := h.k7
         clear h hi
         grind))
  · (try simp [zu, zrow, u3, urow]) <;> (
      first
      | exact h.k8
      | (have a8 := h.k8
         clear h hi
         grind))
  · (try simp [zu, zrow, u3, urow]) <;> (
      first
      | exact h.k9
      | (have a9 := h.k9
         clear h hi
         grind))
  · (try simp [zu, zrow, u3, urow]) <;> (
      first
      | exact h.k10
      | (have a10 := h.k10
         clear h hi
         grind))
  · (try simp [zu, zrow, u3, urow]) <;> (
      first
      | exact h.k11
      | (have a11 := h.k11
         clear h hi
         grind))
  · (try simp [zu, zrow, u3, urow]) <;> (
      first
      | exact h.k12
      | (have a12 := h.k12
         clear h hi
         grind))
theorem zR_DN {ko K : Nat} {A : zN} {Y M S : gY} {k q : Nat} (h : zR ko K A Y M S) (hk : k < A 0 0 0) (h0 : A 1 k 0 = 0) (hq : q < A 0 0 2) : zR ko (K) (zu A 4 q 5 1) (u3 (u3 Y 1 k 4 (-1)) 6 0 (A 4 q 0) 1) M (u3 (u3 S 45 0 q 1) 25 0 k 0) :=
  ⟨zCL_DN h.1 h.2.2.2 hk h0 hq, zRF_DN h.2.1 h.2.2.2 hk h0 hq, zEQ_DN h.2.2.1 h.2.2.2 hk h0 hq, zIV_DN h.2.2.2 hk h0 hq⟩
theorem zIV_SD {K : Nat} {A : zN} {j : Nat} (hi : zIV K A) (hj : j < A 0 0 1) : zIV (K) (zu A 3 j 0 2) := by
  have hi1 := hi.k1
  have z0 : nI 0 = 0 := rfl
  have z1 : nI 1 = 1 := rfl
  have z2 : nI 2 = 2 := rfl
  have z3 : nI 3 = 3 := rfl
  refine ⟨?_, ?_, ?_, ?_, ?_, ?_, ?_, ?_, ?_, ?_, ?_, ?_, ?_, ?_, ?_, ?_, ?_, ?_, ?_, ?_, ?_, ?_, ?_, ?_⟩
  · (try simp [zu, zrow]) <;> (
      first
      | exact hi.k1
      | (have b1 := hi.k1
         clear hi
         grind))
  · (try simp [zu, zrow]) <;> (
      first
      | exact hi.k2
      | (have b2 := hi.k2
         clear hi
         grind))
  · (try simp [zu, zrow]) <;> (
      first
      | exact hi.k3
      | (have b3 := hi.k3
         clear hi
         grind))
  · (try simp [zu, zrow]) <;> (
      first
      | exact hi.k4
      | (have b4 := hi.k4
         clear hi
         grind))
  · (try simp [zu, zrow]) <;> (
      first
      | exact hi.k5
      | (have b5 := hi.k5
         clear hi
         grind))
  · (try simp [zu, zrow]) <;> (
      first
      | exact hi.k6
      | (have b6 := hi.k6
         clear hi
         grind))
  · (try simp [zu, zrow]) <;> (
      first
      | exact hi.k7
      | (have b7 := hi.k7
         clear hi
         grind))
  · (try simp [zu, zrow]) <;> (
      first
      | exact hi.k8
      | (have b8 := hi.k8
         clear hi
         grind))
  · (try simp [zu, zrow]) <;> (
      first
      | exact hi.k9
      | (have b9 := hi.k9
         clear hi
         grind))
  · (try simp [zu, zrow]) <;> (
      first
      | exact hi.k10
      | (have b10 := hi.k10
         clear hi
         grind))
  · (try simp [zu, zrow]) <;> (
      first
      | exact hi.k11
      | (have b11 := hi.k11
         clear hi
         grind))
  · (try simp [zu, zrow]) <;> (
      first
      | exact hi.k12
      | (have b12 := hi.k12
         clear hi
         grind))
  · (try simp [zu, zrow]) <;> (
      first
      | exact hi.k13
      | (have b13 := hi.k13
         clear hi
         grind))
  · (try simp [zu, zrow]) <;> (
      first
      | exact hi.k14
      | (have b14 := hi.k14
         clear hi
         grind))
  · (try simp [zu, zrow]) <;> (
      first
      | exact hi.k15
      | (have b15 := hi.k15
         clear hi
         grind))
  · (try simp [zu, zrow]) <;> (
      first
      | exact hi.k16
      | (have b16 := hi.k16
         clear hi
         grind))
  · (try simp [zu, zrow]) <;> (
      first
      | exact hi.k17
      | (have b17 := hi.k17
         clear hi
         grind))
  · (try simp [zu, zrow]) <;> (
      first
      | exact hi.k18
      | (have b18 := hi.k18
         clear hi
         grind))
  · (try simp [zu, zrow]) <;> (
      first
      | exact hi.k19
      | (have b19 := hi.k19
         clear hi
         grind))
  · (try simp [zu, zrow]) <;> (
      first
      | exact hi.k20
      | (have b20 := hi.k20
         clear hi
         grind))
  · (try simp [zu, zrow]) <;> (
      first
      | exact hi.k21
      | (have b21 := hi.k21
         clear hi
         grind))
  · (try simp [zu, zrow]) <;> (
      first
      | exact hi.k22
      | (have b22 := hi.k22
         clear hi
         grind))
  · (try simp [zu, zrow]) <;> (
      first
      | exact hi.k23
      | (have b23 := hi.k23
         clear hi
         grind))
  · (try simp [zu, zrow]) <;> (
      first
      | exact hi.k24
      | (have b24 := hi.k24
         clear hi
         grind))
theorem zCL_SD {K : Nat} {A : zN} {Y : gY} {j : Nat} (h : zCL A Y) (hi : zIV K A) (hj : j < A 0 0 1) : zCL (zu A 3 j 0 2) (u3 (u3 Y 4 j 1 2) 4 j 3 (Y 0 0 6)) := by
  have hi1 := hi.k1
  have z0 : nI 0 = 0 := rfl
  have z1 : nI 1 = 1 := rfl
  have z2 : nI 2 = 2 := rfl
  have z3 : nI 3 = 3 := rfl
  refine ⟨?_, ?_, ?_, ?_, ?_, ?_, ?_, ?_, ?_, ?_, ?_, ?_, ?_, ?_, ?_, ?_, ?_, ?_, ?_⟩
  · (try simp [zu, zrow, u3, urow]) <;> (
      first
      | exact h.k1
      | (have a1 := h.k1
         clear h hi
         grind))
  · (try simp [zu, zrow, u3, urow]) <;> (
      first
      | exact h.k2
      | (have a2 := h.k2
         clear h hi
         grind))
  · (try simp [zu, zrow, u3, urow]) <;> (
      first
      | exact h.k3
      | (have a3 := h.k3
         clear h hi
         grind))
  · (try simp [zu, zrow, u3, urow]) <;> (
      first
      | exact h.k4
      | (have a4 := h.k4
         clear h hi
         grind))
  · (try simp [zu, zrow, u3, urow]) <;> (
      first
      | exact h.k5
      | (have a5 := h.k5
         clear h hi
         grind))
  · (try simp [zu, zrow, u3, urow]) <;> (
      first
      | exact h.k6
      | (have a6 := h.k6
         clear h hi
         grind))
  · (try simp [zu, zrow, u3, urow]) <;> (
      first
      | exact h.k7
      | (have a7 := h.k7
         clear h hi
         grind))
  · (try simp [zu, zrow, u3, urow]) <;> (
      first
      | exact h.k8
      | (have a8 := h.k8
         clear h hi
         grind))
  · (try simp [zu, zrow, u3, urow]) <;> (
      first
      | exact h.k9
      | (have a9 := h.k9
         clear h hi
         grind))
  · (try simp [zu, zrow, u3, urow]) <;> (
      first
      | exact h.k10
      | (have a10 := h.k10
         clear h hi
         grind))
  · (try simp [zu, zrow, u3, urow]) <;> (
      first
      | exact h.k11
      | (have a11 := h.k11
         clear h hi
         grind))
  · (try simp [zu, zrow, u3, urow]) <;> (
      first
      | exact h.k12
      | (have a12 := h.k12
         clear h hi
         grind))
  · (try simp [zu, zrow, u3, urow]) <;> (
      first
      | exact h.k13
      | (have a13 := h.k13
         clear h hi
         grind))
  · (try simp [zu, zrow, u3, urow]) <;> (
      first
      | exact h.k14
      | (have a14 := h.k14
         clear h hi
         grind))
  · (try simp [zu, zrow, u3, urow]) <;> (
      first
      | exact h.k15
      | (have a15 := h.k15
         clear h hi
         grind))
  · (try simp [zu, zrow, u3, urow]) <;> (
      first
      | exact h.k16
      | (have a16 := h.k16
         clear h hi
         grind))
  · (try simp [zu, zrow, u3, urow]) <;> (
      first
      | exact h.k17
      | (have a17 := h.k17
         clear h hi
         grind))
  · (try simp [zu, zrow, u3, urow]) <;> (
      first
      | exact h.k18
      | (have a18 := h.k18
         clear h hi
         grind))
  · (try simp [zu, zrow, u3, urow]) <;> (
      first
      | exact h.k19
      | (have a19 := h.k19
         clear h hi
         grind))
theorem zRF_SD {K : Nat} {A : zN} {M S : gY} {j : Nat} (h : zRF A M S) (hi : zIV K A) (hj : j < A 0 0 1) : zRF (zu A 3 j 0 2) M (u3 (u3 S 33 0 j 2) 35 0 j (S 20 0 0)) := by
  have hi1 := hi.k1
  have z0 : nI 0 = 0 := rfl
  have z1 : nI 1 = 1 := rfl
  have z2 : nI 2 = 2 := rfl
  have z3 : nI 3 = 3 := rfl
  refine ⟨?_, ?_, ?_, ?_, ?_, ?_, ?_, ?_, ?_, ?_, ?_, ?_, ?_, ?_, ?_, ?_, ?_, ?_, ?_, ?_, ?_, ?_⟩
  · (try simp [zu, zrow, u3, urow]) <;> (
      first
      | exact h.k1
      | (have a1 := h.k1
         clear h hi
         grind))
  · (try simp [zu, zrow, u3, urow]) <;> (
      first
      | exact h.k2
      | (have a2 := h.k2
         clear h hi
         grind))
  · (try simp [zu, zrow, u3, urow]) <;> (
      first
      | exact h.k3
      | (have a3 := h.k3
         clear h hi
         grind))
  · (try simp [zu, zrow, u3, urow]) <;> (
      first
      | exact h.k4
      | (have a4 := h.k4
         clear h hi
         grind))
  · (try simp [zu, zrow, u3, urow]) <;> (
      first
      | exact h.k5
      | (have a5 := h.k5
         clear h hi
         grind))
  · (try simp [zu, zrow, u3, urow]) <;> (
      first
      | exact h.k6
      | (have a6 := h.k6
         clear h hi
         grind))
  · (try simp [zu, zrow, u3, urow]) <;> (
      first
      | exact h.k7
      | (have a7 := h.k7
         clear h hi
         grind))
  · (try simp [zu, zrow, u3, urow]) <;> (
      first
      | exact h.k8
      | (have a8 := h.k8
         clear h hi
         grind))
  · (try simp [zu, zrow, u3, urow]) <;> (
      first
      | exact h.k9
      | (have a9 := h.k9
         clear h hi
         grind))
  · (try simp [zu, zrow, u3, urow]) <;> (
      first
      | exact h.k10
      | (have a10 := h.k10
         clear h hi
         grind))
  · (try simp [zu, zrow, u3, urow]) <;> (
      first
      | exact h.k11
      | (have a11 := h.k11
         clear h hi
         grind))
  · (try simp [zu, zrow, u3, urow]) <;> (
      first
      | exact h.k12
      | (have a12 := h.k12
         clear h hi
         grind))
  · (try simp [zu, zrow, u3, urow]) <;> (
      first
      | exact h.k13
      | (have a13 := h.k13
         clear h hi
         grind))
  · (try simp [zu, zrow, u3, urow]) <;> (
      first
      | exact h.k14
      | (have a14 := h.k14
         clear h hi
         grind))
  · (try simp [zu, zrow, u3, urow]) <;> (
      first
      | exact h.k15
      | (have a15 := h.k15
         clear h hi
         grind))
  · (try simp [zu, zrow, u3, urow]) <;> (
      first
      | exact h.k16
      | (have a16 := h.k16
         clear h hi
         grind))
  · (try simp [zu, zrow, u3, urow]) <;> (
      first
      | exact h.k17
      | (have a17 := h.k17
         clear h hi
         grind))
  · (try simp [zu, zrow, u3, urow]) <;> (
      first
      | exact h.k18
      | (have a18 := h.k18
         clear h hi
         grind))
  · (try simp [zu, zrow, u3, urow]) <;> (
      first
      | exact h.k19
      | (have a19 := h.k19
         clear h hi
         grind))
  · (try simp [zu, zrow, u3, urow]) <;> (
      first
      | exact h.k20
      | (have a20 := h.k20
         clear h hi
         grind))
  · (try simp [zu, zrow, u3, urow]) <;> (
      first
      | exact h.k21
      | (have a21 := h.k21
         clear h hi
         grind))
  · (try simp [zu, zrow, u3, urow]) <;> (
      first
      | exact h.k22
      | (have a22 := h.k22
         clear h hi
         grind))
theorem zEQ_SD {ko K : Nat} {A : zN} {Y M S : gY} {j : Nat} (h : zEQ ko A Y M S) (hi : zIV K A) (hj : j < A 0 0 1) : zEQ ko (zu A 3 j 0 2) (u3 (u3 Y 4 j 1 2) 4 j 3 (Y 0 0 6)) M (u3 (u3 S 33 0 j 2) 35 0 j (S 20 0 0)) := by
  have hi1 := hi.k1
  have z0 : nI 0 = 0 := rfl
  have z1 : nI 1 = 1 := rfl
  have z2 : nI 2 = 2 := rfl
  have z3 : nI 3 = 3 := rfl
  refine ⟨?_, ?_, ?_, ?_, ?_, ?_, ?_, ?_, ?_, ?_, ?_, ?_⟩
  · (try simp [zu, zrow, u3, urow]) <;> (
      first
      | exact h.k1
      | (have a1 := h.k1
         clear h hi
         grind))
  · (try simp [zu, zrow, u3, urow]) <;> (
      first
      | exact h.k2
      | (have a2 := h.k2
         clear h hi
         grind))
  · (try simp [zu, zrow, u3, urow]) <;> (
      first
      | exact h.k3
      | (have a3 := h.k3
         clear h hi
         grind))
  · (try simp [zu, zrow, u3, urow]) <;> (
      first
      | exact h.k4
      | (have a4 := h.k4
         clear h hi
         grind))
  · (try simp [zu, zrow, u3, urow]) <;> (
      first
      | exact h.k5
      | (have a5 := h.k5
         clear h hi
         grind))
  · (try simp [zu, zrow, u3, urow]) <;> (
      first
      | exact h.k6
      | (have a6 := h.k6
         clear h hi
         grind))
  · (try simp [zu, zrow, u3, urow]) <;> (
      first
      | exact h.k7
      | (have a7 := h.k7
         clear h hi
         grind))
  · (try simp [zu, zrow, u3, urow]) <;> (
      first
      | exact h.k8
      | (have a8 := h.k8
         have a1 := h.k1
         clear h hi
         grind))
  · (try simp [zu, zrow, u3, urow]) <;> (
      first
      | exact h.k9
      | (have a9 := h.k9
         clear h hi
         grind))
  · (try simp [zu, zrow, u3, urow]) <;> (
      first
      | exact h.k10
      | (have a10 := h.k10
         clear h hi
         grind))
  · (try simp [zu, zrow, u3, urow]) <;> (
      first
      | exact h.k11
      | (have a11 := h.k11
         clear h hi
         grind))
  · (try simp [zu, zrow, u3, urow]) <;> (
      first
      | exact h.k12
      | (have a12 := h.k12
         clear h hi
         grind))
theorem zR_SD {ko K : Nat} {A : zN} {Y M S : gY} {j : Nat} (h : zR ko K A Y M S) (hj : j < A 0 0 1) : zR ko (K) (zu A 3 j 0 2) (u3 (u3 Y 4 j 1 2) 4 j 3 (Y 0 0 6)) M (u3 (u3 S 33 0 j 2) 35 0 j (S 20 0 0)) :=
  ⟨zCL_SD h.1 h.2.2.2 hj, zRF_SD h.2.1 h.2.2.2 hj, zEQ_SD h.2.2.1 h.2.2.2 hj, zIV_SD h.2.2.2 hj⟩
theorem zIV_TJ {K : Nat} {A : zN} {k w : Nat} (hi : zIV K A) (hk : k < A 0 0 0) (h0 : A 1 k 0 = 0) (hw : w < A 0 0 2) : zIV (K) (zu (zu A 1 k 0 2) 1 k 1 w) := by
  have hi1 := hi.k1
  have z0 : nI 0 = 0 := rfl
  have z1 : nI 1 = 1 := rfl
  have z2 : nI 2 = 2 := rfl
  have z3 : nI 3 = 3 := rfl
  have hk6 : k < 6 := by omega
  refine ⟨?_, ?_, ?_, ?_, ?_, ?_, ?_, ?_, ?_, ?_, ?_, ?_, ?_, ?_, ?_, ?_, ?_, ?_, ?_, ?_, ?_, ?_, ?_, ?_⟩
  · (try simp [zu, zrow]) <;> (
      first
      | exact hi.k1
      | (have b1 := hi.k1
         clear hi
         grind))
  · (try simp [zu, zrow]) <;> (
      first
      | exact hi.k2
      | (have b2 := hi.k2
         clear hi
         grind))
  · (try simp [zu, zrow]) <;> (
      first
      | exact hi.k3
      | (have b3 := hi.k3
         clear hi
         grind))
  · (try simp [zu, zrow]) <;> (
      first
      | exact hi.k4
      | (have b4 := hi.k4
         clear hi
         grind))
  · (try simp [zu, zrow]) <;> (
      first
      | exact hi.k5
      | (have b5 := hi.k5
         clear hi
         grind))
  · (try simp [zu, zrow]) <;> (
      first
      | exact hi.k6
      | (have b6 := hi.k6
         clear hi
         grind))
  · (try simp [zu, zrow]) <;> (
      first
      | exact hi.k7
      | (have b7 := hi.k7
         clear hi
         grind))
  · (try simp [zu, zrow]) <;> (
      first
      | exact hi.k8
      | (have b8 := hi.k8
         clear hi
         grind))
  · (try simp [zu, zrow]) <;> (
      first
      | exact hi.k9
      | (have b9 := hi.k9
         clear hi
         grind))
  · (try simp [zu, zrow]) <;> (
      first
      | exact hi.k10
      | (have b10 := hi.k10
         clear hi
         grind))
  · (try simp [zu, zrow]) <;> (
      first
      | exact hi.k11
      | (have b11 := hi.k11
         clear hi
         grind))
  · (try simp [zu, zrow]) <;> (
      first
      | exact hi.k12
      | (have b12 := hi.k12
         clear hi
         grind))
  · (try simp [zu, zrow]) <;> (
      first
      | exact hi.k13
      | (have b13 := hi.k13
         clear hi
         grind))
  · (try simp [zu, zrow]) <;> (
      first
      | exact hi.k14
      | (have b14 := hi.k14
         clear hi
         grind))
  · (try simp [zu, zrow]) <;> (
      first
      | exact hi.k15
      | (have b15 := hi.k15
         clear hi
         grind))
  · (try simp [zu, zrow]) <;> (
      first
      | exact hi.k16
      | (have b16 := hi.k16
         clear hi
         grind))
  · (try simp [zu, zrow]) <;> (
      first
      | exact hi.k17
      | (have b17 := hi.k17
         clear hi
         grind))
  · (try simp [zu, zrow]) <;> (
      first
      | exact hi.k18
      | (have b18 := hi.k18
         clear hi
         grind))
  · (try simp [zu, zrow]) <;> (
      first
      | exact hi.k19
      | (have b19 := hi.k19
         clear hi
         grind))
  · (try simp [zu, zrow]) <;> (
      first
      | exact hi.k20
      | (have b20 := hi.k20
         clear hi
         grind))
  · (try simp [zu, zrow]) <;> (
      first
      | exact hi.k21
      | (have b21 := hi.k21
         clear hi
         grind))
  · (try simp [zu, zrow]) <;> (
      first
      | exact hi.k22
      | (have b22 := hi.k22
         clear hi
         grind))
  · (try simp [zu, zrow]) <;> (
      first
      | exact hi.k23
      | (have b23 := hi.k23
         clear hi
         grind))
  · (try simp [zu, zrow]) <;> (
      first
      | exact hi.k24
      | (have b24 := hi.k24
         clear hi
         grind))
theorem zCL_TJ {K : Nat} {A : zN} {Y : gY} {k w : Nat} (h : zCL A Y) (hi : zIV K A) (hk : k < A 0 0 0) (h0 : A 1 k 0 = 0) (hw : w < A 0 0 2) : zCL (zu (zu A 1 k 0 2) 1 k 1 w) (u3 Y 1 k 6 (nI (A 4 w 0))) := by
  have hi1 := hi.k1
  have z0 : nI 0 = 0 := rfl
  have z1 : nI 1 = 1 := rfl
  have z2 : nI 2 = 2 := rfl
  have z3 : nI 3 = 3 := rfl
  have hk6 : k < 6 := by omega
  refine ⟨?_, ?_, ?_, ?_, ?_, ?_, ?_, ?_, ?_, ?_, ?_, ?_, ?_, ?_, ?_, ?_, ?_, ?_, ?_⟩
  · (try simp [zu, zrow, u3, urow]) <;> (
      first
      | exact h.k1
      | (have a1 := h.k1
         clear h hi
         grind))
  · (try simp [zu, zrow, u3, urow]) <;> (
      first
      | exact h.k2
      | (have a2 := h.k2
         clear h hi
         grind))
  · (try simp [zu, zrow, u3, urow]) <;> (
      first
      | exact h.k3
      | (have a3 := h.k3
         clear h hi
         grind))
  · (try simp [zu, zrow, u3, urow]) <;> (
      first
      | exact h.k4
      | (have a4 := h.k4
         clear h hi
         grind))
  · (try simp [zu, zrow, u3, urow]) <;> (
      first
      | exact h.k5
      | (have a5 := h.k5
         clear h hi
         grind))
  · (try simp [zu, zrow, u3, urow]) <;> (
      first
      | exact h.k6
      | (have a6 := h.k6
         clear h hi
         grind))
  · (try simp [zu, zrow, u3, urow]) <;> (
      first
      | exact h.k7
      | (have a7 := h.k7
         clear h hi
         grind))
  · (try simp [zu, zrow, u3, urow]) <;> (
      first
      | exact h.k8
      | (have a8 := h.k8
         clear h hi
         grind))
  · (try simp [zu, zrow, u3, urow]) <;> (
      first
      | exact h.k9
      | (have a9 := h.k9
         clear h hi
         grind))
  · (try simp [zu, zrow, u3, urow]) <;> (
      first
      | exact h.k10
      | (have a10 := h.k10
         clear h hi
         grind))
  · (try simp [zu, zrow, u3, urow]) <;> (
      first
      | exact h.k11
      | (have a11 := h.k11
         clear h hi
         grind))
  · (try simp [zu, zrow, u3, urow]) <;> (
      first
      | exact h.k12
      | (have a12 := h.k12
         clear h hi
         grind))
  · (try simp [zu, zrow, u3, urow]) <;> (
      first
      | exact h.k13
      | (have a13 := h.k13
         clear h hi
         grind))
  · (try simp [zu, zrow, u3, urow]) <;> (
      first
      | exact h.k14
      | (have a14 := h.k14
         clear h hi
         grind))
  · (try simp [zu, zrow, u3, urow]) <;> (
      first
      | exact h.k15
      | (have a15 := h.k15
         clear h hi
         grind))
  · (try simp [zu, zrow, u3, urow]) <;> (
      first
      | exact h.k16
      | (have a16 := h.k16
         clear h hi
         grind))
  · (try simp [zu, zrow, u3, urow]) <;> (
      first
      | exact h.k17
      | (have a17 := h.k17
         clear h hi
         grind))
  · (try simp [zu, zrow, u3, urow]) <;> (
      first
      | exact h.k18
      | (have a18 := h.k18
         clear h hi
         grind))
  · (try simp [zu, zrow, u3, urow]) <;> (
      first
      | exact h.k19
      | (have a19 := h.k19
         clear h hi
         grind))
theorem zRF_TJ {K : Nat} {A : zN} {M S : gY} {k w : Nat} (h : zRF A M S) (hi : zIV K A) (hk : k < A 0 0 0) (h0 : A 1 k 0 = 0) (hw : w < A 0 0 2) : zRF (zu (zu A 1 k 0 2) 1 k 1 w) M (u3 (u3 S 25 0 k 2) 26 0 k (nI w)) := by
  have hi1 := hi.k1
  have z0 : nI 0 = 0 := rfl
  have z1 : nI 1 = 1 := rfl
  have z2 : nI 2 = 2 := rfl
  have z3 : nI 3 = 3 := rfl
  have hk6 : k < 6 := by omega
  refine ⟨?_, ?_, ?_, ?_, ?_, ?_, ?_, ?_, ?_, ?_, ?_, ?_, ?_, ?_, ?_, ?_, ?_, ?_, ?_, ?_, ?_, ?_⟩
  · (try simp [zu, zrow, u3, urow]) <;> (
      first
      | exact h.k1
      | (have a1 := h.k1
         clear h hi
         grind))
  · (try simp [zu, zrow, u3, urow]) <;> (
      first
      | exact h.k2
      | (have a2 := h.k2
         clear h hi
         grind))
  · (try simp [zu, zrow, u3, urow]) <;> (
      first
      | exact h.k3
      | (have a3 := h.k3
         clear h hi
         grind))
  · (try simp [zu, zrow, u3, urow]) <;> (
      first
      | exact h.k4
      | (have a4 := h.k4
         clear h hi
         grind))
  · (try simp [zu, zrow, u3, urow]) <;> (
      first
      | exact h.k5
      | (have a5 := h.k5
         clear h hi
         grind))
  · (try simp [zu, zrow, u3, urow]) <;> (
      first
      | exact h.k6
      | (have a6 := h.k6
         clear h hi
         grind))
  · (try simp [zu, zrow, u3, urow]) <;> (
      first
      | exact h.k7
      | (have a7 := h.k7
         clear h hi
         grind))
  · (try simp [zu, zrow, u3, urow]) <;> (
      first
      | exact h.k8
      | (have a8 := h.k8
         clear h hi
         grind))
  · (try simp [zu, zrow, u3, urow]) <;> (
      first
      | exact h.k9
      | (have a9 := h.k9
         clear h hi
         grind))
  · (try simp [zu, zrow, u3, urow]) <;> (
      first
      | exact h.k10
      | (have a10 := h.k10
         clear h hi
         grind))
  · (try simp [zu, zrow, u3, urow]) <;> (
      first
      | exact h.k11
      | (have a11 := h.k11
         clear h hi
         grind))
  · (try simp [zu, zrow, u3, urow]) <;> (
      first
      | exact h.k12
      | (have a12 := h.k12
         clear h hi
         grind))
  · (try simp [zu, zrow, u3, urow]) <;> (
      first
      | exact h.k13
      | (have a13 := h.k13
         clear h hi
         grind))
  · (try simp [zu, zrow, u3, urow]) <;> (
      first
      | exact h.k14
      | (have a14 := h.k14
         clear h hi
         grind))
  · (try simp [zu, zrow, u3, urow]) <;> (
      first
      | exact h.k15
      | (have a15 := h.k15
         clear h hi
         grind))
  · (try simp [zu, zrow, u3, urow]) <;> (
      first
      | exact h.k16
      | (have a16 := h.k16
         clear h hi
         grind))
  · (try simp [zu, zrow, u3, urow]) <;> (
      first
      | exact h.k17
      | (have a17 := h.k17
         clear h hi
         grind))
  · (try simp [zu, zrow, u3, urow]) <;> (
      first
      | exact h.k18
      | (have a18 := h.k18
         clear h hi
         grind))
  · (try simp [zu, zrow, u3, urow]) <;> (
      first
      | exact h.k19
      | (have a19 := h.k19
         clear h hi
         grind))
  · (try simp [zu, zrow, u3, urow]) <;> (
      first
      | exact h.k20
      | (have a20 := h.k20
         clear h hi
         grind))
  · (try simp [zu, zrow, u3, urow]) <;> (
      first
      | exact h.k21
      | (have a21 := h.k21
         clear h hi
         grind))
  · (try simp [zu, zrow, u3, urow]) <;> (
      first
      | exact h.k22
      | (have a22 := h.k22
         clear h hi
         grind))
theorem zEQ_TJ {ko K : Nat} {A : zN} {Y M S : gY} {k w : Nat} (h : zEQ ko A Y M S) (hi : zIV K A) (hk : k < A 0 0 0) (h0 : A 1 k 0 = 0) (hw : w < A 0 0 2) : zEQ ko (zu (zu A 1 k 0 2) 1 k 1 w) (u3 Y 1 k 6 (nI (A 4 w 0))) M (u3 (u3 S 25 0 k 2) 26 0 k (nI w)) := by
  have hi1 := hi.k1
  have z0 : nI 0 = 0 := rfl
  have z1 : nI 1 = 1 := rfl
  have z2 : nI 2 = 2 := rfl
  have z3 : nI 3 = 3 := rfl
  have hk6 : k < 6 := by omega
  refine ⟨?_, ?_, ?_, ?_, ?_, ?_, ?_, ?_, ?_, ?_, ?_, ?_⟩
  · (try simp [zu, zrow, u3, urow]) <;> (
      first
      | exact h.k1
      | (have a1 := h.k1
         clear h hi
         grind))
  · (try simp [zu, zrow, u3, urow]) <;> (
      first
      | exact h.k2
      | (have a2 := h.k2
         clear h hi
         grind))
  · (try simp [zu, zrow, u3, urow]) <;> (
      first
      | exact h.k3
      | (have a3 := h.k3
         clear h hi
         grind))
  · (try simp [zu, zrow, u3, urow]) <;> (
      first
      | exact h.k4
      | (have a4 := h.k4
         clear h hi
         grind))
  · (try simp [zu, zrow, u3, urow]) <;> (
      first
      | exact h.k5
      | (have a5 := h.k5
         clear h hi
         grind))
  · (try simp [zu, zrow, u3, urow]) <;> (
      first
      | exact h.k6
      | (have a6 := h.k6
         clear h hi
         grind))
  · (try simp [zu, zrow, u3, urow]) <;> (
      first
      | exact h.k7
      | (have a7 := h.k7
         clear h hi
         grind))
  · (try simp [zu, zrow, u3, urow]) <;> (
      first
      | exact h.k8
      | (have a8 := h.k8
         clear h hi
         grind))
  · (try simp [zu, zrow, u3, urow]) <;> (
      first
      | exact h.k9
      | (have a9 := h.k9
         clear h hi
         grind))
  · (try simp [zu, zrow, u3, urow]) <;> (
      first
      | exact h.k10
      | (have a10 := h.k10
         clear h hi
         grind))
  · (try simp [zu, zrow, u3, urow]) <;> (
      first
      | exact h.k11
      | (have a11 := h.k11
         clear h hi
         grind))
  · (try simp [zu, zrow, u3, urow]) <;> (
      first
      | exact h.k12
      | (have a12 := h.k12
         clear h hi
         grind))
theorem zR_TJ {ko K : Nat} {A : zN} {Y M S : gY} {k w : Nat} (h : zR ko K A Y M S) (hk : k < A 0 0 0) (h0 : A 1 k 0 = 0) (hw : w < A 0 0 2) : zR ko (K) (zu (zu A 1 k 0 2) 1 k 1 w) (u3 Y 1 k 6 (nI (A 4 w 0))) M (u3 (u3 S 25 0 k 2) 26 0 k (nI w)) :=
  ⟨zCL_TJ h.1 h.2.2.2 hk h0 hw, zRF_TJ h.2.1 h.2.2.2 hk h0 hw, zEQ_TJ h.2.2.1 h.2.2.2 hk h0 hw, zIV_TJ h.2.2.2 hk h0 hw⟩
theorem zIV_PD {K : Nat} {A : zN} {k d : Nat} (hi : zIV K A) (hk : k < A 0 0 0) (h0 : A 1 k 0 = 1) (hd : d ≤ A 4 (A 1 k 1) 4) (hd9 : d ≤ 9) (hK : K + 1 ≤ 1000000) : zIV (K + 1) (zu (zu A 4 (A 1 k 1) 4 (A 4 (A 1 k 1) 4 - d)) 3 (A 4 (A 1 k 1) 0 / 32) 2 (A 3 (A 4 (A 1 k 1) 0 / 32) 2 + d)) := by
  have hi1 := hi.k1
  have z0 : nI 0 = 0 := rfl
  have z1 : nI 1 = 1 := rfl
  have z2 : nI 2 = 2 := rfl
  have z3 : nI 3 = 3 := rfl
  have hk6 : k < 6 := by omega
  have hh := hi.k9 k hk6 (Or.inl h0)
  have hj : A 4 (A 1 k 1) 0 / 32 < A 0 0 1 := by have := (hi.k12 _ hh).1; omega
  refine ⟨?_, ?_, ?_, ?_, ?_, ?_, ?_, ?_, ?_, ?_, ?_, ?_, ?_, ?_, ?_, ?_, ?_, ?_, ?_, ?_, ?_, ?_, ?_, ?_⟩
  · (try simp [zu, zrow]) <;> (
      first
      | exact hi.k1
      | (have b1 := hi.k1
         clear hi
         grind))
  · (try simp [zu, zrow]) <;> (
      first
      | exact hi.k2
      | (have b2 := hi.k2
         clear hi
         grind))
  · (try simp [zu, zrow]) <;> (
      first
      | exact hi.k3
      | (have b3 := hi.k3
         clear hi
         grind))
  · (try simp [zu, zrow]) <;> (
      first
      | exact hi.k4
      | (have b4 := hi.k4
         clear hi
         grind))
  · (try simp [zu, zrow]) <;> (
      first
      | exact hi.k5
      | (have b5 := hi.k5
         clear hi
         grind))
  · (try simp [zu, zrow]) <;> (
      first
      | exact hi.k6
      | (have b6 := hi.k6
         clear hi
         grind))
  · (try simp [zu, zrow]) <;> (
      first
      | exact hi.k7
      | (have b7 := hi.k7
         clear hi
         grind))
  · (try simp [zu, zrow]) <;> (
      first
      | exact hi.k8
      | (have b8 := hi.k8
         clear hi
         grind))
  · (try simp [zu, zrow]) <;> (
      first
      | exact hi.k9
      | (have b9 := hi.k9
         clear hi
         grind))
  · (try simp [zu, zrow]) <;> (
      first
      | exact hi.k10
      | (have b10 := hi.k10
         clear hi
         grind))
  · (try simp [zu, zrow]) <;> (
      first
      | exact hi.k11
      | (have b11 := hi.k11
         clear hi
         grind))
  · (try simp [zu, zrow]) <;> (
      first
      | exact hi.k12
      | (have b12 := hi.k12
         clear hi
         grind))
  · (try simp [zu, zrow]) <;> (
      first
      | exact hi.k13
      | (have b13 := hi.k13
         clear hi
         grind))
  · (try simp [zu, zrow]) <;> (
      first
      | exact hi.k14
      | (have b14 := hi.k14
         clear hi
         grind))
  · (try simp [zu, zrow]) <;> (
      first
      | exact hi.k15
      | (have b15 := hi.k15
         clear hi
         grind))
  · (try simp [zu, zrow]) <;> (
      first
      | exact hi.k16
      | (have b16 := hi.k16
         clear hi
         grind))
  · (try simp [zu, zrow]) <;> (
      first
      | exact hi.k17
      | (have b17 := hi.k17
         clear hi
         grind))
  · (try simp [zu, zrow]) <;> (
      first
      | exact hi.k18
      | (have b18 := hi.k18
         clear hi
         grind))
  · (try simp [zu, zrow]) <;> (
      first
      | exact hi.k19
      | (have b19 := hi.k19
         clear hi
         grind))
  · (try simp [zu, zrow]) <;> (
      first
      | exact hi.k20
      | (have b20 := hi.k20
         clear hi
         grind))
  · (try simp [zu, zrow]) <;> (
      first
      | exact hi.k21
      | (have b21 := hi.k21
         clear hi
         grind))
  · (try simp [zu, zrow]) <;> (
      first
      | exact hi.k22
      | (have b22 := hi.k22
         clear hi
         grind))
  · (try simp [zu, zrow]) <;> (
      first
      | exact hi.k23
      | (have b16 := hi.k16
         have b23 := hi.k23
         clear hi
         grind))
  · (try simp [zu, zrow]) <;> (
      first
      | exact hi.k24
      | (have b17 := hi.k17
         have b24 := hi.k24
         clear hi
         grind))
theorem zCL_PD {K : Nat} {A : zN} {Y : gY} {k d : Nat} (h : zCL A Y) (hi : zIV K A) (hk : k < A 0 0 0) (h0 : A 1 k 0 = 1) (hd : d ≤ A 4 (A 1 k 1) 4) (hd9 : d ≤ 9) (hK : K + 1 ≤ 1000000) : zCL (zu (zu A 4 (A 1 k 1) 4 (A 4 (A 1 k 1) 4 - d)) 3 (A 4 (A 1 k 1) 0 / 32) 2 (A 3 (A 4 (A 1 k 1) 0 / 32) 2 + d)) (u3 (u3 Y 1 k 5 (nI (A 4 (A 1 k 1) 4 - d))) 4 (A 4 (A 1 k 1) 0 / 32) 6 (nI (A 3 (A 4 (A 1 k 1) 0 / 32) 2 + d))) := by
  have hi1 := hi.k1
  have z0 : nI 0 = 0 := rfl
  have z1 : nI 1 = 1 := rfl
  have z2 : nI 2 = 2 := rfl
  have z3 : nI 3 = 3 := rfl
  have hk6 : k < 6 := by omega
  have hh := hi.k9 k hk6 (Or.inl h0)
  have hj : A 4 (A 1 k 1) 0 / 32 < A 0 0 1 := by have := (hi.k12 _ hh).1; omega
  refine ⟨?_, ?_, ?_, ?_, ?_, ?_, ?_, ?_, ?_, ?_, ?_, ?_, ?_, ?_, ?_, ?_, ?_, ?_, ?_⟩
  · (try simp [zu, zrow, u3, urow]) <;> (
      first
      | exact h.k1
      | (have a1 := h.k1
         clear h hi
         grind))
  · (try simp [zu, zrow, u3, urow]) <;> (
      first
      | exact h.k2
      | (have a2 := h.k2
         clear h hi
         grind))
  · (try simp [zu, zrow, u3, urow]) <;> (
      first
      | exact h.k3
      | (have a3 := h.k3
         clear h hi
         grind))
  · (try simp [zu, zrow, u3, urow]) <;> (
      first
      | exact h.k4
      | (have a4 := h.k4
         clear h hi
         grind))
  · (try simp [zu, zrow, u3, urow]) <;> (
      first
      | exact h.k5
      | (have a5 := h.k5
         clear h hi
         grind))
  · (try simp [zu, zrow, u3, urow]) <;> (
      first
      | exact h.k6
      | (have a6 := h.k6
         clear h hi
         grind))
  · (try simp [zu, zrow, u3, urow]) <;> (
      first
      | exact h.k7
      | (have a7 := h.k7
         clear h hi
         grind))
  · (try simp [zu, zrow, u3, urow]) <;> (
      first
      | exact h.k8
      | (have a8 := h.k8
         have b15 := hi.k15
         clear h hi
         grind))
  · (try simp [zu, zrow, u3, urow]) <;> (
      first
      | exact h.k9
      | (have a9 := h.k9
         clear h hi
         grind))
  · (try simp [zu, zrow, u3, urow]) <;> (
      first
      | exact h.k10
      | (have a10 := h.k10
         clear h hi
         grind))
  · (try simp [zu, zrow, u3, urow]) <;> (
      first
      | exact h.k11
      | (have a11 := h.k11
         clear h hi
         grind))
  · (try simp [zu, zrow, u3, urow]) <;> (
      first
      | exact h.k12
      | (have a12 := h.k12
         clear h hi
         grind))
  · (try simp [zu, zrow, u3, urow]) <;> (
      first
      | exact h.k13
      | (have a13 := h.k13
         clear h hi
         grind))
  · (try simp [zu, zrow, u3, urow]) <;> (
      first
      | exact h.k14
      | (have a14 := h.k14
         clear h hi
         grind))
  · (try simp [zu, zrow, u3, urow]) <;> (
      first
      | exact h.k15
      | (have a15 := h.k15
         clear h hi
         grind))
  · (try simp [zu, zrow, u3, urow]) <;> (
      first
      | exact h.k16
      | (have a16 := h.k16
         clear h hi
         grind))
  · (try simp [zu, zrow, u3, urow]) <;> (
      first
      | exact h.k17
      | (have a17 := h.k17
         clear h hi
         grind))
  · (try simp [zu, zrow, u3, urow]) <;> (
      first
      | exact h.k18
      | (have a18 := h.k18
         clear h hi
         grind))
  · (try simp [zu, zrow, u3, urow]) <;> (
      first
      | exact h.k19
      | (have a19 := h.k19
         clear h hi
         grind))
theorem zRF_PD {K : Nat} {A : zN} {M S : gY} {k d : Nat} (h : zRF A M S) (hi : zIV K A) (hk : k < A 0 0 0) (h0 : A 1 k 0 = 1) (hd : d ≤ A 4 (A 1 k 1) 4) (hd9 : d ≤ 9) (hK : K + 1 ≤ 1000000) : zRF (zu (zu A 4 (A 1 k 1) 4 (A 4 (A 1 k 1) 4 - d)) 3 (A 4 (A 1 k 1) 0 / 32) 2 (A 3 (A 4 (A 1 k 1) 0 / 32) 2 + d)) M (u3 (u3 (u3 S 41 0 (A 1 k 1) (nI (A 4 (A 1 k 1) 4 - d))) 38 0 (A 4 (A 1 k 1) 0 / 32) (nI (A 3 (A 4 (A 1 k 1) 0 / 32) 2 + d))) 20 0 4 (nI (zsm (fun j => A 3 j 2) (A 0 0 1) + d))) := by
  have hi1 := hi.k1
  have z0 : nI 0 = 0 := rfl
  have z1 : nI 1 = 1 := rfl
  have z2 : nI 2 = 2 := rfl
  have z3 : nI 3 = 3 := rfl
  have hk6 : k < 6 := by omega
  have hh := hi.k9 k hk6 (Or.inl h0)
  have hj : A 4 (A 1 k 1) 0 / 32 < A 0 0 1 := by have := (hi.k12 _ hh).1; omega
  refine ⟨?_, ?_, ?_, ?_, ?_, ?_, ?_, ?_, ?_, ?_, ?_, ?_, ?_, ?_, ?_, ?_, ?_, ?_, ?_, ?_, ?_, ?_⟩
  · (try simp [zu, zrow, u3, urow]) <;> (
      first
      | exact h.k1
      | (have a1 := h.k1
         clear h hi
         grind))
  · (try simp [zu, zrow, u3, urow]) <;> (
      first
      | exact h.k2
      | (have a2 := h.k2
         clear h hi
         grind))
  · (try simp [zu, zrow, u3, urow]) <;> (
      first
      | exact h.k3
      | (have a3 := h.k3
         clear h hi
         grind))
  · (try simp [zu, zrow, u3, urow]) <;> (
      first
      | exact h.k4
      | (have a4 := h.k4
         clear h hi
         grind))
  · (try simp [zu, zrow, u3, urow]) <;> (
      first
      | exact h.k5
      | (have a5 := h.k5
         clear h hi
         grind))
  · (try simp [zu, zrow, u3, urow]) <;> (
      first
      | exact h.k6
      | (have a6 := h.k6
         clear h hi
         grind))
  · (try simp [zu, zrow, u3, urow]) <;> (
      first
      | exact h.k7
      | (have a7 := h.k7
         clear h hi
         grind))
  · (try simp [zu, zrow, u3, urow]) <;> (
      first
      | exact h.k8
      | (have a8 := h.k8
         clear h hi
         grind))
  · (try simp [zu, zrow, u3, urow]) <;> (
      first
      | exact h.k9
      | (have a9 := h.k9
         clear h hi
         grind))
  · (try simp [zu, zrow, u3, urow]) <;> (
      first
      | exact h.k10
      | (have a10 := h.k10
         clear h hi
         grind))
  · (try simp [zu, zrow, u3, urow]) <;> (
      first
      | exact h.k11
      | (have a11 := h.k11
         clear h hi
         grind))
  · (try simp [zu, zrow, u3, urow]) <;> (
      first
      | exact h.k12
      | (have a12 := h.k12
         clear h hi
         grind))
  · (try simp [zu, zrow, u3, urow]) <;> (
      first
      | exact h.k13
      | (have a13 := h.k13
         clear h hi
         grind))
  · (try simp [zu, zrow, u3, urow]) <;> (
      first
      | exact h.k14
      | (have a14 := h.k14
         clear h hi
         grind))
  · (try simp [zu, zrow, u3, urow]) <;> (
      first
      | exact h.k15
      | (have a15 := h.k15
         clear h hi
         grind))
  · (try simp [zu, zrow, u3, urow]) <;> (
      first
      | exact h.k16
      | (have a16 := h.k16
         clear h hi
         grind))
  · (try simp [zu, zrow, u3, urow]) <;> (
      first
      | exact h.k17
      | (have a17 := h.k17
         clear h hi
         grind))
  · (try simp [zu, zrow, u3, urow]) <;> (
      first
      | exact h.k18
      | (have a18 := h.k18
         clear h hi
         grind))
  · (try simp [zu, zrow, u3, urow]) <;> (
      first
      | exact h.k19
      | (have a19 := h.k19
         clear h hi
         grind))
  · (try simp [zu, zrow, u3, urow]) <;> (
      first
      | exact h.k20
      | (have a20 := h.k20
         clear h hi
         grind))
  · (try simp [zu, zrow, u3, urow]) <;> (
      first
      | exact h.k21
      | (have a21 := h.k21
         clear h hi
         grind))
  · (try simp [zu, zrow, u3, urow]) <;> (
      rw [zsm_add (fun j => A 3 j 2) _ _ _ hj])
theorem zEQ_PD {ko K : Nat} {A : zN} {Y M S : gY} {k d : Nat} (h : zEQ ko A Y M S) (hi : zIV K A) (hk : k < A 0 0 0) (h0 : A 1 k 0 = 1) (hd : d ≤ A 4 (A 1 k 1) 4) (hd9 : d ≤ 9) (hK : K + 1 ≤ 1000000) : zEQ ko (zu (zu A 4 (A 1 k 1) 4 (A 4 (A 1 k 1) 4 - d)) 3 (A 4 (A 1 k 1) 0 / 32) 2 (A 3 (A 4 (A 1 k 1) 0 / 32) 2 + d)) (u3 (u3 Y 1 k 5 (nI (A 4 (A 1 k 1) 4 - d))) 4 (A 4 (A 1 k 1) 0 / 32) 6 (nI (A 3 (A 4 (A 1 k 1) 0 / 32) 2 + d))) M (u3 (u3 (u3 S 41 0 (A 1 k 1) (nI (A 4 (A 1 k 1) 4 - d))) 38 0 (A 4 (A 1 k 1) 0 / 32) (nI (A 3 (A 4 (A 1 k 1) 0 / 32) 2 + d))) 20 0 4 (nI (zsm (fun j => A 3 j 2) (A 0 0 1) + d))) := by
  have hi1 := hi.k1
  have z0 : nI 0 = 0 := rfl
  have z1 : nI 1 = 1 := rfl
  have z2 : nI 2 = 2 := rfl
  have z3 : nI 3 = 3 := rfl
  have hk6 : k < 6 := by omega
  have hh := hi.k9 k hk6 (Or.inl h0)
  have hj : A 4 (A 1 k 1) 0 / 32 < A 0 0 1 := by have := (hi.k12 _ hh).1; omega
  refine ⟨?_, ?_, ?_, ?_, ?_, ?_, ?_, ?_, ?_, ?_, ?_, ?_⟩
  · (try simp [zu, zrow, u3, urow]) <;> (
      first
      | exact h.k1
      | (have a1 := h.k1
         clear h hi
         grind))
  · (try simp [zu, zrow, u3, urow]) <;> (
      first
      | exact h.k2
      | (have a2 := h.k2
         clear h hi
         grind))
  · (try simp [zu, zrow, u3, urow]) <;> (
      first
      | exact h.k3
      | (have a3 := h.k3
         clear h hi
         grind))
  · (try simp [zu, zrow, u3, urow]) <;> (
      first
      | exact h.k4
      | (have a4 := h.k4
         clear h hi
         grind))
  · (try simp [zu, zrow, u3, urow]) <;> (
      first
      | exact h.k5
      | (have a5 := h.k5
         clear h hi
         grind))
  · (try simp [zu, zrow, u3, urow]) <;> (
      first
      | exact h.k6
      | (have a6 := h.k6
         clear h hi
         grind))
  · (try simp [zu, zrow, u3, urow]) <;> (
      first
      | exact h.k7
      | (have a7 := h.k7
         clear h hi
         grind))
  · (try simp [zu, zrow, u3, urow]) <;> (
      first
      | exact h.k8
      | (have a8 := h.k8
         clear h hi
         grind))
  · (try simp [zu, zrow, u3, urow]) <;> (
      first
      | exact h.k9
      | (have a9 := h.k9
         clear h hi
         grind))
  · (try simp [zu, zrow, u3, urow]) <;> (
      first
      | exact h.k10
      | (have a10 := h.k10
         clear h hi
         grind))
  · (try simp [zu, zrow, u3, urow]) <;> (
      first
      | exact h.k11
      | (have a11 := h.k11
         clear h hi
         grind))
  · (try simp [zu, zrow, u3, urow]) <;> (
      first
      | exact h.k12
      | (have a12 := h.k12
         clear h hi
         grind))
theorem zR_PD {ko K : Nat} {A : zN} {Y M S : gY} {k d : Nat} (h : zR ko K A Y M S) (hk : k < A 0 0 0) (h0 : A 1 k 0 = 1) (hd : d ≤ A 4 (A 1 k 1) 4) (hd9 : d ≤ 9) (hK : K + 1 ≤ 1000000) : zR ko (K + 1) (zu (zu A 4 (A 1 k 1) 4 (A 4 (A 1 k 1) 4 - d)) 3 (A 4 (A 1 k 1) 0 / 32) 2 (A 3 (A 4 (A 1 k 1) 0 / 32) 2 + d)) (u3 (u3 Y 1 k 5 (nI (A 4 (A 1 k 1) 4 - d))) 4 (A 4 (A 1 k 1) 0 / 32) 6 (nI (A 3 (A 4 (A 1 k 1) 0 / 32) 2 + d))) M (u3 (u3 (u3 S 41 0 (A 1 k 1) (nI (A 4 (A 1 k 1) 4 - d))) 38 0 (A 4 (A 1 k 1) 0 / 32) (nI (A 3 (A 4 (A 1 k 1) 0 / 32) 2 + d))) 20 0 4 (nI (zsm (fun j => A 3 j 2) (A 0 0 1) + d))) :=
  ⟨zCL_PD h.1 h.2.2.2 hk h0 hd hd9 hK, zRF_PD h.2.1 h.2.2.2 hk h0 hd hd9 hK, zEQ_PD h.2.2.1 h.2.2.2 hk h0 hd hd9 hK, zIV_PD h.2.2.2 hk h0 hd hd9 hK⟩
theorem zIV_WK {K : Nat} {A : zN} {k : Nat} (hi : zIV K A) (hk : k < A 0 0 0) (h0 : A 1 k 0 = 3) : zIV (K) (zu A 1 k 0 0) := by
  have hi1 := hi.k1
  have z0 : nI 0 = 0 := rfl
  have z1 : nI 1 = 1 := rfl
  have z2 : nI 2 = 2 := rfl
  have z3 : nI 3 = 3 := rfl
  have hk6 : k < 6 := by omega
  refine ⟨?_, ?_, ?_, ?_, ?_, ?_, ?_, ?_, ?_, ?_, ?_, ?_, ?_, ?_, ?_, ?_, ?_, ?_, ?_, ?_, ?_, ?_, ?_, ?_⟩
  · (try simp [zu, zrow]) <;> (
      first
      | exact hi.k1
      | (have b1 := hi.k1
         clear hi
         grind))
  · (try simp [zu, zrow]) <;> (
      first
      | exact hi.k2
      | (have b2 := hi.k2
         clear hi
         grind))
  · (try simp [zu, zrow]) <;> (
      first
      | exact hi.k3
      | (have b3 := hi.k3
         clear hi
         grind))
  · (try simp [zu, zrow]) <;> (
      first
      | exact hi.k4
      | (have b4 := hi.k4
         clear hi
         grind))
  · (try simp [zu, zrow]) <;> (
      first
      | exact hi.k5
      | (have b5 := hi.k5
         clear hi
         grind))
  · (try simp [zu, zrow]) <;> (
      first
      | exact hi.k6
      | (have b6 := hi.k6
         clear hi
         grind))
  · (try simp [zu, zrow]) <;> (
      first
      | exact hi.k7
      | (have b7 := hi.k7
         clear hi
         grind))
  · (try simp [zu, zrow]) <;> (
      first
      | exact hi.k8
      | (have b8 := hi.k8
         clear hi
         grind))
  · (try simp [zu, zrow]) <;> (
      first
      | exact hi.k9
      | (have b9 := hi.k9
         clear hi
         grind))
  · (try simp [zu, zrow]) <;> (
      first
      | exact hi.k10
      | (have b10 := hi.k10
         clear hi
         grind))
  · (try simp [zu, zrow]) <;> (
      first
      | exact hi.k11
      | (have b11 := hi.k11
         clear hi
         grind))
  · (try simp [zu, zrow]) <;> (
      first
      | exact hi.k12
      | (have b12 := hi.k12
         clear hi
         grind))
  · (try simp [zu, zrow]) <;> (
      first
      | exact hi.k13
      | (have b13 := hi.k13
         clear hi
         grind))
  · (try simp [zu, zrow]) <;> (
      first
      | exact hi.k14
      | (have b14 := hi.k14
         clear hi
         grind))
  · (try simp [zu, zrow]) <;> (
      first
      | exact hi.k15
      | (have b15 := hi.k15
         clear hi
         grind))
  · (try simp [zu, zrow]) <;> (
      first
      | exact hi.k16
      | (have b16 := hi.k16
         clear hi
         grind))
  · (try simp [zu, zrow]) <;> (
      first
      | exact hi.k17
      | (have b17 := hi.k17
         clear hi
         grind))
  · (try simp [zu, zrow]) <;> (
      first
      | exact hi.k18
      | (have b18 := hi.k18
         clear hi
         grind))
  · (try simp [zu, zrow]) <;> (
      first
      | exact hi.k19
      | (have b19 := hi.k19
         clear hi
         grind))
  · (try simp [zu, zrow]) <;> (
      first
      | exact hi.k20
      | (have b20 := hi.k20
         clear hi
         grind))
  · (try simp [zu, zrow]) <;> (
      first
      | exact hi.k21
      | (have b21 := hi.k21
         clear hi
         grind))
  · (try simp [zu, zrow]) <;> (
      first
      | exact hi.k22
      | (have b22 := hi.k22
         clear hi
         grind))
  · (try simp [zu, zrow]) <;> (
      first
      | exact hi.k23
      | (have b23 := hi.k23
         clear hi
         grind))
  · (try simp [zu, zrow]) <;> (
      first
      | exact hi.k24
      | (have b24 := hi.k24
         clear hi
         grind))
theorem zCL_WK {K : Nat} {A : zN} {Y : gY} {k : Nat} (h : zCL A Y) (hi : zIV K A) (hk : k < A 0 0 0) (h0 : A 1 k 0 = 3) : zCL (zu A 1 k 0 0) (u3 Y 1 k 7 0) := by
  have hi1 := hi.k1
  have z0 : nI 0 = 0 := rfl
  have z1 : nI 1 = 1 := rfl
  have z2 : nI 2 = 2 := rfl
  have z3 : nI 3 = 3 := rfl
  have hk6 : k < 6 := by omega
  refine ⟨?_, ?_, ?_, ?_, ?_, ?_, ?_, ?_, ?_, ?_, ?_, ?_, ?_, ?_, ?_, ?_, ?_, ?_, ?_⟩
  · (try simp [zu, zrow, u3, urow]) <;> (
      first
      | exact h.k1
      | (have a1 := h.k1
         clear h hi
         grind))
  · (try simp [zu, zrow, u3, urow]) <;> (
      first
      | exact h.k2
      | (have a2 := h.k2
         clear h hi
         grind))
  · (try simp [zu, zrow, u3, urow]) <;> (
      first
      | exact h.k3
      | (have a3 := h.k3
         clear h hi
         grind))
  · (try simp [zu, zrow, u3, urow]) <;> (
      first
      | exact h.k4
      | (have a4 := h.k4
         clear h hi
         grind))
  · (try simp [zu, zrow, u3, urow]) <;> (
      first
      | exact h.k5
      | (have a5 := h.k5
         clear h hi
         grind))
  · (try simp [zu, zrow, u3, urow]) <;> (
      first
      | exact h.k6
      | (have a6 := h.k6
         clear h hi
         grind))
  · (try simp [zu, zrow, u3, urow]) <;> (
      first
      | exact h.k7
      | (have a7 := h.k7
         clear h hi
         grind))
  · (try simp [zu, zrow, u3, urow]) <;> (
      first
      | exact h.k8
      | (have a8 := h.k8
         clear h hi
         grind))
  · (try simp [zu, zrow, u3, urow]) <;> (
      first
      | exact h.k9
      | (have a9 := h.k9
         clear h hi
         grind))
  · (try simp [zu, zrow, u3, urow]) <;> (
      first
      | exact h.k10
      | (have a10 := h.k10
         clear h hi
         grind))
  · (try simp [zu, zrow, u3, urow]) <;> (
      first
      | exact h.k11
      | (have a11 := h.k11
         clear h hi
         grind))
  · (try simp [zu, zrow, u3, urow]) <;> (
      first
      | exact h.k12
      | (have a12 := h.k12
         clear h hi
         grind))
  · (try simp [zu, zrow, u3, urow]) <;> (
      first
      | exact h.k13
      | (have a13 := h.k13
         clear h hi
         grind))
  · (try simp [zu, zrow, u3, urow]) <;> (
      first
      | exact h.k14
      | (have a14 := h.k14
         clear h hi
         grind))
  · (try simp [zu, zrow, u3, urow]) <;> (
      first
      | exact h.k15
      | (have a15 := h.k15
         clear h hi
         grind))
  · (try simp [zu, zrow, u3, urow]) <;> (
      first
      | exact h.k16
      | (have a16 := h.k16
         clear h hi
         grind))
  · (try simp [zu, zrow, u3, urow]) <;> (
      first
      | exact h.k17
      | (have a17 := h.k17
         clear h hi
         grind))
  · (try simp [zu, zrow, u3, urow]) <;> (
      first
      | exact h.k18
      | (have a18 := h.k18
         clear h hi
         grind))
  · (try simp [zu, zrow, u3, urow]) <;> (
      first
      | exact h.k19
      | (have a19 := h.k19
         clear h hi
         grind))
theorem zRF_WK {K : Nat} {A : zN} {M S : gY} {k : Nat} (h : zRF A M S) (hi : zIV K A) (hk : k < A 0 0 0) (h0 : A 1 k 0 = 3) : zRF (zu A 1 k 0 0) M (u3 S 25 0 k 0) := by
  have hi1 := hi.k1
  have z0 : nI 0 = 0 := rfl
  have z1 : nI 1 = 1 := rfl
  have z2 : nI 2 = 2 := rfl
  have z3 : nI 3 = 3 := rfl
  have hk6 : k < 6 := by omega
  refine ⟨?_, ?_, ?_, ?_, ?_, ?_, ?_, ?_, ?_, ?_, ?_, ?_, ?_, ?_, ?_, ?_, ?_, ?_, ?_, ?_, ?_, ?_⟩
  · (try simp [zu, zrow, u3, urow]) <;> (
      first
      | exact h.k1
      | (have a1 := h.k1
         clear h hi
         grind))
  · (try simp [zu, zrow, u3, urow]) <;> (
      first
      | exact h.k2
      | (have a2 := h.k2
         clear h hi
         grind))
  · (try simp [zu, zrow, u3, urow]) <;> (
      first
      | exact h.k3
      | (have a3 := h.k3
         clear h hi
         grind))
  · (try simp [zu, zrow, u3, urow]) <;> (
      first
      | exact h.k4
      | (have a4 := h.k4
         clear h hi
         grind))
  · (try simp [zu, zrow, u3, urow]) <;> (
      first
      | exact h.k5
      | (have a5 := h.k5
         clear h hi
         grind))
  · (try simp [zu, zrow, u3, urow]) <;> (
      first
      | exact h.k6
      | (have a6 := h.k6
         clear h hi
         grind))
  · (try simp [zu, zrow, u3, urow]) <;> (
      first
      | exact h.k7
      | (have a7 := h.k7
         clear h hi
         grind))
  · (try simp [zu, zrow, u3, urow]) <;> (
      first
      | exact h.k8
      | (have a8 := h.k8
         clear h hi
         grind))
  · (try simp [zu, zrow, u3, urow]) <;> (
      first
      | exact h.k9
      | (have a9 := h.k9
         clear h hi
         grind))
  · (try simp [zu, zrow, u3, urow]) <;> (
      first
      | exact h.k10
      | (have a10 := h.k10
         clear h hi
         grind))
  · (try simp [zu, zrow, u3, urow]) <;> (
      first
      | exact h.k11
      | (have a11 := h.k11
         clear h hi
         grind))
  · (try simp [zu, zrow, u3, urow]) <;> (
      first
      | exact h.k12
      | (have a12 := h.k12
         clear h hi
         grind))
  · (try simp [zu, zrow, u3, urow]) <;> (
      first
      | exact h.k13
      | (have a13 := h.k13
         clear h hi
         grind))
  · (try simp [zu, zrow, u3, urow]) <;> (
      first
      | exact h.k14
      | (have a14 := h.k14
         clear h hi
         grind))
  · (try simp [zu, zrow, u3, urow]) <;> (
      first
      | exact h.k15
      | (have a15 := h.k15
         clear h hi
         grind))
  · (try simp [zu, zrow, u3, urow]) <;> (
      first
      | exact h.k16
      | (have a16 := h.k16
         clear h hi
         grind))
  · (try simp [zu, zrow, u3, urow]) <;> (
      first
      | exact h.k17
      | (have a17 := h.k17
         clear h hi
         grind))
  · (try simp [zu, zrow, u3, urow]) <;> (
      first
      | exact h.k18
      | (have a18 := h.k18
         clear h hi
         grind))
  · (try simp [zu, zrow, u3, urow]) <;> (
      first
      | exact h.k19
      | (have a19 := h.k19
         clear h hi
         grind))
  · (try simp [zu, zrow, u3, urow]) <;> (
      first
      | exact h.k20
      | (have a20 := h.k20
         clear h hi
         grind))
  · (try simp [zu, zrow, u3, urow]) <;> (
      first
      | exact h.k21
      | (have a21 := h.k21
         clear h hi
         grind))
  · (try simp [zu, zrow, u3, urow]) <;> (
      first
      | exact h.k22
      | (have a22 := h.k22
         clear h hi
         grind))
theorem zEQ_WK {ko K : Nat} {A : zN} {Y M S : gY} {k : Nat} (h : zEQ ko A Y M S) (hi : zIV K A) (hk : k < A 0 0 0) (h0 : A 1 k 0 = 3) : zEQ ko (zu A 1 k 0 0) (u3 Y 1 k 7 0) M (u3 S 25 0 k 0) := by
  have hi1 := hi.k1
  have z0 : nI 0 = 0 := rfl
  have z1 : nI 1 = 1 := rfl
  have z2 : nI 2 = 2 := rfl
  have z3 : nI 3 = 3 := rfl
  have hk6 : k < 6 := by omega
  refine ⟨?_, ?_, ?_, ?_, ?_, ?_, ?_, ?_, ?_, ?_, ?_, ?_⟩
  · (try simp [zu, zrow, u3, urow]) <;> (
      first
      | exact h.k1
      | (have a1 := h.k1
         clear h hi
         grind))
  · (try simp [zu, zrow, u3, urow]) <;> (
      first
      | exact h.k2
      | (have a2 := h.k2
         clear h hi
         grind))
  · (try simp [zu, zrow, u3, urow]) <;> (
      first
      | exact h.k3
      | (have a3 := h.k3
         clear h hi
         grind))
  · (try simp [zu, zrow, u3, urow]) <;> (
      first
      | exact h.k4
      | (have a4 := h.k4
         clear h hi
         grind))
  · (try simp [zu, zrow, u3, urow]) <;> (
      first
      | exact h.k5
      | (have a5 := h.k5
         clear h hi
         grind))
  · (try simp [zu, zrow, u3, urow]) <;> (
      first
      | exact h.k6
      | (have a6 := h.k6
         clear h hi
         grind))
  · (try simp [zu, zrow, u3, urow]) <;> (
      first
      | exact h.k7
      | (have a7 := h.k7
         clear h hi
         grind))
  · (try simp [zu, zrow, u3, urow]) <;> (
      first
      | exact h.k8
      | (have a8 := h.k8
         clear h hi
         grind))
  · (try simp [zu, zrow, u3, urow]) <;> (
      first
      | exact h.k9
      | (have a9 := h.k9
         clear h hi
         grind))
  · (try simp [zu, zrow, u3, urow]) <;> (
      first
      | exact h.k10
      | (have a10 := h.k10
         clear h hi
         grind))
  · (try simp [zu, zrow, u3, urow]) <;> (
      first
      | exact h.k11
      | (have a11 := h.k11
         clear h hi
         grind))
  · (try simp [zu, zrow, u3, urow]) <;> (
      first
      | exact h.k12
      | (have a12 := h.k12
         clear h hi
         grind))
theorem zR_WK {ko K : Nat} {A : zN} {Y M S : gY} {k : Nat} (h : zR ko K A Y M S) (hk : k < A 0 0 0) (h0 : A 1 k 0 = 3) : zR ko (K) (zu A 1 k 0 0) (u3 Y 1 k 7 0) M (u3 S 25 0 k 0) :=
  ⟨zCL_WK h.1 h.2.2.2 hk h0, zRF_WK h.2.1 h.2.2.2 hk h0, zEQ_WK h.2.2.1 h.2.2.2 hk h0, zIV_WK h.2.2.2 hk h0⟩
theorem zIV_YD {K : Nat} {A : zN} {k j : Nat} (hi : zIV K A) (hk : k < A 0 0 0) (hj : j < A 0 0 1) (h0 : A 1 k 0 = 0) (hs : A 3 j 0 = 0) : zIV (K) (zu (zu (zu A 3 j 0 1) 1 k 0 1) 1 k 1 (A 3 j 1)) := by
  have hi1 := hi.k1
  have z0 : nI 0 = 0 := rfl
  have z1 : nI 1 = 1 := rfl
  have z2 : nI 2 = 2 := rfl
  have z3 : nI 3 = 3 := rfl
  have hk6 : k < 6 := by omega
  have hp := hi.k11 j hj
  have hl := hi.k24 j hj hs
  refine ⟨?_, ?_, ?_, ?_, ?_, ?_, ?_, ?_, ?_, ?_, ?_, ?_, ?_, ?_, ?_, ?_, ?_, ?_, ?_, ?_, ?_, ?_, ?_, ?_⟩
  · (try simp [zu, zrow]) <;> (
      first
      | exact hi.k1
      | (have b1 := hi.k1
         clear hi
         grind))
  · (try simp [zu, zrow]) <;> (
      first
      | exact hi.k2
      | (have b2 := hi.k2
         clear hi
         grind))
  · (try simp [zu, zrow]) <;> (
      first
      | exact hi.k3
      | (have b3 := hi.k3
         clear hi
         grind))
  · (try simp [zu, zrow]) <;> (
      first
      | exact hi.k4
      | (have b4 := hi.k4
         clear hi
         grind))
  · (try simp [zu, zrow]) <;> (
      first
      | exact hi.k5
      | (have b5 := hi.k5
         clear hi
         grind))
  · (try simp [zu, zrow]) <;> (
      first
      | exact hi.k6
      | (have b6 := hi.k6
         clear hi
         grind))
  · (try simp [zu, zrow]) <;> (
      first
      | exact hi.k7
      | (have b7 := hi.k7
         clear hi
         grind))
  · (try simp [zu, zrow]) <;> (
      first
      | exact hi.k8
      | (have b8 := hi.k8
         clear hi
         grind))
  · (try simp [zu, zrow]) <;> (
      first
      | exact hi.k9
      | (have b9 := hi.k9
         clear hi
         grind))
  · (try simp [zu, zrow]) <;> (
      first
      | exact hi.k10
      | (have b10 := hi.k10
         clear hi
         grind))
  · (try simp [zu, zrow]) <;> (
      first
      | exact hi.k11
      | (have b11 := hi.k11
         clear hi
         grind))
  · (try simp [zu, zrow]) <;> (
      first
      | exact hi.k12
      | (have b12 := hi.k12
         clear hi
         grind))
  · (try simp [zu, zrow]) <;> (
      first
      | exact hi.k13
      | (have b13 := hi.k13
         clear hi
         grind))
  · (try simp [zu, zrow]) <;> (
      first
      | exact hi.k14
      | (have b14 := hi.k14
         clear hi
         grind))
  · (try simp [zu, zrow]) <;> (
      first
      | exact hi.k15
      | (have b15 := hi.k15
         have b17 := hi.k17
         clear hi
         grind))
  · (try simp [zu, zrow]) <;> (
      first
      | exact hi.k16
      | (have b16 := hi.k16
         have b19 := hi.k19
         clear hi
         grind))
  · (try simp [zu, zrow]) <;> (
      first
      | exact hi.k17
      | (have b11 := hi.k11
         have b17 := hi.k17
         clear hi
         grind))
  · (try simp [zu, zrow]) <;> (
      first
      | exact hi.k18
      | (have b18 := hi.k18
         clear hi
         grind))
  · (try simp [zu, zrow]) <;> (
      first
      | exact hi.k19
      | (have b19 := hi.k19
         clear hi
         grind))
  · (try simp [zu, zrow]) <;> (
      first
      | exact hi.k20
      | (have b20 := hi.k20
         have b22 := hi.k22
         clear hi
         grind))
  · (try simp [zu, zrow]) <;> (
      first
      | exact hi.k21
      | (have b21 := hi.k21
         clear hi
         grind))
  · (try simp [zu, zrow]) <;> (
      first
      | exact hi.k22
      | (have b22 := hi.k22
         clear hi
         grind))
  · (try simp [zu, zrow]) <;> (
      first
      | exact hi.k23
      | (have b23 := hi.k23
         clear hi
         grind))
  · (try simp [zu, zrow]) <;> (
      first
      | exact hi.k24
      | (have b24 := hi.k24
         clear hi
         grind))
theorem zCL_YD {K : Nat} {A : zN} {Y : gY} {k j : Nat} (h : zCL A Y) (hi : zIV K A) (hk : k < A 0 0 0) (hj : j < A 0 0 1) (h0 : A 1 k 0 = 0) (hs : A 3 j 0 = 0) : zCL (zu (zu (zu A 3 j 0 1) 1 k 0 1) 1 k 1 (A 3 j 1)) (u3 (u3 (u3 Y 4 j 1 1) 1 k 4 (nI (32 * j + 1))) 1 k 5 (nI (A 4 (A 3 j 1) 3))) := by
  have hi1 := hi.k1
  have z0 : nI 0 = 0 := rfl
  have z1 : nI 1 = 1 := rfl
  have z2 : nI 2 = 2 := rfl
  have z3 : nI 3 = 3 := rfl
  have hk6 : k < 6 := by omega
  have hp := hi.k11 j hj
  have hl := hi.k24 j hj hs
  refine ⟨?_, ?_, ?_, ?_, ?_, ?_, ?_, ?_, ?_, ?_, ?_, ?_, ?_, ?_, ?_, ?_, ?_, ?_, ?_⟩
  · (try simp [zu, zrow, u3, urow]) <;> (
      first
      | exact h.k1
      | (have a1 := h.k1
         clear h hi
         grind))
  · (try simp [zu, zrow, u3, urow]) <;> (
      first
      | exact h.k2
      | (have a2 := h.k2
         clear h hi
         grind))
  · (try simp [zu, zrow, u3, urow]) <;> (
      first
      | exact h.k3
      | (have a3 := h.k3
         clear h hi
         grind))
  · (try simp [zu, zrow, u3, urow]) <;> (
      first
      | exact h.k4
      | (have a4 := h.k4
         clear h hi
         grind))
  · (try simp [zu, zrow, u3, urow]) <;> (
      first
      | exact h.k5
      | (have a5 := h.k5
         clear h hi
         grind))
  · (try simp [zu, zrow, u3, urow]) <;> (
      first
      | exact h.k6
      | (have a6 := h.k6
         clear h hi
         grind))
  · (try simp [zu, zrow, u3, urow]) <;> (
      first
      | exact h.k7
      | (have a7 := h.k7
         clear h hi
         grind))
  · (try simp [zu, zrow, u3, urow]) <;> (
      first
      | exact h.k8
      | (have a8 := h.k8
         clear h hi
         grind))
  · (try simp [zu, zrow, u3, urow]) <;> (
      first
      | exact h.k9
      | (have a9 := h.k9
         clear h hi
         grind))
  · (try simp [zu, zrow, u3, urow]) <;> (
      first
      | exact h.k10
      | (have a10 := h.k10
         clear h hi
         grind))
  · (try simp [zu, zrow, u3, urow]) <;> (
      first
      | exact h.k11
      | (have a11 := h.k11
         clear h hi
         grind))
  · (try simp [zu, zrow, u3, urow]) <;> (
      first
      | exact h.k12
      | (have a12 := h.k12
         clear h hi
         grind))
  · (try simp [zu, zrow, u3, urow]) <;> (
      first
      | exact h.k13
      | (have a13 := h.k13
         clear h hi
         grind))
  · (try simp [zu, zrow, u3, urow]) <;> (
      first
      | exact h.k14
      | (have a14 := h.k14
         clear h hi
         grind))
  · (try simp [zu, zrow, u3, urow]) <;> (
      first
      | exact h.k15
      | (have a15 := h.k15
         clear h hi
         grind))
  · (try simp [zu, zrow, u3, urow]) <;> (
      first
      | exact h.k16
      | (have a16 := h.k16
         clear h hi
         grind))
  · (try simp [zu, zrow, u3, urow]) <;> (
      first
      | exact h.k17
      | (have a17 := h.k17
         clear h hi
         grind))
  · (try simp [zu, zrow, u3, urow]) <;> (
      first
      | exact h.k18
      | (have a18 := h.k18
         clear h hi
         grind))
  · (try simp [zu, zrow, u3, urow]) <;> (
      first
      | exact h.k19
      | (have a19 := h.k19
         clear h hi
         grind))
theorem zRF_YD {K : Nat} {A : zN} {M S : gY} {k j : Nat} (h : zRF A M S) (hi : zIV K A) (hk : k < A 0 0 0) (hj : j < A 0 0 1) (h0 : A 1 k 0 = 0) (hs : A 3 j 0 = 0) : zRF (zu (zu (zu A 3 j 0 1) 1 k 0 1) 1 k 1 (A 3 j 1)) M (u3 (u3 (u3 S 33 0 j 1) 25 0 k 1) 26 0 k (nI (A 3 j 1))) := by
  have hi1 := hi.k1
  have z0 : nI 0 = 0 := rfl
  have z1 : nI 1 = 1 := rfl
  have z2 : nI 2 = 2 := rfl
  have z3 : nI 3 = 3 := rfl
  have hk6 : k < 6 := by omega
  have hp := hi.k11 j hj
  have hl := hi.k24 j hj hs
  refine ⟨?_, ?_, ?_, ?_, ?_, ?_, ?_, ?_, ?_, ?_, ?_, ?_, ?_, ?_, ?_, ?_, ?_, ?_, ?_, ?_, ?_, ?_⟩
  · (try simp [zu, zrow, u3, urow]) <;> (
      first
      | exact h.k1
      | (have a1 := h.k1
         clear h hi
         grind))
  · (try simp [zu, zrow, u3, urow]) <;> (
      first
      | exact h.k2
      | (have a2 := h.k2
         clear h hi
         grind))
  · (try simp [zu, zrow, u3, urow]) <;> (
      first
      | exact h.k3
      | (have a3 := h.k3
         clear h hi
         grind))
  · (try simp [zu, zrow, u3, urow]) <;> (
      first
      | exact h.k4
      | (have a4 := h.k4
         clear h hi
         grind))
  · (try simp [zu, zrow, u3, urow]) <;> (
      first
      | exact h.k5
      | (have a5 := h.k5
         clear h hi
         grind))
  · (try simp [zu, zrow, u3, urow]) <;> (
      first
      | exact h.k6
      | (have a6 := h.k6
         clear h hi
         grind))
  · (try simp [zu, zrow, u3, urow]) <;> (
      first
      | exact h.k7
      | (have a7 := h.k7
         clear h hi
         grind))
  · (try simp [zu, zrow, u3, urow]) <;> (
      first
      | exact h.k8
      | (have a8 := h.k8
         clear h hi
         grind))
  · (try simp [zu, zrow, u3, urow]) <;> (
      first
      | exact h.k9
      | (have a9 := h.k9
         clear h hi
         grind))
  · (try simp [zu, zrow, u3, urow]) <;> (
      first
      | exact h.k10
      | (have a10 := h.k10
         clear h hi
         grind))
  · (try simp [zu, zrow, u3, urow]) <;> (
      first
      | exact h.k11
      | (have a11 := h.k11
         clear h hi
         grind))
  · (try simp [zu, zrow, u3, urow]) <;> (
      first
      | exact h.k12
      | (have a12 := h.k12
         clear h hi
         grind))
  · (try simp [zu, zrow, u3, urow]) <;> (
      first
      | exact h.k13
      | (have a13 := h.k13
         clear h hi
         grind))
  · (try simp [zu, zrow, u3, urow]) <;> (
      first
      | exact h.k14
      | (have a14 := h.k14
         clear h hi
         grind))
  · (try simp [zu, zrow, u3, urow]) <;> (
      first
      | exact h.k15
      | (have a15 := h.k15
         clear h hi
         grind))
  · (try simp [zu, zrow, u3, urow]) <;> (
      first
      | exact h.k16
      | (have a16 := h.k16
         clear h hi
         grind))
  · (try simp [zu, zrow, u3, urow]) <;> (
      first
      | exact h.k17
      | (have a17 := h.k17
         clear h hi
         grind))
  · (try simp [zu, zrow, u3, urow]) <;> (
      first
      | exact h.k18
      | (have a18 := h.k18
         clear h hi
         grind))
  · (try simp [zu, zrow, u3, urow]) <;> (
      first
      | exact h.k19
      | (have a19 := h.k19
         clear h hi
         grind))
  · (try simp [zu, zrow, u3, urow]) <;> (
      first
      | exact h.k20
      | (have a20 := h.k20
         clear h hi
         grind))
  · (try simp [zu, zrow, u3, urow]) <;> (
      first
      | exact h.k21
      | (have a21 := h.k21
         clear h hi
         grind))
  · (try simp [zu, zrow, u3, urow]) <;> (
      first
      | exact h.k22
      | (have a22 := h.k22
         clear h hi
         grind))
theorem zEQ_YD {ko K : Nat} {A : zN} {Y M S : gY} {k j : Nat} (h : zEQ ko A Y M S) (hi : zIV K A) (hk : k < A 0 0 0) (hj : j < A 0 0 1) (h0 : A 1 k 0 = 0) (hs : A 3 j 0 = 0) : zEQ ko (zu (zu (zu A 3 j 0 1) 1 k 0 1) 1 k 1 (A 3 j 1)) (u3 (u3 (u3 Y 4 j 1 1) 1 k 4 (nI (32 * j + 1))) 1 k 5 (nI (A 4 (A 3 j 1) 3))) M (u3 (u3 (u3 S 33 0 j 1) 25 0 k 1) 26 0 k (nI (A 3 j 1))) := by
  have hi1 := hi.k1
  have z0 : nI 0 = 0 := rfl
  have z1 : nI 1 = 1 := rfl
  have z2 : nI 2 = 2 := rfl
  have z3 : nI 3 = 3 := rfl
  have hk6 : k < 6 := by omega
  have hp := hi.k11 j hj
  have hl := hi.k24 j hj hs
  refine ⟨?_, ?_, ?_, ?_, ?_, ?_, ?_, ?_, ?_, ?_, ?_, ?_⟩
  · (try simp [zu, zrow, u3, urow]) <;> (
      first
      | exact h.k1
      | (have a1 := h.k1
         clear h hi
         grind))
  · (try simp [zu, zrow, u3, urow]) <;> (
      first
      | exact h.k2
      | (have a2 := h.k2
         clear h hi
         grind))
  · (try simp [zu, zrow, u3, urow]) <;> (
      first
      | exact h.k3
      | (have a3 := h.k3
         clear h hi
         grind))
  · (try simp [zu, zrow, u3, urow]) <;> (
      first
      | exact h.k4
      | (have a4 := h.k4
         clear h hi
         grind))
  · (try simp [zu, zrow, u3, urow]) <;> (
      first
      | exact h.k5
      | (have a5 := h.k5
         clear h hi
         grind))
  · (try simp [zu, zrow, u3, urow]) <;> (
      first
      | exact h.k6
      | (have a6 := h.k6
         clear h hi
         grind))
  · (try simp [zu, zrow, u3, urow]) <;> (
      first
      | exact h.k7
      | (have a7 := h.k7
         clear h hi
         grind))
  · (try simp [zu, zrow, u3, urow]) <;> (
      first
      | exact h.k8
      | (have a8 := h.k8
         clear h hi
         grind))
  · (try simp [zu, zrow, u3, urow]) <;> (
      first
      | exact h.k9
      | (have a9 := h.k9
         clear h hi
         grind))
  · (try simp [zu, zrow, u3, urow]) <;> (
      first
      | exact h.k10
      | (have a10 := h.k10
         clear h hi
         grind))
  · (try simp [zu, zrow, u3, urow]) <;> (
      first
      | exact h.k11
      | (have a11 := h.k11
         clear h hi
         grind))
  · (try simp [zu, zrow, u3, urow]) <;> (
      first
      | exact h.k12
      | (have a12 := h.k12
         clear h hi
         grind))
theorem zR_YD {ko K : Nat} {A : zN} {Y M S : gY} {k j : Nat} (h : zR ko K A Y M S) (hk : k < A 0 0 0) (hj : j < A 0 0 1) (h0 : A 1 k 0 = 0) (hs : A 3 j 0 = 0) : zR ko (K) (zu (zu (zu A 3 j 0 1) 1 k 0 1) 1 k 1 (A 3 j 1)) (u3 (u3 (u3 Y 4 j 1 1) 1 k 4 (nI (32 * j + 1))) 1 k 5 (nI (A 4 (A 3 j 1) 3))) M (u3 (u3 (u3 S 33 0 j 1) 25 0 k 1) 26 0 k (nI (A 3 j 1))) :=
  ⟨zCL_YD h.1 h.2.2.2 hk hj h0 hs, zRF_YD h.2.1 h.2.2.2 hk hj h0 hs, zEQ_YD h.2.2.1 h.2.2.2 hk hj h0 hs, zIV_YD h.2.2.2 hk hj h0 hs⟩
def zST (A : zN) (k v : Nat) : zN := zu (zu (zu (zu A 1 v 2 (A 1 v 2 - 1)) 1 k 0 1) 1 k 1 (A 2 v (A 1 v 2 - 1))) 1 k 6 (A 1 k 6 + 1)
theorem zIV_ST {K : Nat} {A : zN} {k v : Nat} (hi : zIV K A) (hk : k < A 0 0 0) (hv : v < A 0 0 0) (hvk : v ≠ k) (h0 : A 1 k 0 = 0) (hm : 0 < A 1 v 2) (hK : K + 1 ≤ 1000000) : zIV (K + 1) (zST A k v) := by
  have hi1 := hi.k1
  have z0 : nI 0 = 0 := rfl
  have z1 : nI 1 = 1 := rfl
  have z2 : nI 2 = 2 := rfl
  have z3 : nI 3 = 3 := rfl
  have hk6 : k < 6 := by omega
  have hv6 : v < 6 := by omega
  have hh := hi.k10 v (A 1 v 2 - 1) hv6 (by omega)
  have hl := hi.k23 v (A 1 v 2 - 1) hv6 (by omega)
  refine ⟨?_, ?_, ?_, ?_, ?_, ?_, ?_, ?_, ?_, ?_, ?_, ?_, ?_, ?_, ?_, ?_, ?_, ?_, ?_, ?_, ?_, ?_, ?_, ?_⟩
  · (try simp [zST, zu, zrow]) <;> (
      first
      | exact hi.k1
      | (have b1 := hi.k1
         clear hi
         grind))
  · (try simp [zST, zu, zrow]) <;> (
      first
      | exact hi.k2
      | (have b2 := hi.k2
         clear hi
         grind))
  · (try simp [zST, zu, zrow]) <;> (
      first
      | exact hi.k3
      | (have b3 := hi.k3
         clear hi
         grind))
  · (try simp [zST, zu, zrow]) <;> (
      first
      | exact hi.k4
      | (have b4 := hi.k4
         clear hi
         grind))
  · (try simp [zST, zu, zrow]) <;> (
      first
      | exact hi.k5
      | (have b5 := hi.k5
         clear hi
         grind))
  · (try simp [zST, zu, zrow]) <;> (
      first
      | exact hi.k6
      | (have b6 := hi.k6
         clear hi
         grind))
  · (try simp [zST, zu, zrow]) <;> (
      first
      | exact hi.k7
      | (have b7 := hi.k7
         clear hi
         grind))
  · (try simp [zST, zu, zrow]) <;> (
      first
      | exact hi.k8
      | (have b8 := hi.k8
         clear hi
         grind))
  · (try simp [zST, zu, zrow]) <;> (
      first
      | exact hi.k9
      | (have b9 := hi.k9
         clear hi
         grind))
  · (try simp [zST, zu, zrow]) <;> (
      first
      | exact hi.k10
      | (have b10 := hi.k10
         clear hi
         grind))
  · (try simp [zST, zu, zrow]) <;> (
      first
      | exact hi.k11
      | (have b11 := hi.k11
         clear hi
         grind))
  · (try simp [zST, zu, zrow]) <;> (
      first
      | exact hi.k12
      | (have b12 := hi.k12
         clear hi
         grind))
  · (try simp [zST, zu, zrow]) <;> (
      first
      | exact hi.k13
      | (have b13 := hi.k13
         clear hi
         grind))
  · (try simp [zST, zu, zrow]) <;> (
      first
      | exact hi.k14
      | (have b14 := hi.k14
         clear hi
         grind))
  · (try simp [zST, zu, zrow]) <;> (
      first
      | exact hi.k15
      | (have b15 := hi.k15
         have b16 := hi.k16
         clear hi
         grind))
  · (try simp [zST, zu, zrow]) <;> (
      first
      | exact hi.k16
      | (have b16 := hi.k16
         have b18 := hi.k18
         clear hi
         grind))
  · (try simp [zST, zu, zrow]) <;> (
      first
      | exact hi.k17
      | (have b17 := hi.k17
         have b19 := hi.k19
         clear hi
         grind))
  · (try simp [zST, zu, zrow]) <;> (
      first
      | exact hi.k18
      | (have b18 := hi.k18
         clear hi
         grind))
  · (try simp [zST, zu, zrow]) <;> (
      first
      | exact hi.k19
      | (have b19 := hi.k19
         clear hi
         grind))
  · (try simp [zST, zu, zrow]) <;> (
      first
      | exact hi.k20
      | (have b20 := hi.k20
         have b21 := hi.k21
         clear hi
         grind))
  · (try simp [zST, zu, zrow]) <;> (
      first
      | exact hi.k21
      | (have b21 := hi.k21
         clear hi
         grind))
  · (try simp [zST, zu, zrow]) <;> (
      first
      | exact hi.k22
      | (have b22 := hi.k22
         clear hi
         grind))
  · (try simp [zST, zu, zrow]) <;> (
      first
      | exact hi.k23
      | (have b23 := hi.k23
         clear hi
         grind))
  · (try simp [zST, zu, zrow]) <;> (
      first
      | exact hi.k24
      | (have b24 := hi.k24
         clear hi
         grind))
theorem zCL_ST {K : Nat} {A : zN} {Y : gY} {k v : Nat} (h : zCL A Y) (hi : zIV K A) (hk : k < A 0 0 0) (hv : v < A 0 0 0) (hvk : v ≠ k) (h0 : A 1 k 0 = 0) (hm : 0 < A 1 v 2) (hK : K + 1 ≤ 1000000) : zCL (zST A k v) (u3 (u3 (u3 (u3 (u3 (urow (u3 Y 2 (A 1 v 3) 1 (nI (A 1 v 2 - 1))) 3 (A 1 v 3) (va_cpy (Y 3 (A 1 v 3)) (Y 3 (A 1 v 3)) 1 0 (A 1 v 2 - 1))) 1 k 4 (nI (A 4 (A 2 v (A 1 v 2 - 1)) 0))) 1 k 5 (nI (A 4 (A 2 v (A 1 v 2 - 1)) 3))) 1 k 10 (nI (A 1 k 6 + 1))) 1 v 11 (Y 1 v 11 + 1)) 4 (A 4 (A 2 v (A 1 v 2 - 1)) 0 / 32) 5 (Y 4 (A 4 (A 2 v (A 1 v 2 - 1)) 0 / 32) 5 + 1)) := by
  have hi1 := hi.k1
  have z0 : nI 0 = 0 := rfl
  have z1 : nI 1 = 1 := rfl
  have z2 : nI 2 = 2 := rfl
  have z3 : nI 3 = 3 := rfl
  have hk6 : k < 6 := by omega
  have hv6 : v < 6 := by omega
  have hh := hi.k10 v (A 1 v 2 - 1) hv6 (by omega)
  have hl := hi.k23 v (A 1 v 2 - 1) hv6 (by omega)
  refine ⟨?_, ?_, ?_, ?_, ?_, ?_, ?_, ?_, ?_, ?_, ?_, ?_, ?_, ?_, ?_, ?_, ?_, ?_, ?_⟩
  · (try simp [zST, zu, zrow, u3, urow]) <;> (
      first
      | exact h.k1
      | (have a1 := h.k1
         clear h hi
         grind))
  · (try simp [zST, zu, zrow, u3, urow]) <;> (
      first
      | exact h.k2
      | (have a2 := h.k2
         clear h hi
         grind))
  · (try simp [zST, zu, zrow, u3, urow]) <;> (
      first
      | exact h.k3
      | (have a3 := h.k3
         clear h hi
         grind))
  · (try simp [zST, zu, zrow, u3, urow]) <;> (
      first
      | exact h.k4
      | (have a4 := h.k4
         clear h hi
         grind))
  · (try simp [zST, zu, zrow, u3, urow]) <;> (
      first
      | exact h.k5
      | (have a5 := h.k5
         have b5 := hi.k5
         clear h hi
         grind))
  · (try simp [zST, zu, zrow, u3, urow]) <;> (
      intro i q h1 h2
      have h6 := h.k6
      by_cases e : i = v
      · subst e
        have e1 := h6 i (q + 1) h1 (by simp at h2; omega)
        simp at h2 ⊢
        rw [pk_cpy_in (by omega) (by omega)]
        rw [show 1 + (q - 0) = q + 1 by omega, e1]
        congr 3
        omega
      · have e2 : A 1 i 3 ≠ A 1 v 3 := fun z => e (hi.k5 i v (by omega) (by omega) z)
        simp [e, e2] at h2 ⊢
        exact h6 i q h1 h2)
  · (try simp [zST, zu, zrow, u3, urow]) <;> (
      first
      | exact h.k7
      | (have a7 := h.k7
         clear h hi
         grind))
  · (try simp [zST, zu, zrow, u3, urow]) <;> (
      first
      | exact h.k8
      | (have a8 := h.k8
         clear h hi
         grind))
  · (try simp [zST, zu, zrow, u3, urow]) <;> (
      first
      | exact h.k9
      | (have a9 := h.k9
         clear h hi
         grind))
  · (try simp [zST, zu, zrow, u3, urow]) <;> (
      first
      | exact h.k10
      | (have a10 := h.k10
         clear h hi
         grind))
  · (try simp [zST, zu, zrow, u3, urow]) <;> (
      first
      | exact h.k11
      | (have a11 := h.k11
         clear h hi
         grind))
  · (try simp [zST, zu, zrow, u3, urow]) <;> (
      first
      | exact h.k12
      | (have a12 := h.k12
         clear h hi
         grind))
  · (try simp [zST, zu, zrow, u3, urow]) <;> (
      first
      | exact h.k13
      | (have a13 := h.k13
         clear h hi
         grind))
  · (try simp [zST, zu, zrow, u3, urow]) <;> (
      first
      | exact h.k14
      | (have a14 := h.k14
         clear h hi
         grind))
  · (try simp [zST, zu, zrow, u3, urow]) <;> (
      first
      | exact h.k15
      | (have a15 := h.k15
         clear h hi
         grind))
  · (try simp [zST, zu, zrow, u3, urow]) <;> (
      first
      | exact h.k16
      | (have a16 := h.k16
         clear h hi
         grind))
  · (try simp [zST, zu, zrow, u3, urow]) <;> (
      first
      | exact h.k17
      | (have a17 := h.k17
         clear h hi
         grind))
  · (try simp [zST, zu, zrow, u3, urow]) <;> (
      first
      | exact h.k18
      | (have a18 := h.k18
         clear h hi
         grind))
  · (try simp [zST, zu, zrow, u3, urow]) <;> (
      first
      | exact h.k19
      | (have a19 := h.k19
         clear h hi
         grind))
theorem zRF_ST {K : Nat} {A : zN} {M S : gY} {k v : Nat} (h : zRF A M S) (hi : zIV K A) (hk : k < A 0 0 0) (hv : v < A 0 0 0) (hvk : v ≠ k) (h0 : A 1 k 0 = 0) (hm : 0 < A 1 v 2) (hK : K + 1 ≤ 1000000) : zRF (zST A k v) M (u3 (u3 (u3 (u3 (u3 (u3 (u3 S 31 0 v (nI (A 1 v 2 - 1))) 25 0 k 1) 26 0 k (nI (A 2 v (A 1 v 2 - 1)))) 28 0 k (nI (A 1 k 6 + 1))) 29 0 v (S 29 0 v + 1)) 37 0 (A 4 (A 2 v (A 1 v 2 - 1)) 0 / 32) (S 37 0 (A 4 (A 2 v (A 1 v 2 - 1)) 0 / 32) + 1)) 20 0 1 (nI (zsm (fun i => A 1 i 6) (A 0 0 0) + 1))) := by
  have hi1 := hi.k1
  have z0 : nI 0 = 0 := rfl
  have z1 : nI 1 = 1 := rfl
  have z2 : nI 2 = 2 := rfl
  have z3 : nI 3 = 3 := rfl
  have hk6 : k < 6 := by omega
  have hv6 : v < 6 := by omega
  have hh := hi.k10 v (A 1 v 2 - 1) hv6 (by omega)
  have hl := hi.k23 v (A 1 v 2 - 1) hv6 (by omega)
  refine ⟨?_, ?_, ?_, ?_, ?_, ?_, ?_, ?_, ?_, ?_, ?_, ?_, ?_, ?_, ?_, ?_, ?_, ?_, ?_, ?_, ?_, ?_⟩
  · (try simp [zST, zu, zrow, u3, urow]) <;> (
      first
      | exact h.k1
      | (have a1 := h.k1
         clear h hi
         grind))
  · (try simp [zST, zu, zrow, u3, urow]) <;> (
      first
      | exact h.k2
      | (have a2 := h.k2
         clear h hi
         grind))
  · (try simp [zST, zu, zrow, u3, urow]) <;> (
      first
      | exact h.k3
      | (have a3 := h.k3
         clear h hi
         grind))
  · (try simp [zST, zu, zrow, u3, urow]) <;> (
      first
      | exact h.k4
      | (have a4 := h.k4
         clear h hi
         grind))
  · (try simp [zST, zu, zrow, u3, urow]) <;> (
      first
      | exact h.k5
      | (have a5 := h.k5
         clear h hi
         grind))
  · (try simp [zST, zu, zrow, u3, urow]) <;> (
      first
      | exact h.k6
      | (have a6 := h.k6
         clear h hi
         grind))
  · (try simp [zST, zu, zrow, u3, urow]) <;> (
      first
      | exact h.k7
      | (have a7 := h.k7
         clear h hi
         grind))
  · (try simp [zST, zu, zrow, u3, urow]) <;> (
      first
      | exact h.k8
      | (have a8 := h.k8
         clear h hi
         grind))
  · (try simp [zST, zu, zrow, u3, urow]) <;> (
      first
      | exact h.k9
      | (have a9 := h.k9
         clear h hi
         grind))
  · (try simp [zST, zu, zrow, u3, urow]) <;> (
      first
      | exact h.k10
      | (have a10 := h.k10
         clear h hi
         grind))
  · (try simp [zST, zu, zrow, u3, urow]) <;> (
      first
      | exact h.k11
      | (have a11 := h.k11
         clear h hi
         grind))
  · (try simp [zST, zu, zrow, u3, urow]) <;> (
      first
      | exact h.k12
      | (have a12 := h.k12
         clear h hi
         grind))
  · (try simp [zST, zu, zrow, u3, urow]) <;> (
      first
      | exact h.k13
      | (have a13 := h.k13
         clear h hi
         grind))
  · (try simp [zST, zu, zrow, u3, urow]) <;> (
      first
      | exact h.k14
      | (have a14 := h.k14
         clear h hi
         grind))
  · (try simp [zST, zu, zrow, u3, urow]) <;> (
      first
      | exact h.k15
      | (have a15 := h.k15
         clear h hi
         grind))
  · (try simp [zST, zu, zrow, u3, urow]) <;> (
      first
      | exact h.k16
      | (have a16 := h.k16
         clear h hi
         grind))
  · (try simp [zST, zu, zrow, u3, urow]) <;> (
      first
      | exact h.k17
      | (have a17 := h.k17
         clear h hi
         grind))
  · (try simp [zST, zu, zrow, u3, urow]) <;> (
      first
      | exact h.k18
      | (have a18 := h.k18
         clear h hi
         grind))
  · (try simp [zST, zu, zrow, u3, urow]) <;> (
      first
      | exact h.k19
      | (have a19 := h.k19
         clear h hi
         grind))
  · (try simp [zST, zu, zrow, u3, urow]) <;> (
      first
      | exact h.k20
      | (have a20 := h.k20
         clear h hi
         grind))
  · (try simp [zST, zu, zrow, u3, urow]) <;> (
      rw [zsm_add (fun i => A 1 i 6) _ _ _ hk])
  · (try simp [zST, zu, zrow, u3, urow]) <;> (
      first
      | exact h.k22
      | (have a22 := h.k22
         clear h hi
         grind))
theorem zEQ_ST {ko K : Nat} {A : zN} {Y M S : gY} {k v : Nat} (h : zEQ ko A Y M S) (hi : zIV K A) (hk : k < A 0 0 0) (hv : v < A 0 0 0) (hvk : v ≠ k) (h0 : A 1 k 0 = 0) (hm : 0 < A 1 v 2) (hK : K + 1 ≤ 1000000) : zEQ ko (zST A k v) (u3 (u3 (u3 (u3 (u3 (urow (u3 Y 2 (A 1 v 3) 1 (nI (A 1 v 2 - 1))) 3 (A 1 v 3) (va_cpy (Y 3 (A 1 v 3)) (Y 3 (A 1 v 3)) 1 0 (A 1 v 2 - 1))) 1 k 4 (nI (A 4 (A 2 v (A 1 v 2 - 1)) 0))) 1 k 5 (nI (A 4 (A 2 v (A 1 v 2 - 1)) 3))) 1 k 10 (nI (A 1 k 6 + 1))) 1 v 11 (Y 1 v 11 + 1)) 4 (A 4 (A 2 v (A 1 v 2 - 1)) 0 / 32) 5 (Y 4 (A 4 (A 2 v (A 1 v 2 - 1)) 0 / 32) 5 + 1)) M (u3 (u3 (u3 (u3 (u3 (u3 (u3 S 31 0 v (nI (A 1 v 2 - 1))) 25 0 k 1) 26 0 k (nI (A 2 v (A 1 v 2 - 1)))) 28 0 k (nI (A 1 k 6 + 1))) 29 0 v (S 29 0 v + 1)) 37 0 (A 4 (A 2 v (A 1 v 2 - 1)) 0 / 32) (S 37 0 (A 4 (A 2 v (A 1 v 2 - 1)) 0 / 32) + 1)) 20 0 1 (nI (zsm (fun i => A 1 i 6) (A 0 0 0) + 1))) := by
  have hi1 := hi.k1
  have z0 : nI 0 = 0 := rfl
  have z1 : nI 1 = 1 := rfl
  have z2 : nI 2 = 2 := rfl
  have z3 : nI 3 = 3 := rfl
  have hk6 : k < 6 := by omega
  have hv6 : v < 6 := by omega
  have hh := hi.k10 v (A 1 v 2 - 1) hv6 (by omega)
  have hl := hi.k23 v (A 1 v 2 - 1) hv6 (by omega)
  refine ⟨?_, ?_, ?_, ?_, ?_, ?_, ?_, ?_, ?_, ?_, ?_, ?_⟩
  · (try simp [zST, zu, zrow, u3, urow]) <;> (
      first
      | exact h.k1
      | (have a1 := h.k1
         clear h hi
         grind))
  · (try simp [zST, zu, zrow, u3, urow]) <;> (
      first
      | exact h.k2
      | (have a2 := h.k2
         clear h hi
         grind))
  · (try simp [zST, zu, zrow, u3, urow]) <;> (
      first
      | exact h.k3
      | (have a3 := h.k3
         clear h hi
         grind))
  · (try simp [zST, zu, zrow, u3, urow]) <;> (
      first
      | exact h.k4
      | (have a4 := h.k4
         clear h hi
         grind))
  · (try simp [zST, zu, zrow, u3, urow]) <;> (
      first
      | exact h.k5
      | (have a5 := h.k5
         clear h hi
         grind))
  · (try simp [zST, zu, zrow, u3, urow]) <;> (
      first
      | exact h.k6
      | (have a6 := h.k6
         clear h hi
         grind))
  · (try simp [zST, zu, zrow, u3, urow]) <;> (
      first
      | exact h.k7
      | (have a7 := h.k7
         clear h hi
         grind))
  · (try simp [zST, zu, zrow, u3, urow]) <;> (
      first
      | exact h.k8
      | (have a8 := h.k8
         clear h hi
         grind))
  · (try simp [zST, zu, zrow, u3, urow]) <;> (
      first
      | exact h.k9
      | (have a9 := h.k9
         clear h hi
         grind))
  · (try simp [zST, zu, zrow, u3, urow]) <;> (
      first
      | exact h.k10
      | (have a10 := h.k10
         clear h hi
         grind))
  · (try simp [zST, zu, zrow, u3, urow]) <;> (
      first
      | exact h.k11
      | (have a11 := h.k11
         clear h hi
         grind))
  · (try simp [zST, zu, zrow, u3, urow]) <;> (
      first
      | exact h.k12
      | (have a12 := h.k12
         clear h hi
         grind))
theorem zR_ST {ko K : Nat} {A : zN} {Y M S : gY} {k v : Nat} (h : zR ko K A Y M S) (hk : k < A 0 0 0) (hv : v < A 0 0 0) (hvk : v ≠ k) (h0 : A 1 k 0 = 0) (hm : 0 < A 1 v 2) (hK : K + 1 ≤ 1000000) : zR ko (K + 1) (zST A k v) (u3 (u3 (u3 (u3 (u3 (urow (u3 Y 2 (A 1 v 3) 1 (nI (A 1 v 2 - 1))) 3 (A 1 v 3) (va_cpy (Y 3 (A 1 v 3)) (Y 3 (A 1 v 3)) 1 0 (A 1 v 2 - 1))) 1 k 4 (nI (A 4 (A 2 v (A 1 v 2 - 1)) 0))) 1 k 5 (nI (A 4 (A 2 v (A 1 v 2 - 1)) 3))) 1 k 10 (nI (A 1 k 6 + 1))) 1 v 11 (Y 1 v 11 + 1)) 4 (A 4 (A 2 v (A 1 v 2 - 1)) 0 / 32) 5 (Y 4 (A 4 (A 2 v (A 1 v 2 - 1)) 0 / 32) 5 + 1)) M (u3 (u3 (u3 (u3 (u3 (u3 (u3 S 31 0 v (nI (A 1 v 2 - 1))) 25 0 k 1) 26 0 k (nI (A 2 v (A 1 v 2 - 1)))) 28 0 k (nI (A 1 k 6 + 1))) 29 0 v (S 29 0 v + 1)) 37 0 (A 4 (A 2 v (A 1 v 2 - 1)) 0 / 32) (S 37 0 (A 4 (A 2 v (A 1 v 2 - 1)) 0 / 32) + 1)) 20 0 1 (nI (zsm (fun i => A 1 i 6) (A 0 0 0) + 1))) :=
  ⟨zCL_ST h.1 h.2.2.2 hk hv hvk h0 hm hK, zRF_ST h.2.1 h.2.2.2 hk hv hvk h0 hm hK, zEQ_ST h.2.2.1 h.2.2.2 hk hv hvk h0 hm hK, zIV_ST h.2.2.2 hk hv hvk h0 hm hK⟩
theorem zIV_RS1 {K : Nat} {A : zN} {k : Nat} (hi : zIV K A) (hk : k < A 0 0 0) : zIV (K) A := by
  have hi1 := hi.k1
  have z0 : nI 0 = 0 := rfl
  have z1 : nI 1 = 1 := rfl
  have z2 : nI 2 = 2 := rfl
  have z3 : nI 3 = 3 := rfl
  have hk6 : k < 6 := by omega
  refine ⟨?_, ?_, ?_, ?_, ?_, ?_, ?_, ?_, ?_, ?_, ?_, ?_, ?_, ?_, ?_, ?_, ?_, ?_, ?_, ?_, ?_, ?_, ?_, ?_⟩
  · (try simp [zu, zrow]) <;> (
      first
      | exact hi.k1
      | (have b1 := hi.k1
         clear hi
         grind))
  · (try simp [zu, zrow]) <;> (
      first
      | exact hi.k2
      | (have b2 := hi.k2
         clear hi
         grind))
  · (try simp [zu, zrow]) <;> (
      first
      | exact hi.k3
      | (have b3 := hi.k3
         clear hi
         grind))
  · (try simp [zu, zrow]) <;> (
      first
      | exact hi.k4
      | (have b4 := hi.k4
         clear hi
         grind))
  · (try simp [zu, zrow]) <;> (
      first
      | exact hi.k5
      | (have b5 := hi.k5
         clear hi
         grind))
  · (try simp [zu, zrow]) <;> (
      first
      | exact hi.k6
      | (have b6 := hi.k6
         clear hi
         grind))
  · (try simp [zu, zrow]) <;> (
      first
      | exact hi.k7
      | (have b7 := hi.k7
         clear hi
         grind))
  · (try simp [zu, zrow]) <;> (
      first
      | exact hi.k8
      | (have b8 := hi.k8
         clear hi
         grind))
  · (try simp [zu, zrow]) <;> (
      first
      | exact hi.k9
      | (have b9 := hi.k9
         clear hi
         grind))
  · (try simp [zu, zrow]) <;> (
      first
      | exact hi.k10
      | (have b10 := hi.k10
         clear hi
         grind))
  · (try simp [zu, zrow]) <;> (
      first
      | exact hi.k11
      | (have b11 := hi.k11
         clear hi
         grind))
  · (try simp [zu, zrow]) <;> (
      first
      | exact hi.k12
      | (have b12 := hi.k12
         clear hi
         grind))
  · (try simp [zu, zrow]) <;> (
      first
      | exact hi.k13
      | (have b13 := hi.k13
         clear hi
         grind))
  · (try simp [zu, zrow]) <;> (
      first
      | exact hi.k14
      | (have b14 := hi.k14
         clear hi
         grind))
  · (try simp [zu, zrow]) <;> (
      first
      | exact hi.k15
      | (have b15 := hi.k15
         clear hi
         grind))
  · (try simp [zu, zrow]) <;> (
      first
      | exact hi.k16
      | (have b16 := hi.k16
         clear hi
         grind))
  · (try simp [zu, zrow]) <;> (
      first
      | exact hi.k17
      | (have b17 := hi.k17
         clear hi
         grind))
  · (try simp [zu, zrow]) <;> (
      first
      | exact hi.k18
      | (have b18 := hi.k18
         clear hi
         grind))
  · (try simp [zu, zrow]) <;> (
      first
      | exact hi.k19
      | (have b19 := hi.k19
         clear hi
         grind))
  · (try simp [zu, zrow]) <;> (
      first
      | exact hi.k20
      | (have b20 := hi.k20
         clear hi
         grind))
  · (try simp [zu, zrow]) <;> (
      first
      | exact hi.k21
      | (have b21 := hi.k21
         clear hi
         grind))
  · (try simp [zu, zrow]) <;> (
      first
      | exact hi.k22
      | (have b22 := hi.k22
         clear hi
         grind))
  · (try simp [zu, zrow]) <;> (
      first
      | exact hi.k23
      | (have b23 := hi.k23
         clear hi
         grind))
  · (try simp [zu, zrow]) <;> (
      first
      | exact hi.k24
      | (have b24 := hi.k24
         clear hi
         grind))
theorem zCL_RS1 {K : Nat} {A : zN} {Y : gY} {k : Nat} (h : zCL A Y) (hi : zIV K A) (hk : k < A 0 0 0) : zCL A (u3 (u3 Y 1 k 9 (Y 1 k 9 + 1)) 1 k 8 (Y 1 k 8 + 1)) := by
  have hi1 := hi.k1
  have z0 : nI 0 = 0 := rfl
  have z1 : nI 1 = 1 := rfl
  have z2 : nI 2 = 2 := rfl
  have z3 : nI 3 = 3 := rfl
  have hk6 : k < 6 := by omega
  refine ⟨?_, ?_, ?_, ?_, ?_, ?_, ?_, ?_, ?_, ?_, ?_, ?_, ?_, ?_, ?_, ?_, ?_, ?_, ?_⟩
  · (try simp [zu, zrow, u3, urow]) <;> (
      first
      | exact h.k1
      | (have a1 := h.k1
         clear h hi
         grind))
  · (try simp [zu, zrow, u3, urow]) <;> (
      first
      | exact h.k2
      | (have a2 := h.k2
         clear h hi
         grind))
  · (try simp [zu, zrow, u3, urow]) <;> (
      first
      | exact h.k3
      | (have a3 := h.k3
         clear h hi
         grind))
  · (try simp [zu, zrow, u3, urow]) <;> (
      first
      | exact h.k4
      | (have a4 := h.k4
         clear h hi
         grind))
  · (try simp [zu, zrow, u3, urow]) <;> (
      first
      | exact h.k5
      | (have a5 := h.k5
         clear h hi
         grind))
  · (try simp [zu, zrow, u3, urow]) <;> (
      first
      | exact h.k6
      | (have a6 := h.k6
         clear h hi
         grind))
  · (try simp [zu, zrow, u3, urow]) <;> (
      first
      | exact h.k7
      | (have a7 := h.k7
         clear h hi
         grind))
  · (try simp [zu, zrow, u3, urow]) <;> (
      first
      | exact h.k8
      | (have a8 := h.k8
         clear h hi
         grind))
  · (try simp [zu, zrow, u3, urow]) <;> (
      first
      | exact h.k9
      | (have a9 := h.k9
         clear h hi
         grind))
  · (try simp [zu, zrow, u3, urow]) <;> (
      first
      | exact h.k10
      | (have a10 := h.k10
         clear h hi
         grind))
  · (try simp [zu, zrow, u3, urow]) <;> (
      first
      | exact h.k11
      | (have a11 := h.k11
         clear h hi
         grind))
  · (try simp [zu, zrow, u3, urow]) <;> (
      first
      | exact h.k12
      | (have a12 := h.k12
         clear h hi
         grind))
  · (try simp [zu, zrow, u3, urow]) <;> (
      first
      | exact h.k13
      | (have a13 := h.k13
         clear h hi
         grind))
  · (try simp [zu, zrow, u3, urow]) <;> (
      first
      | exact h.k14
      | (have a14 := h.k14
         clear h hi
         grind))
  · (try simp [zu, zrow, u3, urow]) <;> (
      first
      | exact h.k15
      | (have a15 := h.k15
         clear h hi
         grind))
  · (try simp [zu, zrow, u3, urow]) <;> (
      first
      | exact h.k16
      | (have a16 := h.k16
         clear h hi
         grind))
  · (try simp [zu, zrow, u3, urow]) <;> (
      first
      | exact h.k17
      | (have a17 := h.k17
         clear h hi
         grind))
  · (try simp [zu, zrow, u3, urow]) <;> (
      first
      | exact h.k18
      | (have a18 := h.k18
         clear h hi
         grind))
  · (try simp [zu, zrow, u3, urow]) <;> (
      first
      | exact h.k19
      | (have a19 := h.k19
         clear h hi
         grind))
theorem zRF_RS1 {K : Nat} {A : zN} {M S : gY} {k : Nat} (h : zRF A M S) (hi : zIV K A) (hk : k < A 0 0 0) : zRF A M (u3 (u3 S 30 0 k (S 30 0 k + 1)) 27 0 k (S 27 0 k + 1)) := by
  have hi1 := hi.k1
  have z0 : nI 0 = 0 := rfl
  have z1 : nI 1 = 1 := rfl
  have z2 : nI 2 = 2 := rfl
  have z3 : nI 3 = 3 := rfl
  have hk6 : k < 6 := by omega
  refine ⟨?_, ?_, ?_, ?_, ?_, ?_, ?_, ?_, ?_, ?_, ?_, ?_, ?_, ?_, ?_, ?_, ?_, ?_, ?_, ?_, ?_, ?_⟩
  · (try simp [zu, zrow, u3, urow]) <;> (
      first
      | exact h.k1
      | (have a1 := h.k1
         clear h hi
         grind))
  · (try simp [zu, zrow, u3, urow]) <;> (
      first
      | exact h.k2
      | (have a2 := h.k2
         clear h hi
         grind))
  · (try simp [zu, zrow, u3, urow]) <;> (
      first
      | exact h.k3
      | (have a3 := h.k3
         clear h hi
         grind))
  · (try simp [zu, zrow, u3, urow]) <;> (
      first
      | exact h.k4
      | (have a4 := h.k4
         clear h hi
         grind))
  · (try simp [zu, zrow, u3, urow]) <;> (
      first
      | exact h.k5
      | (have a5 := h.k5
         clear h hi
         grind))
  · (try simp [zu, zrow, u3, urow]) <;> (
      first
      | exact h.k6
      | (have a6 := h.k6
         clear h hi
         grind))
  · (try simp [zu, zrow, u3, urow]) <;> (
      first
      | exact h.k7
      | (have a7 := h.k7
         clear h hi
         grind))
  · (try simp [zu, zrow, u3, urow]) <;> (
      first
      | exact h.k8
      | (have a8 := h.k8
         clear h hi
         grind))
  · (try simp [zu, zrow, u3, urow]) <;> (
      first
      | exact h.k9
      | (have a9 := h.k9
         clear h hi
         grind))
  · (try simp [zu, zrow, u3, urow]) <;> (
      first
      | exact h.k10
      | (have a10 := h.k10
         clear h hi
         grind))
  · (try simp [zu, zrow, u3, urow]) <;> (
      first
      | exact h.k11
      | (have a11 := h.k11
         clear h hi
         grind))
  · (try simp [zu, zrow, u3, urow]) <;> (
      first
      | exact h.k12
      | (have a12 := h.k12
         clear h hi
         grind))
  · (try simp [zu, zrow, u3, urow]) <;> (
      first
      | exact h.k13
      | (have a13 := h.k13
         clear h hi
         grind))
  · (try simp [zu, zrow, u3, urow]) <;> (
      first
      | exact h.k14
      | (have a14 := h.k14
         clear h hi
         grind))
  · (try simp [zu, zrow, u3, urow]) <;> (
      first
      | exact h.k15
      | (have a15 := h.k15
         clear h hi
         grind))
  · (try simp [zu, zrow, u3, urow]) <;> (
      first
      | exact h.k16
      | (have a16 := h.k16
         clear h hi
         grind))
  · (try simp [zu, zrow, u3, urow]) <;> (
      first
      | exact h.k17
      | (have a17 := h.k17
         clear h hi
         grind))
  · (try simp [zu, zrow, u3, urow]) <;> (
      first
      | exact h.k18
      | (have a18 := h.k18
         clear h hi
         grind))
  · (try simp [zu, zrow, u3, urow]) <;> (
      first
      | exact h.k19
      | (have a19 := h.k19
         clear h hi
         grind))
  · (try simp [zu, zrow, u3, urow]) <;> (
      first
      | exact h.k20
      | (have a20 := h.k20
         clear h hi
         grind))
  · (try simp [zu, zrow, u3, urow]) <;> (
      first
      | exact h.k21
      | (have a21 := h.k21
         clear h hi
         grind))
  · (try simp [zu, zrow, u3, urow]) <;> (
      first
      | exact h.k22
      | (have a22 := h.k22
         clear h hi
         grind))
theorem zEQ_RS1 {K : Nat} {A : zN} {Y M S : gY} {k : Nat} (h : zEQ 6 A Y M S) (hi : zIV K A) (hk : k < A 0 0 0) : zEQ 6 A (u3 (u3 Y 1 k 9 (Y 1 k 9 + 1)) 1 k 8 (Y 1 k 8 + 1)) M (u3 (u3 S 30 0 k (S 30 0 k + 1)) 27 0 k (S 27 0 k + 1)) := by
  have hi1 := hi.k1
  have z0 : nI 0 = 0 := rfl
  have z1 : nI 1 = 1 := rfl
  have z2 : nI 2 = 2 := rfl
  have z3 : nI 3 = 3 := rfl
  have hk6 : k < 6 := by omega
  refine ⟨?_, ?_, ?_, ?_, ?_, ?_, ?_, ?_, ?_, ?_, ?_, ?_⟩
  · (try simp [zu, zrow, u3, urow]) <;> (
      first
      | exact h.k1
      | (have a1 := h.k1
         clear h hi
         grind))
  · (try simp [zu, zrow, u3, urow]) <;> (
      first
      | exact h.k2
      | (have a2 := h.k2
         clear h hi
         grind))
  · (try simp [zu, zrow, u3, urow]) <;> (
      first
      | exact h.k3
      | (have a3 := h.k3
         clear h hi
         grind))
  · (try simp [zu, zrow, u3, urow]) <;> (
      first
      | exact h.k4
      | (have a4 := h.k4
         clear h hi
         grind))
  · (try simp [zu, zrow, u3, urow]) <;> (
      first
      | exact h.k5
      | (have a5 := h.k5
         clear h hi
         grind))
  · (try simp [zu, zrow, u3, urow]) <;> (
      first
      | exact h.k6
      | (have a6 := h.k6
         clear h hi
         grind))
  · (try simp [zu, zrow, u3, urow]) <;> (
      first
      | exact h.k7
      | (have a7 := h.k7
         clear h hi
         grind))
  · (try simp [zu, zrow, u3, urow]) <;> (
      first
      | exact h.k8
      | (have a8 := h.k8
         clear h hi
         grind))
  · (try simp [zu, zrow, u3, urow]) <;> (
      first
      | exact h.k9
      | (have a9 := h.k9
         clear h hi
         grind))
  · (try simp [zu, zrow, u3, urow]) <;> (
      first
      | exact h.k10
      | (have a10 := h.k10
         clear h hi
         grind))
  · (try simp [zu, zrow, u3, urow]) <;> (
      first
      | exact h.k11
      | (have a11 := h.k11
         clear h hi
         grind))
  · (try simp [zu, zrow, u3, urow]) <;> (
      first
      | exact h.k12
      | (have a12 := h.k12
         clear h hi
         grind))
theorem zR_RS1 {K : Nat} {A : zN} {Y M S : gY} {k : Nat} (h : zR 6 K A Y M S) (hk : k < A 0 0 0) : zR 6 (K) A (u3 (u3 Y 1 k 9 (Y 1 k 9 + 1)) 1 k 8 (Y 1 k 8 + 1)) M (u3 (u3 S 30 0 k (S 30 0 k + 1)) 27 0 k (S 27 0 k + 1)) :=
  ⟨zCL_RS1 h.1 h.2.2.2 hk, zRF_RS1 h.2.1 h.2.2.2 hk, zEQ_RS1 h.2.2.1 h.2.2.2 hk, zIV_RS1 h.2.2.2 hk⟩
theorem zIV_RS2 {K : Nat} {A : zN} {k : Nat} (hi : zIV K A) (hk : k < A 0 0 0) (h0 : A 1 k 0 = 0) : zIV (K) (zu A 1 k 0 3) := by
  have hi1 := hi.k1
  have z0 : nI 0 = 0 := rfl
  have z1 : nI 1 = 1 := rfl
  have z2 : nI 2 = 2 := rfl
  have z3 : nI 3 = 3 := rfl
  have hk6 : k < 6 := by omega
  refine ⟨?_, ?_, ?_, ?_, ?_, ?_, ?_, ?_, ?_, ?_, ?_, ?_, ?_, ?_, ?_, ?_, ?_, ?_, ?_, ?_, ?_, ?_, ?_, ?_⟩
  · (try simp [zu, zrow]) <;> (
      first
      | exact hi.k1
      | (have b1 := hi.k1
         clear hi
         grind))
  · (try simp [zu, zrow]) <;> (
      first
      | exact hi.k2
      | (have b2 := hi.k2
         clear hi
         grind))
  · (try simp [zu, zrow]) <;> (
      first
      | exact hi.k3
      | (have b3 := hi.k3
         clear hi
         grind))
  · (try simp [zu, zrow]) <;> (
      first
      | exact hi.k4
      | (have b4 := hi.k4
         clear hi
         grind))
  · (try simp [zu, zrow]) <;> (
      first
      | exact hi.k5
      | (have b5 := hi.k5
         clear hi
         grind))
  · (try simp [zu, zrow]) <;> (
      first
      | exact hi.k6
      | (have b6 := hi.k6
         clear hi
         grind))
  · (try simp [zu, zrow]) <;> (
      first
      | exact hi.k7
      | (have b7 := hi.k7
         clear hi
         grind))
  · (try simp [zu, zrow]) <;> (
      first
      | exact hi.k8
      | (have b8 := hi.k8
         clear hi
         grind))
  · (try simp [zu, zrow]) <;> (
      first
      | exact hi.k9
      | (have b9 := hi.k9
         clear hi
         grind))
  · (try simp [zu, zrow]) <;> (
      first
      | exact hi.k10
      | (have b10 := hi.k10
         clear hi
         grind))
  · (try simp [zu, zrow]) <;> (
      first
      | exact hi.k11
      | (have b11 := hi.k11
         clear hi
         grind))
  · (try simp [zu, zrow]) <;> (
      first
      | exact hi.k12
      | (have b12 := hi.k12
         clear hi
         grind))
  · (try simp [zu, zrow]) <;> (
      first
      | exact hi.k13
      | (have b13 := hi.k13
         clear hi
         grind))
  · (try simp [zu, zrow]) <;> (
      first
      | exact hi.k14
      | (have b14 := hi.k14
         clear hi
         grind))
  · (try simp [zu, zrow]) <;> (
      first
      | exact hi.k15
      | (have b15 := hi.k15
         clear hi
         grind))
  · (try simp [zu, zrow]) <;> (
      first
      | exact hi.k16
      | (have b16 := hi.k16
         clear hi
         grind))
  · (try simp [zu, zrow]) <;> (
      first
      | exact hi.k17
      | (have b17 := hi.k17
         clear hi
         grind))
  · (try simp [zu, zrow]) <;> (
      first
      | exact hi.k18
      | (have b18 := hi.k18
         clear hi
         grind))
  · (try simp [zu, zrow]) <;> (
      first
      | exact hi.k19
      | (have b19 := hi.k19
         clear hi
         grind))
  · (try simp [zu, zrow]) <;> (
      first
      | exact hi.k20
      | (have b20 := hi.k20
         clear hi
         grind))
  · (try simp [zu, zrow]) <;> (
      first
      | exact hi.k21
      | (have b21 := hi.k21
         clear hi
         grind))
  · (try simp [zu, zrow]) <;> (
      first
      | exact hi.k22
      | (have b22 := hi.k22
         clear hi
         grind))
  · (try simp [zu, zrow]) <;> (
      first
      | exact hi.k23
      | (have b23 := hi.k23
         clear hi
         grind))
  · (try simp [zu, zrow]) <;> (
      first
      | exact hi.k24
      | (have b24 := hi.k24
         clear hi
         grind))
theorem zCL_RS2 {K : Nat} {A : zN} {Y : gY} {k : Nat} (h : zCL A Y) (hi : zIV K A) (hk : k < A 0 0 0) (h0 : A 1 k 0 = 0) : zCL (zu A 1 k 0 3) (u3 (u3 (u3 (u3 Y 1 k 9 (Y 1 k 9 + 1)) 1 k 8 (Y 1 k 8 + 1)) 1 k 7 1) 1 k 8 0) := by
  have hi1 := hi.k1
  have z0 : nI 0 = 0 := rfl
  have z1 : nI 1 = 1 := rfl
  have z2 : nI 2 = 2 := rfl
  have z3 : nI 3 = 3 := rfl
  have hk6 : k < 6 := by omega
  refine ⟨?_, ?_, ?_, ?_, ?_, ?_, ?_, ?_, ?_, ?_, ?_, ?_, ?_, ?_, ?_, ?_, ?_, ?_, ?_⟩
  · (try simp [zu, zrow, u3, urow]) <;> (
      first
      | exact h.k1
      | (have a1 := h.k1
         clear h hi
         grind))
  · (try simp [zu, zrow, u3, urow]) <;> (
      first
      | exact h.k2
      | (have a2 := h.k2
         clear h hi
         grind))
  · (try simp [zu, zrow, u3, urow]) <;> (
      first
      | exact h.k3
      | (have a3 := h.k3
         clear h hi
         grind))
  · (try simp [zu, zrow, u3, urow]) <;> (
      first
      | exact h.k4
      | (have a4 := h.k4
         clear h hi
         grind))
  · (try simp [zu, zrow, u3, urow]) <;> (
      first
      | exact h.k5
      | (have a5 := h.k5
         clear h hi
         grind))
  · (try simp [zu, zrow, u3, urow]) <;> (
      first
      | exact h.k6
      | (have a6 := h.k6
         clear h hi
         grind))
  · (try simp [zu, zrow, u3, urow]) <;> (
      first
      | exact h.k7
      | (have a7 := h.k7
         clear h hi
         grind))
  · (try simp [zu, zrow, u3, urow]) <;> (
      first
      | exact h.k8
      | (have a8 := h.k8
         clear h hi
         grind))
  · (try simp [zu, zrow, u3, urow]) <;> (
      first
      | exact h.k9
      | (have a9 := h.k9
         clear h hi
         grind))
  · (try simp [zu, zrow, u3, urow]) <;> (
      first
      | exact h.k10
      | (have a10 := h.k10
         clear h hi
         grind))
  · (try simp [zu, zrow, u3, urow]) <;> (
      first
      | exact h.k11
      | (have a11 := h.k11
         clear h hi
         grind))
  · (try simp [zu, zrow, u3, urow]) <;> (
      first
      | exact h.k12
      | (have a12 := h.k12
         clear h hi
         grind))
  · (try simp [zu, zrow, u3, urow]) <;> (
      first
      | exact h.k13
      | (have a13 := h.k13
         clear h hi
         grind))
  · (try simp [zu, zrow, u3, urow]) <;> (
      first
      | exact h.k14
      | (have a14 := h.k14
         clear h hi
         grind))
  · (try simp [zu, zrow, u3, urow]) <;> (
      first
      | exact h.k15
      | (have a15 := h.k15
         clear h hi
         grind))
  · (try simp [zu, zrow, u3, urow]) <;> (
      first
      | exact h.k16
      | (have a16 := h.k16
         clear h hi
         grind))
  · (try simp [zu, zrow, u3, urow]) <;> (
      first
      | exact h.k17
      | (have a17 := h.k17
         clear h hi
         grind))
  · (try simp [zu, zrow, u3, urow]) <;> (
      first
      | exact h.k18
      | (have a18 := h.k18
         clear h hi
         grind))
  · (try simp [zu, zrow, u3, urow]) <;> (
      first
      | exact h.k19
      | (have a19 := h.k19
         clear h hi
         grind))
theorem zRF_RS2 {K : Nat} {A : zN} {M S : gY} {k : Nat} (h : zRF A M S) (hi : zIV K A) (hk : k < A 0 0 0) (h0 : A 1 k 0 = 0) : zRF (zu A 1 k 0 3) M (u3 (u3 (u3 (u3 S 30 0 k (S 30 0 k + 1)) 27 0 k (S 27 0 k + 1)) 27 0 k 0) 25 0 k 3) := by
  have hi1 := hi.k1
  have z0 : nI 0 = 0 := rfl
  have z1 : nI 1 = 1 := rfl
  have z2 : nI 2 = 2 := rfl
  have z3 : nI 3 = 3 := rfl
  have hk6 : k < 6 := by omega
  refine ⟨?_, ?_, ?_, ?_, ?_, ?_, ?_, ?_, ?_, ?_, ?_, ?_, ?_, ?_, ?_, ?_, ?_, ?_, ?_, ?_, ?_, ?_⟩
  · (try simp [zu, zrow, u3, urow]) <;> (
      first
      | exact h.k1
      | (have a1 := h.k1
         clear h hi
         grind))
  · (try simp [zu, zrow, u3, urow]) <;> (
      first
      | exact h.k2
      | (have a2 := h.k2
         clear h hi
         grind))
  · (try simp [zu, zrow, u3, urow]) <;> (
      first
      | exact h.k3
      | (have a3 := h.k3
         clear h hi
         grind))
  · (try simp [zu, zrow, u3, urow]) <;> (
      first
      | exact h.k4
      | (have a4 := h.k4
         clear h hi
         grind))
  · (try simp [zu, zrow, u3, urow]) <;> (
      first
      | exact h.k5
      | (have a5 := h.k5
         clear h hi
         grind))
  · (try simp [zu, zrow, u3, urow]) <;> (
      first
      | exact h.k6
      | (have a6 := h.k6
         clear h hi
         grind))
  · (try simp [zu, zrow, u3, urow]) <;> (
      first
      | exact h.k7
      | (have a7 := h.k7
         clear h hi
         grind))
  · (try simp [zu, zrow, u3, urow]) <;> (
      first
      | exact h.k8
      | (have a8 := h.k8
         clear h hi
         grind))
  · (try simp [zu, zrow, u3, urow]) <;> (
      first
      | exact h.k9
      | (have a9 := h.k9
         clear h hi
         grind))
  · (try simp [zu, zrow, u3, urow]) <;> (
      first
      | exact h.k10
      | (have a10 := h.k10
         clear h hi
         grind))
  · (try simp [zu, zrow, u3, urow]) <;> (
      first
      | exact h.k11
      | (have a11 := h.k11
         clear h hi
         grind))
  · (try simp [zu, zrow, u3, urow]) <;> (
      first
      | exact h.k12
      | (have a12 := h.k12
         clear h hi
         grind))
  · (try simp [zu, zrow, u3, urow]) <;> (
      first
      | exact h.k13
      | (have a13 := h.k13
         clear h hi
         grind))
  · (try simp [zu, zrow, u3, urow]) <;> (
      first
      | exact h.k14
      | (have a14 := h.k14
         clear h hi
         grind))
  · (try simp [zu, zrow, u3, urow]) <;> (
      first
      | exact h.k15
      | (have a15 := h.k15
         clear h hi
         grind))
  · (try simp [zu, zrow, u3, urow]) <;> (
      first
      | exact h.k16
      | (have a16 := h.k16
         clear h hi
         grind))
  · (try simp [zu, zrow, u3, urow]) <;> (
      first
      | exact h.k17
      | (have a17 := h.k17
         clear h hi
         grind))
  · (try simp [zu, zrow, u3, urow]) <;> (
      first
      | exact h.k18
      | (have a18 := h.k18
         clear h hi
         grind))
  · (try simp [zu, zrow, u3, urow]) <;> (
      first
      | exact h.k19
      | (have a19 := h.k19
         clear h hi
         grind))
  · (try simp [zu, zrow, u3, urow]) <;> (
      first
      | exact h.k20
      | (have a20 := h.k20
         clear h hi
         grind))
  · (try simp [zu, zrow, u3, urow]) <;> (
      first
      | exact h.k21
      | (have a21 := h.k21
         clear h hi
         grind))
  · (try simp [zu, zrow, u3, urow]) <;> (
      first
      | exact h.k22
      | (have a22 := h.k22
         clear h hi
         grind))
theorem zEQ_RS2 {K : Nat} {A : zN} {Y M S : gY} {k : Nat} (h : zEQ 6 A Y M S) (hi : zIV K A) (hk : k < A 0 0 0) (h0 : A 1 k 0 = 0) : zEQ 6 (zu A 1 k 0 3) (u3 (u3 (u3 (u3 Y 1 k 9 (Y 1 k 9 + 1)) 1 k 8 (Y 1 k 8 + 1)) 1 k 7 1) 1 k 8 0) M (u3 (u3 (u3 (u3 S 30 0 k (S 30 0 k + 1)) 27 0 k (S 27 0 k + 1)) 27 0 k 0) 25 0 k 3) := by
  have hi1 := hi.k1
  have z0 : nI 0 = 0 := rfl
  have z1 : nI 1 = 1 := rfl
  have z2 : nI 2 = 2 := rfl
  have z3 : nI 3 = 3 := rfl
  have hk6 : k < 6 := by omega
  refine ⟨?_, ?_, ?_, ?_, ?_, ?_, ?_, ?_, ?_, ?_, ?_, ?_⟩
  · (try simp [zu, zrow, u3, urow]) <;> (
      first
      | exact h.k1
      | (have a1 := h.k1
         clear h hi
         grind))
  · (try simp [zu, zrow, u3, urow]) <;> (
      first
      | exact h.k2
      | (have a2 := h.k2
         clear h hi
         grind))
  · (try simp [zu, zrow, u3, urow]) <;> (
      first
      | exact h.k3
      | (have a3 := h.k3
         clear h hi
         grind))
  · (try simp [zu, zrow, u3, urow]) <;> (
      first
      | exact h.k4
      | (have a4 := h.k4
         clear h hi
         grind))
  · (try simp [zu, zrow, u3, urow]) <;> (
      first
      | exact h.k5
      | (have a5 := h.k5
         clear h hi
         grind))
  · (try simp [zu, zrow, u3, urow]) <;> (
      first
      | exact h.k6
      | (have a6 := h.k6
         clear h hi
         grind))
  · (try simp [zu, zrow, u3, urow]) <;> (
      first
      | exact h.k7
      | (have a7 := h.k7
         clear h hi
         grind))
  · (try simp [zu, zrow, u3, urow]) <;> (
      first
      | exact h.k8
      | (have a8 := h.k8
         clear h hi
         grind))
  · (try simp [zu, zrow, u3, urow]) <;> (
      first
      | exact h.k9
      | (have a9 := h.k9
         clear h hi
         grind))
  · (try simp [zu, zrow, u3, urow]) <;> (
      first
      | exact h.k10
      | (have a10 := h.k10
         clear h hi
         grind))
  · (try simp [zu, zrow, u3, urow]) <;> (
      first
      | exact h.k11
      | (have a11 := h.k11
         clear h hi
         grind))
  · (try simp [zu, zrow, u3, urow]) <;> (
      first
      | exact h.k12
      | (have a12 := h.k12
         clear h hi
         grind))
theorem zR_RS2 {K : Nat} {A : zN} {Y M S : gY} {k : Nat} (h : zR 6 K A Y M S) (hk : k < A 0 0 0) (h0 : A 1 k 0 = 0) : zR 6 (K) (zu A 1 k 0 3) (u3 (u3 (u3 (u3 Y 1 k 9 (Y 1 k 9 + 1)) 1 k 8 (Y 1 k 8 + 1)) 1 k 7 1) 1 k 8 0) M (u3 (u3 (u3 (u3 S 30 0 k (S 30 0 k + 1)) 27 0 k (S 27 0 k + 1)) 27 0 k 0) 25 0 k 3) :=
  ⟨zCL_RS2 h.1 h.2.2.2 hk h0, zRF_RS2 h.2.1 h.2.2.2 hk h0, zEQ_RS2 h.2.2.1 h.2.2.2 hk h0, zIV_RS2 h.2.2.2 hk h0⟩
theorem zIV_MI {K : Nat} {A : zN}  (hi : zIV K A)  : zIV (K) A := by
  have hi1 := hi.k1
  have z0 : nI 0 = 0 := rfl
  have z1 : nI 1 = 1 := rfl
  have z2 : nI 2 = 2 := rfl
  have z3 : nI 3 = 3 := rfl
  refine ⟨?_, ?_, ?_, ?_, ?_, ?_, ?_, ?_, ?_, ?_, ?_, ?_, ?_, ?_, ?_, ?_, ?_, ?_, ?_, ?_, ?_, ?_, ?_, ?_⟩
  · (try simp [zu, zrow]) <;> (
      first
      | exact hi.k1
      | (have b1 := hi.k1
         clear hi
         grind))
  · (try simp [zu, zrow]) <;> (
      first
      | exact hi.k2
      | (have b2 := hi.k2
         clear hi
         grind))
  · (try simp [zu, zrow]) <;> (
      first
      | exact hi.k3
      | (have b3 := hi.k3
         clear hi
         grind))
  · (try simp [zu, zrow]) <;> (
      first
      | exact hi.k4
      | (have b4 := hi.k4
         clear hi
         grind))
  · (try simp [zu, zrow]) <;> (
      first
      | exact hi.k5
      | (have b5 := hi.k5
         clear hi
         grind))
  · (try simp [zu, zrow]) <;> (
      first
      | exact hi.k6
      | (have b6 := hi.k6
         clear hi
         grind))
  · (try simp [zu, zrow]) <;> (
      first
      | exact hi.k7
      | (have b7 := hi.k7
         clear hi
         grind))
  · (try simp [zu, zrow]) <;> (
      first
      | exact hi.k8
      | (have b8 := hi.k8
         clear hi
         grind))
  · (try simp [zu, zrow]) <;> (
      first
      | exact hi.k9
      | (have b9 := hi.k9
         clear hi
         grind))
  · (try simp [zu, zrow]) <;> (
      first
      | exact hi.k10
      | (have b10 := hi.k10
         clear hi
         grind))
  · (try simp [zu, zrow]) <;> (
      first
      | exact hi.k11
      | (have b11 := hi.k11
         clear hi
         grind))
  · (try simp [zu, zrow]) <;> (
      first
      | exact hi.k12
      | (have b12 := hi.k12
         clear hi
         grind))
  · (try simp [zu, zrow]) <;> (
      first
      | exact hi.k13
      | (have b13 := hi.k13
         clear hi
         grind))
  · (try simp [zu, zrow]) <;> (
      first
      | exact hi.k14
      | (have b14 := hi.k14
         clear hi
         grind))
  · (try simp [zu, zrow]) <;> (
      first
      | exact hi.k15
      | (have b15 := hi.k15
         clear hi
         grind))
  · (try simp [zu, zrow]) <;> (
      first
      | exact hi.k16
      | (have b16 := hi.k16
         clear hi
         grind))
  · (try simp [zu, zrow]) <;> (
      first
      | exact hi.k17
      | (have b17 := hi.k17
         clear hi
         grind))
  · (try simp [zu, zrow]) <;> (
      first
      | exact hi.k18
      | (have b18 := hi.k18
         clear hi
         grind))
  · (try simp [zu, zrow]) <;> (
      first
      | exact hi.k19
      | (have b19 := hi.k19
         clear hi
         grind))
  · (try simp [zu, zrow]) <;> (
      first
      | exact hi.k20
      | (have b20 := hi.k20
         clear hi
         grind))
  · (try simp [zu, zrow]) <;> (
      first
      | exact hi.k21
      | (have b21 := hi.k21
         clear hi
         grind))
  · (try simp [zu, zrow]) <;> (
      first
      | exact hi.k22
      | (have b22 := hi.k22
         clear hi
         grind))
  · (try simp [zu, zrow]) <;> (
      first
      | exact hi.k23
      | (have b23 := hi.k23
         clear hi
         grind))
  · (try simp [zu, zrow]) <;> (
      first
      | exact hi.k24
      | (have b24 := hi.k24
         clear hi
         grind))
theorem zCL_MI {K : Nat} {A : zN} {Y : gY}  (h : zCL A Y) (hi : zIV K A)  : zCL A (u3 Y 0 0 6 (Y 0 0 6 + 1)) := by
  have hi1 := hi.k1
  have z0 : nI 0 = 0 := rfl
  have z1 : nI 1 = 1 := rfl
  have z2 : nI 2 = 2 := rfl
  have z3 : nI 3 = 3 := rfl
  refine ⟨?_, ?_, ?_, ?_, ?_, ?_, ?_, ?_, ?_, ?_, ?_, ?_, ?_, ?_, ?_, ?_, ?_, ?_, ?_⟩
  · (try simp [zu, zrow, u3, urow]) <;> (
      first
      | exact h.k1
      | (have a1 := h.k1
         clear h hi
         grind))
  · (try simp [zu, zrow, u3, urow]) <;> (
      first
      | exact h.k2
      | (have a2 := h.k2
         clear h hi
         grind))
  · (try simp [zu, zrow, u3, urow]) <;> (
      first
      | exact h.k3
      | (have a3 := h.k3
         clear h hi
         grind))
  · (try simp [zu, zrow, u3, urow]) <;> (
      first
      | exact h.k4
      | (have a4 := h.k4
         clear h hi
         grind))
  · (try simp [zu, zrow, u3, urow]) <;> (
      first
      | exact h.k5
      | (have a5 := h.k5
         clear h hi
         grind))
  · (try simp [zu, zrow, u3, urow]) <;> (
      first
      | exact h.k6
      | (have a6 := h.k6
         clear h hi
         grind))
  · (try simp [zu, zrow, u3, urow]) <;> (
      first
      | exact h.k7
      | (have a7 := h.k7
         clear h hi
         grind))
  · (try simp [zu, zrow, u3, urow]) <;> (
      first
      | exact h.k8
      | (have a8 := h.k8
         clear h hi
         grind))
  · (try simp [zu, zrow, u3, urow]) <;> (
      first
      | exact h.k9
      | (have a9 := h.k9
         clear h hi
         grind))
  · (try simp [zu, zrow, u3, urow]) <;> (
      first
      | exact h.k10
      | (have a10 := h.k10
         clear h hi
         grind))
  · (try simp [zu, zrow, u3, urow]) <;> (
      first
      | exact h.k11
      | (have a11 := h.k11
         clear h hi
         grind))
  · (try simp [zu, zrow, u3, urow]) <;> (
      first
      | exact h.k12
      | (have a12 := h.k12
         clear h hi
         grind))
  · (try simp [zu, zrow, u3, urow]) <;> (
      first
      | exact h.k13
      | (have a13 := h.k13
         clear h hi
         grind))
  · (try simp [zu, zrow, u3, urow]) <;> (
      first
      | exact h.k14
      | (have a14 := h.k14
         clear h hi
         grind))
  · (try simp [zu, zrow, u3, urow]) <;> (
      first
      | exact h.k15
      | (have a15 := h.k15
         clear h hi
         grind))
  · (try simp [zu, zrow, u3, urow]) <;> (
      first
      | exact h.k16
      | (have a16 := h.k16
         clear h hi
         grind))
  · (try simp [zu, zrow, u3, urow]) <;> (
      first
      | exact h.k17
      | (have a17 := h.k17
         clear h hi
         grind))
  · (try simp [zu, zrow, u3, urow]) <;> (
      first
      | exact h.k18
      | (have a18 := h.k18
         clear h hi
         grind))
  · (try simp [zu, zrow, u3, urow]) <;> (
      first
      | exact h.k19
      | (have a19 := h.k19
         clear h hi
         grind))
theorem zRF_MI {K : Nat} {A : zN} {M S : gY}  (h : zRF A M S) (hi : zIV K A)  : zRF A M (u3 S 20 0 0 (S 20 0 0 + 1)) := by
  have hi1 := hi.k1
  have z0 : nI 0 = 0 := rfl
  have z1 : nI 1 = 1 := rfl
  have z2 : nI 2 = 2 := rfl
  have z3 : nI 3 = 3 := rfl
  refine ⟨?_, ?_, ?_, ?_, ?_, ?_, ?_, ?_, ?_, ?_, ?_, ?_, ?_, ?_, ?_, ?_, ?_, ?_, ?_, ?_, ?_, ?_⟩
  · (try simp [zu, zrow, u3, urow]) <;> (
      first
      | exact h.k1
      | (have a1 := h.k1
         clear h hi
         grind))
  · (try simp [zu, zrow, u3, urow]) <;> (
      first
      | exact h.k2
      | (have a2 := h.k2
         clear h hi
         grind))
  · (try simp [zu, zrow, u3, urow]) <;> (
      first
      | exact h.k3
      | (have a3 := h.k3
         clear h hi
         grind))
  · (try simp [zu, zrow, u3, urow]) <;> (
      first
      | exact h.k4
      | (have a4 := h.k4
         clear h hi
         grind))
  · (try simp [zu, zrow, u3, urow]) <;> (
      first
      | exact h.k5
      | (have a5 := h.k5
         clear h hi
         grind))
  · (try simp [zu, zrow, u3, urow]) <;> (
      first
      | exact h.k6
      | (have a6 := h.k6
         clear h hi
         grind))
  · (try simp [zu, zrow, u3, urow]) <;> (
      first
      | exact h.k7
      | (have a7 := h.k7
         clear h hi
         grind))
  · (try simp [zu, zrow, u3, urow]) <;> (
      first
      | exact h.k8
      | (have a8 := h.k8
         clear h hi
         grind))
  · (try simp [zu, zrow, u3, urow]) <;> (
      first
      | exact h.k9
      | (have a9 := h.k9
         clear h hi
         grind))
  · (try simp [zu, zrow, u3, urow]) <;> (
      first
      | exact h.k10
      | (have a10 := h.k10
         clear h hi
         grind))
  · (try simp [zu, zrow, u3, urow]) <;> (
      first
      | exact h.k11
      | (have a11 := h.k11
         clear h hi
         grind))
  · (try simp [zu, zrow, u3, urow]) <;> (
      first
      | exact h.k12
      | (have a12 := h.k12
         clear h hi
         grind))
  · (try simp [zu, zrow, u3, urow]) <;> (
      first
      | exact h.k13
      | (have a13 := h.k13
         clear h hi
         grind))
  · (try simp [zu, zrow, u3, urow]) <;> (
      first
      | exact h.k14
      | (have a14 := h.k14
         clear h hi
         grind))
  · (try simp [zu, zrow, u3, urow]) <;> (
      first
      | exact h.k15
      | (have a15 := h.k15
         clear h hi
         grind))
  · (try simp [zu, zrow, u3, urow]) <;> (
      first
      | exact h.k16
      | (have a16 := h.k16
         clear h hi
         grind))
  · (try simp [zu, zrow, u3, urow]) <;> (
      first
      | exact h.k17
      | (have a17 := h.k17
         clear h hi
         grind))
  · (try simp [zu, zrow, u3, urow]) <;> (
      first
      | exact h.k18
      | (have a18 := h.k18
         clear h hi
         grind))
  · (try simp [zu, zrow, u3, urow]) <;> (
      first
      | exact h.k19
      | (have a19 := h.k19
         clear h hi
         grind))
  · (try simp [zu, zrow, u3, urow]) <;> (
      first
      | exact h.k20
      | (have a20 := h.k20
         clear h hi
         grind))
  · (try simp [zu, zrow, u3, urow]) <;> (
      first
      | exact h.k21
      | (have a21 := h.k21
         clear h hi
         grind))
  · (try simp [zu, zrow, u3, urow]) <;> (
      first
      | exact h.k22
      | (have a22 := h.k22
         clear h hi
         grind))
theorem zEQ_MI {ko K : Nat} {A : zN} {Y M S : gY}  (h : zEQ ko A Y M S) (hi : zIV K A)  : zEQ ko A (u3 Y 0 0 6 (Y 0 0 6 + 1)) M (u3 S 20 0 0 (S 20 0 0 + 1)) := by
  have hi1 := hi.k1
  have z0 : nI 0 = 0 := rfl
  have z1 : nI 1 = 1 := rfl
  have z2 : nI 2 = 2 := rfl
  have z3 : nI 3 = 3 := rfl
  refine ⟨?_, ?_, ?_, ?_, ?_, ?_, ?_, ?_, ?_, ?_, ?_, ?_⟩
  · (try simp [zu, zrow, u3, urow]) <;> (
      first
      | exact h.k1
      | (have a1 := h.k1
         clear h hi
         grind))
  · (try simp [zu, zrow, u3, urow]) <;> (
      first
      | exact h.k2
      | (have a2 := h.k2
         clear h hi
         grind))
  · (try simp [zu, zrow, u3, urow]) <;> (
      first
      | exact h.k3
      | (have a3 := h.k3
         clear h hi
         grind))
  · (try simp [zu, zrow, u3, urow]) <;> (
      first
      | exact h.k4
      | (have a4 := h.k4
         clear h hi
         grind))
  · (try simp [zu, zrow, u3, urow]) <;> (
      first
      | exact h.k5
      | (have a5 := h.k5
         clear h hi
         grind))
  · (try simp [zu, zrow, u3, urow]) <;> (
      first
      | exact h.k6
      | (have a6 := h.k6
         clear h hi
         grind))
  · (try simp [zu, zrow, u3, urow]) <;> (
      first
      | exact h.k7
      | (have a7 := h.k7
         clear h hi
         grind))
  · (try simp [zu, zrow, u3, urow]) <;> (
      first
      | exact h.k8
      | (have a8 := h.k8
         clear h hi
         grind))
  · (try simp [zu, zrow, u3, urow]) <;> (
      first
      | exact h.k9
      | (have a9 := h.k9
         clear h hi
         grind))
  · (try simp [zu, zrow, u3, urow]) <;> (
      first
      | exact h.k10
      | (have a10 := h.k10
         clear h hi
         grind))
  · (try simp [zu, zrow, u3, urow]) <;> (
      first
      | exact h.k11
      | (have a11 := h.k11
         clear h hi
         grind))
  · (try simp [zu, zrow, u3, urow]) <;> (
      first
      | exact h.k12
      | (have a12 := h.k12
         clear h hi
         grind))
theorem zR_MI {ko K : Nat} {A : zN} {Y M S : gY}  (h : zR ko K A Y M S)  : zR ko (K) A (u3 Y 0 0 6 (Y 0 0 6 + 1)) M (u3 S 20 0 0 (S 20 0 0 + 1)) :=
  ⟨zCL_MI h.1 h.2.2.2, zRF_MI h.2.1 h.2.2.2, zEQ_MI h.2.2.1 h.2.2.2, zIV_MI h.2.2.2⟩
theorem zIV_JC {K : Nat} {A : zN}  (hi : zIV K A)  : zIV (K) A := by
  have hi1 := hi.k1
  have z0 : nI 0 = 0 := rfl
  have z1 : nI 1 = 1 := rfl
  have z2 : nI 2 = 2 := rfl
  have z3 : nI 3 = 3 := rfl
  refine ⟨?_, ?_, ?_, ?_, ?_, ?_, ?_, ?_, ?_, ?_, ?_, ?_, ?_, ?_, ?_, ?_, ?_, ?_, ?_, ?_, ?_, ?_, ?_, ?_⟩
  · (try simp [zu, zrow]) <;> (
      first
      | exact hi.k1
      | (have b1 := hi.k1
         clear hi
         grind))
  · (try simp [zu, zrow]) <;> (
      first
      | exact hi.k2
      | (have b2 := hi.k2
         clear hi
         grind))
  · (try simp [zu, zrow]) <;> (
      first
      | exact hi.k3
      | (have b3 := hi.k3
         clear hi
         grind))
  · (try simp [zu, zrow]) <;> (
      first
      | exact hi.k4
      | (have b4 := hi.k4
         clear hi
         grind))
  · (try simp [zu, zrow]) <;> (
      first
      | exact hi.k5
      | (have b5 := hi.k5
         clear hi
         grind))
  · (try simp [zu, zrow]) <;> (
      first
      | exact hi.k6
      | (have b6 := hi.k6
         clear hi
         grind))
  · (try simp [zu, zrow]) <;> (
      first
      | exact hi.k7
      | (have b7 := hi.k7
         clear hi
         grind))
  · (try simp [zu, zrow]) <;> (
      first
      | exact hi.k8
      | (have b8 := hi.k8
         clear hi
         grind))
  · (try simp [zu, zrow]) <;> (
      first
      | exact hi.k9
      | (have b9 := hi.k9
         clear hi
         grind))
  · (try simp [zu, zrow]) <;> (
      first
      | exact hi.k10
      | (have b10 := hi.k10
         clear hi
         grind))
  · (try simp [zu, zrow]) <;> (
      first
      | exact hi.k11
      | (have b11 := hi.k11
         clear hi
         grind))
  · (try simp [zu, zrow]) <;> (
      first
      | exact hi.k12
      | (have b12 := hi.k12
         clear hi
         grind))
  · (try simp [zu, zrow]) <;> (
      first
      | exact hi.k13
      | (have b13 := hi.k13
         clear hi
         grind))
  · (try simp [zu, zrow]) <;> (
      first
      | exact hi.k14
      | (have b14 := hi.k14
         clear hi
         grind))
  · (try simp [zu, zrow]) <;> (
      first
      | exact hi.k15
      | (have b15 := hi.k15
         clear hi
         grind))
  · (try simp [zu, zrow]) <;> (
      first
      | exact hi.k16
      | (have b16 := hi.k16
         clear hi
         grind))
  · (try simp [zu, zrow]) <;> (
      first
      | exact hi.k17
      | (have b17 := hi.k17
         clear hi
         grind))
  · (try simp [zu, zrow]) <;> (
      first
      | exact hi.k18
      | (have b18 := hi.k18
         clear hi
         grind))
  · (try simp [zu, zrow]) <;> (
      first
      | exact hi.k19
      | (have b19 := hi.k19
         clear hi
         grind))
  · (try simp [zu, zrow]) <;> (
      first
      | exact hi.k20
      | (have b20 := hi.k20
         clear hi
         grind))
  · (try simp [zu, zrow]) <;> (
      first
      | exact hi.k21
      | (have b21 := hi.k21
         clear hi
         grind))
  · (try simp [zu, zrow]) <;> (
      first
      | exact hi.k22
      | (have b22 := hi.k22
         clear hi
         grind))
  · (try simp [zu, zrow]) <;> (
      first
      | exact hi.k23
      | (have b23 := hi.k23
         clear hi
         grind))
  · (try simp [zu, zrow]) <;> (
      first
      | exact hi.k24
      | (have b24 := hi.k24
         clear hi
         grind))
theorem zCL_JC {K : Nat} {A : zN} {Y : gY}  (h : zCL A Y) (hi : zIV K A)  : zCL A (u3 Y 0 0 9 (Y 0 0 9 + 1)) := by
  have hi1 := hi.k1
  have z0 : nI 0 = 0 := rfl
  have z1 : nI 1 = 1 := rfl
  have z2 : nI 2 = 2 := rfl
  have z3 : nI 3 = 3 := rfl
  refine ⟨?_, ?_, ?_, ?_, ?_, ?_, ?_, ?_, ?_, ?_, ?_, ?_, ?_, ?_, ?_, ?_, ?_, ?_, ?_⟩
  · (try simp [zu, zrow, u3, urow]) <;> (
      first
      | exact h.k1
      | (have a1 := h.k1
         clear h hi
         grind))
  · (try simp [zu, zrow, u3, urow]) <;> (
      first
      | exact h.k2
      | (have a2 := h.k2
         clear h hi
         grind))
  · (try simp [zu, zrow, u3, urow]) <;> (
      first
      | exact h.k3
      | (have a3 := h.k3
         clear h hi
         grind))
  · (try simp [zu, zrow, u3, urow]) <;> (
      first
      | exact h.k4
      | (have a4 := h.k4
         clear h hi
         grind))
  · (try simp [zu, zrow, u3, urow]) <;> (
      first
      | exact h.k5
      | (have a5 := h.k5
         clear h hi
         grind))
  · (try simp [zu, zrow, u3, urow]) <;> (
      first
      | exact h.k6
      | (have a6 := h.k6
         clear h hi
         grind))
  · (try simp [zu, zrow, u3, urow]) <;> (
      first
      | exact h.k7
      | (have a7 := h.k7
         clear h hi
         grind))
  · (try simp [zu, zrow, u3, urow]) <;> (
      first
      | exact h.k8
      | (have a8 := h.k8
         clear h hi
         grind))
  · (try simp [zu, zrow, u3, urow]) <;> (
      first
      | exact h.k9
      | (have a9 := h.k9
         clear h hi
         grind))
  · (try simp [zu, zrow, u3, urow]) <;> (
      first
      | exact h.k10
      | (have a10 := h.k10
         clear h hi
         grind))
  · (try simp [zu, zrow, u3, urow]) <;> (
      first
      | exact h.k11
      | (have a11 := h.k11
         clear h hi
         grind))
  · (try simp [zu, zrow, u3, urow]) <;> (
      first
      | exact h.k12
      | (have a12 := h.k12
         clear h hi
         grind))
  · (try simp [zu, zrow, u3, urow]) <;> (
      first
      | exact h.k13
      | (have a13 := h.k13
         clear h hi
         grind))
  · (try simp [zu, zrow, u3, urow]) <;> (
      first
      | exact h.k14
      | (have a14 := h.k14
         clear h hi
         grind))
  · (try simp [zu, zrow, u3, urow]) <;> (
      first
      | exact h.k15
      | (have a15 := h.k15
         clear h hi
         grind))
  · (try simp [zu, zrow, u3, urow]) <;> (
      first
      | exact h.k16
      | (have a16 := h.k16
         clear h hi
         grind))
  · (try simp [zu, zrow, u3, urow]) <;> (
      first
      | exact h.k17
      | (have a17 := h.k17
         clear h hi
         grind))
  · (try simp [zu, zrow, u3, urow]) <;> (
      first
      | exact h.k18
      | (have a18 := h.k18
         clear h hi
         grind))
  · (try simp [zu, zrow, u3, urow]) <;> (
      first
      | exact h.k19
      | (have a19 := h.k19
         clear h hi
         grind))
theorem zRF_JC {K : Nat} {A : zN} {M S : gY}  (h : zRF A M S) (hi : zIV K A)  : zRF A M (u3 S 20 0 3 (S 20 0 3 + 1)) := by
  have hi1 := hi.k1
  have z0 : nI 0 = 0 := rfl
  have z1 : nI 1 = 1 := rfl
  have z2 : nI 2 = 2 := rfl
  have z3 : nI 3 = 3 := rfl
  refine ⟨?_, ?_, ?_, ?_, ?_, ?_, ?_, ?_, ?_, ?_, ?_, ?_, ?_, ?_, ?_, ?_, ?_, ?_, ?_, ?_, ?_, ?_⟩
  · (try simp [zu, zrow, u3, urow]) <;> (
      first
      | exact h.k1
      | (have a1 := h.k1
         clear h hi
         grind))
  · (try simp [zu, zrow, u3, urow]) <;> (
      first
      | exact h.k2
      | (have a2 := h.k2
         clear h hi
         grind))
  · (try simp [zu, zrow, u3, urow]) <;> (
      first
      | exact h.k3
      | (have a3 := h.k3
         clear h hi
         grind))
  · (try simp [zu, zrow, u3, urow]) <;> (
      first
      | exact h.k4
      | (have a4 := h.k4
         clear h hi
         grind))
  · (try simp [zu, zrow, u3, urow]) <;> (
      first
      | exact h.k5
      | (have a5 := h.k5
         clear h hi
         grind))
  · (try simp [zu, zrow, u3, urow]) <;> (
      first
      | exact h.k6
      | (have a6 := h.k6
         clear h hi
         grind))
  · (try simp [zu, zrow, u3, urow]) <;> (
      first
      | exact h.k7
      | (have a7 := h.k7
         clear h hi
         grind))
  · (try simp [zu, zrow, u3, urow]) <;> (
      first
      | exact h.k8
      | (have a8 := h.k8
         clear h hi
         grind))
  · (try simp [zu, zrow, u3, urow]) <;> (
      first
      | exact h.k9
      | (have a9 := h.k9
         clear h hi
         grind))
  · (try simp [zu, zrow, u3, urow]) <;> (
      first
      | exact h.k10
      | (have a10 := h.k10
         clear h hi
         grind))
  · (try simp [zu, zrow, u3, urow]) <;> (
      first
      | exact h.k11
      | (have a11 := h.k11
         clear h hi
         grind))
  · (try simp [zu, zrow, u3, urow]) <;> (
      first
      | exact h.k12
      | (have a12 := h.k12
         clear h hi
         grind))
  · (try simp [zu, zrow, u3, urow]) <;> (
      first
      | exact h.k13
      | (have a13 := h.k13
         clear h hi
         grind))
  · (try simp [zu, zrow, u3, urow]) <;> (
      first
      | exact h.k14
      | (have a14 := h.k14
         clear h hi
         grind))
  · (try simp [zu, zrow, u3, urow]) <;> (
      first
      | exact h.k15
      | (have a15 := h.k15
         clear h hi
         grind))
  · (try simp [zu, zrow, u3, urow]) <;> (
      first
      | exact h.k16
      | (have a16 := h.k16
         clear h hi
         grind))
  · (try simp [zu, zrow, u3, urow]) <;> (
      first
      | exact h.k17
      | (have a17 := h.k17
         clear h hi
         grind))
  · (try simp [zu, zrow, u3, urow]) <;> (
      first
      | exact h.k18
      | (have a18 := h.k18
         clear h hi
         grind))
  · (try simp [zu, zrow, u3, urow]) <;> (
      first
      | exact h.k19
      | (have a19 := h.k19
         clear h hi
         grind))
  · (try simp [zu, zrow, u3, urow]) <;> (
      first
      | exact h.k20
      | (have a20 := h.k20
         clear h hi
         grind))
  · (try simp [zu, zrow, u3, urow]) <;> (
      first
      | exact h.k21
      | (have a21 := h.k21
         clear h hi
         grind))
  · (try simp [zu, zrow, u3, urow]) <;> (
      first
      | exact h.k22
      | (have a22 := h.k22
         clear h hi
         grind))
theorem zEQ_JC {ko K : Nat} {A : zN} {Y M S : gY}  (h : zEQ ko A Y M S) (hi : zIV K A)  : zEQ ko A (u3 Y 0 0 9 (Y 0 0 9 + 1)) M (u3 S 20 0 3 (S 20 0 3 + 1)) := by
  have hi1 := hi.k1
  have z0 : nI 0 = 0 := rfl
  have z1 : nI 1 = 1 := rfl
  have z2 : nI 2 = 2 := rfl
  have z3 : nI 3 = 3 := rfl
  refine ⟨?_, ?_, ?_, ?_, ?_, ?_, ?_, ?_, ?_, ?_, ?_, ?_⟩
  · (try simp [zu, zrow, u3, urow]) <;> (
      first
      | exact h.k1
      | (have a1 := h.k1
         clear h hi
         grind))
  · (try simp [zu, zrow, u3, urow]) <;> (
      first
      | exact h.k2
      | (have a2 := h.k2
         clear h hi
         grind))
  · (try simp [zu, zrow, u3, urow]) <;> (
      first
      | exact h.k3
      | (have a3 := h.k3
         clear h hi
         grind))
  · (try simp [zu, zrow, u3, urow]) <;> (
      first
      | exact h.k4
      | (have a4 := h.k4
         clear h hi
         grind))
  · (try simp [zu, zrow, u3, urow]) <;> (
      first
      | exact h.k5
      | (have a5 := h.k5
         clear h hi
         grind))
  · (try simp [zu, zrow, u3, urow]) <;> (
      first
      | exact h.k6
      | (have a6 := h.k6
         clear h hi
         grind))
  · (try simp [zu, zrow, u3, urow]) <;> (
      first
      | exact h.k7
      | (have a7 := h.k7
         clear h hi
         grind))
  · (try simp [zu, zrow, u3, urow]) <;> (
      first
      | exact h.k8
      | (have a8 := h.k8
         clear h hi
         grind))
  · (try simp [zu, zrow, u3, urow]) <;> (
      first
      | exact h.k9
      | (have a9 := h.k9
         clear h hi
         grind))
  · (try simp [zu, zrow, u3, urow]) <;> (
      first
      | exact h.k10
      | (have a10 := h.k10
         clear h hi
         grind))
  · (try simp [zu, zrow, u3, urow]) <;> (
      first
      | exact h.k11
      | (have a11 := h.k11
         clear h hi
         grind))
  · (try simp [zu, zrow, u3, urow]) <;> (
      first
      | exact h.k12
      | (have a12 := h.k12
         clear h hi
         grind))
theorem zR_JC {ko K : Nat} {A : zN} {Y M S : gY}  (h : zR ko K A Y M S)  : zR ko (K) A (u3 Y 0 0 9 (Y 0 0 9 + 1)) M (u3 S 20 0 3 (S 20 0 3 + 1)) :=
  ⟨zCL_JC h.1 h.2.2.2, zRF_JC h.2.1 h.2.2.2, zEQ_JC h.2.2.1 h.2.2.2, zIV_JC h.2.2.2⟩
theorem zIV_RO {K : Nat} {A : zN} {k : Nat} (hi : zIV K A) (hk : k < A 0 0 0) : zIV (K) A := by
  have hi1 := hi.k1
  have z0 : nI 0 = 0 := rfl
  have z1 : nI 1 = 1 := rfl
  have z2 : nI 2 = 2 := rfl
  have z3 : nI 3 = 3 := rfl
  have hk6 : k < 6 := by omega
  refine ⟨?_, ?_, ?_, ?_, ?_, ?_, ?_, ?_, ?_, ?_, ?_, ?_, ?_, ?_, ?_, ?_, ?_, ?_, ?_, ?_, ?_, ?_, ?_, ?_⟩
  · (try simp [zu, zrow]) <;> (
      first
      | exact hi.k1
      | (have b1 := hi.k1
         clear hi
         grind))
  · (try simp [zu, zrow]) <;> (
      first
      | exact hi.k2
      | (have b2 := hi.k2
         clear hi
         grind))
  · (try simp [zu, zrow]) <;> (
      first
      | exact hi.k3
      | (have b3 := hi.k3
         clear hi
         grind))
  · (try simp [zu, zrow]) <;> (
      first
      | exact hi.k4
      | (have b4 := hi.k4
         clear hi
         grind))
  · (try simp [zu, zrow]) <;> (
      first
      | exact hi.k5
      | (have b5 := hi.k5
         clear hi
         grind))
  · (try simp [zu, zrow]) <;> (
      first
      | exact hi.k6
      | (have b6 := hi.k6
         clear hi
         grind))
  · (try simp [zu, zrow]) <;> (
      first
      | exact hi.k7
      | (have b7 := hi.k7
         clear hi
         grind))
  · (try simp [zu, zrow]) <;> (
      first
      | exact hi.k8
      | (have b8 := hi.k8
         clear hi
         grind))
  · (try simp [zu, zrow]) <;> (
      first
      | exact hi.k9
      | (have b9 := hi.k9
         clear hi
         grind))
  · (try simp [zu, zrow]) <;> (
      first
      | exact hi.k10
      | (have b10 := hi.k10
         clear hi
         grind))
  · (try simp [zu, zrow]) <;> (
      first
      | exact hi.k11
      | (have b11 := hi.k11
         clear hi
         grind))
  · (try simp [zu, zrow]) <;> (
      first
      | exact hi.k12
      | (have b12 := hi.k12
         clear hi
         grind))
  · (try simp [zu, zrow]) <;> (
      first
      | exact hi.k13
      | (have b13 := hi.k13
         clear hi
         grind))
  · (try simp [zu, zrow]) <;> (
      first
      | exact hi.k14
      | (have b14 := hi.k14
         clear hi
         grind))
  · (try simp [zu, zrow]) <;> (
      first
      | exact hi.k15
      | (have b15 := hi.k15
         clear hi
         grind))
  · (try simp [zu, zrow]) <;> (
      first
      | exact hi.k16
      | (have b16 := hi.k16
         clear hi
         grind))
  · (try simp [zu, zrow]) <;> (
      first
      | exact hi.k17
      | (have b17 := hi.k17
         clear hi
         grind))
  · (try simp [zu, zrow]) <;> (
      first
      | exact hi.k18
      | (have b18 := hi.k18
         clear hi
         grind))
  · (try simp [zu, zrow]) <;> (
      first
      | exact hi.k19
      | (have b19 := hi.k19
         clear hi
         grind))
  · (try simp [zu, zrow]) <;> (
      first
      | exact hi.k20
      | (have b20 := hi.k20
         clear hi
         grind))
  · (try simp [zu, zrow]) <;> (
      first
      | exact hi.k21
      | (have b21 := hi.k21
         clear hi
         grind))
  · (try simp [zu, zrow]) <;> (
      first
      | exact hi.k22
      | (have b22 := hi.k22
         clear hi
         grind))
  · (try simp [zu, zrow]) <;> (
      first
      | exact hi.k23
      | (have b23 := hi.k23
         clear hi
         grind))
  · (try simp [zu, zrow]) <;> (
      first
      | exact hi.k24
      | (have b24 := hi.k24
         clear hi
         grind))
theorem zCL_RO {K : Nat} {A : zN} {Y : gY} {k : Nat} (h : zCL A Y) (hi : zIV K A) (hk : k < A 0 0 0) : zCL A Y := by
  have hi1 := hi.k1
  have z0 : nI 0 = 0 := rfl
  have z1 : nI 1 = 1 := rfl
  have z2 : nI 2 = 2 := rfl
  have z3 : nI 3 = 3 := rfl
  have hk6 : k < 6 := by omega
  refine ⟨?_, ?_, ?_, ?_, ?_, ?_, ?_, ?_, ?_, ?_, ?_, ?_, ?_, ?_, ?_, ?_, ?_, ?_, ?_⟩
  · (try simp [zu, zrow, u3, urow]) <;> (
      first
      | exact h.k1
      | (have a1 := h.k1
         clear h hi
         grind))
  · (try simp [zu, zrow, u3, urow]) <;> (
      first
      | exact h.k2
      | (have a2 := h.k2
         clear h hi
         grind))
  · (try simp [zu, zrow, u3, urow]) <;> (
      first
      | exact h.k3
      | (have a3 := h.k3
         clear h hi
         grind))
  · (try simp [zu, zrow, u3, urow]) <;> (
      first
      | exact h.k4
      | (have a4 := h.k4
         clear h hi
         grind))
  · (try simp [zu, zrow, u3, urow]) <;> (
      first
      | exact h.k5
      | (have a5 := h.k5
         clear h hi
         grind))
  · (try simp [zu, zrow, u3, urow]) <;> (
      first
      | exact h.k6
      | (have a6 := h.k6
         clear h hi
         grind))
  · (try simp [zu, zrow, u3, urow]) <;> (
      first
      | exact h.k7
      | (have a7 := h.k7
         clear h hi
         grind))
  · (try simp [zu, zrow, u3, urow]) <;> (
      first
      | exact h.k8
      | (have a8 := h.k8
         clear h hi
         grind))
  · (try simp [zu, zrow, u3, urow]) <;> (
      first
      | exact h.k9
      | (have a9 := h.k9
         clear h hi
         grind))
  · (try simp [zu, zrow, u3, urow]) <;> (
      first
      | exact h.k10
      | (have a10 := h.k10
         clear h hi
         grind))
  · (try simp [zu, zrow, u3, urow]) <;> (
      first
      | exact h.k11
      | (have a11 := h.k11
         clear h hi
         grind))
  · (try simp [zu, zrow, u3, urow]) <;> (
      first
      | exact h.k12
      | (have a12 := h.k12
         clear h hi
         grind))
  · (try simp [zu, zrow, u3, urow]) <;> (
      first
      | exact h.k13
      | (have a13 := h.k13
         clear h hi
         grind))
  · (try simp [zu, zrow, u3, urow]) <;> (
      first
      | exact h.k14
      | (have a14 := h.k14
         clear h hi
         grind))
  · (try simp [zu, zrow, u3, urow]) <;> (
      first
      | exact h.k15
      | (have a15 := h.k15
         clear h hi
         grind))
  · (try simp [zu, zrow, u3, urow]) <;> (
      first
      | exact h.k16
      | (have a16 := h.k16
         clear h hi
         grind))
  · (try simp [zu, zrow, u3, urow]) <;> (
      first
      | exact h.k17
      | (have a17 := h.k17
         clear h hi
         grind))
  · (try simp [zu, zrow, u3, urow]) <;> (
      first
      | exact h.k18
      | (have a18 := h.k18
         clear h hi
         grind))
  · (try simp [zu, zrow, u3, urow]) <;> (
      first
      | exact h.k19
      | (have a19 := h.k19
         clear h hi
         grind))
theorem zRF_RO {K : Nat} {A : zN} {M S : gY} {k : Nat} (h : zRF A M S) (hi : zIV K A) (hk : k < A 0 0 0) : zRF A M (u3 S 27 0 k 0) := by
  have hi1 := hi.k1
  have z0 : nI 0 = 0 := rfl
  have z1 : nI 1 = 1 := rfl
  have z2 : nI 2 = 2 := rfl
  have z3 : nI 3 = 3 := rfl
  have hk6 : k < 6 := by omega
  refine ⟨?_, ?_, ?_, ?_, ?_, ?_, ?_, ?_, ?_, ?_, ?_, ?_, ?_, ?_, ?_, ?_, ?_, ?_, ?_, ?_, ?_, ?_⟩
  · (try simp [zu, zrow, u3, urow]) <;> (
      first
      | exact h.k1
      | (have a1 := h.k1
         clear h hi
         grind))
  · (try simp [zu, zrow, u3, urow]) <;> (
      first
      | exact h.k2
      | (have a2 := h.k2
         clear h hi
         grind))
  · (try simp [zu, zrow, u3, urow]) <;> (
      first
      | exact h.k3
      | (have a3 := h.k3
         clear h hi
         grind))
  · (try simp [zu, zrow, u3, urow]) <;> (
      first
      | exact h.k4
      | (have a4 := h.k4
         clear h hi
         grind))
  · (try simp [zu, zrow, u3, urow]) <;> (
      first
      | exact h.k5
      | (have a5 := h.k5
         clear h hi
         grind))
  · (try simp [zu, zrow, u3, urow]) <;> (
      first
      | exact h.k6
      | (have a6 := h.k6
         clear h hi
         grind))
  · (try simp [zu, zrow, u3, urow]) <;> (
      first
      | exact h.k7
      | (have a7 := h.k7
         clear h hi
         grind))
  · (try simp [zu, zrow, u3, urow]) <;> (
      first
      | exact h.k8
      | (have a8 := h.k8
         clear h hi
         grind))
  · (try simp [zu, zrow, u3, urow]) <;> (
      first
      | exact h.k9
      | (have a9 := h.k9
         clear h hi
         grind))
  · (try simp [zu, zrow, u3, urow]) <;> (
      first
      | exact h.k10
      | (have a10 := h.k10
         clear h hi
         grind))
  · (try simp [zu, zrow, u3, urow]) <;> (
      first
      | exact h.k11
      | (have a11 := h.k11
         clear h hi
         grind))
  · (try simp [zu, zrow, u3, urow]) <;> (
      first
      | exact h.k12
      | (have a12 := h.k12
         clear h hi
         grind))
  · (try simp [zu, zrow, u3, urow]) <;> (
      first
      | exact h.k13
      | (have a13 := h.k13
         clear h hi
         grind))
  · (try simp [zu, zrow, u3, urow]) <;> (
      first
      | exact h.k14
      | (have a14 := h.k14
         clear h hi
         grind))
  · (try simp [zu, zrow, u3, urow]) <;> (
      first
      | exact h.k15
      | (have a15 := h.k15
         clear h hi
         grind))
  · (try simp [zu, zrow, u3, urow]) <;> (
      first
      | exact h.k16
      | (have a16 := h.k16
         clear h hi
         grind))
  · (try simp [zu, zrow, u3, urow]) <;> (
      first
      | exact h.k17
      | (have a17 := h.k17
         clear h hi
         grind))
  · (try simp [zu, zrow, u3, urow]) <;> (
      first
      | exact h.k18
      | (have a18 := h.k18
         clear h hi
         grind))
  · (try simp [zu, zrow, u3, urow]) <;> (
      first
      | exact h.k19
      | (have a19 := h.k19
         clear h hi
         grind))
  · (try simp [zu, zrow, u3, urow]) <;> (
      first
      | exact h.k20
      | (have a20 := h.k20
         clear h hi
         grind))
  · (try simp [zu, zrow, u3, urow]) <;> (
      first
      | exact h.k21
      | (have a21 := h.k21
         clear h hi
         grind))
  · (try simp [zu, zrow, u3, urow]) <;> (
      first
      | exact h.k22
      | (have a22 := h.k22
         clear h hi
         grind))
theorem zEQ_RO {K : Nat} {A : zN} {Y M S : gY} {k : Nat} (h : zEQ 6 A Y M S) (hi : zIV K A) (hk : k < A 0 0 0) : zEQ k A Y M (u3 S 27 0 k 0) := by
  have hi1 := hi.k1
  have z0 : nI 0 = 0 := rfl
  have z1 : nI 1 = 1 := rfl
  have z2 : nI 2 = 2 := rfl
  have z3 : nI 3 = 3 := rfl
  have hk6 : k < 6 := by omega
  refine ⟨?_, ?_, ?_, ?_, ?_, ?_, ?_, ?_, ?_, ?_, ?_, ?_⟩
  · (try simp [zu, zrow, u3, urow]) <;> (
      first
      | exact h.k1
      | (have a1 := h.k1
         clear h hi
         grind))
  · (try simp [zu, zrow, u3, urow]) <;> (
      first
      | exact h.k2
      | (have a2 := h.k2
         clear h hi
         grind))
  · (try simp [zu, zrow, u3, urow]) <;> (
      first
      | exact h.k3
      | (have a3 := h.k3
         clear h hi
         grind))
  · (try simp [zu, zrow, u3, urow]) <;> (
      first
      | exact h.k4
      | (have a4 := h.k4
         clear h hi
         grind))
  · (try simp [zu, zrow, u3, urow]) <;> (
      first
      | exact h.k5
      | (have a5 := h.k5
         clear h hi
         grind))
  · (try simp [zu, zrow, u3, urow]) <;> (
      first
      | exact h.k6
      | (have a6 := h.k6
         clear h hi
         grind))
  · (try simp [zu, zrow, u3, urow]) <;> (
      first
      | exact h.k7
      | (have a7 := h.k7
         clear h hi
         grind))
  · (try simp [zu, zrow, u3, urow]) <;> (
      first
      | exact h.k8
      | (have a8 := h.k8
         clear h hi
         grind))
  · (try simp [zu, zrow, u3, urow]) <;> (
      first
      | exact h.k9
      | (have a9 := h.k9
         clear h hi
         grind))
  · (try simp [zu, zrow, u3, urow]) <;> (
      first
      | exact h.k10
      | (have a10 := h.k10
         clear h hi
         grind))
  · (try simp [zu, zrow, u3, urow]) <;> (
      first
      | exact h.k11
      | (have a11 := h.k11
         clear h hi
         grind))
  · (try simp [zu, zrow, u3, urow]) <;> (
      first
      | exact h.k12
      | (have a12 := h.k12
         clear h hi
         grind))
theorem zR_RO {K : Nat} {A : zN} {Y M S : gY} {k : Nat} (h : zR 6 K A Y M S) (hk : k < A 0 0 0) : zR k (K) A Y M (u3 S 27 0 k 0) :=
  ⟨zCL_RO h.1 h.2.2.2 hk, zRF_RO h.2.1 h.2.2.2 hk, zEQ_RO h.2.2.1 h.2.2.2 hk, zIV_RO h.2.2.2 hk⟩
theorem zIV_RC {K : Nat} {A : zN} {k : Nat} (hi : zIV K A) (hk : k < A 0 0 0) : zIV (K) A := by
  have hi1 := hi.k1
  have z0 : nI 0 = 0 := rfl
  have z1 : nI 1 = 1 := rfl
  have z2 : nI 2 = 2 := rfl
  have z3 : nI 3 = 3 := rfl
  have hk6 : k < 6 := by omega
  refine ⟨?_, ?_, ?_, ?_, ?_, ?_, ?_, ?_, ?_, ?_, ?_, ?_, ?_, ?_, ?_, ?_, ?_, ?_, ?_, ?_, ?_, ?_, ?_, ?_⟩
  · (try simp [zu, zrow]) <;> (
      first
      | exact hi.k1
      | (have b1 := hi.k1
         clear hi
         grind))
  · (try simp [zu, zrow]) <;> (
      first
      | exact hi.k2
      | (have b2 := hi.k2
         clear hi
         grind))
  · (try simp [zu, zrow]) <;> (
      first
      | exact hi.k3
      | (have b3 := hi.k3
         clear hi
         grind))
  · (try simp [zu, zrow]) <;> (
      first
      | exact hi.k4
      | (have b4 := hi.k4
         clear hi
         grind))
  · (try simp [zu, zrow]) <;> (
      first
      | exact hi.k5
      | (have b5 := hi.k5
         clear hi
         grind))
  · (try simp [zu, zrow]) <;> (
      first
      | exact hi.k6
      | (have b6 := hi.k6
         clear hi
         grind))
  · (try simp [zu, zrow]) <;> (
      first
      | exact hi.k7
      | (have b7 := hi.k7
         clear hi
         grind))
  · (try simp [zu, zrow]) <;> (
      first
      | exact hi.k8
      | (have b8 := hi.k8
         clear hi
         grind))
  · (try simp [zu, zrow]) <;> (
      first
      | exact hi.k9
      | (have b9 := hi.k9
         clear hi
         grind))
  · (try simp [zu, zrow]) <;> (
      first
      | exact hi.k10
      | (have b10 := hi.k10
         clear hi
         grind))
  · (try simp [zu, zrow]) <;> (
      first
      | exact hi.k11
      | (have b11 := hi.k11
         clear hi
         grind))
  · (try simp [zu, zrow]) <;> (
      first
      | exact hi.k12
      | (have b12 := hi.k12
         clear hi
         grind))
  · (try simp [zu, zrow]) <;> (
      first
      | exact hi.k13
      | (have b13 := hi.k13
         clear hi
         grind))
  · (try simp [zu, zrow]) <;> (
      first
      | exact hi.k14
      | (have b14 := hi.k14
         clear hi
         grind))
  · (try simp [zu, zrow]) <;> (
      first
      | exact hi.k15
      | (have b15 := hi.k15
         clear hi
         grind))
  · (try simp [zu, zrow]) <;> (
      first
      | exact hi.k16
      | (have b16 := hi.k16
         clear hi
         grind))
  · (try simp [zu, zrow]) <;> (
      first
      | exact hi.k17
      | (have b17 := hi.k17
         clear hi
         grind))
  · (try simp [zu, zrow]) <;> (
      first
      | exact hi.k18
      | (have b18 := hi.k18
         clear hi
         grind))
  · (try simp [zu, zrow]) <;> (
      first
      | exact hi.k19
      | (have b19 := hi.k19
         clear hi
         grind))
  · (try simp [zu, zrow]) <;> (
      first
      | exact hi.k20
      | (have b20 := hi.k20
         clear hi
         grind))
  · (try simp [zu, zrow]) <;> (
      first
      | exact hi.k21
      | (have b21 := hi.k21
         clear hi
         grind))
  · (try simp [zu, zrow]) <;> (
      first
      | exact hi.k22
      | (have b22 := hi.k22
         clear hi
         grind))
  · (try simp [zu, zrow]) <;> (
      first
      | exact hi.k23
      | (have b23 := hi.k23
         clear hi
         grind))
  · (try simp [zu, zrow]) <;> (
      first
      | exact hi.k24
      | (have b24 := hi.k24
         clear hi
         grind))
theorem zCL_RC {K : Nat} {A : zN} {Y : gY} {k : Nat} (h : zCL A Y) (hi : zIV K A) (hk : k < A 0 0 0) : zCL A (u3 Y 1 k 8 0) := by
  have hi1 := hi.k1
  have z0 : nI 0 = 0 := rfl
  have z1 : nI 1 = 1 := rfl
  have z2 : nI 2 = 2 := rfl
  have z3 : nI 3 = 3 := rfl
  have hk6 : k < 6 := by omega
  refine ⟨?_, ?_, ?_, ?_, ?_, ?_, ?_, ?_, ?_, ?_, ?_, ?_, ?_, ?_, ?_, ?_, ?_, ?_, ?_⟩
  · (try simp [zu, zrow, u3, urow]) <;> (
      first
      | exact h.k1
      | (have a1 := h.k1
         clear h hi
         grind))
  · (try simp [zu, zrow, u3, urow]) <;> (
      first
      | exact h.k2
      | (have a2 := h.k2
         clear h hi
         grind))
  · (try simp [zu, zrow, u3, urow]) <;> (
      first
      | exact h.k3
      | (have a3 := h.k3
         clear h hi
         grind))
  · (try simp [zu, zrow, u3, urow]) <;> (
      first
      | exact h.k4
      | (have a4 := h.k4
         clear h hi
         grind))
  · (try simp [zu, zrow, u3, urow]) <;> (
      first
      | exact h.k5
      | (have a5 := h.k5
         clear h hi
         grind))
  · (try simp [zu, zrow, u3, urow]) <;> (
      first
      | exact h.k6
      | (have a6 := h.k6
         clear h hi
         grind))
  · (try simp [zu, zrow, u3, urow]) <;> (
      first
      | exact h.k7
      | (have a7 := h.k7
         clear h hi
         grind))
  · (try simp [zu, zrow, u3, urow]) <;> (
      first
      | exact h.k8
      | (have a8 := h.k8
         clear h hi
         grind))
  · (try simp [zu, zrow, u3, urow]) <;> (
      first
      | exact h.k9
      | (have a9 := h.k9
         clear h hi
         grind))
  · (try simp [zu, zrow, u3, urow]) <;> (
      first
      | exact h.k10
      | (have a10 := h.k10
         clear h hi
         grind))
  · (try simp [zu, zrow, u3, urow]) <;> (
      first
      | exact h.k11
      | (have a11 := h.k11
         clear h hi
         grind))
  · (try simp [zu, zrow, u3, urow]) <;> (
      first
      | exact h.k12
      | (have a12 := h.k12
         clear h hi
         grind))
  · (try simp [zu, zrow, u3, urow]) <;> (
      first
      | exact h.k13
      | (have a13 := h.k13
         clear h hi
         grind))
  · (try simp [zu, zrow, u3, urow]) <;> (
      first
      | exact h.k14
      | (have a14 := h.k14
         clear h hi
         grind))
  · (try simp [zu, zrow, u3, urow]) <;> (
      first
      | exact h.k15
      | (have a15 := h.k15
         clear h hi
         grind))
  · (try simp [zu, zrow, u3, urow]) <;> (
      first
      | exact h.k16
      | (have a16 := h.k16
         clear h hi
         grind))
  · (try simp [zu, zrow, u3, urow]) <;> (
      first
      | exact h.k17
      | (have a17 := h.k17
         clear h hi
         grind))
  · (try simp [zu, zrow, u3, urow]) <;> (
      first
      | exact h.k18
      | (have a18 := h.k18
         clear h hi
         grind))
  · (try simp [zu, zrow, u3, urow]) <;> (
      first
      | exact h.k19
      | (have a19 := h.k19
         clear h hi
         grind))
theorem zRF_RC {K : Nat} {A : zN} {M S : gY} {k : Nat} (h : zRF A M S) (hi : zIV K A) (hk : k < A 0 0 0) : zRF A M S := by
  have hi1 := hi.k1
  have z0 : nI 0 = 0 := rfl
  have z1 : nI 1 = 1 := rfl
  have z2 : nI 2 = 2 := rfl
  have z3 : nI 3 = 3 := rfl
  have hk6 : k < 6 := by omega
  refine ⟨?_, ?_, ?_, ?_, ?_, ?_, ?_, ?_, ?_, ?_, ?_, ?_, ?_, ?_, ?_, ?_, ?_, ?_, ?_, ?_, ?_, ?_⟩
  · (try simp [zu, zrow, u3, urow]) <;> (
      first
      | exact h.k1
      | (have a1 := h.k1
         clear h hi
         grind))
  · (try simp [zu, zrow, u3, urow]) <;> (
      first
      | exact h.k2
      | (have a2 := h.k2
         clear h hi
         grind))
  · (try simp [zu, zrow, u3, urow]) <;> (
      first
      | exact h.k3
      | (have a3 := h.k3
         clear h hi
         grind))
  · (try simp [zu, zrow, u3, urow]) <;> (
      first
      | exact h.k4
      | (have a4 := h.k4
         clear h hi
         grind))
  · (try simp [zu, zrow, u3, urow]) <;> (
      first
      | exact h.k5
      | (have a5 := h.k5
         clear h hi
         grind))
  · (try simp [zu, zrow, u3, urow]) <;> (
      first
      | exact h.k6
      | (have a6 := h.k6
         clear h hi
         grind))
  · (try simp [zu, zrow, u3, urow]) <;> (
      first
      | exact h.k7
      | (have a7 := h.k7
         clear h hi
         grind))
  · (try simp [zu, zrow, u3, urow]) <;> (
      first
      | exact h.k8
      | (have a8 := h.k8
         clear h hi
         grind))
  · (try simp [zu, zrow, u3, urow]) <;> (
      first
      | exact h.k9
      | (have a9 := h.k9
         clear h hi
         grind))
  · (try simp [zu, zrow, u3, urow]) <;> (
      first
      | exact h.k10
      | (have a10 := h.k10
         clear h hi
         grind))
  · (try simp [zu, zrow, u3, urow]) <;> (
      first
      | exact h.k11
      | (have a11 := h.k11
         clear h hi
         grind))
  · (try simp [zu, zrow, u3, urow]) <;> (
      first
      | exact h.k12
      | (have a12 := h.k12
         clear h hi
         grind))
  · (try simp [zu, zrow, u3, urow]) <;> (
      first
      | exact h.k13
      | (have a13 := h.k13
         clear h hi
         grind))
  · (try simp [zu, zrow, u3, urow]) <;> (
      first
      | exact h.k14
      | (have a14 := h.k14
         clear h hi
         grind))
  · (try simp [zu, zrow, u3, urow]) <;> (
      first
      | exact h.k15
      | (have a15 := h.k15
         clear h hi
         grind))
  · (try simp [zu, zrow, u3, urow]) <;> (
      first
      | exact h.k16
      | (have a16 := h.k16
         clear h hi
         grind))
  · (try simp [zu, zrow, u3, urow]) <;> (
      first
      | exact h.k17
      | (have a17 := h.k17
         clear h hi
         grind))
  · (try simp [zu, zrow, u3, urow]) <;> (
      first
      | exact h.k18
      | (have a18 := h.k18
         clear h hi
         grind))
  · (try simp [zu, zrow, u3, urow]) <;> (
      first
      | exact h.k19
      | (have a19 := h.k19
         clear h hi
         grind))
  · (try simp [zu, zrow, u3, urow]) <;> (
      first
      | exact h.k20
      | (have a20 := h.k20
         clear h hi
         grind))
  · (try simp [zu, zrow, u3, urow]) <;> (
      first
      | exact h.k21
      | (have a21 := h.k21
         clear h hi
         grind))
  · (try simp [zu, zrow, u3, urow]) <;> (
      first
      | exact h.k22
      | (have a22 := h.k22
         clear h hi
         grind))
theorem zEQ_RC {K : Nat} {A : zN} {Y M S : gY} {k : Nat} (h : zEQ k A Y M S) (hi : zIV K A) (hk : k < A 0 0 0) : zEQ 6 A (u3 Y 1 k 8 0) M S := by
  have hi1 := hi.k1
  have z0 : nI 0 = 0 := rfl
  have z1 : nI 1 = 1 := rfl
  have z2 : nI 2 = 2 := rfl
  have z3 : nI 3 = 3 := rfl
  have hk6 : k < 6 := by omega
  refine ⟨?_, ?_, ?_, ?_, ?_, ?_, ?_, ?_, ?_, ?_, ?_, ?_⟩
  · (try simp [zu, zrow, u3, urow]) <;> (
      first
      | exact h.k1
      | (have a1 := h.k1
         clear h hi
         grind))
  · (try simp [zu, zrow, u3, urow]) <;> (
      first
      | exact h.k2
      | (have a2 := h.k2
         clear h hi
         grind))
  · (try simp [zu, zrow, u3, urow]) <;> (
      first
      | exact h.k3
      | (have a3 := h.k3
         clear h hi
         grind))
  · (try simp [zu, zrow, u3, urow]) <;> (
      first
      | exact h.k4
      | (have a4 := h.k4
         have a12 := h.k12
         clear h hi
         grind))
  · (try simp [zu, zrow, u3, urow]) <;> (
      first
      | exact h.k5
      | (have a5 := h.k5
         clear h hi
         grind))
  · (try simp [zu, zrow, u3, urow]) <;> (
      first
      | exact h.k6
      | (have a6 := h.k6
         clear h hi
         grind))
  · (try simp [zu, zrow, u3, urow]) <;> (
      first
      | exact h.k7
      | (have a7 := h.k7
         clear h hi
         grind))
  · (try simp [zu, zrow, u3, urow]) <;> (
      first
      | exact h.k8
      | (have a8 := h.k8
         clear h hi
         grind))
  · (try simp [zu, zrow, u3, urow]) <;> (
      first
      | exact h.k9
      | (have a9 := h.k9
         clear h hi
         grind))
  · (try simp [zu, zrow, u3, urow]) <;> (
      first
      | exact h.k10
      | (have a10 := h.k10
         clear h hi
         grind))
  · (try simp [zu, zrow, u3, urow]) <;> (
      first
      | exact h.k11
      | (have a11 := h.k11
         clear h hi
         grind))
  · (try simp [zu, zrow, u3, urow]) <;> (
      first
      | exact h.k12
      | (have a12 := h.k12
         clear h hi
         grind))
theorem zR_RC {K : Nat} {A : zN} {Y M S : gY} {k : Nat} (h : zR k K A Y M S) (hk : k < A 0 0 0) : zR 6 (K) A (u3 Y 1 k 8 0) M S :=
  ⟨zCL_RC h.1 h.2.2.2 hk, zRF_RC h.2.1 h.2.2.2 hk, zEQ_RC h.2.2.1 h.2.2.2 hk, zIV_RC h.2.2.2 hk⟩
