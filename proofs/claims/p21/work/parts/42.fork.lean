/-! PRINTED by wip/gen/steps.py: THE FORK -/
theorem zx_two : ∀ a, a < 160 → (2 * a) ^^^ 1 = 2 * a + 1 ∧ (2 * a + 1) ^^^ 1 = 2 * a := by decide +kernel
theorem zB_half {p b : Nat} (h : b ≤ zB p) (hp : 1 ≤ p) (h4 : 4 < b) : p < 16 ∧ b / 2 ≤ zB (2 * p) ∧ b - b / 2 ≤ zB (2 * p + 1) := by
  unfold zB at *
  repeat' split at h
  all_goals (refine ⟨by omega, ?_, ?_⟩ <;> repeat' split)
  all_goals omega
def zFK (A : zN) (k : Nat) : zN := zu (zu (zu (zu (zu (zu (zu (zu (zu (zu (zu (zu (zu (zu (zu (zrow A k (fun p => if p = 0 then A 0 0 2 + 1 else A 2 k (p - 1))) 1 k 2 (A 1 k 2 + 1)) 1 k 1 (A 0 0 2)) 0 0 2 (A 0 0 2 + 2)) 4 (A 0 0 2) 0 (A 4 (A 1 k 1) 0 + A 4 (A 1 k 1) 0 % 32)) 4 (A 0 0 2) 1 (A 1 k 1)) 4 (A 0 0 2) 2 (A 0 0 2 + 1)) 4 (A 0 0 2) 3 (A 4 (A 1 k 1) 3 / 2)) 4 (A 0 0 2) 4 (A 4 (A 1 k 1) 3 / 2)) 4 (A 0 0 2) 5 0) 4 (A 0 0 2 + 1) 0 (A 4 (A 1 k 1) 0 + A 4 (A 1 k 1) 0 % 32 + 1)) 4 (A 0 0 2 + 1) 1 (A 1 k 1)) 4 (A 0 0 2 + 1) 2 (A 0 0 2)) 4 (A 0 0 2 + 1) 3 (A 4 (A 1 k 1) 3 - A 4 (A 1 k 1) 3 / 2)) 4 (A 0 0 2 + 1) 4 (A 4 (A 1 k 1) 3 - A 4 (A 1 k 1) 3 / 2)) 4 (A 0 0 2 + 1) 5 0
set_option maxHeartbeats 4000000 in
theorem zIV_FK {K : Nat} {A : zN} {k : Nat} (hi : zIV K A) (hk : k < A 0 0 0) (h0 : A 1 k 0 = 1) (hl : A 4 (A 1 k 1) 4 = A 4 (A 1 k 1) 3) (hb : A 0 0 6 < A 4 (A 1 k 1) 3) (hm : A 1 k 2 < 8) : zIV (K) (zFK A k) := by
  have hi1 := hi.k1
  have z0 : nI 0 = 0 := rfl
  have z1 : nI 1 = 1 := rfl
  have z2 : nI 2 = 2 := rfl
  have z3 : nI 3 = 3 := rfl
  have hk6 : k < 6 := by omega
  have hh := hi.k9 k hk6 (Or.inl h0)
  have hg := hi.k12 _ hh
  have hb2 := zB_half hg.2.2.2.1 hg.2.1 (by omega)
  have e15 := fun i (x : i < 6) (x' : A 1 i 0 = 1) => hi.k15 i k x hk6 x' h0
  have e16 := fun i p (x : i < 6) (x' : p < A 1 i 2) => hi.k16 k i p hk6 x h0 x'
  have e17 := fun j (x : j < A 0 0 1) (x' : A 3 j 0 = 0) => hi.k17 k j hk6 x h0 x'
  have e14 := fun a (x : a < A 0 0 2) => hi.k14 a _ x hh
  have e20 := fun a (x : a < A 0 0 2) (x' : A 4 a 0 % 32 ≠ 1) => hi.k20 a k x x' hk6 h0
  generalize eg : A 4 (A 1 k 1) 0 = g at *
  generalize eb : A 4 (A 1 k 1) 3 = b at *
  generalize eh : A 1 k 1 = w at *
  have hG1 : (g + g % 32) % 32 = 2 * (g % 32) := by omega
  have hG2 : (g + g % 32 + 1) % 32 = 2 * (g % 32) + 1 := by omega
  have hG3 : (g + g % 32) / 32 = g / 32 := by omega
  have hG4 : (g + g % 32 + 1) / 32 = g / 32 := by omega
  have hG5 : g + g % 32 + 1 < 320 := by omega
  have hx := zx_two ((g + g % 32) / 2) (by omega)
  have hx1 : (g + g % 32) ^^^ 1 = g + g % 32 + 1 := by have := hx.1; rw [show 2 * ((g + g % 32) / 2) = g + g % 32 by omega] at this; exact this
  have hx2 : (g + g % 32 + 1) ^^^ 1 = g + g % 32 := by have := hx.2; rw [show 2 * ((g + g % 32) / 2) = g + g % 32 by omega] at this; exact this
  clear hx
  have f1 : ∀ a, a < A 0 0 2 → A 4 a 0 ≠ g + g % 32 := by
    intro a q1 q2
    have q3 := hi.k13 a q1 (by omega)
    have q4 := e14 (A 4 a 1) q3.1 (by omega)
    exact e20 a q1 (by omega) q4.symm
  have f2 : ∀ a, a < A 0 0 2 → A 4 a 0 ≠ g + g % 32 + 1 := by
    intro a q1 q2
    have q3 := hi.k13 a q1 (by omega)
    have q4 := e14 (A 4 a 1) q3.1 (by omega)
    exact e20 a q1 (by omega) q4.symm
  refine ⟨?_, ?_, ?_, ?_, ?_, ?_, ?_, ?_, ?_, ?_, ?_, ?_, ?_, ?_, ?_, ?_, ?_, ?_, ?_, ?_, ?_, ?_, ?_, ?_⟩
  · (try simp [zFK, zu, zrow, eh, eg, eb]) <;> (
      have hp := zpig 320 (A 0 0 2 + 2) (fun a => if a = A 0 0 2 then g + g % 32 else if a = A 0 0 2 + 1 then g + g % 32 + 1 else A 4 a 0) (by
        intro a ha
        have h12 := hi.k12 a
        clear hi
        grind) (by
        intro a c ha hc e
        have b14 := hi.k14 a c
        have f1a := f1 a
        have f1c := f1 c
        have f2a := f2 a
        have f2c := f2 c
        clear hi f1 f2
        grind)
      omega)
  · (try simp [zFK, zu, zrow, eh, eg, eb]) <;> (
      have b2 := hi.k2
      clear hi f1 f2 e14 e15 e16 e17 e20 hg hb2 hx1 hx2 hG1 hG2 hG3 hG4 hG5 z0 z1 z2 z3 hl hb
      grind)
  · (try simp [zFK, zu, zrow, eh, eg, eb]) <;> (
      exact hi.k3)
  · (try simp [zFK, zu, zrow, eh, eg, eb]) <;> (
      have b4 := hi.k4
      clear hi f1 f2 e14 e15 e16 e17 e20 hg hb2 hx1 hx2 hG1 hG2 hG3 hG4 hG5 z0 z1 z2 z3 hl hb
      grind)
  · (try simp [zFK, zu, zrow, eh, eg, eb]) <;> (
      exact hi.k5)
  · (try simp [zFK, zu, zrow, eh, eg, eb]) <;> (
      exact hi.k6)
  · (try simp [zFK, zu, zrow, eh, eg, eb]) <;> (
      exact hi.k7)
  · (try simp [zFK, zu, zrow, eh, eg, eb]) <;> (
      exact hi.k8)
  · (try simp [zFK, zu, zrow, eh, eg, eb]) <;> (
      have b9 := hi.k9
      clear hi f1 f2 e14 e15 e16 e17 e20 hg hb2 hx1 hx2 hG1 hG2 hG3 hG4 hG5 z0 z1 z2 z3 hl hb
      grind)
  · (try simp [zFK, zu, zrow, eh, eg, eb]) <;> (
      have b10 := hi.k10
      clear hi f1 f2 e14 e15 e16 e17 e20 hg hb2 hx1 hx2 hG1 hG2 hG3 hG4 hG5 z0 z1 z2 z3 hl hb
      grind)
  · (try simp [zFK, zu, zrow, eh, eg, eb]) <;> (
      have b11 := hi.k11
      clear hi f1 f2 e14 e15 e16 e17 e20 hg hb2 hx1 hx2 hG1 hG2 hG3 hG4 hG5 z0 z1 z2 z3 hl hb
      grind)
  · (try simp [zFK, zu, zrow, eh, eg, eb]) <;> (
      intro a ha
      have b12 := hi.k12 a
      clear hi f1 f2 e14 e15 e16 e17 e20 hx1 hx2 hG3 hG4 z0 z1 z2 z3 hl
      by_cases e1 : a = A 0 0 2 + 1
      · subst e1
        simp
        rw [hG2]
        omega
      · by_cases e2 : a = A 0 0 2
        · subst e2
          simp
          rw [show (g + g) % 32 = 2 * (g % 32) by omega]
          omega
        · simp [e1, e2]
          exact b12 (by omega))
  · (try simp [zFK, zu, zrow, eh, eg, eb]) <;> (
      intro a ha
      have b13 := hi.k13 a
      have n1 : ¬ w = A 0 0 2 + 1 := by omega
      have n2 : ¬ w = A 0 0 2 := by omega
      clear hi f1 f2 e14 e15 e16 e17 e20
      by_cases e1 : a = A 0 0 2 + 1
      · subst e1
        simp [n1, n2, eg, hx2]
        omega
      · by_cases e2 : a = A 0 0 2
        · subst e2
          simp [n1, n2, eg, hx1]
          omega
        · simp [e1, e2]
          intro z
          have b := b13 (by omega) z
          have n3 : ¬ A 4 a 1 = A 0 0 2 + 1 := by omega
          have n4 : ¬ A 4 a 1 = A 0 0 2 := by omega
          have n5 : ¬ A 4 a 2 = A 0 0 2 + 1 := by omega
          have n6 : ¬ A 4 a 2 = A 0 0 2 := by omega
          simp [n3, n4, n5, n6]
          exact ⟨by omega, by omega, b.2.2.1, b.2.2.2⟩)
  · (try simp [zFK, zu, zrow, eh, eg, eb]) <;> (
      intro a c ha hc
      have b14 := hi.k14 a c
      have f1a := f1 a
      have f1c := f1 c
      have f2a := f2 a
      have f2c := f2 c
      clear hi f1 f2 e14 e15 e16 e17 e20 hg hb2 hx1 hx2 hG1 hG2 hG3 hG4 hG5 z0 z1 z2 z3 hl hb
      by_cases e1 : a = A 0 0 2 + 1
      · by_cases d1 : c = A 0 0 2 + 1
        · simp [e1, d1]
        · by_cases d2 : c = A 0 0 2
          · simp [e1, d2]
          · simp [e1, d1, d2]
            intro q
            exact absurd q.symm (f2c (by omega))
      · by_cases e2 : a = A 0 0 2
        · by_cases d1 : c = A 0 0 2 + 1
          · simp [e2, d1]
          · by_cases d2 : c = A 0 0 2
            · simp [e2, d2]
            · simp [e2, d1, d2]
              intro q
              exact absurd q.symm (f1c (by omega))
        · by_cases d1 : c = A 0 0 2 + 1
          · simp [e1, e2, d1]
            intro q
            exact absurd q (f2a (by omega))
          · by_cases d2 : c = A 0 0 2
            · simp [e1, e2, d2]
              intro q
              exact absurd q (f1a (by omega))
            · simp [e1, e2, d1, d2]
              exact b14 (by omega) (by omega))
  · (try simp [zFK, zu, zrow, eh, eg, eb]) <;> (
      have b15 := hi.k15
      have b9 := hi.k9
      clear hi f1 f2 e14 e15 e16 e17 e20 hg hb2 hx1 hx2 hG1 hG2 hG3 hG4 hG5 z0 z1 z2 z3 hl hb
      grind)
  · (try simp [zFK, zu, zrow, eh, eg, eb]) <;> (
      have b16 := hi.k16
      have b10 := hi.k10
      have b9 := hi.k9
      clear hi f1 f2 e14 e15 e16 e17 e20 hg hb2 hx1 hx2 hG1 hG2 hG3 hG4 hG5 z0 z1 z2 z3 hl hb
      grind)
  · (try simp [zFK, zu, zrow, eh, eg, eb]) <;> (
      have b17 := hi.k17
      have b11 := hi.k11
      clear hi f1 f2 e14 e15 e16 e17 e20 hg hb2 hx1 hx2 hG1 hG2 hG3 hG4 hG5 z0 z1 z2 z3 hl hb
      grind)
  · (try simp [zFK, zu, zrow, eh, eg, eb]) <;> (
      have b18 := hi.k18
      have b10 := hi.k10
      clear hi f1 f2 e14 e15 e16 e17 e20 hg hb2 hx1 hx2 hG1 hG2 hG3 hG4 hG5 z0 z1 z2 z3 hl hb
      grind)
  · (try simp [zFK, zu, zrow, eh, eg, eb]) <;> (
      have b19 := hi.k19
      have b11 := hi.k11
      clear hi f1 f2 e14 e15 e16 e17 e20 hg hb2 hx1 hx2 hG1 hG2 hG3 hG4 hG5 z0 z1 z2 z3 hl hb
      grind)
  · (try simp [zFK, zu, zrow, eh, eg, eb]) <;> (
      intro a i ha
      have b20 := hi.k20 a i
      have b13 := hi.k13 a
      have e15i := e15 i
      have b9 := hi.k9 k hk6 (Or.inl h0)
      clear hi f1 f2 e14 e15 e16 e17 e20 hg hb2 hx1 hx2 hG1 hG2 hG3 hG4 hG5 z0 z1 z2 z3 hl hb
      by_cases e1 : a = A 0 0 2 + 1
      · subst e1
        simp
        grind
      · by_cases e2 : a = A 0 0 2
        · subst e2
          simp
          grind
        · simp [e1, e2]
          grind)
  · (try simp [zFK, zu, zrow, eh, eg, eb]) <;> (
      intro a i p ha
      have b21 := fun p => hi.k21 a i p
      have b13 := hi.k13 a
      have b16 := fun p => e16 i p
      have b10 := fun p => hi.k10 i p
      clear hi f1 f2 e14 e15 e16 e17 e20 hg hb2 hx1 hx2 hG1 hG2 hG3 hG4 hG5 z0 z1 z2 z3 hl hb
      by_cases e1 : a = A 0 0 2 + 1
      · subst e1
        simp
        grind
      · by_cases e2 : a = A 0 0 2
        · subst e2
          simp
          grind
        · simp [e1, e2]
          grind)
  · (try simp [zFK, zu, zrow, eh, eg, eb]) <;> (
      intro a j ha
      have b22 := hi.k22 a j
      have b17 := e17 j
      clear hi f1 f2 e14 e15 e16 e17 e20 hg hb2 hx1 hx2 hG1 hG2 hG3 hG4 hG5 z0 z1 z2 z3 hl hb
      by_cases e1 : a = A 0 0 2 + 1
      · subst e1
        simp
        grind
      · by_cases e2 : a = A 0 0 2
        · subst e2
          simp
          grind
        · simp [e1, e2]
          grind)
  · (try simp [zFK, zu, zrow, eh, eg, eb]) <;> (
      have b23 := hi.k23
      have b10 := hi.k10
      clear hi f1 f2 e14 e15 e16 e17 e20 hg hb2 hx1 hx2 hG1 hG2 hG3 hG4 hG5 z0 z1 z2 z3 hl hb
      grind)
  · (try simp [zFK, zu, zrow, eh, eg, eb]) <;> (
      have b24 := hi.k24
      have b11 := hi.k11
      clear hi f1 f2 e14 e15 e16 e17 e20 hg hb2 hx1 hx2 hG1 hG2 hG3 hG4 hG5 z0 z1 z2 z3 hl hb
      grind)
theorem zCL_FK {K : Nat} {A : zN} {Y : gY} {k : Nat} (h : zCL A Y) (hi : zIV K A) (hk : k < A 0 0 0) (h0 : A 1 k 0 = 1) (hl : A 4 (A 1 k 1) 4 = A 4 (A 1 k 1) 3) (hb : A 0 0 6 < A 4 (A 1 k 1) 3) (hm : A 1 k 2 < 8) : zCL (zFK A k) (u3 (u3 (u3 (u3 (u3 (u3 (u3 (u3 Y 5 0 (A 4 (A 1 k 1) 0 + A 4 (A 1 k 1) 0 % 32) (nI ((A 4 (A 1 k 1) 3) / 2))) 5 0 ((A 4 (A 1 k 1) 0 + A 4 (A 1 k 1) 0 % 32) + 1) (nI ((A 4 (A 1 k 1) 3) - (A 4 (A 1 k 1) 3) / 2))) 4 (A 4 (A 1 k 1) 0 / 32) 4 (Y 4 (A 4 (A 1 k 1) 0 / 32) 4 + 2)) 0 0 8 (Y 0 0 8 + 1)) 1 k 4 (nI (A 4 (A 1 k 1) 0 + A 4 (A 1 k 1) 0 % 32))) 1 k 5 (nI ((A 4 (A 1 k 1) 3) / 2))) 3 (A 1 k 3) (A 1 k 2) (nI ((A 4 (A 1 k 1) 0 + A 4 (A 1 k 1) 0 % 32) + 1))) 2 (A 1 k 3) 1 (nI (A 1 k 2 + 1))) := by
  have hi1 := hi.k1
  have z0 : nI 0 = 0 := rfl
  have z1 : nI 1 = 1 := rfl
  have z2 : nI 2 = 2 := rfl
  have z3 : nI 3 = 3 := rfl
  have hk6 : k < 6 := by omega
  have hh := hi.k9 k hk6 (Or.inl h0)
  have hg := hi.k12 _ hh
  have hb2 := zB_half hg.2.2.2.1 hg.2.1 (by omega)
  have e15 := fun i (x : i < 6) (x' : A 1 i 0 = 1) => hi.k15 i k x hk6 x' h0
  have e16 := fun i p (x : i < 6) (x' : p < A 1 i 2) => hi.k16 k i p hk6 x h0 x'
  have e17 := fun j (x : j < A 0 0 1) (x' : A 3 j 0 = 0) => hi.k17 k j hk6 x h0 x'
  have e14 := fun a (x : a < A 0 0 2) => hi.k14 a _ x hh
  have e20 := fun a (x : a < A 0 0 2) (x' : A 4 a 0 % 32 ≠ 1) => hi.k20 a k x x' hk6 h0
  generalize eg : A 4 (A 1 k 1) 0 = g at *
  generalize eb : A 4 (A 1 k 1) 3 = b at *
  generalize eh : A 1 k 1 = w at *
  have hG1 : (g + g % 32) % 32 = 2 * (g % 32) := by omega
  have hG2 : (g + g % 32 + 1) % 32 = 2 * (g % 32) + 1 := by omega
  have hG3 : (g + g % 32) / 32 = g / 32 := by omega
  have hG4 : (g + g % 32 + 1) / 32 = g / 32 := by omega
  have hG5 : g + g % 32 + 1 < 320 := by omega
  have hx := zx_two ((g + g % 32) / 2) (by omega)
  have hx1 : (g + g % 32) ^^^ 1 = g + g % 32 + 1 := by have := hx.1; rw [show 2 * ((g + g % 32) / 2) = g + g % 32 by omega] at this; exact this
  have hx2 : (g + g % 32 + 1) ^^^ 1 = g + g % 32 := by have := hx.2; rw [show 2 * ((g + g % 32) / 2) = g + g % 32 by omega] at this; exact this
  clear hx
  have f1 : ∀ a, a < A 0 0 2 → A 4 a 0 ≠ g + g % 32 := by
    intro a q1 q2
    have q3 := hi.k13 a q1 (by omega)
    have q4 := e14 (A 4 a 1) q3.1 (by omega)
    exact e20 a q1 (by omega) q4.symm
  have f2 : ∀ a, a < A 0 0 2 → A 4 a 0 ≠ g + g % 32 + 1 := by
    intro a q1 q2
    have q3 := hi.k13 a q1 (by omega)
    have q4 := e14 (A 4 a 1) q3.1 (by omega)
    exact e20 a q1 (by omega) q4.symm
  refine ⟨?_, ?_, ?_, ?_, ?_, ?_, ?_, ?_, ?_, ?_, ?_, ?_, ?_, ?_, ?_, ?_, ?_, ?_, ?_⟩
  · (try simp [zFK, zu, zrow, u3, urow, eh, eg, eb]) <;> (
      first
      | exact h.k1
      | (have a1 := h.k1
         clear h hi
         grind))
  · (try simp [zFK, zu, zrow, u3, urow, eh, eg, eb]) <;> (
      first
      | exact h.k2
      | (have a2 := h.k2
         clear h hi
         grind))
  · (try simp [zFK, zu, zrow, u3, urow, eh, eg, eb]) <;> (
      first
      | exact h.k3
      | (have a3 := h.k3
         clear h hi
         grind))
  · (try simp [zFK, zu, zrow, u3, urow, eh, eg, eb]) <;> (
      first
      | exact h.k4
      | (have a4 := h.k4
         clear h hi
         grind))
  · (try simp [zFK, zu, zrow, u3, urow, eh, eg, eb]) <;> (
      first
      | exact h.k5
      | (have a5 := h.k5
         have b5 := hi.k5
         clear h hi
         grind))
  · (try simp [zFK, zu, zrow, u3, urow, eh, eg, eb]) <;> (
      intro i q h1 h2
      have h6 := h.k6
      have b10 := hi.k10
      by_cases e : i = k
      · subst e
        simp at h2 ⊢
        by_cases e0 : q = A 1 i 2
        · subst e0
          simp
        · have e1 := h6 i q h1 (by omega)
          have b11 := b10 i (A 1 i 2 - 1 - q) hk6 (by omega)
          rw [if_neg e0, e1, if_neg (show ¬ A 1 i 2 - q = 0 by omega), show A 1 i 2 - q - 1 = A 1 i 2 - 1 - q by omega, if_neg (by omega), if_neg (by omega)]
      · have e2 : A 1 i 3 ≠ A 1 k 3 := fun z => e (hi.k5 i k (by omega) hk6 z)
        have e3 := fun z => b10 i (A 1 i 2 - 1 - q) (by omega) z
        simp [e, e2] at h2 ⊢
        have e3 := e3 (by omega)
        rw [if_neg (by omega), if_neg (by omega)]
        exact h6 i q h1 h2)
  · (try simp [zFK, zu, zrow, u3, urow, eh, eg, eb]) <;> (
      first
      | exact h.k7
      | (have a7 := h.k7
         have b9 := hi.k9
         clear h hi
         grind))
  · (try simp [zFK, zu, zrow, u3, urow, eh, eg, eb]) <;> (
      first
      | exact h.k8
      | (have a8 := h.k8
         have b9 := hi.k9
         clear h hi
         grind))
  · (try simp [zFK, zu, zrow, u3, urow, eh, eg, eb]) <;> (
      first
      | exact h.k9
      | (have a9 := h.k9
         have b9 := hi.k9
         clear h hi
         grind))
  · (try simp [zFK, zu, zrow, u3, urow, eh, eg, eb]) <;> (
      first
      | exact h.k10
      | (have a10 := h.k10
         clear h hi
         grind))
  · (try simp [zFK, zu, zrow, u3, urow, eh, eg, eb]) <;> (
      first
      | exact h.k11
      | (have a11 := h.k11
         clear h hi
         grind))
  · (try simp [zFK, zu, zrow, u3, urow, eh, eg, eb]) <;> (
      first
      | exact h.k12
      | (have a12 := h.k12
         clear h hi
         grind))
  · (try simp [zFK, zu, zrow, u3, urow, eh, eg, eb]) <;> (
      first
      | exact h.k13
      | (have a13 := h.k13
         clear h hi
         grind))
  · (try simp [zFK, zu, zrow, u3, urow, eh, eg, eb]) <;> (
      first
      | exact h.k14
      | (have a14 := h.k14
         clear h hi
         grind))
  · (try simp [zFK, zu, zrow, u3, urow, eh, eg, eb]) <;> (
      first
      | exact h.k15
      | (have a15 := h.k15
         clear h hi
         grind))
  · (try simp [zFK, zu, zrow, u3, urow, eh, eg, eb]) <;> (
      first
      | exact h.k16
      | (have a16 := h.k16
         have b11 := hi.k11
         clear h hi
         grind))
  · (try simp [zFK, zu, zrow, u3, urow, eh, eg, eb]) <;> (
      first
      | exact h.k17
      | (have a17 := h.k17
         clear h hi
         grind))
  · (try simp [zFK, zu, zrow, u3, urow, eh, eg, eb]) <;> (
      first
      | exact h.k18
      | (have a18 := h.k18
         have a19 := h.k19
         clear h hi
         grind))
  · (try simp [zFK, zu, zrow, u3, urow, eh, eg, eb]) <;> (
      first
      | exact h.k19
      | (have a19 := h.k19
         clear h hi
         grind))
theorem zRF_FK {K : Nat} {A : zN} {M S : gY} {k : Nat} (h : zRF A M S) (hi : zIV K A) (hk : k < A 0 0 0) (h0 : A 1 k 0 = 1) (hl : A 4 (A 1 k 1) 4 = A 4 (A 1 k 1) 3) (hb : A 0 0 6 < A 4 (A 1 k 1) 3) (hm : A 1 k 2 < 8) : zRF (zFK A k) M (u3 (u3 (u3 (u3 (u3 (urow (u3 (u3 (u3 (u3 (u3 (u3 (u3 (u3 (u3 (u3 (u3 (u3 (u3 (u3 (u3 (u3 S 40 0 (A 0 0 2) (nI ((A 4 (A 1 k 1) 3) / 2))) 41 0 (A 0 0 2) (nI ((A 4 (A 1 k 1) 3) / 2))) 42 0 (A 0 0 2) (nI (A 4 (A 1 k 1) 0 / 32))) 43 0 (A 0 0 2) (nI (A 1 k 1))) 44 0 (A 0 0 2) (-1)) 45 0 (A 0 0 2) 0) 20 0 19 (nI (A 0 0 2 + 1))) 40 0 (A 0 0 2 + 1) (nI ((A 4 (A 1 k 1) 3) - (A 4 (A 1 k 1) 3) / 2))) 41 0 (A 0 0 2 + 1) (nI ((A 4 (A 1 k 1) 3) - (A 4 (A 1 k 1) 3) / 2))) 42 0 (A 0 0 2 + 1) (nI (A 4 (A 1 k 1) 0 / 32))) 43 0 (A 0 0 2 + 1) (nI (A 1 k 1))) 44 0 (A 0 0 2 + 1) (-1)) 45 0 (A 0 0 2 + 1) 0) 20 0 19 (nI (A 0 0 2 + 2))) 44 0 (A 0 0 2) (nI (A 0 0 2 + 1))) 44 0 (A 0 0 2 + 1) (nI (A 0 0 2))) 32 0 (va_cpy (S 32 0) (S 32 0) (8 * k) (8 * k + 1) (A 1 k 2))) 32 0 (8 * k) (nI (A 0 0 2 + 1))) 31 0 k (nI (A 1 k 2 + 1))) 26 0 k (nI (A 0 0 2))) 36 0 (A 4 (A 1 k 1) 0 / 32) (S 36 0 (A 4 (A 1 k 1) 0 / 32) + 2)) 20 0 2 (S 20 0 2 + 1)) := by
  have hi1 := hi.k1
  have z0 : nI 0 = 0 := rfl
  have z1 : nI 1 = 1 := rfl
  have z2 : nI 2 = 2 := rfl
  have z3 : nI 3 = 3 := rfl
  have hk6 : k < 6 := by omega
  have hh := hi.k9 k hk6 (Or.inl h0)
  have hg := hi.k12 _ hh
  have hb2 := zB_half hg.2.2.2.1 hg.2.1 (by omega)
  have e15 := fun i (x : i < 6) (x' : A 1 i 0 = 1) => hi.k15 i k x hk6 x' h0
  have e16 := fun i p (x : i < 6) (x' : p < A 1 i 2) => hi.k16 k i p hk6 x h0 x'
  have e17 := fun j (x : j < A 0 0 1) (x' : A 3 j 0 = 0) => hi.k17 k j hk6 x h0 x'
  have e14 := fun a (x : a < A 0 0 2) => hi.k14 a _ x hh
  have e20 := fun a (x : a < A 0 0 2) (x' : A 4 a 0 % 32 ≠ 1) => hi.k20 a k x x' hk6 h0
  generalize eg : A 4 (A 1 k 1) 0 = g at *
  generalize eb : A 4 (A 1 k 1) 3 = b at *
  generalize eh : A 1 k 1 = w at *
  have hG1 : (g + g % 32) % 32 = 2 * (g % 32) := by omega
  have hG2 : (g + g % 32 + 1) % 32 = 2 * (g % 32) + 1 := by omega
  have hG3 : (g + g % 32) / 32 = g / 32 := by omega
  have hG4 : (g + g % 32 + 1) / 32 = g / 32 := by omega
  have hG5 : g + g % 32 + 1 < 320 := by omega
  have hx := zx_two ((g + g % 32) / 2) (by omega)
  have hx1 : (g + g % 32) ^^^ 1 = g + g % 32 + 1 := by have := hx.1; rw [show 2 * ((g + g % 32) / 2) = g + g % 32 by omega] at this; exact this
  have hx2 : (g + g % 32 + 1) ^^^ 1 = g + g % 32 := by have := hx.2; rw [show 2 * ((g + g % 32) / 2) = g + g % 32 by omega] at this; exact this
  clear hx
  have f1 : ∀ a, a < A 0 0 2 → A 4 a 0 ≠ g + g % 32 := by
    intro a q1 q2
    have q3 := hi.k13 a q1 (by omega)
    have q4 := e14 (A 4 a 1) q3.1 (by omega)
    exact e20 a q1 (by omega) q4.symm
  have f2 : ∀ a, a < A 0 0 2 → A 4 a 0 ≠ g + g % 32 + 1 := by
    intro a q1 q2
    have q3 := hi.k13 a q1 (by omega)
    have q4 := e14 (A 4 a 1) q3.1 (by omega)
    exact e20 a q1 (by omega) q4.symm
  refine ⟨?_, ?_, ?_, ?_, ?_, ?_, ?_, ?_, ?_, ?_, ?_, ?_, ?_, ?_, ?_, ?_, ?_, ?_, ?_, ?_, ?_, ?_⟩
  · (try simp [zFK, zu, zrow, u3, urow, eh, eg, eb]) <;> (
      first
      | exact h.k1
      | (have a1 := h.k1
         clear h hi
         grind))
  · (try simp [zFK, zu, zrow, u3, urow, eh, eg, eb]) <;> (
      first
      | exact h.k2
      | (have a2 := h.k2
         clear h hi
         grind))
  · (try simp [zFK, zu, zrow, u3, urow, eh, eg, eb]) <;> (
      first
      | exact h.k3
      | (have a3 := h.k3
         clear h hi
         grind))
  · (try simp [zFK, zu, zrow, u3, urow, eh, eg, eb]) <;> (
      first
      | exact h.k4
      | (have a4 := h.k4
         clear h hi
         grind))
  · (try simp [zFK, zu, zrow, u3, urow, eh, eg, eb]) <;> (
      first
      | exact h.k5
      | (have a5 := h.k5
         clear h hi
         grind))
  · (try simp [zFK, zu, zrow, u3, urow, eh, eg, eb]) <;> (
      first
      | exact h.k6
      | (have a6 := h.k6
         clear h hi
         grind))
  · (try simp [zFK, zu, zrow, u3, urow, eh, eg, eb]) <;> (
      intro i p h1 h2
      have h7 := h.k7
      have b3 := (hi.k2 k hk6).2.1
      by_cases e : i = k
      · subst e
        simp at h2 ⊢
        by_cases e0 : p = 0
        · subst e0
          simp
        · have e1 := h7 i (p - 1) h1 (by omega)
          rw [if_neg e0, if_neg (by omega), pk_cpy_in (by omega) (by omega), ← e1]
          congr 1
          omega
      · have b2 := (hi.k2 i (by omega)).2.1
        simp [e] at h2 ⊢
        rw [if_neg (by omega), pk_cpy_out (by omega)]
        exact h7 i p h1 h2)
  · (try simp [zFK, zu, zrow, u3, urow, eh, eg, eb]) <;> (
      first
      | exact h.k8
      | (have a8 := h.k8
         clear h hi
         grind))
  · (try simp [zFK, zu, zrow, u3, urow, eh, eg, eb]) <;> (
      first
      | exact h.k9
      | (have a9 := h.k9
         clear h hi
         grind))
  · (try simp [zFK, zu, zrow, u3, urow, eh, eg, eb]) <;> (
      first
      | exact h.k10
      | (have a10 := h.k10
         clear h hi
         grind))
  · (try simp [zFK, zu, zrow, u3, urow, eh, eg, eb]) <;> (
      first
      | exact h.k11
      | (have a11 := h.k11
         clear h hi
         grind))
  · (try simp [zFK, zu, zrow, u3, urow, eh, eg, eb]) <;> (
      first
      | exact h.k12
      | (have a12 := h.k12
         clear h hi
         grind))
  · (try simp [zFK, zu, zrow, u3, urow, eh, eg, eb]) <;> (
      first
      | exact h.k13
      | (have a13 := h.k13
         clear h hi
         grind))
  · (try simp [zFK, zu, zrow, u3, urow, eh, eg, eb]) <;> (
      first
      | exact h.k14
      | (have a14 := h.k14
         have b11 := hi.k11
         clear h hi
         grind))
  · (try simp [zFK, zu, zrow, u3, urow, eh, eg, eb]) <;> (
      first
      | exact h.k15
      | (have a15 := h.k15
         clear h hi
         grind))
  · (try simp [zFK, zu, zrow, u3, urow, eh, eg, eb]) <;> (
      first
      | exact h.k16
      | (have a16 := h.k16
         clear h hi
         grind))
  · (try simp [zFK, zu, zrow, u3, urow, eh, eg, eb]) <;> (
      first
      | exact h.k17
      | (have a17 := h.k17
         clear h hi
         grind))
  · (try simp [zFK, zu, zrow, u3, urow, eh, eg, eb]) <;> (
      first
      | exact h.k18
      | (have a18 := h.k18
         clear h hi
         grind))
  · (try simp [zFK, zu, zrow, u3, urow, eh, eg, eb]) <;> (
      first
      | exact h.k19
      | (have a19 := h.k19
         clear h hi
         grind))
  · (try simp [zFK, zu, zrow, u3, urow, eh, eg, eb]) <;> (
      first
      | exact h.k20
      | (have a20 := h.k20
         clear h hi
         grind))
  · (try simp [zFK, zu, zrow, u3, urow, eh, eg, eb]) <;> (
      first
      | exact h.k21
      | (have a21 := h.k21
         clear h hi
         grind))
  · (try simp [zFK, zu, zrow, u3, urow, eh, eg, eb]) <;> (
      first
      | exact h.k22
      | (have a22 := h.k22
         clear h hi
         grind))
theorem zEQ_FK {ko K : Nat} {A : zN} {Y M S : gY} {k : Nat} (h : zEQ ko A Y M S) (hi : zIV K A) (hk : k < A 0 0 0) (h0 : A 1 k 0 = 1) (hl : A 4 (A 1 k 1) 4 = A 4 (A 1 k 1) 3) (hb : A 0 0 6 < A 4 (A 1 k 1) 3) (hm : A 1 k 2 < 8) : zEQ ko (zFK A k) (u3 (u3 (u3 (u3 (u3 (u3 (u3 (u3 Y 5 0 (A 4 (A 1 k 1) 0 + A 4 (A 1 k 1) 0 % 32) (nI ((A 4 (A 1 k 1) 3) / 2))) 5 0 ((A 4 (A 1 k 1) 0 + A 4 (A 1 k 1) 0 % 32) + 1) (nI ((A 4 (A 1 k 1) 3) - (A 4 (A 1 k 1) 3) / 2))) 4 (A 4 (A 1 k 1) 0 / 32) 4 (Y 4 (A 4 (A 1 k 1) 0 / 32) 4 + 2)) 0 0 8 (Y 0 0 8 + 1)) 1 k 4 (nI (A 4 (A 1 k 1) 0 + A 4 (A 1 k 1) 0 % 32))) 1 k 5 (nI ((A 4 (A 1 k 1) 3) / 2))) 3 (A 1 k 3) (A 1 k 2) (nI ((A 4 (A 1 k 1) 0 + A 4 (A 1 k 1) 0 % 32) + 1))) 2 (A 1 k 3) 1 (nI (A 1 k 2 + 1))) M (u3 (u3 (u3 (u3 (u3 (urow (u3 (u3 (u3 (u3 (u3 (u3 (u3 (u3 (u3 (u3 (u3 (u3 (u3 (u3 (u3 (u3 S 40 0 (A 0 0 2) (nI ((A 4 (A 1 k 1) 3) / 2))) 41 0 (A 0 0 2) (nI ((A 4 (A 1 k 1) 3) / 2))) 42 0 (A 0 0 2) (nI (A 4 (A 1 k 1) 0 / 32))) 43 0 (A 0 0 2) (nI (A 1 k 1))) 44 0 (A 0 0 2) (-1)) 45 0 (A 0 0 2) 0) 20 0 19 (nI (A 0 0 2 + 1))) 40 0 (A 0 0 2 + 1) (nI ((A 4 (A 1 k 1) 3) - (A 4 (A 1 k 1) 3) / 2))) 41 0 (A 0 0 2 + 1) (nI ((A 4 (A 1 k 1) 3) - (A 4 (A 1 k 1) 3) / 2))) 42 0 (A 0 0 2 + 1) (nI (A 4 (A 1 k 1) 0 / 32))) 43 0 (A 0 0 2 + 1) (nI (A 1 k 1))) 44 0 (A 0 0 2 + 1) (-1)) 45 0 (A 0 0 2 + 1) 0) 20 0 19 (nI (A 0 0 2 + 2))) 44 0 (A 0 0 2) (nI (A 0 0 2 + 1))) 44 0 (A 0 0 2 + 1) (nI (A 0 0 2))) 32 0 (va_cpy (S 32 0) (S 32 0) (8 * k) (8 * k + 1) (A 1 k 2))) 32 0 (8 * k) (nI (A 0 0 2 + 1))) 31 0 k (nI (A 1 k 2 + 1))) 26 0 k (nI (A 0 0 2))) 36 0 (A 4 (A 1 k 1) 0 / 32) (S 36 0 (A 4 (A 1 k 1) 0 / 32) + 2)) 20 0 2 (S 20 0 2 + 1)) := by
  have hi1 := hi.k1
  have z0 : nI 0 = 0 := rfl
  have z1 : nI 1 = 1 := rfl
  have z2 : nI 2 = 2 := rfl
  have z3 : nI 3 = 3 := rfl
  have hk6 : k < 6 := by omega
  have hh := hi.k9 k hk6 (Or.inl h0)
  have hg := hi.k12 _ hh
  have hb2 := zB_half hg.2.2.2.1 hg.2.1 (by omega)
  have e15 := fun i (x : i < 6) (x' : A 1 i 0 = 1) => hi.k15 i k x hk6 x' h0
  have e16 := fun i p (x : i < 6) (x' : p < A 1 i 2) => hi.k16 k i p hk6 x h0 x'
  have e17 := fun j (x : j < A 0 0 1) (x' : A 3 j 0 = 0) => hi.k17 k j hk6 x h0 x'
  have e14 := fun a (x : a < A 0 0 2) => hi.k14 a _ x hh
  have e20 := fun a (x : a < A 0 0 2) (x' : A 4 a 0 % 32 ≠ 1) => hi.k20 a k x x' hk6 h0
  generalize eg : A 4 (A 1 k 1) 0 = g at *
  generalize eb : A 4 (A 1 k 1) 3 = b at *
  generalize eh : A 1 k 1 = w at *
  have hG1 : (g + g % 32) % 32 = 2 * (g % 32) := by omega
  have hG2 : (g + g % 32 + 1) % 32 = 2 * (g % 32) + 1 := by omega
  have hG3 : (g + g % 32) / 32 = g / 32 := by omega
  have hG4 : (g + g % 32 + 1) / 32 = g / 32 := by omega
  have hG5 : g + g % 32 + 1 < 320 := by omega
  have hx := zx_two ((g + g % 32) / 2) (by omega)
  have hx1 : (g + g % 32) ^^^ 1 = g + g % 32 + 1 := by have := hx.1; rw [show 2 * ((g + g % 32) / 2) = g + g % 32 by omega] at this; exact this
  have hx2 : (g + g % 32 + 1) ^^^ 1 = g + g % 32 := by have := hx.2; rw [show 2 * ((g + g % 32) / 2) = g + g % 32 by omega] at this; exact this
  clear hx
  have f1 : ∀ a, a < A 0 0 2 → A 4 a 0 ≠ g + g % 32 := by
    intro a q1 q2
    have q3 := hi.k13 a q1 (by omega)
    have q4 := e14 (A 4 a 1) q3.1 (by omega)
    exact e20 a q1 (by omega) q4.symm
  have f2 : ∀ a, a < A 0 0 2 → A 4 a 0 ≠ g + g % 32 + 1 := by
    intro a q1 q2
    have q3 := hi.k13 a q1 (by omega)
    have q4 := e14 (A 4 a 1) q3.1 (by omega)
    exact e20 a q1 (by omega) q4.symm
  refine ⟨?_, ?_, ?_, ?_, ?_, ?_, ?_, ?_, ?_, ?_, ?_, ?_⟩
  · (try simp [zFK, zu, zrow, u3, urow, eh, eg, eb]) <;> (
      first
      | exact h.k1
      | (have a1 := h.k1
         clear h hi
         grind))
  · (try simp [zFK, zu, zrow, u3, urow, eh, eg, eb]) <;> (
      first
      | exact h.k2
      | (have a2 := h.k2
         clear h hi
         grind))
  · (try simp [zFK, zu, zrow, u3, urow, eh, eg, eb]) <;> (
      first
      | exact h.k3
      | (have a3 := h.k3
         clear h hi
         grind))
  · (try simp [zFK, zu, zrow, u3, urow, eh, eg, eb]) <;> (
      first
      | exact h.k4
      | (have a4 := h.k4
         clear h hi
         grind))
  · (try simp [zFK, zu, zrow, u3, urow, eh, eg, eb]) <;> (
      first
      | exact h.k5
      | (have a5 := h.k5
         clear h hi
         grind))
  · (try simp [zFK, zu, zrow, u3, urow, eh, eg, eb]) <;> (
      first
      | exact h.k6
      | (have a6 := h.k6
         clear h hi
         grind))
  · (try simp [zFK, zu, zrow, u3, urow, eh, eg, eb]) <;> (
      first
      | exact h.k7
      | (have a7 := h.k7
         clear h hi
         grind))
  · (try simp [zFK, zu, zrow, u3, urow, eh, eg, eb]) <;> (
      first
      | exact h.k8
      | (have a8 := h.k8
         clear h hi
         grind))
  · (try simp [zFK, zu, zrow, u3, urow, eh, eg, eb]) <;> (
      first
      | exact h.k9
      | (have a9 := h.k9
         clear h hi
         grind))
  · (try simp [zFK, zu, zrow, u3, urow, eh, eg, eb]) <;> (
      first
      | exact h.k10
      | (have a10 := h.k10
         clear h hi
         grind))
  · (try simp [zFK, zu, zrow, u3, urow, eh, eg, eb]) <;> (
      first
      | exact h.k11
      | (have a11 := h.k11
         clear h hi
         grind))
  · (try simp [zFK, zu, zrow, u3, urow, eh, eg, eb]) <;> (
      first
      | exact h.k12
      | (have a12 := h.k12
         clear h hi
         grind))
theorem zR_FK {ko K : Nat} {A : zN} {Y M S : gY} {k : Nat} (h : zR ko K A Y M S) (hk : k < A 0 0 0) (h0 : A 1 k 0 = 1) (hl : A 4 (A 1 k 1) 4 = A 4 (A 1 k 1) 3) (hb : A 0 0 6 < A 4 (A 1 k 1) 3) (hm : A 1 k 2 < 8) : zR ko (K) (zFK A k) (u3 (u3 (u3 (u3 (u3 (u3 (u3 (u3 Y 5 0 (A 4 (A 1 k 1) 0 + A 4 (A 1 k 1) 0 % 32) (nI ((A 4 (A 1 k 1) 3) / 2))) 5 0 ((A 4 (A 1 k 1) 0 + A 4 (A 1 k 1) 0 % 32) + 1) (nI ((A 4 (A 1 k 1) 3) - (A 4 (A 1 k 1) 3) / 2))) 4 (A 4 (A 1 k 1) 0 / 32) 4 (Y 4 (A 4 (A 1 k 1) 0 / 32) 4 + 2)) 0 0 8 (Y 0 0 8 + 1)) 1 k 4 (nI (A 4 (A 1 k 1) 0 + A 4 (A 1 k 1) 0 % 32))) 1 k 5 (nI ((A 4 (A 1 k 1) 3) / 2))) 3 (A 1 k 3) (A 1 k 2) (nI ((A 4 (A 1 k 1) 0 + A 4 (A 1 k 1) 0 % 32) + 1))) 2 (A 1 k 3) 1 (nI (A 1 k 2 + 1))) M (u3 (u3 (u3 (u3 (u3 (urow (u3 (u3 (u3 (u3 (u3 (u3 (u3 (u3 (u3 (u3 (u3 (u3 (u3 (u3 (u3 (u3 S 40 0 (A 0 0 2) (nI ((A 4 (A 1 k 1) 3) / 2))) 41 0 (A 0 0 2) (nI ((A 4 (A 1 k 1) 3) / 2))) 42 0 (A 0 0 2) (nI (A 4 (A 1 k 1) 0 / 32))) 43 0 (A 0 0 2) (nI (A 1 k 1))) 44 0 (A 0 0 2) (-1)) 45 0 (A 0 0 2) 0) 20 0 19 (nI (A 0 0 2 + 1))) 40 0 (A 0 0 2 + 1) (nI ((A 4 (A 1 k 1) 3) - (A 4 (A 1 k 1) 3) / 2))) 41 0 (A 0 0 2 + 1) (nI ((A 4 (A 1 k 1) 3) - (A 4 (A 1 k 1) 3) / 2))) 42 0 (A 0 0 2 + 1) (nI (A 4 (A 1 k 1) 0 / 32))) 43 0 (A 0 0 2 + 1) (nI (A 1 k 1))) 44 0 (A 0 0 2 + 1) (-1)) 45 0 (A 0 0 2 + 1) 0) 20 0 19 (nI (A 0 0 2 + 2))) 44 0 (A 0 0 2) (nI (A 0 0 2 + 1))) 44 0 (A 0 0 2 + 1) (nI (A 0 0 2))) 32 0 (va_cpy (S 32 0) (S 32 0) (8 * k) (8 * k + 1) (A 1 k 2))) 32 0 (8 * k) (nI (A 0 0 2 + 1))) 31 0 k (nI (A 1 k 2 + 1))) 26 0 k (nI (A 0 0 2))) 36 0 (A 4 (A 1 k 1) 0 / 32) (S 36 0 (A 4 (A 1 k 1) 0 / 32) + 2)) 20 0 2 (S 20 0 2 + 1)) :=
  ⟨zCL_FK h.1 h.2.2.2 hk h0 hl hb hm, zRF_FK h.2.1 h.2.2.2 hk h0 hl hb hm, zEQ_FK h.2.2.1 h.2.2.2 hk h0 hl hb hm, zIV_FK h.2.2.2 hk h0 hl hb hm⟩
