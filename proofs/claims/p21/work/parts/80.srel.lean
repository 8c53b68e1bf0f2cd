/-! THE SIM AND THE GHOST: V (the Sim's contents) says what M, S (the second reckoning's numbers) say. L loose rows, n lads, lo loads. -/
def sR (L n lo : Nat) (V M S : gY) : Prop :=
  (V 1 2 0 = nI n ∧ V 1 3 0 = nI n ∧ V 1 4 0 = nI lo ∧ V 1 5 0 = S 20 0 19 ∧ V 1 9 0 = nI L) ∧
  (V 0 0 0 = S 20 0 0 ∧ V 0 0 1 = M 11 0 7 ∧ V 0 0 6 = S 20 0 1 ∧ V 0 0 7 = S 20 0 2 ∧ V 0 0 8 = S 20 0 3) ∧
  (∀ i, i < n → V 2 i 0 = M 12 0 i ∧ V 2 i 1 = M 13 0 i ∧ V 2 i 2 = S 25 0 i ∧ V 2 i 4 = S 27 0 i ∧ V 2 i 5 = S 28 0 i ∧ V 2 i 6 = S 29 0 i ∧ V 2 i 7 = S 30 0 i ∧ V 6 i 0 = S 31 0 i) ∧
  (∀ i, i < n → (S 25 0 i = 1 ∨ S 25 0 i = 2) → V 2 i 3 = S 26 0 i) ∧
  (∀ i p, i < n → p < (S 31 0 i).toNatClampNeg → V 3 i p = S 32 0 (8 * i + p)) ∧
  (∀ l, l < lo → V 4 l 0 = M 14 0 l ∧ V 4 l 1 = S 34 0 l ∧ V 4 l 2 = M 15 0 l ∧ V 4 l 3 = S 35 0 l ∧ V 4 l 4 = S 37 0 l ∧ (S 33 0 l = 0 → V 4 l 5 = 0) ∧ (S 33 0 l ≠ 0 → V 4 l 5 = 1)) ∧
  (∀ h, h < (S 20 0 19).toNatClampNeg → V 5 h 0 = S 40 0 h ∧ V 5 h 1 = S 41 0 h ∧ V 5 h 2 = S 42 0 h ∧ V 5 h 3 = S 43 0 h ∧ (S 43 0 h ≠ -1 → V 5 h 4 = S 44 0 h) ∧ V 5 h 5 = S 45 0 h) ∧
  (∀ i, i < n → S 27 0 i = 0 ∨ S 27 0 i = 1 ∨ S 27 0 i = 2)
theorem sR.k1 {L n lo : Nat} {V M S : gY} (h : sR L n lo V M S) : V 1 2 0 = nI n ∧ V 1 3 0 = nI n ∧ V 1 4 0 = nI lo ∧ V 1 5 0 = S 20 0 19 ∧ V 1 9 0 = nI L := h.1
theorem sR.k2 {L n lo : Nat} {V M S : gY} (h : sR L n lo V M S) : V 0 0 0 = S 20 0 0 ∧ V 0 0 1 = M 11 0 7 ∧ V 0 0 6 = S 20 0 1 ∧ V 0 0 7 = S 20 0 2 ∧ V 0 0 8 = S 20 0 3 := h.2.1
theorem sR.k3 {L n lo : Nat} {V M S : gY} (h : sR L n lo V M S) : ∀ i, i < n → V 2 i 0 = M 12 0 i ∧ V 2 i 1 = M 13 0 i ∧ V 2 i 2 = S 25 0 i ∧ V 2 i 4 = S 27 0 i ∧ V 2 i 5 = S 28 0 i ∧ V 2 i 6 = S 29 0 i ∧ V 2 i 7 = S 30 0 i ∧ V 6 i 0 = S 31 0 i := h.2.2.1
theorem sR.k4 {L n lo : Nat} {V M S : gY} (h : sR L n lo V M S) : ∀ i, i < n → (S 25 0 i = 1 ∨ S 25 0 i = 2) → V 2 i 3 = S 26 0 i := h.2.2.2.1
theorem sR.k5 {L n lo : Nat} {V M S : gY} (h : sR L n lo V M S) : ∀ i p, i < n → p < (S 31 0 i).toNatClampNeg → V 3 i p = S 32 0 (8 * i + p) := h.2.2.2.2.1
theorem sR.k6 {L n lo : Nat} {V M S : gY} (h : sR L n lo V M S) : ∀ l, l < lo → V 4 l 0 = M 14 0 l ∧ V 4 l 1 = S 34 0 l ∧ V 4 l 2 = M 15 0 l ∧ V 4 l 3 = S 35 0 l ∧ V 4 l 4 = S 37 0 l ∧ (S 33 0 l = 0 → V 4 l 5 = 0) ∧ (S 33 0 l ≠ 0 → V 4 l 5 = 1) := h.2.2.2.2.2.1
theorem sR.k7 {L n lo : Nat} {V M S : gY} (h : sR L n lo V M S) : ∀ h, h < (S 20 0 19).toNatClampNeg → V 5 h 0 = S 40 0 h ∧ V 5 h 1 = S 41 0 h ∧ V 5 h 2 = S 42 0 h ∧ V 5 h 3 = S 43 0 h ∧ (S 43 0 h ≠ -1 → V 5 h 4 = S 44 0 h) ∧ V 5 h 5 = S 45 0 h := h.2.2.2.2.2.2.1
theorem sR.k8 {L n lo : Nat} {V M S : gY} (h : sR L n lo V M S) : ∀ i, i < n → S 27 0 i = 0 ∨ S 27 0 i = 1 ∨ S 27 0 i = 2 := h.2.2.2.2.2.2.2
/-- a heap is done, by a lad -/
theorem sR_DN {L n lo k q : Nat} {V M S : gY} (h : sR L n lo V M S) (hk : k < n) : sR L n lo (u3 (u3 V 5 q 5 1) 2 k 2 0) M (u3 (u3 S 45 0 q 1) 25 0 k 0) := by
  have k3 := h.k3
  have k4 := h.k4
  have k5 := h.k5
  have k6 := h.k6
  have k7 := h.k7
  have k8 := h.k8
  refine ⟨?_, ?_, fun i hi => ?_, fun i hi => ?_, fun i p hi => ?_, fun l hl => ?_, fun g hg => ?_, fun i hi => ?_⟩
  · have := h.k1
    simpa [u3_eq] using this
  · have := h.k2
    simpa [u3_eq] using this
  · have := k3 i hi
    simp only [u3_eq]
    grind
  · have := k4 i hi
    simp only [u3_eq]
    grind
  · have := k5 i p hi
    simp only [u3_eq]
    grind
  · have := k6 l hl
    simp only [u3_eq]
    grind
  · have := k7 g (by simpa [u3_eq] using hg)
    simp only [u3_eq]
    grind
  · have := k8 i hi
    simp only [u3_eq]
    grind
