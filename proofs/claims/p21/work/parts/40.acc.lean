/-! PRINTED by wip/gen/acc.py: the clauses of the relation, one by one -/
theorem zCL.k1 {A : zN} {Y : gY} (h : zCL A Y) : Y 0 0 4 = nI (A 0 0 0) := h.1
theorem zCL.k2 {A : zN} {Y : gY} (h : zCL A Y) : Y 0 0 5 = nI (A 0 0 1) := h.2.1
theorem zCL.k3 {A : zN} {Y : gY} (h : zCL A Y) : Y 0 0 7 = nI (A 0 0 6) := h.2.2.1
theorem zCL.k4 {A : zN} {Y : gY} (h : zCL A Y) : (∀ i, i < 6 → Y 1 i 3 = nI (A 1 i 3)) := h.2.2.2.1
theorem zCL.k5 {A : zN} {Y : gY} (h : zCL A Y) : (∀ i, i < A 0 0 3 → Y 2 (A 1 i 3) 1 = nI (A 1 i 2)) := h.2.2.2.2.1
theorem zCL.k6 {A : zN} {Y : gY} (h : zCL A Y) : (∀ i q, i < A 0 0 3 → q < A 1 i 2 → Y 3 (A 1 i 3) q = nI (A 4 (A 2 i (A 1 i 2 - 1 - q)) 0)) := h.2.2.2.2.2.1
theorem zCL.k7 {A : zN} {Y : gY} (h : zCL A Y) : (∀ i, i < A 0 0 3 → Y 1 i 4 = if A 1 i 0 = 1 then nI (A 4 (A 1 i 1) 0) else -1) := h.2.2.2.2.2.2.1
theorem zCL.k8 {A : zN} {Y : gY} (h : zCL A Y) : (∀ i, i < A 0 0 3 → Y 1 i 5 = if A 1 i 0 = 1 then nI (A 4 (A 1 i 1) 4) else 0) := h.2.2.2.2.2.2.2.1
theorem zCL.k9 {A : zN} {Y : gY} (h : zCL A Y) : (∀ i, i < A 0 0 3 → Y 1 i 6 = if A 1 i 0 = 2 then nI (A 4 (A 1 i 1) 0) else -1) := h.2.2.2.2.2.2.2.2.1
theorem zCL.k10 {A : zN} {Y : gY} (h : zCL A Y) : (∀ i, i < A 0 0 3 → Y 1 i 7 = if A 1 i 0 = 3 then 1 else 0) := h.2.2.2.2.2.2.2.2.2.1
theorem zCL.k11 {A : zN} {Y : gY} (h : zCL A Y) : (∀ i, i < A 0 0 3 → Y 1 i 2 = nI (A 1 i 5)) := h.2.2.2.2.2.2.2.2.2.2.1
theorem zCL.k12 {A : zN} {Y : gY} (h : zCL A Y) : (∀ i, i < A 0 0 0 → Y 1 i 1 = nI (A 1 i 4)) := h.2.2.2.2.2.2.2.2.2.2.2.1
theorem zCL.k13 {A : zN} {Y : gY} (h : zCL A Y) : (∀ i, i < A 0 0 3 → Y 1 i 10 = nI (A 1 i 6)) := h.2.2.2.2.2.2.2.2.2.2.2.2.1
theorem zCL.k14 {A : zN} {Y : gY} (h : zCL A Y) : (∀ j, j < A 0 0 4 → Y 4 j 1 = nI (A 3 j 0)) := h.2.2.2.2.2.2.2.2.2.2.2.2.2.1
theorem zCL.k15 {A : zN} {Y : gY} (h : zCL A Y) : (∀ j, j < A 0 0 4 → Y 4 j 6 = nI (A 3 j 2)) := h.2.2.2.2.2.2.2.2.2.2.2.2.2.2.1
theorem zCL.k16 {A : zN} {Y : gY} (h : zCL A Y) : (∀ j, j < A 0 0 1 → Y 4 j 0 = nI (A 4 (A 3 j 1) 3)) := h.2.2.2.2.2.2.2.2.2.2.2.2.2.2.2.1
theorem zCL.k17 {A : zN} {Y : gY} (h : zCL A Y) : (∀ h, h < A 0 0 2 → Y 5 0 (A 4 h 0) = nI (A 4 h 3)) := h.2.2.2.2.2.2.2.2.2.2.2.2.2.2.2.2.1
theorem zCL.k18 {A : zN} {Y : gY} (h : zCL A Y) : (∀ h, h < A 0 0 2 → Y 6 0 (A 4 h 0) = nI (A 4 h 5)) := h.2.2.2.2.2.2.2.2.2.2.2.2.2.2.2.2.2.1
theorem zCL.k19 {A : zN} {Y : gY} (h : zCL A Y) : (∀ q, (q < 320 ∨ A 0 0 5 = 0) → (∀ h, h < A 0 0 2 → A 4 h 0 ≠ q) → Y 6 0 q = 0) := h.2.2.2.2.2.2.2.2.2.2.2.2.2.2.2.2.2.2
theorem zRF.k1 {A : zN} {M S : gY} (h : zRF A M S) : M 11 0 1 = nI (A 0 0 0) := h.1
theorem zRF.k2 {A : zN} {M S : gY} (h : zRF A M S) : M 11 0 4 = nI (A 0 0 1) := h.2.1
theorem zRF.k3 {A : zN} {M S : gY} (h : zRF A M S) : S 20 0 19 = nI (A 0 0 2) := h.2.2.1
theorem zRF.k4 {A : zN} {M S : gY} (h : zRF A M S) : (∀ i, i < 6 → S 25 0 i = nI (A 1 i 0)) := h.2.2.2.1
theorem zRF.k5 {A : zN} {M S : gY} (h : zRF A M S) : (∀ i, i < A 0 0 3 → (A 1 i 0 = 1 ∨ A 1 i 0 = 2) → S 26 0 i = nI (A 1 i 1)) := h.2.2.2.2.1
theorem zRF.k6 {A : zN} {M S : gY} (h : zRF A M S) : (∀ i, i < A 0 0 3 → S 31 0 i = nI (A 1 i 2)) := h.2.2.2.2.2.1
theorem zRF.k7 {A : zN} {M S : gY} (h : zRF A M S) : (∀ i p, i < A 0 0 3 → p < A 1 i 2 → S 32 0 (8 * i + p) = nI (A 2 i p)) := h.2.2.2.2.2.2.1
theorem zRF.k8 {A : zN} {M S : gY} (h : zRF A M S) : (∀ i, i < A 0 0 0 → M 12 0 i = nI (A 1 i 4)) := h.2.2.2.2.2.2.2.1
theorem zRF.k9 {A : zN} {M S : gY} (h : zRF A M S) : (∀ i, i < A 0 0 3 → M 13 0 i = nI (A 1 i 5)) := h.2.2.2.2.2.2.2.2.1
theorem zRF.k10 {A : zN} {M S : gY} (h : zRF A M S) : (∀ i, i < A 0 0 3 → S 28 0 i = nI (A 1 i 6)) := h.2.2.2.2.2.2.2.2.2.1
theorem zRF.k11 {A : zN} {M S : gY} (h : zRF A M S) : (∀ j, j < A 0 0 4 → S 38 0 j = nI (A 3 j 2)) := h.2.2.2.2.2.2.2.2.2.2.1
theorem zRF.k12 {A : zN} {M S : gY} (h : zRF A M S) : (∀ j, j < A 0 0 1 → S 33 0 j = nI (A 3 j 0)) := h.2.2.2.2.2.2.2.2.2.2.2.1
theorem zRF.k13 {A : zN} {M S : gY} (h : zRF A M S) : (∀ j, j < A 0 0 1 → S 34 0 j = nI (A 3 j 1)) := h.2.2.2.2.2.2.2.2.2.2.2.2.1
theorem zRF.k14 {A : zN} {M S : gY} (h : zRF A M S) : (∀ j, j < A 0 0 1 → M 14 0 j = nI (A 4 (A 3 j 1) 3)) := h.2.2.2.2.2.2.2.2.2.2.2.2.2.1
theorem zRF.k15 {A : zN} {M S : gY} (h : zRF A M S) : (∀ h, h < A 0 0 2 → S 40 0 h = nI (A 4 h 3)) := h.2.2.2.2.2.2.2.2.2.2.2.2.2.2.1
theorem zRF.k16 {A : zN} {M S : gY} (h : zRF A M S) : (∀ h, h < A 0 0 2 → S 41 0 h = nI (A 4 h 4)) := h.2.2.2.2.2.2.2.2.2.2.2.2.2.2.2.1
theorem zRF.k17 {A : zN} {M S : gY} (h : zRF A M S) : (∀ h, h < A 0 0 2 → S 42 0 h = nI (A 4 h 0 / 32)) := h.2.2.2.2.2.2.2.2.2.2.2.2.2.2.2.2.1
theorem zRF.k18 {A : zN} {M S : gY} (h : zRF A M S) : (∀ h, h < A 0 0 2 → S 45 0 h = nI (A 4 h 5)) := h.2.2.2.2.2.2.2.2.2.2.2.2.2.2.2.2.2.1
theorem zRF.k19 {A : zN} {M S : gY} (h : zRF A M S) : (∀ h, h < A 0 0 2 → S 43 0 h = if A 4 h 0 % 32 = 1 then -1 else nI (A 4 h 1)) := h.2.2.2.2.2.2.2.2.2.2.2.2.2.2.2.2.2.2.1
theorem zRF.k20 {A : zN} {M S : gY} (h : zRF A M S) : (∀ h, h < A 0 0 2 → A 4 h 0 % 32 ≠ 1 → S 44 0 h = nI (A 4 h 2)) := h.2.2.2.2.2.2.2.2.2.2.2.2.2.2.2.2.2.2.2.1
theorem zRF.k21 {A : zN} {M S : gY} (h : zRF A M S) : S 20 0 1 = nI (zsm (fun i => A 1 i 6) (A 0 0 0)) := h.2.2.2.2.2.2.2.2.2.2.2.2.2.2.2.2.2.2.2.2.1
theorem zRF.k22 {A : zN} {M S : gY} (h : zRF A M S) : S 20 0 4 = nI (zsm (fun j => A 3 j 2) (A 0 0 1)) := h.2.2.2.2.2.2.2.2.2.2.2.2.2.2.2.2.2.2.2.2.2
theorem zEQ.k1 {ko : Nat} {A : zN} {Y M S : gY} (h : zEQ ko A Y M S) : Y 0 0 6 = S 20 0 0 := h.1
theorem zEQ.k2 {ko : Nat} {A : zN} {Y M S : gY} (h : zEQ ko A Y M S) : Y 0 0 8 = S 20 0 2 := h.2.1
theorem zEQ.k3 {ko : Nat} {A : zN} {Y M S : gY} (h : zEQ ko A Y M S) : Y 0 0 9 = S 20 0 3 := h.2.2.1
theorem zEQ.k4 {ko : Nat} {A : zN} {Y M S : gY} (h : zEQ ko A Y M S) : (∀ i, i < A 0 0 3 → i ≠ ko → Y 1 i 8 = S 27 0 i) := h.2.2.2.1
theorem zEQ.k5 {ko : Nat} {A : zN} {Y M S : gY} (h : zEQ ko A Y M S) : (∀ i, i < A 0 0 3 → Y 1 i 9 = S 30 0 i) := h.2.2.2.2.1
theorem zEQ.k6 {ko : Nat} {A : zN} {Y M S : gY} (h : zEQ ko A Y M S) : (∀ i, i < A 0 0 3 → Y 1 i 11 = S 29 0 i) := h.2.2.2.2.2.1
theorem zEQ.k7 {ko : Nat} {A : zN} {Y M S : gY} (h : zEQ ko A Y M S) : (∀ j, j < A 0 0 1 → Y 4 j 2 = M 15 0 j) := h.2.2.2.2.2.2.1
theorem zEQ.k8 {ko : Nat} {A : zN} {Y M S : gY} (h : zEQ ko A Y M S) : (∀ j, j < A 0 0 1 → Y 4 j 3 = S 35 0 j) := h.2.2.2.2.2.2.2.1
theorem zEQ.k9 {ko : Nat} {A : zN} {Y M S : gY} (h : zEQ ko A Y M S) : (∀ j, j < A 0 0 1 → Y 4 j 4 = S 36 0 j) := h.2.2.2.2.2.2.2.2.1
theorem zEQ.k10 {ko : Nat} {A : zN} {Y M S : gY} (h : zEQ ko A Y M S) : (∀ j, j < A 0 0 4 → Y 4 j 5 = S 37 0 j) := h.2.2.2.2.2.2.2.2.2.1
theorem zEQ.k11 {ko : Nat} {A : zN} {Y M S : gY} (h : zEQ ko A Y M S) : (∀ j, A 0 0 1 ≤ j → j < A 0 0 4 → Y 4 j 3 = -1 ∧ Y 4 j 4 = 1) := h.2.2.2.2.2.2.2.2.2.2.1
theorem zEQ.k12 {ko : Nat} {A : zN} {Y M S : gY} (h : zEQ ko A Y M S) : (ko < 6 → S 27 0 ko = 0) := h.2.2.2.2.2.2.2.2.2.2.2
theorem zIV.k1 {K : Nat} {A : zN} (h : zIV K A) : (A 0 0 0 ≤ A 0 0 3 ∧ A 0 0 3 ≤ 6 ∧ A 0 0 1 ≤ A 0 0 4 ∧ A 0 0 4 ≤ 10 ∧ 4 ≤ A 0 0 6 ∧ A 0 0 6 ≤ 60 ∧ A 0 0 2 ≤ 320 ∧ K ≤ 1000000) := h.1
theorem zIV.k2 {K : Nat} {A : zN} (h : zIV K A) : (∀ i, i < 6 → A 1 i 0 ≤ 3 ∧ A 1 i 2 ≤ 8 ∧ A 1 i 3 < 6 ∧ A 1 i 5 ≤ 2 ∧ A 1 i 6 ≤ K) := h.2.1
theorem zIV.k3 {K : Nat} {A : zN} (h : zIV K A) : (∀ i, i < A 0 0 0 → 1 ≤ A 1 i 4 ∧ A 1 i 4 ≤ 9) := h.2.2.1
theorem zIV.k4 {K : Nat} {A : zN} (h : zIV K A) : (∀ i, A 0 0 0 ≤ i → i < 6 → A 1 i 0 = 0 ∧ A 1 i 2 = 0 ∧ A 1 i 6 = 0) := h.2.2.2.1
theorem zIV.k5 {K : Nat} {A : zN} (h : zIV K A) : (∀ i i', i < 6 → i' < 6 → A 1 i 3 = A 1 i' 3 → i = i') := h.2.2.2.2.1
theorem zIV.k6 {K : Nat} {A : zN} (h : zIV K A) : (A 0 0 5 = 1 → ∀ i, i < 6 → A 1 i 3 = i) := h.2.2.2.2.2.1
theorem zIV.k7 {K : Nat} {A : zN} (h : zIV K A) : (∀ j, j < 10 → A 3 j 0 ≤ 2 ∧ A 3 j 2 ≤ 9 * K) := h.2.2.2.2.2.2.1
theorem zIV.k8 {K : Nat} {A : zN} (h : zIV K A) : (∀ j, A 0 0 1 ≤ j → j < 10 → A 3 j 0 = 0 ∧ A 3 j 2 = 0) := h.2.2.2.2.2.2.2.1
theorem zIV.k9 {K : Nat} {A : zN} (h : zIV K A) : (∀ i, i < 6 → (A 1 i 0 = 1 ∨ A 1 i 0 = 2) → A 1 i 1 < A 0 0 2) := h.2.2.2.2.2.2.2.2.1
theorem zIV.k10 {K : Nat} {A : zN} (h : zIV K A) : (∀ i p, i < 6 → p < A 1 i 2 → A 2 i p < A 0 0 2) := h.2.2.2.2.2.2.2.2.2.1
theorem zIV.k11 {K : Nat} {A : zN} (h : zIV K A) : (∀ j, j < A 0 0 1 → A 3 j 1 < A 0 0 2 ∧ A 4 (A 3 j 1) 0 = 32 * j + 1) := h.2.2.2.2.2.2.2.2.2.2.1
theorem zIV.k12 {K : Nat} {A : zN} (h : zIV K A) : (∀ h, h < A 0 0 2 → A 4 h 0 < 32 * A 0 0 1 ∧ 1 ≤ A 4 h 0 % 32 ∧ 1 ≤ A 4 h 3 ∧ A 4 h 3 ≤ zB (A 4 h 0 % 32) ∧ A 4 h 4 ≤ A 4 h 3 ∧ A 4 h 5 ≤ 1) := h.2.2.2.2.2.2.2.2.2.2.2.1
theorem zIV.k13 {K : Nat} {A : zN} (h : zIV K A) : (∀ h, h < A 0 0 2 → A 4 h 0 % 32 ≠ 1 → A 4 h 1 < A 0 0 2 ∧ A 4 h 2 < A 0 0 2 ∧ A 4 (A 4 h 1) 0 = A 4 h 0 - A 4 h 0 % 32 + A 4 h 0 % 32 / 2 ∧ A 4 (A 4 h 2) 0 = A 4 h 0 ^^^ 1) := h.2.2.2.2.2.2.2.2.2.2.2.2.1
theorem zIV.k14 {K : Nat} {A : zN} (h : zIV K A) : (∀ h h', h < A 0 0 2 → h' < A 0 0 2 → A 4 h 0 = A 4 h' 0 → h = h') := h.2.2.2.2.2.2.2.2.2.2.2.2.2.1
theorem zIV.k15 {K : Nat} {A : zN} (h : zIV K A) : (∀ i i', i < 6 → i' < 6 → A 1 i 0 = 1 → A 1 i' 0 = 1 → A 1 i 1 = A 1 i' 1 → i = i') := h.2.2.2.2.2.2.2.2.2.2.2.2.2.2.1
theorem zIV.k16 {K : Nat} {A : zN} (h : zIV K A) : (∀ i i' p, i < 6 → i' < 6 → A 1 i 0 = 1 → p < A 1 i' 2 → A 1 i 1 ≠ A 2 i' p) := h.2.2.2.2.2.2.2.2.2.2.2.2.2.2.2.1
theorem zIV.k17 {K : Nat} {A : zN} (h : zIV K A) : (∀ i j, i < 6 → j < A 0 0 1 → A 1 i 0 = 1 → A 3 j 0 = 0 → A 1 i 1 ≠ A 3 j 1) := h.2.2.2.2.2.2.2.2.2.2.2.2.2.2.2.2.1
theorem zIV.k18 {K : Nat} {A : zN} (h : zIV K A) : (∀ i i' p p', i < 6 → i' < 6 → p < A 1 i 2 → p' < A 1 i' 2 → A 2 i p = A 2 i' p' → i = i' ∧ p = p') := h.2.2.2.2.2.2.2.2.2.2.2.2.2.2.2.2.2.1
theorem zIV.k19 {K : Nat} {A : zN} (h : zIV K A) : (∀ i p j, i < 6 → j < A 0 0 1 → p < A 1 i 2 → A 3 j 0 = 0 → A 2 i p ≠ A 3 j 1) := h.2.2.2.2.2.2.2.2.2.2.2.2.2.2.2.2.2.2.1
theorem zIV.k20 {K : Nat} {A : zN} (h : zIV K A) : (∀ h i, h < A 0 0 2 → A 4 h 0 % 32 ≠ 1 → i < 6 → A 1 i 0 = 1 → A 1 i 1 ≠ A 4 h 1) := h.2.2.2.2.2.2.2.2.2.2.2.2.2.2.2.2.2.2.2.1
theorem zIV.k21 {K : Nat} {A : zN} (h : zIV K A) : (∀ h i p, h < A 0 0 2 → A 4 h 0 % 32 ≠ 1 → i < 6 → p < A 1 i 2 → A 2 i p ≠ A 4 h 1) := h.2.2.2.2.2.2.2.2.2.2.2.2.2.2.2.2.2.2.2.2.1
theorem zIV.k22 {K : Nat} {A : zN} (h : zIV K A) : (∀ h j, h < A 0 0 2 → A 4 h 0 % 32 ≠ 1 → j < A 0 0 1 → A 3 j 0 = 0 → A 3 j 1 ≠ A 4 h 1) := h.2.2.2.2.2.2.2.2.2.2.2.2.2.2.2.2.2.2.2.2.2.1
theorem zIV.k23 {K : Nat} {A : zN} (h : zIV K A) : (∀ i p, i < 6 → p < A 1 i 2 → A 4 (A 2 i p) 4 = A 4 (A 2 i p) 3) := h.2.2.2.2.2.2.2.2.2.2.2.2.2.2.2.2.2.2.2.2.2.2.1
theorem zIV.k24 {K : Nat} {A : zN} (h : zIV K A) : (∀ j, j < A 0 0 1 → A 3 j 0 = 0 → A 4 (A 3 j 1) 4 = A 4 (A 3 j 1) 3) := h.2.2.2.2.2.2.2.2.2.2.2.2.2.2.2.2.2.2.2.2.2.2.2
