/-! THE RELATION of a class's yard Y, the model's numbers M and a model's state S, by a third reckoning A in naturals:
A 0 0: 0 lads, 1 loads, 2 heaps, 3 lads spoken of, 4 loads spoken of, 5 is it the trial, 6 the fork size;
A 1 i (lads): 0 does, 1 held, 2 heaps in the cart, 3 the cart, 4 strength, 5 way, 6 thefts; A 2 i p: the heap at place p from the near end;
A 3 j (loads): 0 stands, 1 heap, 2 pitched; A 4 h (heaps, by the model's numbers): 0 the class's number, 1 whole, 2 mate, 3 bales, 4 left, 5 done. -/
abbrev zN : Type := Nat → Nat → Nat → Nat
def zu (A : zN) (t i j x : Nat) : zN := fun t' i' j' => if t' = t ∧ i' = i ∧ j' = j then x else A t' i' j'
def zsm (f : Nat → Nat) : Nat → Nat
  | 0 => 0
  | n + 1 => zsm f n + f n
def zB (p : Nat) : Nat := if p < 2 then 60 else if p < 4 then 30 else if p < 8 then 15 else if p < 16 then 8 else 4
def zCL (A : zN) (Y : gY) : Prop :=
  Y 0 0 4 = nI (A 0 0 0) ∧
  Y 0 0 5 = nI (A 0 0 1) ∧
  Y 0 0 7 = nI (A 0 0 6) ∧
  (∀ i, i < 6 → Y 1 i 3 = nI (A 1 i 3)) ∧
  (∀ i, i < A 0 0 3 → Y 2 (A 1 i 3) 1 = nI (A 1 i 2)) ∧
  (∀ i q, i < A 0 0 3 → q < A 1 i 2 → Y 3 (A 1 i 3) q = nI (A 4 (A 2 i (A 1 i 2 - 1 - q)) 0)) ∧
  (∀ i, i < A 0 0 3 → Y 1 i 4 = if A 1 i 0 = 1 then nI (A 4 (A 1 i 1) 0) else -1) ∧
  (∀ i, i < A 0 0 3 → Y 1 i 5 = if A 1 i 0 = 1 then nI (A 4 (A 1 i 1) 4) else 0) ∧
  (∀ i, i < A 0 0 3 → Y 1 i 6 = if A 1 i 0 = 2 then nI (A 4 (A 1 i 1) 0) else -1) ∧
  (∀ i, i < A 0 0 3 → Y 1 i 7 = if A 1 i 0 = 3 then 1 else 0) ∧
  (∀ i, i < A 0 0 3 → Y 1 i 2 = nI (A 1 i 5)) ∧
  (∀ i, i < A 0 0 0 → Y 1 i 1 = nI (A 1 i 4)) ∧
  (∀ i, i < A 0 0 3 → Y 1 i 10 = nI (A 1 i 6)) ∧
  (∀ j, j < A 0 0 4 → Y 4 j 1 = nI (A 3 j 0)) ∧
  (∀ j, j < A 0 0 4 → Y 4 j 6 = nI (A 3 j 2)) ∧
  (∀ j, j < A 0 0 1 → Y 4 j 0 = nI (A 4 (A 3 j 1) 3)) ∧
  (∀ h, h < A 0 0 2 → Y 5 0 (A 4 h 0) = nI (A 4 h 3)) ∧
  (∀ h, h < A 0 0 2 → Y 6 0 (A 4 h 0) = nI (A 4 h 5)) ∧
  (∀ q, (q < 320 ∨ A 0 0 5 = 0) → (∀ h, h < A 0 0 2 → A 4 h 0 ≠ q) → Y 6 0 q = 0)
def zRF (A : zN) (M S : gY) : Prop :=
  M 11 0 1 = nI (A 0 0 0) ∧
  M 11 0 4 = nI (A 0 0 1) ∧
  S 20 0 19 = nI (A 0 0 2) ∧
  (∀ i, i < 6 → S 25 0 i = nI (A 1 i 0)) ∧
  (∀ i, i < A 0 0 3 → (A 1 i 0 = 1 ∨ A 1 i 0 = 2) → S 26 0 i = nI (A 1 i 1)) ∧
  (∀ i, i < A 0 0 3 → S 31 0 i = nI (A 1 i 2)) ∧
  (∀ i p, i < A 0 0 3 → p < A 1 i 2 → S 32 0 (8 * i + p) = nI (A 2 i p)) ∧
  (∀ i, i < A 0 0 0 → M 12 0 i = nI (A 1 i 4)) ∧
  (∀ i, i < A 0 0 3 → M 13 0 i = nI (A 1 i 5)) ∧
  (∀ i, i < A 0 0 3 → S 28 0 i = nI (A 1 i 6)) ∧
  (∀ j, j < A 0 0 4 → S 38 0 j = nI (A 3 j 2)) ∧
  (∀ j, j < A 0 0 1 → S 33 0 j = nI (A 3 j 0)) ∧
  (∀ j, j < A 0 0 1 → S 34 0 j = nI (A 3 j 1)) ∧
  (∀ j, j < A 0 0 1 → M 14 0 j = nI (A 4 (A 3 j 1) 3)) ∧
  (∀ h, h < A 0 0 2 → S 40 0 h = nI (A 4 h 3)) ∧
  (∀ h, h < A 0 0 2 → S 41 0 h = nI (A 4 h 4)) ∧
  (∀ h, h < A 0 0 2 → S 42 0 h = nI (A 4 h 0 / 32)) ∧
  (∀ h, h < A 0 0 2 → S 45 0 h = nI (A 4 h 5)) ∧
  (∀ h, h < A 0 0 2 → S 43 0 h = if A 4 h 0 % 32 = 1 then -1 else nI (A 4 h 1)) ∧
  (∀ h, h < A 0 0 2 → A 4 h 0 % 32 ≠ 1 → S 44 0 h = nI (A 4 h 2)) ∧
  S 20 0 1 = nI (zsm (fun i => A 1 i 6) (A 0 0 0)) ∧
  S 20 0 4 = nI (zsm (fun j => A 3 j 2) (A 0 0 1))
/-- what both sides hold alike; ko: a lad whose idle minutes in a row are not spoken of -/
def zEQ (ko : Nat) (A : zN) (Y M S : gY) : Prop :=
  Y 0 0 6 = S 20 0 0 ∧
  Y 0 0 8 = S 20 0 2 ∧
  Y 0 0 9 = S 20 0 3 ∧
  (∀ i, i < A 0 0 3 → i ≠ ko → Y 1 i 8 = S 27 0 i) ∧
  (∀ i, i < A 0 0 3 → Y 1 i 9 = S 30 0 i) ∧
  (∀ i, i < A 0 0 3 → Y 1 i 11 = S 29 0 i) ∧
  (∀ j, j < A 0 0 1 → Y 4 j 2 = M 15 0 j) ∧
  (∀ j, j < A 0 0 1 → Y 4 j 3 = S 35 0 j) ∧
  (∀ j, j < A 0 0 1 → Y 4 j 4 = S 36 0 j) ∧
  (∀ j, j < A 0 0 4 → Y 4 j 5 = S 37 0 j) ∧
  (∀ j, A 0 0 1 ≤ j → j < A 0 0 4 → Y 4 j 3 = -1 ∧ Y 4 j 4 = 1) ∧
  (ko < 6 → S 27 0 ko = 0)
def zIV (K : Nat) (A : zN) : Prop :=
  (A 0 0 0 ≤ A 0 0 3 ∧ A 0 0 3 ≤ 6 ∧ A 0 0 1 ≤ A 0 0 4 ∧ A 0 0 4 ≤ 10 ∧ 4 ≤ A 0 0 6 ∧ A 0 0 6 ≤ 60 ∧ A 0 0 2 ≤ 320 ∧ K ≤ 1000000) ∧
  (∀ i, i < 6 → A 1 i 0 ≤ 3 ∧ A 1 i 2 ≤ 8 ∧ A 1 i 3 < 6 ∧ A 1 i 5 ≤ 2 ∧ A 1 i 6 ≤ K) ∧
  (∀ i, i < A 0 0 0 → 1 ≤ A 1 i 4 ∧ A 1 i 4 ≤ 9) ∧
  (∀ i, A 0 0 0 ≤ i → i < 6 → A 1 i 0 = 0 ∧ A 1 i 2 = 0 ∧ A 1 i 6 = 0) ∧
  (∀ i i', i < 6 → i' < 6 → A 1 i 3 = A 1 i' 3 → i = i') ∧
  (A 0 0 5 = 1 → ∀ i, i < 6 → A 1 i 3 = i) ∧
  (∀ j, j < 10 → A 3 j 0 ≤ 2 ∧ A 3 j 2 ≤ 9 * K) ∧
  (∀ j, A 0 0 1 ≤ j → j < 10 → A 3 j 0 = 0 ∧ A 3 j 2 = 0) ∧
  (∀ i, i < 6 → (A 1 i 0 = 1 ∨ A 1 i 0 = 2) → A 1 i 1 < A 0 0 2) ∧
  (∀ i p, i < 6 → p < A 1 i 2 → A 2 i p < A 0 0 2) ∧
  (∀ j, j < A 0 0 1 → A 3 j 1 < A 0 0 2 ∧ A 4 (A 3 j 1) 0 = 32 * j + 1) ∧
  (∀ h, h < A 0 0 2 → A 4 h 0 < 32 * A 0 0 1 ∧ 1 ≤ A 4 h 0 % 32 ∧ 1 ≤ A 4 h 3 ∧ A 4 h 3 ≤ zB (A 4 h 0 % 32) ∧ A 4 h 4 ≤ A 4 h 3 ∧ A 4 h 5 ≤ 1) ∧
  (∀ h, h < A 0 0 2 → A 4 h 0 % 32 ≠ 1 → A 4 h 1 < A 0 0 2 ∧ A 4 h 2 < A 0 0 2 ∧ A 4 (A 4 h 1) 0 = A 4 h 0 - A 4 h 0 % 32 + A 4 h 0 % 32 / 2 ∧ A 4 (A 4 h 2) 0 = A 4 h 0 ^^^ 1) ∧
  (∀ h h', h < A 0 0 2 → h' < A 0 0 2 → A 4 h 0 = A 4 h' 0 → h = h') ∧
  (∀ i i', i < 6 → i' < 6 → A 1 i 0 = 1 → A 1 i' 0 = 1 → A 1 i 1 = A 1 i' 1 → i = i') ∧
  (∀ i i' p, i < 6 → i' < 6 → A 1 i 0 = 1 → p < A 1 i' 2 → A 1 i 1 ≠ A 2 i' p) ∧
  (∀ i j, i < 6 → j < A 0 0 1 → A 1 i 0 = 1 → A 3 j 0 = 0 → A 1 i 1 ≠ A 3 j 1) ∧
  (∀ i i' p p', i < 6 → i' < 6 → p < A 1 i 2 → p' < A 1 i' 2 → A 2 i p = A 2 i' p' → i = i' ∧ p = p') ∧
  (∀ i p j, i < 6 → j < A 0 0 1 → p < A 1 i 2 → A 3 j 0 = 0 → A 2 i p ≠ A 3 j 1) ∧
  (∀ h i, h < A 0 0 2 → A 4 h 0 % 32 ≠ 1 → i < 6 → A 1 i 0 = 1 → A 1 i 1 ≠ A 4 h 1) ∧
  (∀ h i p, h < A 0 0 2 → A 4 h 0 % 32 ≠ 1 → i < 6 → p < A 1 i 2 → A 2 i p ≠ A 4 h 1) ∧
  (∀ h j, h < A 0 0 2 → A 4 h 0 % 32 ≠ 1 → j < A 0 0 1 → A 3 j 0 = 0 → A 3 j 1 ≠ A 4 h 1) ∧
  (∀ i p, i < 6 → p < A 1 i 2 → A 4 (A 2 i p) 4 = A 4 (A 2 i p) 3) ∧
  (∀ j, j < A 0 0 1 → A 3 j 0 = 0 → A 4 (A 3 j 1) 4 = A 4 (A 3 j 1) 3)
def zR (ko K : Nat) (A : zN) (Y M S : gY) : Prop := zCL A Y ∧ zRF A M S ∧ zEQ ko A Y M S ∧ zIV K A
