/-! MORE OF THE STATE, for the law's own checks: what holds of A (the third reckoning) and of S, T the ghost's state at the minute's start, i whose turn it is, t the minute -/
theorem u3_skip (Y : gY) {t t' : Nat} (i j : Nat) (x : Int32) (h : t' ≠ t) : u3 Y t i j x t' = Y t' := by
  funext i' j'
  simp [u3, h]
theorem u3_skipj (Y : gY) {t t' i i' j j' : Nat} (x : Int32) (h : j' ≠ j) : u3 Y t i j x t' i' j' = Y t' i' j' := by
  simp [u3, h]
theorem u3_skipi (Y : gY) {t t' i i' j j' : Nat} (x : Int32) (h : i' ≠ i) : u3 Y t i j x t' i' j' = Y t' i' j' := by
  simp [u3, h]
theorem urow_skip (Y : gY) {t t' : Nat} (i : Nat) (g : Nat → Int32) (h : t' ≠ t) : urow Y t i g t' = Y t' := by
  funext i' j'
  simp [urow, h]
/-- a heap's number, on both sides -/
theorem zIV.g320 {K : Nat} {A : zN} (h : zIV K A) {q : Nat} (hq : q < A 0 0 2) : A 4 q 0 < 320 := by
  have h1 := h.k1
  have h2 := (h.k12 q hq).1
  omega
theorem zIV.q600 {K : Nat} {A : zN} (h : zIV K A) {q : Nat} (hq : q < A 0 0 2) : q < 320 := by
  have h1 := h.k1
  omega
/-- a heap in the hands isn't a load of the yard's -/
theorem zIV.held {K k : Nat} {A : zN} (hi : zIV K A) (hk : k < 6) (h0 : A 1 k 0 = 1) : A 4 (A 1 k 1) 0 % 32 = 1 → A 3 (A 4 (A 1 k 1) 0 / 32) 0 ≠ 0 := fun e z => by
  have hq := hi.k9 k hk (Or.inl h0)
  have h12 := (hi.k12 _ hq).1
  have hj : A 4 (A 1 k 1) 0 / 32 < A 0 0 1 := by omega
  have h11 := hi.k11 _ hj
  have e2 := hi.k14 (A 1 k 1) (A 3 (A 4 (A 1 k 1) 0 / 32) 1) hq h11.1 (by rw [h11.2]; omega)
  exact hi.k17 k _ hk hj h0 z e2
theorem zu3_eq {V : gY} {t i j : Nat} {x : Int32} {t' i' j' : Nat} : u3 V t i j x t' i' j' = if t' = t ∧ i' = i ∧ j' = j then x else V t' i' j' := rfl
theorem zurow_eq {V : gY} {t i : Nat} {g : Nat → Int32} {t' i' j' : Nat} : urow V t i g t' i' j' = if t' = t ∧ i' = i then g j' else V t' i' j' := rfl
def zfb (A : zN) (h : Nat) : Nat → Nat
  | 0 => 0
  | g + 1 => if A 4 g 0 % 32 ≠ 1 ∧ A 4 g 1 = h then 1 else zfb A h g
/-- is the heap forked -/
def zfk (A : zN) (h : Nat) : Nat := zfb A h (A 0 0 2)
theorem zfb_iff {A : zN} {h : Nat} : ∀ n, zfb A h n = 1 ↔ ∃ g, g < n ∧ A 4 g 0 % 32 ≠ 1 ∧ A 4 g 1 = h := by
  intro n
  induction n with
  | zero => exact ⟨fun q => absurd q (show ¬ (0 : Nat) = 1 by decide), fun ⟨g, q, _⟩ => absurd q (by omega)⟩
  | succ n ih =>
    simp only [zfb]
    by_cases e : A 4 n 0 % 32 ≠ 1 ∧ A 4 n 1 = h
    · rw [if_pos e]
      exact ⟨fun _ => ⟨n, by omega, e⟩, fun _ => rfl⟩
    · rw [if_neg e, ih]
      constructor
      · rintro ⟨g, a, b⟩
        exact ⟨g, by omega, b⟩
      · rintro ⟨g, a, b⟩
        by_cases z : g = n
        · subst z
          exact absurd b e
        · exact ⟨g, by omega, b⟩
theorem zfk_iff {A : zN} {h : Nat} : zfk A h = 1 ↔ ∃ g, g < A 0 0 2 ∧ A 4 g 0 % 32 ≠ 1 ∧ A 4 g 1 = h := zfb_iff _
theorem zfb_01 {A : zN} {h : Nat} : ∀ n, zfb A h n = 0 ∨ zfb A h n = 1 := by
  intro n
  induction n with
  | zero => exact Or.inl rfl
  | succ n ih =>
    simp only [zfb]
    split
    · exact Or.inr rfl
    · exact ih
theorem zfk_01 (A : zN) (h : Nat) : zfk A h = 0 ∨ zfk A h = 1 := zfb_01 _
theorem zfb_congr {A A' : zN} {h : Nat} : ∀ n, (∀ g, g < n → A' 4 g 0 = A 4 g 0 ∧ A' 4 g 1 = A 4 g 1) → zfb A' h n = zfb A h n := by
  intro n
  induction n with
  | zero => intro _; rfl
  | succ n ih =>
    intro q
    simp only [zfb]
    rw [(q n (by omega)).1, (q n (by omega)).2, ih (fun g hg => q g (by omega))]
theorem zfk_congr {A A' : zN} (h : Nat) (h2 : A' 0 0 2 = A 0 0 2) (q : ∀ g, A' 4 g 0 = A 4 g 0 ∧ A' 4 g 1 = A 4 g 1) : zfk A' h = zfk A h := by
  unfold zfk
  rw [h2]
  exact zfb_congr _ (fun g _ => q g)
theorem zsm_congr {f g : Nat → Nat} : ∀ n, (∀ i, i < n → f i = g i) → zsm f n = zsm g n := by
  intro n
  induction n with
  | zero => intro _; rfl
  | succ n ih => intro h; simp only [zsm]; rw [ih (fun i hi => h i (by omega)), h n (by omega)]
theorem zsm_one {f g : Nat → Nat} {q : Nat} : ∀ n, q < n → (∀ i, i < n → i ≠ q → f i = g i) → zsm f n + g q = zsm g n + f q := by
  intro n
  induction n with
  | zero => intro h _; omega
  | succ n ih =>
    intro h e
    simp only [zsm]
    by_cases z : n = q
    · subst z
      rw [zsm_congr n (fun i hi => e i (by omega) (by omega))]
      omega
    · have := ih (by omega) (fun i hi => e i (by omega))
      have := e n (by omega) z
      omega
def ssm (f : Nat → Int32) : Nat → Int32
  | 0 => 0
  | n + 1 => ssm f n + f n
theorem ssm_congr {f g : Nat → Int32} : ∀ n, (∀ i, i < n → f i = g i) → ssm f n = ssm g n := by
  intro n
  induction n with
  | zero => intro _; rfl
  | succ n ih => intro h; simp only [ssm]; rw [ih (fun i hi => h i (by omega)), h n (by omega)]
theorem ssm_one {f g : Nat → Int32} {q : Nat} {d : Int32} : ∀ n, q < n → (∀ i, i < n → i ≠ q → f i = g i) → f q = g q + d → ssm f n = ssm g n + d := by
  intro n
  induction n with
  | zero => intro h _; omega
  | succ n ih =>
    intro h e hd
    simp only [ssm]
    by_cases z : n = q
    · subst z
      rw [ssm_congr n (fun i hi => e i (by omega) (by omega)), hd, Int32.add_assoc]
    · rw [ih (by omega) (fun i hi => e i (by omega)) hd, e n (by omega) z, Int32.add_assoc, Int32.add_comm d, ← Int32.add_assoc]
def zLf (A : zN) (j : Nat) : Nat := zsm (fun h => if A 4 h 0 / 32 = j ∧ zfk A h = 0 then A 4 h 4 else 0) (A 0 0 2)
def zPt (A : zN) (j : Nat) : Nat := zsm (fun h => if A 4 h 0 / 32 = j then A 4 h 3 - A 4 h 4 else 0) (A 0 0 2)
def zPa (A : zN) : Nat := zsm (fun h => A 4 h 3 - A 4 h 4) (A 0 0 2)
def zMd (A : zN) (j : Nat) : Nat := zsm (fun h => if A 4 h 0 / 32 = j then 1 else 0) (A 0 0 2)
def zFo (A : zN) : Nat := zsm (zfk A) (A 0 0 2)
def zJo (A : zN) : Nat := zsm (fun h => if zfk A h = 1 ∧ A 4 h 5 = 1 then 1 else 0) (A 0 0 2)
def zg1 (A : zN) : Prop :=
  (∀ k, k < A 0 0 0 → A 1 k 0 = 1 → 0 < A 4 (A 1 k 1) 4) ∧
  (∀ h, h < A 0 0 2 → A 4 h 0 % 32 ≠ 1 → A 4 (A 4 h 1) 5 = 1 → A 4 h 5 = 1) ∧
  (∀ h, h < A 0 0 2 → A 4 h 5 = 1 → A 4 h 4 = 0 ∨ zfk A h = 1) ∧
  (∀ k, k < A 0 0 0 → A 1 k 0 = 2 → A 4 (A 1 k 1) 5 = 0 ∧ zfk A (A 1 k 1) = 1 ∧ ∀ g, g < A 0 0 2 → A 4 g 0 % 32 ≠ 1 → A 4 g 1 = A 1 k 1 → A 4 g 5 = 1) ∧
  (∀ k k', k < A 0 0 0 → k' < A 0 0 0 → A 1 k 0 = 2 → A 1 k' 0 = 2 → A 1 k 1 = A 1 k' 1 → k = k') ∧
  (∀ j, j < A 0 0 1 → A 3 j 0 = 0 → ∀ h, h < A 0 0 2 → A 4 h 0 / 32 = j → A 4 h 0 % 32 = 1) ∧
  (∀ j, j < A 0 0 1 → (A 3 j 0 = 2 ↔ A 4 (A 3 j 1) 5 = 1))
def zg2 (A : zN) : Prop :=
  (∀ j, j < A 0 0 1 → A 3 j 2 + zLf A j = A 4 (A 3 j 1) 3) ∧
  (∀ j, j < A 0 0 1 → zPt A j = A 3 j 2) ∧
  zPa A = zsm (fun j => A 3 j 2) (A 0 0 1)
def zg3 (e : Nat) (A : zN) (S : gY) : Prop :=
  S 20 0 3 = nI (zJo A + e) ∧
  S 20 0 2 = nI (zFo A) ∧
  (∀ j, j < A 0 0 1 → S 36 0 j = nI (zMd A j) ∧ zMd A j % 2 = 1) ∧
  ssm (fun j => S 36 0 j) (A 0 0 1) = nI (A 0 0 1) + 2 * S 20 0 2
def zg4 (A : zN) (S : gY) : Prop :=
  ssm (fun k => S 29 0 k) (A 0 0 0) = S 20 0 1 ∧
  ssm (fun j => S 37 0 j) (A 0 0 1) = S 20 0 1
def zg5 (i t : Nat) (A : zN) (M S : gY) : Prop :=
  S 20 0 0 = nI t ∧ ∀ j, j < A 0 0 1 → ∃ b, M 15 0 j = nI b ∧ b ≤ t ∧ (b = t → A 3 j 0 = 0 ∨ ∃ k, k < i ∧ k < A 0 0 0 ∧ A 1 k 0 = 1 ∧ A 1 k 1 = A 3 j 1) ∧ (A 3 j 0 ≠ 2 → S 35 0 j = -1) ∧ (A 3 j 0 = 2 → ∃ d, S 35 0 j = nI d ∧ b < d ∧ d ≤ t ∧ (i = 0 → d < t))
def zg6 (T : gY) (i : Nat) (A : zN) (S : gY) : Prop :=
  (∃ x, S 20 0 4 = T 20 0 4 + nI x ∧ x ≤ zsm (fun k => A 1 k 4) i) ∧
  ∀ k, k < A 0 0 0 → S 30 0 k = T 30 0 k ∨ (k < i ∧ S 30 0 k = T 30 0 k + 1 ∧ A 1 k 2 = 0 ∧ (A 1 k 0 = 0 ∨ A 1 k 0 = 3))
def zg (T : gY) (i t : Nat) (A : zN) (M S : gY) : Prop := zg1 A ∧ zg2 A ∧ zg3 0 A S ∧ zg4 A S ∧ zg5 i t A M S ∧ zg6 T i A S
/-- lad i is about to finish the heap q -/
def zgF (T : gY) (i t q : Nat) (A : zN) (M S : gY) : Prop := (zg1 A ∧ zg2 A ∧ zg3 (zfk A q) A S ∧ zg4 A S ∧ zg5 i t A M S ∧ zg6 T i A S) ∧
  A 4 q 5 = 0 ∧ (A 4 q 4 = 0 ∨ zfk A q = 1) ∧ (∀ g, g < A 0 0 2 → A 4 g 0 % 32 ≠ 1 → A 4 g 1 = q → A 4 g 5 = 1) ∧ (∀ k, k < A 0 0 0 → A 1 k 0 = 1 ∨ A 1 k 0 = 2 → A 1 k 1 ≠ q) ∧ (A 4 q 0 % 32 = 1 → A 3 (A 4 q 0 / 32) 0 ≠ 0)
/-- what the sums need not know -/
theorem zg_sums {A A' : zN} (h2 : A' 0 0 2 = A 0 0 2) (q0 : ∀ g, A' 4 g 0 = A 4 g 0) (q1 : ∀ g, A' 4 g 1 = A 4 g 1) (q3 : ∀ g, A' 4 g 3 = A 4 g 3) (q4 : ∀ g, A' 4 g 4 = A 4 g 4) : (∀ h, zfk A' h = zfk A h) ∧ (∀ j, zLf A' j = zLf A j) ∧ (∀ j, zPt A' j = zPt A j) ∧ zPa A' = zPa A ∧ (∀ j, zMd A' j = zMd A j) ∧ zFo A' = zFo A := by
  have f : ∀ h, zfk A' h = zfk A h := fun h => zfk_congr h h2 (fun g => ⟨q0 g, q1 g⟩)
  refine ⟨f, fun j => ?_, fun j => ?_, ?_, fun j => ?_, ?_⟩
  · unfold zLf
    simp only [h2, q0, q4, f]
  · unfold zPt
    simp only [h2, q0, q3, q4]
  · unfold zPa
    simp only [h2, q3, q4]
  · unfold zMd
    simp only [h2, q0]
  · unfold zFo
    rw [h2]
    exact zsm_congr _ (fun i _ => f i)
theorem zJo_congr {A A' : zN} (h2 : A' 0 0 2 = A 0 0 2) (q0 : ∀ g, A' 4 g 0 = A 4 g 0) (q1 : ∀ g, A' 4 g 1 = A 4 g 1) (q5 : ∀ g, A' 4 g 5 = A 4 g 5) : zJo A' = zJo A := by
  have f : ∀ h, zfk A' h = zfk A h := fun h => zfk_congr h h2 (fun g => ⟨q0 g, q1 g⟩)
  unfold zJo
  simp only [h2, q5, f]
theorem zg.up {T : gY} {i t : Nat} {A : zN} {M S : gY} (h : zg T i t A M S) : zg T (i + 1) t A M S := by
  obtain ⟨g1, g2, g3, g4, ⟨a, b⟩, ⟨⟨x, c1, c2⟩, d⟩⟩ := h
  refine ⟨g1, g2, g3, g4, ⟨a, fun j hj => ?_⟩, ⟨⟨x, c1, by simp only [zsm]; omega⟩, fun k hk => ?_⟩⟩
  · obtain ⟨b, b1, b2, b3, b4, b5⟩ := b j hj
    refine ⟨b, b1, b2, fun e => (b3 e).imp id (fun ⟨k, k1, k2⟩ => ⟨k, by omega, k2⟩), b4, fun e => ?_⟩
    obtain ⟨d, d1, d2, d3, d4⟩ := b5 e
    exact ⟨d, d1, d2, d3, fun q => by omega⟩
  · exact (d k hk).imp id (fun ⟨e1, e2⟩ => ⟨by omega, e2⟩)
