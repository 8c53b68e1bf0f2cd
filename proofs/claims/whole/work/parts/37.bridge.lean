/-! THE BRIDGE: the cells that the constructors made are the world GW -/
def adr (N y t i : Nat) : Nat := if y < 2 then N + 1 + 33 * y + (match t with
  | 0 => 0
  | 7 => 1
  | 8 => 2
  | 5 => 3
  | 6 => 4
  | 1 => 5 + 3 * i
  | 2 => 6 + 3 * i
  | 3 => 7 + 3 * i
  | _ => 23 + i) else if y = 2 then (if t = 10 then N else if t = 11 then N + 67 else if t = 16 then N + 114 else N + 56 + t) else N + 72 + 21 * (y - 3) + (if t = 20 then 0 else if t < 39 then t - 24 else t - 25)
def gE0 (D : va_G) (Tk : Nat → ClassId) (N : Nat) : gE := (D, Tk, adr N, N)
def gI0 : gI := fun y t i j => if y < 2 then (match t with
  | 0 => if j = 7 then 10 else 0
  | 1 => if j = 0 ∨ j = 3 then nI i else if j = 4 ∨ j = 6 then -1 else 0
  | 4 => if j = 3 then -1 else if j = 4 then 1 else 0
  | _ => 0) else if y = 2 ∧ t = 11 ∧ j = 7 then 10 else 0
theorem gv_ind {P : Nat → Nat → Nat → Prop} (h0 : ∀ y, y < 2 → P y 0 0) (h5 : ∀ y, y < 2 → P y 5 0) (h6 : ∀ y, y < 2 → P y 6 0) (h7 : ∀ y, y < 2 → P y 7 0) (h8 : ∀ y, y < 2 → P y 8 0) (h1 : ∀ y i, y < 2 → i < 6 → P y 1 i) (h2 : ∀ y i, y < 2 → i < 6 → P y 2 i) (h3 : ∀ y i, y < 2 → i < 6 → P y 3 i) (h4 : ∀ y i, y < 2 → i < 10 → P y 4 i)
    (h10 : ∀ t, 10 ≤ t → t ≤ 16 → P 2 t 0) (h20 : ∀ y, y = 3 ∨ y = 4 → P y 20 0) (hr : ∀ y t, y = 3 ∨ y = 4 → (25 ≤ t ∧ t ≤ 38) ∨ (40 ≤ t ∧ t ≤ 45) → P y t 0) : ∀ y t i, gv y t i = true → P y t i := by
  intro y t i h
  unfold gv at h
  simp only [Bool.or_eq_true, Bool.and_eq_true, decide_eq_true_eq] at h
  rcases h with (⟨hy, h⟩ | ⟨⟨⟨hy, hi⟩, ha⟩, hb⟩) | ⟨⟨hy, hi⟩, h⟩
  · rcases h with (⟨hi, h⟩ | ⟨h, hi⟩) | ⟨h, hi⟩
    · subst hi
      rcases h with (((h | h) | h) | h) | h <;> subst h
      · exact h0 y hy
      · exact h5 y hy
      · exact h6 y hy
      · exact h7 y hy
      · exact h8 y hy
    · rcases h with (h | h) | h <;> subst h
      · exact h1 y i hy hi
      · exact h2 y i hy hi
      · exact h3 y i hy hi
    · subst h
      exact h4 y i hy hi
  · subst hy; subst hi
    exact h10 t ha hb
  · subst hi
    rcases h with (h | h) | h
    · subst h
      exact h20 y hy
    · exact hr y t hy (Or.inl h)
    · exact hr y t hy (Or.inr h)
def adk : List (Nat × Nat × Nat) := (List.range 2).flatMap (fun y => [(y, 0, 0), (y, 5, 0), (y, 6, 0), (y, 7, 0), (y, 8, 0)] ++ (List.range 6).flatMap (fun i => [(y, 1, i), (y, 2, i), (y, 3, i)]) ++ (List.range 10).map (fun i => (y, 4, i))) ++ (List.range 17).map (fun t => (2, t, 0)) ++ [3, 4].flatMap (fun y => (List.range 46).map (fun t => (y, t, 0)))
def adf (n : Nat) : Option (Nat × Nat × Nat) := adk.find? (fun k => gv k.1 k.2.1 k.2.2 && adr 0 k.1 k.2.1 k.2.2 == n)
theorem adf_ok : ∀ y t i, gv y t i = true → adf (adr 0 y t i) = some (y, t, i) := by
  refine gv_ind (by decide +kernel) (by decide +kernel) (by decide +kernel) (by decide +kernel) (by decide +kernel) ?_ ?_ ?_ ?_ ?_ ?_ ?_
  · have h : ∀ y, y < 2 → ∀ i, i < 6 → adf (adr 0 y 1 i) = some (y, 1, i) := by decide +kernel
    exact fun y i a b => h y a i b
  · have h : ∀ y, y < 2 → ∀ i, i < 6 → adf (adr 0 y 2 i) = some (y, 2, i) := by decide +kernel
    exact fun y i a b => h y a i b
  · have h : ∀ y, y < 2 → ∀ i, i < 6 → adf (adr 0 y 3 i) = some (y, 3, i) := by decide +kernel
    exact fun y i a b => h y a i b
  · have h : ∀ y, y < 2 → ∀ i, i < 10 → adf (adr 0 y 4 i) = some (y, 4, i) := by decide +kernel
    exact fun y i a b => h y a i b
  · have h : ∀ t, t < 17 → 10 ≤ t → adf (adr 0 2 t 0) = some (2, t, 0) := by decide +kernel
    exact fun t a b => h t (by omega) a
  · rintro y (rfl | rfl) <;> decide +kernel
  · have h1 : ∀ t, t < 39 → 25 ≤ t → adf (adr 0 3 t 0) = some (3, t, 0) := by decide +kernel
    have h2 : ∀ t, t < 46 → 40 ≤ t → adf (adr 0 3 t 0) = some (3, t, 0) := by decide +kernel
    have h3 : ∀ t, t < 39 → 25 ≤ t → adf (adr 0 4 t 0) = some (4, t, 0) := by decide +kernel
    have h4 : ∀ t, t < 46 → 40 ≤ t → adf (adr 0 4 t 0) = some (4, t, 0) := by decide +kernel
    rintro y t (rfl | rfl) (ht | ht)
    · exact h1 t (by omega) ht.1
    · exact h2 t (by omega) ht.1
    · exact h3 t (by omega) ht.1
    · exact h4 t (by omega) ht.1
theorem adr_N (N y t i : Nat) : adr N y t i = N + adr 0 y t i := by
  unfold adr
  repeat' split
  all_goals omega
theorem adr_inj (N : Nat) : ∀ y t i y' t' i', gv y t i = true → gv y' t' i' = true → adr N y t i = adr N y' t' i' → y = y' ∧ t = t' ∧ i = i' := by
  intro y t i y' t' i' h h' he
  rw [adr_N, adr_N N y'] at he
  have h1 := adf_ok y t i h
  have h2 := adf_ok y' t' i' h'
  rw [show adr 0 y t i = adr 0 y' t' i' by omega, h2] at h1
  have h3 := Option.some.inj h1
  simp only [Prod.mk.injEq] at h3
  exact ⟨h3.1.symm, h3.2.1.symm, h3.2.2.symm⟩
theorem adr_ge (N : Nat) (y t i : Nat) : N ≤ adr N y t i := by
  unfold adr
  repeat' split
  all_goals omega
theorem br_obj {D : va_G} {a h k ci q : Nat} {x : va_E} {es : List va_E} {H : Heap} {vs : List Value} {r : vw_C} {V : Nat → Value} (C : CW D a x h es H) (hk : es[k]? = some (.inr (ci, vs))) (hq : q = h + k) (hc : vwCl[ci]? = some r) (hV : vs = (List.range r.2.2).map V) : ∃ r, vwCl[ci]? = some r ∧ t_OB q (D.1 ci) r.2.2 (D.2 ci) H V := by
  obtain ⟨r', h1, h2⟩ := C.2.2.1 k _ hk
  obtain rfl : r' = r := Option.some.inj (h1.symm.trans hc)
  subst hq
  refine ⟨r', h1, h2.to (fun j hj => ?_)⟩
  show vp_V vs j = V j
  rw [hV]
  unfold vp_V
  simp [hj]
theorem br_arr {D : va_G} {a h k q n : Nat} {x : va_E} {es : List va_E} {H : Heap} {cA : ClassId} {a0 : vp_A} {V : Nat → Value} (C : CW D a x h es H) (hk : es[k]? = some (.inl (cA, a0))) (hq : q = h + k) (hV : vp_cell cA a0 = arrV cA n V) : H[q]? = some (arrV cA n V) := by
  have h1 : H[h + k]? = some (vp_cell cA a0) := C.2.2.1 k _ hk
  rw [hq, h1, hV]
theorem gok0 (D : va_G) (Tk : Nat → ClassId) (N : Nat) : gok (gE0 D Tk N) := ⟨adr_inj N, fun y t i _ => adr_ge N y t i⟩
