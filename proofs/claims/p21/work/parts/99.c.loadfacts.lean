/-! WHAT THE LAW CHECKS OF A LOAD -/
theorem zP_le {A : zN} {j : Nat} (g : zg2 A) (hj : j < A 0 0 1) : A 3 j 2 ≤ A 4 (A 3 j 1) 3 := by
  have := g.1 j hj
  omega
theorem zP_root {K j h : Nat} {A : zN} (hi : zIV K A) (hj : j < A 0 0 1) (hh : h < A 0 0 2) (e : A 4 h 0 / 32 = j) (r : A 4 h 0 % 32 = 1) : h = A 3 j 1 := by
  have h11 := hi.k11 j hj
  exact hi.k14 _ _ hh h11.1 (by rw [h11.2]; omega)
theorem zP_yard {K j : Nat} {A : zN} (hi : zIV K A) (g1 : zg1 A) (g : zg2 A) (hj : j < A 0 0 1) (hs : A 3 j 0 = 0) : A 3 j 2 = 0 ∧ zMd A j = 1 := by
  have h11 := hi.k11 j hj
  have h24 := hi.k24 j hj hs
  have only : ∀ h, h < A 0 0 2 → A 4 h 0 / 32 = j → h = A 3 j 1 := fun h hh e => zP_root hi hj hh e (g1.2.2.2.2.2.1 j hj hs h hh e)
  refine ⟨?_, ?_⟩
  · rw [← g.2.1 j hj]
    refine zsm_zero _ (fun h hh => ?_)
    by_cases e : A 4 h 0 / 32 = j
    · rw [if_pos e, only h hh e, h24]
      omega
    · rw [if_neg e]
  · have s := zsm_one (f := fun h => if A 4 h 0 / 32 = j then 1 else 0) (g := fun _ => 0) (A 0 0 2) h11.1 (fun h hh ne => if_neg (fun e => ne (only h hh e)))
    rw [zsm_zero (F := fun _ => 0) _ (fun _ _ => rfl)] at s
    simp only [h11.2] at s
    rw [if_pos (by omega)] at s
    unfold zMd
    omega
theorem zP_all {K j : Nat} {A : zN} (hi : zIV K A) (g1 : zg1 A) (hj : j < A 0 0 1) (hs : A 3 j 0 = 2) : ∀ p h, A 4 h 0 % 32 ≤ p → h < A 0 0 2 → A 4 h 0 / 32 = j → A 4 h 5 = 1 := by
  intro p
  induction p with
  | zero =>
    intro h hp hh e
    have := (hi.k12 h hh).2.1
    omega
  | succ p ih =>
    intro h hp hh e
    by_cases r : A 4 h 0 % 32 = 1
    · rw [zP_root hi hj hh e r]
      exact (g1.2.2.2.2.2.2 j hj).mp hs
    · have h13 := hi.k13 h hh r
      have h12 := (hi.k12 h hh).2.1
      exact g1.2.1 h hh r (ih (A 4 h 1) (by omega) h13.1 (by omega))
theorem zP_done {K j : Nat} {A : zN} (hi : zIV K A) (g1 : zg1 A) (g : zg2 A) (hj : j < A 0 0 1) (hs : A 3 j 0 = 2) : A 3 j 2 = A 4 (A 3 j 1) 3 := by
  rw [← g.1 j hj]
  have : zLf A j = 0 := by
    refine zsm_zero _ (fun h hh => ?_)
    by_cases e : A 4 h 0 / 32 = j ∧ zfk A h = 0
    · rw [if_pos e]
      have d := zP_all hi g1 hj hs _ h (Nat.le_refl _) hh e.1
      have c := g1.2.2.1 h hh d
      omega
    · rw [if_neg e]
  omega
/-- joinings are no more than forkings -/
theorem zsm_mono {f g : Nat → Nat} : ∀ n, (∀ i, i < n → f i ≤ g i) → zsm f n ≤ zsm g n := by
  intro n
  induction n with
  | zero => intro _; exact Nat.le_refl _
  | succ n ih =>
    intro h
    simp only [zsm]
    have := ih (fun i hi => h i (by omega))
    have := h n (by omega)
    omega
theorem zP_jf (A : zN) : zJo A ≤ zFo A := by
  refine zsm_mono _ (fun h _ => ?_)
  rcases zfk_01 A h with e | e
  · rw [e, if_neg (by omega)]
    exact Nat.le_refl _
  · rw [e]
    split <;> omega
/-- all loads done: as many joinings as forkings -/
theorem zP_jfd {K : Nat} {A : zN} (hi : zIV K A) (g1 : zg1 A) (hd : ∀ j, j < A 0 0 1 → A 3 j 0 = 2) : zJo A = zFo A := by
  refine zsm_congr _ (fun h hh => ?_)
  have h12 := (hi.k12 h hh).1
  have hj : A 4 h 0 / 32 < A 0 0 1 := by omega
  have d := zP_all hi g1 hj (hd _ hj) _ h (Nat.le_refl _) hh rfl
  rcases zfk_01 A h with e | e
  · rw [e, if_neg (by omega)]
  · rw [if_pos ⟨e, d⟩, e]
