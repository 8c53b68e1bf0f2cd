/-! BEHIND HOW MANY MINUTES: a minute later one less -/
def zU (x : Nat) (b : Int32) : Nat → Nat → gI → Int32
  | 0, i, J => if J 3 33 0 x = 2 then nI i else -1
  | n + 1, i, J => if J 3 33 0 x = 2 then nI i else zU x b n (i + 1) (f_X6_pass J 3 b)
theorem zU_all {x : Nat} {b : Int32} : ∀ (m : Nat) (i : Nat) (J : gI), zU x b m i J = -1 ∨ ∃ d, d ≤ m ∧ ∀ m' j, d ≤ m' → zU x b m' j J = nI (j + d) := by
  intro m
  induction m with
  | zero =>
    intro i J
    by_cases e : J 3 33 0 x = 2
    · exact Or.inr ⟨0, Nat.le_refl _, fun m' j _ => by cases m' <;> (simp only [zU]; rw [if_pos e]; rfl)⟩
    · exact Or.inl (by simp only [zU]; rw [if_neg e])
  | succ m ih =>
    intro i J
    by_cases e : J 3 33 0 x = 2
    · exact Or.inr ⟨0, Nat.zero_le _, fun m' j _ => by cases m' <;> (simp only [zU]; rw [if_pos e]; rfl)⟩
    · rcases ih (i + 1) (f_X6_pass J 3 b) with h | ⟨d, h1, h2⟩
      · exact Or.inl (by simp only [zU]; rw [if_neg e]; exact h)
      · refine Or.inr ⟨d + 1, by omega, fun m' j hm => ?_⟩
        obtain ⟨m'', rfl⟩ : ∃ q, m' = q + 1 := ⟨m' - 1, by omega⟩
        simp only [zU]
        rw [if_neg e, h2 m'' (j + 1) (by omega)]
        congr 1
        omega
theorem zU_0 {x M : Nat} {b : Int32} {J : gI} (hM : M < 1000 + 1) : zU x b M 0 J = 0 ↔ J 3 33 0 x = 2 := by
  by_cases e : J 3 33 0 x = 2
  · refine ⟨fun _ => e, fun _ => ?_⟩
    cases M <;> (simp only [zU]; rw [if_pos e]; rfl)
  · refine ⟨fun q => ?_, fun q => absurd q e⟩
    exfalso
    rcases zU_all (x := x) (b := b) M 0 J with h | ⟨d, h1, h2⟩
    · rw [h] at q
      exact absurd q (by decide)
    · rw [h2 M 0 h1] at q
      have d0 : d = 0 := by
        rcases Nat.eq_zero_or_pos d with z | z
        · exact z
        · exact absurd q (nI_ne0 (by omega) (by omega))
      have := h2 0 0 (by omega)
      rw [d0] at this
      simp only [zU] at this
      rw [if_neg e] at this
      exact absurd this (by decide)
theorem zU_next {x M : Nat} {b : Int32} {J : gI} (hM : M < 1000) (hp : 0 < zU x b (M + 1) 0 J) : zU x b (M + 1) 0 (f_X6_pass J 3 b) = zU x b (M + 1) 0 J - 1 := by
  by_cases e : J 3 33 0 x = 2
  · have := (zU_0 (x := x) (b := b) (J := J) (show M + 1 < 1000 + 1 by omega)).mpr e
    rw [this] at hp
    exact absurd hp (by decide)
  · have u : zU x b (M + 1) 0 J = zU x b M 1 (f_X6_pass J 3 b) := by
      show (if J 3 33 0 x = 2 then nI 0 else zU x b M (0 + 1) (f_X6_pass J 3 b)) = _
      rw [if_neg e]
    rcases zU_all (x := x) (b := b) M 1 (f_X6_pass J 3 b) with h | ⟨d, h1, h2⟩
    · rw [u, h] at hp
      exact absurd hp (by decide)
    · rw [u, h2 M 1 h1, h2 (M + 1) 0 (by omega), Nat.add_comm 1 d, zc_sub1 (by omega)]
      congr 1
      omega
theorem zT_zU {x : Nat} (hx10 : x < 10) : ∀ (m i K : Nat) (A : zN) (I J : gI), zR 6 K A (I 1) (J 2) (J 3) → wf (I 1) → x < A 0 0 1 → K + 6 * (m + 1) ≤ 1000000 → f_X4_until_l1_v (nI x) m i I = zU x (nI (A 0 0 6)) m i J := by
  have cx : (nI x).toNatClampNeg = x := nI_clamp (by omega)
  intro m
  induction m with
  | zero =>
    intro i K A I J h hw hx hK
    have h1 := h.2.2.2.k1
    have e : I 1 4 x 1 = J 3 33 0 x := by rw [h.1.k14 x (by omega), h.2.1.k12 x hx]
    simp only [f_X4_until_l1_v, zU, cx, e]
  | succ m ih =>
    intro i K A I J h hw hx hK
    have h1 := h.2.2.2.k1
    have e : I 1 4 x 1 = J 3 33 0 x := by rw [h.1.k14 x (by omega), h.2.1.k12 x hx]
    obtain ⟨a1, ⟨A', a2, a3, -⟩, a4⟩ := zT_run (y := 1) (z := 3) (m := 1) (by decide) (Or.inl rfl) h hw (by decide) (by omega)
    have ep : f_X6_passAll_s J 3 (nI 1) (nI (A 0 0 6)) = f_X6_pass J 3 (nI (A 0 0 6)) := rfl
    rw [ep] at a3
    have J2 : f_X6_pass J 3 (nI (A 0 0 6)) 2 = J 2 := ne_X6_pass _ _ _ (Or.inl rfl) (by decide)
    rw [← J2] at a3
    have g := ih (i + 1) (K + 6 * 1) A' (f_X3_runMinutes I 1 (nI 1)) (f_X6_pass J 3 (nI (A 0 0 6))) a3 a4 (by rw [a2 1 (by decide)]; exact hx) (by omega)
    rw [a2 6 (by decide)] at g
    simp only [f_X4_until_l1_v, zU, cx, e]
    rw [← g]
    rfl
