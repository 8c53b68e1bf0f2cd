/-! FROM WHOM: a rank tells it, of the class and of the Sim -/
def zrank (A : zN) (k o : Nat) : Nat := if A 1 k 5 = 0 then A 0 0 0 - (o + A 0 0 0 - k) % A 0 0 0 else zrk A k o
def zval (A : zN) (k o : Nat) : Prop := o < A 0 0 0 ∧ o ≠ k ∧ 0 < A 1 o 2
def zbest (A : zN) (k : Nat) (x : Int32) : Prop := (x = -1 ∧ ∀ o, ¬ zval A k o) ∨ ∃ v, zval A k v ∧ x = nI v ∧ ∀ o, zval A k o → zrank A k o < zrank A k v ∨ (zrank A k o = zrank A k v ∧ v ≤ o)
theorem zbest_one {A : zN} {k : Nat} {x y : Int32} (h : zbest A k x) (g : zbest A k y) : x = y := by
  rcases h with ⟨h1, h2⟩ | ⟨v, h1, h2, h3⟩
  · rcases g with ⟨g1, g2⟩ | ⟨w, g1, g2, g3⟩
    · rw [h1, g1]
    · exact absurd g1 (h2 w)
  · rcases g with ⟨g1, g2⟩ | ⟨w, g1, g2, g3⟩
    · exact absurd h1 (g2 v)
    · have a := h3 w g1
      have b := g3 v h1
      have : v = w := by omega
      rw [h2, g2, this]
theorem zrank_le {K k o : Nat} {A : zN} (hi : zIV K A) (hk : k < A 0 0 0) (ho : zval A k o) : 1 ≤ zrank A k o ∧ zrank A k o ≤ 60 := by
  have h1 := hi.k1
  have h2 := hi.k2 o (by have := ho.1; omega)
  unfold zrank
  by_cases e : A 1 k 5 = 0
  · rw [if_pos e]
    have := Nat.mod_lt (o + A 0 0 0 - k) (show 0 < A 0 0 0 by omega)
    omega
  · rw [if_neg e]
    unfold zrk
    by_cases w : A 1 k 5 = 1
    · rw [if_pos w]
      have := ho.2.2
      omega
    · rw [if_neg w]
      have hq := hi.k10 o (A 1 o 2 - 1) (by have := ho.1; omega) (by have := ho.2.2; omega)
      have h12 := hi.k12 _ hq
      have h60 := zB_le (A 4 (A 2 o (A 1 o 2 - 1)) 0 % 32)
      omega
/-- the Sim's loop, a step -/
theorem zs_vstep {L K k z : Nat} {A : zN} {I J : gI} (hr : zRF A (J 2) (J z)) (hi : zIV K A) (h : sR L (A 0 0 0) (A 0 0 1) (I 5) (J 2) (J z)) (hk : k < A 0 0 0) (hL : L < 300) (n i : Nat) (a b : Int32) (hn : n < A 0 0 0) :
    f_S_victim_l1 k (n + 1) i a b I = (if n = k ∨ A 1 n 2 = 0 then f_S_victim_l1 k n (i + 1) a b I else if b ≤ nI (zrank A k n) then f_S_victim_l1 k n (i + 1) (nI n) (nI (zrank A k n)) I else f_S_victim_l1 k n (i + 1) a b I) ∧
    ((n = k ∨ A 1 n 2 = 0 → ok_f_S_victim_l1 k n (i + 1) a b I) → (¬ (n = k ∨ A 1 n 2 = 0) → (b ≤ nI (zrank A k n) → ok_f_S_victim_l1 k n (i + 1) (nI n) (nI (zrank A k n)) I) ∧ (¬ b ≤ nI (zrank A k n) → ok_f_S_victim_l1 k n (i + 1) a b I)) → ok_f_S_victim_l1 k (n + 1) i a b I) := by
  have h1 := hi.k1
  have h2 := hi.k2 n (by omega)
  have h2k := hi.k2 k (by omega)
  have c := h.c (by omega) (by omega) (by omega)
  have w := h.k3 n hn
  have wk := h.k3 k hk
  have hNc : (J z 20 0 19).toNatClampNeg = A 0 0 2 := by rw [hr.k3, nI_clamp (by omega)]
  have hrl : rln (I 5) 3 n = A 1 n 2 := by
    show (I 5 6 n 0).toNatClampNeg = _
    rw [w.2.2.2.2.2.2.2, hr.k6 n (by omega), nI_clamp (by omega)]
  have vw : I 5 2 k 1 = nI (A 1 k 5) := by rw [wk.2.1, hr.k9 k (by omega)]
  have en : (nI n = nI k) ↔ n = k := nI_eq (by omega) (by omega)
  have e0 : (nI (A 1 n 2) = 0) ↔ A 1 n 2 = 0 := nI_eq (b := 0) (by omega) (by decide)
  have w0 : (nI (A 1 k 5) = 0) ↔ A 1 k 5 = 0 := nI_eq (b := 0) (by omega) (by decide)
  have w1 : (nI (A 1 k 5) = 1) ↔ A 1 k 5 = 1 := nI_eq (b := 1) (by omega) (by decide)
  have near : nI (A 0 0 0) - (nI n - nI k + nI (A 0 0 0) - (nI n - nI k + nI (A 0 0 0)) / nI (A 0 0 0) * nI (A 0 0 0)) = nI (A 0 0 0 - (n + A 0 0 0 - k) % A 0 0 0) := by
    have e : nI n - nI k + nI (A 0 0 0) = nI (n + A 0 0 0 - k) := by
      have e2 : nI n - nI k + nI (A 0 0 0) = nI n + nI (A 0 0 0) - nI k := by grind
      rw [e2, nI_add, pk_sub (by omega)]
    have hlt := Nat.mod_lt (n + A 0 0 0 - k) (show 0 < A 0 0 0 by omega)
    rw [e, pk_rem (by omega) (by omega) (by omega), pk_sub (by omega)]
  simp only [f_S_victim_l1, ok_f_S_victim_l1, hrl, c.1, c.2.1, c.2.2.2.1, hNc, vw, near]
  by_cases a1 : n = k
  · rw [if_pos (en.mpr a1), if_pos (Or.inl a1)]
    exact ⟨rfl, fun p _ => ⟨fun _ => p (Or.inl a1), fun q => absurd (en.mpr a1) q⟩⟩
  · rw [if_neg (fun q => a1 (en.mp q))]
    by_cases a2 : A 1 n 2 = 0
    · rw [if_pos (e0.mpr a2), if_pos (Or.inr a2)]
      exact ⟨rfl, fun p _ => ⟨fun q => absurd (en.mp q) a1, fun _ => ⟨vp_in_nI hn (by omega), fun _ => p (Or.inr a2), fun q => absurd (e0.mpr a2) q⟩⟩⟩
    · have na : ¬ (n = k ∨ A 1 n 2 = 0) := fun q => q.elim a1 a2
      rw [if_neg (fun q => a2 (e0.mp q)), if_neg na]
      have nn : ¬ nI (A 0 0 0) = 0 := nI_ne0 (by omega) (by omega)
      by_cases b0 : A 1 k 5 = 0
      · have er : zrank A k n = A 0 0 0 - (n + A 0 0 0 - k) % A 0 0 0 := if_pos b0
        rw [if_pos (w0.mpr b0), ← er]
        exact ⟨rfl, fun _ p => ⟨fun q => absurd (en.mp q) a1, fun _ => ⟨vp_in_nI hn (by omega), fun q => absurd (e0.mp q) a2, fun _ => ⟨nn, fun _ => p na, fun q => absurd (w0.mpr b0) q⟩⟩⟩⟩
      · rw [if_neg (fun q => b0 (w0.mp q))]
        by_cases b1 : A 1 k 5 = 1
        · have er : zrank A k n = A 1 n 2 := by
            unfold zrank zrk
            rw [if_neg b0, if_pos b1]
          rw [if_pos (w1.mpr b1), er]
          rw [er] at *
          exact ⟨rfl, fun _ p => ⟨fun q => absurd (en.mp q) a1, fun _ => ⟨vp_in_nI hn (by omega), fun q => absurd (e0.mp q) a2, fun _ => ⟨nn, fun q => absurd (w0.mp q) b0, fun _ => ⟨fun _ => p na, fun q => absurd (w1.mpr b1) q⟩⟩⟩⟩⟩
        · have er : zrank A k n = A 4 (A 2 n (A 1 n 2 - 1)) 3 := by
            unfold zrank zrk
            rw [if_neg b0, if_neg b1]
          have hq := hi.k10 n (A 1 n 2 - 1) (by omega) (by omega)
          have q3 := hi.q600 hq
          have ex : nI (A 1 n 2) - 1 = nI (A 1 n 2 - 1) := zc_sub1 (by omega)
          have cx : (nI (A 1 n 2 - 1)).toNatClampNeg = A 1 n 2 - 1 := nI_clamp (by omega)
          have hc3 : (J z 31 0 n).toNatClampNeg = A 1 n 2 := by rw [hr.k6 n (by omega), nI_clamp (by omega)]
          have v3 : I 5 3 n (A 1 n 2 - 1) = nI (A 2 n (A 1 n 2 - 1)) := by rw [h.k5 n _ hn (by omega), hr.k7 n _ (by omega) (by omega)]
          have cy : (nI (A 2 n (A 1 n 2 - 1))).toNatClampNeg = A 2 n (A 1 n 2 - 1) := nI_clamp (by omega)
          have v5 : I 5 5 (A 2 n (A 1 n 2 - 1)) 0 = nI (zrank A k n) := by rw [er, (h.k7 _ (by omega)).1, hr.k15 _ hq]
          rw [if_neg (fun q => b1 (w1.mp q)), ex, cx, v3, cy, v5]
          exact ⟨rfl, fun _ p => ⟨fun q => absurd (en.mp q) a1, fun _ => ⟨vp_in_nI hn (by omega), fun q => absurd (e0.mp q) a2, fun _ => ⟨nn, fun q => absurd (w0.mp q) b0, fun _ => ⟨fun q => absurd (w1.mp q) b1, fun _ => ⟨vp_in_nI (by omega) (by omega), vp_in_nI (by omega) (by omega), (p na).1, (p na).2⟩⟩⟩⟩⟩⟩
theorem zs_best {L K k z : Nat} {A : zN} {I J : gI} (hr : zRF A (J 2) (J z)) (hi : zIV K A) (h : sR L (A 0 0 0) (A 0 0 1) (I 5) (J 2) (J z)) (hk : k < A 0 0 0) (hL : L < 300) : ok_S_victim I k ∧ zbest A k (f_S_victim I k) := by
  have h1 := hi.k1
  have c := h.c (by omega) (by omega) (by omega)
  have main : ∀ (n i : Nat) (a b : Int32), n ≤ A 0 0 0 → ((a = -1 ∧ b = -1 ∧ ∀ o, n ≤ o → ¬ zval A k o) ∨ ∃ v, n ≤ v ∧ zval A k v ∧ a = nI v ∧ b = nI (zrank A k v) ∧ ∀ o, n ≤ o → zval A k o → zrank A k o < zrank A k v ∨ (zrank A k o = zrank A k v ∧ v ≤ o)) → ok_f_S_victim_l1 k n i a b I ∧ zbest A k (f_S_victim_l1 k n i a b I) := by
    intro n
    induction n with
    | zero =>
      intro i a b _ st
      refine ⟨trivial, ?_⟩
      rcases st with ⟨s1, -, s3⟩ | ⟨v, -, s2, s3, -, s5⟩
      · exact Or.inl ⟨s1, fun o => s3 o (Nat.zero_le o)⟩
      · exact Or.inr ⟨v, s2, s3, fun o => s5 o (Nat.zero_le o)⟩
    | succ n ih =>
      intro i a b hn st
      obtain ⟨e1, e2⟩ := zs_vstep hr hi h hk hL n i a b (by omega)
      rw [e1]
      by_cases e : n = k ∨ A 1 n 2 = 0
      · have nv : ¬ zval A k n := fun q => e.elim q.2.1 (fun z => by have := q.2.2; omega)
        have g := ih (i + 1) a b (by omega) (by
          rcases st with ⟨s1, s2, s3⟩ | ⟨v, s0, s2, s3, s4, s5⟩
          · refine Or.inl ⟨s1, s2, fun o ho q => ?_⟩
            by_cases z : o = n
            · exact nv (z ▸ q)
            · exact s3 o (by omega) q
          · refine Or.inr ⟨v, by omega, s2, s3, s4, fun o ho q => ?_⟩
            by_cases z : o = n
            · exact absurd (z ▸ q) nv
            · exact s5 o (by omega) q)
        rw [if_pos e]
        exact ⟨e2 (fun _ => g.1) (fun q => absurd e q), g.2⟩
      · have hv : zval A k n := ⟨by omega, fun q => e (Or.inl q), Nat.pos_of_ne_zero fun q => e (Or.inr q)⟩
        have hrn := zrank_le hi hk hv
        rw [if_neg e]
        by_cases t : b ≤ nI (zrank A k n)
        · have g := ih (i + 1) (nI n) (nI (zrank A k n)) (by omega) (Or.inr ⟨n, Nat.le_refl n, hv, rfl, rfl, fun o ho q => by
            by_cases z : o = n
            · subst z
              exact Or.inr ⟨rfl, Nat.le_refl o⟩
            · rcases st with ⟨s1, s2, s3⟩ | ⟨v, s0, s2, s3, s4, s5⟩
              · exact absurd q (s3 o (by omega))
              · have hrv := zrank_le hi hk s2
                have h5 := s5 o (by omega) q
                rw [s4] at t
                have t2 : zrank A k v ≤ zrank A k n := by
                  rcases Nat.lt_or_ge (zrank A k n) (zrank A k v) with x | x
                  · exact absurd t (nI_ge x (by omega))
                  · exact x
                omega⟩)
          rw [if_pos t]
          exact ⟨e2 (fun q => absurd q e) (fun _ => ⟨fun _ => g.1, fun q => absurd t q⟩), g.2⟩
        · have g := ih (i + 1) a b (by omega) (by
            rcases st with ⟨s1, s2, s3⟩ | ⟨v, s0, s2, s3, s4, s5⟩
            · exfalso
              rw [s2] at t
              refine t ?_
              rw [Int32.le_iff_toInt_le, nI_toInt (by omega)]
              have : (-1 : Int32).toInt = -1 := by decide
              omega
            · refine Or.inr ⟨v, by omega, s2, s3, s4, fun o ho q => ?_⟩
              by_cases z : o = n
              · subst z
                left
                rw [s4] at t
                rcases Nat.lt_or_ge (zrank A k o) (zrank A k v) with x | x
                · exact x
                · exact absurd (nI_le x (by omega)) t
              · exact s5 o (by omega) q)
          rw [if_neg t]
          exact ⟨e2 (fun q => absurd q e) (fun _ => ⟨fun q => absurd q t, fun _ => g.1⟩), g.2⟩
  unfold ok_S_victim f_S_victim
  rw [c.1]
  exact main (A 0 0 0) 0 (-1) (-1) (Nat.le_refl _) (Or.inl ⟨rfl, rfl, fun o ho q => by have := q.1; omega⟩)
