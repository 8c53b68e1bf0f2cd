/-! MORE OF THE STATE: a heap is done -/
theorem zx_xor : ∀ a, a < 320 → a ^^^ 1 = if a % 2 = 0 then a + 1 else a - 1 := by decide +kernel
/-- the halves of one heap are two -/
theorem zIV.halves {K : Nat} {A : zN} (hi : zIV K A) {q g : Nat} (hq : q < A 0 0 2) (hg : g < A 0 0 2) (nq : A 4 q 0 % 32 ≠ 1) (ng : A 4 g 0 % 32 ≠ 1) (e : A 4 g 1 = A 4 q 1) : g = q ∨ g = A 4 q 2 := by
  have a := hi.k13 q hq nq
  have b := hi.k13 g hg ng
  have q1 := hi.g320 hq
  have g1 := hi.g320 hg
  have q2 := hi.k12 q hq
  have g2 := hi.k12 g hg
  have x := zx_xor _ q1
  rw [e] at b
  by_cases z : A 4 g 0 = A 4 q 0
  · exact Or.inl (hi.k14 g q hg hq z)
  · right
    refine hi.k14 g _ hg a.2.1 ?_
    rw [a.2.2.2, x]
    split <;> omega
theorem zJo_one {A A' : zN} {q : Nat} (hq : q < A 0 0 2) (h5 : A 4 q 5 = 0) (z0 : A' 0 0 2 = A 0 0 2) (z4 : ∀ i j, A' 4 i j = if i = q ∧ j = 5 then 1 else A 4 i j) : zJo A' = zJo A + zfk A q := by
  have f : ∀ h, zfk A' h = zfk A h := fun h => zfk_congr h z0 (fun g => ⟨by rw [z4, if_neg (by omega)], by rw [z4, if_neg (by omega)]⟩)
  have s := zsm_one (f := fun h => if zfk A' h = 1 ∧ A' 4 h 5 = 1 then 1 else 0) (g := fun h => if zfk A h = 1 ∧ A 4 h 5 = 1 then 1 else 0) (A 0 0 2) hq (fun i _ ne => by simp only [f]; rw [show A' 4 i 5 = A 4 i 5 by rw [z4, if_neg (by omega)]])
  simp only [f, h5, show A' 4 q 5 = 1 by rw [z4, if_pos ⟨rfl, rfl⟩]] at s
  unfold zJo
  rw [z0]
  simp only [f]
  rcases zfk_01 A q with e | e <;> simp [e] at s ⊢ <;> omega
set_option maxHeartbeats 4000000 in
/-- what every finish has -/
theorem zg_DN {T : gY} {i t q K : Nat} {A : zN} {M S : gY} (hi : zIV K A) (hq : q < A 0 0 2) (h : zgF T i t q A M S) (x2 : Nat → Nat) (hx2 : ∀ j, x2 j = if A 4 q 0 % 32 = 1 ∧ j = A 4 q 0 / 32 then 2 else A 3 j 0) (A' : zN) (z0 : ∀ j, A' 0 0 j = A 0 0 j) (z1 : ∀ i j, A' 1 i j = A 1 i j) (z4 : ∀ i j, A' 4 i j = if i = q ∧ j = 5 then 1 else A 4 i j) (z3 : ∀ i j, A' 3 i j = if j = 0 then x2 i else A 3 i j) : zg1 A' ∧ zg2 A' ∧ zg3 0 A' S ∧ zg4 A' S ∧ zg6 T i A' S := by
  obtain ⟨⟨⟨a1, a2, a3, a4, a5, a6, a7⟩, ⟨b1, b2, b3⟩, ⟨c1, c2, c3, c4⟩, g4, -, ⟨e1, e2⟩⟩, p1, p2, p3, p4, p5⟩ := h
  obtain ⟨f, s1, s2, s3, s4, s5⟩ := zg_sums (A := A) (A' := A') (z0 2) (fun g => by rw [z4, if_neg (by omega)]) (fun g => by rw [z4, if_neg (by omega)]) (fun g => by rw [z4, if_neg (by omega)]) (fun g => by rw [z4, if_neg (by omega)])
  have s6 := zJo_one hq p1 (z0 2) z4
  have i11 := hi.k11
  have i12 := hi.k12
  have i14 := hi.k14
  have h1 := hi.k1
  have q12 := (i12 q hq).1
  -- the root, if it is one
  have root : A 4 q 0 % 32 = 1 → A 3 (A 4 q 0 / 32) 1 = q := fun e => i14 _ _ (i11 _ (by omega)).1 hq (by rw [(i11 (A 4 q 0 / 32) (by omega)).2]; omega)
  have other : ∀ j, j < A 0 0 1 → A 3 j 1 = q → A 4 q 0 % 32 = 1 ∧ j = A 4 q 0 / 32 := fun j hj e => by
    have := (i11 j hj).2
    rw [e] at this
    omega
  clear hi
  refine ⟨⟨?_, ?_, ?_, ?_, ?_, ?_, ?_⟩, ⟨?_, ?_, ?_⟩, ⟨?_, ?_, ?_, ?_⟩, ⟨?_, ?_⟩, ⟨?_, ?_⟩⟩
  · simp only [z0, z1, z4, f]; clear a2 a3 a4 a5 a6 a7 b1 b2 b3 c1 c2 c3 c4 e1 e2; grind
  · simp only [z0, z1, z4, f]; clear a1 a3 a4 a5 a6 a7 b1 b2 b3 c1 c2 c3 c4 e1 e2; grind
  · simp only [z0, z1, z4, f]; clear a1 a2 a4 a5 a6 a7 b1 b2 b3 c1 c2 c3 c4 e1 e2; grind
  · simp only [z0, z1, z4, f]; clear a1 a2 a3 a5 a6 a7 b1 b2 b3 c1 c2 c3 c4 e1 e2; grind
  · simp only [z0, z1]; exact a5
  · intro j hj hz hh
    simp only [z0, z4, z3, hx2] at hj hz ⊢
    rw [if_pos trivial] at hz
    have : A 3 j 0 = 0 := by
      by_cases e : A 4 q 0 % 32 = 1 ∧ j = A 4 q 0 / 32
      · rw [if_pos e] at hz; omega
      · rw [if_neg e] at hz; exact hz
    have := a6 j hj this hh
    simpa using this
  · intro j hj
    rw [z0] at hj
    rw [z3, z3, if_pos rfl, if_neg (by decide), z4, hx2]
    by_cases e : A 4 q 0 % 32 = 1 ∧ j = A 4 q 0 / 32
    · rw [if_pos e, e.2, root e.1]
      simp
    · rw [if_neg e, if_neg (fun c => e (other j hj c.1))]
      exact a7 j hj
  · intro j hj
    rw [z0] at hj
    rw [z3, z3, if_neg (by decide), if_neg (by decide), s1, z4, if_neg (by omega)]
    exact b1 j hj
  · intro j hj
    rw [z0] at hj
    rw [z3, if_neg (by decide), s2]
    exact b2 j hj
  · rw [s3, z0, b3]
    exact zsm_congr _ (fun j _ => by rw [z3, if_neg (by decide)])
  · rw [s6, c1, Nat.add_zero]
  · rw [s5]; exact c2
  · simp only [z0, s4]; exact c3
  · simp only [z0]; exact c4
  · simp only [z0]; exact g4.1
  · simp only [z0]; exact g4.2
  · simp only [z1]; exact e1
  · simp only [z0, z1]; exact e2
/-- nothing more happens -/
theorem zg_fin0 {T : gY} {i t q K : Nat} {A : zN} {M S : gY} (hi : zIV K A) (hq : q < A 0 0 2) (h : zgF T i t q A M S) (nr : A 4 q 0 % 32 ≠ 1) : zg T i t (zu A 4 q 5 1) M S := by
  obtain ⟨a, b, c, d, e⟩ := zg_DN hi hq h (fun j => A 3 j 0) (fun j => by rw [if_neg (fun c => nr c.1)]) (zu A 4 q 5 1) (fun j => by simp [zu]) (fun i j => by simp [zu]) (fun i j => by simp [zu]) (fun i j => by simp [zu]; intro e; rw [e])
  refine ⟨a, b, c, d, ?_, e⟩
  obtain ⟨d1, d2⟩ := h.1.2.2.2.2.1
  refine ⟨d1, ?_⟩
  simpa [zu] using d2
/-- the load is done -/
theorem zg_finR {T : gY} {i t q K : Nat} {A : zN} {M S S' : gY} (hi : zIV K A) (hq : q < A 0 0 2) (h : zgF T i t q A M S) (hii : 0 < i) (nr : A 4 q 0 % 32 = 1) (x35 : S' 35 0 (A 4 q 0 / 32) = S 20 0 0) (x : eS S' (u3 S 35 0 (A 4 q 0 / 32) (S 20 0 0))) : zg T i t (zu (zu A 4 q 5 1) 3 (A 4 q 0 / 32) 0 2) M S' := by
  have i11 := hi.k11
  have i14 := hi.k14
  have q12 := (hi.k12 q hq).1
  have h1 := hi.k1
  have root : A 3 (A 4 q 0 / 32) 1 = q := i14 _ _ (i11 _ (by omega)).1 hq (by rw [(i11 (A 4 q 0 / 32) (by omega)).2]; omega)
  obtain ⟨A', hA'⟩ : ∃ A', A' = zu (zu A 4 q 5 1) 3 (A 4 q 0 / 32) 0 2 := ⟨_, rfl⟩
  have z0 : ∀ j, A' 0 0 j = A 0 0 j := fun j => by rw [hA']; simp [zu]
  have z1 : ∀ i j, A' 1 i j = A 1 i j := fun i j => by rw [hA']; simp [zu]
  have z3 : ∀ i j, A' 3 i j = if i = A 4 q 0 / 32 ∧ j = 0 then 2 else A 3 i j := fun i j => by rw [hA']; simp [zu]
  have z4 : ∀ i j, A' 4 i j = if i = q ∧ j = 5 then 1 else A 4 i j := fun i j => by rw [hA']; simp [zu]
  rw [← hA']
  clear hA'
  obtain ⟨a, b, c, d, e⟩ := zg_DN hi hq h (fun j => if j = A 4 q 0 / 32 then 2 else A 3 j 0) (fun j => by simp [nr]) A' z0 z1 z4 (fun i j => by rw [z3]; by_cases e : j = 0 <;> by_cases e2 : i = A 4 q 0 / 32 <;> simp [e, e2])
  have p4 := h.2.2.2.2.1
  have p5 := h.2.2.2.2.2
  obtain ⟨d1, d2⟩ := h.1.2.2.2.2.1
  refine ⟨a, b, ?_, ?_, ?_, ?_⟩
  · refine zg3.eS ⟨?_, ?_, ?_, ?_⟩ x
    · simp (disch := decide) only [u3_skip]; exact c.1
    · simp (disch := decide) only [u3_skip]; exact c.2.1
    · simp (disch := decide) only [u3_skip]; exact c.2.2.1
    · simp (disch := decide) only [u3_skip]; exact c.2.2.2
  · refine zg4.eS ⟨?_, ?_⟩ x
    · simp (disch := decide) only [u3_skip]; exact d.1
    · simp (disch := decide) only [u3_skip]; exact d.2
  · refine zg5.eS ⟨by rw [u3_skip _ _ _ _ (by decide)]; exact d1, ?_⟩ x
    intro j hj
    rw [z0] at hj
    obtain ⟨b, p1, p2, p3, p6, p7⟩ := d2 j hj
    refine ⟨b, p1, p2, ?_, ?_, ?_⟩
    · intro eb
      rcases p3 eb with q0 | ⟨k', q1, q2, q3, q4⟩
      · left
        rw [z3]
        by_cases ej : j = A 4 q 0 / 32
        · subst ej
          exact absurd q0 (p5 nr)
        · rw [if_neg (by omega)]
          exact q0
      · right
        refine ⟨k', q1, by rw [z0]; exact q2, by rw [z1]; exact q3, ?_⟩
        rw [z1, z3, if_neg (by omega)]
        exact q4
    · intro n2
      rw [z3] at n2
      by_cases ej : j = A 4 q 0 / 32
      · rw [if_pos ⟨ej, rfl⟩] at n2
        exact absurd rfl n2
      · rw [if_neg (by omega)] at n2
        rw [u3_skipj _ _ ej]
        exact p6 n2
    · intro e2
      rw [z3] at e2
      by_cases ej : j = A 4 q 0 / 32
      · rw [ej, u3_at, d1]
        refine ⟨t, rfl, ?_, Nat.le_refl t, by omega⟩
        rcases Nat.lt_or_ge b t with y | y
        · exact y
        · exfalso
          rcases p3 (by omega) with q0 | ⟨k', q1, q2, q3, q4⟩
          · rw [ej] at q0
            exact p5 nr q0
          · rw [ej, root] at q4
            exact p4 k' q2 (Or.inl q3) q4
      · rw [if_neg (by omega)] at e2
        rw [u3_skipj _ _ ej]
        exact p7 e2
  · refine zg6.eS ⟨?_, ?_⟩ x
    · simp (disch := decide) only [u3_skip]; exact e.1
    · simp (disch := decide) only [u3_skip]; exact e.2
set_option maxHeartbeats 4000000 in
/-- the lad has to join -/
theorem zg_finJ {T : gY} {i t q k K : Nat} {A : zN} {M S : gY} (hi : zIV K A) (hq : q < A 0 0 2) (hk : k < A 0 0 0) (h0 : A 1 k 0 = 0) (h : zgF T i t q A M S) (nr : A 4 q 0 % 32 ≠ 1) (hm : A 4 (A 4 q 2) 5 = 1) (hrow : S 30 0 k = T 30 0 k) : zg T i t (zu (zu (zu A 4 q 5 1) 1 k 0 2) 1 k 1 (A 4 q 1)) M S := by
  have H := zg_fin0 hi hq h nr
  obtain ⟨⟨⟨-, v2, -, v4, v5, -, -⟩, -⟩, p1, p2, p3, p4, p5⟩ := h
  have hv := fun g hg ng e => hi.halves (g := g) hq hg nr ng e
  have i13 := hi.k13 q hq nr
  have w12 := (hi.k12 q hq).2.1
  have wbit := fun h hh => (hi.k12 h hh).2.2.2.2.2
  clear hi
  obtain ⟨B, hB⟩ : ∃ B, B = zu A 4 q 5 1 := ⟨_, rfl⟩
  have y0 : ∀ j, B 0 0 j = A 0 0 j := fun j => by rw [hB]; simp [zu]
  have y1 : ∀ i j, B 1 i j = A 1 i j := fun i j => by rw [hB]; simp [zu]
  have y3 : ∀ i j, B 3 i j = A 3 i j := fun i j => by rw [hB]; simp [zu]
  have y4 : ∀ i j, B 4 i j = if i = q ∧ j = 5 then 1 else A 4 i j := fun i j => by rw [hB]; simp [zu]
  rw [← hB] at H ⊢
  clear hB
  obtain ⟨⟨a1, a2, a3, a4, a5, a6, a7⟩, ⟨b1, b2, b3⟩, ⟨c1, c2, c3, c4⟩, g4, ⟨d1, d2⟩, ⟨e1, e2⟩⟩ := H
  obtain ⟨A', hA'⟩ : ∃ A', A' = zu (zu B 1 k 0 2) 1 k 1 (A 4 q 1) := ⟨_, rfl⟩
  have z0 : ∀ j, A' 0 0 j = B 0 0 j := fun j => by rw [hA']; simp [zu]
  have z3 : ∀ i j, A' 3 i j = B 3 i j := fun i j => by rw [hA']; simp [zu]
  have z4 : ∀ i j, A' 4 i j = B 4 i j := fun i j => by rw [hA']; simp [zu]
  have z1 : ∀ i j, A' 1 i j = if i = k ∧ j = 1 then A 4 q 1 else if i = k ∧ j = 0 then 2 else B 1 i j := fun i j => by rw [hA']; simp [zu]
  obtain ⟨f, s1, s2, s3, s4, s5⟩ := zg_sums (A := B) (A' := A') (z0 2) (fun g => z4 g 0) (fun g => z4 g 1) (fun g => z4 g 3) (fun g => z4 g 4)
  have s6 := zJo_congr (A := B) (A' := A') (z0 2) (fun g => z4 g 0) (fun g => z4 g 1) (fun g => z4 g 5)
  have fB : ∀ h, zfk B h = zfk A h := fun h => zfk_congr h (y0 2) (fun g => ⟨by rw [y4, if_neg (by omega)], by rw [y4, if_neg (by omega)]⟩)
  have fw : zfk A (A 4 q 1) = 1 := zfk_iff.mpr ⟨q, hq, nr, rfl⟩
  rw [← hA']
  clear hA'
  have w0 : A 4 (A 4 q 1) 5 ≠ 1 := fun e => by
    have := v2 q hq nr e
    omega
  refine ⟨⟨?_, ?_, ?_, ?_, ?_, ?_, ?_⟩, ⟨?_, ?_, ?_⟩, ⟨?_, ?_, ?_, ?_⟩, ⟨?_, ?_⟩, ⟨?_, ?_⟩, ⟨?_, ?_⟩⟩
  · simp only [z0, z1, z3, z4, f]; clear a2 a3 a4 a5 a6 a7 b1 b2 b3 c1 c2 c3 c4 d1 d2 e1 e2; grind
  · simp only [z0, z1, z3, z4, f]; exact a2
  · simp only [z0, z1, z3, z4, f]; exact a3
  · intro k' hk' h2
    rw [z0] at hk'
    simp only [z0, z4, f, fB]
    rw [z1] at h2 ⊢
    by_cases e : k' = k
    · subst e
      rw [if_pos ⟨rfl, rfl⟩]
      have hb := a4
      refine ⟨?_, fw, fun g hg ng eg => ?_⟩
      · rw [y4, if_neg (fun c => ?_)]
        · have := y4 (A 4 q 1) 5
          have w9 := wbit (A 4 q 1) i13.1
          omega
        · have i3 := i13.2.2.1
          rw [c.1] at i3
          omega
      · rw [y4] at ng eg ⊢
        rw [y0] at hg
        rw [if_neg (by omega)] at ng eg
        rcases hv g hg ng eg with r | r
        · rw [if_pos ⟨r, rfl⟩]
        · rw [r]
          split
          · rfl
          · exact hm
    · rw [if_neg (by omega), if_neg (by omega)] at h2
      rw [if_neg (by omega), if_neg (by omega)]
      have := a4 k' hk' h2
      rw [fB] at this
      exact this
  · intro k1 k2 hk1 hk2 h1 h2 he
    rw [z0] at hk1 hk2
    have key : ∀ k', k' < B 0 0 0 → k' ≠ k → B 1 k' 0 = 2 → B 1 k' 1 ≠ A 4 q 1 := fun k' hk' ne h2 e => by
      rw [y0] at hk'
      rw [y1] at h2 e
      have := (v4 k' hk' h2).2.2 q hq nr e.symm
      omega
    rw [z1] at h1 h2
    rw [z1, z1] at he
    by_cases c1 : k1 = k <;> by_cases c2 : k2 = k
    · omega
    · rw [if_neg (by omega), if_neg (by omega)] at h2
      rw [if_pos ⟨c1, rfl⟩, if_neg (by omega), if_neg (by omega)] at he
      exact absurd he.symm (key k2 hk2 c2 h2)
    · rw [if_neg (by omega), if_neg (by omega)] at h1
      rw [if_neg (by omega), if_neg (by omega), if_pos ⟨c2, rfl⟩] at he
      exact absurd he (key k1 hk1 c1 h1)
    · rw [if_neg (by omega), if_neg (by omega)] at h1 h2
      rw [if_neg (by omega), if_neg (by omega), if_neg (by omega), if_neg (by omega)] at he
      exact a5 k1 k2 hk1 hk2 h1 h2 he
  · simp only [z0, z1, z3, z4, f]; exact a6
  · simp only [z0, z1, z3, z4, f]; exact a7
  · simp only [z0, z3, z4, s1]; exact b1
  · simp only [z0, z3, z4, s2]; exact b2
  · simp only [z0, z3, s3]; exact b3
  · rw [s6]; exact c1
  · rw [s5]; exact c2
  · simp only [z0, s4]; exact c3
  · simp only [z0]; exact c4
  · simp only [z0]; exact g4.1
  · simp only [z0]; exact g4.2
  · exact d1
  · intro j hj
    rw [z0] at hj
    obtain ⟨b, p1, p2, p3, p4, p5⟩ := d2 j hj
    simp only [z0, z3]
    refine ⟨b, p1, p2, fun e => (p3 e).imp id ?_, p4, p5⟩
    rintro ⟨k', q1, q2, q3, q4⟩
    have nk : k' ≠ k := by rintro rfl; rw [y1] at q3; omega
    exact ⟨k', q1, q2, by rw [z1, if_neg (by omega), if_neg (by omega)]; exact q3, by rw [z1, if_neg (by omega), if_neg (by omega)]; exact q4⟩
  · obtain ⟨x, x1, x2⟩ := e1
    refine ⟨x, x1, ?_⟩
    rw [zsm_congr (g := fun k => B 1 k 4) _ (fun a _ => by rw [z1, if_neg (by omega), if_neg (by omega)])]
    exact x2
  · intro k' hk'
    rw [z0] at hk'
    by_cases e : k' = k
    · exact Or.inl (by rw [e]; exact hrow)
    · rcases e2 k' hk' with e3 | ⟨q1, q2, q3, q4⟩
      · exact Or.inl e3
      · exact Or.inr ⟨q1, q2, by rw [z1, if_neg (by omega), if_neg (by omega)]; exact q3, by rw [z1, if_neg (by omega), if_neg (by omega)]; exact q4⟩
