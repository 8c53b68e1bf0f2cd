/-! MORE OF THE STATE, step by step -/
/-- the ghost's numbers that zg reads -/
def eS (S' S : gY) : Prop := (∀ j, j ≠ 19 → S' 20 0 j = S 20 0 j) ∧ (∀ j, S' 29 0 j = S 29 0 j) ∧ (∀ j, S' 30 0 j = S 30 0 j) ∧ (∀ j, S' 35 0 j = S 35 0 j) ∧ (∀ j, S' 36 0 j = S 36 0 j) ∧ (∀ j, S' 37 0 j = S 37 0 j)
theorem eS.rfl' (S : gY) : eS S S := ⟨fun _ _ => rfl, fun _ => rfl, fun _ => rfl, fun _ => rfl, fun _ => rfl, fun _ => rfl⟩
theorem eS.trans {A B C : gY} (h : eS A B) (g : eS B C) : eS A C := ⟨fun j hj => (h.1 j hj).trans (g.1 j hj), fun j => (h.2.1 j).trans (g.2.1 j), fun j => (h.2.2.1 j).trans (g.2.2.1 j), fun j => (h.2.2.2.1 j).trans (g.2.2.2.1 j), fun j => (h.2.2.2.2.1 j).trans (g.2.2.2.2.1 j), fun j => (h.2.2.2.2.2 j).trans (g.2.2.2.2.2 j)⟩
/-- other numbers don't matter -/
theorem eS.put {A B : gY} {t i j : Nat} {x : Int32} (h : eS A B) (ht : t ≠ 20 ∧ t ≠ 29 ∧ t ≠ 30 ∧ t ≠ 35 ∧ t ≠ 36 ∧ t ≠ 37) : eS (u3 A t i j x) B := by
  refine eS.trans ⟨fun j hj => ?_, fun j => ?_, fun j => ?_, fun j => ?_, fun j => ?_, fun j => ?_⟩ h
  all_goals rw [u3_skip _ _ _ _ (by omega)]
theorem eS.put19 {A B : gY} {x : Int32} (h : eS A B) : eS (u3 A 20 0 19 x) B := by
  refine eS.trans ⟨fun j hj => ?_, fun j => ?_, fun j => ?_, fun j => ?_, fun j => ?_, fun j => ?_⟩ h
  · rw [u3_skipj _ _ hj]
  all_goals rw [u3_skip _ _ _ _ (by omega)]
theorem eS.row {A B : gY} {t i : Nat} {g : Nat → Int32} (h : eS A B) (ht : t ≠ 20 ∧ t ≠ 29 ∧ t ≠ 30 ∧ t ≠ 35 ∧ t ≠ 36 ∧ t ≠ 37) : eS (urow A t i g) B := by
  refine eS.trans ⟨fun j hj => ?_, fun j => ?_, fun j => ?_, fun j => ?_, fun j => ?_, fun j => ?_⟩ h
  all_goals rw [urow_skip _ _ _ (by omega)]
/-- the same number put on both -/
theorem eS.both {A B : gY} {t i j : Nat} {x : Int32} (h : eS A B) : eS (u3 A t i j x) (u3 B t i j x) := by
  obtain ⟨h1, h2, h3, h4, h5, h6⟩ := h
  refine ⟨fun j hj => ?_, fun j => ?_, fun j => ?_, fun j => ?_, fun j => ?_, fun j => ?_⟩
  · simp only [zu3_eq, h1 j hj]
  · simp only [zu3_eq, h2]
  · simp only [zu3_eq, h3]
  · simp only [zu3_eq, h4]
  · simp only [zu3_eq, h5]
  · simp only [zu3_eq, h6]
theorem zg3.eS {e : Nat} {A : zN} {S' S : gY} (h : zg3 e A S) (q : eS S' S) : zg3 e A S' := by
  obtain ⟨h1, h2, h3, h4⟩ := h
  refine ⟨by rw [q.1 3 (by decide)]; exact h1, by rw [q.1 2 (by decide)]; exact h2, fun j hj => by rw [q.2.2.2.2.1]; exact h3 j hj, ?_⟩
  rw [q.1 2 (by decide), ← h4]
  exact ssm_congr _ (fun i _ => q.2.2.2.2.1 i)
theorem zg4.eS {A : zN} {S' S : gY} (h : zg4 A S) (q : eS S' S) : zg4 A S' := by
  refine ⟨?_, ?_⟩
  · rw [q.1 1 (by decide), ← h.1]
    exact ssm_congr _ (fun i _ => q.2.1 i)
  · rw [q.1 1 (by decide), ← h.2]
    exact ssm_congr _ (fun i _ => q.2.2.2.2.2 i)
theorem zg5.eS {i t : Nat} {A : zN} {M S' S : gY} (h : zg5 i t A M S) (q : eS S' S) : zg5 i t A M S' := by
  refine ⟨by rw [q.1 0 (by decide)]; exact h.1, fun j hj => ?_⟩
  simp only [q.2.2.2.1]
  exact h.2 j hj
theorem zg6.eS {i : Nat} {A : zN} {T S' S : gY} (h : zg6 T i A S) (q : eS S' S) : zg6 T i A S' := by
  unfold zg6
  simp only [q.2.2.1, q.1 4 (by decide)]
  exact h
theorem zg.eS {T : gY} {i t : Nat} {A : zN} {M S' S : gY} (h : zg T i t A M S) (q : eS S' S) : zg T i t A M S' := ⟨h.1, h.2.1, h.2.2.1.eS q, h.2.2.2.1.eS q, h.2.2.2.2.1.eS q, h.2.2.2.2.2.eS q⟩
theorem zgF.eS {T : gY} {i t q : Nat} {A : zN} {M S' S : gY} (h : zgF T i t q A M S) (x : eS S' S) : zgF T i t q A M S' := ⟨⟨h.1.1, h.1.2.1, h.1.2.2.1.eS x, h.1.2.2.2.1.eS x, h.1.2.2.2.2.1.eS x, h.1.2.2.2.2.2.eS x⟩, h.2⟩
/-- who sleeps wakes -/
theorem zg_WK {T : gY} {i t k : Nat} {A : zN} {M S : gY} (h : zg T i t A M S) (h0 : A 1 k 0 = 3) : zg T i t (zu A 1 k 0 0) M S := by
  obtain ⟨⟨a1, a2, a3, a4, a5, a6, a7⟩, ⟨b1, b2, b3⟩, ⟨c1, c2, c3, c4⟩, g4, ⟨d1, d2⟩, ⟨e1, e2⟩⟩ := h
  obtain ⟨A', hA'⟩ : ∃ A', A' = zu A 1 k 0 0 := ⟨_, rfl⟩
  have z0 : ∀ j, A' 0 0 j = A 0 0 j := fun j => by rw [hA']; simp [zu]
  have z3 : ∀ i j, A' 3 i j = A 3 i j := fun i j => by rw [hA']; simp [zu]
  have z4 : ∀ i j, A' 4 i j = A 4 i j := fun i j => by rw [hA']; simp [zu]
  have z1 : ∀ i j, A' 1 i j = if i = k ∧ j = 0 then 0 else A 1 i j := fun i j => by rw [hA']; simp [zu]
  obtain ⟨f, s1, s2, s3, s4, s5⟩ := zg_sums (A := A) (A' := A') (z0 2) (fun g => z4 g 0) (fun g => z4 g 1) (fun g => z4 g 3) (fun g => z4 g 4)
  have s6 := zJo_congr (A := A) (A' := A') (z0 2) (fun g => z4 g 0) (fun g => z4 g 1) (fun g => z4 g 5)
  rw [← hA']
  clear hA'
  refine ⟨⟨?_, ?_, ?_, ?_, ?_, ?_, ?_⟩, ⟨?_, ?_, ?_⟩, ⟨?_, ?_, ?_, ?_⟩, ⟨?_, ?_⟩, ⟨?_, ?_⟩, ⟨?_, ?_⟩⟩
  · simp only [z0, z1, z3, z4, f]; clear a2 a3 a4 a5 a6 a7 b1 b2 b3 c1 c2 c3 c4 d1 d2 e1 e2; grind
  · simp only [z0, z1, z3, z4, f]; exact a2
  · simp only [z0, z1, z3, z4, f]; exact a3
  · simp only [z0, z1, z3, z4, f]; clear a1 a2 a3 a5 a6 a7 b1 b2 b3 c1 c2 c3 c4 d1 d2 e1 e2; grind
  · simp only [z0, z1, z3, z4, f]; clear a1 a2 a3 a4 a6 a7 b1 b2 b3 c1 c2 c3 c4 d1 d2 e1 e2; grind
  · simp only [z0, z1, z3, z4, f]; exact a6
  · simp only [z0, z1, z3, z4, f]; exact a7
  · simp only [z0, z3, z4, s1]; exact b1
  · simp only [z0, z3, z4, s2]; exact b2
  · simp only [z0, z3, s3]; exact b3
  · rw [s6]; exact c1
  · rw [s5]; exact c2
  · simp only [z0, s4]; exact c3
  · simp only [z0]; exact c4
  · simp only [z0]; exact g4.1
  · simp only [z0]; exact g4.2
  · exact d1
  · intro j hj
    rw [z0] at hj
    obtain ⟨b, p1, p2, p3, p4, p5⟩ := d2 j hj
    simp only [z0, z3, z1]
    refine ⟨b, p1, p2, fun e => (p3 e).imp id ?_, p4, p5⟩
    rintro ⟨k', q1, q2, q3, q4⟩
    refine ⟨k', q1, q2, ?_, ?_⟩
    · rw [if_neg (by rintro ⟨rfl, -⟩; omega)]; exact q3
    · rw [if_neg (by omega)]; exact q4
  · obtain ⟨x, x1, x2⟩ := e1
    refine ⟨x, x1, ?_⟩
    rw [zsm_congr (g := fun k => A 1 k 4) _ (fun a _ => by rw [z1, if_neg (by omega)])]
    exact x2
  · intro k' hk'
    rw [z0] at hk'
    rcases e2 k' hk' with e | ⟨q1, q2, q3, q4⟩
    · exact Or.inl e
    · refine Or.inr ⟨q1, q2, by rw [z1, if_neg (by omega)]; exact q3, ?_⟩
      rw [z1]
      split
      · exact Or.inl rfl
      · exact q4
/-- who joins -/
theorem zg_DR2 {T : gY} {i t k K : Nat} {A : zN} {M S S' : gY} (hi : zIV K A) (h : zg T i t A M S) (hk : k < A 0 0 0) (h0 : A 1 k 0 = 2) (x3 : S' 20 0 3 = S 20 0 3 + 1) (xo : eS S' (u3 S 20 0 3 (S 20 0 3 + 1))) : zgF T i t (A 1 k 1) (zu A 1 k 0 0) M S' := by
  obtain ⟨⟨a1, a2, a3, a4, a5, a6, a7⟩, ⟨b1, b2, b3⟩, ⟨c1, c2, c3, c4⟩, g4, ⟨d1, d2⟩, ⟨e1, e2⟩⟩ := h
  have i20 := hi.k20
  have i22 := hi.k22
  have i11 := hi.k11
  have i12 := hi.k12
  have i14 := hi.k14
  have i9 := hi.k9
  have h1 := hi.k1
  clear hi
  obtain ⟨A', hA'⟩ : ∃ A', A' = zu A 1 k 0 0 := ⟨_, rfl⟩
  have z0 : ∀ j, A' 0 0 j = A 0 0 j := fun j => by rw [hA']; simp [zu]
  have z3 : ∀ i j, A' 3 i j = A 3 i j := fun i j => by rw [hA']; simp [zu]
  have z4 : ∀ i j, A' 4 i j = A 4 i j := fun i j => by rw [hA']; simp [zu]
  have z1 : ∀ i j, A' 1 i j = if i = k ∧ j = 0 then 0 else A 1 i j := fun i j => by rw [hA']; simp [zu]
  obtain ⟨f, s1, s2, s3, s4, s5⟩ := zg_sums (A := A) (A' := A') (z0 2) (fun g => z4 g 0) (fun g => z4 g 1) (fun g => z4 g 3) (fun g => z4 g 4)
  have s6 := zJo_congr (A := A) (A' := A') (z0 2) (fun g => z4 g 0) (fun g => z4 g 1) (fun g => z4 g 5)
  rw [← hA']
  clear hA'
  obtain ⟨w0, w1, w2⟩ := a4 k hk h0
  obtain ⟨g, g1, g2, g3⟩ := zfk_iff.mp w1
  refine ⟨⟨⟨?_, ?_, ?_, ?_, ?_, ?_, ?_⟩, ⟨?_, ?_, ?_⟩, ?_, ?_, ?_, ?_⟩, ?_, ?_, ?_, ?_, ?_⟩
  · simp only [z0, z1, z3, z4, f]; clear a2 a3 a4 a5 a6 a7 b1 b2 b3 c1 c2 c3 c4 d1 d2 e1 e2; grind
  · simp only [z0, z1, z3, z4, f]; exact a2
  · simp only [z0, z1, z3, z4, f]; exact a3
  · simp only [z0, z1, z3, z4, f]; clear a1 a2 a3 a5 a6 a7 b1 b2 b3 c1 c2 c3 c4 d1 d2 e1 e2; grind
  · simp only [z0, z1, z3, z4, f]; clear a1 a2 a3 a4 a6 a7 b1 b2 b3 c1 c2 c3 c4 d1 d2 e1 e2; grind
  · simp only [z0, z1, z3, z4, f]; exact a6
  · simp only [z0, z1, z3, z4, f]; exact a7
  · simp only [z0, z3, z4, s1]; exact b1
  · simp only [z0, z3, z4, s2]; exact b2
  · simp only [z0, z3, s3]; exact b3
  · refine zg3.eS ⟨?_, ?_, ?_, ?_⟩ xo
    · rw [u3_at, f, w1, s6, c1, nI_1]
    · rw [u3_skipj _ _ (by decide), s5]; exact c2
    · simp (disch := decide) only [z0, s4, u3_skip]; exact c3
    · simp (disch := decide) only [z0, u3_skip, u3_skipj]; exact c4
  · refine zg4.eS ⟨?_, ?_⟩ xo
    · simp (disch := decide) only [z0, u3_skip, u3_skipj]; exact g4.1
    · simp (disch := decide) only [z0, u3_skip, u3_skipj]; exact g4.2
  · refine zg5.eS ⟨by rw [u3_skipj _ _ (by decide)]; exact d1, ?_⟩ xo
    intro j hj
    rw [z0] at hj
    obtain ⟨b, p1, p2, p3, p4, p5⟩ := d2 j hj
    simp (disch := decide) only [z0, z3, z1, u3_skip]
    refine ⟨b, p1, p2, fun e => (p3 e).imp id ?_, p4, p5⟩
    rintro ⟨k', q1, q2, q3, q4⟩
    refine ⟨k', q1, q2, ?_, ?_⟩
    · rw [if_neg (by rintro ⟨rfl, -⟩; omega)]; exact q3
    · rw [if_neg (by omega)]; exact q4
  · refine zg6.eS ⟨?_, ?_⟩ xo
    · obtain ⟨x, x1, x2⟩ := e1
      refine ⟨x, by rw [u3_skipj _ _ (by decide)]; exact x1, ?_⟩
      rw [zsm_congr (g := fun k => A 1 k 4) _ (fun a _ => by rw [z1, if_neg (by omega)])]
      exact x2
    · intro k' hk'
      rw [z0] at hk'
      simp (disch := decide) only [u3_skip]
      rcases e2 k' hk' with e | ⟨q1, q2, q3, q4⟩
      · exact Or.inl e
      · refine Or.inr ⟨q1, q2, by rw [z1, if_neg (by omega)]; exact q3, ?_⟩
        rw [z1]
        split
        · exact Or.inl rfl
        · exact q4
  · rw [z4]; exact w0
  · rw [f]; exact Or.inr w1
  · simp only [z0, z4]; exact w2
  · intro k' hk' hh
    rw [z0] at hk'
    rw [z1, if_neg (by omega)]
    rw [z1] at hh
    by_cases e : k' = k
    · subst e
      simp at hh
    · rw [if_neg (by omega)] at hh
      rcases hh with hh | hh
      · rw [← g3]
        exact i20 g k' g1 g2 (by omega) hh
      · exact fun q => e (a5 k' k hk' hk hh h0 q)
  · intro hr hz
    rw [z4] at hr hz
    rw [z3] at hz
    have q12 := (i12 (A 1 k 1) (i9 k (by omega) (Or.inr h0))).1
    have q11 := i11 (A 4 (A 1 k 1) 0 / 32) (by omega)
    have e := i14 _ _ q11.1 (i9 k (by omega) (Or.inr h0)) (by omega)
    exact i22 g _ g1 g2 (show A 4 (A 1 k 1) 0 / 32 < A 0 0 1 by omega) hz (by rw [e, g3])
