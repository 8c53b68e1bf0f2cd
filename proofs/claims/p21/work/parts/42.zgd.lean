/-! MORE OF THE STATE: a lad pitches d bales -/
theorem zg_PD {T : gY} {k d t K : Nat} {A : zN} {M S S' : gY} (hi : zIV K A) (h : zg T k t A M S) (hk : k < A 0 0 0) (h0 : A 1 k 0 = 1) (hd : d ≤ A 4 (A 1 k 1) 4) (hds : d ≤ A 1 k 4) (A' : zN) (hl : A 4 (A 1 k 1) 4 - d = 0 → A' 1 k 0 = 0) (hl2 : A 4 (A 1 k 1) 4 - d ≠ 0 → A' 1 k 0 = 1)
    (z0 : ∀ j, A' 0 0 j = A 0 0 j) (z1 : ∀ i j, ¬ (i = k ∧ j = 0) → A' 1 i j = A 1 i j) (z3 : ∀ i j, A' 3 i j = if i = A 4 (A 1 k 1) 0 / 32 ∧ j = 2 then A 3 i 2 + d else A 3 i j) (z4 : ∀ i j, A' 4 i j = if i = A 1 k 1 ∧ j = 4 then A 4 i 4 - d else A 4 i j)
    (x4 : S' 20 0 4 = S 20 0 4 + nI d) (xo : eS S' (u3 S 20 0 4 (S 20 0 4 + nI d))) : (zg1 A' ∧ zg2 A' ∧ zg3 0 A' S' ∧ zg4 A' S' ∧ zg5 (k + 1) t A' M S' ∧ zg6 T (k + 1) A' S') := by
  have h1 := hi.k1
  have hk6 : k < 6 := by omega
  have hq := hi.k9 k hk6 (Or.inl h0)
  have h12 := hi.k12 _ hq
  have i15 := hi.k15
  have i20 := hi.k20
  have i11 := hi.k11
  have i12 := hi.k12
  have i14 := hi.k14
  have i9 := hi.k9
  have i17 := hi.k17
  obtain ⟨q, hq'⟩ : ∃ q, q = A 1 k 1 := ⟨_, rfl⟩
  have nf : zfk A q = 0 := by
    rcases zfk_01 A q with e | e
    · exact e
    · obtain ⟨g, g1, g2, g3⟩ := zfk_iff.mp e
      exact absurd (hq'.symm.trans g3.symm) (i20 g k g1 g2 hk6 h0)
  rw [← hq'] at z3 z4 hl hl2 hd hq h12
  have hj : A 4 q 0 / 32 < A 0 0 1 := by omega
  obtain ⟨⟨a1, a2, a3, a4, a5, a6, a7⟩, ⟨b1, b2, b3⟩, ⟨c1, c2, c3, c4⟩, g4, ⟨d1, d2⟩, ⟨e1, e2⟩⟩ := h
  have y40 : ∀ g, A' 4 g 0 = A 4 g 0 := fun g => by rw [z4, if_neg (by omega)]
  have y41 : ∀ g, A' 4 g 1 = A 4 g 1 := fun g => by rw [z4, if_neg (by omega)]
  have y43 : ∀ g, A' 4 g 3 = A 4 g 3 := fun g => by rw [z4, if_neg (by omega)]
  have y45 : ∀ g, A' 4 g 5 = A 4 g 5 := fun g => by rw [z4, if_neg (by omega)]
  have y44 : ∀ g, g ≠ q → A' 4 g 4 = A 4 g 4 := fun g ne => by rw [z4, if_neg (by omega)]
  have y4q : A' 4 q 4 = A 4 q 4 - d := by rw [z4, if_pos ⟨rfl, rfl⟩]
  have y30 : ∀ j, A' 3 j 0 = A 3 j 0 := fun j => by rw [z3, if_neg (by omega)]
  have y31 : ∀ j, A' 3 j 1 = A 3 j 1 := fun j => by rw [z3, if_neg (by omega)]
  have f : ∀ h, zfk A' h = zfk A h := fun h => zfk_congr h (z0 2) (fun g => ⟨y40 g, y41 g⟩)
  have s6 := zJo_congr (A := A) (A' := A') (z0 2) y40 y41 y45
  have s5 : zFo A' = zFo A := by
    unfold zFo
    rw [z0]
    exact zsm_congr _ (fun i _ => f i)
  have s4 : ∀ j, zMd A' j = zMd A j := fun j => by
    unfold zMd
    simp only [z0, y40]
  have z10 : ∀ i, i ≠ k → A' 1 i 0 = A 1 i 0 := fun i ne => z1 i 0 (by omega)
  have z11 : ∀ i, A' 1 i 1 = A 1 i 1 := fun i => z1 i 1 (by omega)
  refine ⟨⟨?_, ?_, ?_, ?_, ?_, ?_, ?_⟩, ⟨?_, ?_, ?_⟩, ?_, ?_, ?_, ?_⟩
  · intro k' hk' h2
    rw [z0] at hk'
    rw [z11]
    by_cases e : k' = k
    · subst e
      rw [← hq', y4q]
      by_cases z : A 4 q 4 - d = 0
      · rw [hl z] at h2
        omega
      · omega
    · rw [z10 k' e] at h2
      rw [y44 _ (fun c => e (i15 k' k (by omega) hk6 h2 h0 (by rw [c, hq'])))]
      exact a1 k' hk' h2
  · simp only [z0, y40, y41, y45]; exact a2
  · intro g hg h5
    rw [z0] at hg
    rw [y45] at h5
    rw [f]
    by_cases e : g = q
    · rw [e, y4q]
      rcases a3 g hg h5 with w | w
      · left
        rw [e] at w
        omega
      · rw [e] at w
        exact Or.inr w
    · rw [y44 g e]
      exact a3 g hg h5
  · intro k' hk' h2
    rw [z0] at hk'
    have e : k' ≠ k := by
      rintro rfl
      by_cases z : A 4 q 4 - d = 0
      · rw [hl z] at h2; omega
      · rw [hl2 z] at h2; omega
    rw [z10 k' e] at h2
    simp only [z11, z0, y40, y41, y45, f]
    exact a4 k' hk' h2
  · intro k1 k2 hk1 hk2 h2 h2' he
    rw [z0] at hk1 hk2
    have e1 : k1 ≠ k := by
      rintro rfl
      by_cases z : A 4 q 4 - d = 0
      · rw [hl z] at h2; omega
      · rw [hl2 z] at h2; omega
    have e2 : k2 ≠ k := by
      rintro rfl
      by_cases z : A 4 q 4 - d = 0
      · rw [hl z] at h2'; omega
      · rw [hl2 z] at h2'; omega
    rw [z10 _ e1] at h2
    rw [z10 _ e2] at h2'
    rw [z11, z11] at he
    exact a5 k1 k2 hk1 hk2 h2 h2' he
  · simp only [z0, y30, y40]; exact a6
  · simp only [z0, y30, y31, y45]; exact a7
  · intro j hj'
    rw [z0] at hj'
    rw [y31, y43, ← b1 j hj']
    have s := zsm_one (f := fun h => if A' 4 h 0 / 32 = j ∧ zfk A' h = 0 then A' 4 h 4 else 0) (g := fun h => if A 4 h 0 / 32 = j ∧ zfk A h = 0 then A 4 h 4 else 0) (A 0 0 2) hq (fun i _ ne => by simp only [y40, f, y44 i ne])
    simp only [y40, f, y4q, nf] at s
    have zl : zLf A' j = zsm (fun h => if A 4 h 0 / 32 = j ∧ zfk A h = 0 then A' 4 h 4 else 0) (A 0 0 2) := by
      unfold zLf
      simp only [z0, y40, f]
    have zl2 : zLf A j = zsm (fun h => if A 4 h 0 / 32 = j ∧ zfk A h = 0 then A 4 h 4 else 0) (A 0 0 2) := rfl
    rw [zl, zl2, z3]
    by_cases e : j = A 4 q 0 / 32
    · rw [if_pos ⟨e, rfl⟩]
      rw [if_pos ⟨e.symm, trivial⟩, if_pos ⟨e.symm, trivial⟩] at s
      omega
    · rw [if_neg (by omega)]
      rw [if_neg (by omega), if_neg (by omega)] at s
      omega
  · intro j hj'
    rw [z0] at hj'
    have s := zsm_one (f := fun h => if A' 4 h 0 / 32 = j then A' 4 h 3 - A' 4 h 4 else 0) (g := fun h => if A 4 h 0 / 32 = j then A 4 h 3 - A 4 h 4 else 0) (A 0 0 2) hq (fun i _ ne => by simp only [y40, y43, y44 i ne])
    simp only [y40, y43, y4q] at s
    have zl : zPt A' j = zsm (fun h => if A 4 h 0 / 32 = j then A 4 h 3 - A' 4 h 4 else 0) (A 0 0 2) := by
      unfold zPt
      simp only [z0, y40, y43]
    have zl2 : zPt A j = zsm (fun h => if A 4 h 0 / 32 = j then A 4 h 3 - A 4 h 4 else 0) (A 0 0 2) := rfl
    have b2j := b2 j hj'
    rw [zl2] at b2j
    rw [zl, z3]
    by_cases e : j = A 4 q 0 / 32
    · rw [if_pos ⟨e, rfl⟩]
      rw [if_pos e.symm, if_pos e.symm] at s
      omega
    · rw [if_neg (by omega)]
      rw [if_neg (by omega), if_neg (by omega)] at s
      omega
  · have s := zsm_one (f := fun h => A' 4 h 3 - A' 4 h 4) (g := fun h => A 4 h 3 - A 4 h 4) (A 0 0 2) hq (fun i _ ne => by simp only [y43, y44 i ne])
    simp only [y43, y4q] at s
    have s2 := zsm_one (f := fun j => A' 3 j 2) (g := fun j => A 3 j 2) (A 0 0 1) hj (fun i _ ne => by simp only [z3]; rw [if_neg (by omega)])
    simp only [z3, and_true, eq_self, if_true] at s2
    have zl : zPa A' = zsm (fun h => A 4 h 3 - A' 4 h 4) (A 0 0 2) := by
      unfold zPa
      simp only [z0, y43]
    have zl2 : zPa A = zsm (fun h => A 4 h 3 - A 4 h 4) (A 0 0 2) := rfl
    rw [zl2] at b3
    rw [zl, z0]
    simp only [z3, and_true]
    omega
  · refine zg3.eS ⟨?_, ?_, ?_, ?_⟩ xo
    · rw [u3_skipj _ _ (by decide), s6]; exact c1
    · rw [u3_skipj _ _ (by decide), s5]; exact c2
    · simp (disch := decide) only [z0, s4, u3_skip]; exact c3
    · simp (disch := decide) only [z0, u3_skip, u3_skipj]; exact c4
  · refine zg4.eS ⟨?_, ?_⟩ xo
    · simp (disch := decide) only [z0, u3_skip, u3_skipj]; exact g4.1
    · simp (disch := decide) only [z0, u3_skip, u3_skipj]; exact g4.2
  · refine zg5.eS ⟨by rw [u3_skipj _ _ (by decide)]; exact d1, ?_⟩ xo
    intro j hj'
    rw [z0] at hj'
    obtain ⟨b, p1, p2, p3, p4, p5⟩ := d2 j hj'
    simp (disch := decide) only [z0, y30, y31, u3_skip]
    refine ⟨b, p1, p2, fun e => (p3 e).imp id ?_, p4, fun e => ?_⟩
    · rintro ⟨k', q1, q2, q3, q4⟩
      have nk : k' ≠ k := by omega
      exact ⟨k', Nat.lt_succ_of_lt q1, q2, by rw [z10 k' nk]; exact q3, by rw [z11]; exact q4⟩
    · obtain ⟨d, y1, y2, y3, y4⟩ := p5 e
      exact ⟨d, y1, y2, y3, fun q => absurd q (Nat.succ_ne_zero k)⟩
  · refine zg6.eS ⟨?_, ?_⟩ xo
    · obtain ⟨x, x1, x2⟩ := e1
      refine ⟨x + d, by rw [u3_at, x1, Int32.add_assoc, nI_add], ?_⟩
      rw [zsm_congr (g := fun k => A 1 k 4) _ (fun a _ => z1 a 4 (by omega))]
      simp only [zsm]
      omega
    · intro k' hk'
      rw [z0] at hk'
      simp (disch := decide) only [u3_skip]
      rcases e2 k' hk' with e | ⟨q1, q2, q3, q4⟩
      · exact Or.inl e
      · have nk : k' ≠ k := by omega
        exact Or.inr ⟨Nat.lt_succ_of_lt q1, q2, by rw [z1 k' 2 (by omega)]; exact q3, by rw [z10 k' nk]; exact q4⟩
/-- a lad pitches, and is about to finish -/
theorem zg_PDF {T : gY} {k t K : Nat} {A A' : zN} {M S' : gY} (hi : zIV K A) (g1 : zg1 A) (hk : k < A 0 0 0) (h0 : A 1 k 0 = 1) (hz0 : ∀ j, A' 0 0 j = A 0 0 j) (z10 : A' 1 k 0 = 0) (z1 : ∀ i j, ¬ (i = k ∧ j = 0) → A' 1 i j = A 1 i j) (y30 : ∀ j, A' 3 j 0 = A 3 j 0) (y4 : ∀ i j, j ≠ 4 → A' 4 i j = A 4 i j) (y4q : A' 4 (A 1 k 1) 4 = 0) (H : zg1 A' ∧ zg2 A' ∧ zg3 0 A' S' ∧ zg4 A' S' ∧ zg5 (k + 1) t A' M S' ∧ zg6 T (k + 1) A' S') : zgF T (k + 1) t (A 1 k 1) A' M S' := by
  have h1 := hi.k1
  have hk6 : k < 6 := by omega
  have hq := hi.k9 k hk6 (Or.inl h0)
  have i15 := hi.k15
  have i20 := hi.k20
  have held := hi.held hk6 h0
  have w := (hi.k12 _ hq).2.2.2.2.2
  have nf : zfk A (A 1 k 1) = 0 := by
    rcases zfk_01 A (A 1 k 1) with e | e
    · exact e
    · obtain ⟨g, g1, g2, g3⟩ := zfk_iff.mp e
      exact absurd g3.symm (i20 g k g1 g2 hk6 h0)
  have f : ∀ h, zfk A' h = zfk A h := fun h => zfk_congr h (hz0 2) (fun g => ⟨y4 g 0 (by decide), y4 g 1 (by decide)⟩)
  refine ⟨by rw [f, nf]; exact H, ?_, Or.inl y4q, ?_, ?_, ?_⟩
  · rw [y4 _ _ (by decide)]
    have a1 := g1.1 k hk h0
    have a3 := g1.2.2.1 _ hq
    rw [nf] at a3
    omega
  · intro g hg ng e
    rw [hz0] at hg
    rw [y4 _ _ (by decide)] at ng e
    exact absurd e.symm (i20 g k hg ng hk6 h0)
  · intro k' hk' hh
    rw [hz0] at hk'
    rw [z1 k' 1 (by omega)]
    by_cases e : k' = k
    · rw [e, z10] at hh
      omega
    · rw [z1 k' 0 (by omega)] at hh
      rcases hh with hh | hh
      · exact fun c => e (i15 k' k (by omega) hk6 hh h0 c)
      · obtain ⟨-, w1, -⟩ := g1.2.2.2.1 k' hk' hh
        intro c
        rw [c, nf] at w1
        omega
  · rw [y4 _ _ (by decide), y30]
    exact held
