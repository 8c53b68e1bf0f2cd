/-! MORE OF THE STATE: a lad forks -/
theorem zIV.nfk {K k : Nat} {A : zN} (hi : zIV K A) (hk : k < 6) (h0 : A 1 k 0 = 1) : zfk A (A 1 k 1) = 0 := by
  rcases zfk_01 A (A 1 k 1) with e | e
  · exact e
  · obtain ⟨g, g1, g2, g3⟩ := zfk_iff.mp e
    exact absurd g3.symm (hi.k20 g k g1 g2 hk h0)
set_option maxHeartbeats 4000000 in
theorem zg_FK {T : gY} {k t K : Nat} {A : zN} {M S S' : gY} (hi : zIV K A) (h : zg T k t A M S) (hk : k < A 0 0 0) (h0 : A 1 k 0 = 1) (hl : A 4 (A 1 k 1) 4 = A 4 (A 1 k 1) 3) (hb : A 0 0 6 < A 4 (A 1 k 1) 3)
    (xo : eS S' (u3 (u3 S 36 0 (A 4 (A 1 k 1) 0 / 32) (S 36 0 (A 4 (A 1 k 1) 0 / 32) + 2)) 20 0 2 (S 20 0 2 + 1))) : zg T (k + 1) t (zFK A k) M S' := by
  have h1 := hi.k1
  have hk6 : k < 6 := by omega
  have hq := hi.k9 k hk6 (Or.inl h0)
  have h12 := hi.k12 _ hq
  have i11 := hi.k11
  have i9 := hi.k9
  have i13 := hi.k13
  have nf := hi.nfk hk6 h0
  have held := hi.held hk6 h0
  have hp16 := (zB_half h12.2.2.2.1 h12.2.1 (by omega)).1
  clear hi
  obtain ⟨A', hA'⟩ : ∃ A', A' = zFK A k := ⟨_, rfl⟩
  obtain ⟨q, hq'⟩ : ∃ q, q = A 1 k 1 := ⟨_, rfl⟩
  obtain ⟨N, hN⟩ : ∃ N, N = A 0 0 2 := ⟨_, rfl⟩
  have z00 : ∀ j, j ≠ 2 → A' 0 0 j = A 0 0 j := fun j hj => by rw [hA']; simp [zFK, zu, zrow, hj]
  have z02 : A' 0 0 2 = N + 2 := by rw [hA', hN]; simp [zFK, zu, zrow]
  have z3 : ∀ i j, A' 3 i j = A 3 i j := fun i j => by rw [hA']; simp [zFK, zu, zrow]
  have z1 : ∀ i j, ¬ (i = k ∧ (j = 1 ∨ j = 2)) → A' 1 i j = A 1 i j := fun i j hh => by
    rw [hA']
    simp only [zFK, zu, zrow]
    rw [if_neg (by omega), if_neg (by omega), if_neg (by omega), if_neg (by omega), if_neg (by omega), if_neg (by omega), if_neg (by omega), if_neg (by omega), if_neg (by omega), if_neg (by omega), if_neg (by omega), if_neg (by omega), if_neg (by omega), if_neg (by omega), if_neg (by omega), if_neg (by omega)]
  have z11 : A' 1 k 1 = N := by rw [hA', hN]; simp [zFK, zu, zrow]
  have z4 : ∀ i j, i < N → A' 4 i j = A 4 i j := fun i j hh => by
    rw [hA']
    simp only [zFK, zu, zrow]
    rw [if_neg (by omega), if_neg (by omega), if_neg (by omega), if_neg (by omega), if_neg (by omega), if_neg (by omega), if_neg (by omega), if_neg (by omega), if_neg (by omega), if_neg (by omega), if_neg (by omega), if_neg (by omega), if_neg (by omega), if_neg (by omega), if_neg (by omega), if_neg (by omega)]
  have n40 : A' 4 N 0 = A 4 q 0 + A 4 q 0 % 32 := by rw [hA', hN, hq']; simp [zFK, zu, zrow]
  have n41 : A' 4 N 1 = q := by rw [hA', hN, hq']; simp [zFK, zu, zrow]
  have n43 : A' 4 N 3 = A 4 q 3 / 2 := by rw [hA', hN, hq']; simp [zFK, zu, zrow]
  have n44 : A' 4 N 4 = A 4 q 3 / 2 := by rw [hA', hN, hq']; simp [zFK, zu, zrow]
  have n45 : A' 4 N 5 = 0 := by rw [hA', hN]; simp [zFK, zu, zrow]
  have m40 : A' 4 (N + 1) 0 = A 4 q 0 + A 4 q 0 % 32 + 1 := by rw [hA', hN, hq']; simp [zFK, zu, zrow]
  have m41 : A' 4 (N + 1) 1 = q := by rw [hA', hN, hq']; simp [zFK, zu, zrow]
  have m43 : A' 4 (N + 1) 3 = A 4 q 3 - A 4 q 3 / 2 := by rw [hA', hN, hq']; simp [zFK, zu, zrow]
  have m44 : A' 4 (N + 1) 4 = A 4 q 3 - A 4 q 3 / 2 := by rw [hA', hN, hq']; simp [zFK, zu, zrow]
  have m45 : A' 4 (N + 1) 5 = 0 := by rw [hA', hN]; simp [zFK, zu, zrow]
  rw [← hA']
  clear hA'
  rw [← hq'] at nf hl hb h12 hq held hp16 xo
  rw [← hN] at hq
  have i9 := fun i hi hh => hN ▸ i9 i hi hh
  have i11 := fun j hj => hN ▸ (i11 j hj).1
  have i13 := fun g hg ng => (hN ▸ (i13 g (hN ▸ hg) ng).1 : A 4 g 1 < N)
  have hN3 : N ≤ 320 := by omega
  have f : ∀ h, zfk A' h = if h = q then 1 else zfk A h := fun h => by
    have e : zfk A' h = 1 ↔ h = q ∨ zfk A h = 1 := by
      rw [zfk_iff, zfk_iff, z02, ← hN]
      constructor
      · rintro ⟨g, g1, g2, g3⟩
        by_cases gN : g < N
        · right
          rw [z4 g 0 gN] at g2
          rw [z4 g 1 gN] at g3
          exact ⟨g, gN, g2, g3⟩
        · left
          rcases (show g = N ∨ g = N + 1 by omega) with r | r
          · rw [r, n41] at g3; exact g3.symm
          · rw [r, m41] at g3; exact g3.symm
      · rintro (r | ⟨g, g1, g2, g3⟩)
        · exact ⟨N, by omega, by rw [n40]; omega, by rw [n41, r]⟩
        · exact ⟨g, by omega, by rw [z4 g 0 g1]; exact g2, by rw [z4 g 1 g1]; exact g3⟩
    by_cases c : h = q
    · rw [if_pos c]; exact e.mpr (Or.inl c)
    · rw [if_neg c]
      rcases zfk_01 A h with w | w
      · rcases zfk_01 A' h with w' | w'
        · rw [w, w']
        · exact absurd (e.mp w') (fun r => r.elim c (fun r => by omega))
      · rw [w]; exact e.mpr (Or.inr w)
  have fN : ∀ h, N ≤ h → zfk A h = 0 := fun h hh => by
    rcases zfk_01 A h with w | w
    · exact w
    · obtain ⟨g, g1, g2, g3⟩ := zfk_iff.mp w
      have := i13 g (hN ▸ g1) g2
      omega
  obtain ⟨⟨a1, a2, a3, a4, a5, a6, a7⟩, ⟨b1, b2, b3⟩, ⟨c1, c2, c3, c4⟩, g4, ⟨d1, d2⟩, ⟨e1, e2⟩⟩ := h
  have j0 : A 4 q 0 / 32 < A 0 0 1 := by omega
  have qd : A 4 q 5 = 0 := by
    have x1 := a1 k hk h0
    rw [← hq'] at x1
    have x2 := a3 q (hN ▸ hq)
    omega
  have tk : A 3 (A 4 q 0 / 32) 0 ≠ 0 := fun e => held (a6 _ j0 e q (hN ▸ hq) rfl) e
  have h40 : A' 4 N 0 / 32 = A 4 q 0 / 32 := by rw [n40]; omega
  have h41 : A' 4 (N + 1) 0 / 32 = A 4 q 0 / 32 := by rw [m40]; omega
  have sFo : zFo A' = zFo A + 1 := by
    unfold zFo
    rw [z02, ← hN]
    simp only [zsm]
    have s := zsm_one (f := zfk A') (g := zfk A) N hq (fun i _ ne => by rw [f, if_neg ne])
    rw [f q, if_pos rfl, nf] at s
    rw [f N, f (N + 1), if_neg (by omega), if_neg (by omega), fN N (Nat.le_refl N), fN (N + 1) (by omega)]
    omega
  have sJo : zJo A' = zJo A := by
    unfold zJo
    rw [z02, ← hN]
    simp only [zsm, n45, m45]
    rw [zsm_congr (g := fun h => if zfk A h = 1 ∧ A 4 h 5 = 1 then 1 else 0) N (fun i hi => by
      simp only [f, z4 i 5 hi]
      by_cases c : i = q
      · rw [if_pos c, c, qd]; simp
      · rw [if_neg c])]
    simp
  have sMd : ∀ j, zMd A' j = zMd A j + if A 4 q 0 / 32 = j then 2 else 0 := fun j => by
    unfold zMd
    rw [z02, ← hN]
    simp only [zsm, h40, h41]
    rw [zsm_congr (g := fun h => if A 4 h 0 / 32 = j then 1 else 0) N (fun i hi => by simp only [z4 i 0 hi])]
    split <;> omega
  have sLf : ∀ j, zLf A' j = zLf A j := fun j => by
    unfold zLf
    rw [z02, ← hN]
    simp only [zsm, h40, h41, n44, m44]
    have s := zsm_one (f := fun h => if A' 4 h 0 / 32 = j ∧ zfk A' h = 0 then A' 4 h 4 else 0) (g := fun h => if A 4 h 0 / 32 = j ∧ zfk A h = 0 then A 4 h 4 else 0) N hq (fun i hi ne => by simp only [z4 i 0 hi, z4 i 4 hi, f, if_neg ne])
    simp only [f q, z4 q 0 hq, z4 q 4 hq, nf, if_true] at s
    rw [f N, f (N + 1), if_neg (show ¬ N = q by omega), if_neg (show ¬ N + 1 = q by omega), fN N (Nat.le_refl N), fN (N + 1) (by omega)]
    by_cases c : A 4 q 0 / 32 = j
    · rw [if_pos ⟨c, trivial⟩, if_neg (by omega)] at s
      rw [if_pos ⟨c, rfl⟩, if_pos ⟨c, rfl⟩]
      omega
    · rw [if_neg (by omega), if_neg (by omega)] at s
      rw [if_neg (by omega), if_neg (by omega)]
      omega
  have sPt : ∀ j, zPt A' j = zPt A j := fun j => by
    unfold zPt
    rw [z02, ← hN]
    simp only [zsm, n43, n44, m43, m44, Nat.sub_self]
    rw [zsm_congr (g := fun h => if A 4 h 0 / 32 = j then A 4 h 3 - A 4 h 4 else 0) N (fun i hi => by simp only [z4 i 0 hi, z4 i 3 hi, z4 i 4 hi])]
    simp
  have sPa : zPa A' = zPa A := by
    unfold zPa
    rw [z02, ← hN]
    simp only [zsm, n43, n44, m43, m44, Nat.sub_self]
    rw [zsm_congr (g := fun h => A 4 h 3 - A 4 h 4) N (fun i hi => by simp only [z4 i 3 hi, z4 i 4 hi])]
    simp
  have y00 := z00 0 (by decide)
  have y01 := z00 1 (by decide)
  refine ⟨⟨?_, ?_, ?_, ?_, ?_, ?_, ?_⟩, ⟨?_, ?_, ?_⟩, ?_, ?_, ?_, ?_⟩
  · intro k' hk' h2
    rw [y00] at hk'
    by_cases e : k' = k
    · rw [e, z11, n44]
      omega
    · rw [z1 k' 0 (by omega)] at h2
      rw [z1 k' 1 (by omega), z4 _ _ (i9 k' (by omega) (Or.inl h2))]
      exact a1 k' hk' h2
  · intro g hg ng hd
    rw [z02] at hg
    by_cases gN : g < N
    · rw [z4 g 0 gN] at ng
      rw [z4 g 1 gN, z4 _ _ (i13 g gN ng)] at hd
      rw [z4 g 5 gN]
      exact a2 g (hN ▸ gN) ng hd
    · exfalso
      rcases (show g = N ∨ g = N + 1 by omega) with r | r
      · rw [r, n41, z4 q 5 hq] at hd; omega
      · rw [r, m41, z4 q 5 hq] at hd; omega
  · intro g hg hd
    rw [z02] at hg
    rw [f]
    by_cases gN : g < N
    · rw [z4 g 5 gN] at hd
      rw [z4 g 4 gN]
      rcases a3 g (hN ▸ gN) hd with w | w
      · exact Or.inl w
      · right
        split
        · rfl
        · exact w
    · exfalso
      rcases (show g = N ∨ g = N + 1 by omega) with r | r
      · rw [r, n45] at hd; omega
      · rw [r, m45] at hd; omega
  · intro k' hk' h2
    rw [y00] at hk'
    rw [z1 k' 0 (by omega)] at h2
    have e : k' ≠ k := by rintro rfl; omega
    obtain ⟨w1, w2, w3⟩ := a4 k' hk' h2
    have w0 := i9 k' (by omega) (Or.inr h2)
    rw [z1 k' 1 (by omega), z4 _ _ w0, f]
    refine ⟨w1, ?_, fun g hg ng eg => ?_⟩
    · split
      · rfl
      · exact w2
    · rw [z02] at hg
      by_cases gN : g < N
      · rw [z4 g 0 gN] at ng
        rw [z4 g 1 gN] at eg
        rw [z4 g 5 gN]
        exact w3 g (hN ▸ gN) ng eg
      · exfalso
        have : A 1 k' 1 = q := by
          rcases (show g = N ∨ g = N + 1 by omega) with r | r
          · rw [r, n41] at eg; exact eg.symm
          · rw [r, m41] at eg; exact eg.symm
        rw [this] at w2
        omega
  · intro k1 k2 hk1 hk2 h2 h2' he
    rw [y00] at hk1 hk2
    rw [z1 k1 0 (by omega)] at h2
    rw [z1 k2 0 (by omega)] at h2'
    have e1 : k1 ≠ k := by rintro rfl; omega
    have e2 : k2 ≠ k := by rintro rfl; omega
    rw [z1 k1 1 (by omega), z1 k2 1 (by omega)] at he
    exact a5 k1 k2 hk1 hk2 h2 h2' he
  · intro j hj hz g hg hh
    rw [y01] at hj
    rw [z3] at hz
    rw [z02] at hg
    by_cases gN : g < N
    · rw [z4 g 0 gN] at hh ⊢
      exact a6 j hj hz g (hN ▸ gN) hh
    · exfalso
      rcases (show g = N ∨ g = N + 1 by omega) with r | r
      · rw [r, h40] at hh; rw [← hh] at hz; exact tk hz
      · rw [r, h41] at hh; rw [← hh] at hz; exact tk hz
  · intro j hj
    rw [y01] at hj
    rw [z3, z3, z4 _ _ (i11 j hj)]
    exact a7 j hj
  · intro j hj
    rw [y01] at hj
    rw [z3, z3, z4 _ _ (i11 j hj), sLf]
    exact b1 j hj
  · intro j hj
    rw [y01] at hj
    rw [z3, sPt]
    exact b2 j hj
  · rw [sPa, y01, b3]
    exact zsm_congr _ (fun j _ => by rw [z3])
  · refine zg3.eS ⟨?_, ?_, ?_, ?_⟩ xo
    · rw [u3_skipj _ _ (by decide), u3_skip _ _ _ _ (by decide), sJo]; exact c1
    · rw [u3_at, sFo, c2, nI_1]
    · intro j hj
      rw [y01] at hj
      rw [u3_skip _ _ _ _ (by decide), sMd]
      obtain ⟨w1, w2⟩ := c3 j hj
      by_cases c : A 4 q 0 / 32 = j
      · rw [if_pos c, c, u3_at, w1]
        exact ⟨nI_add _ 2, by omega⟩
      · rw [if_neg c, u3_skipj _ _ (fun e => c e.symm)]
        exact ⟨w1, w2⟩
    · rw [y01, u3_at]
      simp (disch := decide) only [u3_skip]
      rw [ssm_one (q := A 4 q 0 / 32) (g := fun j => S 36 0 j) (d := 2) _ j0 (fun i _ ne => by rw [u3_skipj _ _ ne]) (by rw [u3_at]), c4]
      grind
  · refine zg4.eS ⟨?_, ?_⟩ xo
    · simp (disch := decide) only [y00, u3_skip, u3_skipj]; exact g4.1
    · simp (disch := decide) only [y01, u3_skip, u3_skipj]; exact g4.2
  · refine zg5.eS ⟨by rw [u3_skipj _ _ (by decide), u3_skip _ _ _ _ (by decide)]; exact d1, ?_⟩ xo
    intro j hj'
    rw [y01] at hj'
    obtain ⟨b, p1, p2, p3, p4, p5⟩ := d2 j hj'
    simp (disch := decide) only [y00, z3, u3_skip]
    refine ⟨b, p1, p2, fun e => (p3 e).imp id ?_, p4, fun e => ?_⟩
    · rintro ⟨k', q1, q2, q3, q4⟩
      have nk : k' ≠ k := by omega
      exact ⟨k', Nat.lt_succ_of_lt q1, q2, by rw [z1 k' 0 (by omega)]; exact q3, by rw [z1 k' 1 (by omega)]; exact q4⟩
    · obtain ⟨d, y1, y2, y3, y4⟩ := p5 e
      exact ⟨d, y1, y2, y3, fun q => absurd q (Nat.succ_ne_zero k)⟩
  · refine zg6.eS ⟨?_, ?_⟩ xo
    · obtain ⟨x, x1, x2⟩ := e1
      refine ⟨x, by rw [u3_skipj _ _ (by decide), u3_skip _ _ _ _ (by decide)]; exact x1, ?_⟩
      rw [zsm_congr (g := fun k => A 1 k 4) _ (fun a _ => z1 a 4 (by omega))]
      simp only [zsm]
      omega
    · intro k' hk'
      rw [y00] at hk'
      simp (disch := decide) only [u3_skip]
      rcases e2 k' hk' with e | ⟨q1, q2, q3, q4⟩
      · exact Or.inl e
      · have nk : k' ≠ k := by omega
        exact Or.inr ⟨Nat.lt_succ_of_lt q1, q2, by rw [z1 k' 2 (by omega)]; exact q3, by rw [z1 k' 0 (by omega)]; exact q4⟩
/-- the minute's end -/
def zgm (T : gY) (t : Nat) (A : zN) (M S : gY) : Prop := zg1 A ∧ zg2 A ∧ zg3 0 A S ∧ zg4 A S ∧ zg5 0 (t + 1) A M S ∧ zg6 T (A 0 0 0) A S
theorem zg_MI {T : gY} {t : Nat} {A : zN} {M S : gY} (h : zg T (A 0 0 0) t A M S) : zgm T t A M (u3 S 20 0 0 (S 20 0 0 + 1)) := by
  obtain ⟨g1, g2, g3, g4, ⟨d1, d2⟩, g6⟩ := h
  refine ⟨g1, g2, ?_, ?_, ⟨by rw [u3_at, d1, nI_1], fun j hj => ?_⟩, ?_⟩
  · simp (disch := decide) only [zg3, u3_skip, u3_skipj]; exact g3
  · simp (disch := decide) only [zg4, u3_skip, u3_skipj]; exact g4
  · obtain ⟨b, p1, p2, p3, p4, p5⟩ := d2 j hj
    simp (disch := decide) only [u3_skip]
    refine ⟨b, p1, by omega, fun e => by omega, p4, fun e => ?_⟩
    obtain ⟨d, y1, y2, y3, y4⟩ := p5 e
    exact ⟨d, y1, y2, by omega, fun _ => by omega⟩
  · simp (disch := decide) only [zg6, u3_skip, u3_skipj]; exact g6
theorem zgm.zg {T : gY} {t : Nat} {A : zN} {M S : gY} (h : zgm T t A M S) : zg S 0 (t + 1) A M S := by
  obtain ⟨g1, g2, g3, g4, g5, g6⟩ := h
  exact ⟨g1, g2, g3, g4, g5, ⟨0, (Int32.add_zero _).symm, Nat.zero_le _⟩, fun k hk => Or.inl rfl⟩
