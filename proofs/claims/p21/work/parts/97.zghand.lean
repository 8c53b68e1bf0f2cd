/-! MORE OF THE STATE: what is done by hand -/
def zh (t : Nat) (A : zN) (M S : gY) : Prop := zg1 A ∧ zg2 A ∧ zg3 0 A S ∧ zg4 A S ∧ zg5 0 t A M S
theorem zh.zg {t : Nat} {A : zN} {M S : gY} (h : zh t A M S) : zg S 0 t A M S := ⟨h.1, h.2.1, h.2.2.1, h.2.2.2.1, h.2.2.2.2, ⟨0, (Int32.add_zero _).symm, Nat.zero_le _⟩, fun k hk => Or.inl rfl⟩
theorem zgm.zh {T : gY} {t : Nat} {A : zN} {M S : gY} (h : zgm T t A M S) : zh (t + 1) A M S := ⟨h.1, h.2.1, h.2.2.1, h.2.2.2.1, h.2.2.2.2.1⟩
theorem zg.zh {T : gY} {t : Nat} {A : zN} {M S : gY} (h : zg T 0 t A M S) : zh t A M S := ⟨h.1, h.2.1, h.2.2.1, h.2.2.2.1, h.2.2.2.2.1⟩
/-- other numbers of the model don't matter -/
theorem zh.model {t : Nat} {A : zN} {M M' S : gY} (h : zh t A M S) (h15 : ∀ i, M' 15 0 i = M 15 0 i) : zh t A M' S := by
  refine ⟨h.1, h.2.1, h.2.2.1, h.2.2.2.1, h.2.2.2.2.1, fun j hj => ?_⟩
  rw [h15]
  exact h.2.2.2.2.2 j hj
theorem zh.eS {t : Nat} {A : zN} {M S S' : gY} (h : zh t A M S) (x : eS S' S) : zh t A M S' := ⟨h.1, h.2.1, h.2.2.1.eS x, h.2.2.2.1.eS x, h.2.2.2.2.eS x⟩
/-- what it doesn't read -/
theorem zh.same {t : Nat} {A A' : zN} {M S : gY} (h : zh t A M S) (z00 : A' 0 0 0 = A 0 0 0) (z01 : A' 0 0 1 = A 0 0 1) (z02 : A' 0 0 2 = A 0 0 2) (z10 : ∀ i, A' 1 i 0 = A 1 i 0) (z11 : ∀ i, A' 1 i 1 = A 1 i 1) (z3 : ∀ i j, A' 3 i j = A 3 i j) (z4 : ∀ i j, A' 4 i j = A 4 i j) : zh t A' M S := by
  obtain ⟨⟨a1, a2, a3, a4, a5, a6, a7⟩, ⟨b1, b2, b3⟩, ⟨c1, c2, c3, c4⟩, g4, ⟨d1, d2⟩⟩ := h
  obtain ⟨f, s1, s2, s3, s4, s5⟩ := zg_sums (A := A) (A' := A') z02 (fun g => z4 g 0) (fun g => z4 g 1) (fun g => z4 g 3) (fun g => z4 g 4)
  have s6 := zJo_congr (A := A) (A' := A') z02 (fun g => z4 g 0) (fun g => z4 g 1) (fun g => z4 g 5)
  refine ⟨⟨?_, ?_, ?_, ?_, ?_, ?_, ?_⟩, ⟨?_, ?_, ?_⟩, ⟨?_, ?_, ?_, ?_⟩, ⟨?_, ?_⟩, ⟨?_, ?_⟩⟩
  · simp only [z00, z10, z11, z4]; exact a1
  · simp only [z02, z4]; exact a2
  · simp only [z02, z4, f]; exact a3
  · simp only [z00, z02, z10, z11, z4, f]; exact a4
  · simp only [z00, z10, z11]; exact a5
  · simp only [z01, z02, z3, z4]; exact a6
  · simp only [z01, z3, z4]; exact a7
  · simp only [z01, z3, z4, s1]; exact b1
  · simp only [z01, z3, s2]; exact b2
  · simp only [z01, z3, s3]; exact b3
  · rw [s6]; exact c1
  · rw [s5]; exact c2
  · simp only [z01, s4]; exact c3
  · simp only [z01]; exact c4
  · simp only [z00]; exact g4.1
  · simp only [z01]; exact g4.2
  · exact d1
  · intro j hj
    rw [z01] at hj
    obtain ⟨b, p1, p2, p3, p4, p5⟩ := d2 j hj
    rw [z3, z3]
    refine ⟨b, p1, p2, fun e => (p3 e).imp id ?_, p4, p5⟩
    rintro ⟨k', q1, -⟩
    exact absurd q1 (Nat.not_lt_zero _)
theorem zsm_zero {F : Nat → Nat} : ∀ n, (∀ h, h < n → F h = 0) → zsm F n = 0 := by
  intro n
  induction n with
  | zero => intro _; rfl
  | succ n ih => intro h; simp only [zsm]; rw [ih (fun i hi => h i (by omega)), h n (by omega)]
theorem zh_SW {t k b : Nat} {A : zN} {M S : gY} (h : zh t A M S) : zh t (zu A 1 k 5 b) M S := h.same (by simp [zu]) (by simp [zu]) (by simp [zu]) (fun i => by simp [zu]) (fun i => by simp [zu]) (fun i j => by simp [zu]) (fun i j => by simp [zu])
theorem zh_SF {t b : Nat} {A : zN} {M S : gY} (h : zh t A M S) : zh t (zu A 0 0 6 b) M S := h.same (by simp [zu]) (by simp [zu]) (by simp [zu]) (fun i => by simp [zu]) (fun i => by simp [zu]) (fun i j => by simp [zu]) (fun i j => by simp [zu])
theorem zh_WK {t k : Nat} {A : zN} {M S : gY} (h : zh t A M S) (h0 : A 1 k 0 = 3) : zh t (zu A 1 k 0 0) M S := (zg_WK h.zg h0).zh
theorem zh_CM {t s K : Nat} {A : zN} {M S : gY} (hi : zIV K A) (h : zh t A M S) (hn : A 0 0 0 < 6) (s29 : S 29 0 (A 0 0 0) = 0) : zh t (zu (zu A 1 (A 0 0 0) 4 s) 0 0 0 (A 0 0 0 + 1)) M S := by
  have h4 := hi.k4 (A 0 0 0) (Nat.le_refl _) hn
  clear hi
  obtain ⟨⟨a1, a2, a3, a4, a5, a6, a7⟩, ⟨b1, b2, b3⟩, ⟨c1, c2, c3, c4⟩, g4, ⟨d1, d2⟩⟩ := h
  obtain ⟨A', hA'⟩ : ∃ A', A' = zu (zu A 1 (A 0 0 0) 4 s) 0 0 0 (A 0 0 0 + 1) := ⟨_, rfl⟩
  have z00 : A' 0 0 0 = A 0 0 0 + 1 := by rw [hA']; simp [zu]
  have z01 : A' 0 0 1 = A 0 0 1 := by rw [hA']; simp [zu]
  have z02 : A' 0 0 2 = A 0 0 2 := by rw [hA']; simp [zu]
  have z10 : ∀ i, A' 1 i 0 = A 1 i 0 := fun i => by rw [hA']; simp [zu]
  have z11 : ∀ i, A' 1 i 1 = A 1 i 1 := fun i => by rw [hA']; simp [zu]
  have z3 : ∀ i j, A' 3 i j = A 3 i j := fun i j => by rw [hA']; simp [zu]
  have z4 : ∀ i j, A' 4 i j = A 4 i j := fun i j => by rw [hA']; simp [zu]
  rw [← hA']
  clear hA'
  obtain ⟨f, s1, s2, s3, s4, s5⟩ := zg_sums (A := A) (A' := A') z02 (fun g => z4 g 0) (fun g => z4 g 1) (fun g => z4 g 3) (fun g => z4 g 4)
  have s6 := zJo_congr (A := A) (A' := A') z02 (fun g => z4 g 0) (fun g => z4 g 1) (fun g => z4 g 5)
  have old : ∀ k, k < A 0 0 0 + 1 → A 1 k 0 ≠ 0 → k < A 0 0 0 := fun k hk ne => by
    by_cases e : k = A 0 0 0
    · rw [e] at ne; omega
    · omega
  refine ⟨⟨?_, ?_, ?_, ?_, ?_, ?_, ?_⟩, ⟨?_, ?_, ?_⟩, ⟨?_, ?_, ?_, ?_⟩, ⟨?_, ?_⟩, ⟨?_, ?_⟩⟩
  · simp only [z00, z10, z11, z4]; exact fun k hk e => a1 k (old k hk (by omega)) e
  · simp only [z02, z4]; exact a2
  · simp only [z02, z4, f]; exact a3
  · simp only [z00, z02, z10, z11, z4, f]; exact fun k hk e => a4 k (old k hk (by omega)) e
  · simp only [z00, z10, z11]; exact fun k k' hk hk' e e' q => a5 k k' (old k hk (by omega)) (old k' hk' (by omega)) e e' q
  · simp only [z01, z02, z3, z4]; exact a6
  · simp only [z01, z3, z4]; exact a7
  · simp only [z01, z3, z4, s1]; exact b1
  · simp only [z01, z3, s2]; exact b2
  · simp only [z01, z3, s3]; exact b3
  · rw [s6]; exact c1
  · rw [s5]; exact c2
  · simp only [z01, s4]; exact c3
  · simp only [z01]; exact c4
  · rw [z00]
    simp only [ssm]
    rw [s29, Int32.add_zero]
    exact g4.1
  · simp only [z01]; exact g4.2
  · exact d1
  · intro j hj
    rw [z01] at hj
    obtain ⟨b, p1, p2, p3, p4, p5⟩ := d2 j hj
    rw [z3, z3]
    refine ⟨b, p1, p2, fun e => (p3 e).imp id ?_, p4, p5⟩
    rintro ⟨k', q1, -⟩
    exact absurd q1 (Nat.not_lt_zero _)
set_option maxHeartbeats 4000000 in
theorem zh_BR {t x K : Nat} {A : zN} {M S M' S' : gY} (hi : zIV K A) (h : zh t A M S) (hl : A 0 0 1 < 10) (hx : 1 ≤ x ∧ x ≤ 60) (s37 : S 37 0 (A 0 0 1) = 0) (hM : M' 15 0 (A 0 0 1) = S 20 0 0) (hM2 : ∀ j, j ≠ A 0 0 1 → M' 15 0 j = M 15 0 j)
    (xo : eS S' (u3 (u3 S 35 0 (A 0 0 1) (-1)) 36 0 (A 0 0 1) 1)) : zh t (zBR A x) M' S' := by
  have h1 := hi.k1
  have h8 := hi.k8 (A 0 0 1) (Nat.le_refl _) hl
  have i9 := hi.k9
  have i11 := hi.k11
  have i12 := hi.k12
  have i13 := hi.k13
  clear hi
  obtain ⟨N, hN⟩ : ∃ N, N = A 0 0 2 := ⟨_, rfl⟩
  obtain ⟨lo, hlo⟩ : ∃ lo, lo = A 0 0 1 := ⟨_, rfl⟩
  obtain ⟨⟨a1, a2, a3, a4, a5, a6, a7⟩, ⟨b1, b2, b3⟩, ⟨c1, c2, c3, c4⟩, g4, ⟨d1, d2⟩⟩ := h
  obtain ⟨A', hA'⟩ : ∃ A', A' = zBR A x := ⟨_, rfl⟩
  have z00 : A' 0 0 0 = A 0 0 0 := by rw [hA']; simp [zBR, zu]
  have z01 : A' 0 0 1 = lo + 1 := by rw [hA', hlo]; simp [zBR, zu]
  have z02 : A' 0 0 2 = N + 1 := by rw [hA', hN]; simp [zBR, zu]
  have z1 : ∀ i j, A' 1 i j = A 1 i j := fun i j => by rw [hA']; simp [zBR, zu]
  have z3 : ∀ i j, A' 3 i j = if i = lo ∧ j = 1 then N else A 3 i j := fun i j => by rw [hA', hN, hlo]; simp [zBR, zu]
  have z4 : ∀ i j, i < N → A' 4 i j = A 4 i j := fun i j hh => by
    rw [hA']
    simp only [zBR, zu]
    rw [if_neg (by omega), if_neg (by omega), if_neg (by omega), if_neg (by omega), if_neg (by omega), if_neg (by omega), if_neg (by omega), if_neg (by omega), if_neg (by omega)]
  have n40 : A' 4 N 0 = 32 * lo + 1 := by rw [hA', hN, hlo]; simp [zBR, zu]
  have n43 : A' 4 N 3 = x := by rw [hA', hN]; simp [zBR, zu]
  have n44 : A' 4 N 4 = x := by rw [hA', hN]; simp [zBR, zu]
  have n45 : A' 4 N 5 = 0 := by rw [hA', hN]; simp [zBR, zu]
  rw [← hA']
  clear hA'
  rw [← hlo] at s37 hM hM2 xo h8 hl d2 c4 c3 b3 b1 b2 a6 a7 i11 i12
  rw [← hN] at a2 a3 a4 a6 i9 i11 i12 i13
  have g42 : ssm (fun j => S 37 0 j) lo = S 20 0 1 := by rw [hlo]; exact g4.2
  have f : ∀ h, zfk A' h = zfk A h := fun h => by
    unfold zfk
    rw [z02, ← hN]
    simp only [zfb]
    rw [if_neg (by rw [n40]; omega)]
    exact zfb_congr _ (fun g hg => ⟨z4 g 0 hg, z4 g 1 hg⟩)
  have fN : zfk A N = 0 := by
    rcases zfk_01 A N with w | w
    · exact w
    · obtain ⟨g, g1, g2, g3⟩ := zfk_iff.mp w
      have := (i13 g (by omega) g2).1
      omega
  have n40d : A' 4 N 0 / 32 = lo := by rw [n40]; omega
  have lows : ∀ g, g < N → A 4 g 0 / 32 < lo := fun g hg => by
    have := (i12 g hg).1
    omega
  have sLf : ∀ j, zLf A' j = zLf A j + if j = lo then x else 0 := fun j => by
    unfold zLf
    rw [z02, ← hN]
    simp only [zsm, n40d, n44, f, fN]
    rw [zsm_congr (g := fun h => if A 4 h 0 / 32 = j ∧ zfk A h = 0 then A 4 h 4 else 0) N (fun i hi => by simp only [z4 i 0 hi, z4 i 4 hi])]
    by_cases e : j = lo
    · rw [if_pos ⟨e.symm, trivial⟩, if_pos e]
    · rw [if_neg (by omega), if_neg e]
  have lf0 : zLf A lo = 0 := by
    unfold zLf
    rw [← hN]
    exact zsm_zero N (fun g hg => if_neg (by have := lows g hg; omega))
  have sPt : ∀ j, zPt A' j = zPt A j := fun j => by
    unfold zPt
    rw [z02, ← hN]
    simp only [zsm, n43, n44, Nat.sub_self]
    rw [zsm_congr (g := fun h => if A 4 h 0 / 32 = j then A 4 h 3 - A 4 h 4 else 0) N (fun i hi => by simp only [z4 i 0 hi, z4 i 3 hi, z4 i 4 hi])]
    simp
  have pt0 : zPt A lo = 0 := by
    unfold zPt
    rw [← hN]
    exact zsm_zero N (fun g hg => if_neg (by have := lows g hg; omega))
  have sPa : zPa A' = zPa A := by
    unfold zPa
    rw [z02, ← hN]
    simp only [zsm, n43, n44, Nat.sub_self]
    rw [zsm_congr (g := fun h => A 4 h 3 - A 4 h 4) N (fun i hi => by simp only [z4 i 3 hi, z4 i 4 hi])]
    simp
  have sMd : ∀ j, zMd A' j = zMd A j + if j = lo then 1 else 0 := fun j => by
    unfold zMd
    rw [z02, ← hN]
    simp only [zsm, n40d]
    rw [zsm_congr (g := fun h => if A 4 h 0 / 32 = j then 1 else 0) N (fun i hi => by simp only [z4 i 0 hi])]
    by_cases e : j = lo
    · rw [if_pos e.symm, if_pos e]
    · rw [if_neg (by omega), if_neg e]
  have md0 : zMd A lo = 0 := by
    unfold zMd
    rw [← hN]
    exact zsm_zero N (fun g hg => if_neg (by have := lows g hg; omega))
  have sFo : zFo A' = zFo A := by
    unfold zFo
    rw [z02, ← hN]
    simp only [zsm]
    rw [f N, fN, zsm_congr (g := zfk A) N (fun i _ => f i)]
    rfl
  have sJo : zJo A' = zJo A := by
    unfold zJo
    rw [z02, ← hN]
    simp only [zsm, n45]
    rw [zsm_congr (g := fun h => if zfk A h = 1 ∧ A 4 h 5 = 1 then 1 else 0) N (fun i hi => by simp only [f, z4 i 5 hi])]
    simp
  have y30 : ∀ j, A' 3 j 0 = A 3 j 0 := fun j => by rw [z3, if_neg (by omega)]
  have y32 : ∀ j, A' 3 j 2 = A 3 j 2 := fun j => by rw [z3, if_neg (by omega)]
  have y31 : ∀ j, j < lo → A' 3 j 1 = A 3 j 1 := fun j hj => by rw [z3, if_neg (by omega)]
  have y31l : A' 3 lo 1 = N := by rw [z3, if_pos ⟨rfl, rfl⟩]
  have hN9 := fun j (hj : j < lo) => (i11 j hj).1
  refine ⟨⟨?_, ?_, ?_, ?_, ?_, ?_, ?_⟩, ⟨?_, ?_, ?_⟩, ?_, ?_, ?_⟩
  · intro k hk h2
    rw [z00] at hk
    rw [z1] at h2
    rw [z1, z4 _ _ (i9 k (by omega) (Or.inl h2))]
    exact a1 k hk h2
  · intro g hg ng hd
    rw [z02] at hg
    by_cases gN : g < N
    · rw [z4 g 0 gN] at ng
      rw [z4 g 1 gN, z4 _ _ (i13 g gN ng).1] at hd
      rw [z4 g 5 gN]
      exact a2 g gN ng hd
    · exfalso
      rw [show g = N by omega, n40] at ng
      omega
  · intro g hg hd
    rw [z02] at hg
    rw [f]
    by_cases gN : g < N
    · rw [z4 g 5 gN] at hd
      rw [z4 g 4 gN]
      exact a3 g gN hd
    · exfalso
      rw [show g = N by omega, n45] at hd
      omega
  · intro k hk h2
    rw [z00] at hk
    rw [z1] at h2
    obtain ⟨w1, w2, w3⟩ := a4 k hk h2
    rw [z1, z4 _ _ (i9 k (by omega) (Or.inr h2)), f]
    refine ⟨w1, w2, fun g hg ng eg => ?_⟩
    rw [z02] at hg
    by_cases gN : g < N
    · rw [z4 g 0 gN] at ng
      rw [z4 g 1 gN] at eg
      rw [z4 g 5 gN]
      exact w3 g gN ng eg
    · exfalso
      rw [show g = N by omega, n40] at ng
      omega
  · simp only [z00, z1]; exact a5
  · intro j hj hz g hg hh
    rw [z01] at hj
    rw [y30] at hz
    rw [z02] at hg
    by_cases gN : g < N
    · rw [z4 g 0 gN] at hh ⊢
      exact a6 j (by have := lows g gN; omega) hz g gN hh
    · rw [show g = N by omega, n40]
      omega
  · intro j hj
    rw [z01] at hj
    rw [y30]
    by_cases e : j = lo
    · rw [e, y31l, n45, h8.1]
      exact ⟨fun q => absurd q (by decide), fun q => absurd q (by decide)⟩
    · rw [y31 j (by omega), z4 _ _ (hN9 j (by omega))]
      exact a7 j (by omega)
  · intro j hj
    rw [z01] at hj
    rw [y32, sLf]
    by_cases e : j = lo
    · rw [e, y31l, n43, h8.2, lf0, if_pos rfl]
      omega
    · rw [if_neg e, y31 j (by omega), z4 _ _ (hN9 j (by omega))]
      exact b1 j (by omega)
  · intro j hj
    rw [z01] at hj
    rw [y32, sPt]
    by_cases e : j = lo
    · rw [e, pt0, h8.2]
    · exact b2 j (by omega)
  · rw [sPa, z01, b3]
    simp only [zsm, y32, h8.2]
    omega
  · refine zg3.eS ⟨?_, ?_, ?_, ?_⟩ xo
    · simp (disch := decide) only [u3_skip]
      rw [sJo]; exact c1
    · simp (disch := decide) only [u3_skip]
      rw [sFo]; exact c2
    · intro j hj
      rw [z01] at hj
      rw [sMd]
      by_cases e : j = lo
      · rw [e, u3_at, md0, if_pos rfl]
        exact ⟨rfl, by omega⟩
      · rw [u3_skipj _ _ e, u3_skip _ _ _ _ (by decide), if_neg e]
        exact c3 j (by omega)
    · rw [z01]
      simp (disch := decide) only [u3_skip]
      simp only [ssm]
      rw [u3_at, ssm_congr (g := fun j => S 36 0 j) lo (fun j hj => by rw [u3_skipj _ _ (by omega), u3_skip _ _ _ _ (by decide)]), c4, ← nI_1]
      grind
  · refine zg4.eS ⟨?_, ?_⟩ xo
    · simp (disch := decide) only [z00, u3_skip]; exact g4.1
    · simp (disch := decide) only [z01, u3_skip]
      simp only [ssm]
      rw [g42, s37, Int32.add_zero]
  · refine zg5.eS ⟨by simp (disch := decide) only [u3_skip]; exact d1, ?_⟩ xo
    intro j hj
    rw [z01] at hj
    rw [y30]
    by_cases e : j = lo
    · rw [e, hM, d1]
      refine ⟨t, rfl, Nat.le_refl t, fun _ => Or.inl h8.1, fun _ => ?_, fun q => ?_⟩
      · rw [u3_skip _ _ _ _ (by decide), u3_at]
      · rw [h8.1] at q
        exact absurd q (by decide)
    · obtain ⟨b, p1, p2, p3, p4, p5⟩ := d2 j (by omega)
      rw [hM2 j e, u3_skip _ _ _ _ (by decide), u3_skipj _ _ e]
      refine ⟨b, p1, p2, fun q => (p3 q).imp id ?_, p4, p5⟩
      rintro ⟨k', q1, -⟩
      exact absurd q1 (Nat.not_lt_zero _)
