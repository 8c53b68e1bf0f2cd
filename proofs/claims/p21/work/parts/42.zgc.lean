/-! MORE OF THE STATE: what lads do -/
theorem zg_lads {T : gY} {i i' t : Nat} {A A' : zN} {M S : gY} (h : zg T i t A M S) (z0 : ∀ j, A' 0 0 j = A 0 0 j) (z3 : ∀ i j, A' 3 i j = A 3 i j) (z4 : ∀ i j, A' 4 i j = A 4 i j) (z14 : ∀ i, A' 1 i 4 = A 1 i 4) (hi' : i' = i ∨ i' = i + 1)
    (a1' : ∀ k, k < A 0 0 0 → A' 1 k 0 = 1 → 0 < A 4 (A' 1 k 1) 4)
    (a4' : ∀ k, k < A 0 0 0 → A' 1 k 0 = 2 → A 1 k 0 = 2 ∧ A' 1 k 1 = A 1 k 1)
    (k5 : ∀ k, k < i → A 1 k 0 = 1 → A' 1 k 0 = 1 ∧ A' 1 k 1 = A 1 k 1)
    (e2' : ∀ k, k < A 0 0 0 → S 30 0 k = T 30 0 k ∨ (k < i' ∧ S 30 0 k = T 30 0 k + 1 ∧ A' 1 k 2 = 0 ∧ (A' 1 k 0 = 0 ∨ A' 1 k 0 = 3))) : zg T i' t A' M S := by
  have hle : i ≤ i' := by omega
  obtain ⟨⟨a1, a2, a3, a4, a5, a6, a7⟩, ⟨b1, b2, b3⟩, ⟨c1, c2, c3, c4⟩, g4, ⟨d1, d2⟩, ⟨e1, e2⟩⟩ := h
  obtain ⟨f, s1, s2, s3, s4, s5⟩ := zg_sums (A := A) (A' := A') (z0 2) (fun g => z4 g 0) (fun g => z4 g 1) (fun g => z4 g 3) (fun g => z4 g 4)
  have s6 := zJo_congr (A := A) (A' := A') (z0 2) (fun g => z4 g 0) (fun g => z4 g 1) (fun g => z4 g 5)
  refine ⟨⟨?_, ?_, ?_, ?_, ?_, ?_, ?_⟩, ⟨?_, ?_, ?_⟩, ⟨?_, ?_, ?_, ?_⟩, ⟨?_, ?_⟩, ⟨?_, ?_⟩, ⟨?_, ?_⟩⟩
  · simp only [z0, z4]; exact a1'
  · simp only [z0, z4]; exact a2
  · simp only [z0, z4, f]; exact a3
  · intro k hk h2
    rw [z0] at hk
    obtain ⟨p1, p2⟩ := a4' k hk h2
    simp only [z0, z4, f, p2]
    exact a4 k hk p1
  · intro k k' hk hk' h2 h2' e
    rw [z0] at hk hk'
    obtain ⟨p1, p2⟩ := a4' k hk h2
    obtain ⟨q1, q2⟩ := a4' k' hk' h2'
    rw [p2, q2] at e
    exact a5 k k' hk hk' p1 q1 e
  · simp only [z0, z3, z4]; exact a6
  · simp only [z0, z3, z4]; exact a7
  · simp only [z0, z3, z4, s1]; exact b1
  · simp only [z0, z3, z4, s2]; exact b2
  · simp only [z0, z3, s3]; exact b3
  · rw [s6]; exact c1
  · rw [s5]; exact c2
  · simp only [z0, s4]; exact c3
  · simp only [z0]; exact c4
  · simp only [z0]; exact g4.1
  · simp only [z0]; exact g4.2
  · exact d1
  · intro j hj
    rw [z0] at hj
    obtain ⟨b, p1, p2, p3, p4, p5⟩ := d2 j hj
    simp only [z0, z3]
    refine ⟨b, p1, p2, fun e => (p3 e).imp id ?_, p4, fun e => ?_⟩
    · rintro ⟨k', q1, q2, q3, q4⟩
      obtain ⟨r1, r2⟩ := k5 k' q1 q3
      exact ⟨k', Nat.lt_of_lt_of_le q1 hle, q2, r1, by rw [r2]; exact q4⟩
    · obtain ⟨d, y1, y2, y3, y4⟩ := p5 e
      exact ⟨d, y1, y2, y3, fun q => y4 (Nat.eq_zero_of_le_zero (by rw [← q]; exact hle))⟩
  · obtain ⟨x, x1, x2⟩ := e1
    refine ⟨x, x1, ?_⟩
    rw [zsm_congr (g := fun k => A 1 k 4) _ (fun a _ => z14 a)]
    rcases hi' with rfl | rfl
    · exact x2
    · simp only [zsm]
      omega
  · simp only [z0]; exact e2'
theorem zg_TN {T : gY} {k t K : Nat} {A : zN} {M S S' : gY} (hi : zIV K A) (h : zg T k t A M S) (hk : k < A 0 0 0) (h0 : A 1 k 0 = 0) (hm : 0 < A 1 k 2) (x : eS S' S) : zg T k t (zTN A k) M S' := by
  have h1 := hi.k1
  have hq := hi.k10 k 0 (by omega) hm
  have e23 := hi.k23 k 0 (by omega) hm
  have h12 := hi.k12 _ hq
  have a1 := h.1.1
  have e2 := h.2.2.2.2.2.2
  refine zg.eS (zg_lads (i' := k) h (fun j => by simp [zTN, zu, zrow]) (fun i j => by simp [zTN, zu, zrow]) (fun i j => by simp [zTN, zu, zrow]) (fun i => by simp [zTN, zu, zrow]) (Or.inl rfl) (fun k' hk' => ?_) (fun k' hk' => ?_) (fun k' hk' => ?_) (fun k' hk' => ?_)) x
  · have := a1 k' hk'
    simp only [zTN, zu, zrow]
    grind
  · simp only [zTN, zu, zrow]
    grind
  · simp only [zTN, zu, zrow]
    grind
  · have := e2 k' hk'
    simp only [zTN, zu, zrow]
    grind
theorem zg_RS1 {T : gY} {k t : Nat} {A : zN} {M S S' : gY} (h : zg T k t A M S) (hk : k < A 0 0 0) (h0 : A 1 k 0 = 0) (hm : A 1 k 2 = 0) (x : eS S' (u3 S 30 0 k (S 30 0 k + 1))) : zg T (k + 1) t A M S' := by
  have H := h.up
  obtain ⟨g1, g2, g3, g4, g5, ⟨e1, e2⟩⟩ := H
  have e3 := h.2.2.2.2.2.2
  refine zg.eS ⟨g1, g2, ?_, ?_, ?_, ⟨?_, ?_⟩⟩ x
  · simp (disch := decide) only [zg3, u3_skip]; exact g3
  · simp (disch := decide) only [zg4, u3_skip]; exact g4
  · simp (disch := decide) only [zg5, u3_skip]; exact g5
  · simp (disch := decide) only [u3_skip]; exact e1
  · intro k' hk'
    by_cases e : k' = k
    · subst e
      rw [u3_at]
      rcases e3 k' hk' with y | ⟨y, -⟩
      · exact Or.inr ⟨by omega, by rw [y], hm, Or.inl h0⟩
      · omega
    · rw [u3_skipj _ _ e]
      exact e2 k' hk'
theorem zg_RS2 {T : gY} {k t : Nat} {A : zN} {M S S' : gY} (h : zg T k t A M S) (hk : k < A 0 0 0) (h0 : A 1 k 0 = 0) (hm : A 1 k 2 = 0) (x : eS S' (u3 S 30 0 k (S 30 0 k + 1))) : zg T (k + 1) t (zu A 1 k 0 3) M S' := by
  have H := zg_RS1 h hk h0 hm x
  have a1 := H.1.1
  have e2 := H.2.2.2.2.2.2
  refine zg_lads (i' := k + 1) H (fun j => by simp [zu]) (fun i j => by simp [zu]) (fun i j => by simp [zu]) (fun i => by simp [zu]) (Or.inl rfl) (fun k' hk' => ?_) (fun k' hk' => ?_) (fun k' hk' => ?_) (fun k' hk' => ?_)
  · have := a1 k' hk'
    simp only [zu]
    grind
  · simp only [zu]
    grind
  · simp only [zu]
    grind
  · have := e2 k' hk'
    simp only [zu]
    grind
theorem zg_TH {T : gY} {i t v j : Nat} {A : zN} {M S : gY} (h : zg T i t A M S) (hv : v < A 0 0 0) (hj : j < A 0 0 1) : zg T i t A M (u3 (u3 (u3 S 29 0 v (S 29 0 v + 1)) 37 0 j (S 37 0 j + 1)) 20 0 1 (S 20 0 1 + 1)) := by
  obtain ⟨g1, g2, g3, g4, g5, g6⟩ := h
  refine ⟨g1, g2, ?_, ⟨?_, ?_⟩, ?_, ?_⟩
  · simp (disch := decide) only [zg3, u3_skip, u3_skipj]; exact g3
  · simp (disch := decide) only [u3_skip, u3_at]
    rw [← g4.1]
    exact ssm_one (q := v) _ hv (fun i _ ne => by rw [u3_skipj _ _ ne]) (by rw [u3_at])
  · simp (disch := decide) only [u3_skip, u3_at]
    rw [← g4.2]
    exact ssm_one (q := j) _ hj (fun i _ ne => by rw [u3_skipj _ _ ne, u3_skip _ _ _ _ (by decide)]) (by rw [u3_at])
  · simp (disch := decide) only [zg5, u3_skip, u3_skipj]; exact g5
  · simp (disch := decide) only [zg6, u3_skip, u3_skipj]; exact g6
theorem zg_ST {T : gY} {k v t K : Nat} {A : zN} {M S S' : gY} (hi : zIV K A) (h : zg T k t A M S) (hk : k < A 0 0 0) (h0 : A 1 k 0 = 0) (hv : v < A 0 0 0) (hvk : v ≠ k) (hm : 0 < A 1 v 2) (x : eS S' (u3 (u3 (u3 S 29 0 v (S 29 0 v + 1)) 37 0 (A 4 (A 2 v (A 1 v 2 - 1)) 0 / 32) (S 37 0 (A 4 (A 2 v (A 1 v 2 - 1)) 0 / 32) + 1)) 20 0 1 (S 20 0 1 + 1))) : zg T (k + 1) t (zST A k v) M S' := by
  have h1 := hi.k1
  have hq := hi.k10 v (A 1 v 2 - 1) (by omega) (by omega)
  have e23 := hi.k23 v (A 1 v 2 - 1) (by omega) (by omega)
  have h12 := hi.k12 _ hq
  have H := zg_TH (v := v) (j := A 4 (A 2 v (A 1 v 2 - 1)) 0 / 32) h hv (by omega)
  have a1 := H.1.1
  have e2 := H.2.2.2.2.2.2
  refine zg.eS (zg_lads (i' := k + 1) H (fun j => by simp [zST, zu]) (fun i j => by simp [zST, zu]) (fun i j => by simp [zST, zu]) (fun i => by simp [zST, zu]) (Or.inr rfl) (fun k' hk' => ?_) (fun k' hk' => ?_) (fun k' hk' => ?_) (fun k' hk' => ?_)) x
  · have := a1 k' hk'
    simp only [zST, zu]
    grind
  · simp only [zST, zu]
    grind
  · simp only [zST, zu]
    grind
  · have := e2 k' hk'
    simp only [zST, zu]
    grind
theorem zg_YD {T : gY} {k j t K : Nat} {A : zN} {M S S' : gY} (hi : zIV K A) (h : zg T k t A M S) (hk : k < A 0 0 0) (h0 : A 1 k 0 = 0) (hj : j < A 0 0 1) (hs : A 3 j 0 = 0) (x : eS S' S) : zg T (k + 1) t (zu (zu (zu A 3 j 0 1) 1 k 0 1) 1 k 1 (A 3 j 1)) M S' := by
  have h1 := hi.k1
  have hq := hi.k11 j hj
  have e24 := hi.k24 j hj hs
  have h12 := hi.k12 _ hq.1
  obtain ⟨B, hB⟩ : ∃ B, B = zu (zu A 1 k 0 1) 1 k 1 (A 3 j 1) := ⟨_, rfl⟩
  have a1 := h.1.1
  have e2 := h.2.2.2.2.2.2
  have y0 : ∀ j, B 0 0 j = A 0 0 j := fun j => by rw [hB]; simp [zu]
  have y3 : ∀ i j, B 3 i j = A 3 i j := fun i j => by rw [hB]; simp [zu]
  have y4 : ∀ i j, B 4 i j = A 4 i j := fun i j => by rw [hB]; simp [zu]
  have yk : B 1 k 0 = 1 ∧ B 1 k 1 = A 3 j 1 := by rw [hB]; simp [zu]
  have H : zg T (k + 1) t B M S := by
    refine zg_lads (i' := k + 1) h y0 y3 y4 (fun i => by rw [hB]; simp [zu]) (Or.inr rfl) (fun k' hk' => ?_) (fun k' hk' => ?_) (fun k' hk' => ?_) (fun k' hk' => ?_)
    · have := a1 k' hk'
      rw [hB]
      simp only [zu]
      grind
    · rw [hB]
      simp only [zu]
      grind
    · rw [hB]
      simp only [zu]
      grind
    · have := e2 k' hk'
      rw [hB]
      simp only [zu]
      grind
  obtain ⟨A', hA'⟩ : ∃ A', A' = zu (zu (zu A 3 j 0 1) 1 k 0 1) 1 k 1 (A 3 j 1) := ⟨_, rfl⟩
  have z0 : ∀ j, A' 0 0 j = B 0 0 j := fun j => by rw [hA', hB]; simp [zu]
  have z1 : ∀ i j, A' 1 i j = B 1 i j := fun i j => by rw [hA', hB]; simp [zu]
  have z3 : ∀ i c, A' 3 i c = if i = j ∧ c = 0 then 1 else B 3 i c := fun i c => by rw [hA', hB]; simp [zu]
  have z4 : ∀ i j, A' 4 i j = B 4 i j := fun i j => by rw [hA', hB]; simp [zu]
  rw [← hA']
  clear hA' hB
  refine zg.eS ?_ x
  obtain ⟨⟨a1, a2, a3, a4, a5, a6, a7⟩, ⟨b1, b2, b3⟩, ⟨c1, c2, c3, c4⟩, g4, ⟨d1, d2⟩, ⟨e1, e2⟩⟩ := H
  obtain ⟨f, s1, s2, s3, s4, s5⟩ := zg_sums (A := B) (A' := A') (z0 2) (fun g => z4 g 0) (fun g => z4 g 1) (fun g => z4 g 3) (fun g => z4 g 4)
  have s6 := zJo_congr (A := B) (A' := A') (z0 2) (fun g => z4 g 0) (fun g => z4 g 1) (fun g => z4 g 5)
  refine ⟨⟨?_, ?_, ?_, ?_, ?_, ?_, ?_⟩, ⟨?_, ?_, ?_⟩, ⟨?_, ?_, ?_, ?_⟩, ⟨?_, ?_⟩, ⟨?_, ?_⟩, ⟨?_, ?_⟩⟩
  · simp only [z0, z1, z4]; exact a1
  · simp only [z0, z4]; exact a2
  · simp only [z0, z4, f]; exact a3
  · simp only [z0, z1, z4, f]; exact a4
  · simp only [z0, z1]; exact a5
  · intro j' hj' hz
    rw [z0] at hj'
    rw [z3] at hz
    simp only [z0, z4]
    by_cases e : j' = j
    · rw [if_pos ⟨e, rfl⟩] at hz
      omega
    · rw [if_neg (by omega)] at hz
      exact a6 j' hj' hz
  · intro j' hj'
    rw [z0] at hj'
    have := a7 j' hj'
    rw [z3, z3, z4, if_neg (show ¬ (j' = j ∧ 1 = 0) by omega)]
    by_cases e : j' = j
    · rw [e, y3, hs] at this
      rw [if_pos ⟨e, rfl⟩, e]
      constructor
      · intro q; omega
      · intro q
        have := this.mpr q
        omega
    · rw [if_neg (by omega)]
      exact this
  · intro j' hj'
    rw [z0] at hj'
    rw [s1, z3, z3, z4, if_neg (by omega), if_neg (by omega)]
    exact b1 j' hj'
  · intro j' hj'
    rw [z0] at hj'
    rw [s2, z3, if_neg (by omega)]
    exact b2 j' hj'
  · rw [s3, z0, b3]
    exact zsm_congr _ (fun j' _ => by rw [z3, if_neg (by omega)])
  · rw [s6]; exact c1
  · rw [s5]; exact c2
  · simp only [z0, s4]; exact c3
  · simp only [z0]; exact c4
  · simp only [z0]; exact g4.1
  · simp only [z0]; exact g4.2
  · exact d1
  · intro j' hj'
    rw [z0] at hj'
    obtain ⟨b, p1, p2, p3, p4, p5⟩ := d2 j' hj'
    rw [z3, z3, if_neg (show ¬ (j' = j ∧ 1 = 0) by omega)]
    simp only [z0, z1]
    by_cases e : j' = j
    · rw [if_pos ⟨e, trivial⟩]
      refine ⟨b, p1, p2, fun _ => Or.inr ⟨k, by omega, by rw [y0]; exact hk, yk.1, by rw [yk.2, e, y3]⟩, fun _ => p4 (by rw [e, y3, hs]; decide), fun q => absurd q (by decide)⟩
    · rw [if_neg (by omega)]
      exact ⟨b, p1, p2, p3, p4, p5⟩
  · simp only [z1]; exact e1
  · simp only [z0, z1]; exact e2
