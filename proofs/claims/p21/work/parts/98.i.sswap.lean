/-! SWAP: the Sim does as the ghost -/
theorem sR_SP {L n lo a b ma mb : Nat} {V M S : gY} (h : sR L n lo V M S) (ha : a < n) (hb : b < n) (hab : a ≠ b) (hma : S 31 0 a = nI ma) (hmb : S 31 0 b = nI mb) (ma8 : ma ≤ 8) (mb8 : mb ≤ 8) (h8 : ∀ i, i < n → (S 31 0 i).toNatClampNeg ≤ 8) : sR L n lo (pSwap V a b) M (u3 (u3 (zSW S a b 0) 31 0 a (nI mb)) 31 0 b (nI ma)) := by
  have cma : (nI ma).toNatClampNeg = ma := nI_clamp (by omega)
  have cmb : (nI mb).toNatClampNeg = mb := nI_clamp (by omega)
  have k3 := h.k3
  have k5 := h.k5
  have va : V 6 a 0 = nI ma := by rw [(k3 a ha).2.2.2.2.2.2.2, hma]
  have vb : V 6 b 0 = nI mb := by rw [(k3 b hb).2.2.2.2.2.2.2, hmb]
  unfold pSwap zSW
  refine ⟨?_, ?_, fun i hi => ?_, fun i hi => ?_, fun i p hi => ?_, fun l hl => ?_, fun g hg => ?_, fun i hi => ?_⟩
  · have := h.k1
    simp (disch := decide) only [u3_skip, urow_skip]
    exact this
  · have := h.k2
    simp (disch := decide) only [u3_skip, urow_skip]
    exact this
  · have := k3 i hi
    have w : u3 (u3 (urow (urow V 3 a (V 3 b)) 3 b (V 3 a)) 6 a 0 (V 6 b 0)) 6 b 0 (V 6 a 0) 6 i 0 = u3 (u3 (urow S 32 0 (fun q => if 8 * a + 0 ≤ q ∧ q < 8 * a + 8 then S 32 0 (q - 8 * a + 8 * b) else if 8 * b + 0 ≤ q ∧ q < 8 * b + 8 then S 32 0 (q - 8 * b + 8 * a) else S 32 0 q)) 31 0 a (nI mb)) 31 0 b (nI ma) 31 0 i := by
      have t := this.2.2.2.2.2.2.2
      simp only [u3_eq, urow_eq, va, vb]
      clear k3 k5 h8 h
      grind
    simp (disch := decide) only [u3_skip, urow_skip] at w ⊢
    exact ⟨this.1, this.2.1, this.2.2.1, this.2.2.2.1, this.2.2.2.2.1, this.2.2.2.2.2.1, this.2.2.2.2.2.2.1, w⟩
  · have := h.k4 i hi
    simp (disch := decide) only [u3_skip, urow_skip]
    exact this
  · intro hp
    have e31 : u3 (u3 (urow S 32 0 (fun q => if 8 * a + 0 ≤ q ∧ q < 8 * a + 8 then S 32 0 (q - 8 * a + 8 * b) else if 8 * b + 0 ≤ q ∧ q < 8 * b + 8 then S 32 0 (q - 8 * b + 8 * a) else S 32 0 q)) 31 0 a (nI mb)) 31 0 b (nI ma) 31 0 i = if i = b then nI ma else if i = a then nI mb else S 31 0 i := by
      simp only [u3_eq, urow_eq]
      clear k3 k5 h8 h
      grind
    rw [e31] at hp
    rw [u3_skip _ _ _ _ (by decide), u3_skip _ _ _ _ (by decide), u3_skip _ _ _ _ (show 32 ≠ 31 by decide), u3_skip _ _ _ _ (show 32 ≠ 31 by decide)]
    simp only [urow_eq]
    by_cases eb : i = b
    · rw [if_pos eb, cma] at hp
      rw [if_pos ⟨trivial, eb⟩, k5 a p ha (by rw [hma, cma]; exact hp)]
      simp only [and_self, if_true]
      rw [if_neg (by omega), if_pos (by omega)]
      congr 1
      omega
    · rw [if_neg eb] at hp
      rw [if_neg (by omega)]
      by_cases ea : i = a
      · rw [if_pos ea, cmb] at hp
        rw [if_pos ⟨trivial, ea⟩, k5 b p hb (by rw [hmb, cmb]; exact hp)]
        simp only [and_self, if_true]
        rw [if_pos (by omega)]
        congr 1
        omega
      · rw [if_neg ea] at hp
        have := h8 i hi
        rw [if_neg (by omega), k5 i p hi hp]
        simp only [and_self, if_true]
        rw [if_neg (by omega), if_neg (by omega)]
  · have := h.k6 l hl
    simp (disch := decide) only [u3_skip, urow_skip]
    exact this
  · have := h.k7 g (by simpa (disch := decide) only [u3_skip, urow_skip] using hg)
    simp (disch := decide) only [u3_skip, urow_skip]
    exact this
  · have := h.k8 i hi
    simp (disch := decide) only [u3_skip, urow_skip]
    exact this
