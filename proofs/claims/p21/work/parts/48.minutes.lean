/-! MINUTES, on both sides -/
theorem zT_lads {y z : Nat} (hy : y < 2) (hz : z = 3 ∨ z = 4) (x : Int32) : ∀ (m j K : Nat) (A : zN) (I J : gI), zR 6 K A (I y) (J 2) (J z) → wf (I y) → j + m = A 0 0 0 → K + m ≤ 1000000 →
    ok_f_X6_pass_l1 z (nI (A 0 0 6)) m j J ∧ (∃ A', zH A' A ∧ zR 6 (K + m) A' (gU (f_X3_runMinutes_l2 y x m j I) y 0 0 6 (f_X3_runMinutes_l2 y x m j I y 0 0 6 + 1) y) (J 2) (f_X6_pass_l1 z (nI (A 0 0 6)) m j J z) ∧ ∀ T t, zg T j t A (J 2) (J z) → zgm T t A' (J 2) (f_X6_pass_l1 z (nI (A 0 0 6)) m j J z)) ∧ wf (f_X3_runMinutes_l2 y x m j I y) := by
  intro m
  induction m with
  | zero =>
    intro j K A I J h hwf hj hK
    refine ⟨⟨by rw [h.2.1.k1]; congr 1; omega, fun _ _ => trivial⟩, ⟨A, zH.rfl' A, ?_⟩, hwf⟩
    simp only [f_X3_runMinutes_l2, f_X6_pass_l1, gU_at]
    exact ⟨zR_MI h, fun T t g => zg_MI (by rw [← show j = A 0 0 0 by omega]; exact g)⟩
  | succ m ih =>
    intro j K A I J h hwf hj hK
    have hz2 : z ≠ 2 := by omega
    have h1 := h.2.2.2.k1
    obtain ⟨t1, A1, t2, t3, t4⟩ := zT_turn h hwf hy hz (by omega) (show j < A 0 0 0 by omega)
    have hwf1 : wf ((if I y 1 j 7 = 0 then f_X3_takeTurn I y j else I) y) := by
      split
      · exact wf_X3_takeTurn I y j hy hwf (by omega)
      · exact hwf
    have J2 : f_X6_turn J z (nI j) (nI (A 0 0 6)) 2 = J 2 := ne_X6_turn _ _ _ _ hz (Ne.symm hz2)
    rw [← J2] at t3
    obtain ⟨i1, ⟨A', i2, i3, i5⟩, i4⟩ := ih (j + 1) (K + 1) A1 _ _ t3 hwf1 (by rw [t2 0 (by decide)]; omega) (by omega)
    rw [t2 6 (by decide)] at i1 i3 i5
    have hK2 : K + 1 + m = K + (m + 1) := by omega
    rw [hK2, J2] at i3
    rw [J2] at i5
    have ecl : f_X3_runMinutes_l2 y x (m + 1) j I = f_X3_runMinutes_l2 y x m (j + 1) (if I y 1 j 7 = 0 then f_X3_takeTurn I y j else I) := by
      simp only [f_X3_runMinutes_l2]
      split <;> rfl
    rw [ecl]
    refine ⟨⟨by rw [h.2.1.k1]; congr 1; omega, t1, ?_⟩, ⟨A', i2.trans' t2, i3, fun T t g => i5 T t (t4 T t g)⟩, i4⟩
    rintro _ rfl
    exact i1
theorem zT_pass {y z : Nat} (hy : y < 2) (hz : z = 3 ∨ z = 4) {K : Nat} {A : zN} {I J : gI} (h : zR 6 K A (I y) (J 2) (J z)) (hwf : wf (I y)) (hK : K + 6 ≤ 1000000) (x : Int32) :
    ok_X6_pass J z (nI (A 0 0 6)) ∧ (∃ A', zH A' A ∧ zR 6 (K + 6) A' (gU (f_X3_runMinutes_l2 y x (I y 0 0 4).toNatClampNeg 0 I) y 0 0 6 (f_X3_runMinutes_l2 y x (I y 0 0 4).toNatClampNeg 0 I y 0 0 6 + 1) y) (J 2) (f_X6_pass J z (nI (A 0 0 6)) z) ∧ ∀ T t, zg T 0 t A (J 2) (J z) → zgm T t A' (J 2) (f_X6_pass J z (nI (A 0 0 6)) z)) ∧ wf (gU (f_X3_runMinutes_l2 y x (I y 0 0 4).toNatClampNeg 0 I) y 0 0 6 (f_X3_runMinutes_l2 y x (I y 0 0 4).toNatClampNeg 0 I y 0 0 6 + 1) y) := by
  have h1 := h.2.2.2.k1
  have c1 : (I y 0 0 4).toNatClampNeg = A 0 0 0 := by rw [h.1.k1, nI_clamp (by omega)]
  have c2 : (J 2 11 0 1).toNatClampNeg = A 0 0 0 := by rw [h.2.1.k1, nI_clamp (by omega)]
  have isn : isN (J 2 11 0 1) 6 := by rw [h.2.1.k1]; exact isN_nI (by omega) (by decide)
  obtain ⟨a1, ⟨A', a2, a3, a5⟩, a4⟩ := zT_lads hy hz x (A 0 0 0) 0 K A I J h hwf (by omega) (by omega)
  unfold ok_X6_pass f_X6_pass
  rw [c1, c2]
  exact ⟨⟨isn, a1⟩, ⟨A', a2, a3.le (by omega) hK, a5⟩, wf_gU rfl a4⟩
theorem zT_mins {y z : Nat} (hy : y < 2) (hz : z = 3 ∨ z = 4) (x' x : Int32) : ∀ (m i K : Nat) (A : zN) (I J : gI), zR 6 K A (I y) (J 2) (J z) → wf (I y) → x = nI (i + m) → K + 6 * m ≤ 1000000 →
    ok_f_X6_passAll_l1 z x (nI (A 0 0 6)) m i J ∧ (∃ A', zH A' A ∧ zR 6 (K + 6 * m) A' (f_X3_runMinutes_l1 y x' m i I y) (J 2) (f_X6_passAll_l1_s z x (nI (A 0 0 6)) m i J z) ∧ ∀ t, zg (J z) 0 t A (J 2) (J z) → zg (f_X6_passAll_l1_s z x (nI (A 0 0 6)) m i J z) 0 (t + m) A' (J 2) (f_X6_passAll_l1_s z x (nI (A 0 0 6)) m i J z)) ∧ wf (f_X3_runMinutes_l1 y x' m i I y) := by
  intro m
  induction m with
  | zero =>
    intro i K A I J h hwf hx hK
    exact ⟨⟨hx, trivial⟩, ⟨A, zH.rfl' A, h, fun _ g => g⟩, hwf⟩
  | succ m ih =>
    intro i K A I J h hwf hx hK
    have hz2 : z ≠ 2 := by omega
    obtain ⟨a1, ⟨A1, a2, a3, a5⟩, a4⟩ := zT_pass hy hz h hwf (by omega) x'
    have J2 : f_X6_pass J z (nI (A 0 0 6)) 2 = J 2 := ne_X6_pass _ _ _ hz (Ne.symm hz2)
    rw [← J2] at a3
    obtain ⟨i1, ⟨A', i2, i3, i5⟩, i4⟩ := ih (i + 1) (K + 6) A1 _ _ a3 a4 (by rw [hx]; congr 1; omega) (by omega)
    rw [a2 6 (by decide)] at i1 i3 i5
    rw [J2, show K + 6 + 6 * m = K + 6 * (m + 1) by omega] at i3
    rw [J2] at i5
    refine ⟨⟨hx, a1, ?_⟩, ⟨A', i2.trans' a2, ?_, fun t g => ?_⟩, ?_⟩
    · rintro _ rfl
      exact i1
    · simp only [f_X3_runMinutes_l1, f_X6_passAll_l1_s]
      exact i3
    · simp only [f_X6_passAll_l1_s]
      rw [show t + (m + 1) = t + 1 + m by omega]
      exact i5 (t + 1) (a5 _ t g).zg
    · simp only [f_X3_runMinutes_l1]
      exact i4
theorem zT_run {y z : Nat} (hy : y < 2) (hz : z = 3 ∨ z = 4) {K m : Nat} {A : zN} {I J : gI} (h : zR 6 K A (I y) (J 2) (J z)) (hwf : wf (I y)) (hm : m ≤ 400) (hK : K + 6 * m ≤ 1000000) :
    ok_X6_passAll J z (nI m) (nI (A 0 0 6)) ∧ (∃ A', zH A' A ∧ zR 6 (K + 6 * m) A' (f_X3_runMinutes I y (nI m) y) (J 2) (f_X6_passAll_s J z (nI m) (nI (A 0 0 6)) z) ∧ ∀ t, zg (J z) 0 t A (J 2) (J z) → zg (f_X6_passAll_s J z (nI m) (nI (A 0 0 6)) z) 0 (t + m) A' (J 2) (f_X6_passAll_s J z (nI m) (nI (A 0 0 6)) z)) ∧ wf (f_X3_runMinutes I y (nI m) y) := by
  have c : (nI m).toNatClampNeg = m := nI_clamp (by omega)
  obtain ⟨a1, a2, a3⟩ := zT_mins hy hz (nI m) (nI m) m 0 K A I J h hwf (by congr 1; omega) hK
  unfold ok_X6_passAll f_X6_passAll_s f_X3_runMinutes
  rw [c]
  exact ⟨⟨isN_nI hm (by decide), a1⟩, a2, a3⟩
