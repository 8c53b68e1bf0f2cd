/-! COUNTS, THE TRIAL, MINUTES over the joint relation -/
theorem jR.counts {n L : Nat} {I : gI} (h : jR n L I) (hL : L < 290) : ok_S_cs I ∧ I 5 1 9 0 = nI L ∧ (∀ w, w < 13 → f_S_counts I 5 9 L w = f_X3_tell I 0 (nI w)) ∧ jR n L (f_S_go_a I) ∧ ∀ y, y ≠ 5 → f_S_go_a I y = I y := by
  obtain ⟨K, A, t, hR, hK, h3, h4, h5, hf, hw0, hw1, hcc, ht, hzh, hzX, hs⟩ := h
  obtain ⟨a1, a2, a3⟩ := zs_counts hR.2.1 hR.2.2.2 hzh.zg hs hL (by omega)
  obtain ⟨b1, b2, b3⟩ := zs_dr hR.2.1 hR.2.2.2 hzh.zg hs hL (by omega)
  have ne : ∀ y, y ≠ 5 → f_S_go_a I y = I y := fun y hy => by
    unfold f_S_go_a f_S_dr
    rw [gset_ne _ _ hy, ne_S_counts _ hy]
  refine ⟨a1, hs.k1.2.2.2.2, fun w hw => by rw [a3 w hw, (zT_count hR hf (nI w)).1], ⟨K, A, t, ?_⟩, ne⟩
  rw [ne 0 (by decide), ne 1 (by decide), ne 2 (by decide), ne 3 (by decide)]
  exact ⟨hR, hK, h3, h4, h5, hf, hw0, hw1, hcc, ht, hzh, hzX, b2⟩
/-- only the trial has changed -/
def jM (J I : gI) : Prop := I 0 = J 0 ∧ I 2 = J 2 ∧ I 3 = J 3 ∧ I 5 = J 5 ∧ wf (I 1) ∧ zCc (I 1)
theorem jM.refl {n L : Nat} {J : gI} (h : jR n L J) : jM J J := by
  obtain ⟨K, A, t, hR, hK, h3, h4, h5, hf, hw0, hw1, hcc, -⟩ := h
  exact ⟨rfl, rfl, rfl, rfl, hw1, hcc⟩
theorem jM.jr {n L : Nat} {J I : gI} (hm : jM J I) (h : jR n L J) : jR n L I := by
  obtain ⟨m0, m2, m3, m5, mw, mc⟩ := hm
  obtain ⟨K, A, t, hR, hK, h3, h4, h5, hf, hw0, hw1, hcc, ht, hzh, hzX, hs⟩ := h
  refine ⟨K, A, t, ?_⟩
  rw [m0, m2, m3, m5]
  exact ⟨hR, hK, h3, h4, h5, hf, hw0, mw, mc, ht, hzh, hzX, hs⟩
theorem jR.lw0 {n L : Nat} {I : gI} (h : jR n L I) : lw0 I := zRel_lw0 h.rel
/-- what a count is behind one minute -/
def cW (J : gI) (w : Nat) : Int32 := f_X6_counted (f_X6_pass J 3 (J 2 11 0 7)) 3 (nI w)
theorem need1 (I : gI) : f_X4_needMinutes_x I 1 60 = 0 := by unfold f_X4_needMinutes_x; decide
theorem jM.foresee {n L w : Nat} {J I : gI} (h : jR n L J) (hm : jM J I) (h3 : 3 ≤ w) (hw : w < 12) : f_X4_foresee_x I 1 (nI w) = 0 ∧ f_X4_foresee_v I 1 (nI w) = cW J w ∧ jM J (f_X4_foresee_s I 1 (nI w)) := by
  have hl := (hm.jr h).lw0
  obtain ⟨K, A, t, hR, hK, k3, k4, k5, hf, hw0, hw1, hcc, ht, hzh, hzX, hs⟩ := h
  obtain ⟨m0, m2, m3, m5, mw, mc⟩ := hm
  have hz := zTr_h A
  have hR0 : zR 6 K A (I 0) (J 2) (J 3) := by rw [m0]; exact hR
  obtain ⟨c1, c2⟩ := zT_copy3 hR0 mc
  obtain ⟨l1, l2, l3, l4⟩ := hl
  have w1 : wf (f_X3_copyFrom I 1 0 1) := wf_X3_copyFrom I 1 0 (by decide) mw (by decide) l1 (by decide) l3 l4
  obtain ⟨r1, ⟨A', r2, r3, -⟩, r4⟩ := zT_run (y := 1) (z := 3) (m := 1) (I := f_X3_copyFrom I 1 0) (J := J) (by decide) (Or.inl rfl) c1 w1 (by decide) (by omega)
  rw [hz.2.2.2] at r3
  have l2' : f_X6_passAll_s J 3 (nI 1) (nI (A 0 0 6)) 2 = J 2 := ne_X6_passAll _ _ _ _ (Or.inl rfl) (by decide)
  have r3' := r3
  rw [← l2'] at r3
  have T := zT_count r3 (by rw [l2', hf, r2 6 (by decide), hz.2.2.2]) (nI w)
  have n3 : ¬ nI w < 3 := nI_nlt (a := w) (b := 3) (by omega) (by omega)
  have n11 : nI w ≤ 11 := nI_le (b := 11) (by omega) (by decide)
  have ex : f_X4_foresee_x I 1 (nI w) = 0 := by simp only [f_X4_foresee_x]; rw [if_pos (need1 I), if_neg n3, if_pos n11]
  have ec : f_X4_foresee_s I 1 (nI w) = f_X3_runMinutes (f_X3_copyFrom I 1 0) 1 (nI 1) := by simp only [f_X4_foresee_s]; rw [if_pos (need1 I), if_neg n3, if_pos n11]; rfl
  have ev : f_X4_foresee_v I 1 (nI w) = f_X3_tell (f_X3_runMinutes (f_X3_copyFrom I 1 0) 1 (nI 1)) 1 (nI w) := by simp only [f_X4_foresee_v]; rw [if_pos (need1 I), if_neg n3, if_pos n11]; rfl
  have nn : ∀ y, y ≠ 1 → f_X3_runMinutes (f_X3_copyFrom I 1 0) 1 (nI 1) y = I y := fun y hy => by
    rw [ne_X3_runMinutes _ 1 (nI 1) (by decide) w1 (isN_nI (by decide) (by decide)) hy, ne_X3_copyFrom I 1 0 (by decide) mw (by decide) l1 (by decide) l3 l4 hy]
  refine ⟨ex, ?_, ?_⟩
  · rw [ev, T.1]
    unfold cW
    rw [hf]
    rfl
  · rw [ec]
    exact ⟨by rw [nn 0 (by decide), m0], by rw [nn 2 (by decide), m2], by rw [nn 3 (by decide), m3], by rw [nn 5 (by decide), m5], r4, zCc_of r3'.1 r3'.2.2.2 (by rw [r2 5 (by decide)]; exact hz.2.2.1)⟩
/-- behind how many minutes; J: the ghost -/
theorem jU_v {K x : Nat} {A : zN} {I J : gI} (hR : zR 6 K A (I 0) (J 2) (J 3)) (hcc : zCc (I 1)) (hl : lw0 I) (hx : x < A 0 0 1) (hK : K ≤ 200000) : f_X4_until_x I (nI x) = 0 ∧ f_X4_until_v I (nI x) = zU x (nI (A 0 0 6)) 300 0 J := by
  have h1 := hR.2.2.2.k1
  have hz := zTr_h A
  obtain ⟨c1, c2⟩ := zT_copy3 hR hcc
  obtain ⟨l1, l2, l3, l4⟩ := hl
  have w1 : wf (f_X3_copyFrom I 1 0 1) := wf_X3_copyFrom I 1 0 (by decide) l2 (by decide) l1 (by decide) l3 l4
  have nd := zA_needL hR.1.k2 hx (by omega)
  have g : ∀ M, M ≤ 1000 → f_X4_until_l1_v (nI x) M 0 (f_X3_copyFrom I 1 0) = zU x (nI (zTr A 0 0 6)) M 0 J := fun M hM => zT_zU (by omega) M 0 K (zTr A) (f_X3_copyFrom I 1 0) J c1 w1 (by rw [hz.2.1]; exact hx) (by omega)
  refine ⟨by simp only [f_X4_until_x]; rw [if_pos nd], ?_⟩
  simp only [f_X4_until_v]
  rw [if_pos nd, g 300 (by decide), hz.2.2.2]
theorem jM.until {n L x : Nat} {J I : gI} (h : jR n L J) (hm : jM J I) {b : Nat} (hb : J 0 0 0 5 = nI b) (b10 : b ≤ 10) (hx : x < b) : f_X4_until_x I (nI x) = 0 ∧ f_X4_until_v I (nI x) = zU x (J 2 11 0 7) 300 0 J ∧ jM J (f_X4_until_s I (nI x)) := by
  have hI := hm.jr h
  have hl := hI.lw0
  obtain ⟨K, A, t, hR, hK, k3, k4, k5, hf, hw0, hw1, hcc, ht, hzh, hzX, hs⟩ := h
  obtain ⟨m0, m2, m3, m5, mw, mc⟩ := hm
  have h1 := hR.2.2.2.k1
  have eb : A 0 0 1 = b := by
    have := hR.1.k2
    rw [hb] at this
    exact ((nI_eq (by omega) (by omega)).mp this).symm
  subst eb
  have hR0 : zR 6 K A (I 0) (J 2) (J 3) := by rw [m0]; exact hR
  obtain ⟨v1, v2⟩ := jU_v (J := J) hR0 mc hl hx (by omega)
  have nd := zA_needL hR0.1.k2 hx (by omega)
  have hR1 : zR 6 K A (I 0) (I 2) (I 3) := by rw [m0, m2, m3]; exact hR
  obtain ⟨T1, T2, T3, T4, T5, T6⟩ := zT_set hR1 hl mc
  have hz := zTr_h A
  have g : ∀ M, M ≤ 1000 → wf (f_X4_until_l1_s (nI x) M 0 (f_X3_copyFrom I 1 0) 1) ∧ zCc (f_X4_until_l1_s (nI x) M 0 (f_X3_copyFrom I 1 0) 1) ∧ ∀ y, y ≠ 1 → f_X4_until_l1_s (nI x) M 0 (f_X3_copyFrom I 1 0) y = I y := fun M hM => by
    obtain ⟨g1, g2, g3, g4, g5, g6⟩ := zT_until (x := x) (by omega) M 0 K (zTr A) (f_X3_copyFrom I 1 0) (f_X5_become_s I 4 3) T1 T4 hz.2.2.1 (by rw [hz.2.1]; exact hx) (by rw [T6 2 (by decide), m2, hf, hz.2.2.2]) (by omega)
    exact ⟨g3, g4, fun y hy => by rw [g5 y hy, T5 y hy]⟩
  obtain ⟨g1, g2, g3⟩ := g 300 (by decide)
  have ec : f_X4_until_s I (nI x) = f_X4_until_l1_s (nI x) 300 0 (f_X3_copyFrom I 1 0) := by simp only [f_X4_until_s]; rw [if_pos nd]
  rw [ec]
  exact ⟨v1, by rw [v2, hf], by rw [g3 0 (by decide), m0], by rw [g3 2 (by decide), m2], by rw [g3 3 (by decide), m3], by rw [g3 5 (by decide), m5], g1, g2⟩
theorem adv_v (x : Int32) : ∀ (m i : Nat) (a b : Int32) (I : gI), i + m = 5 → (∃ j, j < 5 ∧ a = gsz j) → ∃ j, j < 5 ∧ f_X4_advise_l1_v x m i a b I = gsz j := by
  intro m
  induction m with
  | zero => intro i a b I _ h; exact h
  | succ m ih =>
    intro i a b I hi h
    simp only [f_X4_advise_l1_v]
    split
    · exact ih _ _ _ _ (by omega) h
    · exact ih _ _ _ _ (by omega) ⟨i, by omega, rfl⟩
theorem jM.advise {n L p : Nat} {J I : gI} (h : jR n L J) (hm : jM J I) (p1 : 1 ≤ p) (p40 : p ≤ 40) : f_X4_advise_x I (nI p) = 0 ∧ (∃ j, j < 5 ∧ f_X4_advise_v I (nI p) = gsz j) ∧ jM J (f_X4_advise_s I (nI p)) := by
  have hI := hm.jr h
  have hl := hI.lw0
  obtain ⟨K, A, t, hR, hK, k3, k4, k5, hf, hw0, hw1, hcc, ht, hzh, hzX, hs⟩ := h
  obtain ⟨m0, m2, m3, m5, mw, mc⟩ := hm
  have hR1 : zR 6 K A (I 0) (I 2) (I 3) := by rw [m0, m2, m3]; exact hR
  have nd : f_X4_needMinutes_x I (nI p) 40 = 0 := by
    have q1 : ¬ nI p < 1 := nI_nlt (b := 1) p1 (by omega)
    have q2 : nI p ≤ 40 := nI_le (b := 40) p40 (by decide)
    unfold f_X4_needMinutes_x
    rw [if_neg q1, if_pos q2]
  obtain ⟨g1, g2, g3, g4, g5, g6⟩ := zT_adv hR1 p40 (by omega) 5 0 4 4 (-1) I I (by omega) rfl rfl rfl hl mc (Or.inl rfl)
  have ec : f_X4_advise_s I (nI p) = f_X4_advise_l1_s (nI p) 5 0 4 (-1) I := by simp only [f_X4_advise_s]; rw [if_pos nd]
  have ev : f_X4_advise_v I (nI p) = f_X4_advise_l1_v (nI p) 5 0 4 (-1) I := by simp only [f_X4_advise_v]; rw [if_pos nd]
  rw [ec, ev]
  refine ⟨by simp only [f_X4_advise_x]; rw [if_pos nd], adv_v (nI p) 5 0 4 (-1) I (by omega) ⟨0, by decide, rfl⟩, by rw [g5 0 (by decide), m0], by rw [g5 2 (by decide), m2], by rw [g5 3 (by decide), m3], by rw [g5 5 (by decide), m5], g3, g4⟩
