/-! MINUTES AHEAD (whole's 59) over the greater relation -/
/-- the trial, set up on both sides; I: the class's world, J: the model's -/
theorem zT_set {K : Nat} {A : zN} {I J : gI} (h : zR 6 K A (I 0) (J 2) (J 3)) (hl : lw0 I) (hc : zCc (I 1)) :
    zR 6 K (zTr A) (f_X3_copyFrom I 1 0 1) (f_X5_become_s J 4 3 2) (f_X5_become_s J 4 3 4) ∧ ok_X5_become J 4 3 ∧ zCc (f_X3_copyFrom I 1 0 1) ∧ wf (f_X3_copyFrom I 1 0 1) ∧ (∀ y, y ≠ 1 → f_X3_copyFrom I 1 0 y = I y) ∧ (∀ y, y ≠ 4 → f_X5_become_s J 4 3 y = J y) := by
  obtain ⟨l1, l2, l3, l4⟩ := hl
  obtain ⟨c1, c2, c3⟩ := zT_copy h hc
  have n4 : ∀ y, y ≠ 4 → f_X5_become_s J 4 3 y = J y := fun y hy => ne_X5_become J 4 3 (Or.inr rfl) (Or.inl rfl) hy
  refine ⟨by rw [n4 2 (by decide)]; exact c1, c2, c3, wf_X3_copyFrom I 1 0 (by decide) l2 (by decide) l1 (by decide) l3 l4, fun y hy => ne_X3_copyFrom I 1 0 (by decide) l2 (by decide) l1 (by decide) l3 l4 hy, n4⟩
theorem zTr_h (A : zN) : zTr A 0 0 0 = A 0 0 0 ∧ zTr A 0 0 1 = A 0 0 1 ∧ zTr A 0 0 5 = 1 ∧ zTr A 0 0 6 = A 0 0 6 := by simp [zTr]
theorem zT_until {x : Nat} (hx10 : x < 10) : ∀ (m i K : Nat) (A : zN) (I J : gI), zR 6 K A (I 1) (J 2) (J 4) → wf (I 1) → A 0 0 5 = 1 → x < A 0 0 1 → J 2 11 0 7 = nI (A 0 0 6) → K + 6 * (m + 1) ≤ 1000000 →
    f_X4_until_l1_v (nI x) m i I = f_X6_until_l1_v (nI x) (m + 1) i J ∧ ok_f_X6_until_l1 (nI x) (m + 1) i J ∧ wf (f_X4_until_l1_s (nI x) m i I 1) ∧ zCc (f_X4_until_l1_s (nI x) m i I 1) ∧ (∀ y, y ≠ 1 → f_X4_until_l1_s (nI x) m i I y = I y) ∧ ∀ y, y ≠ 4 → f_X6_until_l1_s (nI x) (m + 1) i J y = J y := by
  have cx : (nI x).toNatClampNeg = x := nI_clamp (by omega)
  intro m
  induction m with
  | zero =>
    intro i K A I J h hw h5 hx hf hK
    have hi := h.2.2.2
    have h1 := hi.k1
    have e : I 1 4 x 1 = J 4 33 0 x := by rw [h.1.k14 x (by omega), h.2.1.k12 x hx]
    obtain ⟨a1, -, -⟩ := zT_pass (y := 1) (z := 4) (by decide) (Or.inr rfl) h hw (by omega) 0
    simp only [f_X4_until_l1_v, f_X6_until_l1_v, f_X4_until_l1_s, f_X6_until_l1_s, ok_f_X6_until_l1, cx, e]
    refine ⟨trivial, ⟨vp_in_nI hx10 (by decide), fun _ => trivial, fun _ => ⟨by rw [hf]; exact a1, fun _ _ => trivial⟩⟩, ?_, ?_, ?_, ?_⟩
    · split <;> exact hw
    · split <;> exact zCc_of h.1 hi h5
    · intro y hy
      split <;> rfl
    · intro y hy
      split
      · rfl
      · exact ne_X6_pass _ _ _ (Or.inr rfl) hy
  | succ m ih =>
    intro i K A I J h hw h5 hx hf hK
    have hi := h.2.2.2
    have h1 := hi.k1
    have e : I 1 4 x 1 = J 4 33 0 x := by rw [h.1.k14 x (by omega), h.2.1.k12 x hx]
    have c1 : (1 : Int32).toNatClampNeg = 1 := by decide
    obtain ⟨a1, ⟨A', a2, a3, -⟩, a4⟩ := zT_pass (y := 1) (z := 4) (by decide) (Or.inr rfl) h hw (by omega) 1
    have er : f_X3_runMinutes I 1 1 = gU (f_X3_runMinutes_l2 1 1 (I 1 0 0 4).toNatClampNeg 0 I) 1 0 0 6 (f_X3_runMinutes_l2 1 1 (I 1 0 0 4).toNatClampNeg 0 I 1 0 0 6 + 1) := by
      unfold f_X3_runMinutes
      rw [c1]
      rfl
    rw [← er] at a3 a4
    have j2 : f_X6_pass J 4 (nI (A 0 0 6)) 2 = J 2 := ne_X6_pass _ _ _ (Or.inr rfl) (by decide)
    have jn : ∀ y, y ≠ 4 → f_X6_pass J 4 (nI (A 0 0 6)) y = J y := fun y hy => ne_X6_pass _ _ _ (Or.inr rfl) hy
    have rn : ∀ y, y ≠ 1 → f_X3_runMinutes I 1 1 y = I y := fun y hy => ne_X3_runMinutes I 1 1 (by decide) hw isN_1 hy
    obtain ⟨g1, g2, g3, g4, g5, g6⟩ := ih (i + 1) (K + 6) A' (f_X3_runMinutes I 1 1) (f_X6_pass J 4 (nI (A 0 0 6))) (by rw [j2]; exact a3) a4 (by rw [a2 5 (by decide)]; exact h5) (by rw [a2 1 (by decide)]; exact hx) (by rw [j2, a2 6 (by decide)]; exact hf) (by omega)
    have hu : f_X6_until_l1_v (nI x) (m + 1 + 1) i J = if J 4 33 0 x = 2 then nI i else f_X6_until_l1_v (nI x) (m + 1) (i + 1) (f_X6_pass J 4 (nI (A 0 0 6))) := by
      rw [f_X6_until_l1_v, cx, hf]
    have hus : f_X6_until_l1_s (nI x) (m + 1 + 1) i J = if J 4 33 0 x = 2 then J else f_X6_until_l1_s (nI x) (m + 1) (i + 1) (f_X6_pass J 4 (nI (A 0 0 6))) := by
      rw [f_X6_until_l1_s, cx, hf]
    have hcu : f_X4_until_l1_v (nI x) (m + 1) i I = if J 4 33 0 x = 2 then nI i else f_X4_until_l1_v (nI x) m (i + 1) (f_X3_runMinutes I 1 1) := by
      rw [f_X4_until_l1_v, cx, e]
    have hcs : f_X4_until_l1_s (nI x) (m + 1) i I = if J 4 33 0 x = 2 then I else f_X4_until_l1_s (nI x) m (i + 1) (f_X3_runMinutes I 1 1) := by
      rw [f_X4_until_l1_s, cx, e]
    have hok : ok_f_X6_until_l1 (nI x) (m + 1 + 1) i J := by
      rw [ok_f_X6_until_l1, cx, hf]
      refine ⟨vp_in_nI hx10 (by decide), fun _ => trivial, fun _ => ⟨a1, ?_⟩⟩
      rintro _ rfl
      exact g2
    rw [hu, hus, hcu, hcs]
    by_cases d : J 4 33 0 x = 2
    · simp only [if_pos d]
      exact ⟨trivial, hok, hw, zCc_of h.1 hi h5, fun _ _ => trivial, fun _ _ => trivial⟩
    · simp only [if_neg d]
      exact ⟨g1, hok, g3, g4, fun y hy => by rw [g5 y hy, rn y hy], fun y hy => by rw [g6 y hy, jn y hy]⟩
theorem zS_until {n : Nat} {I : gI} (x : Int32) (h : zRel (n + 1) I) : sp_until (zRel n) I x := by
  have hm := zRel_mono h
  have hl0 := zRel_lw0 h
  obtain ⟨K, A, hR, hK, h3, h4, h5, hf, hw0, hw1, hcc, t, ht, hzh, hzX⟩ := h
  have hi := hR.2.2.2
  have h1 := hi.k1
  intro I1 e1
  rcases zq_ld (I := I) (J := gU I 2 11 0 0 0) (x := x) hR.1.k2 (zR_J hR 0).2.1.k2 (by omega) with ⟨a1, a2⟩ | ⟨k, hk, rfl, a1, a2⟩
  · have ex : f_X4_until_x I x = 3 := by simp only [f_X4_until_x]; rw [a1]; rfl
    rw [ex, hI_s (by decide)] at e1
    subst e1
    have es : f_X6_until_s I1 x = gU (gU I1 2 11 0 0 0) 2 11 0 0 1 := by simp only [f_X6_until_s, f_X6_no_s]; rw [if_pos a2]
    refine ⟨?_, ?_⟩
    · rintro _ rfl
      exact ⟨zo_isLoad _ _, fun _ => zno _ _, fun q => absurd a2 q⟩
    · rintro _ rfl
      rw [es, ex]
      exact ⟨(zF1 hm 1).1.symm, fun q => absurd q (by decide), (zF1 hm 1).2⟩
  · have ex : f_X4_until_x I (nI k) = 0 := by simp only [f_X4_until_x]; rw [if_pos a1]
    have ec : f_X4_until_s I (nI k) = f_X4_until_l1_s (nI k) 300 0 (f_X3_copyFrom I 1 0) := by simp only [f_X4_until_s]; rw [if_pos a1]
    have ev : f_X4_until_v I (nI k) = f_X4_until_l1_v (nI k) 300 0 (f_X3_copyFrom I 1 0) := by simp only [f_X4_until_v]; rw [if_pos a1]
    obtain ⟨M, hM⟩ : ∃ M : Nat, M = 300 := ⟨_, rfl⟩
    have hM1 : M + 1 = 301 := by omega
    rw [← hM] at ec ev
    rw [ex, hI_0, ec] at e1
    obtain ⟨q0, q1, q5, q6⟩ := zTr_h A
    have step : ∀ X : gI, X 2 = u3 (I 2) 11 0 0 0 → X 3 = I 3 → f_X4_until_l1_v (nI k) M 0 (f_X3_copyFrom I 1 0) = f_X6_until_l1_v (nI k) (M + 1) 0 (f_X5_become_s X 4 3) ∧ ok_f_X6_until_l1 (nI k) (M + 1) 0 (f_X5_become_s X 4 3) ∧ wf (I1 1) ∧ zCc (I1 1) ∧ (∀ y, y ≠ 1 → I1 y = I y) ∧ (∀ y, y ≠ 4 → f_X6_until_l1_s (nI k) (M + 1) 0 (f_X5_become_s X 4 3) y = X y) ∧ ok_X5_become X 4 3 := by
      intro X x2 x3
      obtain ⟨T1, T2, T3, T4, T5, T6⟩ := zT_set (I := I) (J := X) (by rw [x2, x3]; exact zR_TH hR) hl0 hcc
      have kf : f_X5_become_s X 4 3 2 11 0 7 = nI (zTr A 0 0 6) := by rw [T6 2 (by decide), x2, u3_skipj _ _ (by decide), hf, q6]
      obtain ⟨g1, g2, g3, g4, g5, g6⟩ := zT_until (x := k) (by omega) M 0 K (zTr A) (f_X3_copyFrom I 1 0) (f_X5_become_s X 4 3) T1 T4 q5 (by rw [q1]; exact hk) kf (by omega)
      rw [← e1] at g3 g4 g5
      exact ⟨g1, g2, g3, g4, fun y hy => by rw [g5 y hy, T5 y hy], fun y hy => by rw [g6 y hy, T6 y hy], T2⟩
    obtain ⟨-, -, w1, w2, zn, -⟩ := step (gU I 2 11 0 0 0) (by rw [gU_at]) (by rw [gU_ne _ _ _ _ _ (by decide)])
    obtain ⟨K1, hK1⟩ : ∃ X, gU I1 2 11 0 0 0 = X := ⟨_, rfl⟩
    have k2 : K1 2 = u3 (I 2) 11 0 0 0 := by rw [← hK1, gU_at, zn 2 (by decide)]
    have kn : ∀ y, y ≠ 2 → K1 y = I1 y := fun y hy => by rw [← hK1, gU_ne _ _ _ _ _ hy]
    have k3 : K1 3 = I 3 := by rw [kn 3 (by decide), zn 3 (by decide)]
    obtain ⟨g1, g2, -, -, -, g6, T2⟩ := step K1 k2 k3
    have eL : f_X6_isLoad K1 (nI k) = 1 := by
      rw [← a2]
      unfold f_X6_isLoad
      simp only [k2, gU_at, f_X6_isIn]
    have nL : ¬ f_X6_isLoad K1 (nI k) = 0 := by rw [eL]; decide
    have es : f_X6_until_s I1 (nI k) = f_X6_until_l1_s (nI k) (M + 1) 0 (f_X5_become_s K1 4 3) := by
      simp only [f_X6_until_s, hK1]
      rw [if_neg nL, hM1]
    have esv : f_X6_until_v I1 (nI k) = f_X6_until_l1_v (nI k) (M + 1) 0 (f_X5_become_s K1 4 3) := by
      simp only [f_X6_until_v, hK1]
      rw [if_neg nL, hM1]
    refine ⟨?_, ?_⟩
    · unfold ok_X6_until
      rw [hK1, ← hM1]
      rintro _ rfl
      refine ⟨zo_isLoad _ _, fun _ => zno _ _, fun _ => ⟨T2, ?_⟩⟩
      rintro _ rfl
      exact g2
    · rintro _ rfl
      rw [es, ex, ev, esv]
      refine ⟨by rw [g6 2 (by decide), k2, u3_at]; rfl, fun _ => g1, ?_⟩
      refine ⟨K, A, ?_, by omega, h3, h4, h5, ?_, ?_, ?_, ?_, t, by omega, ?_, ?_⟩
      · rw [g6 0 (by decide), g6 2 (by decide), g6 3 (by decide), kn 0 (by decide), zn 0 (by decide), k2, k3]
        exact zR_TH hR
      · rw [g6 2 (by decide), k2, u3_skipj _ _ (by decide)]
        exact hf
      · rw [g6 0 (by decide), kn 0 (by decide), zn 0 (by decide)]
        exact hw0
      · rw [g6 1 (by decide), kn 1 (by decide)]
        exact w1
      · rw [g6 1 (by decide), kn 1 (by decide)]
        exact w2
      · rw [g6 2 (by decide), g6 3 (by decide), k2, k3]
        exact hzh.model (fun _ => by rw [u3_skip _ _ _ _ (by decide)])
      · rw [g6 2 (by decide), g6 3 (by decide), k2, k3]
        refine ⟨fun i a b => ?_, hzX.2⟩
        rw [u3_skip _ _ _ _ (by decide)]
        exact hzX.1 i a b
theorem zS_foresee {n : Nat} {I : gI} (x b : Int32) (h : zRel (n + 1) I) : sp_foresee (zRel n) I x b := by
  have hm := zRel_mono h
  have hl0 := zRel_lw0 h
  obtain ⟨K, A, hR, hK, h3, h4, h5, hf, hw0, hw1, hcc, t, ht, hzh, hzX⟩ := h
  have hi := hR.2.2.2
  have h1 := hi.k1
  intro I1 e1
  rcases zq_min (I := I) (J := gU I 2 11 0 0 0) (x := x) (m := 60) (by decide) with ⟨a1, a2⟩ | ⟨p, p1, p60, rfl, a1, a2⟩
  · have ex : f_X4_foresee_x I x b = 1 := by simp only [f_X4_foresee_x]; rw [show f_X4_needMinutes_x I x 60 = 1 from a1]; rfl
    rw [ex, hI_s (by decide)] at e1
    subst e1
    have es : f_X6_foresee_s I1 x b = gU (gU I1 2 11 0 0 0) 2 11 0 0 1 := by simp only [f_X6_foresee_s, f_X6_no_s]; rw [show f_X6_isIn (gU I1 2 11 0 0 0) x 1 60 = 0 from a2]; rfl
    refine ⟨?_, ?_⟩
    · rintro _ rfl
      exact ⟨zo_isIn _ _ _ _, fun _ => zno _ _, fun q => absurd a2 q⟩
    · rintro _ rfl
      rw [es, ex]
      exact ⟨(zF1 hm 1).1.symm, fun q => absurd q (by decide), (zF1 hm 1).2⟩
  · have a1 : f_X4_needMinutes_x I (nI p) 60 = 0 := a1
    have nB : ∀ X : gI, ¬ f_X6_isIn X (nI p) 1 60 = 0 := fun X => by rw [show f_X6_isIn X (nI p) 1 60 = 1 from a2]; decide
    have fail : f_X4_foresee_x I (nI p) b = 3 → f_X6_isIn (gU I 2 11 0 0 0) b 3 11 = 0 → ok_X6_foresee I1 (nI p) b ∧ ∀ I2, I2 = f_X6_foresee_s I1 (nI p) b → hcode 1 (f_X4_foresee_x I (nI p) b) = I2 2 11 0 0 ∧ (f_X4_foresee_x I (nI p) b = 0 → f_X4_foresee_v I (nI p) b = f_X6_foresee_v I1 (nI p) b) ∧ zRel n I2 := by
      intro ex hb
      rw [ex, hI_s (by decide)] at e1
      subst e1
      have es : f_X6_foresee_s I1 (nI p) b = gU (gU I1 2 11 0 0 0) 2 11 0 0 2 := by simp only [f_X6_foresee_s, f_X6_no_s]; rw [if_neg (nB _), if_pos hb]
      refine ⟨?_, ?_⟩
      · rintro _ rfl
        exact ⟨zo_isIn _ _ _ _, fun _ => zno _ _, fun _ => ⟨zo_isIn _ _ _ _, fun _ => zno _ _, fun q => absurd hb q⟩⟩
      · rintro _ rfl
        rw [es, ex]
        exact ⟨(zF1 hm 2).1.symm, fun q => absurd q (by decide), (zF1 hm 2).2⟩
    rcases zq_in' (J := gU I 2 11 0 0 0) (b := b) (lo := 3) (hi := 11) with ⟨b1, b2⟩ | ⟨b1, b3, b2⟩ | ⟨b1, b3, b2⟩
    · exact fail (by simp only [f_X4_foresee_x]; rw [if_pos a1, if_pos b1]) b2
    · exact fail (by simp only [f_X4_foresee_x]; rw [if_pos a1, if_neg b1, if_neg b3]) b2
    · have nC : ∀ X : gI, ¬ f_X6_isIn X b 3 11 = 0 := fun X => by rw [show f_X6_isIn X b 3 11 = 1 from b2]; decide
      have ex : f_X4_foresee_x I (nI p) b = 0 := by simp only [f_X4_foresee_x]; rw [if_pos a1, if_neg b1, if_pos b3]
      have ec : f_X4_foresee_s I (nI p) b = f_X3_runMinutes (f_X3_copyFrom I 1 0) 1 (nI p) := by simp only [f_X4_foresee_s]; rw [if_pos a1, if_neg b1, if_pos b3]
      have ev : f_X4_foresee_v I (nI p) b = f_X3_tell (f_X3_runMinutes (f_X3_copyFrom I 1 0) 1 (nI p)) 1 b := by simp only [f_X4_foresee_v]; rw [if_pos a1, if_neg b1, if_pos b3]
      rw [ex, hI_0, ec] at e1
      obtain ⟨q0, q1, q5, q6⟩ := zTr_h A
      have isn : isN (nI p) 400 := isN_nI (by omega) (by decide)
      have step : ∀ X : gI, X 2 = u3 (I 2) 11 0 0 0 → X 3 = I 3 → f_X3_tell I1 1 b = f_X6_counted (f_X6_passAll_s (f_X5_become_s X 4 3) 4 (nI p) (nI (A 0 0 6))) 4 b ∧ ok_X6_counted (f_X6_passAll_s (f_X5_become_s X 4 3) 4 (nI p) (nI (A 0 0 6))) 4 b ∧ ok_X6_passAll (f_X5_become_s X 4 3) 4 (nI p) (nI (A 0 0 6)) ∧ ok_X5_become X 4 3 ∧ wf (I1 1) ∧ zCc (I1 1) ∧ (∀ y, y ≠ 1 → I1 y = I y) ∧ (∀ y, y ≠ 4 → f_X6_passAll_s (f_X5_become_s X 4 3) 4 (nI p) (nI (A 0 0 6)) y = X y) ∧ f_X5_become_s X 4 3 2 = X 2 := by
        intro X x2 x3
        obtain ⟨T1, T2, T3, T4, T5, T6⟩ := zT_set (I := I) (J := X) (by rw [x2, x3]; exact zR_TH hR) hl0 hcc
        obtain ⟨r1, ⟨A', r2, r3, -⟩, r4⟩ := zT_run (y := 1) (z := 4) (m := p) (by decide) (Or.inr rfl) T1 T4 (by omega) (by omega)
        rw [q6] at r1 r3
        have ln : ∀ y, y ≠ 4 → f_X6_passAll_s (f_X5_become_s X 4 3) 4 (nI p) (nI (A 0 0 6)) y = f_X5_become_s X 4 3 y := fun y hy => ne_X6_passAll _ _ _ _ (Or.inr rfl) hy
        rw [← e1, ← ln 2 (by decide)] at r3
        have kf : f_X6_passAll_s (f_X5_become_s X 4 3) 4 (nI p) (nI (A 0 0 6)) 2 11 0 7 = nI (A' 0 0 6) := by rw [ln 2 (by decide), T6 2 (by decide), x2, u3_skipj _ _ (by decide), hf, r2 6 (by decide), q6]
        have T := zT_count r3 kf b
        rw [← e1] at r4
        exact ⟨T.1, T.2, r1, T2, r4, zCc_of r3.1 r3.2.2.2 (by rw [r2 5 (by decide)]; exact q5), fun y hy => by rw [e1, ne_X3_runMinutes _ _ _ (by decide) T4 isn hy, T5 y hy], fun y hy => by rw [ln y hy, T6 y hy], T6 2 (by decide)⟩
      obtain ⟨-, -, -, -, w1, w2, zn, -, -⟩ := step (gU I 2 11 0 0 0) (by rw [gU_at]) (by rw [gU_ne _ _ _ _ _ (by decide)])
      obtain ⟨K1, hK1⟩ : ∃ X, gU I1 2 11 0 0 0 = X := ⟨_, rfl⟩
      have k2 : K1 2 = u3 (I 2) 11 0 0 0 := by rw [← hK1, gU_at, zn 2 (by decide)]
      have kn : ∀ y, y ≠ 2 → K1 y = I1 y := fun y hy => by rw [← hK1, gU_ne _ _ _ _ _ hy]
      have k3 : K1 3 = I 3 := by rw [kn 3 (by decide), zn 3 (by decide)]
      obtain ⟨g1, g2, g3, T2, -, -, -, g6, g7⟩ := step K1 k2 k3
      have kf1 : f_X5_become_s K1 4 3 2 11 0 7 = nI (A 0 0 6) := by rw [g7, k2, u3_skipj _ _ (by decide), hf]
      have es : f_X6_foresee_s I1 (nI p) b = f_X6_passAll_s (f_X5_become_s K1 4 3) 4 (nI p) (nI (A 0 0 6)) := by
        simp only [f_X6_foresee_s, hK1]
        rw [if_neg (nB _), if_neg (nC _), kf1]
      have esv : f_X6_foresee_v I1 (nI p) b = f_X6_counted (f_X6_passAll_s (f_X5_become_s K1 4 3) 4 (nI p) (nI (A 0 0 6))) 4 b := by
        simp only [f_X6_foresee_v, hK1]
        rw [if_neg (nB _), if_neg (nC _), kf1]
      refine ⟨?_, ?_⟩
      · unfold ok_X6_foresee
        rw [hK1]
        rintro _ rfl
        refine ⟨zo_isIn _ _ _ _, fun _ => zno _ _, fun _ => ⟨zo_isIn _ _ _ _, fun _ => zno _ _, fun _ => ⟨T2, ?_⟩⟩⟩
        rintro _ rfl
        rw [kf1]
        refine ⟨g3, ?_⟩
        rintro _ rfl
        exact ⟨g2, trivial⟩
      · rintro _ rfl
        rw [es, ex, ev, esv, ← e1]
        refine ⟨by rw [g6 2 (by decide), k2, u3_at]; rfl, fun _ => g1, ?_⟩
        refine ⟨K, A, ?_, by omega, h3, h4, h5, ?_, ?_, ?_, ?_, t, by omega, ?_, ?_⟩
        · rw [g6 0 (by decide), g6 2 (by decide), g6 3 (by decide), kn 0 (by decide), zn 0 (by decide), k2, k3]
          exact zR_TH hR
        · rw [g6 2 (by decide), k2, u3_skipj _ _ (by decide)]
          exact hf
        · rw [g6 0 (by decide), kn 0 (by decide), zn 0 (by decide)]
          exact hw0
        · rw [g6 1 (by decide), kn 1 (by decide)]
          exact w1
        · rw [g6 1 (by decide), kn 1 (by decide)]
          exact w2
        · rw [g6 2 (by decide), g6 3 (by decide), k2, k3]
          exact hzh.model (fun _ => by rw [u3_skip _ _ _ _ (by decide)])
        · rw [g6 2 (by decide), g6 3 (by decide), k2, k3]
          refine ⟨fun i a b => ?_, hzX.2⟩
          rw [u3_skip _ _ _ _ (by decide)]
          exact hzX.1 i a b
