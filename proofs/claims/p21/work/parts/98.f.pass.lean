/-! MINUTES AND WHAT WOULD BE -/
theorem zT_that {I J : gI} {A : zN} {y z K : Nat} (h : zR 6 K A (I y) (J 2) (J z)) (hf : J 2 11 0 7 = nI (A 0 0 6)) : f_X3_tell I y 3 = f_X6_loadsThat J z 2 ∧ ok_X6_loadsThat J z 2 := by
  have T := zT_count h hf 3
  have e : f_X6_counted J z 3 = f_X6_loadsThat J z 2 := by
    unfold f_X6_counted
    rw [if_neg (by decide), if_neg (by decide), if_neg (by decide), if_pos rfl]
  rw [e] at T
  exact ⟨T.1, ((((T.2.2 (by decide)).2 (by decide)).2 (by decide)).1 rfl).1⟩
theorem zCc_of {K : Nat} {A : zN} {Y : gY} (hc : zCL A Y) (hi : zIV K A) (h5 : A 0 0 5 = 1) : zCc Y := fun i h => by rw [hc.k4 i h, hi.k6 h5 i h]
theorem zq_min {I J : gI} {x : Int32} {m : Nat} (hm : m < 2 ^ 30) : (f_X4_needMinutes_x I x (nI m) = 1 ∧ f_X6_isIn J x 1 (nI m) = 0) ∨ ∃ p, 1 ≤ p ∧ p ≤ m ∧ x = nI p ∧ f_X4_needMinutes_x I x (nI m) = 0 ∧ f_X6_isIn J x 1 (nI m) = 1 := by
  unfold f_X4_needMinutes_x
  rcases zq_in' (J := J) (b := x) (lo := 1) (hi := nI m) with ⟨b1, b2⟩ | ⟨b1, b3, b2⟩ | ⟨b1, b3, b2⟩
  · exact Or.inl ⟨if_pos b1, b2⟩
  · exact Or.inl ⟨by rw [if_neg b1, if_neg b3], b2⟩
  · obtain ⟨p, p1, pm, rfl⟩ := nI_rng (a := 1) (by decide) hm b1 b3
    exact Or.inr ⟨p, p1, pm, rfl, by rw [if_neg b1, if_pos b3], b2⟩
theorem zf_mins (x' x : Int32) : ∀ (m i K : Nat) (A : zN) (I J : gI), zR 6 K A (I 0) (J 2) (J 3) → wf (I 0) → x = nI (i + m) → K + 6 * m ≤ 1000000 → zFr (A 0 0 0) (A 0 0 1) (J 3) (f_X6_passAll_l1_s 3 x (nI (A 0 0 6)) m i J 3) := by
  intro m
  induction m with
  | zero => intro i K A I J _ _ _ _; exact zFr.rfl' _ _ _
  | succ m ih =>
    intro i K A I J h hwf hx hK
    obtain ⟨a1, ⟨A1, a2, a3, -⟩, a4⟩ := zT_pass (show 0 < 2 by decide) (Or.inl rfl) h hwf (by omega) x'
    have f := zf_pass h hwf (by omega)
    have J2 : f_X6_pass J 3 (nI (A 0 0 6)) 2 = J 2 := ne_X6_pass _ _ _ (Or.inl rfl) (by decide)
    rw [← J2] at a3
    have g := ih (i + 1) (K + 6) A1 _ _ a3 a4 (by rw [hx]; congr 1; omega) (by omega)
    rw [a2 0 (by decide), a2 1 (by decide), a2 6 (by decide)] at g
    simp only [f_X6_passAll_l1_s]
    exact f.tr g
theorem zf_run {K m : Nat} {A : zN} {I J : gI} (h : zR 6 K A (I 0) (J 2) (J 3)) (hwf : wf (I 0)) (hm : m ≤ 400) (hK : K + 6 * m ≤ 1000000) : zFr (A 0 0 0) (A 0 0 1) (J 3) (f_X6_passAll_s J 3 (nI m) (nI (A 0 0 6)) 3) := by
  have c : (nI m).toNatClampNeg = m := nI_clamp (by omega)
  have := zf_mins (nI m) (nI m) m 0 K A I J h hwf (by congr 1; omega) hK
  unfold f_X6_passAll_s
  rw [c]
  exact this
theorem zS_pass {n : Nat} {I : gI} (x : Int32) (h : zRel (n + 1) I) : sp_pass (zRel n) I x := by
  have hm := zRel_mono h
  obtain ⟨K, A, hR, hK, h3, h4, h5, hf, hw0, hw1, hcc, t, ht, hzh, hzX⟩ := h
  have hi := hR.2.2.2
  intro I1 e1
  rcases zq_min (I := I) (J := gU I1 2 11 0 0 0) (x := x) (m := 60) (by decide) with ⟨a1, a2⟩ | ⟨p, p1, p60, rfl, a1, a2⟩
  · have ex : f_X4_pass_x I x = 1 := by simp only [f_X4_pass_x]; rw [show f_X4_needMinutes_x I x 60 = 1 from a1]; rfl
    rw [ex, hI_s (by decide)] at e1
    subst e1
    have es : f_X6_pass__s I1 x = gU (gU I1 2 11 0 0 0) 2 11 0 0 1 := by simp only [f_X6_pass__s, f_X6_no_s]; rw [show f_X6_isIn (gU I1 2 11 0 0 0) x 1 60 = 0 from a2]; rfl
    refine ⟨?_, ?_⟩
    · rintro _ rfl
      exact ⟨zo_isIn _ _ _ _, fun _ => zno _ _, fun q => absurd a2 q⟩
    · rintro _ rfl
      rw [es, ex]
      exact ⟨(zF1 hm 1).1.symm, fun q => absurd q (by decide), (zF1 hm 1).2⟩
  · have a1 : f_X4_needMinutes_x I (nI p) 60 = 0 := a1
    have nB : ¬ f_X6_isIn (gU I1 2 11 0 0 0) (nI p) 1 60 = 0 := by rw [show f_X6_isIn (gU I1 2 11 0 0 0) (nI p) 1 60 = 1 from a2]; decide
    have ex : f_X4_pass_x I (nI p) = 0 := by simp only [f_X4_pass_x]; rw [if_pos a1]
    have ec : f_X4_pass_s I (nI p) = f_X3_runMinutes I 0 (nI p) := by simp only [f_X4_pass_s]; rw [if_pos a1]
    have ev : f_X4_pass_v I (nI p) = f_X3_tell (f_X3_runMinutes I 0 (nI p)) 0 3 - f_X3_tell I 0 3 := by simp only [f_X4_pass_v]; rw [if_pos a1]
    rw [ex, hI_0, ec] at e1
    have isn : isN (nI p) 400 := isN_nI (by omega) (by decide)
    have zn : ∀ y, y ≠ 0 → I1 y = I y := fun y hy => by rw [e1]; exact ne_X3_runMinutes I 0 (nI p) (by decide) hw0 isn hy
    have z2 := zn 2 (by decide)
    have z3 := zn 3 (by decide)
    obtain ⟨K1, hK1⟩ : ∃ X, gU I1 2 11 0 0 0 = X := ⟨_, rfl⟩
    have k2 : K1 2 = u3 (I 2) 11 0 0 0 := by rw [← hK1, gU_at, z2]
    have kn : ∀ y, y ≠ 2 → K1 y = I1 y := fun y hy => by rw [← hK1, gU_ne _ _ _ _ _ hy]
    have k3 : K1 3 = I 3 := by rw [kn 3 (by decide), z3]
    have kf : K1 2 11 0 7 = nI (A 0 0 6) := by rw [k2, u3_skipj _ _ (by decide), hf]
    have hR1 : zR 6 K A (I 0) (K1 2) (K1 3) := by rw [k2, k3]; exact zR_TH hR
    obtain ⟨r1, ⟨A', r2, r3, r5⟩, r4⟩ := zT_run (y := 0) (z := 3) (m := p) (by decide) (Or.inl rfl) hR1 hw0 (by omega) (by omega)
    have l2 : f_X6_passAll_s K1 3 (nI p) (nI (A 0 0 6)) 2 = K1 2 := ne_X6_passAll _ _ _ _ (Or.inl rfl) (by decide)
    have ln : ∀ y, y ≠ 3 → f_X6_passAll_s K1 3 (nI p) (nI (A 0 0 6)) y = K1 y := fun y hy => ne_X6_passAll _ _ _ _ (Or.inl rfl) hy
    obtain ⟨I2, hI2⟩ : ∃ X, f_X6_passAll_s K1 3 (nI p) (nI (A 0 0 6)) = X := ⟨_, rfl⟩
    have fr := zf_run (m := p) hR1 hw0 (by omega) (by omega)
    rw [hI2] at r3 l2 ln r5 fr
    rw [← e1] at r3 r4
    have hR2 : zR 6 (K + 6 * p) A' (I1 0) (I2 2) (I2 3) := by rw [l2]; exact r3
    have kf2 : I2 2 11 0 7 = nI (A' 0 0 6) := by rw [l2, kf, r2 6 (by decide)]
    have t1 := zT_that (I := I) (y := 0) hR1 kf
    have t2 := zT_that (I := I1) (y := 0) hR2 kf2
    rw [hK1] at nB
    have es : f_X6_pass__s I1 (nI p) = I2 := by simp only [f_X6_pass__s, hK1]; rw [if_neg nB, kf, hI2]
    have esv : f_X6_pass__v I1 (nI p) = f_X6_loadsThat I2 3 2 - f_X6_loadsThat K1 3 2 := by simp only [f_X6_pass__v, hK1]; rw [if_neg nB, kf, hI2]
    refine ⟨?_, ?_⟩
    · unfold ok_X6_pass_
      rw [hK1]
      rintro _ rfl
      refine ⟨zo_isIn _ _ _ _, fun _ => zno _ _, fun _ => ⟨t1.2, by rw [kf]; exact r1, ?_⟩⟩
      rintro _ rfl
      rw [kf, hI2]
      exact ⟨t2.2, trivial⟩
    · rintro _ rfl
      rw [es, ex, ev, esv, ← e1, t1.1, t2.1]
      refine ⟨by rw [l2, k2, u3_at]; rfl, fun _ => rfl, ?_⟩
      refine ⟨K + 6 * p, A', ?_, by omega, by rw [r2 3 (by decide)]; exact h3, by rw [r2 4 (by decide)]; exact h4, by rw [r2 5 (by decide)]; exact h5, kf2, ?_, ?_, ?_, t + p, by omega, ?_, ?_⟩
      · rw [ln 0 (by decide), kn 0 (by decide)]
        exact hR2
      · rw [ln 0 (by decide), kn 0 (by decide)]
        exact r4
      · rw [ln 1 (by decide), kn 1 (by decide), zn 1 (by decide)]
        exact hw1
      · rw [ln 1 (by decide), kn 1 (by decide), zn 1 (by decide)]
        exact hcc
      · rw [l2, k2]
        rw [k2, k3] at r5
        exact (r5 t (hzh.model (fun _ => by rw [u3_skip _ _ _ _ (by decide)])).zg).zh
      · rw [r2 0 (by decide), r2 1 (by decide), l2, k2]
        rw [k3] at fr
        refine zX.fr ?_ fr
        refine ⟨fun i a b => ?_, hzX.2⟩
        rw [u3_skip _ _ _ _ (by decide)]
        exact hzX.1 i a b
