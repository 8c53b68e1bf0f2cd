/-! THE CALLS BY HAND -/
theorem wf_cart3 {Z : gY} {k : Nat} {v : Int32} (h : wf Z) (hv : v.toNatClampNeg < 6) : wf (u3 Z 1 k 3 v) := by
  obtain ⟨h1, h2, h3, h4, h5⟩ := h
  refine ⟨h1, h2, fun i hi => ?_, h4, fun i hi => ?_⟩
  · unfold u3
    by_cases e : i = k
    · rw [if_pos ⟨rfl, e, rfl⟩]
      exact hv
    · rw [if_neg (fun q => e q.2.1)]
      exact h3 i hi
  · rw [u3_skipj _ _ (by decide)]
    exact h5 i hi
theorem hI_0 (I' I : gI) : hI 0 I' I = I' := rfl
theorem hI_s {c : Nat} (h : c ≠ 0) (I' I : gI) : hI c I' I = I := if_neg h
theorem nI_m {x : Int32} {m : Nat} (hm : m < 2 ^ 30) (h0 : ¬ x < 0) (h : x ≤ nI m) : ∃ p, p ≤ m ∧ x = nI p := by
  obtain ⟨p, hp, rfl⟩ := nI_of h0
  exact ⟨p, (nI_leI hp (by omega)).mp h, rfl⟩
theorem nI_lo {x : Int32} {a : Nat} (ha : a < 2 ^ 30) (h : ¬ x < nI a) : ¬ x < 0 := by
  rw [Int32.lt_iff_toInt_lt] at *
  rw [nI_toInt (by omega)] at h
  have : (0 : Int32).toInt = 0 := by decide
  omega
theorem nI_rng {x : Int32} {a m : Nat} (ha : a < 2 ^ 30) (hm : m < 2 ^ 30) (h0 : ¬ x < nI a) (h : x ≤ nI m) : ∃ p, a ≤ p ∧ p ≤ m ∧ x = nI p := by
  obtain ⟨p, hp, rfl⟩ := nI_m hm (nI_lo ha h0) h
  exact ⟨p, Nat.le_of_not_lt fun q => h0 (nI_lt q (by omega)), hp, rfl⟩
theorem zS_come {n : Nat} {I : gI} (x : Int32) (h : zRel (n + 1) I) : sp_come (zRel n) I x := by
  have hm := zRel_mono h
  obtain ⟨K, A, hR, hK, h3, h4, h5, hf, hw0, hw1, hcc, t, ht, hzh, hzX⟩ := h
  have h1 := hR.2.2.2.k1
  have hc4 := hR.1.k1
  have hr1 := hR.2.1.k1
  intro I1 e1
  rcases zq_in' (J := gU I1 2 11 0 0 0) (b := x) (lo := 1) (hi := 9) with ⟨b1, b2⟩ | ⟨b1, b3, b2⟩ | ⟨b1, b3, b2⟩
  · have ex : f_X4_come_x I x = 1 := by unfold f_X4_come_x; rw [if_pos b1]
    rw [ex, hI_s (by decide)] at e1
    subst e1
    have es : f_X6_come_s I1 x = gU (gU I1 2 11 0 0 0) 2 11 0 0 1 := by simp only [f_X6_come_s, f_X6_no_s]; rw [if_pos b2]
    refine ⟨?_, ?_⟩
    · rintro _ rfl
      exact ⟨zo_isIn _ _ _ _, fun _ => zno _ _, fun q => absurd b2 q⟩
    · rintro _ rfl
      rw [es, ex]
      exact ⟨(zF1 hm 1).1.symm, fun q => absurd q (by decide), (zF1 hm 1).2⟩
  · have ex : f_X4_come_x I x = 1 := by unfold f_X4_come_x; rw [if_neg b1, if_neg b3]
    rw [ex, hI_s (by decide)] at e1
    subst e1
    have es : f_X6_come_s I1 x = gU (gU I1 2 11 0 0 0) 2 11 0 0 1 := by simp only [f_X6_come_s, f_X6_no_s]; rw [if_pos b2]
    refine ⟨?_, ?_⟩
    · rintro _ rfl
      exact ⟨zo_isIn _ _ _ _, fun _ => zno _ _, fun q => absurd b2 q⟩
    · rintro _ rfl
      rw [es, ex]
      exact ⟨(zF1 hm 1).1.symm, fun q => absurd q (by decide), (zF1 hm 1).2⟩
  · obtain ⟨s, s1, s9, rfl⟩ := nI_rng (a := 1) (m := 9) (by decide) (by decide) b1 b3
    have nb2 : ¬ f_X6_isIn (gU I1 2 11 0 0 0) (nI s) 1 9 = 0 := by rw [b2]; decide
    by_cases h6 : A 0 0 0 < 6
    · have l6 : I 0 0 0 4 < 6 := by rw [hc4]; exact nI_lt (b := 6) h6 (by decide)
      have ex : f_X4_come_x I (nI s) = 0 := by simp only [f_X4_come_x]; rw [if_neg b1, if_pos b3, if_pos l6]
      have cn : (nI (A 0 0 0)).toNatClampNeg = A 0 0 0 := nI_clamp (by omega)
      have ec : f_X4_come_s I (nI s) = f_X3_addLad_s I 0 (nI s) := by simp only [f_X4_come_s]; rw [if_neg b1, if_pos b3, if_pos l6]
      have ea : f_X3_addLad_s I 0 (nI s) = gU (gU I 0 1 (A 0 0 0) 1 (nI s)) 0 0 0 4 (nI (A 0 0 0 + 1)) := by
        simp only [f_X3_addLad_s]
        rw [if_pos l6]
        simp (disch := decide) only [hc4, cn, gU_at, u3_skip, zc_add1]
      have ev : f_X4_come_v I (nI s) = nI (A 0 0 0 + 1) - 1 := by
        simp only [f_X4_come_v]
        rw [if_neg b1, if_pos b3, if_pos l6]
        simp only [f_X3_addLad_v]
        rw [if_pos l6]
        simp (disch := decide) only [hc4, cn, gU_at, u3_skip, zc_add1, u3_at]
      have hwf := wf_X3_addLad I 0 (nI s) (by decide) hw0
      rw [ex, hI_0, ec] at e1
      have z0 : I1 0 = u3 (u3 (I 0) 1 (A 0 0 0) 1 (nI s)) 0 0 4 (nI (A 0 0 0 + 1)) := by rw [e1, ea]; simp only [gU_at]
      have zn : ∀ y, y ≠ 0 → I1 y = I y := fun y hy => by rw [e1, ea]; simp only [gU_ne _ _ _ _ _ hy]
      rw [← e1] at hwf
      have z2 := zn 2 (by decide)
      have n6 : ¬ gU I1 2 11 0 0 0 2 11 0 1 = 6 := by
        rw [gU_at, u3_skipj _ _ (by decide), z2, hr1]
        exact fun q => absurd ((nI_eq (b := 6) (by omega) (by decide)).mp q) (by omega)
      have r1 : gU I1 2 11 0 0 0 2 11 0 1 = nI (A 0 0 0) := by rw [gU_at, u3_skipj _ _ (by decide), z2, hr1]
      have es : f_X6_come_s I1 (nI s) = gU (gU (gU I1 2 11 0 0 0) 2 12 0 (A 0 0 0) (nI s)) 2 11 0 1 (nI (A 0 0 0 + 1)) := by
        simp only [f_X6_come_s]
        rw [if_neg nb2, if_neg n6, r1, cn, gU_at _ 2 12, u3_skip _ _ _ _ (by decide), r1, zc_add1]
      refine ⟨?_, ?_⟩
      · rintro _ rfl
        refine ⟨zo_isIn _ _ _ _, fun _ => zno _ _, fun _ => ⟨fun q => absurd q n6, fun _ => ⟨by rw [r1]; exact vp_in_nI h6 (by decide), fun _ _ _ _ => trivial⟩⟩⟩
      · rintro _ rfl
        rw [es, ex, ev]
        refine ⟨?_, fun _ => ?_, ?_⟩
        · simp (disch := decide) only [gU_at, u3_skip, u3_skipj, u3_at]
          rfl
        · simp only [f_X6_come_v]
          rw [if_neg nb2, if_neg n6, r1, cn, gU_at _ 2 11 0 1, u3_at, gU_at _ 2 12, u3_skip _ _ _ _ (by decide), r1, zc_add1]
        · refine ⟨K, zu (zu A 1 (A 0 0 0) 4 s) 0 0 0 (A 0 0 0 + 1), ?_, by omega, by simp [zu]; exact h3, by simp [zu]; exact h4, by simp [zu]; exact h5, ?_, ?_, ?_, ?_, t, by omega, ?_, ?_⟩
          · simp (disch := decide) only [gU_at, gU_ne]
            rw [z0, z2, zn 3 (by decide)]
            exact zR_CM (zR_TH hR) h3 h6 ⟨s1, s9⟩
          · simp (disch := decide) only [gU_at, u3_skip, u3_skipj]
            rw [z2, hf]
            simp [zu]
          · simp (disch := decide) only [gU_ne]
            exact hwf
          · simp (disch := decide) only [gU_ne]
            rw [zn 1 (by decide)]
            exact hw1
          · simp (disch := decide) only [gU_ne]
            rw [zn 1 (by decide)]
            exact hcc
          · simp (disch := decide) only [gU_at, gU_ne]
            rw [z2, zn 3 (by decide)]
            exact (zh_CM hR.2.2.2 hzh h6 (hzX.1 _ (Nat.le_refl _) h6).2.2.1).model (fun _ => by simp (disch := decide) only [u3_skip])
          · simp (disch := decide) only [gU_at, gU_ne]
            rw [z2, zn 3 (by decide), show zu (zu A 1 (A 0 0 0) 4 s) 0 0 0 (A 0 0 0 + 1) 0 0 0 = A 0 0 0 + 1 by simp [zu], show zu (zu A 1 (A 0 0 0) 4 s) 0 0 0 (A 0 0 0 + 1) 0 0 1 = A 0 0 1 by simp [zu]]
            refine ⟨fun i a b => ?_, hzX.2⟩
            simp (disch := decide) only [u3_skip]
            exact hzX.1 i (by omega) b
    · have e6 : A 0 0 0 = 6 := by omega
      have l6 : ¬ I 0 0 0 4 < 6 := by rw [hc4, e6]; decide
      have ex : f_X4_come_x I (nI s) = 2 := by simp only [f_X4_come_x]; rw [if_neg b1, if_pos b3, if_neg l6]
      rw [ex, hI_s (by decide)] at e1
      subst e1
      have r6 : gU I1 2 11 0 0 0 2 11 0 1 = 6 := by rw [gU_at, u3_skipj _ _ (by decide), hr1, e6]; rfl
      have es : f_X6_come_s I1 (nI s) = gU (gU I1 2 11 0 0 0) 2 11 0 0 2 := by simp only [f_X6_come_s, f_X6_no_s]; rw [if_neg nb2, if_pos r6]
      refine ⟨?_, ?_⟩
      · rintro _ rfl
        exact ⟨zo_isIn _ _ _ _, fun _ => zno _ _, fun _ => ⟨fun _ => zno _ _, fun q => absurd r6 q⟩⟩
      · rintro _ rfl
        rw [es, ex]
        exact ⟨(zF1 hm 2).1.symm, fun q => absurd q (by decide), (zF1 hm 2).2⟩
theorem zS_setWay {n : Nat} {I : gI} (x b : Int32) (h : zRel (n + 1) I) : sp_setWay (zRel n) I x b := by
  have hm := zRel_mono h
  obtain ⟨K, A, hR, hK, h3, h4, h5, hf, hw0, hw1, hcc, t, ht, hzh, hzX⟩ := h
  have h1 := hR.2.2.2.k1
  have hr1 := hR.2.1.k1
  intro I1 e1
  have fail : f_X4_setWay_x I x b = 3 → (f_X6_isLad (gU I 2 11 0 0 0) x = 0 ∨ (f_X6_isLad (gU I 2 11 0 0 0) x = 1 ∧ f_X6_isIn (gU I 2 11 0 0 0) b 0 2 = 0)) → ok_X6_setWay I1 x b ∧ ∀ I2, I2 = f_X6_setWay_s I1 x b → hcode 3 (f_X4_setWay_x I x b) = I2 2 11 0 0 ∧ (f_X4_setWay_x I x b = 0 → f_X4_setWay_v I x b = f_X6_setWay_v I1 x b) ∧ zRel n I2 := by
    intro ex hb
    rw [ex, hI_s (by decide)] at e1
    subst e1
    have es : f_X6_setWay_s I1 x b = gU (gU I1 2 11 0 0 0) 2 11 0 0 1 := by
      simp only [f_X6_setWay_s, f_X6_no_s]
      rcases hb with hb | ⟨ha, hb⟩
      · rw [if_pos hb]
      · rw [if_neg (by rw [ha]; decide), if_pos hb]
    refine ⟨?_, ?_⟩
    · rintro _ rfl
      refine ⟨zo_isLad _ _, fun _ => zno _ _, fun q => ⟨zo_isIn _ _ _ _, fun _ => zno _ _, fun q2 => ?_⟩⟩
      rcases hb with hb | ⟨ha, hb⟩
      · exact absurd hb q
      · exact absurd hb q2
    · rintro _ rfl
      rw [es, ex]
      exact ⟨(zF1 hm 1).1.symm, fun q => absurd q (by decide), (zF1 hm 1).2⟩
  rcases zq_lad (I := I) (J := gU I 2 11 0 0 0) (x := x) hR.1.k1 (zR_J hR 0).2.1.k1 (by omega) with ⟨a1, a2⟩ | ⟨k, hk, rfl, a1, a2⟩
  · exact fail (by simp only [f_X4_setWay_x]; rw [a1]; rfl) (Or.inl a2)
  · rcases zq_in (J := gU I 2 11 0 0 0) (b := b) (lo := 0) (hi := 2) (hi1 := 3) (by decide) with ⟨b1, b2⟩ | ⟨b1, b3, b2⟩ | ⟨b1, b3, b2⟩
    · exact fail (by simp only [f_X4_setWay_x]; rw [if_pos a1, if_pos b1]) (Or.inr ⟨a2, b2⟩)
    · exact fail (by simp only [f_X4_setWay_x]; rw [if_pos a1, if_neg b1, if_neg b3]) (Or.inr ⟨a2, b2⟩)
    · have ck : (nI k).toNatClampNeg = k := nI_clamp (by omega)
      obtain ⟨p, hp, rfl⟩ := nI_of b1
      have hp3 : p < 3 := (nI_ltI (b := 3) hp (by decide)).mp b3
      have ex : f_X4_setWay_x I (nI k) (nI p) = 0 := by simp only [f_X4_setWay_x]; rw [if_pos a1, if_neg b1, if_pos b3]
      have ec : f_X4_setWay_s I (nI k) (nI p) = gU I 0 1 k 2 (nI p) := by simp only [f_X4_setWay_s]; rw [if_pos a1, if_neg b1, if_pos b3, ck]
      have ev : f_X4_setWay_v I (nI k) (nI p) = I 0 1 k 2 := by simp only [f_X4_setWay_v]; rw [if_pos a1, if_neg b1, if_pos b3, ck]
      rw [ex, hI_0, ec] at e1
      have zn : ∀ y, y ≠ 0 → I1 y = I y := fun y hy => by rw [e1, gU_ne _ _ _ _ _ hy]
      have z0 : I1 0 = u3 (I 0) 1 k 2 (nI p) := by rw [e1, gU_at]
      have z2 := zn 2 (by decide)
      have eL : f_X6_isLad (gU I1 2 11 0 0 0) (nI k) = 1 := by
        rw [← a2]
        unfold f_X6_isLad
        simp only [gU_at, z2, f_X6_isIn]
      have eB : f_X6_isIn (gU I1 2 11 0 0 0) (nI p) 0 2 = 1 := b2
      have nL : ¬ f_X6_isLad (gU I1 2 11 0 0 0) (nI k) = 0 := by rw [eL]; decide
      have nB : ¬ f_X6_isIn (gU I1 2 11 0 0 0) (nI p) 0 2 = 0 := by rw [eB]; decide
      have es : f_X6_setWay_s I1 (nI k) (nI p) = gU (gU I1 2 11 0 0 0) 2 13 0 k (nI p) := by simp only [f_X6_setWay_s]; rw [if_neg nL, if_neg nB, ck]
      refine ⟨?_, ?_⟩
      · rintro _ rfl
        exact ⟨zo_isLad _ _, fun _ => zno _ _, fun q => ⟨zo_isIn _ _ _ _, fun _ => zno _ _, fun _ => ⟨vp_in_nI (by omega) (by decide), fun _ _ => trivial⟩⟩⟩
      · rintro _ rfl
        rw [es, ex, ev]
        refine ⟨?_, fun _ => ?_, ?_⟩
        · simp (disch := decide) only [gU_at, u3_skip, u3_at]
          rfl
        · simp only [f_X6_setWay_v]
          rw [if_neg nL, if_neg nB, ck, gU_at, u3_skip _ _ _ _ (by decide), z2, hR.1.k11 k (by omega), hR.2.1.k9 k (by omega)]
        · refine ⟨K, zu A 1 k 5 p, ?_, by omega, by simp [zu]; exact h3, by simp [zu]; exact h4, by simp [zu]; exact h5, ?_, ?_, ?_, ?_, t, by omega, ?_, ?_⟩
          · simp (disch := decide) only [gU_at, gU_ne]
            rw [z0, z2, zn 3 (by decide)]
            exact zR_SW (zR_TH hR) hk (by omega)
          · simp (disch := decide) only [gU_at, u3_skip, u3_skipj]
            rw [z2, hf]
            simp [zu]
          · simp (disch := decide) only [gU_ne]
            rw [z0]
            exact wf_u3 rfl hw0
          · simp (disch := decide) only [gU_ne]
            rw [zn 1 (by decide)]
            exact hw1
          · simp (disch := decide) only [gU_ne]
            rw [zn 1 (by decide)]
            exact hcc
          · simp (disch := decide) only [gU_at, gU_ne]
            rw [z2, zn 3 (by decide)]
            exact (zh_SW hzh).model (fun _ => by simp (disch := decide) only [u3_skip])
          · simp (disch := decide) only [gU_at, gU_ne]
            rw [z2, zn 3 (by decide), show zu A 1 k 5 p 0 0 0 = A 0 0 0 by simp [zu], show zu A 1 k 5 p 0 0 1 = A 0 0 1 by simp [zu]]
            refine ⟨fun i a b => ?_, hzX.2⟩
            rw [u3_skipj _ _ (by omega), u3_skip _ _ _ _ (by decide)]
            exact hzX.1 i a b
theorem zS_setFork {n : Nat} {I : gI} (x : Int32) (h : zRel (n + 1) I) : sp_setFork (zRel n) I x := by
  have hm := zRel_mono h
  obtain ⟨K, A, hR, hK, h3, h4, h5, hf, hw0, hw1, hcc, t, ht, hzh, hzX⟩ := h
  have h1 := hR.2.2.2.k1
  intro I1 e1
  have fail : f_X4_setFork_x I x = 1 → f_X6_isIn (gU I 2 11 0 0 0) x 4 60 = 0 → ok_X6_setFork I1 x ∧ ∀ I2, I2 = f_X6_setFork_s I1 x → hcode 1 (f_X4_setFork_x I x) = I2 2 11 0 0 ∧ (f_X4_setFork_x I x = 0 → f_X4_setFork_v I x = f_X6_setFork_v I1 x) ∧ zRel n I2 := by
    intro ex hb
    rw [ex, hI_s (by decide)] at e1
    subst e1
    have es : f_X6_setFork_s I1 x = gU (gU I1 2 11 0 0 0) 2 11 0 0 1 := by simp only [f_X6_setFork_s, f_X6_no_s]; rw [if_pos hb]
    refine ⟨?_, ?_⟩
    · rintro _ rfl
      exact ⟨zo_isIn _ _ _ _, fun _ => zno _ _, fun _ _ _ => trivial⟩
    · rintro _ rfl
      rw [es, ex]
      exact ⟨(zF1 hm 1).1.symm, fun q => absurd q (by decide), (zF1 hm 1).2⟩
  rcases zq_in' (J := gU I 2 11 0 0 0) (b := x) (lo := 4) (hi := 60) with ⟨b1, b2⟩ | ⟨b1, b3, b2⟩ | ⟨b1, b3, b2⟩
  · exact fail (by simp only [f_X4_setFork_x]; rw [if_pos b1]) b2
  · exact fail (by simp only [f_X4_setFork_x]; rw [if_neg b1, if_neg b3]) b2
  · obtain ⟨p, p4, p60, rfl⟩ := nI_rng (a := 4) (m := 60) (by decide) (by decide) b1 b3
    have ex : f_X4_setFork_x I (nI p) = 0 := by simp only [f_X4_setFork_x]; rw [if_neg b1, if_pos b3]
    have ec : f_X4_setFork_s I (nI p) = gU I 0 0 0 7 (nI p) := by simp only [f_X4_setFork_s]; rw [if_neg b1, if_pos b3]
    have ev : f_X4_setFork_v I (nI p) = I 0 0 0 7 := by simp only [f_X4_setFork_v]; rw [if_neg b1, if_pos b3]
    rw [ex, hI_0, ec] at e1
    have zn : ∀ y, y ≠ 0 → I1 y = I y := fun y hy => by rw [e1, gU_ne _ _ _ _ _ hy]
    have z0 : I1 0 = u3 (I 0) 0 0 7 (nI p) := by rw [e1, gU_at]
    have z2 := zn 2 (by decide)
    have nB : ¬ f_X6_isIn (gU I1 2 11 0 0 0) (nI p) 4 60 = 0 := by
      rw [show f_X6_isIn (gU I1 2 11 0 0 0) (nI p) 4 60 = 1 from b2]
      decide
    have es : f_X6_setFork_s I1 (nI p) = gU (gU I1 2 11 0 0 0) 2 11 0 7 (nI p) := by simp only [f_X6_setFork_s]; rw [if_neg nB]
    refine ⟨?_, ?_⟩
    · rintro _ rfl
      exact ⟨zo_isIn _ _ _ _, fun _ => zno _ _, fun _ _ _ => trivial⟩
    · rintro _ rfl
      rw [es, ex, ev]
      refine ⟨?_, fun _ => ?_, ?_⟩
      · simp (disch := decide) only [gU_at, u3_skipj, u3_at]
        rfl
      · simp only [f_X6_setFork_v]
        rw [if_neg nB, gU_at, u3_skipj _ _ (by decide), z2, hR.1.k3, hf]
      · refine ⟨K, zu A 0 0 6 p, ?_, by omega, by simp [zu]; exact h3, by simp [zu]; exact h4, by simp [zu]; exact h5, ?_, ?_, ?_, ?_, t, by omega, ?_, ?_⟩
        · simp (disch := decide) only [gU_at, gU_ne]
          rw [z0, z2, zn 3 (by decide)]
          exact zR_SF (zR_TH hR) ⟨p4, p60⟩
        · simp (disch := decide) only [gU_at, u3_at]
          simp [zu]
        · simp (disch := decide) only [gU_ne]
          rw [z0]
          exact wf_u3 rfl hw0
        · simp (disch := decide) only [gU_ne]
          rw [zn 1 (by decide)]
          exact hw1
        · simp (disch := decide) only [gU_ne]
          rw [zn 1 (by decide)]
          exact hcc
        · simp (disch := decide) only [gU_at, gU_ne]
          rw [z2, zn 3 (by decide)]
          exact (zh_SF hzh).model (fun _ => by simp (disch := decide) only [u3_skip])
        · simp (disch := decide) only [gU_at, gU_ne]
          rw [z2, zn 3 (by decide), show zu A 0 0 6 p 0 0 0 = A 0 0 0 by simp [zu], show zu A 0 0 6 p 0 0 1 = A 0 0 1 by simp [zu]]
          refine ⟨fun i a b => ?_, hzX.2⟩
          simp (disch := decide) only [u3_skip]
          exact hzX.1 i a b
