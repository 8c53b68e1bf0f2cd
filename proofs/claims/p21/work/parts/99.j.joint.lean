/-! THE CLASS, THE GHOST, THE SIM: one relation; n: how many more calls change something; L: loose rows -/
def jR (n L : Nat) (I : gI) : Prop := ∃ (K : Nat) (A : zN) (t : Nat), zR 6 K A (I 0) (I 2) (I 3) ∧ K + 360 * n ≤ 200000 ∧ A 0 0 3 = 6 ∧ A 0 0 4 = 10 ∧ A 0 0 5 = 0 ∧ I 2 11 0 7 = nI (A 0 0 6) ∧ wf (I 0) ∧ wf (I 1) ∧ zCc (I 1) ∧ t + 60 * n ≤ 200000 ∧ zh t A (I 2) (I 3) ∧ zX (A 0 0 0) (A 0 0 1) (I 2) (I 3) ∧ sR L (A 0 0 0) (A 0 0 1) (I 5) (I 2) (I 3)
theorem jR.rel {n L : Nat} {I : gI} (h : jR n L I) : zRel n I := by
  obtain ⟨K, A, t, h1, h2, h3, h4, h5, h6, h7, h8, h9, h10, h11, h12, h13⟩ := h
  exact ⟨K, A, h1, h2, h3, h4, h5, h6, h7, h8, h9, t, h10, h11, h12⟩
theorem jR.mono {n L : Nat} {I : gI} (h : jR (n + 1) L I) : jR n L I := by
  obtain ⟨K, A, t, h1, h2, h3, h4, h5, h6, h7, h8, h9, h10, h11, h12, h13⟩ := h
  exact ⟨K, A, t, h1, by omega, h3, h4, h5, h6, h7, h8, h9, by omega, h11, h12, h13⟩
/-- another ghost -/
def gGh (I : gI) (M S : gY) : gI := fun y => if y = 2 then M else if y = 3 then S else I y
theorem gGh_ne (I : gI) (M S : gY) {y : Nat} (h2 : y ≠ 2) (h3 : y ≠ 3) : gGh I M S y = I y := by
  unfold gGh
  rw [if_neg h2, if_neg h3]
theorem LW.gh {E : gE} {F : Nat → Prop} {J : Int64} {D : sD} {I : gI} {H : Heap} (h : LW E F J D I H) (M S : gY) : LW E F J D (gGh I M S) H := h.ghost (gGh_ne I M S (by decide) (by decide)) (gGh_ne I M S (by decide) (by decide)) (gGh_ne I M S (by decide) (by decide))
theorem jR.mk {n L a b : Nat} {I G : gI} (h : zRel n G) (h0 : G 0 = I 0) (h1 : G 1 = I 1) (ha : G 2 11 0 1 = nI a) (hb : G 2 11 0 4 = nI b) (la : a ≤ 6) (lb : b ≤ 10) (hs : sR L a b (I 5) (G 2) (G 3)) : jR n L (gGh I (G 2) (G 3)) := by
  obtain ⟨K, A, k1, k2, k3, k4, k5, k6, k7, k8, k9, t, k10, k11, k12⟩ := h
  have i1 := k1.2.2.2.k1
  have ea : A 0 0 0 = a := by
    have := k1.2.1.k1
    rw [ha] at this
    exact ((nI_eq (by omega) (by omega)).mp this).symm
  have eb : A 0 0 1 = b := by
    have := k1.2.1.k2
    rw [hb] at this
    exact ((nI_eq (by omega) (by omega)).mp this).symm
  subst ea
  subst eb
  have g0 : gGh I (G 2) (G 3) 0 = G 0 := by rw [h0]; exact gGh_ne _ _ _ (by decide) (by decide)
  have g1 : gGh I (G 2) (G 3) 1 = G 1 := by rw [h1]; exact gGh_ne _ _ _ (by decide) (by decide)
  have g5 : gGh I (G 2) (G 3) 5 = I 5 := gGh_ne _ _ _ (by decide) (by decide)
  have g2 : gGh I (G 2) (G 3) 2 = G 2 := rfl
  have g3 : gGh I (G 2) (G 3) 3 = G 3 := rfl
  unfold jR
  rw [g0, g1, g2, g3, g5]
  exact ⟨K, A, t, k1, k2, k3, k4, k5, k6, k7, k8, k9, k10, k11, k12, hs⟩
/-- the model's first slot doesn't matter -/
theorem sR.th {L n lo : Nat} {V M S : gY} (h : sR L n lo V M S) (c : Int32) : sR L n lo V (u3 M 11 0 0 c) S := h.model (by rw [u3_skipj _ _ (by decide)]) (fun _ => by rw [u3_skip _ _ _ _ (by decide)]) (fun _ => by rw [u3_skip _ _ _ _ (by decide)]) (fun _ => by rw [u3_skip _ _ _ _ (by decide)]) (fun _ => by rw [u3_skip _ _ _ _ (by decide)])
/-- a lad comes -/
theorem jR.come {n L s : Nat} {I : gI} (h : jR (n + 1) L I) (hL : L < 290) (s1 : 1 ≤ s) (s9 : s ≤ 9) :
    ∃ a, a ≤ 6 ∧ I 5 1 2 0 = nI a ∧ (a < 6 → f_X4_come_x I (nI s) = 0 ∧ f_X4_come_v I (nI s) = nI a ∧ f_X4_come_s I (nI s) 5 = I 5 ∧ ok_S_come (f_X4_come_s I (nI s)) (nI s) ∧ ∃ M S, jR n L (gGh (f_S_come (f_X4_come_s I (nI s)) (nI s)) M S)) ∧ (a = 6 → f_X4_come_x I (nI s) = 2) := by
  have T := zS_come (nI s) h.rel _ rfl
  obtain ⟨K, A, t, hR, hK, h3, h4, h5, hf, hw0, hw1, hcc, ht, hzh, hzX, hs⟩ := h
  have h1 := hR.2.2.2.k1
  have hc4 := hR.1.k1
  have hr1 := hR.2.1.k1
  have b1 : ¬ nI s < 1 := nI_nlt (b := 1) s1 (by omega)
  have b3 : nI s ≤ 9 := nI_le (b := 9) s9 (by decide)
  refine ⟨A 0 0 0, by omega, hs.k1.1, fun h6 => ?_, fun e6 => ?_⟩
  · have l6 : I 0 0 0 4 < 6 := by rw [hc4]; exact nI_lt (b := 6) h6 (by decide)
    have ex : f_X4_come_x I (nI s) = 0 := by simp only [f_X4_come_x]; rw [if_neg b1, if_pos b3, if_pos l6]
    have cn : (nI (A 0 0 0)).toNatClampNeg = A 0 0 0 := nI_clamp (by omega)
    have ec : f_X4_come_s I (nI s) = f_X3_addLad_s I 0 (nI s) := by simp only [f_X4_come_s]; rw [if_neg b1, if_pos b3, if_pos l6]
    have ea : f_X3_addLad_s I 0 (nI s) = gU (gU I 0 1 (A 0 0 0) 1 (nI s)) 0 0 0 4 (nI (A 0 0 0 + 1)) := by
      simp only [f_X3_addLad_s]
      rw [if_pos l6]
      simp (disch := decide) only [hc4, cn, gU_at, u3_skip, zc_add1]
    have ev : f_X4_come_v I (nI s) = nI (A 0 0 0 + 1) - 1 := by
      simp only [f_X4_come_v]
      rw [if_neg b1, if_pos b3, if_pos l6]
      simp only [f_X3_addLad_v]
      rw [if_pos l6]
      simp (disch := decide) only [hc4, cn, gU_at, u3_skip, zc_add1, u3_at]
    rw [ex, hI_0] at T
    obtain ⟨I1, e1⟩ : ∃ X, X = f_X4_come_s I (nI s) := ⟨_, rfl⟩
    have zn : ∀ y, y ≠ 0 → I1 y = I y := fun y hy => by rw [e1, ec, ea]; simp only [gU_ne _ _ _ _ _ hy]
    rw [← e1] at T ⊢
    obtain ⟨-, -, hZ⟩ := T.2 _ rfl
    have z2 := zn 2 (by decide)
    have b2 : f_X6_isIn (gU I1 2 11 0 0 0) (nI s) 1 9 = 1 := by
      unfold f_X6_isIn
      rw [if_neg b1, if_neg (fun q => absurd b3 (Int32.not_le.mpr q))]
    have nb2 : ¬ f_X6_isIn (gU I1 2 11 0 0 0) (nI s) 1 9 = 0 := by rw [b2]; decide
    have n6 : ¬ gU I1 2 11 0 0 0 2 11 0 1 = 6 := by
      rw [gU_at, u3_skipj _ _ (by decide), z2, hr1]
      exact fun q => absurd ((nI_eq (b := 6) (by omega) (by decide)).mp q) (by omega)
    have r1 : gU I1 2 11 0 0 0 2 11 0 1 = nI (A 0 0 0) := by rw [gU_at, u3_skipj _ _ (by decide), z2, hr1]
    have es : f_X6_come_s I1 (nI s) = gU (gU (gU I1 2 11 0 0 0) 2 12 0 (A 0 0 0) (nI s)) 2 11 0 1 (nI (A 0 0 0 + 1)) := by
      simp only [f_X6_come_s]
      rw [if_neg nb2, if_neg n6, r1, cn, gU_at _ 2 12, u3_skip _ _ _ _ (by decide), r1, zc_add1]
    obtain ⟨G, hG⟩ : ∃ X, gU (gU (gU I1 2 11 0 0 0) 2 12 0 (A 0 0 0) (nI s)) 2 11 0 1 (nI (A 0 0 0 + 1)) = X := ⟨_, rfl⟩
    rw [es, hG] at hZ
    have G2 : G 2 = u3 (u3 (u3 (I 2) 11 0 0 0) 12 0 (A 0 0 0) (nI s)) 11 0 1 (nI (A 0 0 0 + 1)) := by rw [← hG]; simp only [gU_at]; rw [z2]
    have Gn : ∀ y, y ≠ 2 → G y = I1 y := fun y hy => by rw [← hG]; simp only [gU_ne _ _ _ _ _ hy]
    have a4 := hR.2.2.2.k4 (A 0 0 0) (Nat.le_refl _) h6
    have x4 := hzX.1 (A 0 0 0) (Nat.le_refl _) h6
    obtain ⟨o1, o2⟩ := zs_come (x := nI s) (c := nI (A 0 0 0 + 1)) (I := I1) (M := u3 (I 2) 11 0 0 0) (S := I 3) (by rw [zn 5 (by decide)]; exact hs.th 0) h6 (by omega) hL (by rw [hR.2.1.k3, nI_clamp (by omega)]; omega) (by rw [u3_skip _ _ _ _ (by decide)]; exact x4.1) (by rw [hR.2.1.k4 _ h6, a4.1]; rfl) x4.2.1 (by rw [hR.2.1.k10 _ (by omega), a4.2.2]; rfl) x4.2.2.1 x4.2.2.2 (by rw [hR.2.1.k6 _ (by omega), a4.2.1]; rfl)
    refine ⟨ex, by rw [ev, zc_sub1 (by omega)]; rfl, zn 5 (by decide), o1, G 2, G 3, jR.mk (a := A 0 0 0 + 1) (b := A 0 0 1) hZ ?_ ?_ ?_ ?_ (by omega) (by omega) ?_⟩
    · rw [ne_S_come _ _ (by decide), Gn 0 (by decide)]
    · rw [ne_S_come _ _ (by decide), Gn 1 (by decide)]
    · rw [G2, u3_at]
    · rw [G2, u3_skipj _ _ (by decide), u3_skip _ _ _ _ (by decide), u3_skipj _ _ (by decide), hR.2.1.k2]
    · rw [G2, Gn 3 (by decide), zn 3 (by decide)]
      exact o2
  · have l6 : ¬ I 0 0 0 4 < 6 := by rw [hc4, e6]; decide
    simp only [f_X4_come_x]
    rw [if_neg b1, if_pos b3, if_neg l6]
/-- another fork -/
theorem jR.setFork {n L p : Nat} {I : gI} (h : jR (n + 1) L I) (p4 : 4 ≤ p) (p60 : p ≤ 60) :
    f_X4_setFork_x (gU I 5 0 0 1 (nI p)) (nI p) = 0 ∧ f_X4_setFork_v (gU I 5 0 0 1 (nI p)) (nI p) = I 5 0 0 1 ∧ f_X4_setFork_s (gU I 5 0 0 1 (nI p)) (nI p) 5 = gU I 5 0 0 1 (nI p) 5 ∧ ∃ M S, jR n L (gGh (f_X4_setFork_s (gU I 5 0 0 1 (nI p)) (nI p)) M S) := by
  have T := zS_setFork (nI p) h.rel _ rfl
  obtain ⟨K, A, t, hR, hK, h3, h4, h5, hf, hw0, hw1, hcc, ht, hzh, hzX, hs⟩ := h
  have h1 := hR.2.2.2.k1
  have b1 : ¬ nI p < 4 := nI_nlt (b := 4) p4 (by omega)
  have b3 : nI p ≤ 60 := nI_le (b := 60) p60 (by decide)
  have ex : ∀ X, f_X4_setFork_x X (nI p) = 0 := fun X => by simp only [f_X4_setFork_x]; rw [if_neg b1, if_pos b3]
  have ec : ∀ X, f_X4_setFork_s X (nI p) = gU X 0 0 0 7 (nI p) := fun X => by simp only [f_X4_setFork_s]; rw [if_neg b1, if_pos b3]
  have ev : ∀ X, f_X4_setFork_v X (nI p) = X 0 0 0 7 := fun X => by simp only [f_X4_setFork_v]; rw [if_neg b1, if_pos b3]
  rw [ex, hI_0, ec] at T
  obtain ⟨-, -, hZ⟩ := T.2 _ rfl
  have b2 : f_X6_isIn (gU (gU I 0 0 0 7 (nI p)) 2 11 0 0 0) (nI p) 4 60 = 1 := by
    unfold f_X6_isIn
    rw [if_neg b1, if_neg (fun q => absurd b3 (Int32.not_le.mpr q))]
  have es : f_X6_setFork_s (gU I 0 0 0 7 (nI p)) (nI p) = gU (gU (gU I 0 0 0 7 (nI p)) 2 11 0 0 0) 2 11 0 7 (nI p) := by simp only [f_X6_setFork_s]; rw [if_neg (by rw [b2]; decide)]
  obtain ⟨G, hG⟩ : ∃ X, gU (gU (gU I 0 0 0 7 (nI p)) 2 11 0 0 0) 2 11 0 7 (nI p) = X := ⟨_, rfl⟩
  rw [es, hG] at hZ
  have G2 : G 2 = u3 (u3 (I 2) 11 0 0 0) 11 0 7 (nI p) := by rw [← hG]; simp only [gU_at]; rw [gU_ne _ _ _ _ _ (by decide)]
  have G0 : G 0 = u3 (I 0) 0 0 7 (nI p) := by rw [← hG]; simp (disch := decide) only [gU_at, gU_ne]
  have G1 : G 1 = I 1 := by rw [← hG]; simp (disch := decide) only [gU_ne]
  have G3 : G 3 = I 3 := by rw [← hG]; simp (disch := decide) only [gU_ne]
  rw [ex, ec, ev]
  refine ⟨rfl, ?_, by rw [gU_ne _ _ _ _ _ (by decide)], G 2, G 3, jR.mk (a := A 0 0 0) (b := A 0 0 1) hZ ?_ ?_ ?_ ?_ (by omega) (by omega) ?_⟩
  · rw [gU_ne _ _ _ _ _ (by decide), hR.1.k3, hs.k2.2.1, hf]
  · rw [G0, gU_at, gU_ne _ _ _ _ _ (by decide)]
  · rw [G1, gU_ne _ _ _ _ _ (by decide), gU_ne _ _ _ _ _ (by decide)]
  · rw [G2, u3_skipj _ _ (by decide), u3_skipj _ _ (by decide), hR.2.1.k1]
  · rw [G2, u3_skipj _ _ (by decide), u3_skipj _ _ (by decide), hR.2.1.k2]
  · rw [G2, G3, gU_ne _ _ _ _ _ (by decide), gU_at]
    exact sR_SFk (hs.th 0)
/-- another way -/
theorem jR.setWay {n L k p : Nat} {I : gI} (h : jR (n + 1) L I) {a : Nat} (ha : I 5 1 2 0 = nI a) (a6 : a ≤ 6) (hka : k < a) (p3 : p < 3) :
    f_X4_setWay_x (gU I 5 2 k 1 (nI p)) (nI k) (nI p) = 0 ∧ f_X4_setWay_v (gU I 5 2 k 1 (nI p)) (nI k) (nI p) = I 5 2 k 1 ∧ f_X4_setWay_s (gU I 5 2 k 1 (nI p)) (nI k) (nI p) 5 = gU I 5 2 k 1 (nI p) 5 ∧ ∃ M S, jR n L (gGh (f_X4_setWay_s (gU I 5 2 k 1 (nI p)) (nI k) (nI p)) M S) := by
  have T := zS_setWay (nI k) (nI p) h.rel _ rfl
  obtain ⟨K, A, t, hR, hK, h3, h4, h5, hf, hw0, hw1, hcc, ht, hzh, hzX, hs⟩ := h
  have h1 := hR.2.2.2.k1
  have ea : A 0 0 0 = a := by
    have := hs.k1.1
    rw [ha] at this
    exact ((nI_eq (by omega) (by omega)).mp this).symm
  subst ea
  have b1 : ¬ nI p < 0 := nI_pos (by omega)
  have b3 : nI p < 3 := nI_lt (b := 3) p3 (by decide)
  have ck : (nI k).toNatClampNeg = k := nI_clamp (by omega)
  have a0 : f_X4_needLad_x I (nI k) = 0 := zA_need hR.1.k1 hka (by omega)
  have a1 : f_X4_needLad_x (gU I 5 2 k 1 (nI p)) (nI k) = 0 := zA_need (by rw [gU_ne _ _ _ _ _ (by decide)]; exact hR.1.k1) hka (by omega)
  have ex : ∀ X, f_X4_needLad_x X (nI k) = 0 → f_X4_setWay_x X (nI k) (nI p) = 0 := fun X q => by simp only [f_X4_setWay_x]; rw [if_pos q, if_neg b1, if_pos b3]
  have ec : ∀ X, f_X4_needLad_x X (nI k) = 0 → f_X4_setWay_s X (nI k) (nI p) = gU X 0 1 k 2 (nI p) := fun X q => by simp only [f_X4_setWay_s]; rw [if_pos q, if_neg b1, if_pos b3, ck]
  have ev : ∀ X, f_X4_needLad_x X (nI k) = 0 → f_X4_setWay_v X (nI k) (nI p) = X 0 1 k 2 := fun X q => by simp only [f_X4_setWay_v]; rw [if_pos q, if_neg b1, if_pos b3, ck]
  rw [ex _ a0, hI_0, ec _ a0] at T
  obtain ⟨-, -, hZ⟩ := T.2 _ rfl
  obtain ⟨I1, e1⟩ : ∃ X, X = gU I 0 1 k 2 (nI p) := ⟨_, rfl⟩
  rw [← e1] at hZ
  have z2 : I1 2 = I 2 := by rw [e1, gU_ne _ _ _ _ _ (by decide)]
  have eL : f_X6_isLad (gU I1 2 11 0 0 0) (nI k) = 1 := by
    unfold f_X6_isLad
    rw [gU_at, z2, u3_skipj _ _ (by decide), hR.2.1.k1]
    rcases zq_is (J := gU I1 2 11 0 0 0) (x := nI k) (m := A 0 0 0) (by omega) with ⟨q, -⟩ | ⟨-, q, -⟩ | ⟨-, -, -, -, -, q⟩
    · exact absurd q (nI_pos (by omega))
    · exact absurd (nI_lt hka (by omega)) q
    · exact q
  have eB : f_X6_isIn (gU I1 2 11 0 0 0) (nI p) 0 2 = 1 := by
    unfold f_X6_isIn
    have b4 : nI p ≤ 2 := nI_le (b := 2) (show p ≤ 2 by omega) (by decide)
    rw [if_neg b1, if_neg (fun q => absurd b4 (Int32.not_le.mpr q))]
  have es : f_X6_setWay_s I1 (nI k) (nI p) = gU (gU I1 2 11 0 0 0) 2 13 0 k (nI p) := by simp only [f_X6_setWay_s]; rw [if_neg (by rw [eL]; decide), if_neg (by rw [eB]; decide), ck]
  obtain ⟨G, hG⟩ : ∃ X, gU (gU I1 2 11 0 0 0) 2 13 0 k (nI p) = X := ⟨_, rfl⟩
  rw [es, hG] at hZ
  have G2 : G 2 = u3 (u3 (I 2) 11 0 0 0) 13 0 k (nI p) := by rw [← hG]; simp only [gU_at]; rw [z2]
  have G0 : G 0 = u3 (I 0) 1 k 2 (nI p) := by rw [← hG]; simp (disch := decide) only [gU_ne]; rw [e1, gU_at]
  have G1 : G 1 = I 1 := by rw [← hG]; simp (disch := decide) only [gU_ne]; rw [e1, gU_ne _ _ _ _ _ (by decide)]
  have G3 : G 3 = I 3 := by rw [← hG]; simp (disch := decide) only [gU_ne]; rw [e1, gU_ne _ _ _ _ _ (by decide)]
  rw [ex _ a1, ec _ a1, ev _ a1]
  refine ⟨rfl, ?_, by rw [gU_ne _ _ _ _ _ (by decide)], G 2, G 3, jR.mk (a := A 0 0 0) (b := A 0 0 1) hZ ?_ ?_ ?_ ?_ (by omega) (by omega) ?_⟩
  · rw [gU_ne _ _ _ _ _ (by decide), hR.1.k11 k (by omega), (hs.k3 k hka).2.1, hR.2.1.k9 k (by omega)]
  · rw [G0, gU_at, gU_ne _ _ _ _ _ (by decide)]
  · rw [G1, gU_ne _ _ _ _ _ (by decide), gU_ne _ _ _ _ _ (by decide)]
  · rw [G2, u3_skip _ _ _ _ (by decide), u3_skipj _ _ (by decide), hR.2.1.k1]
  · rw [G2, u3_skip _ _ _ _ (by decide), u3_skipj _ _ (by decide), hR.2.1.k2]
  · rw [G2, G3, gU_ne _ _ _ _ _ (by decide), gU_at]
    exact sR_SWy (hs.th 0)
