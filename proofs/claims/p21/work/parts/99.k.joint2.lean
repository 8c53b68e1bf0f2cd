/-! THE JOINT RELATION through swap, wake, bring -/
theorem zG_isLad {J : gI} {k a : Nat} (h : J 2 11 0 1 = nI a) (a6 : a ≤ 6) (hk : k < a) : f_X6_isLad J (nI k) = 1 := by
  unfold f_X6_isLad
  rw [h]
  rcases zq_is (J := J) (x := nI k) (m := a) (by omega) with ⟨q, -⟩ | ⟨-, q, -⟩ | ⟨-, -, -, -, -, q⟩
  · exact absurd q (nI_pos (by omega))
  · exact absurd (nI_lt hk (by omega)) q
  · exact q
theorem jR.swap {n L k k' : Nat} {I : gI} (h : jR (n + 1) L I) {a : Nat} (ha : I 5 1 2 0 = nI a) (a6 : a ≤ 6) (hk : k < a) (hk' : k' < a) (ne : k ≠ k') :
    f_X4_swap_x (gset I 5 (pSwap (I 5) k k')) (nI k) (nI k') = 0 ∧ f_X4_swap_v (gset I 5 (pSwap (I 5) k k')) (nI k) (nI k') = nI (rln (pSwap (I 5) k k') 3 k) ∧ f_X4_swap_s (gset I 5 (pSwap (I 5) k k')) (nI k) (nI k') 5 = pSwap (I 5) k k' ∧ ∃ M S, jR n L (gGh (f_X4_swap_s (gset I 5 (pSwap (I 5) k k')) (nI k) (nI k')) M S) := by
  have T := zS_swap (nI k) (nI k') h.rel _ rfl
  obtain ⟨K, A, t, hR, hK, h3, h4, h5, hf, hw0, hw1, hcc, ht, hzh, hzX, hs⟩ := h
  have hi := hR.2.2.2
  have h1 := hi.k1
  have ea : A 0 0 0 = a := by
    have := hs.k1.1
    rw [ha] at this
    exact ((nI_eq (by omega) (by omega)).mp this).symm
  subst ea
  have nk : ¬ nI k = nI k' := fun q => ne ((nI_eq (by omega) (by omega)).mp q)
  have ck : (nI k).toNatClampNeg = k := nI_clamp (by omega)
  have ck' : (nI k').toNatClampNeg = k' := nI_clamp (by omega)
  have nd : ∀ X : gI, X 0 = I 0 → ∀ j, j < A 0 0 0 → f_X4_needLad_x X (nI j) = 0 := fun X q j hj => zA_need (by rw [q]; exact hR.1.k1) hj (by omega)
  have ex : ∀ X : gI, X 0 = I 0 → f_X4_swap_x X (nI k) (nI k') = 0 := fun X q => by simp only [f_X4_swap_x]; rw [if_pos (nd X q k hk), if_pos (nd X q k' hk'), if_neg nk]
  have ec : ∀ X : gI, X 0 = I 0 → f_X4_swap_s X (nI k) (nI k') = gU (gU X 0 1 k 3 (X 0 1 k' 3)) 0 1 k' 3 (X 0 1 k 3) := fun X q => by simp only [f_X4_swap_s]; rw [if_pos (nd X q k hk), if_pos (nd X q k' hk'), if_neg nk, ck, ck']
  have d1 := hR.1.k4 k (by omega)
  have d2 := hR.1.k4 k' (by omega)
  have ev : ∀ X : gI, X 0 = I 0 → f_X4_swap_v X (nI k) (nI k') = nI (A 1 k' 2) := fun X q => by
    simp only [f_X4_swap_v]
    rw [if_pos (nd X q k hk), if_pos (nd X q k' hk'), if_neg nk, ck, ck']
    have e3 : gU (gU X 0 1 k 3 (X 0 1 k' 3)) 0 1 k' 3 (X 0 1 k 3) 0 1 k 3 = I 0 1 k' 3 := by rw [gU_at, gU_at, u3_skipi _ _ ne, u3_at, q]
    rw [e3, hR.1.cart hi (by omega), gU_at, gU_at, u3_skip _ _ _ _ (by decide), u3_skip _ _ _ _ (by decide), q, hR.1.k5 k' (by omega)]
  rw [ex _ rfl, hI_0, ec _ rfl] at T
  obtain ⟨-, -, hZ⟩ := T.2 _ rfl
  obtain ⟨I1, e1⟩ : ∃ X, X = gU (gU I 0 1 k 3 (I 0 1 k' 3)) 0 1 k' 3 (I 0 1 k 3) := ⟨_, rfl⟩
  rw [← e1] at hZ
  have zn : ∀ y, y ≠ 0 → I1 y = I y := fun y hy => by rw [e1, gU_ne _ _ _ _ _ hy, gU_ne _ _ _ _ _ hy]
  have z2 := zn 2 (by decide)
  have r1 : gU I1 2 11 0 0 0 2 11 0 1 = nI (A 0 0 0) := by rw [gU_at, u3_skipj _ _ (by decide), z2, hR.2.1.k1]
  have nL := zG_isLad r1 (by omega) hk
  have nL' := zG_isLad r1 (by omega) hk'
  have es : f_X6_swap_s I1 (nI k) (nI k') = f_X6_swap_l1_s (nI k) (nI k') 8 0 (gU I1 2 11 0 0 0) := by simp only [f_X6_swap_s]; rw [if_neg (by rw [nL]; decide), if_neg (by rw [nL']; decide), if_neg nk]
  obtain ⟨g1, g2, g3, g4⟩ := zr_swap (z := 3) (a := k) (b := k') (by omega) (by omega) ne 8 0 (gU I1 2 11 0 0 0) (by omega)
  rw [es] at hZ
  obtain ⟨G, hG⟩ : ∃ X, f_X6_swap_l1_s (nI k) (nI k') 8 0 (gU I1 2 11 0 0 0) = X := ⟨_, rfl⟩
  rw [hG] at g1 g4 hZ
  have s1 := hR.2.1.k6 k (by omega)
  have s2 := hR.2.1.k6 k' (by omega)
  rw [gU_ne _ _ _ _ _ (by decide), zn 3 (by decide), s1, s2] at g1
  have G2 : G 2 = u3 (I 2) 11 0 0 0 := by rw [g4 2 (by decide), gU_at, z2]
  have V0 : gset I 5 (pSwap (I 5) k k') 0 = I 0 := gset_ne _ _ (by decide)
  rw [ex _ V0, ec _ V0, ev _ V0]
  have rl : rln (pSwap (I 5) k k') 3 k = A 1 k' 2 := by
    show (pSwap (I 5) k k' 6 k 0).toNatClampNeg = _
    unfold pSwap
    rw [u3_skipi _ _ ne, u3_at, (hs.k3 k' hk').2.2.2.2.2.2.2, s2, nI_clamp (by have := (hi.k2 k' (by omega)).2.1; omega)]
  refine ⟨rfl, by rw [rl], by simp only [gU_ne _ _ _ _ _ (show 5 ≠ 0 by decide)]; exact gset_at _ _ _, G 2, G 3, jR.mk (a := A 0 0 0) (b := A 0 0 1) hZ ?_ ?_ ?_ ?_ (by omega) (by omega) ?_⟩
  · rw [g4 0 (by decide), gU_ne _ _ _ _ _ (by decide), e1]
    simp only [gU_at]
    rw [V0]
  · rw [g4 1 (by decide), gU_ne _ _ _ _ _ (by decide), zn 1 (by decide)]
    simp only [gU_ne _ _ _ _ _ (show 1 ≠ 0 by decide)]
    exact (gset_ne _ _ (by decide)).symm
  · rw [G2, u3_skipj _ _ (by decide), hR.2.1.k1]
  · rw [G2, u3_skipj _ _ (by decide), hR.2.1.k2]
  · rw [G2, g1]
    simp only [gU_ne _ _ _ _ _ (show 5 ≠ 0 by decide)]
    rw [gset_at]
    exact sR_SP (hs.th 0) hk hk' ne s1 s2 (hi.k2 k (by omega)).2.1 (hi.k2 k' (by omega)).2.1 (fun i hi' => by rw [hR.2.1.k6 i (by omega), nI_clamp (by have := (hi.k2 i (by omega)).2.1; omega)]; exact (hi.k2 i (by omega)).2.1)
/-- who sleeps wakes -/
theorem jR.wake {n L k : Nat} {I : gI} (h : jR (n + 1) L I) {a : Nat} (ha : I 5 1 2 0 = nI a) (a6 : a ≤ 6) (hk : k < a) :
    (I 5 2 k 2 = 3 → f_X4_wake_x (gU I 5 2 k 2 0) (nI k) = 0 ∧ f_X4_wake_v (gU I 5 2 k 2 0) (nI k) = f_X3_tell (f_X4_wake_s (gU I 5 2 k 2 0) (nI k)) 0 (nI 6) ∧ f_X4_wake_s (gU I 5 2 k 2 0) (nI k) 5 = gU I 5 2 k 2 0 5 ∧ ∃ M S, jR n L (gGh (f_X4_wake_s (gU I 5 2 k 2 0) (nI k)) M S)) ∧ (I 5 2 k 2 ≠ 3 → f_X4_wake_x I (nI k) = 2) := by
  have T := zS_wake (nI k) h.rel _ rfl
  obtain ⟨K, A, t, hR, hK, h3, h4, h5, hf, hw0, hw1, hcc, ht, hzh, hzX, hs⟩ := h
  have hi := hR.2.2.2
  have h1 := hi.k1
  have ea : A 0 0 0 = a := by
    have := hs.k1.1
    rw [ha] at this
    exact ((nI_eq (by omega) (by omega)).mp this).symm
  subst ea
  have ck : (nI k).toNatClampNeg = k := nI_clamp (by omega)
  have h2 := hi.k2 k (by omega)
  have e7 := hR.1.k10 k (by omega)
  have s25 := hR.2.1.k4 k (by omega)
  have v2 := (hs.k3 k hk).2.2.1
  have nd : ∀ X : gI, X 0 = I 0 → f_X4_needLad_x X (nI k) = 0 := fun X q => zA_need (by rw [q]; exact hR.1.k1) hk (by omega)
  refine ⟨fun e3 => ?_, fun e3 => ?_⟩
  · have d3 : A 1 k 0 = 3 := by
      rw [v2, s25] at e3
      exact (nI_eq (b := 3) (by omega) (by decide)).mp e3
    rw [if_pos d3] at e7
    have n7 : ∀ X : gI, X 0 = I 0 → ¬ X 0 1 k 7 = 0 := fun X q => by rw [q, e7]; decide
    have ex : ∀ X : gI, X 0 = I 0 → f_X4_wake_x X (nI k) = 0 := fun X q => by simp only [f_X4_wake_x]; rw [if_pos (nd X q), ck, if_neg (n7 X q)]
    have ec : ∀ X : gI, X 0 = I 0 → f_X4_wake_s X (nI k) = gU X 0 1 k 7 0 := fun X q => by simp only [f_X4_wake_s]; rw [if_pos (nd X q), ck, if_neg (n7 X q)]
    have ev : ∀ X : gI, X 0 = I 0 → f_X4_wake_v X (nI k) = f_X3_sleepers (gU X 0 1 k 7 0) 0 := fun X q => by simp only [f_X4_wake_v]; rw [if_pos (nd X q), ck, if_neg (n7 X q)]
    rw [ex _ rfl, hI_0, ec _ rfl] at T
    obtain ⟨-, -, hZ⟩ := T.2 _ rfl
    obtain ⟨I1, e1⟩ : ∃ X, X = gU I 0 1 k 7 0 := ⟨_, rfl⟩
    rw [← e1] at hZ
    have zn : ∀ y, y ≠ 0 → I1 y = I y := fun y hy => by rw [e1, gU_ne _ _ _ _ _ hy]
    have r1 : gU I1 2 11 0 0 0 2 11 0 1 = nI (A 0 0 0) := by rw [gU_at, u3_skipj _ _ (by decide), zn 2 (by decide), hR.2.1.k1]
    have nL := zG_isLad r1 (by omega) hk
    have r3 : gU I1 2 11 0 0 0 3 25 0 k = 3 := by rw [gU_ne _ _ _ _ _ (by decide), zn 3 (by decide), s25, d3]; rfl
    have es : f_X6_wake_s I1 (nI k) = gU (gU I1 2 11 0 0 0) 3 25 0 k 0 := by simp only [f_X6_wake_s]; rw [if_neg (by rw [nL]; decide), ck, if_pos r3]
    obtain ⟨G, hG⟩ : ∃ X, gU (gU I1 2 11 0 0 0) 3 25 0 k 0 = X := ⟨_, rfl⟩
    rw [es, hG] at hZ
    have j0 : G 0 = u3 (I 0) 1 k 7 0 := by rw [← hG]; simp (disch := decide) only [gU_ne]; rw [e1, gU_at]
    have j1 : G 1 = I 1 := by rw [← hG]; simp (disch := decide) only [gU_ne]; exact zn 1 (by decide)
    have j2 : G 2 = u3 (I 2) 11 0 0 0 := by rw [← hG]; simp (disch := decide) only [gU_ne, gU_at]; rw [zn 2 (by decide)]
    have j3 : G 3 = u3 (I 3) 25 0 k 0 := by rw [← hG]; simp (disch := decide) only [gU_ne, gU_at]; rw [zn 3 (by decide)]
    have V0 : gU I 5 2 k 2 0 0 = I 0 := gU_ne _ _ _ _ _ (by decide)
    rw [ex _ V0, ec _ V0, ev _ V0]
    refine ⟨rfl, ?_, by rw [gU_ne _ _ _ _ _ (by decide)], G 2, G 3, jR.mk (a := A 0 0 0) (b := A 0 0 1) hZ ?_ ?_ ?_ ?_ (by omega) (by omega) ?_⟩
    · unfold f_X3_tell
      rw [if_neg (by decide), if_neg (by decide), if_neg (by decide), if_neg (by decide), if_neg (by decide), if_neg (by decide), if_pos (by decide)]
    · rw [j0, gU_at, V0]
    · rw [j1, gU_ne _ _ _ _ _ (by decide), gU_ne _ _ _ _ _ (by decide)]
    · rw [j2, u3_skipj _ _ (by decide), hR.2.1.k1]
    · rw [j2, u3_skipj _ _ (by decide), hR.2.1.k2]
    · rw [j2, j3, gU_ne _ _ _ _ _ (by decide), gU_at]
      exact sR_DZ (hs.th 0) ⟨by decide, by decide⟩
  · have d3 : ¬ A 1 k 0 = 3 := fun q => e3 (by rw [v2, s25, q]; rfl)
    rw [if_neg d3] at e7
    simp only [f_X4_wake_x]
    rw [if_pos (nd I rfl), ck, if_pos e7]
/-- the ghost's bring -/
theorem zG_wake2 {x : Int32} : ∀ (m i : Nat) (J : gI), f_X6_bring_l1_s x m i J 2 = u3 (J 2) 11 0 4 (J 2 11 0 4 + 1) ∧ ∀ y, y ≠ 2 → y ≠ 3 → f_X6_bring_l1_s x m i J y = J y := by
  intro m
  induction m with
  | zero =>
    intro i J
    simp only [f_X6_bring_l1_s]
    exact ⟨by rw [gU_at], fun y h2 _ => gU_ne _ _ _ _ _ h2⟩
  | succ m ih =>
    intro i J
    simp only [f_X6_bring_l1_s]
    split
    · obtain ⟨a, b⟩ := ih (i + 1) (gU J 3 25 0 i 0)
      rw [gU_ne _ _ _ _ _ (show 2 ≠ 3 by decide)] at a
      exact ⟨a, fun y h2 h3 => by rw [b y h2 h3, gU_ne _ _ _ _ _ h3]⟩
    · exact ih (i + 1) J
theorem zG_bring {I1 : gI} {s n lo N : Nat} {c : Int32} (q1 : I1 2 11 0 1 = nI n) (q4 : I1 2 11 0 4 = nI lo) (q19 : I1 3 20 0 19 = nI N) (qc : I1 3 20 0 0 = c) (s1 : 1 ≤ s) (s60 : s ≤ 60) (hn : n ≤ 6) (hl : lo < 10) (hN : N ≤ 320) :
    ∃ J8 : gI, f_X6_bring_s I1 (nI s) = f_X6_bring_l1_s (nI s) n 0 J8 ∧ J8 2 = u3 (u3 (u3 (I1 2) 11 0 0 0) 14 0 lo (nI s)) 15 0 lo c ∧ J8 3 = (u3 (u3 (u3 (u3 (u3 (u3 (u3 (u3 (u3 (u3 (u3 (I1 3) 33 0 lo 0) 35 0 lo (-1)) 36 0 lo 1) 40 0 N (nI s)) 41 0 N (nI s)) 42 0 N (nI lo)) 43 0 N (-1)) 44 0 N (-1)) 45 0 N 0) 20 0 19 (nI (N + 1))) 34 0 lo (nI N)) ∧ ∀ y, y ≠ 2 → y ≠ 3 → J8 y = I1 y := by
  have b1 : ¬ nI s < 1 := nI_nlt (b := 1) s1 (by omega)
  have b3 : nI s ≤ 60 := nI_le (b := 60) s60 (by decide)
  have cl : (nI lo).toNatClampNeg = lo := nI_clamp (by omega)
  have cN : (nI N).toNatClampNeg = N := nI_clamp (by omega)
  have cn : (nI n).toNatClampNeg = n := nI_clamp (by omega)
  obtain ⟨K1, hK1⟩ : ∃ X, gU I1 2 11 0 0 0 = X := ⟨_, rfl⟩
  obtain ⟨K2, hK2⟩ : ∃ X, gU K1 2 14 0 lo (nI s) = X := ⟨_, rfl⟩
  obtain ⟨K3, hK3⟩ : ∃ X, gU K2 2 15 0 lo c = X := ⟨_, rfl⟩
  obtain ⟨K4, hK4⟩ : ∃ X, gU K3 3 33 0 lo 0 = X := ⟨_, rfl⟩
  obtain ⟨K5, hK5⟩ : ∃ X, gU K4 3 35 0 lo (-1) = X := ⟨_, rfl⟩
  obtain ⟨J6, hJ6⟩ : ∃ X, gU K5 3 36 0 lo 1 = X := ⟨_, rfl⟩
  have p1 : K1 2 11 0 4 = nI lo := by rw [← hK1, gU_at, u3_skipj _ _ (by decide), q4]
  have p2 : K2 2 11 0 4 = nI lo := by rw [← hK2, gU_at, u3_skip _ _ _ _ (by decide), p1]
  have p2' : K2 3 20 0 0 = c := by rw [← hK2, gU_ne _ _ _ _ _ (by decide), ← hK1, gU_ne _ _ _ _ _ (by decide), qc]
  have p3 : K3 2 11 0 4 = nI lo := by rw [← hK3, gU_at, u3_skip _ _ _ _ (by decide), p2]
  have p4 : K4 2 11 0 4 = nI lo := by rw [← hK4, gU_ne _ _ _ _ _ (by decide), p3]
  have p5 : K5 2 11 0 4 = nI lo := by rw [← hK5, gU_ne _ _ _ _ _ (by decide), p4]
  have p6 : J6 2 11 0 4 = nI lo := by rw [← hJ6, gU_ne _ _ _ _ _ (by decide), p5]
  have b2 : f_X6_isIn K1 (nI s) 1 60 = 1 := by
    unfold f_X6_isIn
    rw [if_neg b1, if_neg (fun q => absurd b3 (Int32.not_le.mpr q))]
  have nB : ¬ f_X6_isIn K1 (nI s) 1 60 = 0 := by rw [b2]; decide
  have n10 : ¬ K1 2 11 0 4 = 10 := by
    rw [p1]
    exact fun q => absurd ((nI_eq (b := 10) (by omega) (by decide)).mp q) (by omega)
  have J62 : J6 2 = u3 (u3 (u3 (I1 2) 11 0 0 0) 14 0 lo (nI s)) 15 0 lo c := by rw [← hJ6, ← hK5, ← hK4, ← hK3, ← hK2, ← hK1]; simp (disch := decide) only [gU_at, gU_ne]
  have J63 : J6 3 = u3 (u3 (u3 (I1 3) 33 0 lo 0) 35 0 lo (-1)) 36 0 lo 1 := by rw [← hJ6, ← hK5, ← hK4, ← hK3, ← hK2, ← hK1]; simp (disch := decide) only [gU_at, gU_ne]
  have J6n : ∀ y, y ≠ 2 → y ≠ 3 → J6 y = I1 y := fun y h2 h3 => by rw [← hJ6, ← hK5, ← hK4, ← hK3, ← hK2, ← hK1]; simp only [gU_ne _ _ _ _ _ h2, gU_ne _ _ _ _ _ h3]
  have J619 : J6 3 20 0 19 = nI N := by rw [J63]; simp (disch := decide) only [u3_skip]; exact q19
  obtain ⟨z1, z2, z3⟩ := zr_add (J := J6) (z := 3) (N := N) (nI s) (nI lo) (-1) J619 (by omega)
  obtain ⟨J8, hJ8⟩ : ∃ X, gU (f_X5_add_s J6 3 (nI s) (nI lo) (-1)) 3 34 0 lo (nI N) = X := ⟨_, rfl⟩
  have J83 : J8 3 = (u3 (u3 (u3 (u3 (u3 (u3 (u3 (u3 (u3 (u3 (u3 (I1 3) 33 0 lo 0) 35 0 lo (-1)) 36 0 lo 1) 40 0 N (nI s)) 41 0 N (nI s)) 42 0 N (nI lo)) 43 0 N (-1)) 44 0 N (-1)) 45 0 N 0) 20 0 19 (nI (N + 1))) 34 0 lo (nI N)) := by rw [← hJ8, z1]; simp only [gU_at]; rw [J63]
  have J8n : ∀ y, y ≠ 3 → J8 y = J6 y := fun y h3 => by rw [← hJ8, z1]; simp only [gU_ne _ _ _ _ _ h3]
  have J81 : J8 2 11 0 1 = nI n := by rw [J8n 2 (by decide), J62]; simp (disch := decide) only [u3_skip, u3_skipj, q1]
  refine ⟨J8, ?_, by rw [J8n 2 (by decide), J62], J83, fun y h2 h3 => by rw [J8n y h3, J6n y h2 h3]⟩
  simp only [f_X6_bring_s, hK1]
  rw [if_neg nB, if_neg n10]
  simp only [p1, cl, hK2, p2, p2', hK3, p3, hK4, p4, hK5, p5, hJ6, p6, z2, cN, hJ8, J81, cn]
/-- a load is brought -/
theorem jR.bring {n L s : Nat} {I : gI} (h : jR (n + 1) L I) (hL : L < 290) (s1 : 1 ≤ s) (s60 : s ≤ 60) :
    ∃ b, b ≤ 10 ∧ I 5 1 4 0 = nI b ∧ (b < 10 → f_X4_bring_x I (nI s) = 0 ∧ f_X4_bring_v I (nI s) = nI b ∧ f_X4_bring_s I (nI s) 5 = I 5 ∧ ok_S_bring (f_X4_bring_s I (nI s)) (nI s) ∧ ∃ M S, jR n L (gGh (f_S_bring (f_X4_bring_s I (nI s)) (nI s)) M S)) ∧ (b = 10 → f_X4_bring_x I (nI s) = 2) := by
  have T := zS_bring (nI s) h.rel _ rfl
  obtain ⟨K, A, t, hR, hK, h3, h4, h5, hf, hw0, hw1, hcc, ht, hzh, hzX, hs⟩ := h
  have h1 := hR.2.2.2.k1
  have hc5 := hR.1.k2
  have b1 : ¬ nI s < 1 := nI_nlt (b := 1) s1 (by omega)
  have b3 : nI s ≤ 60 := nI_le (b := 60) s60 (by decide)
  refine ⟨A 0 0 1, by omega, hs.k1.2.2.1, fun hl => ?_, fun e10 => ?_⟩
  · have l10 : I 0 0 0 5 < 10 := by rw [hc5]; exact nI_lt (b := 10) hl (by decide)
    have cl : (nI (A 0 0 1)).toNatClampNeg = A 0 0 1 := nI_clamp (by omega)
    have ex : f_X4_bring_x I (nI s) = 0 := by simp only [f_X4_bring_x]; rw [if_neg b1, if_pos b3, if_pos l10]
    have ec : f_X4_bring_s I (nI s) = f_X3_addLoad_s I 0 (nI s) := by simp only [f_X4_bring_s]; rw [if_neg b1, if_pos b3, if_pos l10]
    have ei : nI (A 0 0 1) * 32 + 1 = nI (32 * A 0 0 1 + 1) := by rw [show nI (A 0 0 1) * 32 = nI (A 0 0 1 * 32) from pk_mul _ 32, zc_add1, Nat.mul_comm]
    have ev : f_X4_bring_v I (nI s) = nI (A 0 0 1 + 1) - 1 := by
      simp only [f_X4_bring_v]
      rw [if_neg b1, if_pos b3, if_pos l10]
      simp only [f_X3_addLoad_v]
      rw [if_pos l10]
      unfold f_X3_wakeAll
      rw [zc_wakeAll5, gU_at, u3_at]
      simp (disch := decide) only [hc5, cl, gU_at, u3_skip, ei, zc_setBales _ _ _ (show 32 * A 0 0 1 + 1 < 320 by omega), zc_add1]
    have zn : ∀ y, y ≠ 0 → f_X4_bring_s I (nI s) y = I y := fun y hy => by rw [ec]; exact ne_X3_addLoad I 0 (nI s) (by decide) hw0 hy
    rw [ex, hI_0] at T
    obtain ⟨I1, e1⟩ : ∃ X, X = f_X4_bring_s I (nI s) := ⟨_, rfl⟩
    rw [← e1] at T zn ⊢
    obtain ⟨-, -, hZ⟩ := T.2 _ rfl
    obtain ⟨J8, g1, g2, g3, g4⟩ := zG_bring (I1 := I1) (s := s) (n := A 0 0 0) (lo := A 0 0 1) (N := A 0 0 2) (c := I 3 20 0 0) (by rw [zn 2 (by decide)]; exact hR.2.1.k1) (by rw [zn 2 (by decide)]; exact hR.2.1.k2) (by rw [zn 3 (by decide)]; exact hR.2.1.k3) (by rw [zn 3 (by decide)]) s1 s60 (by omega) hl (by omega)
    rw [zn 2 (by decide)] at g2
    rw [zn 3 (by decide)] at g3
    rw [g1] at hZ
    obtain ⟨w1, w2⟩ := zG_wake2 (x := nI s) (A 0 0 0) 0 J8
    obtain ⟨o1, o2⟩ := zs_bring (x := nI s) (I := I1) (J8 := J8) (M := u3 (I 2) 11 0 0 0) (S := I 3) (n := A 0 0 0) (lo := A 0 0 1) (L := L) (N := A 0 0 2) (by rw [zn 5 (by decide)]; exact hs.th 0) (by omega) hl hL hR.2.1.k3 (by omega) (hzX.2 _ (Nat.le_refl _) hl) (fun _ => trivial) (by
      rw [g2]
      refine ⟨?_, fun i => ?_, fun i => ?_, fun i => ?_, fun i => ?_⟩ <;> simp (disch := decide) only [u3_skip]) g3
    refine ⟨ex, by rw [ev, zc_sub1 (by omega)]; rfl, zn 5 (by decide), o1, _, _, jR.mk (a := A 0 0 0) (b := A 0 0 1 + 1) hZ ?_ ?_ ?_ ?_ (by omega) (by omega) o2⟩
    · rw [ne_S_bring _ _ (by decide), w2 0 (by decide) (by decide), g4 0 (by decide) (by decide)]
    · rw [ne_S_bring _ _ (by decide), w2 1 (by decide) (by decide), g4 1 (by decide) (by decide)]
    · rw [w1, u3_skipj _ _ (by decide), g2]
      simp (disch := decide) only [u3_skip, u3_skipj]
      exact hR.2.1.k1
    · rw [w1, u3_at, g2]
      simp (disch := decide) only [u3_skip, u3_skipj]
      rw [hR.2.1.k2, zc_add1]
  · have l10 : ¬ I 0 0 0 5 < 10 := by rw [hc5, e10]; decide
    simp only [f_X4_bring_x]
    rw [if_neg b1, if_pos b3, if_neg l10]
