/-! advise -/
theorem zsm_le {f : Nat → Nat} {B : Nat} : ∀ n, (∀ j, j < n → f j ≤ B) → zsm f n ≤ n * B := by
  intro n
  induction n with
  | zero => intro _; simp [zsm]
  | succ n ih =>
    intro h
    have h1 := ih (fun j hj => h j (by omega))
    have h2 := h n (by omega)
    simp only [zsm]
    rw [Nat.succ_mul]
    omega
theorem zT_p11 {I J : gI} {A : zN} {y z K : Nat} (h : zR 6 K A (I y) (J 2) (J z)) : f_X3_tell I y 11 = J z 20 0 4 ∧ ∃ s, s < 2 ^ 31 ∧ J z 20 0 4 = nI s := by
  have hi := h.2.2.2
  have hc := h.1
  have hr := h.2.1
  have h1 := hi.k1
  have c2 : (I y 0 0 5).toNatClampNeg = A 0 0 1 := by rw [hc.k2, nI_clamp (by omega)]
  refine ⟨?_, zsm (fun j => A 3 j 2) (A 0 0 1), ?_, hr.k22⟩
  · rw [hr.k22]
    unfold f_X3_tell
    rw [if_neg (by decide), if_neg (by decide), if_neg (by decide), if_neg (by decide), if_neg (by decide), if_neg (by decide), if_neg (by decide), if_neg (by decide), if_neg (by decide), if_neg (by decide), if_neg (by decide), if_pos rfl]
    unfold f_X3_sumOverLoads
    rw [c2]
    have g := zq_nat (f := fun i => A 3 i 2) (g := fun i => f_X2_tell I y i 6) (A 0 0 1) 0 0 (fun j _ q => by
      unfold f_X2_tell
      rw [if_neg (by decide), if_neg (by decide), if_neg (by decide), if_neg (by decide), if_neg (by decide), if_neg (by decide), hc.k15 j (by omega)]) rfl (F := fun m i a => f_X3_sumOverLoads_l1 y 6 m i a I) (fun _ _ => rfl) (fun _ _ _ => rfl)
    rw [Nat.zero_add] at g
    exact g
  · have := zsm_le (f := fun j => A 3 j 2) (B := 9000000) (A 0 0 1) (fun j hj => by
      have := (hi.k7 j (by omega)).2
      show A 3 j 2 ≤ 9000000
      omega)
    have h2 : A 0 0 1 * 9000000 ≤ 10 * 9000000 := Nat.mul_le_mul_right _ (by omega)
    omega
theorem gsz_nI {i : Nat} (h : i < 5) : ∃ g, 4 ≤ g ∧ g ≤ 60 ∧ gsz i = nI g := by
  rcases (show i = 0 ∨ i = 1 ∨ i = 2 ∨ i = 3 ∨ i = 4 by omega) with rfl | rfl | rfl | rfl | rfl
  · exact ⟨4, by decide, by decide, rfl⟩
  · exact ⟨8, by decide, by decide, rfl⟩
  · exact ⟨16, by decide, by decide, rfl⟩
  · exact ⟨32, by decide, by decide, rfl⟩
  · exact ⟨60, by decide, by decide, rfl⟩
theorem zT_adv {p K : Nat} {A : zN} {Y0 M S : gY} (hR : zR 6 K A Y0 M S) (hp : p ≤ 40) (hK : K + 6 * p ≤ 1000000) : ∀ (m i : Nat) (a a' b : Int32) (I J : gI), i + m = 5 → I 0 = Y0 → J 2 = M → J 3 = S → lw0 I → zCc (I 1) → (a = a' ∨ (b = -1 ∧ 0 < m)) →
    f_X4_advise_l1_v (nI p) m i a b I = f_X6_advise_l1_v (nI p) m i a' b J ∧ ok_f_X6_advise_l1 (nI p) m i a' b J ∧ wf (f_X4_advise_l1_s (nI p) m i a b I 1) ∧ zCc (f_X4_advise_l1_s (nI p) m i a b I 1) ∧ (∀ y, y ≠ 1 → f_X4_advise_l1_s (nI p) m i a b I y = I y) ∧ ∀ y, y ≠ 4 → f_X6_advise_l1_s (nI p) m i a' b J y = J y := by
  intro m
  induction m with
  | zero =>
    intro i a a' b I J hi h0 h2 h3 hl hcc st
    rcases st with rfl | ⟨-, q⟩
    · exact ⟨rfl, trivial, hl.2.1, hcc, fun _ _ => rfl, fun _ _ => rfl⟩
    · omega
  | succ m ih =>
    intro i a a' b I J hi h0 h2 h3 hl hcc st
    obtain ⟨g, g4, g60, eg⟩ := gsz_nI (show i < 5 by omega)
    obtain ⟨q0, q1, q5, q6⟩ := zTr_h A
    obtain ⟨T1, T2, T3, T4, T5, T6⟩ := zT_set (I := I) (J := J) (by rw [h0, h2, h3]; exact hR) hl hcc
    have G := zR_SG T1 ⟨g4, g60⟩
    have isn : isN (nI p) 400 := isN_nI (by omega) (by decide)
    obtain ⟨I3, hI3⟩ : ∃ X, gU (f_X3_copyFrom I 1 0) 1 0 0 7 (gsz i) = X := ⟨_, rfl⟩
    obtain ⟨J3, hJ3⟩ : ∃ X, f_X5_become_s J 4 3 = X := ⟨_, rfl⟩
    rw [hJ3] at G T6
    have w3 : wf (I3 1) := by rw [← hI3]; exact wf_gU rfl T4
    have G2 : zR 6 K (zu (zTr A) 0 0 6 g) (I3 1) (J3 2) (J3 4) := by rw [← hI3, gU_at, eg]; exact G
    obtain ⟨r1, ⟨A', r2, r3, -⟩, r4⟩ := zT_run (y := 1) (z := 4) (m := p) (by decide) (Or.inr rfl) G2 w3 (by omega) hK
    have e6 : zu (zTr A) 0 0 6 g 0 0 6 = g := by simp [zu]
    have e5 : zu (zTr A) 0 0 6 g 0 0 5 = 1 := by simp [zu]; exact q5
    rw [e6, ← eg] at r1 r3
    obtain ⟨I4, hI4⟩ : ∃ X, f_X3_runMinutes I3 1 (nI p) = X := ⟨_, rfl⟩
    obtain ⟨J4, hJ4⟩ : ∃ X, f_X6_passAll_s J3 4 (nI p) (gsz i) = X := ⟨_, rfl⟩
    have i4n : ∀ y, y ≠ 1 → I4 y = I y := fun y hy => by rw [← hI4, ne_X3_runMinutes _ _ _ (by decide) w3 isn hy, ← hI3, gU_ne _ _ _ _ _ hy, T5 y hy]
    have j4n : ∀ y, y ≠ 4 → J4 y = J y := fun y hy => by rw [← hJ4, ne_X6_passAll _ _ _ _ (Or.inr rfl) hy, T6 y hy]
    have j42 : J4 2 = J3 2 := by rw [← hJ4]; exact ne_X6_passAll _ _ _ _ (Or.inr rfl) (by decide)
    rw [hI4, hJ4, ← j42] at r3
    rw [hI4] at r4
    obtain ⟨t1, s, s31, t2⟩ := zT_p11 (I := I4) (J := J4) (y := 1) (z := 4) r3
    have cc4 : zCc (I4 1) := zCc_of r3.1 r3.2.2.2 (by rw [r2 5 (by decide)]; exact e5)
    have lw4 : lw0 I4 := by
      obtain ⟨l1, l2, l3, l4⟩ := hl
      unfold lw0
      rw [i4n 0 (by decide)]
      exact ⟨l1, r4, l3, l4⟩
    have nxt := fun (a a' b : Int32) st => ih (i + 1) a a' b I4 J4 (by omega) (by rw [i4n 0 (by decide), h0]) (by rw [j4n 2 (by decide), h2]) (by rw [j4n 3 (by decide), h3]) lw4 cc4 st
    simp only [f_X4_advise_l1_v, f_X6_advise_l1_v, f_X4_advise_l1_s, f_X6_advise_l1_s, ok_f_X6_advise_l1, hI3, hI4, hJ3, hJ4, t1]
    by_cases c : b < J4 4 20 0 4
    · have nc : ¬ J4 4 20 0 4 ≤ b := by rw [Int32.not_le]; exact c
      obtain ⟨g1, g2, g3, g4', g5, g6⟩ := nxt (gsz i) (gsz i) (J4 4 20 0 4) (Or.inl rfl)
      simp only [if_pos c, if_neg nc]
      refine ⟨g1, ⟨T2, ?_⟩, g3, g4', fun y hy => by rw [g5 y hy, i4n y hy], fun y hy => by rw [g6 y hy, j4n y hy]⟩
      rintro _ rfl
      refine ⟨r1, ?_⟩
      rintro _ rfl
      rw [hJ4]
      exact ⟨fun _ => g2, fun q => absurd c q⟩
    · have nc : J4 4 20 0 4 ≤ b := by rw [← Int32.not_lt]; exact c
      have ea : a = a' := by
        rcases st with h | ⟨rfl, -⟩
        · exact h
        · exfalso
          rw [t2, Int32.le_iff_toInt_le, nI_toInt s31] at nc
          have : (-1 : Int32).toInt = -1 := by decide
          omega
      obtain ⟨g1, g2, g3, g4', g5, g6⟩ := nxt a a' b (Or.inl ea)
      simp only [if_neg c, if_pos nc]
      refine ⟨g1, ⟨T2, ?_⟩, g3, g4', fun y hy => by rw [g5 y hy, i4n y hy], fun y hy => by rw [g6 y hy, j4n y hy]⟩
      rintro _ rfl
      refine ⟨r1, ?_⟩
      rintro _ rfl
      rw [hJ4]
      exact ⟨fun q => absurd q c, fun _ => g2⟩
theorem zS_advise {n : Nat} {I : gI} (x : Int32) (h : zRel (n + 1) I) : sp_advise (zRel n) I x := by
  have hm := zRel_mono h
  have hl0 := zRel_lw0 h
  obtain ⟨K, A, hR, hK, h3, h4, h5, hf, hw0, hw1, hcc, t, ht, hzh, hzX⟩ := h
  have hi := hR.2.2.2
  have h1 := hi.k1
  intro I1 e1
  rcases zq_min (I := I) (J := gU I 2 11 0 0 0) (x := x) (m := 40) (by decide) with ⟨a1, a2⟩ | ⟨p, p1, p40, rfl, a1, a2⟩
  · have a1 : f_X4_needMinutes_x I x 40 = 1 := a1
    have ex : f_X4_advise_x I x = 1 := by simp only [f_X4_advise_x]; rw [a1]; rfl
    rw [ex, hI_s (by decide)] at e1
    subst e1
    have es : f_X6_advise_s I1 x = gU (gU I1 2 11 0 0 0) 2 11 0 0 1 := by simp only [f_X6_advise_s, f_X6_no_s]; rw [show f_X6_isIn (gU I1 2 11 0 0 0) x 1 40 = 0 from a2]; rfl
    refine ⟨?_, ?_⟩
    · rintro _ rfl
      exact ⟨zo_isIn _ _ _ _, fun _ => zno _ _, fun q => absurd a2 q⟩
    · rintro _ rfl
      rw [es, ex]
      exact ⟨(zF1 hm 1).1.symm, fun q => absurd q (by decide), (zF1 hm 1).2⟩
  · have a1 : f_X4_needMinutes_x I (nI p) 40 = 0 := a1
    have nB : ∀ X : gI, ¬ f_X6_isIn X (nI p) 1 40 = 0 := fun X => by rw [show f_X6_isIn X (nI p) 1 40 = 1 from a2]; decide
    have ex : f_X4_advise_x I (nI p) = 0 := by simp only [f_X4_advise_x]; rw [if_pos a1]
    have ec : f_X4_advise_s I (nI p) = f_X4_advise_l1_s (nI p) 5 0 4 (-1) I := by simp only [f_X4_advise_s]; rw [if_pos a1]
    have ev : f_X4_advise_v I (nI p) = f_X4_advise_l1_v (nI p) 5 0 4 (-1) I := by simp only [f_X4_advise_v]; rw [if_pos a1]
    rw [ex, hI_0, ec] at e1
    have step : ∀ X : gI, X 2 = u3 (I 2) 11 0 0 0 → X 3 = I 3 → _ := fun X x2 x3 => zT_adv (zR_TH (c := 0) hR) p40 (by omega) 5 0 4 0 (-1) I X (by omega) rfl x2 x3 hl0 hcc (Or.inr ⟨rfl, by omega⟩)
    obtain ⟨-, -, w1, w2, zn, -⟩ := step (gU I 2 11 0 0 0) (by rw [gU_at]) (by rw [gU_ne _ _ _ _ _ (by decide)])
    rw [← e1] at w1 w2 zn
    obtain ⟨K1, hK1⟩ : ∃ X, gU I1 2 11 0 0 0 = X := ⟨_, rfl⟩
    have k2 : K1 2 = u3 (I 2) 11 0 0 0 := by rw [← hK1, gU_at, zn 2 (by decide)]
    have kn : ∀ y, y ≠ 2 → K1 y = I1 y := fun y hy => by rw [← hK1, gU_ne _ _ _ _ _ hy]
    have k3 : K1 3 = I 3 := by rw [kn 3 (by decide), zn 3 (by decide)]
    obtain ⟨g1, g2, -, -, -, g6⟩ := step K1 k2 k3
    have es : f_X6_advise_s I1 (nI p) = f_X6_advise_l1_s (nI p) 5 0 0 (-1) K1 := by
      simp only [f_X6_advise_s, hK1]
      rw [if_neg (nB _)]
    have esv : f_X6_advise_v I1 (nI p) = f_X6_advise_l1_v (nI p) 5 0 0 (-1) K1 := by
      simp only [f_X6_advise_v, hK1]
      rw [if_neg (nB _)]
    refine ⟨?_, ?_⟩
    · unfold ok_X6_advise
      rw [hK1]
      rintro _ rfl
      exact ⟨zo_isIn _ _ _ _, fun _ => zno _ _, fun _ => g2⟩
    · rintro _ rfl
      rw [es, ex, ev, esv]
      refine ⟨by rw [g6 2 (by decide), k2, u3_at]; rfl, fun _ => g1, ?_⟩
      refine ⟨K, A, ?_, by omega, h3, h4, h5, ?_, ?_, ?_, ?_, t, by omega, ?_, ?_⟩
      · rw [g6 0 (by decide), g6 2 (by decide), g6 3 (by decide), kn 0 (by decide), zn 0 (by decide), k2, k3]
        exact zR_TH hR
      · rw [g6 2 (by decide), k2, u3_skipj _ _ (by decide)]
        exact hf
      · rw [g6 0 (by decide), kn 0 (by decide), zn 0 (by decide)]
        exact hw0
      · rw [g6 1 (by decide), kn 1 (by decide)]
        exact w1
      · rw [g6 1 (by decide), kn 1 (by decide)]
        exact w2
      · rw [g6 2 (by decide), g6 3 (by decide), k2, k3]
        exact hzh.model (fun _ => by rw [u3_skip _ _ _ _ (by decide)])
      · rw [g6 2 (by decide), g6 3 (by decide), k2, k3]
        refine ⟨fun i a b => ?_, hzX.2⟩
        rw [u3_skip _ _ _ _ (by decide)]
        exact hzX.1 i a b
