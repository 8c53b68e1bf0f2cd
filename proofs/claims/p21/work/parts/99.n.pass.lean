/-! ONE MINUTE on all three sides, and what the law asks of it -/
theorem cw3 (X : gI) : f_X6_counted X 3 3 = f_X6_loadsThat X 3 2 := by
  unfold f_X6_counted
  rw [if_neg (by decide), if_neg (by decide), if_neg (by decide), if_pos rfl]
theorem ssm_diff {f g : Nat → Int32} : ∀ n, (∀ i, i < n → f i = g i ∨ f i = g i + 1) → ∃ m, m ≤ n ∧ ssm f n = ssm g n + nI m := by
  intro n
  induction n with
  | zero => intro _; exact ⟨0, Nat.le_refl _, rfl⟩
  | succ n ih =>
    intro h
    obtain ⟨m, h1, h2⟩ := ih (fun i hi => h i (by omega))
    simp only [ssm]
    rcases h n (by omega) with e | e
    · refine ⟨m, by omega, ?_⟩
      rw [h2, e]
      grind
    · refine ⟨m + 1, by omega, ?_⟩
      rw [h2, e, nI_succ]
      grind
theorem i32_sub {a b c : Int32} (h : a = b + c) : a - b = c := by
  rw [h]
  grind
theorem jM.pass {n L a b : Nat} {J I : gI} (h : jR (n + 1) L J) (hm : jM J I) (hL : L < 290) (ha : J 0 0 0 4 = nI a) (a6 : a ≤ 6) (hb : J 0 0 0 5 = nI b) (b10 : b ≤ 10) :
    f_X4_pass_x I 1 = 0 ∧ f_X4_pass_v I 1 = cW J 3 - f_X3_tell J 0 3 ∧ f_X4_pass_s I 1 5 = I 5 ∧ ok_S_go (f_X4_pass_s I 1) ∧ f_S_go_v (f_X4_pass_s I 1) = cW J 3 - f_X3_tell J 0 3 ∧
    ∃ S, jR n L (gGh (f_S_go_s (f_X4_pass_s I 1)) (J 2) S) ∧ (∀ w, f_X3_tell (f_X4_pass_s I 1) 0 (nI w) = cW J w) ∧ cW J 11 - f_X3_tell J 0 11 ≤ ssm (fun k => f_X1_tell J 0 k 0) a ∧ (∃ m, m ≤ a ∧ cW J 10 - f_X3_tell J 0 10 = nI m) ∧
      (∀ k, k < a → f_X1_tell (f_X4_pass_s I 1) 0 k 7 - f_X1_tell J 0 k 7 = 0 ∨ (f_X1_tell (f_X4_pass_s I 1) 0 k 7 - f_X1_tell J 0 k 7 = 1 ∧ f_X1_tell (f_X4_pass_s I 1) 0 k 2 = 0 ∧ (f_X1_tell (f_X4_pass_s I 1) 0 k 3 = 0 ∨ f_X1_tell (f_X4_pass_s I 1) 0 k 3 = 3))) ∧
      ∀ x, x < b → 0 < zU x (J 2 11 0 7) 300 0 J → ∀ I', jM (gGh (f_S_go_s (f_X4_pass_s I 1)) (J 2) S) I' → f_X4_until_x I' (nI x) = 0 ∧ f_X4_until_v I' (nI x) = zU x (J 2 11 0 7) 300 0 J - 1 := by
  have hlJ := h.lw0
  obtain ⟨K, A, t, hR, hK, k3, k4, k5, hf, hw0, hw1, hcc, ht, hzh, hzX, hs⟩ := h
  obtain ⟨m0, m2, m3, m5, mw, mc⟩ := hm
  have hi := hR.2.2.2
  have h1 := hi.k1
  have ea : A 0 0 0 = a := by
    have := hR.1.k1
    rw [ha] at this
    exact ((nI_eq (by omega) (by omega)).mp this).symm
  have eb : A 0 0 1 = b := by
    have := hR.1.k2
    rw [hb] at this
    exact ((nI_eq (by omega) (by omega)).mp this).symm
  subst ea
  subst eb
  have hR0 : zR 6 K A (I 0) (J 2) (J 3) := by rw [m0]; exact hR
  have hwI : wf (I 0) := by rw [m0]; exact hw0
  have ex : f_X4_pass_x I 1 = 0 := by simp only [f_X4_pass_x]; rw [if_pos (need1 I)]
  have ec : f_X4_pass_s I 1 = f_X3_runMinutes I 0 (nI 1) := by simp only [f_X4_pass_s]; rw [if_pos (need1 I)]; rfl
  have ev : f_X4_pass_v I 1 = f_X3_tell (f_X3_runMinutes I 0 (nI 1)) 0 3 - f_X3_tell I 0 3 := by simp only [f_X4_pass_v]; rw [if_pos (need1 I)]; rfl
  obtain ⟨P, hP⟩ : ∃ P, P = f_X3_runMinutes I 0 (nI 1) := ⟨_, rfl⟩
  rw [ex, ec, ev, ← hP]
  have pn : ∀ y, y ≠ 0 → P y = I y := fun y hy => by rw [hP]; exact ne_X3_runMinutes I 0 (nI 1) (by decide) hwI (isN_nI (by decide) (by decide)) hy
  obtain ⟨A', q1, q2, q3, q4⟩ := zM_pass hR0 hwI hzh (by omega)
  rw [← hP] at q2
  have pwf : wf (P 0) := by
    obtain ⟨-, -, r4⟩ := zT_run (y := 0) (z := 3) (m := 1) (by decide) (Or.inl rfl) hR0 hwI (by decide) (by omega)
    rw [hP]
    exact r4
  have J2 : f_X6_pass J 3 (nI (A 0 0 6)) 2 = J 2 := ne_X6_pass _ _ _ (Or.inl rfl) (by decide)
  have e0 := q1 0 (by decide)
  have e1 := q1 1 (by decide)
  have e3 := q1 3 (by decide)
  have e4 := q1 4 (by decide)
  have e5 := q1 5 (by decide)
  have e6 := q1 6 (by decide)
  have hR2 : zR 6 (K + 6) A' (P 0) (f_X6_pass J 3 (nI (A 0 0 6)) 2) (f_X6_pass J 3 (nI (A 0 0 6)) 3) := by rw [J2]; exact q2
  have tw : ∀ x, f_X3_tell P 0 x = f_X6_counted (f_X6_pass J 3 (nI (A 0 0 6))) 3 x := fun x => (zT_count hR2 (by rw [J2, hf, e6]) x).1
  have cw : ∀ w, cW J w = f_X6_counted (f_X6_pass J 3 (nI (A 0 0 6))) 3 (nI w) := fun w => by unfold cW; rw [hf]
  have tJ : f_X3_tell J 0 3 = f_X6_loadsThat J 3 2 := (zT_that hR hf).1
  have tI : f_X3_tell I 0 3 = f_X3_tell J 0 3 := zy_X3 m0 3
  obtain ⟨s1, s2, s3⟩ := zs_go (L := L) (Is := P) hL (by omega) hR hw0 hzh.zg (by rw [pn 5 (by decide), m5]; exact hs) hf (by omega)
  have zX' := hzX.fr (zf_pass hR hw0 (by omega))
  have gv : cW J 3 = f_X6_loadsThat (f_X6_pass J 3 (nI (A 0 0 6))) 3 2 := (cw 3).trans (cw3 _)
  refine ⟨rfl, ?_, pn 5 (by decide), s1, by rw [s3, gv, tJ], f_X6_pass J 3 (nI (A 0 0 6)) 3, ?_, fun w => by rw [tw, cw], ?_, ?_, fun k hk => ?_, fun x hx hp I' hm' => ?_⟩
  · rw [tw, tI, gv]
    exact congrArg (· - _) (cw3 _)
  · refine ⟨K + 6, A', t + 1, ?_⟩
    have y0 : gGh (f_S_go_s P) (J 2) (f_X6_pass J 3 (nI (A 0 0 6)) 3) 0 = P 0 := by rw [gGh_ne _ _ _ (by decide) (by decide), ne_S_go _ (by decide)]
    have y1 : gGh (f_S_go_s P) (J 2) (f_X6_pass J 3 (nI (A 0 0 6)) 3) 1 = I 1 := by rw [gGh_ne _ _ _ (by decide) (by decide), ne_S_go _ (by decide), pn 1 (by decide)]
    have y5 : gGh (f_S_go_s P) (J 2) (f_X6_pass J 3 (nI (A 0 0 6)) 3) 5 = f_S_go_s P 5 := gGh_ne _ _ _ (by decide) (by decide)
    have y2 : gGh (f_S_go_s P) (J 2) (f_X6_pass J 3 (nI (A 0 0 6)) 3) 2 = J 2 := rfl
    have y3 : gGh (f_S_go_s P) (J 2) (f_X6_pass J 3 (nI (A 0 0 6)) 3) 3 = f_X6_pass J 3 (nI (A 0 0 6)) 3 := rfl
    rw [y0, y1, y2, y3, y5, e0, e1]
    exact ⟨q2, by omega, by rw [e3]; exact k3, by rw [e4]; exact k4, by rw [e5]; exact k5, by rw [e6]; exact hf, pwf, mw, mc, by omega, q3.zh, zX', s2⟩
  · have u1 : cW J 11 = f_X6_pass J 3 (nI (A 0 0 6)) 3 20 0 4 := by
      rw [cw, ← tw]
      exact (zT_p11 hR2).1
    have u2 : f_X3_tell J 0 11 = J 3 20 0 4 := (zT_p11 hR).1
    rw [u1, u2]
    exact zM_strong hR q1 q3 q4
  · have u1 : cW J 10 = ssm (fun k => f_X1_tell P 0 k 7) (A 0 0 0) := by
      rw [cw, ← tw]
      exact (t10 P).trans (tell_sl P 7 _ (by rw [q2.1.k1, e0]) (by omega))
    have u2 : f_X3_tell J 0 10 = ssm (fun k => f_X1_tell J 0 k 7) (A 0 0 0) := by
      rw [t10, tell_sl J 7 _ ha (by omega)]
    obtain ⟨m, w1, w2⟩ := ssm_diff (f := fun k => f_X1_tell P 0 k 7) (g := fun k => f_X1_tell J 0 k 7) (A 0 0 0) (fun k hk => by
      rcases zM_idle hR q1 q2 q3 hk with e | ⟨e, -⟩
      · exact Or.inl e
      · exact Or.inr e)
    exact ⟨m, w1, by rw [u1, u2]; exact i32_sub w2⟩
  · rcases zM_idle hR q1 q2 q3 hk with e | ⟨e, c2, c0⟩
    · exact Or.inl (i32_sub (by rw [e, i32_0]))
    · have w2 := (zL_2 q2.1 q2.2.2.2 (k := k) (by omega)).1
      have w3 := (zL_3 q2.1 q2.2.2.2 (k := k) (by omega)).1
      refine Or.inr ⟨i32_sub e, by rw [w2, c2]; rfl, ?_⟩
      rcases c0 with c | c
      · exact Or.inl (by rw [w3, c]; rfl)
      · exact Or.inr (by rw [w3, c]; rfl)
  · obtain ⟨n0, n2, n3, n5, nw, nc⟩ := hm'
    rw [gGh_ne _ _ _ (by decide) (by decide), ne_S_go _ (by decide)] at n0
    have hR3 : zR 6 (K + 6) A' (I' 0) (f_X6_pass J 3 (nI (A 0 0 6)) 2) (f_X6_pass J 3 (nI (A 0 0 6)) 3) := by rw [n0]; exact hR2
    have hlI : lw0 I' := by
      refine zRel_lw0 (n := n) ⟨K + 6, A', ?_, by omega, by rw [e3]; exact k3, by rw [e4]; exact k4, by rw [e5]; exact k5, ?_, ?_, nw, nc, t + 1, by omega, ?_, ?_⟩
      · rw [n0, n2, n3]
        exact q2
      · rw [n2, e6]
        exact hf
      · rw [n0]
        exact pwf
      · rw [n2, n3]
        exact q3.zh
      · rw [n2, n3, e0, e1]
        exact zX'
    obtain ⟨v1, v2⟩ := jU_v hR3 nc hlI (show x < A' 0 0 1 by omega) (by omega)
    refine ⟨v1, ?_⟩
    rw [v2, e6]
    rw [hf] at hp ⊢
    have nx : ∀ M, M = 299 → 0 < zU x (nI (A 0 0 6)) (M + 1) 0 J → zU x (nI (A 0 0 6)) (M + 1) 0 (f_X6_pass J 3 (nI (A 0 0 6))) = zU x (nI (A 0 0 6)) (M + 1) 0 J - 1 := fun M hM q => zU_next (by omega) q
    exact nx 299 rfl hp
