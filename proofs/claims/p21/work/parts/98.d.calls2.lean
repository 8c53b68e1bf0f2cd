/-! THE CALLS BY HAND: swap, wake, bring -/
theorem zS_swap {n : Nat} {I : gI} (x b : Int32) (h : zRel (n + 1) I) : sp_swap (zRel n) I x b := by
  have hm := zRel_mono h
  obtain ⟨K, A, hR, hK, h3, h4, h5, hf, hw0, hw1, hcc, t, ht, hzh, hzX⟩ := h
  have hi := hR.2.2.2
  have h1 := hi.k1
  intro I1 e1
  have fail : ∀ c, (c = 3 ∨ c = 1) → f_X4_swap_x I x b = c → (f_X6_isLad (gU I 2 11 0 0 0) x = 0 ∧ c = 3 ∨ (f_X6_isLad (gU I 2 11 0 0 0) x = 1 ∧ f_X6_isLad (gU I 2 11 0 0 0) b = 0 ∧ c = 3) ∨ f_X6_isLad (gU I 2 11 0 0 0) x = 1 ∧ f_X6_isLad (gU I 2 11 0 0 0) b = 1 ∧ x = b ∧ c = 1) → ok_X6_swap I1 x b ∧ ∀ I2, I2 = f_X6_swap_s I1 x b → hcode 3 (f_X4_swap_x I x b) = I2 2 11 0 0 ∧ (f_X4_swap_x I x b = 0 → f_X4_swap_v I x b = f_X6_swap_v I1 x b) ∧ zRel n I2 := by
    intro c hc ex hb
    have c0 : c ≠ 0 := by omega
    rw [ex, hI_s c0] at e1
    subst e1
    refine ⟨?_, ?_⟩
    · rintro _ rfl
      refine ⟨zo_isLad _ _, fun _ => zno _ _, fun q => ⟨zo_isLad _ _, fun _ => zno _ _, fun q2 => ⟨fun _ => zno _ _, fun q3 => ?_⟩⟩⟩
      rcases hb with ⟨hb, -⟩ | ⟨-, hb, -⟩ | ⟨-, -, hb, -⟩
      · exact absurd hb q
      · exact absurd hb q2
      · exact absurd hb q3
    · rintro _ rfl
      rw [ex]
      rcases hb with ⟨hb, rfl⟩ | ⟨ha, hb, rfl⟩ | ⟨ha, hb, hx, rfl⟩
      · have es : f_X6_swap_s I1 x b = gU (gU I1 2 11 0 0 0) 2 11 0 0 1 := by simp only [f_X6_swap_s, f_X6_no_s]; rw [if_pos hb]
        rw [es]
        exact ⟨(zF1 hm 1).1.symm, fun q => absurd q (by decide), (zF1 hm 1).2⟩
      · have es : f_X6_swap_s I1 x b = gU (gU I1 2 11 0 0 0) 2 11 0 0 1 := by simp only [f_X6_swap_s, f_X6_no_s]; rw [if_neg (by rw [ha]; decide), if_pos hb]
        rw [es]
        exact ⟨(zF1 hm 1).1.symm, fun q => absurd q (by decide), (zF1 hm 1).2⟩
      · have es : f_X6_swap_s I1 x b = gU (gU I1 2 11 0 0 0) 2 11 0 0 2 := by simp only [f_X6_swap_s, f_X6_no_s]; rw [if_neg (by rw [ha]; decide), if_neg (by rw [hb]; decide), if_pos hx]
        rw [es]
        exact ⟨(zF1 hm 2).1.symm, fun q => absurd q (by decide), (zF1 hm 2).2⟩
  rcases zq_lad (I := I) (J := gU I 2 11 0 0 0) (x := x) hR.1.k1 (zR_J hR 0).2.1.k1 (by omega) with ⟨a1, a2⟩ | ⟨k, hk, rfl, a1, a2⟩
  · exact fail 3 (Or.inl rfl) (by simp only [f_X4_swap_x]; rw [a1]; rfl) (Or.inl ⟨a2, rfl⟩)
  · rcases zq_lad (I := I) (J := gU I 2 11 0 0 0) (x := b) hR.1.k1 (zR_J hR 0).2.1.k1 (by omega) with ⟨b1, b2⟩ | ⟨k', hk', rfl, b1, b2⟩
    · exact fail 3 (Or.inl rfl) (by simp only [f_X4_swap_x]; rw [if_pos a1, b1]; rfl) (Or.inr (Or.inl ⟨a2, b2, rfl⟩))
    · by_cases ek : k = k'
      · subst ek
        exact fail 1 (Or.inr rfl) (by simp only [f_X4_swap_x]; rw [if_pos a1, if_pos a1, if_pos trivial]) (Or.inr (Or.inr ⟨a2, b2, rfl, rfl⟩))
      · have nk : ¬ nI k = nI k' := fun q => ek ((nI_eq (by omega) (by omega)).mp q)
        have ck : (nI k).toNatClampNeg = k := nI_clamp (by omega)
        have ck' : (nI k').toNatClampNeg = k' := nI_clamp (by omega)
        have ex : f_X4_swap_x I (nI k) (nI k') = 0 := by simp only [f_X4_swap_x]; rw [if_pos a1, if_pos b1, if_neg nk]
        have ec : f_X4_swap_s I (nI k) (nI k') = gU (gU I 0 1 k 3 (I 0 1 k' 3)) 0 1 k' 3 (I 0 1 k 3) := by simp only [f_X4_swap_s]; rw [if_pos a1, if_pos b1, if_neg nk, ck, ck']
        have d1 := hR.1.k4 k (by omega)
        have d2 := hR.1.k4 k' (by omega)
        have ev : f_X4_swap_v I (nI k) (nI k') = nI (A 1 k' 2) := by
          simp only [f_X4_swap_v]
          rw [if_pos a1, if_pos b1, if_neg nk, ck, ck']
          have e3 : gU (gU I 0 1 k 3 (I 0 1 k' 3)) 0 1 k' 3 (I 0 1 k 3) 0 1 k 3 = I 0 1 k' 3 := by rw [gU_at, gU_at, u3_skipi _ _ ek, u3_at]
          rw [e3, hR.1.cart hi (by omega), gU_at, gU_at, u3_skip _ _ _ _ (by decide), u3_skip _ _ _ _ (by decide), hR.1.k5 k' (by omega)]
        rw [ex, hI_0, ec] at e1
        have zn : ∀ y, y ≠ 0 → I1 y = I y := fun y hy => by rw [e1, gU_ne _ _ _ _ _ hy, gU_ne _ _ _ _ _ hy]
        have z0 : I1 0 = u3 (u3 (I 0) 1 k 3 (nI (A 1 k' 3))) 1 k' 3 (nI (A 1 k 3)) := by rw [e1, gU_at, gU_at, d1, d2]
        have z2 := zn 2 (by decide)
        have z3 := zn 3 (by decide)
        have eL : ∀ v, f_X6_isLad (gU I1 2 11 0 0 0) v = f_X6_isLad (gU I 2 11 0 0 0) v := fun v => by
          unfold f_X6_isLad
          simp only [gU_at, z2, f_X6_isIn]
        have nL : ¬ f_X6_isLad (gU I1 2 11 0 0 0) (nI k) = 0 := by rw [eL, a2]; decide
        have nL' : ¬ f_X6_isLad (gU I1 2 11 0 0 0) (nI k') = 0 := by rw [eL, b2]; decide
        obtain ⟨g1, g2, g3, g4⟩ := zr_swap (z := 3) (a := k) (b := k') (by omega) (by omega) ek 8 0 (gU I1 2 11 0 0 0) (by omega)
        have es : f_X6_swap_s I1 (nI k) (nI k') = f_X6_swap_l1_s (nI k) (nI k') 8 0 (gU I1 2 11 0 0 0) := by simp only [f_X6_swap_s]; rw [if_neg nL, if_neg nL', if_neg nk]
        have esv : f_X6_swap_v I1 (nI k) (nI k') = f_X6_swap_l1_v (nI k) (nI k') 8 0 (gU I1 2 11 0 0 0) := by simp only [f_X6_swap_v]; rw [if_neg nL, if_neg nL', if_neg nk]
        have e3 : gU I1 2 11 0 0 0 3 = I 3 := by rw [gU_ne _ _ _ _ _ (by decide), z3]
        have s1 := hR.2.1.k6 k (by omega)
        have s2 := hR.2.1.k6 k' (by omega)
        rw [e3, s1, s2] at g1
        rw [e3, s2] at g2
        refine ⟨?_, ?_⟩
        · rintro _ rfl
          exact ⟨zo_isLad _ _, fun _ => zno _ _, fun _ => ⟨zo_isLad _ _, fun _ => zno _ _, fun _ => ⟨fun _ => zno _ _, fun _ => g3⟩⟩⟩
        · rintro _ rfl
          rw [es, ex, ev, esv, g2]
          refine ⟨?_, fun _ => rfl, ?_⟩
          · rw [g4 2 (by decide), gU_at, u3_at]
            rfl
          · refine ⟨K, zSP A k k', ?_, by omega, by simp [zSP]; exact h3, by simp [zSP]; exact h4, by simp [zSP]; exact h5, ?_, ?_, ?_, ?_, t, by omega, ?_, ?_⟩
            · rw [g4 0 (by decide), g4 2 (by decide), g1, gU_ne _ _ _ _ _ (by decide), gU_at, z0, z2]
              have T := zR_TH (c := 0) hR
              exact ⟨zCL_SP T.1 hi hk hk', zRF_SP T.2.1 hi hk hk' ek, zEQ_SP T.2.2.1 hi hk hk', zIV_SP hi h5 hk hk'⟩
            · rw [g4 2 (by decide), gU_at, u3_skipj _ _ (by decide), z2, hf]
              simp [zSP]
            · rw [g4 0 (by decide), gU_ne _ _ _ _ _ (by decide), z0]
              have b1 := (hi.k2 k (by omega)).2.2.1
              have b2 := (hi.k2 k' (by omega)).2.2.1
              exact wf_cart3 (wf_cart3 hw0 (by rw [nI_clamp (by omega)]; exact b2)) (by rw [nI_clamp (by omega)]; exact b1)
            · rw [g4 1 (by decide), gU_ne _ _ _ _ _ (by decide), zn 1 (by decide)]
              exact hw1
            · rw [g4 1 (by decide), gU_ne _ _ _ _ _ (by decide), zn 1 (by decide)]
              exact hcc
            · rw [g4 2 (by decide), g1, gU_at, z2]
              refine ((hzh.same (A' := zSP A k k') (by simp [zSP]) (by simp [zSP]) (by simp [zSP]) (fun i => by simp [zSP]) (fun i => by simp [zSP]) (fun i j => by simp [zSP]) (fun i j => by simp [zSP])).model (fun _ => by rw [u3_skip _ _ _ _ (by decide)])).eS ?_
              unfold zSW
              repeat' first | exact eS.rfl' _ | refine eS.put ?_ (by decide) | refine eS.row ?_ (by decide)
            · rw [g4 2 (by decide), g1, gU_at, z2, show zSP A k k' 0 0 0 = A 0 0 0 by simp [zSP], show zSP A k k' 0 0 1 = A 0 0 1 by simp [zSP]]
              unfold zSW
              refine ⟨fun i a b => ?_, fun j a b => ?_⟩
              · simp (disch := decide) only [u3_skip, urow_skip]
                exact hzX.1 i a b
              · simp (disch := decide) only [u3_skip, urow_skip]
                exact hzX.2 j a b
theorem zS_wake {n : Nat} {I : gI} (x : Int32) (h : zRel (n + 1) I) : sp_wake (zRel n) I x := by
  have hm := zRel_mono h
  obtain ⟨K, A, hR, hK, h3, h4, h5, hf, hw0, hw1, hcc, t, ht, hzh, hzX⟩ := h
  have hi := hR.2.2.2
  have h1 := hi.k1
  intro I1 e1
  rcases zq_lad (I := I) (J := gU I 2 11 0 0 0) (x := x) hR.1.k1 (zR_J hR 0).2.1.k1 (by omega) with ⟨a1, a2⟩ | ⟨k, hk, rfl, a1, a2⟩
  · have ex : f_X4_wake_x I x = 3 := by simp only [f_X4_wake_x]; rw [a1]; rfl
    rw [ex, hI_s (by decide)] at e1
    subst e1
    have es : f_X6_wake_s I1 x = gU (gU I1 2 11 0 0 0) 2 11 0 0 1 := by simp only [f_X6_wake_s, f_X6_no_s]; rw [if_pos a2]
    refine ⟨?_, ?_⟩
    · rintro _ rfl
      exact ⟨zo_isLad _ _, fun _ => zno _ _, fun q => absurd a2 q⟩
    · rintro _ rfl
      rw [es, ex]
      exact ⟨(zF1 hm 1).1.symm, fun q => absurd q (by decide), (zF1 hm 1).2⟩
  · have ck : (nI k).toNatClampNeg = k := nI_clamp (by omega)
    have h2 := hi.k2 k (by omega)
    have e7 := hR.1.k10 k (by omega)
    have s25 := hR.2.1.k4 k (by omega)
    by_cases d3 : A 1 k 0 = 3
    · rw [if_pos d3] at e7
      have ex : f_X4_wake_x I (nI k) = 0 := by simp only [f_X4_wake_x]; rw [if_pos a1, ck, if_neg (by rw [e7]; decide)]
      have ec : f_X4_wake_s I (nI k) = gU I 0 1 k 7 0 := by simp only [f_X4_wake_s]; rw [if_pos a1, ck, if_neg (by rw [e7]; decide)]
      have ev : f_X4_wake_v I (nI k) = f_X3_sleepers (gU I 0 1 k 7 0) 0 := by simp only [f_X4_wake_v]; rw [if_pos a1, ck, if_neg (by rw [e7]; decide)]
      rw [ex, hI_0, ec] at e1
      have zn : ∀ y, y ≠ 0 → I1 y = I y := fun y hy => by rw [e1, gU_ne _ _ _ _ _ hy]
      have z0 : I1 0 = u3 (I 0) 1 k 7 0 := by rw [e1, gU_at]
      have z2 := zn 2 (by decide)
      have z3 := zn 3 (by decide)
      have eL : f_X6_isLad (gU I1 2 11 0 0 0) (nI k) = 1 := by
        rw [← a2]
        unfold f_X6_isLad
        simp only [gU_at, z2, f_X6_isIn]
      have nL : ¬ f_X6_isLad (gU I1 2 11 0 0 0) (nI k) = 0 := by rw [eL]; decide
      have r3 : gU I1 2 11 0 0 0 3 25 0 k = 3 := by rw [gU_ne _ _ _ _ _ (by decide), z3, s25, d3]; rfl
      have es : f_X6_wake_s I1 (nI k) = gU (gU I1 2 11 0 0 0) 3 25 0 k 0 := by simp only [f_X6_wake_s]; rw [if_neg nL, ck, if_pos r3]
      have esv : f_X6_wake_v I1 (nI k) = f_X6_sleepers (gU (gU I1 2 11 0 0 0) 3 25 0 k 0) 3 := by simp only [f_X6_wake_v]; rw [if_neg nL, ck, if_pos r3]
      have W := zR_WK (zR_TH (c := 0) hR) hk d3
      obtain ⟨J, hJ⟩ : ∃ J, J = gU (gU I1 2 11 0 0 0) 3 25 0 k 0 := ⟨_, rfl⟩
      have j0 : J 0 = u3 (I 0) 1 k 7 0 := by rw [hJ]; simp (disch := decide) only [gU_ne]; exact z0
      have j1 : J 1 = I 1 := by rw [hJ]; simp (disch := decide) only [gU_ne]; exact zn 1 (by decide)
      have j2 : J 2 = u3 (I 2) 11 0 0 0 := by rw [hJ]; simp (disch := decide) only [gU_ne, gU_at]; rw [z2]
      have j3 : J 3 = u3 (I 3) 25 0 k 0 := by rw [hJ]; simp (disch := decide) only [gU_ne, gU_at]; rw [z3]
      have hff : J 2 11 0 7 = nI (zu A 1 k 0 0 0 0 6) := by rw [j2, u3_skipj _ _ (by decide), hf]; simp [zu]
      have W1 : zR 6 K (zu A 1 k 0 0) (gU I 0 1 k 7 0 0) (J 2) (J 3) := by rw [gU_at, j2, j3]; exact W
      have T := zT_count W1 hff 6
      have T1 : f_X3_sleepers (gU I 0 1 k 7 0) 0 = f_X6_sleepers J 3 := by
        have := T.1
        unfold f_X3_tell f_X6_counted at this
        rw [if_neg (by decide), if_neg (by decide), if_neg (by decide), if_neg (by decide), if_neg (by decide), if_neg (by decide), if_pos rfl, if_neg (by decide), if_neg (by decide), if_neg (by decide), if_neg (by decide), if_neg (by decide), if_neg (by decide), if_pos rfl] at this
        exact this
      have T2 : ok_X6_sleepers J 3 := (((((((T.2.2 (by decide)).2 (by decide)).2 (by decide)).2 (by decide)).2 (by decide)).2 (by decide)).1 rfl).1
      refine ⟨?_, ?_⟩
      · rintro _ rfl
        refine ⟨zo_isLad _ _, fun _ => zno _ _, fun _ => ⟨vp_in_nI (by omega) (by decide), fun _ => ?_, fun q => absurd (by rw [ck]; exact r3) q⟩⟩
        rintro _ rfl
        rw [ck, ← hJ]
        exact ⟨T2, trivial⟩
      · rintro _ rfl
        rw [es, ex, ev, esv, ← hJ]
        refine ⟨by rw [j2, u3_at]; rfl, fun _ => T1, ?_⟩
        refine ⟨K, zu A 1 k 0 0, ?_, by omega, by simp [zu]; exact h3, by simp [zu]; exact h4, by simp [zu]; exact h5, hff, ?_, ?_, ?_, t, by omega, ?_, ?_⟩
        · rw [j0, j2, j3]
          exact W
        · rw [j0]
          exact wf_u3 rfl hw0
        · rw [j1]; exact hw1
        · rw [j1]; exact hcc
        · rw [j2, j3]
          exact ((zh_WK hzh d3).model (fun _ => by rw [u3_skip _ _ _ _ (by decide)])).eS ((eS.rfl' _).put (by decide))
        · rw [j2, j3, show zu A 1 k 0 0 0 0 0 = A 0 0 0 by simp [zu], show zu A 1 k 0 0 0 0 1 = A 0 0 1 by simp [zu]]
          refine ⟨fun i a b => ?_, fun j a b => ?_⟩
          · simp (disch := decide) only [u3_skip]
            exact hzX.1 i a b
          · simp (disch := decide) only [u3_skip]
            exact hzX.2 j a b
    · rw [if_neg d3] at e7
      have ex : f_X4_wake_x I (nI k) = 2 := by simp only [f_X4_wake_x]; rw [if_pos a1, ck, if_pos e7]
      rw [ex, hI_s (by decide)] at e1
      subst e1
      have r3 : ¬ gU I1 2 11 0 0 0 3 25 0 k = 3 := by
        rw [gU_ne _ _ _ _ _ (by decide), s25]
        exact fun q => d3 ((nI_eq (b := 3) (by omega) (by decide)).mp q)
      have nL : ¬ f_X6_isLad (gU I1 2 11 0 0 0) (nI k) = 0 := by rw [a2]; decide
      have es : f_X6_wake_s I1 (nI k) = gU (gU I1 2 11 0 0 0) 2 11 0 0 2 := by simp only [f_X6_wake_s, f_X6_no_s]; rw [if_neg nL, ck, if_neg r3]
      refine ⟨?_, ?_⟩
      · rintro _ rfl
        refine ⟨zo_isLad _ _, fun _ => zno _ _, fun _ => ⟨vp_in_nI (by omega) (by decide), fun q => absurd (by rw [ck] at q; exact q) r3, fun _ => zno _ _⟩⟩
      · rintro _ rfl
        rw [es, ex]
        exact ⟨(zF1 hm 2).1.symm, fun q => absurd q (by decide), (zF1 hm 2).2⟩
theorem u3_same {Y : gY} {t i j : Nat} {x : Int32} (h : Y t i j = x) : u3 Y t i j x = Y := by
  funext a b c
  unfold u3
  by_cases e : a = t ∧ b = i ∧ c = j
  · rw [if_pos e, e.1, e.2.1, e.2.2, h]
  · rw [if_neg e]
/-- all who sleep wake: both loops -/
theorem zT_wakeAll {K : Nat} {x : Int32} : ∀ (m i : Nat) (A : zN) (I J : gI), zR 6 K A (I 0) (u3 (J 2) 11 0 4 (J 2 11 0 4 + 1)) (J 3) → J 2 11 0 1 = nI (A 0 0 0) → i + m = A 0 0 0 →
    ok_f_X6_bring_l1 x m i J ∧ f_X6_bring_l1_v x m i J = J 2 11 0 4 + 1 - 1 ∧ (∀ y, y ≠ 2 → y ≠ 3 → f_X6_bring_l1_s x m i J y = J y) ∧ f_X6_bring_l1_s x m i J 2 = u3 (J 2) 11 0 4 (J 2 11 0 4 + 1) ∧ ∃ A', zH A' A ∧ zR 6 K A' (f_X3_wakeAll_l1 0 m i I 0) (u3 (J 2) 11 0 4 (J 2 11 0 4 + 1)) (f_X6_bring_l1_s x m i J 3) ∧ (∀ t M', zh t A M' (J 3) → zh t A' M' (f_X6_bring_l1_s x m i J 3)) ∧ ∀ t, frT t → f_X6_bring_l1_s x m i J 3 t = J 3 t := by
  intro m
  induction m with
  | zero =>
    intro i A I J h hN hi
    refine ⟨⟨by rw [hN]; congr 1; omega, fun _ _ => trivial⟩, ?_, fun y h2 h3 => ?_, ?_, A, zH.rfl' A, ?_⟩
    · simp only [f_X6_bring_l1_v]
      rw [gU_at, u3_at]
    · simp only [f_X6_bring_l1_s]
      rw [gU_ne _ _ _ _ _ h2]
    · simp only [f_X6_bring_l1_s]
      rw [gU_at]
    · simp only [f_X6_bring_l1_s, f_X3_wakeAll_l1]
      rw [gU_ne _ _ _ _ _ (by decide)]
      exact ⟨h, fun _ _ g => g, fun _ _ => rfl⟩
  | succ m ih =>
    intro i A I J h hN hi
    have h1 := h.2.2.2.k1
    have h2 := h.2.2.2.k2 i (by omega)
    have e7 := h.1.k10 i (by omega)
    have s25 := h.2.1.k4 i (by omega)
    by_cases d3 : A 1 i 0 = 3
    · have r3 : J 3 25 0 i = 3 := by rw [s25, d3]; rfl
      have W := zR_WK h (show i < A 0 0 0 by omega) d3
      have j2 : gU J 3 25 0 i 0 2 = J 2 := gU_ne _ _ _ _ _ (by decide)
      have z1 : zH (zu A 1 i 0 0) A := fun j _ => by simp [zu]
      obtain ⟨g1, g2, g3, g4, A', g5, g6⟩ := ih (i + 1) (zu A 1 i 0 0) (gU I 0 1 i 7 0) (gU J 3 25 0 i 0) (by rw [gU_at, gU_at, j2]; exact W) (by rw [j2, z1 0 (by decide)]; exact hN) (by rw [z1 0 (by decide)]; omega)
      rw [j2] at g2 g4 g6
      refine ⟨⟨by rw [hN]; congr 1; omega, fun _ => ?_, fun q => absurd r3 q⟩, ?_, fun y h2 h3 => ?_, ?_, A', g5.trans' z1, ?_⟩
      · rintro _ rfl
        exact g1
      · simp only [f_X6_bring_l1_v]
        rw [if_pos r3]
        exact g2
      · simp only [f_X6_bring_l1_s]
        rw [if_pos r3, g3 y h2 h3, gU_ne _ _ _ _ _ h3]
      · simp only [f_X6_bring_l1_s]
        rw [if_pos r3]
        exact g4
      · simp only [f_X6_bring_l1_s, f_X3_wakeAll_l1]
        rw [if_pos r3]
        refine ⟨g6.1, fun t M' g => g6.2.1 t M' ?_, fun t ht => ?_⟩
        · rw [gU_at]
          exact (zh_WK g d3).eS ((eS.rfl' _).put (by decide))
        · rw [g6.2.2 t ht]
          rcases ht with rfl | rfl | rfl | rfl <;> rw [gU_at, u3_skip _ _ _ _ (by decide)]
    · have r3 : ¬ J 3 25 0 i = 3 := by
        rw [s25]
        exact fun q => d3 ((nI_eq (b := 3) (by omega) (by decide)).mp q)
      rw [if_neg d3] at e7
      have e0 : gU I 0 1 i 7 0 0 = I 0 := by rw [gU_at, u3_same e7]
      obtain ⟨g1, g2, g3, g4, A', g5, g6⟩ := ih (i + 1) A (gU I 0 1 i 7 0) J (by rw [e0]; exact h) hN (by omega)
      refine ⟨⟨by rw [hN]; congr 1; omega, fun q => absurd q r3, fun _ => g1⟩, ?_, fun y h2 h3 => ?_, ?_, A', g5, ?_⟩
      · simp only [f_X6_bring_l1_v]
        rw [if_neg r3]
        exact g2
      · simp only [f_X6_bring_l1_s]
        rw [if_neg r3]
        exact g3 y h2 h3
      · simp only [f_X6_bring_l1_s]
        rw [if_neg r3]
        exact g4
      · simp only [f_X6_bring_l1_s, f_X3_wakeAll_l1]
        rw [if_neg r3]
        exact g6
theorem zc_wakeAll5 : ∀ (m i : Nat) (I : gI), f_X3_wakeAll_l1 0 m i I 0 0 0 5 = I 0 0 0 5 := by
  intro m
  induction m with
  | zero => intro i I; rfl
  | succ m ih =>
    intro i I
    simp only [f_X3_wakeAll_l1]
    rw [ih, gU_at, u3_skip _ _ _ _ (by decide)]
theorem zS_bring {n : Nat} {I : gI} (x : Int32) (h : zRel (n + 1) I) : sp_bring (zRel n) I x := by
  have hm := zRel_mono h
  obtain ⟨K, A, hR, hK, h3, h4, h5, hf, hw0, hw1, hcc, t, ht, hzh, hzX⟩ := h
  have hi := hR.2.2.2
  have h1 := hi.k1
  have hc5 := hR.1.k2
  have hr4 := hR.2.1.k2
  intro I1 e1
  have fail : f_X4_bring_x I x = 1 → f_X6_isIn (gU I 2 11 0 0 0) x 1 60 = 0 → ok_X6_bring I1 x ∧ ∀ I2, I2 = f_X6_bring_s I1 x → hcode 1 (f_X4_bring_x I x) = I2 2 11 0 0 ∧ (f_X4_bring_x I x = 0 → f_X4_bring_v I x = f_X6_bring_v I1 x) ∧ zRel n I2 := by
    intro ex hb
    rw [ex, hI_s (by decide)] at e1
    subst e1
    have es : f_X6_bring_s I1 x = gU (gU I1 2 11 0 0 0) 2 11 0 0 1 := by simp only [f_X6_bring_s, f_X6_no_s]; rw [if_pos hb]
    refine ⟨?_, ?_⟩
    · rintro _ rfl
      exact ⟨zo_isIn _ _ _ _, fun _ => zno _ _, fun q => absurd hb q⟩
    · rintro _ rfl
      rw [es, ex]
      exact ⟨(zF1 hm 1).1.symm, fun q => absurd q (by decide), (zF1 hm 1).2⟩
  rcases zq_in' (J := gU I 2 11 0 0 0) (b := x) (lo := 1) (hi := 60) with ⟨b1, b2⟩ | ⟨b1, b3, b2⟩ | ⟨b1, b3, b2⟩
  · exact fail (by simp only [f_X4_bring_x]; rw [if_pos b1]) b2
  · exact fail (by simp only [f_X4_bring_x]; rw [if_neg b1, if_neg b3]) b2
  · obtain ⟨s, s1, s60, rfl⟩ := nI_rng (a := 1) (m := 60) (by decide) (by decide) b1 b3
    by_cases hl : A 0 0 1 < 10
    · have l10 : I 0 0 0 5 < 10 := by rw [hc5]; exact nI_lt (b := 10) hl (by decide)
      have cl : (nI (A 0 0 1)).toNatClampNeg = A 0 0 1 := nI_clamp (by omega)
      have cN : (nI (A 0 0 2)).toNatClampNeg = A 0 0 2 := nI_clamp (by omega)
      have ex : f_X4_bring_x I (nI s) = 0 := by simp only [f_X4_bring_x]; rw [if_neg b1, if_pos b3, if_pos l10]
      have ec : f_X4_bring_s I (nI s) = f_X3_addLoad_s I 0 (nI s) := by simp only [f_X4_bring_s]; rw [if_neg b1, if_pos b3, if_pos l10]
      obtain ⟨I4, hI4⟩ : ∃ I4, I4 = gU (gU (gU (gU I 0 4 (A 0 0 1) 0 (nI s)) 0 4 (A 0 0 1) 2 (I 0 0 0 6)) 0 5 0 (32 * A 0 0 1 + 1) (nI s)) 0 0 0 5 (nI (A 0 0 1 + 1)) := ⟨_, rfl⟩
      have I4z : I4 0 = u3 (u3 (u3 (u3 (I 0) 4 (A 0 0 1) 0 (nI s)) 4 (A 0 0 1) 2 (I 0 0 0 6)) 5 0 (32 * A 0 0 1 + 1) (nI s)) 0 0 5 (nI (A 0 0 1 + 1)) := by rw [hI4]; simp only [gU_at]
      have ei : nI (A 0 0 1) * 32 + 1 = nI (32 * A 0 0 1 + 1) := by rw [show nI (A 0 0 1) * 32 = nI (A 0 0 1 * 32) from pk_mul _ 32, zc_add1, Nat.mul_comm]
      have ea : f_X3_addLoad_s I 0 (nI s) = f_X3_wakeAll I4 0 := by
        simp only [f_X3_addLoad_s]
        rw [if_pos l10]
        simp (disch := decide) only [hc5, cl, gU_at, u3_skip, ei, zc_setBales _ _ _ (show 32 * A 0 0 1 + 1 < 320 by omega), zc_add1]
        rw [hI4]
      have ev : f_X4_bring_v I (nI s) = nI (A 0 0 1 + 1) - 1 := by
        simp only [f_X4_bring_v]
        rw [if_neg b1, if_pos b3, if_pos l10]
        simp only [f_X3_addLoad_v]
        rw [if_pos l10]
        simp (disch := decide) only [hc5, cl, gU_at, u3_skip, ei, zc_setBales _ _ _ (show 32 * A 0 0 1 + 1 < 320 by omega), zc_add1]
        rw [← hI4]
        unfold f_X3_wakeAll
        rw [zc_wakeAll5, I4z, u3_at]
      have hwf := wf_X3_addLoad I 0 (nI s) (by decide) hw0
      rw [ex, hI_0, ec] at e1
      have zn : ∀ y, y ≠ 0 → I1 y = I y := fun y hy => by rw [e1]; exact ne_X3_addLoad I 0 (nI s) (by decide) hw0 hy
      rw [← e1] at hwf
      rw [ea] at e1
      have z2 := zn 2 (by decide)
      have z3 := zn 3 (by decide)
      obtain ⟨K1, hK1⟩ : ∃ X, gU I1 2 11 0 0 0 = X := ⟨_, rfl⟩
      obtain ⟨K2, hK2⟩ : ∃ X, gU K1 2 14 0 (A 0 0 1) (nI s) = X := ⟨_, rfl⟩
      obtain ⟨K3, hK3⟩ : ∃ X, gU K2 2 15 0 (A 0 0 1) (I 3 20 0 0) = X := ⟨_, rfl⟩
      obtain ⟨K4, hK4⟩ : ∃ X, gU K3 3 33 0 (A 0 0 1) 0 = X := ⟨_, rfl⟩
      obtain ⟨K5, hK5⟩ : ∃ X, gU K4 3 35 0 (A 0 0 1) (-1) = X := ⟨_, rfl⟩
      obtain ⟨J6, hJ6⟩ : ∃ X, gU K5 3 36 0 (A 0 0 1) 1 = X := ⟨_, rfl⟩
      have q1 : K1 2 11 0 4 = nI (A 0 0 1) := by rw [← hK1, gU_at, u3_skipj _ _ (by decide), z2, hr4]
      have q2 : K2 2 11 0 4 = nI (A 0 0 1) := by rw [← hK2, gU_at, u3_skip _ _ _ _ (by decide), q1]
      have q2' : K2 3 20 0 0 = I 3 20 0 0 := by rw [← hK2, gU_ne _ _ _ _ _ (by decide), ← hK1, gU_ne _ _ _ _ _ (by decide), z3]
      have q3 : K3 2 11 0 4 = nI (A 0 0 1) := by rw [← hK3, gU_at, u3_skip _ _ _ _ (by decide), q2]
      have q4 : K4 2 11 0 4 = nI (A 0 0 1) := by rw [← hK4, gU_ne _ _ _ _ _ (by decide), q3]
      have q5 : K5 2 11 0 4 = nI (A 0 0 1) := by rw [← hK5, gU_ne _ _ _ _ _ (by decide), q4]
      have q6 : J6 2 11 0 4 = nI (A 0 0 1) := by rw [← hJ6, gU_ne _ _ _ _ _ (by decide), q5]
      have nB : ¬ f_X6_isIn K1 (nI s) 1 60 = 0 := by
        rw [show f_X6_isIn K1 (nI s) 1 60 = 1 from b2]
        decide
      have n10 : ¬ K1 2 11 0 4 = 10 := by
        rw [q1]
        exact fun q => absurd ((nI_eq (b := 10) (by omega) (by decide)).mp q) (by omega)
      have J62 : J6 2 = u3 (u3 (u3 (I 2) 11 0 0 0) 14 0 (A 0 0 1) (nI s)) 15 0 (A 0 0 1) (I 3 20 0 0) := by rw [← hJ6, ← hK5, ← hK4, ← hK3, ← hK2, ← hK1]; simp (disch := decide) only [gU_at, gU_ne]; rw [z2]
      have J63 : J6 3 = u3 (u3 (u3 (I 3) 33 0 (A 0 0 1) 0) 35 0 (A 0 0 1) (-1)) 36 0 (A 0 0 1) 1 := by rw [← hJ6, ← hK5, ← hK4, ← hK3, ← hK2, ← hK1]; simp (disch := decide) only [gU_at, gU_ne]; rw [z3]
      have J6n : ∀ y, y ≠ 2 → y ≠ 3 → J6 y = I1 y := fun y h2 h3 => by rw [← hJ6, ← hK5, ← hK4, ← hK3, ← hK2, ← hK1]; simp only [gU_ne _ _ _ _ _ h2, gU_ne _ _ _ _ _ h3]
      have J619 : J6 3 20 0 19 = nI (A 0 0 2) := by rw [J63]; simp (disch := decide) only [u3_skip]; exact hR.2.1.k3
      obtain ⟨p1, p2, p3⟩ := zr_add (J := J6) (z := 3) (N := A 0 0 2) (nI s) (nI (A 0 0 1)) (-1) J619 (by omega)
      obtain ⟨J8, hJ8⟩ : ∃ X, gU (f_X5_add_s J6 3 (nI s) (nI (A 0 0 1)) (-1)) 3 34 0 (A 0 0 1) (nI (A 0 0 2)) = X := ⟨_, rfl⟩
      have J83 : J8 3 = (u3 (u3 (u3 (u3 (u3 (u3 (u3 (u3 (u3 (u3 (u3 (I 3) 33 0 (A 0 0 1) 0) 35 0 (A 0 0 1) (-1)) 36 0 (A 0 0 1) 1) 40 0 (A 0 0 2) (nI s)) 41 0 (A 0 0 2) (nI s)) 42 0 (A 0 0 2) (nI (A 0 0 1))) 43 0 (A 0 0 2) (-1)) 44 0 (A 0 0 2) (-1)) 45 0 (A 0 0 2) 0) 20 0 19 (nI (A 0 0 2 + 1))) 34 0 (A 0 0 1) (nI (A 0 0 2))) := by rw [← hJ8, p1]; simp only [gU_at]; rw [J63]
      have J8n : ∀ y, y ≠ 3 → J8 y = J6 y := fun y h3 => by rw [← hJ8, p1]; simp only [gU_ne _ _ _ _ _ h3]
      have J82 := J8n 2 (by decide)
      have J84 : J8 2 11 0 4 = nI (A 0 0 1) := by rw [J82, q6]
      have J81 : J8 2 11 0 1 = nI (A 0 0 0) := by rw [J82, J62]; simp (disch := decide) only [u3_skip, u3_skipj, hR.2.1.k1]
      have R := zR_BR (zR_TH (c := 0) hR) h4 hl ⟨s1, s60⟩
      have zb : ∀ j, j ≠ 1 → j ≠ 2 → zBR A s 0 0 j = A 0 0 j := fun j q1 q2 => by simp [zBR, zu, q1, q2]
      obtain ⟨g1, g2, g3, g4, A', g5, g6⟩ := zT_wakeAll (K := K) (x := nI s) (A 0 0 0) 0 (zBR A s) I4 J8 (by
        rw [J84, zc_add1, I4z, J83, J82, J62]
        exact R) (by rw [zb 0 (by decide) (by decide)]; exact J81) (by rw [zb 0 (by decide) (by decide)]; omega)
      have cn : (nI (A 0 0 0)).toNatClampNeg = A 0 0 0 := nI_clamp (by omega)
      have es : f_X6_bring_s I1 (nI s) = f_X6_bring_l1_s (nI s) (A 0 0 0) 0 J8 := by
        simp only [f_X6_bring_s, hK1]
        rw [if_neg nB, if_neg n10]
        simp only [q1, cl, hK2, q2, q2', hK3, q3, hK4, q4, hK5, q5, hJ6, q6, p2, cN, hJ8, J81, cn]
      have esv : f_X6_bring_v I1 (nI s) = f_X6_bring_l1_v (nI s) (A 0 0 0) 0 J8 := by
        simp only [f_X6_bring_v, hK1]
        rw [if_neg nB, if_neg n10]
        simp only [q1, cl, hK2, q2, q2', hK3, q3, hK4, q4, hK5, q5, hJ6, q6, p2, cN, hJ8, J81, cn]
      have v10 : vp_in (nI (A 0 0 1)) 10 := vp_in_nI hl (by decide)
      refine ⟨?_, ?_⟩
      · unfold ok_X6_bring
        rw [hK1]
        rintro _ rfl
        refine ⟨zo_isIn _ _ _ _, fun q => absurd q nB, fun _ => ⟨fun q => absurd q n10, fun _ => ?_⟩⟩
        rw [q1]
        refine ⟨v10, ?_⟩
        rintro _ rfl
        simp only [cl, hK2, q2]
        refine ⟨v10, ?_⟩
        rintro _ rfl
        simp only [q2', hK3, q3, cl]
        refine ⟨v10, ?_⟩
        rintro _ rfl
        simp only [hK4, q4, cl]
        refine ⟨v10, ?_⟩
        rintro _ rfl
        simp only [hK5, q5, cl]
        refine ⟨v10, ?_⟩
        rintro _ rfl
        simp only [hJ6, q6, cl]
        refine ⟨p3, ?_⟩
        rintro _ rfl
        refine ⟨v10, ?_⟩
        rintro _ rfl
        simp only [p2, hJ8, J81, cn]
        exact ⟨isN_nI (by omega) (by decide), g1⟩
      · rintro _ rfl
        rw [es, ex, ev, esv, g2, J84]
        refine ⟨?_, fun _ => by rw [zc_add1], ?_⟩
        · rw [g4, u3_skipj _ _ (by decide), J82, J62]
          simp (disch := decide) only [u3_skip, u3_at]
          rfl
        · have zhd : ∀ j, j ≠ 1 → j ≠ 2 → A' 0 0 j = A 0 0 j := fun j q1 q2 => by rw [g5 j q2, zb j q1 q2]
          have e0 : f_X6_bring_l1_s (nI s) (A 0 0 0) 0 J8 0 = I1 0 := by rw [g3 0 (by decide) (by decide), J8n 0 (by decide), J6n 0 (by decide) (by decide)]
          have e1' : f_X6_bring_l1_s (nI s) (A 0 0 0) 0 J8 1 = I 1 := by rw [g3 1 (by decide) (by decide), J8n 1 (by decide), J6n 1 (by decide) (by decide), zn 1 (by decide)]
          refine ⟨K, A', ?_, by omega, by rw [zhd 3 (by decide) (by decide)]; exact h3, by rw [zhd 4 (by decide) (by decide)]; exact h4, by rw [zhd 5 (by decide) (by decide)]; exact h5, ?_, by rw [e0]; exact hwf, by rw [e1']; exact hw1, by rw [e1']; exact hcc, t, by omega, ?_, ?_⟩
          · rw [e0, g4, e1]
            unfold f_X3_wakeAll
            have c4 : (I4 0 0 0 4).toNatClampNeg = A 0 0 0 := by rw [I4z]; simp (disch := decide) only [u3_skip, u3_skipj, hR.1.k1, cn]
            rw [c4]
            exact g6.1
          · rw [g4, zhd 6 (by decide) (by decide), J82, J62]
            simp (disch := decide) only [u3_skip, u3_skipj]
            exact hf
          · rw [g4]
            refine g6.2.1 t _ ?_
            refine zh_BR (M := I 2) (S := I 3) hi hzh hl ⟨s1, s60⟩ (hzX.2 _ (Nat.le_refl _) hl) ?_ (fun j hj => ?_) ?_
            · rw [u3_skip _ _ _ _ (by decide), J82, J62, u3_at]
            · rw [u3_skip _ _ _ _ (by decide), J82, J62, u3_skipj _ _ hj, u3_skip _ _ _ _ (by decide), u3_skip _ _ _ _ (by decide)]
            · rw [J83]
              refine eS.put (eS.put19 (eS.put (eS.put (eS.put (eS.put (eS.put (eS.put (eS.both (eS.both ((eS.rfl' _).put (by decide)))) (by decide)) (by decide)) (by decide)) (by decide)) (by decide)) (by decide))) (by decide)
          · have w0 : A' 0 0 0 = A 0 0 0 := by rw [g5 0 (by decide), zb 0 (by decide) (by decide)]
            have w1 : A' 0 0 1 = A 0 0 1 + 1 := by rw [g5 1 (by decide)]; simp [zBR, zu]
            rw [g4, w0, w1, J82, J62]
            refine ⟨fun i a b => ?_, fun j a b => ?_⟩
            · rw [g6.2.2 27 (Or.inl rfl), g6.2.2 29 (Or.inr (Or.inl rfl)), g6.2.2 30 (Or.inr (Or.inr (Or.inl rfl))), J83]
              simp (disch := decide) only [u3_skip]
              exact hzX.1 i a b
            · rw [g6.2.2 37 (Or.inr (Or.inr (Or.inr rfl))), J83]
              simp (disch := decide) only [u3_skip]
              exact hzX.2 j (by omega) b
    · have e10 : A 0 0 1 = 10 := by omega
      have l10 : ¬ I 0 0 0 5 < 10 := by rw [hc5, e10]; decide
      have ex : f_X4_bring_x I (nI s) = 2 := by simp only [f_X4_bring_x]; rw [if_neg b1, if_pos b3, if_neg l10]
      rw [ex, hI_s (by decide)] at e1
      subst e1
      have nB : ¬ f_X6_isIn (gU I1 2 11 0 0 0) (nI s) 1 60 = 0 := by rw [b2]; decide
      have r6 : gU I1 2 11 0 0 0 2 11 0 4 = 10 := by rw [gU_at, u3_skipj _ _ (by decide), hr4, e10]; rfl
      have es : f_X6_bring_s I1 (nI s) = gU (gU I1 2 11 0 0 0) 2 11 0 0 2 := by simp only [f_X6_bring_s, f_X6_no_s]; rw [if_neg nB, if_pos r6]
      refine ⟨?_, ?_⟩
      · rintro _ rfl
        exact ⟨zo_isIn _ _ _ _, fun _ => zno _ _, fun _ => ⟨fun _ => zno _ _, fun q => absurd r6 q⟩⟩
      · rintro _ rfl
        rw [es, ex]
        exact ⟨(zF1 hm 2).1.symm, fun q => absurd q (by decide), (zF1 hm 2).2⟩
