/-! A TURN, whole: the Sim does as the ghost -/
theorem zs_turn {L K k z : Nat} {A : zN} {I J : gI} (hr : zRF A (J 2) (J z)) (hi : zIV K A) (h : sR L (A 0 0 0) (A 0 0 1) (I 5) (J 2) (J z)) (hz : z = 3 ∨ z = 4) (hk : k < A 0 0 0) (hfk : J 2 11 0 7 = nI (A 0 0 6)) (hL : L < 300) (hvic : zbest A k (f_X6_victimOf J z (nI k))) (hJ2 : A 1 k 0 = 2 → A 4 (A 1 k 1) 0 % 32 = 1 → A 3 (A 4 (A 1 k 1) 0 / 32) 0 ≠ 0) :
    ok_S_turn I k ∧ sR L (A 0 0 0) (A 0 0 1) (f_S_turn I k 5) (J 2) (f_X6_turn J z (nI k) (nI (A 0 0 6)) z) := by
  have hz2 : z ≠ 2 := by omega
  have h1 := hi.k1
  have hk6 : k < 6 := by omega
  have hw : k < A 0 0 3 := by omega
  have h2 := hi.k2 k hk6
  have ck : (nI k).toNatClampNeg = k := nI_clamp (by omega)
  have s25 := hr.k4 k hk6
  have s31 := hr.k6 k hw
  have w := h.k3 k hk
  have c := h.c (by omega) (by omega) (by omega)
  have c25 : ∀ d, d < 4 → (J z 25 0 k = nI d ↔ A 1 k 0 = d) := fun d hd => by rw [s25]; exact nI_eq (by omega) (by omega)
  have c253 : J z 25 0 k = 3 ↔ A 1 k 0 = 3 := c25 3 (by decide)
  have c252 : J z 25 0 k = 2 ↔ A 1 k 0 = 2 := c25 2 (by decide)
  have c251 : J z 25 0 k = 1 ↔ A 1 k 0 = 1 := c25 1 (by decide)
  have c250 : J z 25 0 k = 0 ↔ A 1 k 0 = 0 := c25 0 (by decide)
  have v2 : gU I 5 2 k 4 0 5 2 k 2 = J z 25 0 k := by rw [gU_at, u3_skipj _ _ (by decide), w.2.2.1]
  have hN : (J z 20 0 19).toNatClampNeg = A 0 0 2 := by rw [hr.k3, nI_clamp (by omega)]
  have hrl : rln (I 5) 3 k = A 1 k 2 := by
    show (I 5 6 k 0).toNatClampNeg = _
    rw [w.2.2.2.2.2.2.2, s31, nI_clamp (by omega)]
  rw [zr_turn]
  unfold ok_S_turn f_S_turn
  simp only [v2, w.2.2.1, hrl, ck]
  by_cases d3 : A 1 k 0 = 3
  · rw [if_pos (c253.mpr d3), if_pos (c253.mpr d3)]
    exact ⟨⟨fun _ => trivial, fun q => absurd (c253.mpr d3) q⟩, h⟩
  · have n3 := fun q => d3 (c253.mp q)
    rw [if_neg n3, if_neg n3]
    by_cases d2 : A 1 k 0 = 2
    · have y2 := c252.mpr d2
      have s26 := hr.k5 k hw (Or.inr d2)
      have hq := hi.k9 k hk6 (Or.inr d2)
      have q3 := hi.q600 hq
      rw [if_pos y2, if_pos y2]
      have R := sR_RO (k := k) (x := 0) (sR_JC (x := J z 20 0 3 + 1) h) (Or.inl rfl)
      rw [u3_com (I 5) _ _ (show 0 ≠ 2 by decide)] at R
      have e8 : gU I 5 2 k 4 0 5 0 0 8 = J z 20 0 3 := by rw [gU_at, u3_skip _ _ _ _ (by decide), h.k2.2.2.2.2]
      have e3 : gU (gU I 5 2 k 4 0) 5 0 0 8 (gU I 5 2 k 4 0 5 0 0 8 + 1) 5 2 k 3 = nI (A 1 k 1) := by
        simp (disch := decide) only [gU_at, u3_skip, u3_skipj]
        rw [h.k4 k hk (Or.inr y2), s26]
      have e26 : gU (gU J z 20 0 3 (J z 20 0 3 + 1)) z 27 0 k 0 z 26 0 k = nI (A 1 k 1) := by
        simp (disch := decide) only [gU_at, u3_skip, s26]
      have e2 : (gU (gU J z 20 0 3 (J z 20 0 3 + 1)) z 27 0 k 0) 2 = J 2 := by simp only [gU_ne _ _ _ _ _ (Ne.symm hz2)]
      rw [e3, e26]
      have R2 : sR L (A 0 0 0) (A 0 0 1) (gU (gU I 5 2 k 4 0) 5 0 0 8 (gU I 5 2 k 4 0 5 0 0 8 + 1) 5) ((gU (gU J z 20 0 3 (J z 20 0 3 + 1)) z 27 0 k 0) 2) ((gU (gU J z 20 0 3 (J z 20 0 3 + 1)) z 27 0 k 0) z) := by
        rw [e2, e8]
        simp only [gU_at]
        exact R
      have F := sF_of hr hi hq (hJ2 d2)
      have F2 : sF (A 0 0 1) ((gU (gU J z 20 0 3 (J z 20 0 3 + 1)) z 27 0 k 0) z) (A 1 k 1) := by
        simp only [gU_at]
        unfold sF
        simp (disch := decide) only [u3_skip, u3_skipj]
        exact F
      obtain ⟨a1, a2⟩ := zs_end (k := k) (q := A 1 k 1) R2 hk (by omega) hL F2
      rw [e2] at a2
      refine ⟨⟨fun q => absurd q n3, fun _ => ?_⟩, a2⟩
      intro I1 g1
      rw [show I1 5 2 k 2 = J z 25 0 k by rw [g1, v2]]
      refine ⟨fun _ => ?_, fun q => absurd y2 q⟩
      intro I21 g21
      rw [g1] at g21
      rw [g21, e3]
      exact ⟨a1, fun _ _ => trivial⟩
    · have n2 := fun q => d2 (c252.mp q)
      rw [if_neg n2, if_neg n2]
      have O := sR_RO (k := k) (x := 0) h (Or.inl rfl)
      have J2 : gU J z 27 0 k 0 2 = J 2 := gU_ne _ _ _ _ _ (Ne.symm hz2)
      have O' : sR L (A 0 0 0) (A 0 0 1) (gU I 5 2 k 4 0 5) (gU J z 27 0 k 0 2) (gU J z 27 0 k 0 z) := by
        rw [gU_at, gU_at, J2]
        exact O
      have hr' : zRF A (gU J z 27 0 k 0 2) (gU J z 27 0 k 0 z) := by
        rw [gU_at, J2]
        exact zRF_RO hr hi hk
      by_cases d1 : A 1 k 0 = 1
      · have y1 := c251.mpr d1
        have n0 : ¬ J z 25 0 k = 0 := fun q => by have := c250.mp q; omega
        have s26 := hr.k5 k hw (Or.inl d1)
        rw [if_neg n0, if_neg n0]
        obtain ⟨a1, a2⟩ := zs_work hr' hi O' hz2 hk d1 (by rw [J2]; exact hfk) hL (fun p1 p2 p3 => by
          have := (zIV_FK hi hk d1 p1 p2 p3).k1.2.2.2.2.2.2.1
          simpa [zFK, zu, zrow] using this)
        rw [J2] at a2
        unfold f_B
        rw [ck, if_pos y1, s26]
        refine ⟨⟨fun q => absurd q n3, fun _ => ?_⟩, a2⟩
        intro I1 g1
        rw [show I1 5 2 k 2 = J z 25 0 k by rw [g1, v2]]
        refine ⟨fun q => absurd q n2, fun _ => ⟨fun q => absurd q n0, fun _ => ?_⟩⟩
        rw [g1]
        exact ⟨a1, fun _ _ => trivial⟩
      · have d0 : A 1 k 0 = 0 := by omega
        have y0 := c250.mpr d0
        have n1 := fun q => d1 (c251.mp q)
        rw [if_pos y0, if_pos y0]
        by_cases hm : A 1 k 2 = 0
        · have y31 : J z 31 0 k ≤ 0 := by rw [s31, hm]; decide
          have yr : nI (A 1 k 2) ≤ 0 := by rw [hm]; decide
          obtain ⟨a1, a2⟩ := zs_empty hr hi h hz hk d0 hL hvic
          rw [if_pos y31, if_pos yr, if_neg n1]
          refine ⟨⟨fun q => absurd q n3, fun _ => ?_⟩, a2⟩
          intro I1 g1
          rw [show I1 5 2 k 2 = J z 25 0 k by rw [g1, v2]]
          refine ⟨fun q => absurd q n2, fun _ => ⟨fun _ => ⟨fun _ => ⟨fun q => absurd q n1, fun _ => ?_⟩, fun q => absurd yr q⟩, fun q => absurd y0 q⟩⟩
          rw [g1]
          exact a1
        · have hm0 : 0 < A 1 k 2 := by omega
          have y31 : ¬ J z 31 0 k ≤ 0 := by rw [s31]; exact nI_nle hm0 (by omega)
          have yr : ¬ nI (A 1 k 2) ≤ 0 := nI_nle hm0 (by omega)
          have hq0 := hi.k10 k 0 hk6 hm0
          have q3 := hi.q600 hq0
          have s32 := hr.k7 k 0 hw hm0
          have v3 : I 5 3 k 0 = nI (A 2 k 0) := by rw [h.k5 k 0 hk (by rw [s31, nI_clamp (by omega)]; exact hm0), s32]
          have T := zIV_TN hi hk d0 hm0
          have TF := zRF_TN hr hi hk d0 hm0
          have T1 := zr_TN hr hi hk hm0
          obtain ⟨J', hJ'⟩ : ∃ J', J' = f_X5_hold (f_X5_takeNear_s J z (nI k)) z (nI k) (f_X5_takeNear_v J z (nI k)) := ⟨_, rfl⟩
          have J2' : J' 2 = J 2 := by rw [hJ', ne_X5_hold _ _ _ _ hz (by omega), ne_X5_takeNear _ _ _ hz (by omega)]
          rw [← hJ'] at T1
          have P := sR_LN (k := k) (m := A 1 k 2) (sR_HO (k := k) (x := nI (A 2 k 0)) O hk) hk (by simp (disch := decide) only [u3_skip]; exact s31) hm0 (by omega) hL (fun i hii => by
            simp (disch := decide) only [u3_skip]
            have := (hi.k2 i (by omega)).2.1
            rw [hr.k6 i (by omega), nI_clamp (by omega)]
            exact this)
          have eS : u3 (J' z) 27 0 k 0 = (u3 (urow (u3 (u3 (u3 (J z) 27 0 k 0) 25 0 k 1) 26 0 k (nI (A 2 k 0))) 32 0 (va_cpy ((u3 (u3 (u3 (J z) 27 0 k 0) 25 0 k 1) 26 0 k (nI (A 2 k 0))) 32 0) ((u3 (u3 (u3 (J z) 27 0 k 0) 25 0 k 1) 26 0 k (nI (A 2 k 0))) 32 0) (8 * k + 1) (8 * k) (A 1 k 2 - 1))) 31 0 k (nI (A 1 k 2 - 1))) := by
            rw [T1]
            simp (disch := decide) only [u3_skip]
            funext t i j
            simp only [u3_eq, urow_eq]
            grind
          rw [← eS] at P
          have d1' : zTN A k 1 k 0 = 1 := by simp [zTN, zu, zrow]
          have z0 : ∀ j, zTN A k 0 0 j = A 0 0 j := fun j => by simp [zTN, zu, zrow]
          have e26' : J' z 26 0 k = nI (zTN A k 1 k 1) := by
            have := TF.k5 k (by rw [z0]; exact hw) (Or.inl d1')
            rw [← T1] at this
            exact this
          have e25' : J' z 25 0 k = 1 := by
            rw [T1]
            simp (disch := decide) only [u3_skip, u3_at]
          obtain ⟨V', hV'⟩ : ∃ V', V' = pLess (u3 (u3 (u3 (I 5) 2 k 4 0) 2 k 2 1) 2 k 3 (nI (A 2 k 0))) k 1 := ⟨_, rfl⟩
          have g19 : (gset (gU (gU (gU I 5 2 k 4 0) 5 2 k 2 1) 5 2 k 3 (gU (gU I 5 2 k 4 0) 5 2 k 2 1 5 3 k 0)) 5 (pLess (gU (gU (gU I 5 2 k 4 0) 5 2 k 2 1) 5 2 k 3 (gU (gU I 5 2 k 4 0) 5 2 k 2 1 5 3 k 0) 5) k 1)) 5 = V' := by
            rw [gset_at, hV']
            simp (disch := decide) only [gU_at, u3_skip, v3]
          rw [← hV'] at P
          rw [if_neg y31, if_neg yr, ← hJ']
          have fT : zRF (zTN A k) (gU J' z 27 0 k 0 2) (gU J' z 27 0 k 0 z) := by
            rw [gU_at, gU_ne _ _ _ _ _ (Ne.symm hz2), J2', T1]
            exact zRF_RO TF T (by rw [z0]; exact hk)
          obtain ⟨G, hG⟩ : ∃ G, G = (gset (gU (gU (gU I 5 2 k 4 0) 5 2 k 2 1) 5 2 k 3 (gU (gU I 5 2 k 4 0) 5 2 k 2 1 5 3 k 0)) 5 (pLess (gU (gU (gU I 5 2 k 4 0) 5 2 k 2 1) 5 2 k 3 (gU (gU I 5 2 k 4 0) 5 2 k 2 1 5 3 k 0) 5) k 1)) := ⟨_, rfl⟩
          rw [← hG] at g19 ⊢
          have J27 : gU J' z 27 0 k 0 2 = J' 2 := gU_ne _ _ _ _ _ (Ne.symm hz2)
          obtain ⟨a1, a2⟩ := zs_work (L := L) (I := G) (J := gU J' z 27 0 k 0) (z := z) fT T (by rw [z0, z0, g19, gU_at, J27, J2']; exact P) hz2 (by rw [z0]; exact hk) d1' (by rw [J27, J2', z0]; exact hfk) hL (fun p1 p2 p3 => by
            have := (zIV_FK T (by rw [z0]; exact hk) d1' p1 p2 p3).k1.2.2.2.2.2.2.1
            simpa [zFK, zu, zrow, z0] using this)
          rw [z0, z0, z0, J27, J2'] at a2
          unfold f_B
          rw [ck, if_pos e25', e26']
          refine ⟨⟨fun q => absurd q n3, fun _ => ?_⟩, a2⟩
          intro I1 g1
          rw [show I1 5 2 k 2 = J z 25 0 k by rw [g1, v2]]
          refine ⟨fun q => absurd q n2, fun _ => ⟨fun _ => ⟨fun q => absurd q yr, fun _ => ?_⟩, fun q => absurd y0 q⟩⟩
          intro I17 g17
          refine ⟨show vp_in (nI 0) (A 1 k 2) from vp_in_nI hm0 (by omega), ?_⟩
          intro I18 g18
          refine ⟨hm0, by have := c.2.2.2.2; omega, ?_⟩
          intro I19 g19'
          have e19 : I19 = G := by rw [hG, g19', g18, g17, g1]
          rw [e19]
          refine ⟨a1, ?_, fun _ _ => trivial⟩
          have c4 : cnt (u3 (u3 (u3 (I 5) 2 k 4 0) 2 k 2 1) 2 k 3 (nI (A 2 k 0))) 9 = cnt (I 5) 9 := by
            unfold cnt
            simp (disch := decide) only [u3_skip]
          rw [g19, hV', cnt_less (by have := c.2.2.2.2; omega), c4]
