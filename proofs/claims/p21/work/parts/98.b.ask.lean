/-! THE RELATION OF WHOLE WORLDS, n calls before the end; the calls that ask -/
/-- t: the minute; zh, zX: more of the state -/
def zRel (n : Nat) (I : gI) : Prop := ∃ (K : Nat) (A : zN), zR 6 K A (I 0) (I 2) (I 3) ∧ K + 360 * n ≤ 200000 ∧ A 0 0 3 = 6 ∧ A 0 0 4 = 10 ∧ A 0 0 5 = 0 ∧ I 2 11 0 7 = nI (A 0 0 6) ∧ wf (I 0) ∧ wf (I 1) ∧ zCc (I 1) ∧ ∃ t, t + 60 * n ≤ 200000 ∧ zh t A (I 2) (I 3) ∧ zX (A 0 0 0) (A 0 0 1) (I 2) (I 3)
theorem zRel_mono {n : Nat} {I : gI} (h : zRel (n + 1) I) : zRel n I := by
  obtain ⟨K, A, h1, h2, h3, h4, h5, h6, h7, h8, h9, t, h10, h11⟩ := h
  exact ⟨K, A, h1, by omega, h3, h4, h5, h6, h7, h8, h9, t, by omega, h11⟩
theorem zR_J {K : Nat} {A : zN} {I : gI} (h : zR 6 K A (I 0) (I 2) (I 3)) (c : Int32) : zR 6 K A (gU I 2 11 0 0 c 0) (gU I 2 11 0 0 c 2) (gU I 2 11 0 0 c 3) := by
  rw [gU_ne _ _ _ _ _ (by decide), gU_at, gU_ne _ _ _ _ _ (by decide)]
  exact zR_TH h
theorem zRel_th {n : Nat} {I : gI} (h : zRel n I) (c : Int32) : zRel n (gU I 2 11 0 0 c) := by
  obtain ⟨K, A, h1, h2, h3, h4, h5, h6, h7, h8, h9, t, h10, h11, h12⟩ := h
  refine ⟨K, A, zR_J h1 c, h2, h3, h4, h5, ?_, ?_, ?_, ?_, t, h10, ?_, ?_⟩
  · rw [gU_at, u3_skipj _ _ (by decide)]; exact h6
  · rw [gU_ne _ _ _ _ _ (by decide)]; exact h7
  · rw [gU_ne _ _ _ _ _ (by decide)]; exact h8
  · rw [gU_ne _ _ _ _ _ (by decide)]; exact h9
  · rw [gU_ne _ _ _ _ _ (show 3 ≠ 2 by decide), gU_at]
    exact h11.model (fun _ => by rw [u3_skip _ _ _ _ (by decide)])
  · rw [gU_ne _ _ _ _ _ (show 3 ≠ 2 by decide), gU_at]
    refine ⟨fun i a b => ?_, h12.2⟩
    rw [u3_skip _ _ _ _ (by decide)]
    exact h12.1 i a b
theorem zRel_lw0 {n : Nat} {I : gI} (h : zRel n I) : lw0 I := by
  obtain ⟨K, A, h1, h2, h3, h4, h5, h6, h7, h8, h9, -⟩ := h
  refine ⟨h7, h8, fun i hi => ?_, fun j => ?_⟩
  · rw [h1.1.k10 i (by omega)]
    split
    · exact Or.inr rfl
    · exact Or.inl rfl
  · by_cases e : ∃ q, q < A 0 0 2 ∧ A 4 q 0 = j
    · obtain ⟨q, hq, rfl⟩ := e
      have hd := (h1.2.2.2.k12 q hq).2.2.2.2.2
      rw [h1.1.k18 q hq]
      rcases (show A 4 q 5 = 0 ∨ A 4 q 5 = 1 by omega) with e | e <;> rw [e]
      · exact Or.inl rfl
      · exact Or.inr rfl
    · exact Or.inl (h1.1.k19 j (Or.inr h5) (fun q hq z => e ⟨q, hq, z⟩))
theorem zF0 {n : Nat} {I : gI} (h : zRel n I) : gU I 2 11 0 0 0 2 11 0 0 = 0 ∧ zRel n (gU I 2 11 0 0 0) := ⟨by rw [gU_at, u3_at], zRel_th h 0⟩
theorem zF1 {n : Nat} {I : gI} (h : zRel n I) (c : Int32) : gU (gU I 2 11 0 0 0) 2 11 0 0 c 2 11 0 0 = c ∧ zRel n (gU (gU I 2 11 0 0 0) 2 11 0 0 c) := ⟨by rw [gU_at, u3_at], zRel_th (zRel_th h 0) c⟩
theorem hI_same (c : Nat) (I : gI) : hI c I I = I := by unfold hI; split <;> rfl
theorem zo_isIn (J : gI) (x a b : Int32) : ok_X6_isIn J x a b := ⟨fun _ => trivial, fun _ => ⟨fun _ => trivial, fun _ => trivial⟩⟩
theorem zo_isLad (J : gI) (x : Int32) : ok_X6_isLad J x := ⟨zo_isIn _ _ _ _, trivial⟩
theorem zo_isLoad (J : gI) (x : Int32) : ok_X6_isLoad J x := ⟨zo_isIn _ _ _ _, trivial⟩
theorem zq_r {b h1 h2 : Int32} (e : h1.toInt = h2.toInt + 1) : b < h1 ↔ ¬ h2 < b := by
  rw [Int32.lt_iff_toInt_lt, Int32.lt_iff_toInt_lt]
  omega
theorem zq_top {m : Nat} {b : Int32} (hb : ¬ b < 0) (hm : m < 2 ^ 30) : b < nI m ↔ ¬ nI m - 1 < b := by
  obtain ⟨p, hp, rfl⟩ := nI_of hb
  have e : (nI m - 1).toInt = (m : Int) - 1 := pk_sub_toInt (a := m) (b := 1) (by omega) (by decide)
  rw [Int32.lt_iff_toInt_lt, Int32.lt_iff_toInt_lt, e, nI_toInt hp, nI_toInt (by omega)]
  omega
theorem zq_is {J : gI} {x : Int32} {m : Nat} (hm : m < 2 ^ 30) : (x < 0 ∧ f_X6_isIn J x 0 (nI m - 1) = 0) ∨ (¬ x < 0 ∧ ¬ x < nI m ∧ f_X6_isIn J x 0 (nI m - 1) = 0) ∨ ∃ k, k < m ∧ x = nI k ∧ ¬ x < 0 ∧ x < nI m ∧ f_X6_isIn J x 0 (nI m - 1) = 1 := by
  unfold f_X6_isIn
  by_cases h : x < 0
  · exact Or.inl ⟨h, if_pos h⟩
  · rw [if_neg h]
    by_cases h2 : x < nI m
    · refine Or.inr (Or.inr ?_)
      have h3 := (zq_top h hm).mp h2
      obtain ⟨k, hk, rfl⟩ := nI_of h
      exact ⟨k, (nI_ltI hk (by omega)).mp h2, rfl, h, h2, if_neg h3⟩
    · refine Or.inr (Or.inl ⟨h, h2, ?_⟩)
      have h3 : nI m - 1 < x := Decidable.byContradiction fun q => h2 ((zq_top h hm).mpr q)
      exact if_pos h3
theorem zq_lad {I J : gI} {x : Int32} {n : Nat} (hc : I 0 0 0 4 = nI n) (hr : J 2 11 0 1 = nI n) (hn : n ≤ 6) : (f_X4_needLad_x I x = 3 ∧ f_X6_isLad J x = 0) ∨ ∃ k, k < n ∧ x = nI k ∧ f_X4_needLad_x I x = 0 ∧ f_X6_isLad J x = 1 := by
  unfold f_X4_needLad_x f_X6_isLad
  rw [hc, hr]
  rcases zq_is (J := J) (x := x) (m := n) (by omega) with ⟨a, b⟩ | ⟨a, b, c⟩ | ⟨k, a, b, c, d, e⟩
  · exact Or.inl ⟨if_pos a, b⟩
  · exact Or.inl ⟨by rw [if_neg a, if_neg b], c⟩
  · exact Or.inr ⟨k, a, b, by rw [if_neg c, if_pos d], e⟩
theorem zq_ld {I J : gI} {x : Int32} {n : Nat} (hc : I 0 0 0 5 = nI n) (hr : J 2 11 0 4 = nI n) (hn : n ≤ 10) : (f_X4_needLoad_x I x = 3 ∧ f_X6_isLoad J x = 0) ∨ ∃ k, k < n ∧ x = nI k ∧ f_X4_needLoad_x I x = 0 ∧ f_X6_isLoad J x = 1 := by
  unfold f_X4_needLoad_x f_X6_isLoad
  rw [hc, hr]
  rcases zq_is (J := J) (x := x) (m := n) (by omega) with ⟨a, b⟩ | ⟨a, b, c⟩ | ⟨k, a, b, c, d, e⟩
  · exact Or.inl ⟨if_pos a, b⟩
  · exact Or.inl ⟨by rw [if_neg a, if_neg b], c⟩
  · exact Or.inr ⟨k, a, b, by rw [if_neg c, if_pos d], e⟩
/-- a range: the class's way to say it, the model's -/
theorem zq_in {J : gI} {b lo hi hi1 : Int32} (e : hi1.toInt = hi.toInt + 1) : (b < lo ∧ f_X6_isIn J b lo hi = 0) ∨ (¬ b < lo ∧ ¬ b < hi1 ∧ f_X6_isIn J b lo hi = 0) ∨ (¬ b < lo ∧ b < hi1 ∧ f_X6_isIn J b lo hi = 1) := by
  unfold f_X6_isIn
  by_cases h : b < lo
  · exact Or.inl ⟨h, if_pos h⟩
  · rw [if_neg h]
    by_cases h2 : b < hi1
    · exact Or.inr (Or.inr ⟨h, h2, if_neg ((zq_r e).mp h2)⟩)
    · exact Or.inr (Or.inl ⟨h, h2, if_pos (Decidable.byContradiction fun q => h2 ((zq_r e).mpr q))⟩)
theorem zq_in' {J : gI} {b lo hi : Int32} : (b < lo ∧ f_X6_isIn J b lo hi = 0) ∨ (¬ b < lo ∧ ¬ b ≤ hi ∧ f_X6_isIn J b lo hi = 0) ∨ (¬ b < lo ∧ b ≤ hi ∧ f_X6_isIn J b lo hi = 1) := by
  unfold f_X6_isIn
  by_cases h : b < lo
  · exact Or.inl ⟨h, if_pos h⟩
  · rw [if_neg h]
    by_cases h2 : b ≤ hi
    · exact Or.inr (Or.inr ⟨h, h2, if_neg (Int32.not_lt.mpr h2)⟩)
    · exact Or.inr (Or.inl ⟨h, h2, if_pos (Int32.not_le.mp h2)⟩)
theorem zno (J : gI) (c : Int32) : ok_X6_no J c ∧ ∀ I', I' = f_X6_no_s J c → True := ⟨fun _ _ => trivial, fun _ _ => trivial⟩
theorem zS_lad {n : Nat} {I : gI} (x b : Int32) (h : zRel (n + 1) I) : sp_lad (zRel n) I x b := by
  have hm := zRel_mono h
  obtain ⟨K, A, hR, -, -, -, -, hf, -⟩ := h
  have hJ := zR_J hR 0
  have h1 := hR.2.2.2.k1
  have hl := zq_lad (x := x) hR.1.k1 hJ.2.1.k1 (by omega)
  have eI : ∀ k, f_X1_tell (gU I 2 11 0 0 0) 0 k b = f_X1_tell I 0 k b := fun k => by
    unfold f_X1_tell f_X1_doing f_X1_loadAtWork
    rw [show gU I 2 11 0 0 0 0 = I 0 from gU_ne _ _ _ _ _ (by decide)]
  intro I1 e1
  rw [hI_same] at e1
  subst e1
  refine ⟨?_, ?_⟩
  · rintro _ rfl
    refine ⟨zo_isLad _ _, fun _ => zno _ _, fun q => ⟨zo_isIn _ _ _ _, fun _ => zno _ _, fun _ => ⟨?_, trivial⟩⟩⟩
    rcases hl with ⟨-, a2⟩ | ⟨k, hk, rfl, -, -⟩
    · exact absurd a2 q
    · exact (zT_lad hJ hk b).2
  · rintro _ rfl
    rcases hl with ⟨a1, a2⟩ | ⟨k, hk, rfl, a1, a2⟩
    · have es : f_X6_lad_s I1 x b = gU (gU I1 2 11 0 0 0) 2 11 0 0 1 := by simp only [f_X6_lad_s, f_X6_no_s]; rw [if_pos a2]
      have ex : f_X4_lad_x I1 x b = 3 := by unfold f_X4_lad_x; rw [a1]; rfl
      rw [es, ex]
      exact ⟨(zF1 hm 1).1.symm, fun q => absurd q (by decide), (zF1 hm 1).2⟩
    · rcases zq_in (J := gU I1 2 11 0 0 0) (b := b) (lo := 0) (hi := 8) (hi1 := 9) (by decide) with ⟨b1, b2⟩ | ⟨b1, b3, b2⟩ | ⟨b1, b3, b2⟩
      · have es : f_X6_lad_s I1 (nI k) b = gU (gU I1 2 11 0 0 0) 2 11 0 0 1 := by simp only [f_X6_lad_s, f_X6_no_s]; rw [if_neg (by rw [a2]; decide), if_pos b2]
        have ex : f_X4_lad_x I1 (nI k) b = 3 := by unfold f_X4_lad_x; rw [if_pos a1, if_pos b1]
        rw [es, ex]
        exact ⟨(zF1 hm 1).1.symm, fun q => absurd q (by decide), (zF1 hm 1).2⟩
      · have es : f_X6_lad_s I1 (nI k) b = gU (gU I1 2 11 0 0 0) 2 11 0 0 1 := by simp only [f_X6_lad_s, f_X6_no_s]; rw [if_neg (by rw [a2]; decide), if_pos b2]
        have ex : f_X4_lad_x I1 (nI k) b = 3 := by unfold f_X4_lad_x; rw [if_pos a1, if_neg b1, if_neg b3]
        rw [es, ex]
        exact ⟨(zF1 hm 1).1.symm, fun q => absurd q (by decide), (zF1 hm 1).2⟩
      · have es : f_X6_lad_s I1 (nI k) b = gU I1 2 11 0 0 0 := by simp only [f_X6_lad_s]; rw [if_neg (by rw [a2]; decide), if_neg (by rw [b2]; decide)]
        have ex : f_X4_lad_x I1 (nI k) b = 0 := by unfold f_X4_lad_x; rw [if_pos a1, if_neg b1, if_pos b3]
        have ev : f_X6_lad_v I1 (nI k) b = f_X6_ladTold (gU I1 2 11 0 0 0) (nI k) b := by simp only [f_X6_lad_v]; rw [if_neg (by rw [a2]; decide), if_neg (by rw [b2]; decide)]
        have ec : f_X4_lad I1 (nI k) b = f_X1_tell I1 0 k b := by unfold f_X4_lad; rw [if_pos a1, if_neg b1, if_pos b3, nI_clamp (by omega)]
        rw [es, ex, ev, ec, ← eI k]
        exact ⟨(zF0 hm).1.symm, fun _ => (zT_lad hJ hk b).1, (zF0 hm).2⟩
theorem zS_load {n : Nat} {I : gI} (x b : Int32) (h : zRel (n + 1) I) : sp_load (zRel n) I x b := by
  have hm := zRel_mono h
  obtain ⟨K, A, hR, -, -, -, -, hf, -⟩ := h
  have hJ := zR_J hR 0
  have h1 := hR.2.2.2.k1
  have hl := zq_ld (x := x) hR.1.k2 hJ.2.1.k2 (by omega)
  have eI : ∀ k, f_X2_tell (gU I 2 11 0 0 0) 0 k b = f_X2_tell I 0 k b := fun k => by simp (disch := decide) only [f_X2_tell, gU_ne]
  intro I1 e1
  rw [hI_same] at e1
  subst e1
  refine ⟨?_, ?_⟩
  · rintro _ rfl
    refine ⟨zo_isLoad _ _, fun _ => zno _ _, fun q => ⟨zo_isIn _ _ _ _, fun _ => zno _ _, fun _ => ⟨?_, trivial⟩⟩⟩
    rcases hl with ⟨-, a2⟩ | ⟨k, hk, rfl, -, -⟩
    · exact absurd a2 q
    · exact (zT_load hJ hk b).2
  · rintro _ rfl
    rcases hl with ⟨a1, a2⟩ | ⟨k, hk, rfl, a1, a2⟩
    · have es : f_X6_load_s I1 x b = gU (gU I1 2 11 0 0 0) 2 11 0 0 1 := by simp only [f_X6_load_s, f_X6_no_s]; rw [if_pos a2]
      have ex : f_X4_load_x I1 x b = 3 := by unfold f_X4_load_x; rw [a1]; rfl
      rw [es, ex]
      exact ⟨(zF1 hm 1).1.symm, fun q => absurd q (by decide), (zF1 hm 1).2⟩
    · rcases zq_in (J := gU I1 2 11 0 0 0) (b := b) (lo := 0) (hi := 6) (hi1 := 7) (by decide) with ⟨b1, b2⟩ | ⟨b1, b3, b2⟩ | ⟨b1, b3, b2⟩
      · have es : f_X6_load_s I1 (nI k) b = gU (gU I1 2 11 0 0 0) 2 11 0 0 1 := by simp only [f_X6_load_s, f_X6_no_s]; rw [if_neg (by rw [a2]; decide), if_pos b2]
        have ex : f_X4_load_x I1 (nI k) b = 3 := by unfold f_X4_load_x; rw [if_pos a1, if_pos b1]
        rw [es, ex]
        exact ⟨(zF1 hm 1).1.symm, fun q => absurd q (by decide), (zF1 hm 1).2⟩
      · have es : f_X6_load_s I1 (nI k) b = gU (gU I1 2 11 0 0 0) 2 11 0 0 1 := by simp only [f_X6_load_s, f_X6_no_s]; rw [if_neg (by rw [a2]; decide), if_pos b2]
        have ex : f_X4_load_x I1 (nI k) b = 3 := by unfold f_X4_load_x; rw [if_pos a1, if_neg b1, if_neg b3]
        rw [es, ex]
        exact ⟨(zF1 hm 1).1.symm, fun q => absurd q (by decide), (zF1 hm 1).2⟩
      · have es : f_X6_load_s I1 (nI k) b = gU I1 2 11 0 0 0 := by simp only [f_X6_load_s]; rw [if_neg (by rw [a2]; decide), if_neg (by rw [b2]; decide)]
        have ex : f_X4_load_x I1 (nI k) b = 0 := by unfold f_X4_load_x; rw [if_pos a1, if_neg b1, if_pos b3]
        have ev : f_X6_load_v I1 (nI k) b = f_X6_loadTold (gU I1 2 11 0 0 0) (nI k) b := by simp only [f_X6_load_v]; rw [if_neg (by rw [a2]; decide), if_neg (by rw [b2]; decide)]
        have ec : f_X4_load I1 (nI k) b = f_X2_tell I1 0 k b := by unfold f_X4_load; rw [if_pos a1, if_neg b1, if_pos b3, nI_clamp (by omega)]
        rw [es, ex, ev, ec, ← eI k]
        exact ⟨(zF0 hm).1.symm, fun _ => (zT_load hJ hk b).1, (zF0 hm).2⟩
/-- what lies at a place in a cart -/
theorem zT_place {I J : gI} {A : zN} {K k p : Nat} (hc : zCL A (I 0)) (hr : zRF A (J 2) (J 3)) (hi : zIV K A) (hk : k < A 0 0 0) (hp : p < A 1 k 2) : f_X3_balesOf I 0 (f_X0_heapAt I 0 (I 0 1 k 3).toNatClampNeg (nI p)) = J 3 40 0 (J 3 32 0 (8 * k + p)).toNatClampNeg ∧ vp_in (J 3 32 0 (8 * k + p)) 600 := by
  have h1 := hi.k1
  have h2 := hi.k2 k (by omega)
  have hq := hi.k10 k p (by omega) hp
  have q3 := hi.q600 hq
  have hg := hi.g320 hq
  have e6 := hc.k6 k (A 1 k 2 - 1 - p) (by omega) (by omega)
  rw [show A 1 k 2 - 1 - (A 1 k 2 - 1 - p) = p by omega] at e6
  have eh : f_X0_heapAt I 0 (I 0 1 k 3).toNatClampNeg (nI p) = nI (A 4 (A 2 k p) 0) := by
    unfold f_X0_heapAt
    rw [hc.cart hi (by omega), hc.k5 k (by omega), if_neg (nI_pos (by omega)), if_pos (nI_lt hp (by omega)), zc_sub1 (by omega), pk_sub (by omega), nI_clamp (by omega), e6]
  rw [eh, zc_balesOf _ _ hg, hc.k17 _ hq, hr.k7 k p (by omega) hp, nI_clamp (by omega), hr.k15 _ hq]
  exact ⟨rfl, vp_in_nI (by omega) (by decide)⟩
theorem zS_cart {n : Nat} {I : gI} (x b : Int32) (h : zRel (n + 1) I) : sp_cart (zRel n) I x b := by
  have hm := zRel_mono h
  obtain ⟨K, A, hR, -, -, -, -, hf, -⟩ := h
  have hJ := zR_J hR 0
  have hi := hR.2.2.2
  have h1 := hi.k1
  have hl := zq_lad (x := x) hR.1.k1 hJ.2.1.k1 (by omega)
  intro I1 e1
  rw [hI_same] at e1
  subst e1
  have hpl : ∀ k, k < A 0 0 0 → ∀ b : Int32, (b < 0 ∧ f_X6_isIn (gU I1 2 11 0 0 0) b 0 ((gU I1 2 11 0 0 0 3 31 0 k) - 1) = 0) ∨ (¬ b < 0 ∧ ¬ b < I1 0 2 (I1 0 1 k 3).toNatClampNeg 1 ∧ f_X6_isIn (gU I1 2 11 0 0 0) b 0 ((gU I1 2 11 0 0 0 3 31 0 k) - 1) = 0) ∨ ∃ p, p < A 1 k 2 ∧ b = nI p ∧ ¬ b < 0 ∧ b < I1 0 2 (I1 0 1 k 3).toNatClampNeg 1 ∧ f_X6_isIn (gU I1 2 11 0 0 0) b 0 ((gU I1 2 11 0 0 0 3 31 0 k) - 1) = 1 := by
    intro k hk b
    have h2 := hi.k2 k (by omega)
    rw [hR.1.cart hi (by omega), hR.1.k5 k (by omega), hJ.2.1.k6 k (by omega)]
    exact zq_is (by omega)
  refine ⟨?_, ?_⟩
  · rintro _ rfl
    refine ⟨zo_isLad _ _, fun _ => zno _ _, fun q => ?_⟩
    rcases hl with ⟨-, a2⟩ | ⟨k, hk, rfl, -, -⟩
    · exact absurd a2 q
    · rw [nI_clamp (show k < 2 ^ 31 by omega)]
      refine ⟨vp_in_nI (by omega) (by decide), zo_isIn _ _ _ _, fun _ => zno _ _, fun q => ?_⟩
      rcases hpl k hk b with ⟨-, b2⟩ | ⟨-, -, b2⟩ | ⟨p, hp, rfl, -, -, -⟩
      · exact absurd b2 q
      · exact absurd b2 q
      · have h2 := hi.k2 k (by omega)
        rw [zc_8, nI_add, nI_clamp (by omega)]
        exact ⟨vp_in_nI (by omega) (by decide), (zT_place hJ.1 hJ.2.1 hi hk hp).2, trivial⟩
  · rintro _ rfl
    rcases hl with ⟨a1, a2⟩ | ⟨k, hk, rfl, a1, a2⟩
    · have es : f_X6_cart_s I1 x b = gU (gU I1 2 11 0 0 0) 2 11 0 0 1 := by simp only [f_X6_cart_s, f_X6_no_s]; rw [if_pos a2]
      have ex : f_X4_cart_x I1 x b = 3 := by unfold f_X4_cart_x; rw [a1]; rfl
      rw [es, ex]
      exact ⟨(zF1 hm 1).1.symm, fun q => absurd q (by decide), (zF1 hm 1).2⟩
    · have ck : (nI k).toNatClampNeg = k := nI_clamp (by omega)
      rcases hpl k hk b with ⟨b1, b2⟩ | ⟨b1, b3, b2⟩ | ⟨p, hp, rfl, b1, b3, b2⟩
      · have es : f_X6_cart_s I1 (nI k) b = gU (gU I1 2 11 0 0 0) 2 11 0 0 1 := by simp only [f_X6_cart_s, f_X6_no_s, ck]; rw [if_neg (by rw [a2]; decide), if_pos b2]
        have ex : f_X4_cart_x I1 (nI k) b = 3 := by unfold f_X4_cart_x; rw [if_pos a1, if_pos b1]
        rw [es, ex]
        exact ⟨(zF1 hm 1).1.symm, fun q => absurd q (by decide), (zF1 hm 1).2⟩
      · have es : f_X6_cart_s I1 (nI k) b = gU (gU I1 2 11 0 0 0) 2 11 0 0 1 := by simp only [f_X6_cart_s, f_X6_no_s, ck]; rw [if_neg (by rw [a2]; decide), if_pos b2]
        have ex : f_X4_cart_x I1 (nI k) b = 3 := by unfold f_X4_cart_x; rw [if_pos a1, if_neg b1, ck, if_neg b3]
        rw [es, ex]
        exact ⟨(zF1 hm 1).1.symm, fun q => absurd q (by decide), (zF1 hm 1).2⟩
      · have h2 := hi.k2 k (by omega)
        have es : f_X6_cart_s I1 (nI k) (nI p) = gU I1 2 11 0 0 0 := by simp only [f_X6_cart_s, ck]; rw [if_neg (by rw [a2]; decide), if_neg (by rw [b2]; decide)]
        have ex : f_X4_cart_x I1 (nI k) (nI p) = 0 := by unfold f_X4_cart_x; rw [if_pos a1, if_neg b1, ck, if_pos b3]
        have ev : f_X6_cart_v I1 (nI k) (nI p) = gU I1 2 11 0 0 0 3 40 0 (gU I1 2 11 0 0 0 3 32 0 (8 * k + p)).toNatClampNeg := by
          simp only [f_X6_cart_v, ck]
          rw [if_neg (by rw [a2]; decide), if_neg (by rw [b2]; decide), zc_8, nI_add, nI_clamp (show 8 * k + p < 2 ^ 31 by omega)]
        have ec : f_X4_cart I1 (nI k) (nI p) = f_X3_balesOf I1 0 (f_X0_heapAt I1 0 (I1 0 1 k 3).toNatClampNeg (nI p)) := by unfold f_X4_cart; rw [if_pos a1, if_neg b1, ck, if_pos b3]
        rw [es, ex, ev, ec]
        exact ⟨(zF0 hm).1.symm, fun _ => (zT_place hR.1 hJ.2.1 hi hk hp).1, (zF0 hm).2⟩
theorem zS_count {n : Nat} {I : gI} (x : Int32) (h : zRel (n + 1) I) : sp_count (zRel n) I x := by
  have hm := zRel_mono h
  obtain ⟨K, A, hR, -, -, -, -, hf, -⟩ := h
  have hJ := zR_J hR 0
  have hf2 : gU I 2 11 0 0 0 2 11 0 7 = nI (A 0 0 6) := by rw [gU_at, u3_skipj _ _ (by decide)]; exact hf
  have T := zT_count (I := I) (y := 0) (J := gU I 2 11 0 0 0) (z := 3) (by rw [gU_ne _ _ _ _ _ (by decide)] at hJ; exact hJ) hf2 x
  intro I1 e1
  rw [hI_same] at e1
  subst e1
  refine ⟨?_, ?_⟩
  · rintro _ rfl
    exact ⟨zo_isIn _ _ _ _, fun _ => zno _ _, fun _ => ⟨T.2, trivial⟩⟩
  · rintro _ rfl
    rcases zq_in (J := gU I1 2 11 0 0 0) (b := x) (lo := 0) (hi := 12) (hi1 := 13) (by decide) with ⟨b1, b2⟩ | ⟨b1, b3, b2⟩ | ⟨b1, b3, b2⟩
    · have es : f_X6_count_s I1 x = gU (gU I1 2 11 0 0 0) 2 11 0 0 1 := by simp only [f_X6_count_s, f_X6_no_s]; rw [if_pos b2]
      have ex : f_X4_count_x I1 x = 3 := by unfold f_X4_count_x; rw [if_pos b1]
      rw [es, ex]
      exact ⟨(zF1 hm 1).1.symm, fun q => absurd q (by decide), (zF1 hm 1).2⟩
    · have es : f_X6_count_s I1 x = gU (gU I1 2 11 0 0 0) 2 11 0 0 1 := by simp only [f_X6_count_s, f_X6_no_s]; rw [if_pos b2]
      have ex : f_X4_count_x I1 x = 3 := by unfold f_X4_count_x; rw [if_neg b1, if_neg b3]
      rw [es, ex]
      exact ⟨(zF1 hm 1).1.symm, fun q => absurd q (by decide), (zF1 hm 1).2⟩
    · have es : f_X6_count_s I1 x = gU I1 2 11 0 0 0 := by simp only [f_X6_count_s]; rw [if_neg (by rw [b2]; decide)]
      have ex : f_X4_count_x I1 x = 0 := by unfold f_X4_count_x; rw [if_neg b1, if_pos b3]
      have ev : f_X6_count_v I1 x = f_X6_counted (gU I1 2 11 0 0 0) 3 x := by simp only [f_X6_count_v]; rw [if_neg (by rw [b2]; decide)]
      have ec : f_X4_count I1 x = f_X3_tell I1 0 x := by unfold f_X4_count; rw [if_neg b1, if_pos b3]
      rw [es, ex, ev, ec]
      exact ⟨(zF0 hm).1.symm, fun _ => T.1, (zF0 hm).2⟩
theorem zS_victim {n : Nat} {I : gI} (x : Int32) (h : zRel (n + 1) I) : sp_victim (zRel n) I x := by
  have hm := zRel_mono h
  obtain ⟨K, A, hR, -, -, -, -, hf, hwf, -⟩ := h
  have hJ := zR_J hR 0
  have h1 := hR.2.2.2.k1
  have hl := zq_lad (x := x) hR.1.k1 hJ.2.1.k1 (by omega)
  intro I1 e1
  rw [hI_same] at e1
  subst e1
  refine ⟨?_, ?_⟩
  · rintro _ rfl
    refine ⟨zo_isLad _ _, fun _ => zno _ _, fun q => ⟨?_, trivial⟩⟩
    rcases hl with ⟨-, a2⟩ | ⟨k, hk, rfl, -, -⟩
    · exact absurd a2 q
    · exact (zT_vic hR.1 hJ.2.1 hR.2.2.2 hwf hk).1
  · rintro _ rfl
    rcases hl with ⟨a1, a2⟩ | ⟨k, hk, rfl, a1, a2⟩
    · have es : f_X6_victim_s I1 x = gU (gU I1 2 11 0 0 0) 2 11 0 0 1 := by simp only [f_X6_victim_s, f_X6_no_s]; rw [if_pos a2]
      have ex : f_X4_victim_x I1 x = 3 := by unfold f_X4_victim_x; rw [a1]; rfl
      rw [es, ex]
      exact ⟨(zF1 hm 1).1.symm, fun q => absurd q (by decide), (zF1 hm 1).2⟩
    · have es : f_X6_victim_s I1 (nI k) = gU I1 2 11 0 0 0 := by simp only [f_X6_victim_s]; rw [if_neg (by rw [a2]; decide)]
      have ex : f_X4_victim_x I1 (nI k) = 0 := by unfold f_X4_victim_x; rw [if_pos a1]
      have ev : f_X6_victim_v I1 (nI k) = f_X6_victimOf (gU I1 2 11 0 0 0) 3 (nI k) := by simp only [f_X6_victim_v]; rw [if_neg (by rw [a2]; decide)]
      have ec : f_X4_victim I1 (nI k) = f_X3_victimOf I1 0 k := by unfold f_X4_victim; rw [if_pos a1, nI_clamp (by omega)]
      rw [es, ex, ev, ec]
      exact ⟨(zF0 hm).1.symm, fun _ => (zT_vic hR.1 hJ.2.1 hR.2.2.2 hwf hk).2.1.symm, (zF0 hm).2⟩
