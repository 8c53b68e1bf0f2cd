/-! A LAD PITCHES: the Sim does as the ghost -/
theorem zs_max {l s : Nat} (hl : l < 1000) (hs : s < 1000) : (if (0 : Int32) < nI l - nI s then nI l - nI s else 0) = nI (l - min s l) := by
  by_cases e : s < l
  · have p : (0 : Int32) < nI (l - s) := (show nI 0 < nI (l - s) from nI_lt (by omega) (by omega))
    rw [pk_sub (show s ≤ l by omega), if_pos p]
    congr 1
    omega
  · have h : ¬ (0 : Int32) < nI l - nI s := by
      rw [Int32.lt_iff_toInt_lt, pk_sub_toInt (by omega) (by omega)]
      have : (0 : Int32).toInt = 0 := by decide
      omega
    rw [if_neg h]
    rw [show l - min s l = 0 by omega]
    rfl
theorem zs_min {l s : Nat} (hl : l < 1000) (hs : s < 1000) : (if nI l < nI s then nI l else nI s) = nI (min s l) := by
  by_cases e : l < s
  · rw [if_pos (nI_lt e (by omega))]
    congr 1
    omega
  · rw [if_neg (nI_nlt (by omega) (by omega))]
    congr 1
    omega
theorem zr_pitch {J : gI} {z k q j l s : Nat} (hl : J z 41 0 q = nI l) (hj : J z 42 0 q = nI j) (hl9 : l < 1000) (hs9 : s < 1000) (hj9 : j < 1000) (hq9 : q < 1000) :
    f_X5_pitch J z (nI k) (nI q) (nI s) = if l - min s l = 0 then f_X5_finish (gU (gU (gU J z 41 0 q (nI (l - min s l))) z 38 0 j (J z 38 0 j + nI (min s l))) z 20 0 4 (J z 20 0 4 + nI (min s l))) z (nI k) (nI q) else gU (gU (gU J z 41 0 q (nI (l - min s l))) z 38 0 j (J z 38 0 j + nI (min s l))) z 20 0 4 (J z 20 0 4 + nI (min s l)) := by
  have cq : (nI q).toNatClampNeg = q := nI_clamp (by omega)
  have cj : (nI j).toNatClampNeg = j := nI_clamp (by omega)
  have s1 : gU J z 41 0 q (nI (l - min s l)) z 42 0 q = nI j := by rw [gU_at, u3_skip _ _ _ _ (by decide), hj]
  have s2 : gU J z 41 0 q (nI (l - min s l)) z 38 0 j = J z 38 0 j := by rw [gU_at, u3_skip _ _ _ _ (by decide)]
  have s3 : gU (gU J z 41 0 q (nI (l - min s l))) z 38 0 j (J z 38 0 j + nI (min s l)) z 20 0 4 = J z 20 0 4 := by rw [gU_at, gU_at, u3_skip _ _ _ _ (by decide), u3_skip _ _ _ _ (by decide)]
  have s4 : gU (gU (gU J z 41 0 q (nI (l - min s l))) z 38 0 j (J z 38 0 j + nI (min s l))) z 20 0 4 (J z 20 0 4 + nI (min s l)) z 41 0 q = nI (l - min s l) := by rw [gU_at, gU_at, gU_at, u3_skip _ _ _ _ (by decide), u3_skip _ _ _ _ (by decide), u3_at]
  simp only [f_X5_pitch, cq, hl, zs_min hl9 hs9, pk_sub (show min s l ≤ l by omega), s1, cj, s2, s3, s4]
  by_cases e : l - min s l = 0
  · rw [if_pos e, if_pos (by rw [e]; rfl)]
  · rw [if_neg e, if_neg (nI_ne0 (by omega) (by omega))]
/-- the Sim's pitching -/
def f_S_P (I : gI) (k q : Nat) : gI :=
  if (gU I 5 5 q 1 (if 0 < ((I 5 5 q 1) - (I 5 2 k 0)) then ((I 5 5 q 1) - (I 5 2 k 0)) else 0)) 5 5 q 1 = 0 then f_S_end (gU I 5 5 q 1 (if 0 < ((I 5 5 q 1) - (I 5 2 k 0)) then ((I 5 5 q 1) - (I 5 2 k 0)) else 0)) k ((gU I 5 5 q 1 (if 0 < ((I 5 5 q 1) - (I 5 2 k 0)) then ((I 5 5 q 1) - (I 5 2 k 0)) else 0)) 5 2 k 3)
  else gU I 5 5 q 1 (if 0 < ((I 5 5 q 1) - (I 5 2 k 0)) then ((I 5 5 q 1) - (I 5 2 k 0)) else 0)
def ok_S_P (I : gI) (k q : Nat) : Prop := (gU I 5 5 q 1 (if 0 < ((I 5 5 q 1) - (I 5 2 k 0)) then ((I 5 5 q 1) - (I 5 2 k 0)) else 0)) 5 5 q 1 = 0 → ok_S_end (gU I 5 5 q 1 (if 0 < ((I 5 5 q 1) - (I 5 2 k 0)) then ((I 5 5 q 1) - (I 5 2 k 0)) else 0)) k ((gU I 5 5 q 1 (if 0 < ((I 5 5 q 1) - (I 5 2 k 0)) then ((I 5 5 q 1) - (I 5 2 k 0)) else 0)) 5 2 k 3)
theorem zs_pitch {L n lo k q z l s : Nat} {I J : gI} (h : sR L n lo (I 5) (J 2) (J z)) (hz : z ≠ 2) (hk : k < n) (hn : n ≤ 6) (hL : L < 300) (f : sF lo (J z) q) (h1 : J z 25 0 k = 1) (h26 : J z 26 0 k = nI q) (hl : J z 41 0 q = nI l) (hs : J 2 12 0 k = nI s) (hl9 : l < 1000) (hs9 : s < 1000) :
    ok_S_P I k q ∧ sR L n lo (f_S_P I k q 5) (J 2) (f_X5_pitch J z (nI k) (nI q) (nI s) z) := by
  obtain ⟨⟨j, f42, hj, f33⟩, f43, f44, fq, fN, flo⟩ := id f
  have v := h.k7 q fq
  have w := h.k3 k hk
  have vl : I 5 5 q 1 = nI l := by rw [v.2.1, hl]
  have vs : I 5 2 k 0 = nI s := by rw [w.1, hs]
  have v3 : I 5 2 k 3 = nI q := by rw [h.k4 k hk (Or.inl h1), h26]
  have P := sR_H4 (x := J z 20 0 4 + nI (min s l)) (sR_H8 (a := j) (x := J z 38 0 j + nI (min s l)) (sR_PL (q := q) (x := nI (l - min s l)) h))
  rw [zr_pitch hl f42 hl9 hs9 (by omega) (by omega)]
  unfold ok_S_P f_S_P
  rw [vl, vs, zs_max hl9 hs9]
  have e1 : gU I 5 5 q 1 (nI (l - min s l)) 5 5 q 1 = nI (l - min s l) := by rw [gU_at, u3_at]
  have e3 : gU I 5 5 q 1 (nI (l - min s l)) 5 2 k 3 = nI q := by rw [gU_at, u3_skip _ _ _ _ (by decide), v3]
  rw [e1, e3]
  obtain ⟨J3, hJ3⟩ : ∃ J3, J3 = gU (gU (gU J z 41 0 q (nI (l - min s l))) z 38 0 j (J z 38 0 j + nI (min s l))) z 20 0 4 (J z 20 0 4 + nI (min s l)) := ⟨_, rfl⟩
  have J3z : J3 z = u3 (u3 (u3 (J z) 41 0 q (nI (l - min s l))) 38 0 j (J z 38 0 j + nI (min s l))) 20 0 4 (J z 20 0 4 + nI (min s l)) := by rw [hJ3]; simp only [gU_at]
  have J32 : J3 2 = J 2 := by rw [hJ3]; simp only [gU_ne _ _ _ _ _ (Ne.symm hz)]
  rw [← hJ3]
  have P2 : sR L n lo (gU I 5 5 q 1 (nI (l - min s l)) 5) (J3 2) (J3 z) := by rw [gU_at, J32, J3z]; exact P
  by_cases e : l - min s l = 0
  · have t : nI (l - min s l) = 0 := by rw [e]; rfl
    rw [if_pos t, if_pos e]
    have f2 : sF lo (J3 z) q := by
      rw [J3z]
      unfold sF
      simp (disch := decide) only [u3_skip, u3_skipj]
      exact f
    obtain ⟨a1, a2⟩ := zs_end (k := k) (q := q) P2 hk hn hL f2
    rw [J32] at a2
    exact ⟨fun _ => a1, a2⟩
  · have t : ¬ nI (l - min s l) = 0 := nI_ne0 (by omega) (by omega)
    rw [if_neg t, if_neg e]
    exact ⟨fun c => absurd c t, by rw [J32] at P2; exact P2⟩
