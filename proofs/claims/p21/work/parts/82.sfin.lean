/-! A HEAP IS DONE, A LAD PITCHES: the Sim does as the ghost -/
def sF (lo : Nat) (S : gY) (q : Nat) : Prop := (∃ j, S 42 0 q = nI j ∧ j < lo ∧ (S 43 0 q = -1 → S 33 0 j ≠ 0)) ∧ (S 43 0 q = -1 ∨ ∃ w, S 43 0 q = nI w ∧ w < 1000) ∧ (S 43 0 q ≠ -1 → ∃ m, S 44 0 q = nI m ∧ m < (S 20 0 19).toNatClampNeg) ∧ q < (S 20 0 19).toNatClampNeg ∧ (S 20 0 19).toNatClampNeg < 1000 ∧ lo < 1000
theorem sF_of {K q : Nat} {A : zN} {M S : gY} (hr : zRF A M S) (hi : zIV K A) (hq : q < A 0 0 2) (h33 : A 4 q 0 % 32 = 1 → A 3 (A 4 q 0 / 32) 0 ≠ 0) : sF (A 0 0 1) S q := by
  have h1 := hi.k1
  have h12 := (hi.k12 q hq).1
  have e3 := hr.k3
  have c3 : (S 20 0 19).toNatClampNeg = A 0 0 2 := by rw [e3, nI_clamp (by omega)]
  have e43 := hr.k19 q hq
  have hj : A 4 q 0 / 32 < A 0 0 1 := by omega
  refine ⟨⟨A 4 q 0 / 32, hr.k17 q hq, hj, fun c => ?_⟩, ?_, fun c => ?_, by omega, by omega, by omega⟩
  · rw [hr.k12 _ hj]
    by_cases e : A 4 q 0 % 32 = 1
    · have h7 := (hi.k7 (A 4 q 0 / 32) (by omega)).1
      exact nI_ne0 (Nat.pos_of_ne_zero (h33 e)) (by omega)
    · rw [if_neg e] at e43
      have := (hi.k13 q hq e).1
      rw [e43] at c
      exact absurd c (zn_m1 (by omega))
  · by_cases e : A 4 q 0 % 32 = 1
    · rw [if_pos e] at e43
      exact Or.inl e43
    · rw [if_neg e] at e43
      have := (hi.k13 q hq e).1
      exact Or.inr ⟨_, e43, by omega⟩
  · by_cases e : A 4 q 0 % 32 = 1
    · rw [if_pos e] at e43
      exact absurd e43 c
    · have := (hi.k13 q hq e).2.1
      exact ⟨_, hr.k20 q hq e, by omega⟩
theorem zs_vp {x : Int32} {m N : Nat} (h : x = nI m) (hm : m < N) (hN : N < 2 ^ 31) : vp_in x N := by rw [h]; exact vp_in_nI hm hN
theorem sR.c {L n lo : Nat} {V M S : gY} (h : sR L n lo V M S) (hn : n < 2 ^ 31) (hlo : lo < 2 ^ 31) (hL : L < 2 ^ 31) : cnt V 2 = n ∧ cnt V 3 = n ∧ cnt V 4 = lo ∧ cnt V 5 = (S 20 0 19).toNatClampNeg ∧ cnt V 9 = L := by
  have k := h.k1
  unfold cnt
  rw [k.1, k.2.1, k.2.2.1, k.2.2.2.1, k.2.2.2.2, nI_clamp hn, nI_clamp hlo, nI_clamp hL]
  exact ⟨rfl, rfl, rfl, rfl, rfl⟩
theorem zs_end {L n lo k q z : Nat} {I J : gI} (h : sR L n lo (I 5) (J 2) (J z)) (hk : k < n) (hn : n ≤ 6) (hL : L < 300) (f : sF lo (J z) q) : ok_S_end I k (nI q) ∧ sR L n lo (f_S_end I k (nI q) 5) (J 2) (f_X5_finish J z (nI k) (nI q) z) := by
  obtain ⟨⟨j, f42, hj, f33⟩, f43, f44, fq, fN, flo⟩ := f
  have cq : (nI q).toNatClampNeg = q := nI_clamp (by omega)
  have D := sR_DN (q := q) h hk
  have v := h.k7 q fq
  have c := h.c (by omega) (by omega) (by omega)
  have cj : (nI j).toNatClampNeg = j := nI_clamp (by omega)
  have e3 : u3 (u3 (I 5) 5 q 5 1) 2 k 2 0 5 q 3 = J z 43 0 q := by rw [u3_skip _ _ _ _ (by decide), u3_skipj _ _ (by decide), v.2.2.2.1]
  have e2 : u3 (u3 (I 5) 5 q 5 1) 2 k 2 0 5 q 2 = nI j := by rw [u3_skip _ _ _ _ (by decide), u3_skipj _ _ (by decide), v.2.2.1, f42]
  have e0 : u3 (u3 (I 5) 5 q 5 1) 2 k 2 0 0 0 0 = J z 20 0 0 := by rw [u3_skip _ _ _ _ (by decide), u3_skip _ _ _ _ (by decide), h.k2.1]
  rw [zr_fin J z (by omega) (by omega)]
  have s43 : u3 (u3 (J z) 45 0 q 1) 25 0 k 0 43 0 q = J z 43 0 q := by rw [u3_skip _ _ _ _ (by decide), u3_skip _ _ _ _ (by decide)]
  have s42 : u3 (u3 (J z) 45 0 q 1) 25 0 k 0 42 0 q = nI j := by rw [u3_skip _ _ _ _ (by decide), u3_skip _ _ _ _ (by decide), f42]
  have s20 : u3 (u3 (J z) 45 0 q 1) 25 0 k 0 20 0 0 = J z 20 0 0 := by rw [u3_skip _ _ _ _ (by decide), u3_skip _ _ _ _ (by decide)]
  rw [s43, s42, s20, cj]
  unfold ok_S_end
  simp only [cq]
  by_cases c43 : J z 43 0 q = -1
  · have n3 : ¬ (0 : Int32) ≤ J z 43 0 q := by rw [c43]; decide
    rw [if_pos c43]
    refine ⟨⟨by rw [c.2.2.2.1]; exact vp_in_nI fq (by omega), ?_⟩, ?_⟩
    · rintro _ rfl _ rfl
      simp only [gU_at, e3, e2]
      exact ⟨fun p => absurd p n3, fun _ => ⟨by rw [c.2.2.1]; exact vp_in_nI hj (by omega), fun _ _ => trivial⟩⟩
    · simp only [f_S_end, cq, gU_at, e3]
      rw [if_neg n3]
      simp only [gU_at, e2, cj, e0]
      exact sR_SD D hj (by rw [u3_skip _ _ _ _ (by decide), u3_skip _ _ _ _ (by decide)]; exact f33 c43)
  · obtain ⟨w, hw, hw9⟩ := f43.resolve_left c43
    obtain ⟨m, hm, hmN⟩ := f44 c43
    have cm : (nI m).toNatClampNeg = m := nI_clamp (by omega)
    have p3 : (0 : Int32) ≤ J z 43 0 q := by rw [hw]; exact (show nI 0 ≤ nI w from nI_le (Nat.zero_le w) (by omega))
    have e4 : u3 (u3 (I 5) 5 q 5 1) 2 k 2 0 5 q 4 = nI m := by rw [u3_skip _ _ _ _ (by decide), u3_skipj _ _ (by decide), v.2.2.2.2.1 c43, hm]
    have s44 : u3 (u3 (J z) 45 0 q 1) 25 0 k 0 44 0 q = nI m := by rw [u3_skip _ _ _ _ (by decide), u3_skip _ _ _ _ (by decide), hm]
    have eD := (D.k7 m (by rw [u3_skip _ _ _ _ (by decide), u3_skip _ _ _ _ (by decide)]; exact hmN)).2.2.2.2.2
    rw [if_neg c43, s44, cm]
    refine ⟨⟨by rw [c.2.2.2.1]; exact vp_in_nI fq (by omega), ?_⟩, ?_⟩
    · rintro _ rfl _ rfl
      simp only [gU_at, e3, e4]
      exact ⟨fun _ => ⟨by rw [c.2.2.2.1]; exact vp_in_nI hmN (by omega), fun _ => fun _ _ _ _ => trivial, fun _ => trivial⟩, fun p => absurd p3 p⟩
    · simp only [f_S_end, cq, gU_at, e3]
      rw [if_pos p3]
      simp only [gU_at, e4, cm]
      rw [eD]
      by_cases c45 : u3 (u3 (J z) 45 0 q 1) 25 0 k 0 45 0 m = 1
      · rw [if_pos c45, if_pos c45]
        have e5 : u3 (u3 (u3 (I 5) 5 q 5 1) 2 k 2 0) 2 k 2 2 5 q 3 = J z 43 0 q := by rw [u3_skip _ _ _ _ (by decide)]; exact e3
        rw [e5]
        exact sR_TJ D hk
      · rw [if_neg c45, if_neg c45]
        exact D
