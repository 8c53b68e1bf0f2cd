/-! thief, mean, digest -/
theorem zT_thief {I J : gI} {A : zN} {K : Nat} (hc : zCL A (I 0)) (hr : zRF A (J 2) (J 3)) (hi : zIV K A) : ∀ m i a b, i + m = A 0 0 0 → (a = -1 ∧ b = -1 ∨ ∃ v, v < A 0 0 0 ∧ a = nI v ∧ b = nI (A 1 v 6)) →
    f_X4_thief_l1 m i a b I = f_X6_thief_l1_v m i a J ∧ ok_f_X6_thief_l1 m i a J ∧ f_X6_thief_l1_s m i a J = J := by
  have h1 := hi.k1
  intro m
  induction m with
  | zero => intro i a b _ _; exact ⟨rfl, trivial, rfl⟩
  | succ m ih =>
    intro i a b e st
    have h2 := (hi.k2 i (by omega)).2.2.2.2
    have e10 := hc.k13 i (by omega)
    have s28 := hr.k10 i (by omega)
    have g := ih (i + 1) (nI i) (nI (A 1 i 6)) (by omega) (Or.inr ⟨i, by omega, rfl, rfl⟩)
    simp only [f_X4_thief_l1, f_X6_thief_l1_v, f_X6_thief_l1_s, ok_f_X6_thief_l1, e10, s28]
    rcases st with ⟨rfl, rfl⟩ | ⟨v, hv, rfl, rfl⟩
    · have n1 : ¬ nI (A 1 i 6) ≤ -1 := by
        rw [Int32.le_iff_toInt_le, nI_toInt (by omega)]
        have : (-1 : Int32).toInt = -1 := by decide
        omega
      rw [if_neg n1, if_pos rfl, if_pos rfl]
      exact ⟨g.1, ⟨fun _ => g.2.1, fun q => (q rfl).elim⟩, g.2.2⟩
    · have n1 : ¬ nI v = -1 := zn_m1 (by omega)
      have cv : (nI v).toNatClampNeg = v := nI_clamp (by omega)
      have s28v := hr.k10 v (by omega)
      have g2 := ih (i + 1) (nI v) (nI (A 1 v 6)) (by omega) (Or.inr ⟨v, hv, rfl, rfl⟩)
      rw [if_neg n1, if_neg n1, cv, s28v]
      by_cases c : nI (A 1 i 6) ≤ nI (A 1 v 6)
      · rw [if_pos c, if_pos c, if_pos c]
        exact ⟨g2.1, ⟨fun q => absurd q n1, fun _ => ⟨vp_in_nI (by omega) (by decide), fun _ => g2.2.1, fun q => absurd c q⟩⟩, g2.2.2⟩
      · rw [if_neg c, if_neg c, if_neg c]
        exact ⟨g.1, ⟨fun q => absurd q n1, fun _ => ⟨vp_in_nI (by omega) (by decide), fun q => absurd q c, fun _ => g.2.1⟩⟩, g.2.2⟩
theorem zS_thief {n : Nat} {I : gI} (h : zRel (n + 1) I) : sp_thief (zRel n) I := by
  have hm := zRel_mono h
  obtain ⟨K, A, hR, -⟩ := h
  have hi := hR.2.2.2
  have h1 := hi.k1
  have hJ := zR_J hR 0
  have c1 : (I 0 0 0 4).toNatClampNeg = A 0 0 0 := by rw [hR.1.k1, nI_clamp (by omega)]
  have c2 : (gU I 2 11 0 0 0 2 11 0 1).toNatClampNeg = A 0 0 0 := by rw [hJ.2.1.k1, nI_clamp (by omega)]
  obtain ⟨t1, t2, t3⟩ := zT_thief hR.1 hJ.2.1 hi (A 0 0 0) 0 (-1) (-1) (by omega) (Or.inl ⟨rfl, rfl⟩)
  refine ⟨?_, ?_⟩
  · rintro _ rfl
    rw [c2]
    exact ⟨by rw [hJ.2.1.k1]; exact isN_nI (by omega) (by decide), t2⟩
  · rintro _ rfl
    simp only [f_X6_thief_s, f_X6_thief_v, f_X4_thief]
    rw [c1, c2, t3]
    exact ⟨t1, zRel_th hm 0⟩
/-- a count of the yard, out of zT_count -/
theorem zT_idle {I J : gI} {A : zN} {y z K : Nat} (h : zR 6 K A (I y) (J 2) (J z)) (hf : J 2 11 0 7 = nI (A 0 0 6)) : f_X3_tell I y 10 = f_X6_sumOf J z 30 ∧ ok_X6_sumOf J z 30 := by
  have T := zT_count h hf 10
  have e : f_X6_counted J z 10 = f_X6_sumOf J z 30 := by
    unfold f_X6_counted
    rw [if_neg (by decide), if_neg (by decide), if_neg (by decide), if_neg (by decide), if_neg (by decide), if_neg (by decide), if_neg (by decide), if_neg (by decide), if_neg (by decide), if_neg (by decide), if_pos rfl]
  rw [e] at T
  exact ⟨T.1, (((((((((((T.2.2 (by decide)).2 (by decide)).2 (by decide)).2 (by decide)).2 (by decide)).2 (by decide)).2 (by decide)).2 (by decide)).2 (by decide)).2 (by decide)).1 rfl).1⟩
theorem zd_1 {I J : gI} (T : ∀ x, f_X3_tell I 0 x = f_X6_counted J 3 x ∧ ok_X6_counted J 3 x) : ∀ m i d, f_X4_digest_l1 m i d I = f_X6_digest_l1 m i d J ∧ ok_f_X6_digest_l1 m i d J := by
  intro m
  induction m with
  | zero => intro i d; exact ⟨rfl, trivial⟩
  | succ m ih =>
    intro i d
    obtain ⟨t1, t2⟩ := T (nI i)
    have g := ih (i + 1) ((d * 31) + (f_X6_counted J 3 (nI i)).toInt64)
    simp only [f_X4_digest_l1, f_X6_digest_l1, ok_f_X6_digest_l1, f_X4_mixed, t1]
    exact ⟨g.1, t2, g.2⟩
theorem zd_3 {I J : gI} {k : Nat} (d0 : Int64) (T : ∀ b, f_X1_tell I 0 k b = f_X6_ladTold J (nI k) b ∧ ok_X6_ladTold J (nI k) b) : ∀ m i d, f_X4_mixedWithLad_l1 d0 k m i d I = f_X6_digest_l3 k m i d J ∧ ok_f_X6_digest_l3 k m i d J := by
  intro m
  induction m with
  | zero => intro i d; exact ⟨rfl, trivial⟩
  | succ m ih =>
    intro i d
    obtain ⟨t1, t2⟩ := T (nI i)
    have g := ih (i + 1) ((d * 31) + (f_X6_ladTold J (nI k) (nI i)).toInt64)
    simp only [f_X4_mixedWithLad_l1, f_X6_digest_l3, ok_f_X6_digest_l3, f_X4_mixed, t1]
    exact ⟨g.1, t2, g.2⟩
theorem zd_4 {I J : gI} {A : zN} {K k : Nat} (d0 : Int64) (hc : zCL A (I 0)) (hr : zRF A (J 2) (J 3)) (hi : zIV K A) (hk : k < A 0 0 0) : ∀ m i d, i + m = A 1 k 2 → f_X4_mixedWithLad_l2 d0 k m i d I = f_X6_digest_l4 k m i d J ∧ ok_f_X6_digest_l4 k m i d J := by
  have h1 := hi.k1
  have h2 := (hi.k2 k (by omega)).2.1
  intro m
  induction m with
  | zero => intro i d _; exact ⟨rfl, trivial⟩
  | succ m ih =>
    intro i d e
    obtain ⟨t1, t2⟩ := zT_place hc hr hi hk (show i < A 1 k 2 by omega)
    have c : (nI (8 * k + i)).toNatClampNeg = 8 * k + i := nI_clamp (by omega)
    have g := ih (i + 1) ((d * 31) + (J 3 40 0 (J 3 32 0 (8 * k + i)).toNatClampNeg).toInt64) (by omega)
    simp only [f_X4_mixedWithLad_l2, f_X6_digest_l4, ok_f_X6_digest_l4, f_X4_mixed, t1, c]
    exact ⟨g.1, vp_in_nI (by omega) (by decide), t2, g.2⟩
theorem zd_6 {I J : gI} {k : Nat} (T : ∀ b, f_X2_tell I 0 k b = f_X6_loadTold J (nI k) b ∧ ok_X6_loadTold J (nI k) b) : ∀ m i d, f_X4_digest_l4 k m i d I = f_X6_digest_l6 k m i d J ∧ ok_f_X6_digest_l6 k m i d J := by
  intro m
  induction m with
  | zero => intro i d; exact ⟨rfl, trivial⟩
  | succ m ih =>
    intro i d
    obtain ⟨t1, t2⟩ := T (nI i)
    have g := ih (i + 1) ((d * 31) + (f_X6_loadTold J (nI k) (nI i)).toInt64)
    simp only [f_X4_digest_l4, f_X6_digest_l6, ok_f_X6_digest_l6, f_X4_mixed, t1]
    exact ⟨g.1, t2, g.2⟩
theorem zd_2 {I J : gI} {A : zN} {K : Nat} (h : zR 6 K A (I 0) (J 2) (J 3)) : ∀ m i d, i + m = A 0 0 0 → f_X4_digest_l2 m i d I = f_X6_digest_l2 m i d J ∧ ok_f_X6_digest_l2 m i d J := by
  have hi := h.2.2.2
  have h1 := hi.k1
  intro m
  induction m with
  | zero => intro i d _; exact ⟨rfl, trivial⟩
  | succ m ih =>
    intro i d e
    have h2 := (hi.k2 i (by omega)).2.1
    obtain ⟨a1, a2⟩ := zd_3 d (fun b => zT_lad h (show i < A 0 0 0 by omega) b) 9 0 d
    have m1 : (I 0 2 (I 0 1 i 3).toNatClampNeg 1).toNatClampNeg = A 1 i 2 := by rw [h.1.cart hi (by omega), h.1.k5 i (by omega), nI_clamp (by omega)]
    have m2 : (J 3 31 0 i).toNatClampNeg = A 1 i 2 := by rw [h.2.1.k6 i (by omega), nI_clamp (by omega)]
    have m3 : isN (J 3 31 0 i) 8 := by rw [h.2.1.k6 i (by omega)]; exact isN_nI h2 (by decide)
    obtain ⟨b1, b2⟩ := zd_4 d h.1 h.2.1 hi (show i < A 0 0 0 by omega) (A 1 i 2) 0 (f_X6_digest_l3 i 9 0 d J) (by omega)
    have g := ih (i + 1) (f_X6_digest_l4 i (A 1 i 2) 0 (f_X6_digest_l3 i 9 0 d J) J) (by omega)
    simp only [f_X4_digest_l2, f_X6_digest_l2, ok_f_X6_digest_l2, f_X4_mixedWithLad, m1, m2, a1, b1]
    refine ⟨g.1, a2, ?_⟩
    rintro _ rfl
    refine ⟨m3, b2, ?_⟩
    rintro _ rfl
    exact g.2
theorem zd_5 {I J : gI} {A : zN} {K : Nat} (h : zR 6 K A (I 0) (J 2) (J 3)) : ∀ m i d, i + m = A 0 0 1 → f_X4_digest_l3 m i d I = f_X6_digest_l5 m i d J ∧ ok_f_X6_digest_l5 m i d J := by
  intro m
  induction m with
  | zero => intro i d _; exact ⟨rfl, trivial⟩
  | succ m ih =>
    intro i d e
    obtain ⟨a1, a2⟩ := zd_6 (fun b => zT_load h (show i < A 0 0 1 by omega) b) 7 0 d
    have g := ih (i + 1) (f_X6_digest_l6 i 7 0 d J) (by omega)
    simp only [f_X4_digest_l3, f_X6_digest_l5, ok_f_X6_digest_l5, a1]
    refine ⟨g.1, a2, ?_⟩
    rintro _ rfl
    exact g.2
