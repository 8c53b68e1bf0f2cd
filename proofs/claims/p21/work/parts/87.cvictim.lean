/-! FROM WHOM: the class answers the best by that rank, too -/
theorem zc_best12 {A : zN} {K k : Nat} (hi : zIV K A) (hk : k < A 0 0 0) (hw0 : A 1 k 5 ≠ 0) (cls : Nat → Nat → Int32 → Int32 → Int32) (c0 : ∀ i a b, cls 0 i a b = a) (c1 : ∀ m i a b, i < A 0 0 0 → cls (m + 1) i a b = if i = k ∨ A 1 i 2 = 0 then cls m (i + 1) a b else if nI (zrk A k i) ≤ b then cls m (i + 1) a b else cls m (i + 1) (nI i) (nI (zrk A k i))) :
    ∀ m i a b, i + m = A 0 0 0 → ((a = -1 ∧ b = 0 ∧ ∀ o, o < i → ¬ zval A k o) ∨ ∃ v, v < i ∧ zval A k v ∧ a = nI v ∧ b = nI (zrk A k v) ∧ ∀ o, o < i → zval A k o → zrk A k o < zrk A k v ∨ (zrk A k o = zrk A k v ∧ v ≤ o)) → zbest A k (cls m i a b) := by
  have h1 := hi.k1
  have er : ∀ o, zrank A k o = zrk A k o := fun o => if_neg hw0
  intro m
  induction m with
  | zero =>
    intro i a b e st
    rw [c0]
    rcases st with ⟨s1, -, s3⟩ | ⟨v, -, s2, s3, -, s5⟩
    · exact Or.inl ⟨s1, fun o q => s3 o (by have := q.1; omega) q⟩
    · exact Or.inr ⟨v, s2, s3, fun o q => by rw [er, er]; exact s5 o (by have := q.1; omega) q⟩
  | succ m ih =>
    intro i a b e st
    rw [c1 m i a b (by omega)]
    by_cases en : i = k ∨ A 1 i 2 = 0
    · rw [if_pos en]
      have nv : ¬ zval A k i := fun q => en.elim q.2.1 (fun z => by have := q.2.2; omega)
      refine ih (i + 1) a b (by omega) ?_
      rcases st with ⟨s1, s2, s3⟩ | ⟨v, s1, s2, s3, s4, s5⟩
      · refine Or.inl ⟨s1, s2, fun o ho q => ?_⟩
        by_cases z : o = i
        · exact nv (z ▸ q)
        · exact s3 o (by omega) q
      · refine Or.inr ⟨v, by omega, s2, s3, s4, fun o ho q => ?_⟩
        by_cases z : o = i
        · exact absurd (z ▸ q) nv
        · exact s5 o (by omega) q
    · rw [if_neg en]
      have hv : zval A k i := ⟨by omega, fun q => en (Or.inl q), Nat.pos_of_ne_zero fun q => en (Or.inr q)⟩
      have hri := zrank_le hi hk hv
      rw [er] at hri
      by_cases t : nI (zrk A k i) ≤ b
      · rw [if_pos t]
        refine ih (i + 1) a b (by omega) ?_
        rcases st with ⟨s1, s2, s3⟩ | ⟨v, s1, s2, s3, s4, s5⟩
        · rw [s2] at t
          exact absurd t (nI_nle (by omega) (by omega))
        · refine Or.inr ⟨v, by omega, s2, s3, s4, fun o ho q => ?_⟩
          by_cases z : o = i
          · subst z
            have hrv := zrank_le hi hk s2
            rw [er] at hrv
            rw [s4] at t
            rcases Nat.lt_or_ge (zrk A k v) (zrk A k o) with x | x
            · exact absurd t (nI_ge x (by omega))
            · omega
          · exact s5 o (by omega) q
      · rw [if_neg t]
        refine ih (i + 1) _ _ (by omega) (Or.inr ⟨i, by omega, hv, rfl, rfl, fun o ho q => ?_⟩)
        by_cases z : o = i
        · subst z
          exact Or.inr ⟨rfl, Nat.le_refl o⟩
        · rcases st with ⟨s1, s2, s3⟩ | ⟨v, s1, s2, s3, s4, s5⟩
          · exact absurd q (s3 o (by omega))
          · have hrv := zrank_le hi hk s2
            rw [er] at hrv
            have h5 := s5 o (by omega) q
            rw [s4] at t
            rcases Nat.lt_or_ge (zrk A k v) (zrk A k i) with x | x
            · omega
            · exact absurd (nI_le x (by omega)) t
theorem zd_or {n k o : Nat} (hk : k < n) (ho : o < n) : (k ≤ o ∧ (o + n - k) % n = o - k) ∨ (o < k ∧ (o + n - k) % n = o + n - k) := by
  by_cases e : k ≤ o
  · left
    rw [Nat.mod_eq_sub_mod (by omega), Nat.mod_eq_of_lt (by omega)]
    omega
  · right
    rw [Nat.mod_eq_of_lt (by omega)]
    omega
theorem zc_best0 {I : gI} {A : zN} {y K k : Nat} (hc : zCL A (I y)) (hi : zIV K A) (hw : wf (I y)) (hk : k < A 0 0 0) (hw0 : A 1 k 5 = 0) : ∀ m t, 1 ≤ t → t + m = A 0 0 0 → (∀ o, zval A k o → t ≤ (o + A 0 0 0 - k) % A 0 0 0) → zbest A k (f_X3_nextWithHay_l1 y k m t I) := by
  have h1 := hi.k1
  have hNc := hc.k1
  have hnum := hw.num (show k < 6 by omega)
  intro m
  induction m with
  | zero =>
    intro t _ e st
    exact Or.inl ⟨rfl, fun o q => by
      have := st o q
      have := Nat.mod_lt (o + A 0 0 0 - k) (show 0 < A 0 0 0 by omega)
      omega⟩
  | succ m ih =>
    intro t t1 ht st
    obtain ⟨o, eo⟩ : ∃ o, o = (k + t) % A 0 0 0 := ⟨_, rfl⟩
    have hlt : o < A 0 0 0 := by rw [eo]; exact Nat.mod_lt _ (by omega)
    have eo2 : (k + t < A 0 0 0 ∧ o = k + t) ∨ (A 0 0 0 ≤ k + t ∧ o = k + t - A 0 0 0) := by
      by_cases q : k + t < A 0 0 0
      · exact Or.inl ⟨q, by rw [eo, Nat.mod_eq_of_lt q]⟩
      · refine Or.inr ⟨by omega, ?_⟩
        rw [eo, Nat.mod_eq_sub_mod (by omega), Nat.mod_eq_of_lt (by omega)]
    have hrob := zc_rob (k := k) hc hi hlt
    have hok : o ≠ k := by omega
    have hcls : f_X3_nextWithHay_l1 y k (m + 1) t I = if A 1 o 2 = 0 then f_X3_nextWithHay_l1 y k m (t + 1) I else nI o := by
      simp only [f_X3_nextWithHay_l1, hnum, hNc, nI_add]
      rcases eo2 with ⟨q, rfl⟩ | ⟨q, rfl⟩
      · rw [if_pos (nI_lt q (by omega)), nI_clamp (by omega), hrob]
        by_cases e : A 1 (k + t) 2 = 0
        · rw [if_pos (Or.inr e), if_pos e, if_pos rfl]
        · rw [if_neg (show ¬ (k + t = k ∨ A 1 (k + t) 2 = 0) from fun q => q.elim hok e), if_neg e, if_neg (by decide)]
      · rw [if_neg (nI_nlt q (by omega)), pk_sub q, nI_clamp (by omega), hrob]
        by_cases e : A 1 (k + t - A 0 0 0) 2 = 0
        · rw [if_pos (Or.inr e), if_pos e, if_pos rfl]
        · rw [if_neg (show ¬ (k + t - A 0 0 0 = k ∨ A 1 (k + t - A 0 0 0) 2 = 0) from fun q => q.elim hok e), if_neg e, if_neg (by decide)]
    have hd : (o + A 0 0 0 - k) % A 0 0 0 = t := by
      have := zd_or hk hlt
      clear eo
      omega
    rw [hcls]
    clear eo
    by_cases e : A 1 o 2 = 0
    · rw [if_pos e]
      refine ih (t + 1) (by omega) (by omega) fun o' q => ?_
      have a := st o' q
      by_cases z : o' = o
      · subst z
        have := q.2.2
        omega
      · have b := zd_or hk q.1
        have c := q.1
        have d := zd_or hk hlt
        have := q.2.1
        omega
    · rw [if_neg e]
      refine Or.inr ⟨o, ⟨hlt, hok, Nat.pos_of_ne_zero e⟩, rfl, fun o' q => ?_⟩
      have a := st o' q
      have c := q.1
      have ha := Nat.mod_lt (o' + A 0 0 0 - k) (show 0 < A 0 0 0 by omega)
      unfold zrank
      rw [if_pos hw0, if_pos hw0, hd]
      by_cases z : o' = o
      · subst z
        omega
      · left
        have b := zd_or hk q.1
        have d := zd_or hk hlt
        omega
theorem zc_best {I : gI} {A : zN} {y K k : Nat} (hc : zCL A (I y)) (hi : zIV K A) (hw : wf (I y)) (hk : k < A 0 0 0) : zbest A k (f_X3_victimOf I y k) := by
  have h1 := hi.k1
  have h2k := hi.k2 k (by omega)
  have e2 := hc.k11 k (by omega)
  have cNc : (I y 0 0 4).toNatClampNeg = A 0 0 0 := by rw [hc.k1, nI_clamp (by omega)]
  unfold f_X3_victimOf
  rw [e2]
  by_cases w0 : A 1 k 5 = 0
  · rw [w0, if_neg (by decide), if_neg (by decide)]
    unfold f_X3_nextWithHay
    rw [cNc]
    refine zc_best0 hc hi hw hk w0 (A 0 0 0 - 1) 1 (by omega) (by omega) fun o q => ?_
    have := zd_or hk q.1
    have := q.2.1
    omega
  · by_cases w1 : A 1 k 5 = 1
    · rw [w1, if_pos (by decide)]
      unfold f_X3_fullestCart
      rw [cNc]
      exact zc_best12 hi hk w0 (fun m i a b => f_X3_fullestCart_l1 y k m i a b I) (fun _ _ _ => rfl) (zc_c1 hc hi w1) (A 0 0 0) 0 (-1) 0 (by omega) (Or.inl ⟨rfl, rfl, fun o q => by omega⟩)
    · have w2 : A 1 k 5 = 2 := by omega
      rw [w2, if_neg (by decide), if_pos (by decide)]
      unfold f_X3_greatestFarHeap
      rw [cNc]
      exact zc_best12 hi hk w0 (fun m i a b => f_X3_greatestFarHeap_l1 y k m i a b I) (fun _ _ _ => rfl) (zc_c2 hc hi w1) (A 0 0 0) 0 (-1) 0 (by omega) (Or.inl ⟨rfl, rfl, fun o q => by omega⟩)
/-- from whom: the class, the ghost and the Sim alike -/
theorem zV_vic {L K k y z : Nat} {A : zN} {I J : gI} (hc : zCL A (I y)) (hw : wf (I y)) (hr : zRF A (J 2) (J z)) (hi : zIV K A) (h : sR L (A 0 0 0) (A 0 0 1) (I 5) (J 2) (J z)) (hk : k < A 0 0 0) (hL : L < 300) : f_S_victim I k = f_X3_victimOf I y k := zbest_one (zs_best hr hi h hk hL).2 (zc_best hc hi hw hk)
