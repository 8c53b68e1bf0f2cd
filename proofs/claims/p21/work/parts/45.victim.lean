/-! FROM WHOM: both sides -/
def zrk (A : zN) (k o : Nat) : Nat := if A 1 k 5 = 1 then A 1 o 2 else A 4 (A 2 o (A 1 o 2 - 1)) 3
theorem zr_far {J : gI} {A : zN} {z K o : Nat} (hr : zRF A (J 2) (J z)) (hi : zIV K A) (ho : o < A 0 0 0) (hm : 0 < A 1 o 2) : f_X5_far J z (nI o) = nI (A 2 o (A 1 o 2 - 1)) ∧ ok_X5_far J z (nI o) := by
  have h1 := hi.k1
  have h2 := hi.k2 o (by omega)
  have e31 := hr.k6 o (by omega)
  have e32 := hr.k7 o (A 1 o 2 - 1) (by omega) (by omega)
  have ex : (8 : Int32) * nI o + nI (A 1 o 2) - 1 = nI (8 * o + (A 1 o 2 - 1)) := by
    rw [zc_8, nI_add, zc_sub1 (by omega)]
    congr 1
    omega
  unfold f_X5_far ok_X5_far
  rw [nI_clamp (by omega), e31, ex, nI_clamp (by omega), e32]
  exact ⟨rfl, vp_in_nI (by omega) (by decide), vp_in_nI (by omega) (by decide), trivial⟩
theorem zr_rank {J : gI} {A : zN} {z K k o : Nat} (hr : zRF A (J 2) (J z)) (hi : zIV K A) (hk : k < A 0 0 0) (hw0 : A 1 k 5 ≠ 0) (ho : o < A 0 0 0) (hm : 0 < A 1 o 2) : f_X6_rank J z (nI k) (nI o) = nI (zrk A k o) ∧ ok_X6_rank J z (nI k) (nI o) ∧ 1 ≤ zrk A k o ∧ zrk A k o ≤ 60 := by
  have h1 := hi.k1
  have h2 := hi.k2 o (by omega)
  have h2k := hi.k2 k (by omega)
  have e13 := hr.k9 k (by omega)
  have e31 := hr.k6 o (by omega)
  obtain ⟨f1, f2⟩ := zr_far hr hi ho hm
  have hq := hi.k10 o (A 1 o 2 - 1) (by omega) (by omega)
  have q3 := hi.q600 hq
  have h12 := hi.k12 _ hq
  have h60 := zB_le (A 4 (A 2 o (A 1 o 2 - 1)) 0 % 32)
  have e40 := hr.k15 _ hq
  have w0 : ¬ J 2 13 0 k = 0 := by rw [e13]; exact nI_ne0 (by omega) (by omega)
  unfold f_X6_rank ok_X6_rank zrk
  rw [nI_clamp (show k < 2 ^ 31 by omega), if_neg w0]
  by_cases w1 : A 1 k 5 = 1
  · have w1' : J 2 13 0 k = 1 := by rw [e13, w1]; rfl
    rw [if_pos w1, if_pos w1', nI_clamp (by omega), e31]
    exact ⟨rfl, ⟨vp_in_nI (by omega) (by decide), fun z => absurd z w0, fun _ => ⟨fun _ => ⟨vp_in_nI (by omega) (by decide), trivial⟩, fun z => absurd w1' z⟩⟩, by omega, by omega⟩
  · have w1' : ¬ J 2 13 0 k = 1 := by rw [e13]; exact fun z => w1 ((nI_eq (b := 1) (by omega) (by decide)).mp z)
    rw [if_neg w1, if_neg w1', f1, nI_clamp (by omega), e40]
    exact ⟨rfl, ⟨vp_in_nI (by omega) (by decide), fun z => absurd z w0, fun _ => ⟨fun z => absurd z w1', fun _ => ⟨f2, vp_in_nI (by omega) (by decide), trivial⟩⟩⟩, by omega, by omega⟩
/-- one step of the model's search, where the way isn't 0 -/
theorem zr_vstep {J : gI} {A : zN} {z K k t : Nat} (hr : zRF A (J 2) (J z)) (hi : zIV K A) (hk : k < A 0 0 0) (hw0 : A 1 k 5 ≠ 0) (o : Nat) (ht : 1 ≤ t) (ht6 : t < A 0 0 0) (ho : o = if k < t then t else t - 1) (m : Nat) (a : Int32) :
    f_X6_victimOf_l1 z (nI k) (m + 1) t a J = (if A 1 o 2 = 0 then f_X6_victimOf_l1 z (nI k) m (t + 1) a J else if a = -1 then f_X6_victimOf_l1 z (nI k) m (t + 1) (nI o) J else if f_X6_rank J z (nI k) (nI o) ≤ f_X6_rank J z (nI k) a then f_X6_victimOf_l1 z (nI k) m (t + 1) a J else f_X6_victimOf_l1 z (nI k) m (t + 1) (nI o) J) ∧
    ((A 1 o 2 = 0 → ok_f_X6_victimOf_l1 z (nI k) m (t + 1) a J) → (A 1 o 2 ≠ 0 → a = -1 → ok_f_X6_victimOf_l1 z (nI k) m (t + 1) (nI o) J) → (A 1 o 2 ≠ 0 → a ≠ -1 → ok_X6_rank J z (nI k) (nI o) ∧ ok_X6_rank J z (nI k) a ∧ (f_X6_rank J z (nI k) (nI o) ≤ f_X6_rank J z (nI k) a → ok_f_X6_victimOf_l1 z (nI k) m (t + 1) a J) ∧ (¬ f_X6_rank J z (nI k) (nI o) ≤ f_X6_rank J z (nI k) a → ok_f_X6_victimOf_l1 z (nI k) m (t + 1) (nI o) J)) → ok_f_X6_victimOf_l1 z (nI k) (m + 1) t a J) := by
  have h1 := hi.k1
  have h2k := hi.k2 k (by omega)
  have e13 := hr.k9 k (by omega)
  have w0 : ¬ J 2 13 0 k = 0 := by rw [e13]; exact nI_ne0 (by omega) (by omega)
  have w0' : ¬ J 2 13 0 (nI k).toNatClampNeg = 0 := by rw [nI_clamp (by omega)]; exact w0
  have hoN : o < A 0 0 0 := by rw [ho]; split <;> omega
  have ho6 : o < 6 := by omega
  have e31 := hr.k6 o (by omega)
  have h2 := hi.k2 o ho6
  have z31 : (J z 31 0 o = 0) ↔ A 1 o 2 = 0 := by
    rw [e31]
    exact nI_eq (b := 0) (by omega) (by decide)
  simp only [f_X6_victimOf_l1, ok_f_X6_victimOf_l1]
  rw [if_neg w0']
  by_cases e : k < t
  · rw [if_pos e] at ho
    subst ho
    rw [if_pos (nI_lt e (by omega))]
    refine ⟨?_, fun a1 a2 a3 => ⟨vp_in_nI (by omega) (by decide), fun q => absurd q w0', fun _ => ⟨fun _ => ⟨fun q => a1 (z31.mp q), fun q => ⟨fun u => a2 (fun v => q (z31.mpr v)) u, fun u => a3 (fun v => q (z31.mpr v)) u⟩⟩, fun q => absurd (nI_lt e (by omega)) q⟩⟩⟩
    by_cases e2 : A 1 o 2 = 0
    · rw [if_pos e2, if_pos (z31.mpr e2)]
    · rw [if_neg e2, if_neg (fun v => e2 (z31.mp v))]
  · rw [if_neg e] at ho
    have et : nI t - 1 = nI o := by rw [zc_sub1 (by omega), ho]
    rw [if_neg (nI_nlt (by omega) (by omega)), et, nI_clamp (show o < 2 ^ 31 by omega)]
    refine ⟨?_, fun a1 a2 a3 => ⟨vp_in_nI (by omega) (by decide), fun q => absurd q w0', fun _ => ⟨fun q => absurd q (nI_nlt (by omega) (by omega)), fun _ => ⟨vp_in_nI ho6 (by decide), fun q => a1 (z31.mp q), fun q => ⟨fun u => a2 (fun v => q (z31.mpr v)) u, fun u => a3 (fun v => q (z31.mpr v)) u⟩⟩⟩⟩⟩
    by_cases e2 : A 1 o 2 = 0
    · rw [if_pos e2, if_pos (z31.mpr e2)]
    · rw [if_neg e2, if_neg (fun v => e2 (z31.mp v))]
/-- both searches where the way isn't 0; cls: the class's loop, either one -/
theorem zT_vic12 {J : gI} {A : zN} {z K k : Nat} (hr : zRF A (J 2) (J z)) (hi : zIV K A) (hk : k < A 0 0 0) (hw0 : A 1 k 5 ≠ 0) (cls : Nat → Nat → Int32 → Int32 → Int32) (c0 : ∀ i a b, cls 0 i a b = a) (c1 : ∀ m i a b, i < A 0 0 0 → cls (m + 1) i a b = if i = k ∨ A 1 i 2 = 0 then cls m (i + 1) a b else if nI (zrk A k i) ≤ b then cls m (i + 1) a b else cls m (i + 1) (nI i) (nI (zrk A k i))) :
    ∀ m i a b, i + m = A 0 0 0 → (a = -1 ∧ b = 0 ∨ ∃ v, v < A 0 0 0 ∧ v ≠ k ∧ 0 < A 1 v 2 ∧ a = nI v ∧ b = nI (zrk A k v)) →
      (i ≤ k → f_X6_victimOf_l1 z (nI k) (m - 1) (i + 1) a J = cls m i a b ∧ ok_f_X6_victimOf_l1 z (nI k) (m - 1) (i + 1) a J) ∧ (k < i → f_X6_victimOf_l1 z (nI k) m i a J = cls m i a b ∧ ok_f_X6_victimOf_l1 z (nI k) m i a J) ∧ (cls m i a b = -1 ∨ ∃ v, v < A 0 0 0 ∧ v ≠ k ∧ 0 < A 1 v 2 ∧ cls m i a b = nI v) := by
  have h1 := hi.k1
  intro m
  induction m with
  | zero =>
    intro i a b e st
    refine ⟨fun q => by omega, fun _ => ⟨by rw [c0]; rfl, trivial⟩, ?_⟩
    rw [c0]
    rcases st with ⟨h, -⟩ | ⟨v, h1, h2, h3, h4, -⟩
    · exact Or.inl h
    · exact Or.inr ⟨v, h1, h2, h3, h4⟩
  | succ m ih =>
    intro i a b e st
    have hin : i < A 0 0 0 := by omega
    by_cases ek : i = k
    · subst ek
      obtain ⟨-, a2, a3⟩ := ih (i + 1) a b (by omega) st
      rw [c1 m i a b hin, if_pos (Or.inl rfl)]
      exact ⟨fun _ => a2 (by omega), fun q => by omega, a3⟩
    · have h2 := hi.k2 i (by omega)
      -- one step, for any place t at which the model looks at lad i
      have key : ∀ m' t, 1 ≤ t → t < A 0 0 0 → i = (if k < t then t else t - 1) → (∀ a b, (a = -1 ∧ b = 0 ∨ ∃ v, v < A 0 0 0 ∧ v ≠ k ∧ 0 < A 1 v 2 ∧ a = nI v ∧ b = nI (zrk A k v)) → f_X6_victimOf_l1 z (nI k) m' (t + 1) a J = cls m (i + 1) a b ∧ ok_f_X6_victimOf_l1 z (nI k) m' (t + 1) a J) → f_X6_victimOf_l1 z (nI k) (m' + 1) t a J = cls (m + 1) i a b ∧ ok_f_X6_victimOf_l1 z (nI k) (m' + 1) t a J := by
        intro m' t t1 t6 hit hh
        obtain ⟨s1, s2⟩ := zr_vstep hr hi hk hw0 i t1 t6 hit m' a
        rw [c1 m i a b hin, s1]
        by_cases em : A 1 i 2 = 0
        · rw [if_pos em, if_pos (Or.inr em)]
          exact ⟨(hh a b st).1, s2 (fun _ => (hh a b st).2) (fun q => absurd em q) (fun q => absurd em q)⟩
        · rw [if_neg em, if_neg (show ¬ (i = k ∨ A 1 i 2 = 0) from fun q => q.elim ek em)]
          obtain ⟨r1, r2, r3, r4⟩ := zr_rank hr hi hk hw0 hin (by omega)
          rcases st with ⟨ha, hb⟩ | ⟨v, v1, v2, v3, v4, v5⟩
          · subst ha; subst hb
            rw [if_pos rfl, if_neg (nI_nle (by omega) (by omega))]
            have g := hh (nI i) (nI (zrk A k i)) (Or.inr ⟨i, hin, ek, by omega, rfl, rfl⟩)
            exact ⟨g.1, s2 (fun q => absurd q em) (fun _ _ => g.2) (fun _ q => absurd rfl q)⟩
          · obtain ⟨p1, p2, p3, p4⟩ := zr_rank hr hi hk hw0 v1 v3
            have hv6 : v < 6 := by omega
            have na : ¬ a = -1 := by rw [v4]; exact zn_m1 (by omega)
            rw [if_neg na, r1, v4, p1, v5]
            have g1 := hh (nI v) (nI (zrk A k v)) (Or.inr ⟨v, v1, v2, v3, rfl, rfl⟩)
            have g2 := hh (nI i) (nI (zrk A k i)) (Or.inr ⟨i, hin, ek, by omega, rfl, rfl⟩)
            have okk : ok_f_X6_victimOf_l1 z (nI k) (m' + 1) t (nI v) J := by
              rw [v4] at s2
              refine s2 (fun q => absurd q em) (fun _ q => absurd q (zn_m1 (by omega))) (fun _ _ => ⟨r2, p2, fun _ => g1.2, fun _ => g2.2⟩)
            by_cases er : nI (zrk A k i) ≤ nI (zrk A k v)
            · rw [if_pos er, if_pos er]
              exact ⟨g1.1, okk⟩
            · rw [if_neg er, if_neg er]
              exact ⟨g2.1, okk⟩
      have prop : cls (m + 1) i a b = -1 ∨ ∃ v, v < A 0 0 0 ∧ v ≠ k ∧ 0 < A 1 v 2 ∧ cls (m + 1) i a b = nI v := by
        rw [c1 m i a b hin]
        split
        · exact (ih (i + 1) a b (by omega) st).2.2
        · rename_i hne
          split
          · exact (ih (i + 1) a b (by omega) st).2.2
          · exact (ih (i + 1) (nI i) (nI (zrk A k i)) (by omega) (Or.inr ⟨i, hin, ek, by omega, rfl, rfl⟩)).2.2
      refine ⟨fun q => ?_, fun q => ?_, prop⟩
      · obtain ⟨m', rfl⟩ : ∃ m', m = m' + 1 := ⟨m - 1, by omega⟩
        exact key m' (i + 1) (by omega) (by omega) (by rw [if_neg (by omega)]; rfl) (fun a b s => by
          have g := (ih (i + 1) a b (by omega) s).1 (by omega)
          exact g)
      · exact key m i (by omega) hin (by rw [if_pos q]) (fun a b s => (ih (i + 1) a b (by omega) s).2.1 (by omega))
theorem zc_rob {I : gI} {A : zN} {y K k i : Nat} (hc : zCL A (I y)) (hi : zIV K A) (hin : i < A 0 0 0) : f_X3_canBeRobbed I y i k = if i = k ∨ A 1 i 2 = 0 then 0 else 1 := by
  have h1 := hi.k1
  have h2 := hi.k2 i (by omega)
  unfold f_X3_canBeRobbed
  rw [hc.cart hi (by omega), hc.k5 i (by omega)]
  by_cases e : i = k
  · rw [if_pos e, if_pos (Or.inl e)]
  · rw [if_neg e]
    by_cases e2 : A 1 i 2 = 0
    · rw [if_pos (Or.inr e2), if_pos (by rw [e2]; decide)]
    · rw [if_neg (show ¬ (i = k ∨ A 1 i 2 = 0) from fun q => q.elim e e2), if_neg (nI_nle (by omega) (by omega))]
theorem zc_c1 {I : gI} {A : zN} {y K k : Nat} (hc : zCL A (I y)) (hi : zIV K A) (hw : A 1 k 5 = 1) (m i : Nat) (a b : Int32) (hin : i < A 0 0 0) : f_X3_fullestCart_l1 y k (m + 1) i a b I = if i = k ∨ A 1 i 2 = 0 then f_X3_fullestCart_l1 y k m (i + 1) a b I else if nI (zrk A k i) ≤ b then f_X3_fullestCart_l1 y k m (i + 1) a b I else f_X3_fullestCart_l1 y k m (i + 1) (nI i) (nI (zrk A k i)) I := by
  have h1 := hi.k1
  simp only [f_X3_fullestCart_l1, zc_rob hc hi hin, hc.cart hi (show i < 6 by omega), hc.k5 i (show i < A 0 0 3 by omega)]
  unfold zrk
  rw [if_pos hw]
  by_cases e : i = k ∨ A 1 i 2 = 0
  · rw [if_pos e, if_pos e, if_pos rfl]
  · rw [if_neg e, if_neg e, if_neg (by decide)]
theorem zc_far {I : gI} {A : zN} {y K i : Nat} (hc : zCL A (I y)) (hi : zIV K A) (hin : i < A 0 0 0) (hm : 0 < A 1 i 2) : f_X0_farHeap I y (A 1 i 3) = nI (A 4 (A 2 i (A 1 i 2 - 1)) 0) := by
  have h1 := hi.k1
  have h2 := hi.k2 i (by omega)
  unfold f_X0_farHeap
  have e6 := hc.k6 i 0 (by omega) hm
  rw [hc.k5 i (by omega), if_neg (nI_nle hm (by omega)), e6]
  congr 3
theorem zc_c2 {I : gI} {A : zN} {y K k : Nat} (hc : zCL A (I y)) (hi : zIV K A) (hw : A 1 k 5 ≠ 1) (m i : Nat) (a b : Int32) (hin : i < A 0 0 0) : f_X3_greatestFarHeap_l1 y k (m + 1) i a b I = if i = k ∨ A 1 i 2 = 0 then f_X3_greatestFarHeap_l1 y k m (i + 1) a b I else if nI (zrk A k i) ≤ b then f_X3_greatestFarHeap_l1 y k m (i + 1) a b I else f_X3_greatestFarHeap_l1 y k m (i + 1) (nI i) (nI (zrk A k i)) I := by
  have h1 := hi.k1
  simp only [f_X3_greatestFarHeap_l1, zc_rob hc hi hin, hc.cart hi (show i < 6 by omega)]
  unfold zrk
  rw [if_neg hw]
  by_cases e : i = k ∨ A 1 i 2 = 0
  · rw [if_pos e, if_pos e, if_pos rfl]
  · have hm : 0 < A 1 i 2 := Nat.pos_of_ne_zero fun q => e (Or.inr q)
    have hq := hi.k10 i (A 1 i 2 - 1) (by omega) (by omega)
    rw [if_neg e, if_neg e, if_neg (by decide), zc_far hc hi hin hm, zc_balesOf _ _ (hi.g320 hq), hc.k17 _ hq]
/-- the way 0 -/
theorem zr_v0fix {J : gI} {A : zN} {z K k v : Nat} (hr : zRF A (J 2) (J z)) (hi : zIV K A) (hk : k < A 0 0 0) (hw : A 1 k 5 = 0) : ∀ m t, 1 ≤ t → t + m = A 0 0 0 → v < 6 → f_X6_victimOf_l1 z (nI k) m t (nI v) J = nI v ∧ ok_f_X6_victimOf_l1 z (nI k) m t (nI v) J := by
  have h1 := hi.k1
  have e13 := hr.k9 k (by omega)
  rw [hw] at e13
  have w0 : J 2 13 0 (nI k).toNatClampNeg = 0 := by rw [nI_clamp (by omega)]; exact e13
  have hN := hr.k1
  have rk : ∀ o : Int32, f_X6_rank J z (nI k) o = 0 := fun o => by unfold f_X6_rank; rw [if_pos w0]
  have rko : ∀ o : Int32, ok_X6_rank J z (nI k) o := fun o => ⟨vp_in_nI (by omega) (by decide), fun _ => trivial, fun q => absurd w0 q⟩
  intro m
  induction m with
  | zero => intro t _ _ _; exact ⟨rfl, trivial⟩
  | succ m ih =>
    intro t t1 ht hv
    obtain ⟨a1, a2⟩ := ih (t + 1) (by omega) (by omega) hv
    have nv : ¬ nI v = -1 := zn_m1 (by omega)
    have hmod : nI k + nI t - (nI k + nI t) / J 2 11 0 1 * J 2 11 0 1 = nI ((k + t) % A 0 0 0) := by
      rw [hN, nI_add]
      exact pk_rem (by omega) (by omega) (by omega)
    have hlt : (k + t) % A 0 0 0 < A 0 0 0 := Nat.mod_lt _ (by omega)
    simp only [f_X6_victimOf_l1, ok_f_X6_victimOf_l1, rk]
    rw [if_pos w0, hmod]
    refine ⟨?_, vp_in_nI (by omega) (by decide), fun _ => ⟨by rw [hN]; exact nI_ne0 (by omega) (by omega), vp_in_nI (by omega) (by decide), fun _ => a2, fun _ => ⟨fun q => absurd q nv, fun _ => ⟨rko _, rko _, fun _ => a2, fun q => absurd (by decide) q⟩⟩⟩, fun q => absurd w0 q⟩
    split
    · exact a1
    · first | rw [if_neg nv, if_pos (by decide)] | rw [if_pos (by decide)]
      exact a1
theorem zT_vic0 {I J : gI} {A : zN} {y z K k : Nat} (hc : zCL A (I y)) (hr : zRF A (J 2) (J z)) (hi : zIV K A) (hw : wf (I y)) (hk : k < A 0 0 0) (hw0 : A 1 k 5 = 0) : ∀ m t, 1 ≤ t → t + m = A 0 0 0 →
    f_X6_victimOf_l1 z (nI k) m t (-1) J = f_X3_nextWithHay_l1 y k m t I ∧ ok_f_X6_victimOf_l1 z (nI k) m t (-1) J ∧ (f_X3_nextWithHay_l1 y k m t I = -1 ∨ ∃ v, v < A 0 0 0 ∧ v ≠ k ∧ 0 < A 1 v 2 ∧ f_X3_nextWithHay_l1 y k m t I = nI v) := by
  have h1 := hi.k1
  have e13 := hr.k9 k (by omega)
  rw [hw0] at e13
  have w0 : J 2 13 0 (nI k).toNatClampNeg = 0 := by rw [nI_clamp (by omega)]; exact e13
  have hN := hr.k1
  have hNc := hc.k1
  have hnum := hw.num (show k < 6 by omega)
  intro m
  induction m with
  | zero => intro t _ _; exact ⟨rfl, trivial, Or.inl rfl⟩
  | succ m ih =>
    intro t t1 ht
    obtain ⟨a1, a2, a3⟩ := ih (t + 1) (by omega) (by omega)
    have hmod : nI k + nI t - (nI k + nI t) / J 2 11 0 1 * J 2 11 0 1 = nI ((k + t) % A 0 0 0) := by
      rw [hN, nI_add]
      exact pk_rem (by omega) (by omega) (by omega)
    have hlt : (k + t) % A 0 0 0 < A 0 0 0 := Nat.mod_lt _ (by omega)
    generalize eo : (k + t) % A 0 0 0 = o at *
    have eo2 : (k + t < A 0 0 0 ∧ o = k + t) ∨ (A 0 0 0 ≤ k + t ∧ o = k + t - A 0 0 0) := by
      by_cases q : k + t < A 0 0 0
      · exact Or.inl ⟨q, by rw [← eo, Nat.mod_eq_of_lt q]⟩
      · refine Or.inr ⟨by omega, ?_⟩
        rw [← eo, Nat.mod_eq_sub_mod (by omega), Nat.mod_eq_of_lt (by omega)]
    have ho6 : o < 6 := by omega
    have h2 := hi.k2 o ho6
    have e31 := hr.k6 o (by omega)
    have z31 : (J z 31 0 o = 0) ↔ A 1 o 2 = 0 := by
      rw [e31]
      exact nI_eq (b := 0) (by omega) (by decide)
    have hrob := zc_rob (k := k) hc hi hlt
    have hok : o ≠ k := by omega
    have hcls : f_X3_nextWithHay_l1 y k (m + 1) t I = if A 1 o 2 = 0 then f_X3_nextWithHay_l1 y k m (t + 1) I else nI o := by
      simp only [f_X3_nextWithHay_l1, hnum, hNc, nI_add]
      rcases eo2 with ⟨q, rfl⟩ | ⟨q, rfl⟩
      · rw [if_pos (nI_lt q (by omega)), nI_clamp (by omega), hrob]
        by_cases e : A 1 (k + t) 2 = 0
        · rw [if_pos (Or.inr e), if_pos e, if_pos rfl]
        · rw [if_neg (show ¬ (k + t = k ∨ A 1 (k + t) 2 = 0) from fun q => q.elim hok e), if_neg e, if_neg (by decide)]
      · rw [if_neg (nI_nlt q (by omega)), pk_sub q, nI_clamp (by omega), hrob]
        by_cases e : A 1 (k + t - A 0 0 0) 2 = 0
        · rw [if_pos (Or.inr e), if_pos e, if_pos rfl]
        · rw [if_neg (show ¬ (k + t - A 0 0 0 = k ∨ A 1 (k + t - A 0 0 0) 2 = 0) from fun q => q.elim hok e), if_neg e, if_neg (by decide)]
    obtain ⟨b1, b2⟩ := zr_v0fix (v := o) hr hi hk hw0 m (t + 1) (by omega) (by omega) ho6
    rw [hcls]
    simp only [f_X6_victimOf_l1, ok_f_X6_victimOf_l1]
    rw [if_pos w0, hmod, nI_clamp (by omega)]
    refine ⟨?_, ⟨vp_in_nI (by omega) (by decide), fun _ => ⟨by rw [hN]; exact nI_ne0 (by omega) (by omega), vp_in_nI (by omega) (by decide), fun _ => a2, fun _ => ⟨fun _ => b2, fun q => (q trivial).elim⟩⟩, fun q => absurd w0 q⟩, ?_⟩
    · by_cases e : A 1 o 2 = 0
      · rw [if_pos e, if_pos (z31.mpr e), a1]
      · rw [if_neg e, if_neg (fun q => e (z31.mp q)), if_pos trivial, b1]
    · by_cases e : A 1 o 2 = 0
      · rw [if_pos e]
        exact a3
      · rw [if_neg e]
        exact Or.inr ⟨o, hlt, hok, by omega, rfl⟩
/-- from whom: both sides alike -/
theorem zT_vic {I J : gI} {A : zN} {y z K k : Nat} (hc : zCL A (I y)) (hr : zRF A (J 2) (J z)) (hi : zIV K A) (hw : wf (I y)) (hk : k < A 0 0 0) :
    ok_X6_victimOf J z (nI k) ∧ f_X6_victimOf J z (nI k) = f_X3_victimOf I y k ∧ (f_X3_victimOf I y k = -1 ∨ ∃ v, v < A 0 0 0 ∧ v ≠ k ∧ 0 < A 1 v 2 ∧ f_X3_victimOf I y k = nI v) := by
  have h1 := hi.k1
  have h2k := hi.k2 k (by omega)
  have e2 := hc.k11 k (by omega)
  have hN := hr.k1
  have hNc := hc.k1
  have cN : (J 2 11 0 1).toNatClampNeg = A 0 0 0 := by rw [hN, nI_clamp (by omega)]
  have cNc : (I y 0 0 4).toNatClampNeg = A 0 0 0 := by rw [hNc, nI_clamp (by omega)]
  have isn : isN (J 2 11 0 1) 6 := by rw [hN]; exact isN_nI (by omega) (by decide)
  unfold ok_X6_victimOf f_X6_victimOf f_X3_victimOf
  rw [cN, e2]
  by_cases w0 : A 1 k 5 = 0
  · obtain ⟨a1, a2, a3⟩ := zT_vic0 hc hr hi hw hk w0 (A 0 0 0 - 1) 1 (by omega) (by omega)
    rw [w0, if_neg (by decide), if_neg (by decide)]
    unfold f_X3_nextWithHay
    rw [cNc]
    exact ⟨⟨isn, a2⟩, a1, a3⟩
  · by_cases w1 : A 1 k 5 = 1
    · obtain ⟨a1, -, a3⟩ := zT_vic12 hr hi hk w0 (fun m i a b => f_X3_fullestCart_l1 y k m i a b I) (fun _ _ _ => rfl) (zc_c1 hc hi w1) (A 0 0 0) 0 (-1) 0 (by omega) (Or.inl ⟨rfl, rfl⟩)
      have a1 := a1 (by omega)
      rw [w1, if_pos (by decide)]
      unfold f_X3_fullestCart
      rw [cNc]
      exact ⟨⟨isn, a1.2⟩, a1.1, a3⟩
    · have w2 : A 1 k 5 = 2 := by omega
      obtain ⟨a1, -, a3⟩ := zT_vic12 hr hi hk w0 (fun m i a b => f_X3_greatestFarHeap_l1 y k m i a b I) (fun _ _ _ => rfl) (zc_c2 hc hi w1) (A 0 0 0) 0 (-1) 0 (by omega) (Or.inl ⟨rfl, rfl⟩)
      have a1 := a1 (by omega)
      rw [w2, if_neg (by decide), if_pos (by decide)]
      unfold f_X3_greatestFarHeap
      rw [cNc]
      exact ⟨⟨isn, a1.2⟩, a1.1, a3⟩
