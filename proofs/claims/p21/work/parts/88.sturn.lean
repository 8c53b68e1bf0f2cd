/-! A TURN: the Sim does as the ghost -/
theorem zs_put (I : gI) {V : gY} (y t i j : Nat) (x : Int32) (h : I y = V) : gU I y t i j x y = u3 V t i j x := by rw [gU_at, h]
/-- the yard -/
theorem zs_yard {lo k z : Nat} {I0 I J : gI} (h : ∀ l, l < lo → (J z 33 0 l = 0 → I 5 4 l 5 = 0) ∧ (J z 33 0 l ≠ 0 → I 5 4 l 5 = 1)) : ∀ m i, i + m = lo →
    (f_X6_inYard_l1 z m i J = -1 ∧ f_S_turn_l1 k I0 m i I = f_S_turn_l1 k I0 0 lo I ∧ (ok_f_S_turn_l1 k I0 0 lo I → ok_f_S_turn_l1 k I0 m i I)) ∨
    ∃ j, j < lo ∧ f_X6_inYard_l1 z m i J = nI j ∧ J z 33 0 j = 0 ∧ f_S_turn_l1 k I0 m i I = gU (gU (gU I 5 4 j 5 1) 5 2 k 2 1) 5 2 k 3 (gU (gU I 5 4 j 5 1) 5 2 k 2 1 5 4 j 1) ∧ ok_f_S_turn_l1 k I0 m i I := by
  intro m
  induction m with
  | zero => intro i e; exact Or.inl ⟨rfl, by rw [show i = lo by omega], fun p => by rw [show i = lo by omega]; exact p⟩
  | succ m ih =>
    intro i e
    have v := h i (by omega)
    simp only [f_X6_inYard_l1, f_S_turn_l1, ok_f_S_turn_l1]
    by_cases c : J z 33 0 i = 0
    · have w : ¬ I 5 4 i 5 = 1 := by rw [v.1 c]; decide
      rw [if_pos c, if_neg w]
      refine Or.inr ⟨i, by omega, rfl, c, rfl, fun q => absurd q w, fun _ => ?_⟩
      rintro _ rfl _ rfl _ rfl
      trivial
    · have w : I 5 4 i 5 = 1 := v.2 c
      rw [if_neg c, if_pos w]
      rcases ih (i + 1) (by omega) with ⟨a1, a2, a3⟩ | ⟨j, b1, b2, b3, b4, b5⟩
      · exact Or.inl ⟨a1, a2, fun p => ⟨fun _ => a3 p, fun q => absurd w q⟩⟩
      · exact Or.inr ⟨j, b1, b2, b3, b4, fun _ => b5, fun q => absurd w q⟩
/-- the rest -/
theorem zs_row {x : Int32} (h : x = 0 ∨ x = 1 ∨ x = 2) : ((x + 1) - (x + 1) / 3 * 3 = if 3 ≤ x + 1 then 0 else x + 1) ∧ (x = 2 ↔ 3 ≤ x + 1) ∧ (¬ 3 ≤ x + 1 → x + 1 = 0 ∨ x + 1 = 1 ∨ x + 1 = 2) := by
  rcases h with rfl | rfl | rfl <;> decide
theorem zs_rest {L n lo k z : Nat} {I J : gI} (h : sR L n lo (I 5) (J 2) (J z)) (hk : k < n) (hn : n ≤ 6) :
    sR L n lo ((if I 5 2 k 4 = 2 then gU (gU (gU (gU I 5 2 k 4 0) 5 2 k 7 (gU I 5 2 k 4 0 5 2 k 7 + 1)) 5 2 k 4 (((I 5 2 k 4) + 1) - ((I 5 2 k 4) + 1) / 3 * 3)) 5 2 k 2 3 else gU (gU (gU I 5 2 k 4 0) 5 2 k 7 (gU I 5 2 k 4 0 5 2 k 7 + 1)) 5 2 k 4 (((I 5 2 k 4) + 1) - ((I 5 2 k 4) + 1) / 3 * 3)) 5) (J 2) (f_X5_rest J z (nI k) z) := by
  have ck : (nI k).toNatClampNeg = k := nI_clamp (by omega)
  have w := h.k3 k hk
  have x0 := h.k8 k hk
  obtain ⟨r1, r2, r3⟩ := zs_row x0
  have e : ∀ (a b c x : Int32), u3 (u3 (u3 (I 5) 2 k 4 a) 2 k 7 b) 2 k 4 c = u3 (u3 (I 5) 2 k 7 b) 2 k 4 c := fun a b c x => by
    funext t i j
    simp only [u3_eq]
    grind
  have v7 : gU I 5 2 k 4 0 5 2 k 7 = J z 30 0 k := by rw [gU_at, u3_skipj _ _ (by decide), w.2.2.2.2.2.2.1]
  have v4 : I 5 2 k 4 = J z 27 0 k := w.2.2.2.1
  rw [v7, v4, r1]
  have g27 : gU (gU J z 30 0 k (J z 30 0 k + 1)) z 27 0 k (gU J z 30 0 k (J z 30 0 k + 1) z 27 0 k + 1) z 27 0 k = J z 27 0 k + 1 := by
    simp (disch := decide) only [gU_at, u3_at, u3_skip]
  simp only [f_X5_rest, ck, g27]
  have S7 := sR_S7 (k := k) (x := J z 30 0 k + 1) h
  by_cases c : 3 ≤ J z 27 0 k + 1
  · rw [if_pos (r2.mpr c), if_pos c, if_pos c]
    have R := sR_DZ (k := k) (x := 3) (sR_RO (k := k) (x := 0) S7 (Or.inl rfl)) ⟨by decide, by decide⟩
    have e3 : ∀ x, u3 (u3 (u3 (J z) 30 0 k (J z 30 0 k + 1)) 27 0 k x) 27 0 k 0 = u3 (u3 (J z) 30 0 k (J z 30 0 k + 1)) 27 0 k 0 := fun x => by
      funext t i j
      simp only [u3_eq]
      grind
    simp only [gU_at, e, e3]
    rw [e 0 _ _ 0]
    exact R
  · rw [if_neg (fun q => c (r2.mp q)), if_neg c, if_neg c]
    have R := sR_RO (k := k) (x := J z 27 0 k + 1) S7 (r3 c)
    simp (disch := decide) only [gU_at, u3_skip]
    rw [e 0 _ _ 0]
    exact R
/-- the theft -/
theorem zr_steal {J : gI} {z k v m q g : Nat} (hk : k < 6) (hv : v < 6) (hfar : f_X5_far J z (nI v) = nI q) (hq : q < 1000) (hg : J z 42 0 q = nI g) (hg9 : g < 1000) (hm : J z 31 0 v - 1 = nI m) :
    f_X5_steal J z (nI k) (nI v) z = u3 (u3 (u3 (u3 (u3 (u3 (u3 (J z) 31 0 v (nI m)) 25 0 k 1) 26 0 k (nI q)) 28 0 k (J z 28 0 k + 1)) 29 0 v (J z 29 0 v + 1)) 37 0 g (J z 37 0 g + 1)) 20 0 1 (J z 20 0 1 + 1) := by
  have cv : (nI v).toNatClampNeg = v := nI_clamp (by omega)
  have ck : (nI k).toNatClampNeg = k := nI_clamp (by omega)
  have cq : (nI q).toNatClampNeg = q := nI_clamp (by omega)
  have cg : (nI g).toNatClampNeg = g := nI_clamp (by omega)
  simp (disch := decide) only [f_X5_steal, hfar, f_X5_hold, gU_at, u3_skip, u3_skipj, ck, cv, cq, hm, hg, cg]
theorem zs_steal {L n lo k v m q g z : Nat} {I J : gI} (h : sR L n lo (I 5) (J 2) (J z)) (hk : k < n) (hn : n ≤ 6) (hL : L < 300) (hlo : lo < 1000) (hv : v < n) (hfar : f_X5_far J z (nI v) = nI q) (hq : q < (J z 20 0 19).toNatClampNeg) (hN : (J z 20 0 19).toNatClampNeg < 1000) (hg : J z 42 0 q = nI g) (hg9 : g < lo) (hm : J z 31 0 v = nI (m + 1)) (hm8 : m < 8) (h8 : ∀ i, i < n → (J z 31 0 i).toNatClampNeg ≤ 8) (h32 : J z 32 0 (8 * v + m) = nI q) :
    sR L n lo (u3 (u3 (u3 (u3 (pLess (u3 (u3 (u3 (I 5) 2 k 4 0) 2 k 2 1) 2 k 3 (nI q)) v 0) 2 k 5 (I 5 2 k 5 + 1)) 2 v 6 (I 5 2 v 6 + 1)) 4 g 4 (I 5 4 g 4 + 1)) 0 0 6 (I 5 0 0 6 + 1)) (J 2) (f_X5_steal (gU J z 27 0 k 0) z (nI k) (nI v) z) := by
  have wk := h.k3 k hk
  have wv := h.k3 v hv
  have wg := h.k6 g hg9
  have A1 := sR_RO (k := k) (x := 0) h (Or.inl rfl)
  have A2 := sR_HO (k := k) (x := nI q) A1 hk
  have A3 := sR_LF (k := v) (m := m + 1) A2 hv (by simp (disch := decide) only [u3_skip]; exact hm) (by omega) (by omega) hL (fun i hi => by simp (disch := decide) only [u3_skip]; exact h8 i hi)
  have A4 := sR_S5 (k := k) (x := I 5 2 k 5 + 1) A3
  have A5 := sR_S6 (k := v) (x := I 5 2 v 6 + 1) A4
  have A6 := sR_LT (j := g) (x := I 5 4 g 4 + 1) A5
  have A7 := sR_TC (x := I 5 0 0 6 + 1) A6
  have e1 : f_X5_far (gU J z 27 0 k 0) z (nI v) = nI q := by
    rw [← hfar]
    simp (disch := decide) only [f_X5_far, gU_at, u3_skip]
  rw [zr_steal (m := m) (g := g) (q := q) (by omega) (by omega) e1 (by omega) (by simp (disch := decide) only [gU_at, u3_skip]; exact hg) (by omega) (by simp (disch := decide) only [gU_at, u3_skip]; rw [hm]; exact zc_sub1 (by omega))]
  simp (disch := decide) only [gU_at, u3_skip]
  rw [← wk.2.2.2.2.1, ← wv.2.2.2.2.2.1, ← wg.2.2.2.2.1, ← h.k2.2.2.1]
  rw [show m + 1 - 1 = m by omega] at A7
  rw [u3_com (u3 (u3 (J z) 27 0 k 0) 25 0 k 1) _ _ (show 26 ≠ 31 by decide), u3_com (u3 (J z) 27 0 k 0) _ _ (show 25 ≠ 31 by decide)] at A7
  exact A7
/-- with empty hands and an empty cart -/
theorem zs_empty {L K k z : Nat} {A : zN} {I J : gI} (hr : zRF A (J 2) (J z)) (hi : zIV K A) (h : sR L (A 0 0 0) (A 0 0 1) (I 5) (J 2) (J z)) (hz : z = 3 ∨ z = 4) (hk : k < A 0 0 0) (h0 : A 1 k 0 = 0) (hL : L < 300) (hvic : zbest A k (f_X6_victimOf J z (nI k))) :
    ok_f_S_turn_l1 k I (cnt (I 5) 4) 0 (gU I 5 2 k 4 0) ∧ sR L (A 0 0 0) (A 0 0 1) (f_S_turn_l1 k I (cnt (I 5) 4) 0 (gU I 5 2 k 4 0) 5) (J 2) (f_B J z (nI k) (nI (A 0 0 6)) z) := by
  have hz2 : z ≠ 2 := by omega
  have h1 := hi.k1
  have hk6 : k < 6 := by omega
  have ck : (nI k).toNatClampNeg = k := nI_clamp (by omega)
  have s25 := hr.k4 k hk6
  rw [h0] at s25
  have n1 : ¬ J z 25 0 k = 1 := by rw [s25]; decide
  have c := h.c (by omega) (by omega) (by omega)
  have cl2 : (J 2 11 0 4).toNatClampNeg = A 0 0 1 := by rw [hr.k2, nI_clamp (by omega)]
  have hN : (J z 20 0 19).toNatClampNeg = A 0 0 2 := by rw [hr.k3, nI_clamp (by omega)]
  have O := sR_RO (k := k) (x := 0) h (Or.inl rfl)
  have J2 : gU J z 27 0 k 0 2 = J 2 := gU_ne _ _ _ _ _ (Ne.symm hz2)
  have O' : sR L (A 0 0 0) (A 0 0 1) (gU I 5 2 k 4 0 5) (gU J z 27 0 k 0 2) (gU J z 27 0 k 0 z) := by
    rw [gU_at, gU_at, J2]
    exact O
  have hr' : zRF A (gU J z 27 0 k 0 2) (gU J z 27 0 k 0 z) := by
    rw [gU_at, J2]
    exact zRF_RO hr hi hk
  obtain ⟨v1, v2⟩ := zs_best hr' hi O' hk hL
  have ev := zbest_one v2 hvic
  have hy := zs_yard (k := k) (I0 := I) (I := gU I 5 2 k 4 0) (J := J) (z := z) (lo := A 0 0 1) (fun l hl => by
    rw [gU_at, u3_skip _ _ _ _ (by decide)]
    exact (h.k6 l hl).2.2.2.2.2) (A 0 0 1) 0 (by omega)
  unfold f_B
  rw [ck, if_neg n1, c.2.2.1]
  have eY : f_X6_inYard J z = f_X6_inYard_l1 z (A 0 0 1) 0 J := by unfold f_X6_inYard; rw [cl2]
  rw [eY]
  rcases hy with ⟨y1, y2, y3⟩ | ⟨j, hj, y1, y4, y2, y3⟩
  · rw [y1, y2, if_pos rfl]
    simp only [f_S_turn_l1, ok_f_S_turn_l1] at y3 ⊢
    rw [ev] at y3 ⊢
    rcases hvic with ⟨b1, -⟩ | ⟨v, hv, b1, -⟩
    · have nv : ¬ (0 : Int32) ≤ f_X6_victimOf J z (nI k) := by rw [b1]; decide
      rw [if_neg nv, if_pos b1]
      refine ⟨y3 ⟨v1, fun q => absurd q nv, fun _ => ?_⟩, ?_⟩
      · rintro _ rfl _ rfl
        exact ⟨fun _ _ _ => trivial, fun _ => trivial⟩
      · exact zs_rest h hk (by omega)
    · have h2 := hi.k2 v (by have := hv.1; omega)
      have hm : 0 < A 1 v 2 := hv.2.2
      obtain ⟨m, hm1⟩ : ∃ m, A 1 v 2 = m + 1 := ⟨A 1 v 2 - 1, by omega⟩
      have hq := hi.k10 v m (by have := hv.1; omega) (by omega)
      have q3 := hi.q600 hq
      have h12 := (hi.k12 _ hq).1
      have nv : (0 : Int32) ≤ nI v := (show nI 0 ≤ nI v from nI_le (Nat.zero_le v) (by have := hv.1; omega))
      have nv2 : ¬ nI v = -1 := zn_m1 (by have := hv.1; omega)
      have cv : (nI v).toNatClampNeg = v := nI_clamp (by have := hv.1; omega)
      have wv := h.k3 v hv.1
      have hrl : rln (I 5) 3 v = m + 1 := by
        show (I 5 6 v 0).toNatClampNeg = _
        rw [wv.2.2.2.2.2.2.2, hr.k6 v (by have := hv.1; omega), hm1, nI_clamp (by omega)]
      have cm : (nI (m + 1) - 1).toNatClampNeg = m := by rw [zc_sub1 (by omega), nI_clamp (by omega)]; omega
      have s32 := hr.k7 v m (by have := hv.1; omega) (by omega)
      have v3 : I 5 3 v m = nI (A 2 v m) := by rw [h.k5 v m hv.1 (by rw [hr.k6 v (by have := hv.1; omega), hm1, nI_clamp (by omega)]; omega), s32]
      have fr := (zr_far hr hi hv.1 hm).1
      rw [hm1, show m + 1 - 1 = m by omega] at fr
      have T := zs_steal (m := m) (q := A 2 v m) (g := A 4 (A 2 v m) 0 / 32) h hk (by omega) hL (by omega) hv.1 fr (by omega) (by omega) (hr.k17 _ hq) (by omega) (by rw [hr.k6 v (by have := hv.1; omega), hm1]) (by omega) (fun i hii => by
        have := (hi.k2 i (by omega)).2.1
        rw [hr.k6 i (by omega), nI_clamp (by omega)]
        exact this) s32
      have c9 : cnt (I 5) 9 = L := c.2.2.2.2
      obtain ⟨V4, hV4⟩ : ∃ V4, V4 = u3 (u3 (u3 (I 5) 2 k 4 0) 2 k 2 1) 2 k 3 (nI (A 2 v m)) := ⟨_, rfl⟩
      have c4 : cnt V4 9 < 330 := by
        show (V4 1 9 0).toNatClampNeg < 330
        rw [hV4]
        simp (disch := decide) only [u3_skip]
        show cnt (I 5) 9 < 330
        omega
      have pl : ∀ t i j, t ≠ 1 ∧ t ≠ 6 ∧ t ≠ 7 ∧ t ≠ 9 → ¬ (t = 3 ∧ i = v) → pLess V4 v 0 t i j = V4 t i j := fun t i j a b => less_at a b j
      rw [b1] at y3 ⊢
      rw [if_pos nv, if_neg nv2]
      rw [← hV4] at T
      have ccn : ∀ t, cnt (pLess V4 v 0) t = cnt (I 5) t := fun t => by
        rw [cnt_less c4, hV4]
        unfold cnt
        simp (disch := decide) only [u3_skip]
      have e5 : (gset (gU (gU (gU I 5 2 k 4 0) 5 2 k 2 1) 5 2 k 3 (gU (gU I 5 2 k 4 0) 5 2 k 2 1 5 3 v m)) 5 (pLess (gU (gU (gU I 5 2 k 4 0) 5 2 k 2 1) 5 2 k 3 (gU (gU I 5 2 k 4 0) 5 2 k 2 1 5 3 v m) 5) v 0)) 5 = pLess V4 v 0 := by
        rw [gset_at, hV4]
        simp (disch := decide) only [gU_at, u3_skip, v3]
      have p25 : pLess V4 v 0 2 k 5 = I 5 2 k 5 := by rw [pl 2 k 5 (by decide) (by omega), hV4]; simp (disch := decide) only [u3_skipj]
      have p26 : pLess V4 v 0 2 v 6 = I 5 2 v 6 := by rw [pl 2 v 6 (by decide) (by omega), hV4]; simp (disch := decide) only [u3_skipj]
      have p23 : pLess V4 v 0 2 k 3 = nI (A 2 v m) := by rw [pl 2 k 3 (by decide) (by omega), hV4, u3_at]
      have p52 : pLess V4 v 0 5 (A 2 v m) 2 = nI (A 4 (A 2 v m) 0 / 32) := by rw [pl 5 _ 2 (by decide) (by omega), hV4]; simp (disch := decide) only [u3_skip]; rw [(h.k7 _ (by omega)).2.2.1, hr.k17 _ hq]
      have p44 : ∀ a, pLess V4 v 0 4 a 4 = I 5 4 a 4 := fun a => by rw [pl 4 a 4 (by decide) (by omega), hV4]; simp (disch := decide) only [u3_skip]
      have p06 : pLess V4 v 0 0 0 6 = I 5 0 0 6 := by rw [pl 0 0 6 (by decide) (by omega), hV4]; simp (disch := decide) only [u3_skip]
      have cq : (nI (A 2 v m)).toNatClampNeg = A 2 v m := nI_clamp (by omega)
      have cg : (nI (A 4 (A 2 v m) 0 / 32)).toNatClampNeg = A 4 (A 2 v m) 0 / 32 := nI_clamp (by omega)
      simp only [hrl, cm, cv, c9] at y3 ⊢
      refine ⟨y3 ⟨v1, fun _ => ?_, fun q => absurd nv q⟩, ?_⟩
      · intro I3 h3
        refine ⟨by rw [c.2.1]; exact vp_in_nI hv.1 (by omega), by rw [zc_sub1 (by omega)]; exact vp_in_nI (by omega) (by omega), ?_⟩
        intro I4 h4
        refine ⟨by omega, by omega, trivial, ?_⟩
        intro G hG I6 h6
        have e5 : G 5 = pLess V4 v 0 := by
          rw [hG, gset_at, h4, h3, hV4]
          simp (disch := decide) only [gU_at, u3_skip, v3]
        refine ⟨by rw [e5, ccn, c.1]; exact vp_in_nI hv.1 (by omega), ?_⟩
        intro I7 h7
        have x3 : I7 5 2 k 3 = nI (A 2 v m) := by
          rw [h7, h6]
          simp only [gU_at, e5]
          rw [u3_skipj _ _ (by decide), u3_skipj _ _ (by decide), p23]
        have x52 : I7 5 5 (A 2 v m) 2 = nI (A 4 (A 2 v m) 0 / 32) := by
          rw [h7, h6]
          simp only [gU_at, e5]
          rw [u3_skip _ _ _ _ (by decide), u3_skip _ _ _ _ (by decide), p52]
        rw [e5, ccn, ccn, c.2.2.2.1, c.2.2.1, hN, x3, cq, x52]
        refine ⟨vp_in_nI hq (by omega), vp_in_nI (by omega) (by omega), ?_⟩
        intro I8 h8 I9 h9
        trivial
      · obtain ⟨G, hG⟩ : ∃ G, G = (gset (gU (gU (gU I 5 2 k 4 0) 5 2 k 2 1) 5 2 k 3 (gU (gU I 5 2 k 4 0) 5 2 k 2 1 5 3 v m)) 5 (pLess (gU (gU (gU I 5 2 k 4 0) 5 2 k 2 1) 5 2 k 3 (gU (gU I 5 2 k 4 0) 5 2 k 2 1 5 3 v m) 5) v 0)) := ⟨_, rfl⟩
        rw [← hG]
        rw [← hG] at e5
        simp (disch := decide) only [gU_at, e5, u3_skip, u3_skipj, p25, p26, p23, cq, p52, cg, p44, p06]
        exact T
  · have nj : ¬ nI j = -1 := zn_m1 (by omega)
    have cj : (nI j).toNatClampNeg = j := nI_clamp (by omega)
    rw [y1, y2, if_neg nj, cj]
    refine ⟨y3, ?_⟩
    have w := h.k6 j hj
    have R := sR_HO (k := k) (x := I 5 4 j 1) (sR_TK (j := j) O hj) hk
    simp (disch := decide) only [gU_at, f_X5_hold, ck, u3_skip, u3_skipj] at R ⊢
    rw [← w.2.1]
    exact R
