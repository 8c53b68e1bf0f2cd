/-! IN THE END ALL IS AS BY HAND: what isSame compares -/
/-- the first of those with most -/
def thP (N : Nat) (g : Nat → Nat) (t : Int32) : Prop := (N = 0 ∧ t = -1) ∨ ∃ v, v < N ∧ t = nI v ∧ (∀ o, o < v → g o < g v) ∧ ∀ o, o < N → g o ≤ g v
theorem thP_one {N : Nat} {g : Nat → Nat} {t t' : Int32} (h : thP N g t) (h' : thP N g t') : t = t' := by
  rcases h with ⟨e, h⟩ | ⟨v, v1, v2, v3, v4⟩
  · rcases h' with ⟨-, h'⟩ | ⟨v', v1', -⟩
    · rw [h, h']
    · omega
  · rcases h' with ⟨e, -⟩ | ⟨v', w1, w2, w3, w4⟩
    · omega
    · have a := v4 v' w1
      have b := w4 v v1
      rcases Nat.lt_trichotomy v v' with c | c | c
      · have := w3 v c
        omega
      · rw [v2, w2, c]
      · have := v3 v' c
        omega
theorem thC {I : gI} {g : Nat → Nat} {N : Nat} (hg : ∀ o, o < N → I 0 1 o 10 = nI (g o) ∧ g o < 2 ^ 30) : ∀ (n i : Nat) (a b : Int32), i + n = N → ((i = 0 ∧ a = -1 ∧ b = -1) ∨ ∃ v, v < i ∧ a = nI v ∧ b = nI (g v) ∧ (∀ o, o < v → g o < g v) ∧ ∀ o, o < i → g o ≤ g v) → thP N g (f_X4_thief_l1 n i a b I) := by
  intro n
  induction n with
  | zero =>
    intro i a b e h
    rcases h with ⟨h1, h2, h3⟩ | ⟨v, v1, v2, v3, v4, v5⟩
    · exact Or.inl ⟨by omega, h2⟩
    · exact Or.inr ⟨v, by omega, v2, v4, fun o ho => v5 o (by omega)⟩
  | succ n ih =>
    intro i a b e h
    obtain ⟨g1, g2⟩ := hg i (by omega)
    simp only [f_X4_thief_l1]
    rw [g1]
    rcases h with ⟨h1, h2, h3⟩ | ⟨v, v1, v2, v3, v4, v5⟩
    · have c : ¬ nI (g i) ≤ b := by
        rw [h3]
        refine fun q => absurd (Int32.le_trans (nI_pos' (n := g i) (by omega)) q) (by decide)
      rw [if_neg c]
      exact ih _ _ _ (by omega) (Or.inr ⟨i, by omega, rfl, rfl, fun o ho => by omega, fun o ho => by
        have : o = i := by omega
        rw [this]
        exact Nat.le_refl _⟩)
    · obtain ⟨-, g3⟩ := hg v (by omega)
      rw [v3]
      by_cases c : g i ≤ g v
      · rw [if_pos (nI_le c (by omega))]
        exact ih _ _ _ (by omega) (Or.inr ⟨v, by omega, v2, rfl, v4, fun o ho => by
          by_cases z : o = i
          · rw [z]; exact c
          · exact v5 o (by omega)⟩)
      · rw [if_neg (nI_ge (by omega) (by omega))]
        exact ih _ _ _ (by omega) (Or.inr ⟨i, by omega, rfl, rfl, fun o ho => by
          have := v5 o ho
          omega, fun o ho => by
          by_cases z : o = i
          · rw [z]; exact Nat.le_refl _
          · have := v5 o (by omega)
            omega⟩)
/-- by hand: from the last lad down -/
def thS (V : gY) : Nat → Int32 → Int32
  | 0, t => t
  | m + 1, t => thS V m (if t < 0 then nI m else if V 2 t.toNatClampNeg 5 ≤ V 2 m 5 then nI m else t)
theorem thS_P {V : gY} {g : Nat → Nat} {N : Nat} (hN : N ≤ 6) (hg : ∀ o, o < N → V 2 o 5 = nI (g o) ∧ g o < 2 ^ 30) : ∀ (m : Nat) (t : Int32), m ≤ N → ((m = N ∧ t = -1) ∨ ∃ v, m ≤ v ∧ v < N ∧ t = nI v ∧ (∀ o, m ≤ o → o < v → g o < g v) ∧ ∀ o, m ≤ o → o < N → g o ≤ g v) → thP N g (thS V m t) := by
  intro m
  induction m with
  | zero =>
    intro t _ h
    rcases h with ⟨h1, h2⟩ | ⟨v, v1, v2, v3, v4, v5⟩
    · exact Or.inl ⟨by omega, h2⟩
    · exact Or.inr ⟨v, v2, v3, fun o ho => v4 o (Nat.zero_le _) ho, fun o ho => v5 o (Nat.zero_le _) ho⟩
  | succ m ih =>
    intro t hm h
    obtain ⟨g1, g2⟩ := hg m (by omega)
    simp only [thS]
    rcases h with ⟨h1, h2⟩ | ⟨v, v1, v2, v3, v4, v5⟩
    · rw [h2, if_pos (by decide)]
      exact ih _ (by omega) (Or.inr ⟨m, Nat.le_refl _, by omega, rfl, fun o h1 h2 => by omega, fun o h1 h2 => by
        have : o = m := by omega
        rw [this]
        exact Nat.le_refl _⟩)
    · obtain ⟨g3, g4⟩ := hg v v2
      have c0 : ¬ nI v < 0 := nI_pos (by omega)
      rw [v3, if_neg c0, nI_clamp (by omega), g1, g3]
      by_cases c : g v ≤ g m
      · rw [if_pos (nI_le c (by omega))]
        exact ih _ (by omega) (Or.inr ⟨m, Nat.le_refl _, by omega, rfl, fun o h1 h2 => by omega, fun o h1 h2 => by
          by_cases z : o = m
          · rw [z]; exact Nat.le_refl _
          · have := v5 o (by omega) h2
            omega⟩)
      · rw [if_neg (nI_ge (by omega) (by omega))]
        exact ih _ (by omega) (Or.inr ⟨v, by omega, v2, rfl, fun o h1 h2 => by
          by_cases z : o = m
          · rw [z]; omega
          · exact v4 o (by omega) h2, fun o h1 h2 => by
          by_cases z : o = m
          · rw [z]; omega
          · exact v5 o (by omega) h2⟩)
def jLad (I : gI) (k : Nat) : Prop :=
  (I 5 2 k 0 = f_X1_tell I 0 k 0 ∧ I 5 2 k 1 = f_X1_tell I 0 k 1 ∧ nI (rln (I 5) 3 k) = f_X1_tell I 0 k 2 ∧ I 5 2 k 2 = f_X1_tell I 0 k 3 ∧ I 5 2 k 5 = f_X1_tell I 0 k 5 ∧ I 5 2 k 6 = f_X1_tell I 0 k 6 ∧ I 5 2 k 7 = f_X1_tell I 0 k 7) ∧
  (I 5 2 k 2 = 1 → I 5 5 (I 5 2 k 3).toNatClampNeg 1 = f_X1_tell I 0 k 4) ∧
  (I 5 2 k 2 = 1 ∨ I 5 2 k 2 = 2 → vp_in (I 5 2 k 3) (cnt (I 5) 5)) ∧
  (I 5 2 k 2 ≠ 1 → f_X1_tell I 0 k 4 = 0) ∧
  (I 5 2 k 2 = 1 ∨ I 5 2 k 2 = 2 → I 5 5 (I 5 2 k 3).toNatClampNeg 2 = f_X1_tell I 0 k 8) ∧
  (¬ (I 5 2 k 2 = 1 ∨ I 5 2 k 2 = 2) → f_X1_tell I 0 k 8 = -1) ∧
  (rln (I 5) 3 k ≤ 8 ∧ ∀ p, p < rln (I 5) 3 k → f_X4_cart_x I (nI k) (nI p) = 0 ∧ f_X4_cart I (nI k) (nI p) = I 5 5 (I 5 3 k p).toNatClampNeg 0 ∧ vp_in (I 5 3 k p) (cnt (I 5) 5)) ∧
  (f_X4_victim_x I (nI k) = 0 ∧ f_X4_victim I (nI k) = f_S_victim I k ∧ ok_S_victim I k)
def jLoad (I : gI) (l : Nat) : Prop :=
  I 5 4 l 0 = f_X2_tell I 0 l 0 ∧ (0 ≤ I 5 4 l 3 → f_X2_tell I 0 l 1 = 2) ∧ (I 5 4 l 3 < 0 → I 5 4 l 5 = f_X2_tell I 0 l 1) ∧ f_S_made I (nI l) = f_X2_tell I 0 l 2 ∧ ok_S_made I (nI l) ∧ I 5 4 l 4 = f_X2_tell I 0 l 3 ∧ I 5 4 l 2 = f_X2_tell I 0 l 4 ∧ I 5 4 l 3 = f_X2_tell I 0 l 5 ∧ f_S_pitched I (nI l) = f_X2_tell I 0 l 6 ∧ ok_S_pitched I (nI l)
theorem zs_mdok {x : Int32} {I : gI} : ∀ m i a, ok_f_S_made_l1 x m i a I := by
  intro m
  induction m with
  | zero => intro i a; trivial
  | succ m ih => intro i a; exact ⟨fun _ => ih _ _, fun _ => ih _ _⟩
theorem jR.same {n L : Nat} {I : gI} (h : jR n L I) (hL : L < 290) : ∃ a b, (a ≤ 6 ∧ b ≤ 10 ∧ I 0 0 0 4 = nI a ∧ I 0 0 0 5 = nI b ∧ cnt (I 5) 2 = a ∧ cnt (I 5) 3 = a ∧ cnt (I 5) 4 = b) ∧ (∀ k, k < a → jLad I k) ∧ (∀ l, l < b → jLoad I l) ∧ f_X4_thief I = thS (I 5) a (-1) := by
  obtain ⟨K, A, t, hR, hK, h3, h4, h5, hf, hw0, hw1, hcc, ht, hzh, hzX, hs⟩ := h
  have hi := hR.2.2.2
  have h1 := hi.k1
  obtain ⟨hc, hr, hq, -⟩ := id hR
  obtain ⟨g1, g2, ⟨gj, gf, gm, gms⟩, g4, ⟨g5, g6⟩⟩ := id hzh
  have cc := hs.c (by omega) (by omega) (by omega)
  have hN : (I 3 20 0 19).toNatClampNeg = A 0 0 2 := by rw [hr.k3, nI_clamp (by omega)]
  have c5 : cnt (I 5) 5 = A 0 0 2 := by rw [cc.2.2.2.1, hN]
  refine ⟨A 0 0 0, A 0 0 1, ⟨by omega, by omega, hc.k1, hc.k2, cc.1, cc.2.1, cc.2.2.1⟩, fun k hk => ?_, fun l hl => ?_, ?_⟩
  · have v := hs.k3 k hk
    have v3 := hs.k4 k hk
    have h2 := hi.k2 k (by omega)
    have s25 := hr.k4 k (by omega)
    have e3 := (zL_3 hc hi hk).1
    have d1 : I 5 2 k 2 = nI (A 1 k 0) := by rw [v.2.2.1, s25]
    have i1 : I 5 2 k 2 = 1 ↔ A 1 k 0 = 1 := by rw [d1]; exact nI_eq (b := 1) (by omega) (by decide)
    have i2 : I 5 2 k 2 = 2 ↔ A 1 k 0 = 2 := by rw [d1]; exact nI_eq (b := 2) (by omega) (by decide)
    have i12 : (I 5 2 k 2 = 1 ∨ I 5 2 k 2 = 2) ↔ (A 1 k 0 = 1 ∨ A 1 k 0 = 2) := by rw [i1, i2]
    have busy : (A 1 k 0 = 1 ∨ A 1 k 0 = 2) → I 5 2 k 3 = nI (A 1 k 1) ∧ A 1 k 1 < A 0 0 2 := fun q => by
      refine ⟨?_, hi.k9 k (by omega) q⟩
      rw [v3 (by rw [← v.2.2.1]; exact i12.mpr q), hr.k5 k (by omega) q]
    have rl : rln (I 5) 3 k = A 1 k 2 := by
      show (I 5 6 k 0).toNatClampNeg = _
      rw [v.2.2.2.2.2.2.2, hr.k6 k (by omega), nI_clamp (by omega)]
    have t4 : f_X1_tell I 0 k 4 = I 0 1 k 5 := by
      unfold f_X1_tell
      rw [if_neg (by decide), if_neg (by decide), if_neg (by decide), if_neg (by decide), if_pos rfl]
    have t8 : f_X1_tell I 0 k 8 = f_X1_loadAtWork I 0 k := by
      unfold f_X1_tell
      rw [if_neg (by decide), if_neg (by decide), if_neg (by decide), if_neg (by decide), if_neg (by decide), if_neg (by decide), if_neg (by decide), if_neg (by decide)]
    refine ⟨⟨?_, ?_, ?_, ?_, ?_, ?_, ?_⟩, ?_, ?_, ?_, ?_, ?_, ⟨by omega, fun p hp => ?_⟩, ?_⟩
    · unfold f_X1_tell
      rw [if_pos rfl, v.1, hr.k8 k hk, hc.k12 k hk]
    · unfold f_X1_tell
      rw [if_neg (by decide), if_pos rfl, v.2.1, hr.k9 k (by omega), hc.k11 k (by omega)]
    · rw [rl, (zL_2 hc hi hk).1]
    · rw [d1, e3]
    · unfold f_X1_tell
      rw [if_neg (by decide), if_neg (by decide), if_neg (by decide), if_neg (by decide), if_neg (by decide), if_pos rfl, v.2.2.2.2.1, hr.k10 k (by omega), hc.k13 k (by omega)]
    · unfold f_X1_tell
      rw [if_neg (by decide), if_neg (by decide), if_neg (by decide), if_neg (by decide), if_neg (by decide), if_neg (by decide), if_pos rfl, v.2.2.2.2.2.1, hq.k6 k (by omega)]
    · unfold f_X1_tell
      rw [if_neg (by decide), if_neg (by decide), if_neg (by decide), if_neg (by decide), if_neg (by decide), if_neg (by decide), if_neg (by decide), if_pos rfl, v.2.2.2.2.2.2.1, hq.k5 k (by omega)]
    · intro q
      obtain ⟨b1, b2⟩ := busy (Or.inl (i1.mp q))
      rw [b1, nI_clamp (by omega), (hs.k7 _ (by rw [hN]; exact b2)).2.1, hr.k16 _ b2, t4, hc.k8 k (by omega), if_pos (i1.mp q)]
    · intro q
      obtain ⟨b1, b2⟩ := busy (i12.mp q)
      rw [b1, c5]
      exact vp_in_nI b2 (by omega)
    · intro q
      rw [t4, hc.k8 k (by omega), if_neg (fun z => q (i1.mpr z))]
    · intro q
      obtain ⟨b1, b2⟩ := busy (i12.mp q)
      rw [b1, nI_clamp (by omega), (hs.k7 _ (by rw [hN]; exact b2)).2.2.1, hr.k17 _ b2, t8, zq_load hc hi hk, if_pos (i12.mp q)]
    · intro q
      rw [t8, zq_load hc hi hk, if_neg (fun z => q (i12.mpr z))]
    · rw [rl] at hp
      have hm := hi.k10 k p (by omega) hp
      have pl := zT_place hc hr hi hk hp
      have s32 := hr.k7 k p (by omega) hp
      have v5 := hs.k5 k p hk (by rw [hr.k6 k (by omega), nI_clamp (by omega)]; exact hp)
      have nd := zA_need hc.k1 hk (by omega)
      have p0 : ¬ nI p < 0 := nI_pos (by omega)
      have pm : nI p < nI (A 1 k 2) := nI_lt hp (by omega)
      have ck : (nI k).toNatClampNeg = k := nI_clamp (by omega)
      have sz : I 0 2 (I 0 1 k 3).toNatClampNeg 1 = nI (A 1 k 2) := by rw [hc.cart hi (by omega), hc.k5 k (by omega)]
      refine ⟨?_, ?_, ?_⟩
      · unfold f_X4_cart_x
        rw [if_pos nd, if_neg p0, ck, sz, if_pos pm]
      · unfold f_X4_cart
        rw [if_pos nd, if_neg p0, ck, sz, if_pos pm, pl.1, v5, s32, nI_clamp (by omega), (hs.k7 _ (by rw [hN]; exact hm)).1]
      · rw [v5, s32, c5]
        exact vp_in_nI hm (by omega)
    · have nd := zA_need hc.k1 hk (by omega)
      refine ⟨by unfold f_X4_victim_x; rw [if_pos nd], ?_, (zs_best hr hi hs hk (by omega)).1⟩
      unfold f_X4_victim
      rw [if_pos nd, nI_clamp (by omega)]
      exact (zV_vic hc hw0 hr hi hs hk (by omega)).symm
  · have v := hs.k6 l hl
    have h7 := (hi.k7 l (by omega)).1
    obtain ⟨b, p1, p2, p3, p4, p5⟩ := g6 l hl
    have e5 : f_X2_tell I 0 l 5 = I 3 35 0 l := by rw [d5, hq.k8 l hl]
    have s33 := hr.k12 l hl
    refine ⟨?_, fun q => ?_, fun q => ?_, ?_, zs_mdok _ _ _, ?_, ?_, ?_, ?_, zs_ptok _ _ _⟩
    · rw [v.1, hr.k14 l hl, d0, hc.k16 l hl]
    · rw [d1, hc.k14 l (by omega)]
      rw [v.2.2.2.1] at q
      by_cases e : A 3 l 0 = 2
      · rw [e]; rfl
      · rw [p4 e] at q
        exact absurd q (by decide)
    · rw [d1, hc.k14 l (by omega)]
      rw [v.2.2.2.1] at q
      have n2 : A 3 l 0 ≠ 2 := fun e => by
        obtain ⟨d, y1, y2, y3, -⟩ := p5 e
        rw [y1] at q
        exact absurd q (nI_pos (by omega))
      by_cases e : A 3 l 0 = 0
      · rw [v.2.2.2.2.2.1 (by rw [s33, e]; rfl), e]
        rfl
      · rw [v.2.2.2.2.2.2 (by rw [s33]; exact nI_ne0 (by omega) (by omega)), show A 3 l 0 = 1 by omega]
        rfl
    · have g := zq_nat (f := fun h => if A 4 h 0 / 32 = l then 1 else 0) (g := fun j => if I 5 5 j 2 = nI l then (1 : Int32) else 0) (A 0 0 2) 0 0 (fun j _ q => by
        have w := hs.k7 j (by rw [hN]; omega)
        have q320 := hi.g320 (show j < A 0 0 2 by omega)
        rw [w.2.2.1, hr.k17 j (by omega)]
        by_cases c : A 4 j 0 / 32 = l
        · rw [if_pos c, if_pos (by rw [c])]
          rfl
        · have nc : ¬ nI (A 4 j 0 / 32) = nI l := fun z => c ((nI_eq (by omega) (by omega)).mp z)
          rw [if_neg c, if_neg nc]
          rfl) rfl (F := fun m i a => f_S_made_l1 (nI l) m i a I) (fun _ _ => rfl) (fun m i a => by
        simp only [f_S_made_l1]
        split <;> rfl)
      rw [Nat.zero_add] at g
      unfold f_S_made
      rw [c5, d2, hq.k9 l hl, (gm l hl).1]
      exact g
    · rw [v.2.2.2.2.1, ← hq.k10 l (by omega)]
      unfold f_X2_tell
      rw [if_neg (by decide), if_neg (by decide), if_neg (by decide), if_pos rfl]
    · rw [v.2.2.1, d4, hq.k7 l hl]
    · rw [v.2.2.2.1, e5]
    · have g := zq_nat (f := fun h => if A 4 h 0 / 32 = l then A 4 h 3 - A 4 h 4 else 0) (g := fun j => if I 5 5 j 2 = nI l then I 5 5 j 0 - I 5 5 j 1 else 0) (A 0 0 2) 0 0 (fun j _ q => by
        have w := hs.k7 j (by rw [hN]; omega)
        have q320 := hi.g320 (show j < A 0 0 2 by omega)
        have h12 := hi.k12 j (by omega)
        rw [w.2.2.1, hr.k17 j (by omega), w.1, w.2.1, hr.k15 j (by omega), hr.k16 j (by omega)]
        by_cases c : A 4 j 0 / 32 = l
        · rw [if_pos c, if_pos (by rw [c]), pk_sub (by omega)]
        · have nc : ¬ nI (A 4 j 0 / 32) = nI l := fun z => c ((nI_eq (by omega) (by omega)).mp z)
          rw [if_neg c, if_neg nc]
          rfl) rfl (F := fun m i a => f_S_pitched_l1 (nI l) m i a I) (fun _ _ => rfl) (fun m i a => by
        simp only [f_S_pitched_l1]
        rw [if_neg (nI_pos (by omega))]
        split <;> rfl)
      rw [Nat.zero_add] at g
      unfold f_S_pitched
      rw [c5, d6, hc.k15 l (by omega), ← g2.2.1 l hl]
      exact g
  · have ga : ∀ o, o < A 0 0 0 → A 1 o 6 < 2 ^ 30 := fun o ho => by
      have := (hi.k2 o (by omega)).2.2.2.2
      omega
    have x1 := thC (I := I) (g := fun o => A 1 o 6) (N := A 0 0 0) (fun o ho => ⟨hc.k13 o (by omega), ga o ho⟩) (A 0 0 0) 0 (-1) (-1) (by omega) (Or.inl ⟨rfl, rfl, rfl⟩)
    have x2 := thS_P (V := I 5) (g := fun o => A 1 o 6) (N := A 0 0 0) (by omega) (fun o ho => ⟨by rw [(hs.k3 o ho).2.2.2.2.1, hr.k10 o (by omega)], ga o ho⟩) (A 0 0 0) (-1) (Nat.le_refl _) (Or.inl ⟨rfl, rfl⟩)
    unfold f_X4_thief
    rw [hc.k1, nI_clamp (by omega)]
    exact thP_one x1 x2
