/-! WHAT A MINUTE LEAVES: the numbers of lads and loads that aren't there yet -/
def frT (t : Nat) : Prop := t = 27 ∨ t = 29 ∨ t = 30 ∨ t = 37
theorem fr_fin {t : Nat} (ht : frT t) (I : gI) (y : Nat) (x a : Int32) : f_X5_finish I y x a y t = I y t := by
  rcases ht with rfl | rfl | rfl | rfl
  all_goals
    simp only [f_X5_finish]
    (repeat' split) <;> simp (disch := decide) only [gU_at, u3_skip]
theorem fr_pitch {t : Nat} (ht : frT t) (I : gI) (y : Nat) (x a b : Int32) : f_X5_pitch I y x a b y t = I y t := by
  have h3 : ∀ J : gI, ∀ i j u v w, gU (gU (gU J y 41 0 i u) y 38 0 j v) y 20 0 4 w y t = J y t := fun J i j u v w => by
    rcases ht with rfl | rfl | rfl | rfl <;> simp (disch := decide) only [gU_at, u3_skip]
  simp only [f_X5_pitch]
  (repeat' split) <;> first | rw [fr_fin ht, h3] | rw [h3]
theorem fr_add {t : Nat} (ht : frT t) (I : gI) (y : Nat) (x a b : Int32) : f_X5_add_s I y x a b y t = I y t := by
  rcases ht with rfl | rfl | rfl | rfl <;> simp (disch := decide) only [f_X5_add_s, gU_at, u3_skip]
theorem fr_put {t : Nat} (ht : frT t) (I : gI) (y : Nat) (x a : Int32) : f_X5_putNear I y x a y t = I y t := by
  rcases ht with rfl | rfl | rfl | rfl <;> simp (disch := decide) only [f_X5_putNear, gU_at, gR_at, u3_skip, urow_skip]
theorem fr_fork1 {t : Nat} (ht : frT t) (y : Nat) (x a : Int32) : ∀ m i I, f_X5_forkIt_l1 y x a m i I y t = I y t := by
  intro m
  induction m with
  | zero => intro i I; rfl
  | succ m ih =>
    intro i I
    simp only [f_X5_forkIt_l1]
    split
    · rcases ht with rfl | rfl | rfl | rfl <;> simp (disch := decide) only [gU_at, u3_skip]
    · exact ih _ _
theorem fr_u {t t' : Nat} (I : gI) (y i j : Nat) (x : Int32) (h : t ≠ t') : gU I y t' i j x y t = I y t := by rw [gU_at, u3_skip _ _ _ _ h]
theorem fr_fork {t : Nat} (ht : frT t) (I : gI) (y : Nat) (x a : Int32) : f_X5_forkIt I y x a y t = I y t := by
  have n : t ≠ 44 ∧ t ≠ 26 ∧ t ≠ 36 ∧ t ≠ 20 := by rcases ht with rfl | rfl | rfl | rfl <;> decide
  simp only [f_X5_forkIt]
  rw [fr_fork1 ht, fr_u _ _ _ _ _ n.2.2.2, fr_u _ _ _ _ _ n.2.2.1, fr_u _ _ _ _ _ n.2.1, fr_put ht, fr_u _ _ _ _ _ n.1, fr_u _ _ _ _ _ n.1, fr_add ht, fr_add ht]
theorem fr_W {t : Nat} (ht : frT t) (J : gI) (z : Nat) (x q b : Int32) : f_W J z x q b z t = J z t := by
  unfold f_W
  (repeat' split) <;> first | exact fr_pitch ht _ _ _ _ _ | exact fr_fork ht _ _ _ _
theorem fr_TN {t : Nat} (ht : frT t) (J : gI) (z : Nat) (x : Int32) : f_X5_hold (f_X5_takeNear_s J z x) z x (f_X5_takeNear_v J z x) z t = J z t := by
  rcases ht with rfl | rfl | rfl | rfl <;> simp (disch := decide) only [f_X5_hold, f_X5_takeNear_s, gU_at, gR_at, u3_skip, urow_skip]
def zFr (n lo : Nat) (S S' : gY) : Prop := (∀ i, n ≤ i → S' 27 0 i = S 27 0 i ∧ S' 29 0 i = S 29 0 i ∧ S' 30 0 i = S 30 0 i) ∧ ∀ j, lo ≤ j → S' 37 0 j = S 37 0 j
theorem zFr.rfl' (n lo : Nat) (S : gY) : zFr n lo S S := ⟨fun _ _ => ⟨rfl, rfl, rfl⟩, fun _ _ => rfl⟩
theorem zFr.tr {n lo : Nat} {A B C : gY} (h : zFr n lo A B) (g : zFr n lo B C) : zFr n lo A C := ⟨fun i hi => ⟨(g.1 i hi).1.trans (h.1 i hi).1, (g.1 i hi).2.1.trans (h.1 i hi).2.1, (g.1 i hi).2.2.trans (h.1 i hi).2.2⟩, fun j hj => (g.2 j hj).trans (h.2 j hj)⟩
theorem zFr.of {n lo : Nat} {S S' : gY} (h : ∀ t, frT t → S' t = S t) : zFr n lo S S' := ⟨fun i _ => ⟨by rw [h 27 (Or.inl rfl)], by rw [h 29 (Or.inr (Or.inl rfl))], by rw [h 30 (Or.inr (Or.inr (Or.inl rfl)))]⟩, fun j _ => by rw [h 37 (Or.inr (Or.inr (Or.inr rfl)))]⟩
theorem zFr.row {n lo k : Nat} {x : Int32} (S : gY) (hk : k < n) : zFr n lo S (u3 S 27 0 k x) := by
  refine ⟨fun i hi => ⟨by rw [u3_skipj _ _ (by omega)], ?_, ?_⟩, fun j hj => ?_⟩
  all_goals simp (disch := decide) only [u3_skip]
theorem zf_B {K k z : Nat} {A : zN} {J : gI} {b : Int32} (hr : zRF A (J 2) (J z)) (hi : zIV K A) (hz : z = 3 ∨ z = 4) (hk : k < A 0 0 0) (hvic : zbest A k (f_X6_victimOf J z (nI k))) : zFr (A 0 0 0) (A 0 0 1) (J z) (f_B J z (nI k) b z) := by
  have hz2 : z ≠ 2 := by omega
  have h1 := hi.k1
  have ck : (nI k).toNatClampNeg = k := nI_clamp (by omega)
  have J2 : gU J z 27 0 k 0 2 = J 2 := gU_ne _ _ _ _ _ (Ne.symm hz2)
  have R : zFr (A 0 0 0) (A 0 0 1) (J z) (gU J z 27 0 k 0 z) := by rw [gU_at]; exact zFr.row _ hk
  unfold f_B
  rw [ck]
  split
  · exact R.tr (zFr.of fun t ht => fr_W ht _ _ _ _ _)
  · split
    · split
      · refine ⟨fun i hii => ?_, fun j _ => ?_⟩
        · have ni : i ≠ k := by omega
          simp only [f_X5_rest, ck]
          split
          · simp (disch := omega) only [gU_at, u3_skip, u3_skipj, and_self]
          · simp (disch := omega) only [gU_at, u3_skip, u3_skipj, and_self]
        · simp only [f_X5_rest, ck]
          split <;> simp (disch := decide) only [gU_at, u3_skip]
      · rename_i hv
        rcases hvic with ⟨e, -⟩ | ⟨v, hv1, e, -⟩
        · exact absurd e hv
        · refine R.tr ?_
          have v6 : v < 6 := by have := hv1.1; omega
          have hm := hv1.2.2
          have h2 := hi.k2 v v6
          have hq := hi.k10 v (A 1 v 2 - 1) v6 (by omega)
          have q3 := hi.q600 hq
          have h12 := (hi.k12 _ hq).1
          have hr' : zRF A (gU J z 27 0 k 0 2) (gU J z 27 0 k 0 z) := by rw [gU_at, J2]; exact zRF_RO hr hi hk
          have fr := (zr_far hr' hi hv1.1 hm).1
          rw [e, zr_steal (m := A 1 v 2 - 1) (q := A 2 v (A 1 v 2 - 1)) (g := A 4 (A 2 v (A 1 v 2 - 1)) 0 / 32) (by omega) v6 fr (by omega) (hr'.k17 _ hq) (by omega) (by rw [hr'.k6 v (by have := hv1.1; omega)]; exact zc_sub1 hm)]
          refine ⟨fun i hii => ?_, fun j hj => ?_⟩
          · have := hv1.1
            simp (disch := decide) only [u3_skip]
            rw [u3_skipj _ _ (show i ≠ v by omega)]
            exact ⟨trivial, rfl, trivial⟩
          · simp (disch := decide) only [u3_skip]
            rw [u3_skipj _ _ (by omega)]
            simp (disch := decide) only [u3_skip]
    · refine R.tr (zFr.of fun t ht => ?_)
      rcases ht with rfl | rfl | rfl | rfl <;> simp (disch := decide) only [f_X5_hold, gU_at, u3_skip]
theorem zf_turn {K k z : Nat} {A : zN} {J : gI} {b : Int32} (hr : zRF A (J 2) (J z)) (hi : zIV K A) (hz : z = 3 ∨ z = 4) (hk : k < A 0 0 0) (hvic : zbest A k (f_X6_victimOf J z (nI k))) : zFr (A 0 0 0) (A 0 0 1) (J z) (f_X6_turn J z (nI k) b z) := by
  have hz2 : z ≠ 2 := by omega
  have h1 := hi.k1
  have ck : (nI k).toNatClampNeg = k := nI_clamp (by omega)
  rw [zr_turn, ck]
  split
  · exact zFr.rfl' _ _ _
  · split
    · have R : zFr (A 0 0 0) (A 0 0 1) (J z) (gU (gU J z 20 0 3 (J z 20 0 3 + 1)) z 27 0 k 0 z) := by
        refine zFr.tr (B := gU J z 20 0 3 (J z 20 0 3 + 1) z) (zFr.of fun t ht => ?_) ?_
        · rcases ht with rfl | rfl | rfl | rfl <;> simp (disch := decide) only [gU_at, u3_skip]
        · rw [gU_at (gU J z 20 0 3 (J z 20 0 3 + 1))]
          exact zFr.row _ hk
      exact R.tr (zFr.of fun t ht => fr_fin ht _ _ _ _)
    · split
      · split
        · exact zf_B hr hi hz hk hvic
        · rename_i n2 d0 y31
          have s25 := hr.k4 k (by omega)
          have d0' : A 1 k 0 = 0 := by
            rw [s25] at d0
            exact (nI_eq (b := 0) (by have := (hi.k2 k (by omega)).1; omega) (by decide)).mp d0
          have hm0 : 0 < A 1 k 2 := Nat.pos_of_ne_zero fun c => y31 (by rw [hr.k6 k (by omega), c]; decide)
          obtain ⟨J', hJ'⟩ : ∃ J', J' = f_X5_hold (f_X5_takeNear_s J z (nI k)) z (nI k) (f_X5_takeNear_v J z (nI k)) := ⟨_, rfl⟩
          have T1 := zr_TN hr hi hk hm0
          rw [← hJ'] at T1 ⊢
          have F : zFr (A 0 0 0) (A 0 0 1) (J z) (J' z) := zFr.of fun t ht => by rw [hJ']; exact fr_TN ht _ _ _
          refine F.tr ?_
          unfold f_B
          rw [ck, if_pos (by rw [T1]; simp (disch := decide) only [u3_skip, u3_at])]
          refine zFr.tr (B := gU J' z 27 0 k 0 z) (by rw [gU_at]; exact zFr.row _ hk) (zFr.of fun t ht => fr_W ht _ _ _ _ _)
      · exact zf_B hr hi hz hk hvic
theorem zf_lads : ∀ (m j K : Nat) (A : zN) (I J : gI), zR 6 K A (I 0) (J 2) (J 3) → wf (I 0) → j + m = A 0 0 0 → K + m ≤ 1000000 →
    zFr (A 0 0 0) (A 0 0 1) (J 3) (f_X6_pass_l1 3 (nI (A 0 0 6)) m j J 3) := by
  intro m
  induction m with
  | zero =>
    intro j K A I J h hwf hj hK
    refine zFr.of fun t ht => ?_
    rcases ht with rfl | rfl | rfl | rfl <;> simp (disch := decide) only [f_X6_pass_l1, gU_at, u3_skip]
  | succ m ih =>
    intro j K A I J h hwf hj hK
    have hi := h.2.2.2
    have h1 := hi.k1
    have hk : j < A 0 0 0 := by omega
    obtain ⟨t1, A1, t2, t3, t4⟩ := zT_turn h hwf (show 0 < 2 by decide) (Or.inl rfl) (by omega) hk
    have hwf1 : wf ((if I 0 1 j 7 = 0 then f_X3_takeTurn I 0 j else I) 0) := by
      split
      · exact wf_X3_takeTurn I 0 j (by decide) hwf (by omega)
      · exact hwf
    obtain ⟨v1, v2, v3⟩ := zT_vic h.1 h.2.1 hi hwf hk
    have f := zf_turn (b := nI (A 0 0 6)) h.2.1 hi (Or.inl rfl) hk (by rw [v2]; exact zc_best h.1 hi hwf hk)
    have J2 : f_X6_turn J 3 (nI j) (nI (A 0 0 6)) 2 = J 2 := ne_X6_turn _ _ _ _ (Or.inl rfl) (by decide)
    rw [← J2] at t3
    have e0 := t2 0 (by decide)
    have e1 := t2 1 (by decide)
    have e6 := t2 6 (by decide)
    have g := ih (j + 1) (K + 1) A1 _ _ t3 hwf1 (by omega) (by omega)
    rw [e0, e1, e6] at g
    exact f.tr g
/-- what lads and loads that aren't there yet have -/
def zX (n lo : Nat) (M S : gY) : Prop := (∀ i, n ≤ i → i < 6 → M 13 0 i = 0 ∧ S 27 0 i = 0 ∧ S 29 0 i = 0 ∧ S 30 0 i = 0) ∧ ∀ j, lo ≤ j → j < 10 → S 37 0 j = 0
theorem zX.fr {n lo : Nat} {M S S' : gY} (h : zX n lo M S) (g : zFr n lo S S') : zX n lo M S' := ⟨fun i hi h6 => by rw [(g.1 i hi).1, (g.1 i hi).2.1, (g.1 i hi).2.2]; exact h.1 i hi h6, fun j hj hx => by rw [g.2 j hj]; exact h.2 j hj hx⟩
theorem zf_pass {K : Nat} {A : zN} {I J : gI} (h : zR 6 K A (I 0) (J 2) (J 3)) (hwf : wf (I 0)) (hK : K + 6 ≤ 1000000) : zFr (A 0 0 0) (A 0 0 1) (J 3) (f_X6_pass J 3 (nI (A 0 0 6)) 3) := by
  have h1 := h.2.2.2.k1
  have c2 : (J 2 11 0 1).toNatClampNeg = A 0 0 0 := by rw [h.2.1.k1, nI_clamp (by omega)]
  unfold f_X6_pass
  rw [c2]
  exact zf_lads (A 0 0 0) 0 K A I J h hwf (by omega) (by omega)
