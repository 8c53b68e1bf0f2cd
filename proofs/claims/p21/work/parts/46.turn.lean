/-! A TURN, on both sides -/
theorem zT_yard {I J : gI} {A : zN} {y z K k : Nat} (hc : zCL A (I y)) (hr : zRF A (J 2) (J z)) (hi : zIV K A) : ∀ m i, i + m = A 0 0 1 →
    ok_f_X6_inYard_l1 z m i J ∧ ((f_X6_inYard_l1 z m i J = -1 ∧ f_X3_takeFromYard_l1_v y k m i I = 0 ∧ f_X3_takeFromYard_l1_s y k m i I = I) ∨ ∃ j, j < A 0 0 1 ∧ A 3 j 0 = 0 ∧ f_X6_inYard_l1 z m i J = nI j ∧ f_X3_takeFromYard_l1_v y k m i I = 1 ∧ f_X3_takeFromYard_l1_s y k m i I y = u3 (u3 (u3 (I y) 4 j 1 1) 1 k 4 (nI (32 * j + 1))) 1 k 5 (nI (A 4 (A 3 j 1) 3))) := by
  have h1 := hi.k1
  intro m
  induction m with
  | zero => intro i _; exact ⟨trivial, Or.inl ⟨rfl, rfl, rfl⟩⟩
  | succ m ih =>
    intro i e
    have h7 := hi.k7 i (by omega)
    have e1 := hc.k14 i (by omega)
    have e33 := hr.k12 i (by omega)
    obtain ⟨a1, a2⟩ := ih (i + 1) (by omega)
    simp only [f_X6_inYard_l1, ok_f_X6_inYard_l1, f_X3_takeFromYard_l1_v, f_X3_takeFromYard_l1_s, e1, e33]
    by_cases z0 : A 3 i 0 = 0
    · rw [z0, show nI 0 = 0 from rfl]
      refine ⟨⟨fun _ => trivial, fun q => absurd rfl q⟩, Or.inr ⟨i, by omega, z0, ?_, ?_, ?_⟩⟩
      · rw [if_pos rfl]
      · rw [if_pos rfl]
      · have e0 := hc.k16 i (by omega)
        rw [if_pos rfl]
        simp (disch := decide) only [f_X1_take, gU_at, u3_skipj, e0]
        rw [show nI i * 32 + 1 = nI (32 * i + 1) by rw [show nI i * 32 = nI (i * 32) from pk_mul i 32, zc_add1, Nat.mul_comm]]
    · have n0 : ¬ nI (A 3 i 0) = 0 := nI_ne0 (by omega) (by omega)
      refine ⟨⟨fun q => absurd q n0, fun _ => a1⟩, ?_⟩
      rw [if_neg n0, if_neg n0, if_neg n0]
      exact a2
/-- who steals -/
theorem zT_steal {ko K k v y z : Nat} {A : zN} {I J : gI} (h : zR ko K A (I y) (J 2) (J z)) (hK : K + 1 ≤ 1000000) (hk : k < A 0 0 0) (h0 : A 1 k 0 = 0) (hv : v < A 0 0 0) (hvk : v ≠ k) (hm : 0 < A 1 v 2) (hvic : f_X3_victimOf I y k = nI v) :
    ok_X5_steal J z (nI k) (nI v) ∧ f_X3_steal_v I y k = 1 ∧ zR ko (K + 1) (zST A k v) (f_X3_steal_s I y k y) (J 2) (f_X5_steal J z (nI k) (nI v) z) ∧ eS (f_X5_steal J z (nI k) (nI v) z) (u3 (u3 (u3 (J z) 29 0 v (J z 29 0 v + 1)) 37 0 (A 4 (A 2 v (A 1 v 2 - 1)) 0 / 32) (J z 37 0 (A 4 (A 2 v (A 1 v 2 - 1)) 0 / 32) + 1)) 20 0 1 (J z 20 0 1 + 1)) := by
  have F := zR_ST h hk hv hvk h0 hm hK
  have hi := h.2.2.2
  have hc := h.1
  have hr := h.2.1
  have h1 := hi.k1
  have h2 := hi.k2 v (by omega)
  have hq := hi.k10 v (A 1 v 2 - 1) (by omega) (by omega)
  have q3 := hi.q600 hq
  have hg := hi.g320 hq
  have h12 := hi.k12 _ hq
  have hNc := hc.k1
  have ev := hc.cart hi (show v < 6 by omega)
  have es := hc.k5 v (by omega)
  have ef := zc_far hc hi hv hm
  obtain ⟨r1, r2⟩ := zr_far hr hi hv hm
  have s31 := hr.k6 v (by omega)
  have s28 := hr.k10 k (by omega)
  have s42 := hr.k17 _ hq
  have s20 := hr.k21
  have c10 := hc.k13 k (by omega)
  have e17 := hc.k17 _ hq
  have cv : (nI v).toNatClampNeg = v := nI_clamp (by omega)
  have ck : (nI k).toNatClampNeg = k := nI_clamp (by omega)
  have hlo : ∀ I' : gI, f_X3_loadOf I' y (nI (A 4 (A 2 v (A 1 v 2 - 1)) 0)) = A 4 (A 2 v (A 1 v 2 - 1)) 0 / 32 := fun I' => zc_loadOf I' y hg
  have hbo : ∀ I' : gI, f_X3_balesOf I' y (nI (A 4 (A 2 v (A 1 v 2 - 1)) 0)) = I' y 5 0 (A 4 (A 2 v (A 1 v 2 - 1)) 0) := fun I' => zc_balesOf I' y hg
  have cq : (nI (A 2 v (A 1 v 2 - 1))).toNatClampNeg = A 2 v (A 1 v 2 - 1) := nI_clamp (by omega)
  have cm : (nI (A 1 v 2 - 1)).toNatClampNeg = A 1 v 2 - 1 := nI_clamp (by omega)
  have cl : (nI (A 4 (A 2 v (A 1 v 2 - 1)) 0 / 32)).toNatClampNeg = A 4 (A 2 v (A 1 v 2 - 1)) 0 / 32 := nI_clamp (by omega)
  have hs : f_X0_takeFar_s I y (A 1 v 3) = gR (gU I y 2 (A 1 v 3) 1 (nI (A 1 v 2 - 1))) y 3 (A 1 v 3) (va_cpy (I y 3 (A 1 v 3)) (I y 3 (A 1 v 3)) 1 0 (A 1 v 2 - 1)) := by
    simp (disch := decide) only [f_X0_takeFar_s, es]
    rw [if_neg (nI_nle hm (by omega)), zc_sub1 hm]
    simp (disch := decide) only [gU_at, u3_skip, u3_at, cm]
  have hvv : f_X0_takeFar_v I y (A 1 v 3) = nI (A 4 (A 2 v (A 1 v 2 - 1)) 0) := by
    simp only [f_X0_takeFar_v, es]
    rw [if_neg (nI_nle hm (by omega)), ef]
  generalize eg : A 4 (A 2 v (A 1 v 2 - 1)) 0 = g at *
  generalize eb : A 4 (A 2 v (A 1 v 2 - 1)) 3 = b at *
  generalize eq : A 2 v (A 1 v 2 - 1) = q at *
  refine ⟨?_, ?_, ?_⟩
  · unfold ok_X5_steal
    rw [r1]
    refine ⟨r2, vp_in_nI (by omega) (by decide), ?_⟩
    rintro _ rfl
    refine ⟨⟨vp_in_nI (by omega) (by decide), fun _ _ _ _ => trivial⟩, ?_⟩
    rintro _ rfl
    refine ⟨vp_in_nI (by omega) (by decide), ?_⟩
    rintro _ rfl
    rintro _ rfl
    refine ⟨vp_in_nI (by omega) (by decide), ?_, fun _ _ _ _ => trivial⟩
    simp (disch := decide) only [f_X5_hold, gU_at, u3_skip, ck, cv, cq, s42]
    exact vp_in_nI (by omega) (by decide)
  · simp only [f_X3_steal_v, hvic]
    rw [if_neg (nI_pos (by omega)), if_pos (by rw [hNc]; exact nI_lt hv (by omega))]
  · have ecl : f_X3_steal_s I y k y = u3 (u3 (u3 (u3 (u3 (urow (u3 (I y) 2 (A 1 v 3) 1 (nI (A 1 v 2 - 1))) 3 (A 1 v 3) (va_cpy (I y 3 (A 1 v 3)) (I y 3 (A 1 v 3)) 1 0 (A 1 v 2 - 1))) 1 k 4 (nI g)) 1 k 5 (nI b)) 1 k 10 (nI (A 1 k 6 + 1))) 1 v 11 (I y 1 v 11 + 1)) 4 (g / 32) 5 (I y 4 (g / 32) 5 + 1) := by
      simp only [f_X3_steal_s, hvic]
      rw [if_neg (nI_pos (by omega)), if_pos (by rw [hNc]; exact nI_lt hv (by omega))]
      simp (disch := decide) only [cv, ev, hs, hvv, hlo, hbo, f_X1_take, gU_at, gR_at, u3_skip, u3_skipj, urow_skip, e17, c10, zc_add1]
    have emo : f_X5_steal J z (nI k) (nI v) z = u3 (u3 (u3 (u3 (u3 (u3 (u3 (J z) 31 0 v (nI (A 1 v 2 - 1))) 25 0 k 1) 26 0 k (nI q)) 28 0 k (nI (A 1 k 6 + 1))) 29 0 v (J z 29 0 v + 1)) 37 0 (g / 32) (J z 37 0 (g / 32) + 1)) 20 0 1 (nI (zsm (fun i => A 1 i 6) (A 0 0 0) + 1)) := by
      simp (disch := decide) only [f_X5_steal, r1, f_X5_hold, gU_at, u3_skip, u3_skipj, ck, cv, cq, cl, s31, zc_sub1 hm, s28, s42, s20, zc_add1]
    rw [ecl, emo]
    refine ⟨F, ?_⟩
    rw [s20, zc_add1]
    exact eS.both (eS.both (eS.both (((((eS.rfl' _).put (by decide)).put (by decide)).put (by decide)).put (by decide))))
/-- the model's work on the heap in a lad's hands -/
def f_W (J : gI) (z : Nat) (x q b : Int32) : gI :=
  if (J z 41 0 q.toNatClampNeg) = (J z 40 0 q.toNatClampNeg) then
    if (J z 40 0 q.toNatClampNeg) ≤ b then f_X5_pitch J z x q (J 2 12 0 x.toNatClampNeg)
    else if 8 ≤ (J z 31 0 x.toNatClampNeg) then f_X5_pitch J z x q (J 2 12 0 x.toNatClampNeg)
    else f_X5_forkIt J z x q
  else f_X5_pitch J z x q (J 2 12 0 x.toNatClampNeg)
def ok_W (J : gI) (z : Nat) (x q b : Int32) : Prop :=
  (((J z 41 0 q.toNatClampNeg) = (J z 40 0 q.toNatClampNeg)) →
    (((J z 40 0 q.toNatClampNeg) ≤ b) → ok_X5_pitch J z x q (J 2 12 0 x.toNatClampNeg)) ∧
    (¬ ((J z 40 0 q.toNatClampNeg) ≤ b) →
      ((8 ≤ (J z 31 0 x.toNatClampNeg)) → ok_X5_pitch J z x q (J 2 12 0 x.toNatClampNeg)) ∧
      (¬ (8 ≤ (J z 31 0 x.toNatClampNeg)) → ok_X5_forkIt J z x q))) ∧
  (¬ ((J z 41 0 q.toNatClampNeg) = (J z 40 0 q.toNatClampNeg)) → ok_X5_pitch J z x q (J 2 12 0 x.toNatClampNeg))
theorem zIV.le {K K' : Nat} {A : zN} (h : zIV K A) (hK : K ≤ K') (hm : K' ≤ 1000000) : zIV K' A := by
  obtain ⟨v1, v2, v3, v4, v5, v6, v7, v8⟩ := h
  refine ⟨⟨v1.1, v1.2.1, v1.2.2.1, v1.2.2.2.1, v1.2.2.2.2.1, v1.2.2.2.2.2.1, v1.2.2.2.2.2.2.1, hm⟩, fun i hi => ?_, v3, v4, v5, v6, fun j hj => ?_, v8⟩
  · have := v2 i hi
    exact ⟨this.1, this.2.1, this.2.2.1, this.2.2.2.1, by omega⟩
  · have := v7 j hj
    exact ⟨this.1, by omega⟩
theorem zR.le {ko K K' : Nat} {A : zN} {Y M S : gY} (h : zR ko K A Y M S) (hK : K ≤ K') (hm : K' ≤ 1000000) : zR ko K' A Y M S := ⟨h.1, h.2.1, h.2.2.1, h.2.2.2.le hK hm⟩
theorem zT_work {ko K k y z : Nat} {A : zN} {I J : gI} (h : zR ko K A (I y) (J 2) (J z)) (hz : z ≠ 2) (hK : K + 1 ≤ 1000000) (hk : k < A 0 0 0) (h0 : A 1 k 0 = 1) :
    ok_W J z (nI k) (nI (A 1 k 1)) (nI (A 0 0 6)) ∧ ∃ A', zH A' A ∧ zR ko (K + 1) A' (f_X3_workOnHeap I y k y) (J 2) (f_W J z (nI k) (nI (A 1 k 1)) (nI (A 0 0 6)) z) ∧ ∀ T t, zg T k t A (J 2) (J z) → zg T (k + 1) t A' (J 2) (f_W J z (nI k) (nI (A 1 k 1)) (nI (A 0 0 6)) z) := by
  have hi := h.2.2.2
  have hc := h.1
  have hr := h.2.1
  have h1 := hi.k1
  have hk6 : k < 6 := by omega
  have hw : k < A 0 0 3 := by omega
  have h2 := hi.k2 k hk6
  have hq := hi.k9 k hk6 (Or.inl h0)
  have q3 := hi.q600 hq
  have hg := hi.g320 hq
  have h12 := hi.k12 _ hq
  have hb60 := zB_le (A 4 (A 1 k 1) 0 % 32)
  have e5 := hc.k8 k hw
  rw [if_pos h0] at e5
  have e4 := hc.k7 k hw
  rw [if_pos h0] at e4
  have e7 := hc.k3
  have e17 := hc.k17 _ hq
  have s40 := hr.k15 _ hq
  have s41 := hr.k16 _ hq
  have s31 := hr.k6 k hw
  have m12 := hr.k8 k hk
  have ck : (nI k).toNatClampNeg = k := nI_clamp (by omega)
  have cq : (nI (A 1 k 1)).toNatClampNeg = A 1 k 1 := nI_clamp (by omega)
  obtain ⟨p1, pA, p2, p3⟩ := zT_pitch h hz hK hk h0
  unfold ok_W f_W
  rw [cq, ck, s40, s41, s31, m12]
  simp only [f_X3_workOnHeap, e4, e5, e7, zc_balesOf _ _ hg, e17, hc.cart hi hk6, f_X0_hasRoom, hc.k5 k hw]
  by_cases c1 : A 4 (A 1 k 1) 4 = A 4 (A 1 k 1) 3
  · rw [c1]
    simp only [if_true]
    by_cases c2 : A 4 (A 1 k 1) 3 ≤ A 0 0 6
    · have i2 : nI (A 4 (A 1 k 1) 3) ≤ nI (A 0 0 6) := nI_le c2 (by omega)
      rw [if_pos i2, if_pos i2]
      exact ⟨⟨fun _ => ⟨fun _ => p1, fun q => absurd i2 q⟩, fun q => (q trivial).elim⟩, pA, p2, p3⟩
    · have i2 : ¬ nI (A 4 (A 1 k 1) 3) ≤ nI (A 0 0 6) := nI_ge (by omega) (by omega)
      rw [if_neg i2, if_neg i2]
      by_cases c3 : 8 ≤ A 1 k 2
      · have i3 : (8 : Int32) ≤ nI (A 1 k 2) := nI_le (a := 8) c3 (by omega)
        rw [if_pos i3, if_pos i3, if_pos rfl]
        exact ⟨⟨fun _ => ⟨fun q => absurd q i2, fun _ => ⟨fun _ => p1, fun q => absurd i3 q⟩⟩, fun q => (q trivial).elim⟩, pA, p2, p3⟩
      · have i3 : ¬ (8 : Int32) ≤ nI (A 1 k 2) := nI_ge (b := 8) (by omega) (by decide)
        rw [if_neg i3, if_neg i3, if_neg (by decide)]
        obtain ⟨f1, A', f2, f3⟩ := zT_fork h hz hk h0 c1 (by omega) (by omega)
        exact ⟨⟨fun _ => ⟨fun q => absurd q i2, fun _ => ⟨fun q => absurd q i3, fun _ => f1⟩⟩, fun q => (q trivial).elim⟩, A', f2, f3.1.le (by omega) hK, f3.2⟩
  · have i1 : ¬ nI (A 4 (A 1 k 1) 4) = nI (A 4 (A 1 k 1) 3) := fun q => c1 ((nI_eq (by omega) (by omega)).mp q)
    rw [if_neg i1, if_neg i1]
    exact ⟨⟨fun q => absurd q i1, fun _ => p1⟩, pA, p2, p3⟩
