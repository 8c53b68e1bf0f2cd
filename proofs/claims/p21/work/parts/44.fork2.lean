/-! A LAD FORKS: both sides -/
theorem zr_add {J : gI} {z N : Nat} (x a b : Int32) (hN : J z 20 0 19 = nI N) (h : N < 600) :
    f_X5_add_s J z x a b = gU (gU (gU (gU (gU (gU (gU J z 40 0 N x) z 41 0 N x) z 42 0 N a) z 43 0 N b) z 44 0 N (-1)) z 45 0 N 0) z 20 0 19 (nI (N + 1)) ∧ f_X5_add_v J z x a b = nI N ∧ ok_X5_add J z x a b := by
  have hc : (nI N).toNatClampNeg = N := nI_clamp (by omega)
  have hv : vp_in (nI N) 600 := vp_in_nI h (by decide)
  refine ⟨?_, ?_, ?_⟩
  · simp (disch := decide) only [f_X5_add_s, gU_at, u3_skip, hN, hc, zc_add1]
  · simp (disch := decide) only [f_X5_add_v, gU_at, u3_skip, u3_at, hN, hc, zc_add1]
    rw [zc_sub1 (by omega)]
    rfl
  · unfold ok_X5_add
    rw [hN, hc]
    refine ⟨hv, ?_⟩
    rintro _ rfl
    simp (disch := decide) only [gU_at, u3_skip, hN, hc]
    refine ⟨hv, ?_⟩
    rintro _ rfl
    simp (disch := decide) only [gU_at, u3_skip, hN, hc]
    refine ⟨hv, ?_⟩
    rintro _ rfl
    simp (disch := decide) only [gU_at, u3_skip, hN, hc]
    refine ⟨hv, ?_⟩
    rintro _ rfl
    simp (disch := decide) only [gU_at, u3_skip, hN, hc]
    refine ⟨hv, ?_⟩
    rintro _ rfl
    simp (disch := decide) only [gU_at, u3_skip, hN, hc]
    exact ⟨hv, fun _ _ _ _ => trivial⟩
theorem zr_putNear {J : gI} {z k m : Nat} (a : Int32) (hk : k < 6) (hm : J z 31 0 k = nI m) (hm8 : m < 8) :
    f_X5_putNear J z (nI k) a = gU (gU (gR J z 32 0 (va_cpy (J z 32 0) (J z 32 0) (8 * k) (8 * k + 1) m)) z 32 0 (8 * k) a) z 31 0 k (nI (m + 1)) ∧ ok_X5_putNear J z (nI k) a := by
  have hc : (nI m).toNatClampNeg = m := nI_clamp (by omega)
  have hck : (nI k).toNatClampNeg = k := nI_clamp (by omega)
  have hc8 : (nI (8 * k)).toNatClampNeg = 8 * k := nI_clamp (by omega)
  have hc81 : (nI (8 * k + 1)).toNatClampNeg = 8 * k + 1 := nI_clamp (by omega)
  refine ⟨?_, ?_⟩
  · simp (disch := decide) only [f_X5_putNear, zc_8, zc_add1, hck, hc8, hc81, hm, hc, gU_at, gR_at, u3_skip, urow_skip]
  · unfold ok_X5_putNear
    simp only [zc_8, zc_add1, hck, hc8, hc81, hm, hc]
    exact ⟨vp_in_nI hk (by decide), nI_pos (by omega), nI_pos (by omega), nI_pos (by omega), by omega, by omega, fun _ _ => ⟨vp_in_nI (by omega) (by decide), fun _ _ _ _ => trivial⟩⟩
theorem zc_putNear {I : gI} {y c m : Nat} (a : Int32) (hm : I y 2 c 1 = nI m) (hm8 : m < 8) : f_X0_putNear I y c a = gU (gU I y 3 c m a) y 2 c 1 (nI (m + 1)) := by
  have hc : (nI m).toNatClampNeg = m := nI_clamp (by omega)
  have h1 : f_X0_hasRoom I y c = 1 := by
    unfold f_X0_hasRoom
    rw [hm, if_neg (show ¬ (8 : Int32) ≤ nI m from nI_ge (b := 8) hm8 (by decide))]
  simp (disch := decide) only [f_X0_putNear, h1, gU_at, u3_skip, hm, hc, zc_add1]
  rw [if_neg (by decide)]
/-- the first who sleeps wakes -/
theorem zT_wake0 {z : Nat} {x a : Int32} {J : gI} : ∀ m i, (∀ j, i ≤ j → j < i + m → J z 25 0 j ≠ 3) → ok_f_X5_forkIt_l1 z x a m i J ∧ f_X5_forkIt_l1 z x a m i J = J := by
  intro m
  induction m with
  | zero => intro i _; exact ⟨trivial, rfl⟩
  | succ m ih =>
    intro i h
    have h1 := h i (by omega) (by omega)
    obtain ⟨a1, a2⟩ := ih (i + 1) (fun j h1 h2 => h j (by omega) (by omega))
    exact ⟨⟨fun e => absurd e h1, fun _ => a1⟩, by simp only [f_X5_forkIt_l1]; rw [if_neg h1, a2]⟩
theorem zT_wake {ko K y z : Nat} {A : zN} {x a : Int32} {I J : gI} (h : zR ko K A (I y) (J 2) (J z)) (hz : z ≠ 2) : ∀ m m' i, i + m = A 0 0 0 → i + m' = 6 →
    ok_f_X5_forkIt_l1 z x a m' i J ∧ ∃ A', zH A' A ∧ zR ko K A' (f_X3_wakeFirstSleeper_l1 y m i I y) (J 2) (f_X5_forkIt_l1 z x a m' i J z) ∧ ∀ T i' t, zg T i' t A (J 2) (J z) → zg T i' t A' (J 2) (f_X5_forkIt_l1 z x a m' i J z) := by
  have hi := h.2.2.2
  have hc := h.1
  have hr := h.2.1
  have h1 := hi.k1
  intro m
  induction m with
  | zero =>
    intro m' i e e'
    obtain ⟨a1, a2⟩ := zT_wake0 (z := z) (x := x) (a := a) (J := J) m' i (fun j h2 h3 => by
      rw [hr.k4 j (by omega), (hi.k4 j (by omega) (by omega)).1]
      decide)
    rw [a2]
    exact ⟨a1, A, zH.rfl' A, h, fun _ _ _ g => g⟩
  | succ m ih =>
    intro m' i e e'
    obtain ⟨m', rfl⟩ : ∃ q, m' = q + 1 := ⟨m' - 1, by omega⟩
    have hd := (hi.k2 i (by omega)).1
    have e7 := hc.k10 i (by omega)
    have e25 := hr.k4 i (by omega)
    by_cases e3 : A 1 i 0 = 3
    · rw [if_pos e3] at e7
      rw [e3] at e25
      refine ⟨⟨fun _ _ _ => trivial, fun q => absurd e25 q⟩, zu A 1 i 0 0, fun j _ => by simp [zu], ?_⟩
      simp only [f_X3_wakeFirstSleeper_l1, f_X5_forkIt_l1]
      rw [if_pos (show J z 25 0 i = 3 from e25), if_neg (by rw [e7]; decide), gU_at, gU_at]
      exact ⟨zR_WK h (by omega) e3, fun T i' t g => (zg_WK g e3).eS ((eS.rfl' _).put (by decide))⟩
    · rw [if_neg e3] at e7
      have n25 : ¬ J z 25 0 i = 3 := by
        rw [e25]
        exact fun q => e3 ((nI_eq (b := 3) (by omega) (by decide)).mp q)
      obtain ⟨a1, A', a2, a3⟩ := ih m' (i + 1) (by omega) (by omega)
      refine ⟨⟨fun q => absurd q n25, fun _ => a1⟩, A', a2, ?_⟩
      simp only [f_X3_wakeFirstSleeper_l1, f_X5_forkIt_l1]
      rw [if_neg n25, if_pos e7]
      exact a3
theorem zT_fork {ko K k y z : Nat} {A : zN} {I J : gI} (h : zR ko K A (I y) (J 2) (J z)) (hz : z ≠ 2) (hk : k < A 0 0 0) (h0 : A 1 k 0 = 1) (hl : A 4 (A 1 k 1) 4 = A 4 (A 1 k 1) 3) (hb : A 0 0 6 < A 4 (A 1 k 1) 3) (hm : A 1 k 2 < 8) :
    ok_X5_forkIt J z (nI k) (nI (A 1 k 1)) ∧ ∃ A', zH A' A ∧ zR ko K A' (f_X3_forkHeap I y k y) (J 2) (f_X5_forkIt J z (nI k) (nI (A 1 k 1)) z) ∧ ∀ T t, zg T k t A (J 2) (J z) → zg T (k + 1) t A' (J 2) (f_X5_forkIt J z (nI k) (nI (A 1 k 1)) z) := by
  have F := zR_FK h hk h0 hl hb hm
  have G := fun T t S' g x => zg_FK (T := T) (t := t) (M := J 2) (S := J z) (S' := S') h.2.2.2 g hk h0 hl hb x
  have hF1 := F.2.2.2.k1
  have hFN : A 0 0 2 + 2 ≤ 320 := by
    have e : zFK A k 0 0 2 = A 0 0 2 + 2 := by simp [zFK, zu, zrow]
    omega
  have hH : zH (zFK A k) A := fun j hj => by simp [zFK, zu, zrow, hj]
  have hi := h.2.2.2
  have hc := h.1
  have hr := h.2.1
  have h1 := hi.k1
  have hk6 : k < 6 := by omega
  have hw : k < A 0 0 3 := by omega
  have hq := hi.k9 k hk6 (Or.inl h0)
  have q3 := hi.q600 hq
  have hg := hi.g320 hq
  have h12 := hi.k12 _ hq
  have hb60 := zB_le (A 4 (A 1 k 1) 0 % 32)
  have hp := (zB_half h12.2.2.2.1 h12.2.1 (by omega)).1
  have e5 := hc.k8 k hw
  rw [if_pos h0, hl] at e5
  have e4 := hc.k7 k hw
  rw [if_pos h0] at e4
  have ec := hc.cart hi hk6
  have es := hc.k5 k hw
  have s40 := hr.k15 _ hq
  have s42 := hr.k17 _ hq
  have s31 := hr.k6 k hw
  have s19 := hr.k3
  have hlo : ∀ I' : gI, f_X3_loadOf I' y (nI (A 4 (A 1 k 1) 0)) = A 4 (A 1 k 1) 0 / 32 := fun I' => zc_loadOf I' y hg
  generalize eg : A 4 (A 1 k 1) 0 = g at *
  generalize eb : A 4 (A 1 k 1) 3 = b at *
  generalize eh : A 1 k 1 = q at *
  generalize eN : A 0 0 2 = N at *
  generalize em : A 1 k 2 = m at *
  -- the class
  obtain ⟨I6, hI6, hcl⟩ : ∃ I6 : gI, I6 y = u3 (u3 (u3 (u3 (u3 (u3 (u3 (u3 (I y) 5 0 (g + g % 32) (nI (b / 2))) 5 0 (g + g % 32 + 1) (nI (b - b / 2))) 4 (g / 32) 4 (I y 4 (g / 32) 4 + 2)) 0 0 8 (I y 0 0 8 + 1)) 1 k 4 (nI (g + g % 32))) 1 k 5 (nI (b / 2))) 3 (A 1 k 3) m (nI (g + g % 32 + 1))) 2 (A 1 k 3) 1 (nI (m + 1)) ∧ f_X3_forkHeap I y k = f_X3_wakeFirstSleeper I6 y := by
    refine ⟨gU (gU (gU (gU (gU (gU (gU (gU I y 5 0 (g + g % 32) (nI (b / 2))) y 5 0 (g + g % 32 + 1) (nI (b - b / 2))) y 4 (g / 32) 4 (I y 4 (g / 32) 4 + 2)) y 0 0 8 (I y 0 0 8 + 1)) y 1 k 4 (nI (g + g % 32))) y 1 k 5 (nI (b / 2))) y 3 (A 1 k 3) m (nI (g + g % 32 + 1))) y 2 (A 1 k 3) 1 (nI (m + 1)), by simp only [gU_at], ?_⟩
    simp (disch := decide) only [f_X3_forkHeap, e4, e5, zc_rem (show g < 2 ^ 31 by omega), nI_add, zc_half (show b < 2 ^ 31 by omega), zc_add1, pk_sub (show b / 2 ≤ b by omega), zc_setBales _ _ _ (show g + g % 32 < 320 by omega), zc_setBales _ _ _ (show g + g % 32 + 1 < 320 by omega), hlo, gU_at, u3_skip, f_X1_take, u3_skipj, ec]
    rw [zc_putNear _ (m := m) (by simp (disch := decide) only [gU_at, u3_skip, es]) hm]
  -- the model
  obtain ⟨J8, hJ8, hJ82, hmo, hok⟩ : ∃ J8 : gI, J8 z = (u3 (u3 (u3 (u3 (u3 (urow (u3 (u3 (u3 (u3 (u3 (u3 (u3 (u3 (u3 (u3 (u3 (u3 (u3 (u3 (u3 (u3 (J z) 40 0 N (nI (b / 2))) 41 0 N (nI (b / 2))) 42 0 N (nI (g / 32))) 43 0 N (nI q)) 44 0 N (-1)) 45 0 N 0) 20 0 19 (nI (N + 1))) 40 0 (N + 1) (nI (b - b / 2))) 41 0 (N + 1) (nI (b - b / 2))) 42 0 (N + 1) (nI (g / 32))) 43 0 (N + 1) (nI q)) 44 0 (N + 1) (-1)) 45 0 (N + 1) 0) 20 0 19 (nI (N + 2))) 44 0 N (nI (N + 1))) 44 0 (N + 1) (nI N)) 32 0 (va_cpy (J z 32 0) (J z 32 0) (8 * k) (8 * k + 1) m)) 32 0 (8 * k) (nI (N + 1))) 31 0 k (nI (m + 1))) 26 0 k (nI N)) 36 0 (g / 32) (J z 36 0 (g / 32) + 2)) 20 0 2 (J z 20 0 2 + 1)) ∧ J8 2 = J 2 ∧ f_X5_forkIt J z (nI k) (nI q) = f_X5_forkIt_l1 z (nI k) (nI q) 6 0 J8 ∧ (ok_f_X5_forkIt_l1 z (nI k) (nI q) 6 0 J8 → ok_X5_forkIt J z (nI k) (nI q)) := by
    have cq : (nI q).toNatClampNeg = q := nI_clamp (by omega)
    have ck : (nI k).toNatClampNeg = k := nI_clamp (by omega)
    have cN : (nI N).toNatClampNeg = N := nI_clamp (by omega)
    have cN1 : (nI (N + 1)).toNatClampNeg = N + 1 := nI_clamp (by omega)
    have cl : (nI (g / 32)).toNatClampNeg = g / 32 := nI_clamp (by omega)
    have nq : q ≠ N := by omega
    have nq1 : q ≠ N + 1 := by omega
    obtain ⟨p1, p2, p3⟩ := zr_add (J := J) (z := z) (N := N) (nI (b / 2)) (nI (g / 32)) (nI q) s19 (by omega)
    obtain ⟨J1, hJ1⟩ : ∃ J1, J1 = f_X5_add_s J z (nI (b / 2)) (nI (g / 32)) (nI q) := ⟨_, rfl⟩
    have J1z : J1 z = u3 (u3 (u3 (u3 (u3 (u3 (u3 (J z) 40 0 N (nI (b / 2))) 41 0 N (nI (b / 2))) 42 0 N (nI (g / 32))) 43 0 N (nI q)) 44 0 N (-1)) 45 0 N 0) 20 0 19 (nI (N + 1)) := by rw [hJ1, p1]; simp only [gU_at]
    have J119 : J1 z 20 0 19 = nI (N + 1) := by rw [J1z, u3_at]
    have J140 : J1 z 40 0 q = nI b := by rw [J1z]; simp (disch := decide) only [u3_skip, u3_skipj _ _ nq, s40]
    have J142 : J1 z 42 0 q = nI (g / 32) := by rw [J1z]; simp (disch := decide) only [u3_skip, u3_skipj _ _ nq, s42]
    obtain ⟨r1, r2, r3⟩ := zr_add (J := J1) (z := z) (N := N + 1) (nI (b - b / 2)) (nI (g / 32)) (nI q) J119 (by omega)
    obtain ⟨J2, hJ2⟩ : ∃ J2, J2 = f_X5_add_s J1 z (nI (b - b / 2)) (nI (g / 32)) (nI q) := ⟨_, rfl⟩
    have J2z : J2 z = u3 (u3 (u3 (u3 (u3 (u3 (u3 (J1 z) 40 0 (N + 1) (nI (b - b / 2))) 41 0 (N + 1) (nI (b - b / 2))) 42 0 (N + 1) (nI (g / 32))) 43 0 (N + 1) (nI q)) 44 0 (N + 1) (-1)) 45 0 (N + 1) 0) 20 0 19 (nI (N + 2)) := by rw [hJ2, r1]; simp only [gU_at]
    obtain ⟨J4, hJ4⟩ : ∃ J4, J4 = gU (gU J2 z 44 0 N (nI (N + 1))) z 44 0 (N + 1) (nI N) := ⟨_, rfl⟩
    have J4z : J4 z = u3 (u3 (J2 z) 44 0 N (nI (N + 1))) 44 0 (N + 1) (nI N) := by rw [hJ4]; simp only [gU_at]
    have J431 : J4 z 31 0 k = nI m := by rw [J4z, J2z, J1z]; simp (disch := decide) only [u3_skip, s31]
    have J432 : J4 z 32 = J z 32 := by rw [J4z, J2z, J1z]; simp (disch := decide) only [u3_skip]
    obtain ⟨t1, t2⟩ := zr_putNear (J := J4) (z := z) (k := k) (m := m) (nI (N + 1)) hk6 J431 hm
    rw [J432] at t1
    obtain ⟨J6, hJ6⟩ : ∃ J6, J6 = gU (f_X5_putNear J4 z (nI k) (nI (N + 1))) z 26 0 k (nI N) := ⟨_, rfl⟩
    have J6z : J6 z = u3 (u3 (u3 (urow (J4 z) 32 0 (va_cpy (J z 32 0) (J z 32 0) (8 * k) (8 * k + 1) m)) 32 0 (8 * k) (nI (N + 1))) 31 0 k (nI (m + 1))) 26 0 k (nI N) := by rw [hJ6, t1]; simp only [gU_at, gR_at]
    have J642 : J6 z 42 0 q = nI (g / 32) := by rw [J6z, J4z, J2z, J1z]; simp (disch := decide) only [u3_skip, urow_skip, u3_skipj _ _ nq, u3_skipj _ _ nq1, s42]
    have J636 : J6 z 36 = J z 36 := by rw [J6z, J4z, J2z, J1z]; simp (disch := decide) only [u3_skip, urow_skip]
    have J6202 : J6 z 20 0 2 = J z 20 0 2 := by rw [J6z, J4z, J2z, J1z]; simp (disch := decide) only [u3_skip, urow_skip, u3_skipj]
    refine ⟨gU (gU J6 z 36 0 (g / 32) (J z 36 0 (g / 32) + 2)) z 20 0 2 (J z 20 0 2 + 1), ?_, ?_, ?_, ?_⟩
    · simp only [gU_at]
      rw [J6z, J4z, J2z, J1z]
    · simp only [gU_ne _ _ _ _ _ (Ne.symm hz)]
      rw [hJ6]
      simp only [gU_ne _ _ _ _ _ (Ne.symm hz)]
      rw [t1]
      simp only [gU_ne _ _ _ _ _ (Ne.symm hz), gR_ne _ _ _ _ (Ne.symm hz)]
      rw [hJ4]
      simp only [gU_ne _ _ _ _ _ (Ne.symm hz)]
      rw [hJ2, r1]
      simp only [gU_ne _ _ _ _ _ (Ne.symm hz)]
      rw [hJ1, p1]
      simp only [gU_ne _ _ _ _ _ (Ne.symm hz)]
    · simp only [f_X5_forkIt, cq, ck, s40, s42, zc_half (show b < 2 ^ 31 by omega), ← hJ1, p2, J140, J142, pk_sub (show b / 2 ≤ b by omega), ← hJ2, r2, cN, cN1, ← hJ4, ← hJ6, J642, cl, J636]
      simp (disch := decide) only [gU_at, u3_skip, J636, J6202]
    · intro hw'
      unfold ok_X5_forkIt
      simp only [cq, s40, s42, zc_half (show b < 2 ^ 31 by omega)]
      refine ⟨vp_in_nI (by omega) (by decide), p3, ?_⟩
      rintro _ rfl
      simp only [← hJ1, p2, J140, J142, zc_half (show b < 2 ^ 31 by omega), pk_sub (show b / 2 ≤ b by omega)]
      refine ⟨r3, ?_⟩
      rintro _ rfl
      refine ⟨vp_in_nI (by omega) (by decide), ?_⟩
      rintro _ rfl
      simp only [r2, ← hJ2]
      refine ⟨vp_in_nI (by omega) (by decide), ?_⟩
      rintro _ rfl
      simp only [cN, cN1, ← hJ4]
      refine ⟨t2, ?_⟩
      rintro _ rfl
      refine ⟨vp_in_nI hk6 (by decide), ?_⟩
      rintro _ rfl
      simp only [ck, ← hJ6, J642, cl]
      refine ⟨vp_in_nI (by omega) (by decide), ?_⟩
      rintro _ rfl
      rintro _ rfl
      simp (disch := decide) only [gU_at, u3_skip, J636, J6202]
      exact hw'
  have F2 : zR ko K (zFK A k) (I6 y) (J8 2) (J8 z) := by rw [hI6, hJ8, hJ82]; exact F
  have f0 : zFK A k 0 0 0 = A 0 0 0 := hH 0 (by decide)
  obtain ⟨w1, A', w2, w3, w4⟩ := zT_wake (x := nI k) (a := nI q) F2 hz (A 0 0 0) 6 0 (by omega) (by omega)
  refine ⟨hok w1, A', w2.trans' hH, ?_, fun T t g => ?_⟩
  rotate_left
  · rw [hmo, ← hJ82]
    refine w4 T (k + 1) t ?_
    rw [hJ82]
    refine G T t _ g ?_
    rw [hJ8]
    refine eS.both (eS.both ?_)
    (repeat' first | exact eS.rfl' _ | refine eS.put19 ?_ | refine eS.put ?_ (by decide) | refine eS.row ?_ (by decide))
  rw [hcl, hmo, ← hJ82]
  have c0 : (I6 y 0 0 4).toNatClampNeg = A 0 0 0 := by rw [F2.1.k1, f0, nI_clamp (by omega)]
  unfold f_X3_wakeFirstSleeper
  rw [c0]
  exact w3
