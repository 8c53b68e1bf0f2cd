/-! A TURN, the rest -/
def f_B (J : gI) (z : Nat) (x b : Int32) : gI :=
  if (J z 25 0 x.toNatClampNeg) = 1 then f_W (gU J z 27 0 x.toNatClampNeg 0) z x (J z 26 0 x.toNatClampNeg) b
  else if (f_X6_inYard J z) = (-1) then
    if (f_X6_victimOf J z x) = (-1) then f_X5_rest J z x
    else f_X5_steal (gU J z 27 0 x.toNatClampNeg 0) z x (f_X6_victimOf J z x)
  else f_X5_hold (gU (gU J z 27 0 x.toNatClampNeg 0) z 33 0 ((f_X6_inYard J z).toNatClampNeg) 1) z x (gU (gU J z 27 0 x.toNatClampNeg 0) z 33 0 ((f_X6_inYard J z).toNatClampNeg) 1 z 34 0 ((f_X6_inYard J z).toNatClampNeg))
def ok_B (J : gI) (z : Nat) (x b : Int32) : Prop :=
  ((J z 25 0 x.toNatClampNeg) = 1 → vp_in (J z 26 0 x.toNatClampNeg) 600 ∧ ok_W (gU J z 27 0 x.toNatClampNeg 0) z x (J z 26 0 x.toNatClampNeg) b) ∧
  (¬ (J z 25 0 x.toNatClampNeg) = 1 → ok_X6_inYard J z ∧ ok_X6_victimOf J z x ∧
    ((f_X6_inYard J z) = (-1) → ((f_X6_victimOf J z x) = (-1) → ok_X5_rest J z x) ∧ (¬ (f_X6_victimOf J z x) = (-1) → ok_X5_steal (gU J z 27 0 x.toNatClampNeg 0) z x (f_X6_victimOf J z x))) ∧
    (¬ (f_X6_inYard J z) = (-1) → vp_in (f_X6_inYard J z) 10 ∧ ok_X5_hold (gU (gU J z 27 0 x.toNatClampNeg 0) z 33 0 ((f_X6_inYard J z).toNatClampNeg) 1) z x (gU (gU J z 27 0 x.toNatClampNeg 0) z 33 0 ((f_X6_inYard J z).toNatClampNeg) 1 z 34 0 ((f_X6_inYard J z).toNatClampNeg))))
theorem zr_turn (J : gI) (z : Nat) (x b : Int32) : f_X6_turn J z x b = if (J z 25 0 x.toNatClampNeg) = 3 then J else if (J z 25 0 x.toNatClampNeg) = 2 then f_X5_finish (gU (gU J z 20 0 3 ((J z 20 0 3) + 1)) z 27 0 x.toNatClampNeg 0) z x (gU (gU J z 20 0 3 ((J z 20 0 3) + 1)) z 27 0 x.toNatClampNeg 0 z 26 0 x.toNatClampNeg) else if (J z 25 0 x.toNatClampNeg) = 0 then (if (J z 31 0 x.toNatClampNeg) ≤ 0 then f_B J z x b else f_B (f_X5_hold (f_X5_takeNear_s J z x) z x (f_X5_takeNear_v J z x)) z x b) else f_B J z x b := by
  simp only [f_X6_turn, f_B, f_W]
theorem zo_turn {J : gI} {z : Nat} {x b : Int32} (hx : vp_in x 6) (h2 : (J z 25 0 x.toNatClampNeg) = 2 → ok_X5_finish (gU (gU J z 20 0 3 ((J z 20 0 3) + 1)) z 27 0 x.toNatClampNeg 0) z x (gU (gU J z 20 0 3 ((J z 20 0 3) + 1)) z 27 0 x.toNatClampNeg 0 z 26 0 x.toNatClampNeg))
    (h0 : (J z 25 0 x.toNatClampNeg) = 0 → (J z 31 0 x.toNatClampNeg) ≤ 0 → ok_B J z x b) (h0' : (J z 25 0 x.toNatClampNeg) = 0 → ¬ (J z 31 0 x.toNatClampNeg) ≤ 0 → ok_X5_takeNear J z x ∧ ok_X5_hold (f_X5_takeNear_s J z x) z x (f_X5_takeNear_v J z x) ∧ ok_B (f_X5_hold (f_X5_takeNear_s J z x) z x (f_X5_takeNear_v J z x)) z x b) (h1 : ¬ (J z 25 0 x.toNatClampNeg) = 3 → ¬ (J z 25 0 x.toNatClampNeg) = 2 → ¬ (J z 25 0 x.toNatClampNeg) = 0 → ok_B J z x b) : ok_X6_turn J z x b := by
  unfold ok_X6_turn
  refine ⟨hx, fun _ => trivial, fun a3 => ⟨fun a2 => ?_, fun a2 => ⟨fun a0 => ⟨fun m => ?_, fun m => ?_⟩, fun a0 => ?_⟩⟩⟩
  · rintro _ rfl _ rfl
    exact ⟨h2 a2, fun _ _ => trivial⟩
  · have h := h0 a0 m
    refine ⟨fun e => ?_, fun e => ?_⟩
    · rintro _ rfl
      have w := (h.1 e).2
      exact ⟨(h.1 e).1, fun a => ⟨fun c => ⟨(w.1 a).1 c, fun _ _ => trivial⟩, fun c => ⟨fun d => ⟨((w.1 a).2 c).1 d, fun _ _ => trivial⟩, fun d => ⟨((w.1 a).2 c).2 d, fun _ _ => trivial⟩⟩⟩, fun a => ⟨w.2 a, fun _ _ => trivial⟩⟩
    · have w := h.2 e
      refine ⟨w.1, w.2.1, fun a => ⟨fun c => ⟨(w.2.2.1 a).1 c, fun _ _ => trivial⟩, fun c => ?_⟩, fun a => ?_⟩
      · rintro _ rfl
        exact ⟨(w.2.2.1 a).2 c, fun _ _ => trivial⟩
      · rintro _ rfl
        refine ⟨(w.2.2.2 a).1, ?_⟩
        rintro _ rfl
        exact ⟨(w.2.2.2 a).2, fun _ _ => trivial⟩
  · obtain ⟨t1, t2, h⟩ := h0' a0 m
    refine ⟨t1, ?_⟩
    rintro _ rfl
    refine ⟨t2, ?_⟩
    rintro _ rfl
    refine ⟨fun e => ?_, fun e => ?_⟩
    · rintro _ rfl
      have w := (h.1 e).2
      exact ⟨(h.1 e).1, fun a => ⟨fun c => ⟨(w.1 a).1 c, fun _ _ => trivial⟩, fun c => ⟨fun d => ⟨((w.1 a).2 c).1 d, fun _ _ => trivial⟩, fun d => ⟨((w.1 a).2 c).2 d, fun _ _ => trivial⟩⟩⟩, fun a => ⟨w.2 a, fun _ _ => trivial⟩⟩
    · have w := h.2 e
      refine ⟨w.1, w.2.1, fun a => ⟨fun c => ⟨(w.2.2.1 a).1 c, fun _ _ => trivial⟩, fun c => ?_⟩, fun a => ?_⟩
      · rintro _ rfl
        exact ⟨(w.2.2.1 a).2 c, fun _ _ => trivial⟩
      · rintro _ rfl
        refine ⟨(w.2.2.2 a).1, ?_⟩
        rintro _ rfl
        exact ⟨(w.2.2.2 a).2, fun _ _ => trivial⟩
  · have h := h1 a3 a2 a0
    refine ⟨fun e => ?_, fun e => ?_⟩
    · rintro _ rfl
      have w := (h.1 e).2
      exact ⟨(h.1 e).1, fun a => ⟨fun c => ⟨(w.1 a).1 c, fun _ _ => trivial⟩, fun c => ⟨fun d => ⟨((w.1 a).2 c).1 d, fun _ _ => trivial⟩, fun d => ⟨((w.1 a).2 c).2 d, fun _ _ => trivial⟩⟩⟩, fun a => ⟨w.2 a, fun _ _ => trivial⟩⟩
    · have w := h.2 e
      refine ⟨w.1, w.2.1, fun a => ⟨fun c => ⟨(w.2.2.1 a).1 c, fun _ _ => trivial⟩, fun c => ?_⟩, fun a => ?_⟩
      · rintro _ rfl
        exact ⟨(w.2.2.1 a).2 c, fun _ _ => trivial⟩
      · rintro _ rfl
        refine ⟨(w.2.2.2 a).1, ?_⟩
        rintro _ rfl
        exact ⟨(w.2.2.2 a).2, fun _ _ => trivial⟩
def f_T (I : gI) (y k : Nat) : gI :=
  if (I y 1 k 4) = (-1) then
    if (f_X3_takeFromYard_v I y k) = 0 then
      if (f_X3_steal_v (f_X3_takeFromYard_s I y k) y k) = 0 then f_X1_beIdle (f_X3_steal_s (f_X3_takeFromYard_s I y k) y k) y k
      else gU (f_X3_steal_s (f_X3_takeFromYard_s I y k) y k) y 1 k 8 0
    else gU (f_X3_takeFromYard_s I y k) y 1 k 8 0
  else gU (f_X3_workOnHeap I y k) y 1 k 8 0
theorem zT_body {K k y z : Nat} {A : zN} {I J : gI} (h : zR 6 K A (I y) (J 2) (J z)) (hwf : wf (I y)) (hz : z ≠ 2) (hK : K + 1 ≤ 1000000) (hk : k < A 0 0 0) (h01 : A 1 k 0 = 1 ∨ A 1 k 0 = 0) (hm0 : A 1 k 0 = 0 → A 1 k 2 = 0) :
    ok_B J z (nI k) (nI (A 0 0 6)) ∧ ∃ A', zH A' A ∧ zR 6 (K + 1) A' (f_T I y k y) (J 2) (f_B J z (nI k) (nI (A 0 0 6)) z) ∧ ∀ T t, zg T k t A (J 2) (J z) → zg T (k + 1) t A' (J 2) (f_B J z (nI k) (nI (A 0 0 6)) z) := by
  have hi := h.2.2.2
  have hc := h.1
  have hr := h.2.1
  have he := h.2.2.1
  have h1 := hi.k1
  have hk6 : k < 6 := by omega
  have hw : k < A 0 0 3 := by omega
  have ck : (nI k).toNatClampNeg = k := nI_clamp (by omega)
  have s25 := hr.k4 k hk6
  have e4 := hc.k7 k hw
  have O := zR_RO h hk
  have O2 : zR k K A (I y) (gU J z 27 0 k 0 2) (gU J z 27 0 k 0 z) := by
    rw [gU_at, gU_ne _ _ _ _ _ (Ne.symm hz)]; exact O
  have J2 : gU J z 27 0 k 0 2 = J 2 := gU_ne _ _ _ _ _ (Ne.symm hz)
  unfold ok_B f_B f_T
  rw [ck, s25, e4]
  rcases h01 with h0 | h0
  · have s26 := hr.k5 k hw (Or.inl h0)
    have hq := hi.k9 k hk6 (Or.inl h0)
    have q3 := hi.q600 hq
    have hg := hi.g320 hq
    rw [if_pos h0, h0, s26]
    have t1 : (nI 1 : Int32) = 1 := rfl
    rw [if_pos t1, if_neg (zn_m1 (by omega))]
    obtain ⟨p1, A', p2, p3⟩ := zT_work O2 hz hK hk h0
    rw [J2] at p3
    exact ⟨⟨fun _ => ⟨vp_in_nI (by omega) (by decide), p1⟩, fun q => absurd t1 q⟩, A', p2, by rw [gU_at]; exact zR_RC p3.1 (by rw [p2 0 (by decide)]; exact hk), fun T t g => p3.2 T t (g.eS (by rw [gU_at]; exact (eS.rfl' _).put (by decide)))⟩
  · have n1 : ¬ A 1 k 0 = 1 := by omega
    rw [if_neg n1, h0]
    have t1 : ¬ (nI 0 : Int32) = 1 := by decide
    rw [if_neg t1, if_pos rfl]
    have cl : (I y 0 0 5).toNatClampNeg = A 0 0 1 := by rw [hc.k2, nI_clamp (by omega)]
    have cl2 : (J 2 11 0 4).toNatClampNeg = A 0 0 1 := by rw [hr.k2, nI_clamp (by omega)]
    have isl : isN (J 2 11 0 4) 10 := by rw [hr.k2]; exact isN_nI (by omega) (by decide)
    obtain ⟨y1, y2⟩ := zT_yard (k := k) hc hr hi (A 0 0 1) 0 (by omega)
    obtain ⟨v1, v2, v3⟩ := zT_vic hc hr hi hwf hk
    have okY : ok_X6_inYard J z := ⟨isl, by rw [cl2]; exact y1⟩
    have eY : f_X6_inYard J z = f_X6_inYard_l1 z (A 0 0 1) 0 J := by unfold f_X6_inYard; rw [cl2]
    have eYv : f_X3_takeFromYard_v I y k = f_X3_takeFromYard_l1_v y k (A 0 0 1) 0 I := by unfold f_X3_takeFromYard_v; rw [cl]
    have eYs : f_X3_takeFromYard_s I y k = f_X3_takeFromYard_l1_s y k (A 0 0 1) 0 I := by unfold f_X3_takeFromYard_s; rw [cl]
    rw [eY, eYv, eYs, v2]
    rcases y2 with ⟨a1, a2, a3⟩ | ⟨j, hj, hs, a1, a2, a3⟩
    · rw [a1, a2, a3, if_pos rfl, if_pos rfl]
      rcases v3 with b1 | ⟨v, hv, hvk, hm, b1⟩
      · have st_v : f_X3_steal_v I y k = 0 := by simp only [f_X3_steal_v, b1]; rw [if_pos (by decide)]
        have st_s : f_X3_steal_s I y k = I := by simp only [f_X3_steal_s, b1]; rw [if_pos (by decide)]
        rw [b1, st_v, st_s, if_pos rfl, if_pos rfl]
        have e8 := he.k4 k hw (by omega)
        have okr : ok_X5_rest J z (nI k) := by
          unfold ok_X5_rest
          refine ⟨vp_in_nI hk6 (by decide), ?_⟩
          rintro _ rfl _ rfl
          exact ⟨fun _ _ _ _ _ => trivial, fun _ => trivial⟩
        refine ⟨⟨fun q => absurd q t1, fun _ => ⟨okY, v1, fun _ => ⟨fun _ => okr, fun q => absurd rfl q⟩, fun q => absurd rfl q⟩⟩, ?_⟩
        simp (disch := decide) only [f_X1_beIdle, f_X5_rest, ck, gU_at, u3_at, u3_skip, u3_skipj]
        rw [e8]
        by_cases c3 : J z 27 0 k + 1 < 3
        · rw [if_pos c3, if_neg (by rw [Int32.not_le]; exact c3)]
          refine ⟨A, zH.rfl' A, ?_⟩
          simp (disch := decide) only [gU_at, u3_skip, u3_skipj, u3_at]
          have R := (zR_RS1 h hk).le (K' := K + 1) (by omega) hK
          rw [e8] at R
          exact ⟨R, fun T t g => zg_RS1 g hk h0 (hm0 h0) (by repeat' first | exact eS.rfl' _ | refine eS.put ?_ (by decide))⟩
        · rw [if_neg c3, if_pos (by rw [Int32.not_lt] at c3; exact c3)]
          refine ⟨zu A 1 k 0 3, fun j _ => by simp [zu], ?_⟩
          simp (disch := decide) only [gU_at, u3_skip, u3_skipj, u3_at]
          have R := (zR_RS2 h hk h0).le (K' := K + 1) (by omega) hK
          rw [e8] at R
          exact ⟨R, fun T t g => zg_RS2 g hk h0 (hm0 h0) (by repeat' first | exact eS.rfl' _ | refine eS.put ?_ (by decide))⟩
      · have nv : ¬ nI v = -1 := zn_m1 (by omega)
        obtain ⟨s1, s2, s3, s4⟩ := zT_steal O2 hK hk h0 hv hvk hm b1
        have sH : zH (zST A k v) A := fun j _ => by simp [zST, zu]
        rw [b1]
        rw [s2, if_neg nv, if_neg (by decide)]
        rw [J2] at s3
        refine ⟨⟨fun q => absurd q t1, fun _ => ⟨okY, v1, fun _ => ⟨fun q => absurd q nv, fun _ => s1⟩, fun q => absurd rfl q⟩⟩, zST A k v, sH, ?_, fun T t g => zg_ST hi (g.eS (by rw [gU_at]; exact (eS.rfl' _).put (by decide))) hk h0 hv hvk hm s4⟩
        rw [gU_at]
        exact zR_RC s3 (by rw [sH 0 (by decide)]; exact hk)
    · have nj : ¬ nI j = -1 := zn_m1 (by omega)
      have cj : (nI j).toNatClampNeg = j := nI_clamp (by omega)
      rw [a1, a2, if_neg nj, if_neg (by decide), cj]
      refine ⟨⟨fun q => absurd q t1, fun _ => ⟨okY, v1, fun q => absurd q nj, fun _ => ⟨vp_in_nI (by omega) (by decide), vp_in_nI hk6 (by decide), fun _ _ _ _ => trivial⟩⟩⟩, zu (zu (zu A 3 j 0 1) 1 k 0 1) 1 k 1 (A 3 j 1), fun j _ => by simp [zu], ?_, fun T t g => zg_YD hi g hk h0 hj hs (by simp only [f_X5_hold, gU_at]; repeat' first | exact eS.rfl' _ | refine eS.put ?_ (by decide))⟩
      have Y := zR_YD O hk hj h0 hs
      have s34 := hr.k13 j hj
      rw [gU_at, a3]
      simp (disch := decide) only [f_X5_hold, gU_at, u3_skip, ck, s34]
      exact (zR_RC Y (by simp [zu]; exact hk)).le (by omega) hK
theorem zT_turn {K k y z : Nat} {A : zN} {I J : gI} (h : zR 6 K A (I y) (J 2) (J z)) (hwf : wf (I y)) (hy : y < 2) (hz : z = 3 ∨ z = 4) (hK : K + 1 ≤ 1000000) (hk : k < A 0 0 0) :
    ok_X6_turn J z (nI k) (nI (A 0 0 6)) ∧ ∃ A', zH A' A ∧ zR 6 (K + 1) A' ((if I y 1 k 7 = 0 then f_X3_takeTurn I y k else I) y) (J 2) (f_X6_turn J z (nI k) (nI (A 0 0 6)) z) ∧ ∀ T t, zg T k t A (J 2) (J z) → zg T (k + 1) t A' (J 2) (f_X6_turn J z (nI k) (nI (A 0 0 6)) z) := by
  have hz2 : z ≠ 2 := by omega
  have hi := h.2.2.2
  have hc := h.1
  have hr := h.2.1
  have h1 := hi.k1
  have hk6 : k < 6 := by omega
  have hw : k < A 0 0 3 := by omega
  have h2 := hi.k2 k hk6
  have ck : (nI k).toNatClampNeg = k := nI_clamp (by omega)
  have s25 := hr.k4 k hk6
  have s31 := hr.k6 k hw
  have e7 := hc.k10 k hw
  have e6 := hc.k9 k hw
  have e4 := hc.k7 k hw
  have vx : vp_in (nI k) 6 := vp_in_nI hk6 (by decide)
  have c25 : ∀ d, d < 4 → (J z 25 0 (nI k).toNatClampNeg = nI d ↔ A 1 k 0 = d) := fun d hd => by rw [ck, s25]; exact nI_eq (by omega) (by omega)
  have c253 : J z 25 0 (nI k).toNatClampNeg = 3 ↔ A 1 k 0 = 3 := c25 3 (by decide)
  have c252 : J z 25 0 (nI k).toNatClampNeg = 2 ↔ A 1 k 0 = 2 := c25 2 (by decide)
  have c250 : J z 25 0 (nI k).toNatClampNeg = 0 ↔ A 1 k 0 = 0 := c25 0 (by decide)
  rw [zr_turn]
  by_cases d3 : A 1 k 0 = 3
  · rw [if_pos d3] at e7
    rw [if_pos (c253.mpr d3), if_neg (by rw [e7]; decide)]
    exact ⟨zo_turn vx (fun q => absurd (c252.mp q) (by omega)) (fun q => absurd (c250.mp q) (by omega)) (fun q => absurd (c250.mp q) (by omega)) (fun q => absurd (c253.mpr d3) q), A, zH.rfl' A, h.le (by omega) hK, fun _ _ g => g.up⟩
  · rw [if_neg d3] at e7
    rw [if_neg (fun q => d3 (c253.mp q)), if_pos e7]
    by_cases d2 : A 1 k 0 = 2
    · -- who joins
      rw [if_pos d2] at e6
      have s26 := hr.k5 k hw (Or.inr d2)
      have hq := hi.k9 k hk6 (Or.inr d2)
      have q3 := hi.q600 hq
      have hg := hi.g320 hq
      have hkk : ∀ A' : zN, zH A' A → k < A' 0 0 0 := fun A' q => by rw [q 0 (by decide)]; exact hk
      have D := zR_DR2 h hk d2
      have z1 : zH (zu A 1 k 0 0) A := fun j _ => by simp [zu]
      have D2 := zR_RO (zR_JC D) (hkk _ z1)
      have ez : (gU (gU (gU J z 20 0 3 ((J z 20 0 3) + 1)) z 27 0 k 0) z 25 0 k 0) z = u3 (u3 (u3 (J z) 25 0 k 0) 20 0 3 (u3 (J z) 25 0 k 0 20 0 3 + 1)) 27 0 k 0 := by
        simp only [gU_at]
        rw [u3_skip (J z) 0 k 0 (show 20 ≠ 25 by decide), u3_com (J z) _ _ (show 25 ≠ 20 by decide), u3_com _ _ _ (show 25 ≠ 27 by decide)]
      have ey : (gU (gU I y 1 k 6 (-1)) y 0 0 9 ((gU I y 1 k 6 (-1) y 0 0 9) + 1)) y = u3 (u3 (I y) 1 k 6 (-1)) 0 0 9 (u3 (I y) 1 k 6 (-1) 0 0 9 + 1) := by simp only [gU_at]
      have e2 : (gU (gU (gU J z 20 0 3 ((J z 20 0 3) + 1)) z 27 0 k 0) z 25 0 k 0) 2 = J 2 := by simp only [gU_ne _ _ _ _ _ (Ne.symm hz2)]
      rw [← ey, ← ez, ← e2] at D2
      obtain ⟨o1, A', o2, o3, o5⟩ := zT_fin (k := k) (q := A 1 k 1) D2 (hkk _ z1) (by simp [zu]) (by simp [zu]; exact hq)
      rw [zr_fin25 _ _ _ _ (show k < 2 ^ 31 by omega), e2] at o3
      have o4 := zo_fin25 _ _ _ _ (show k < 2 ^ 31 by omega) o1
      have g0 : zu A 1 k 0 0 4 (A 1 k 1) 0 = A 4 (A 1 k 1) 0 := by simp [zu]
      rw [g0] at o3
      have e26 : gU (gU J z 20 0 3 ((J z 20 0 3) + 1)) z 27 0 k 0 z 26 0 k = nI (A 1 k 1) := by
        simp (disch := decide) only [gU_at, u3_skip, s26]
      rw [if_pos (c252.mpr d2), ck, e26]
      refine ⟨zo_turn vx (fun _ => by rw [ck, e26]; exact o4) (fun q => absurd (c250.mp q) (by omega)) (fun q => absurd (c250.mp q) (by omega)) (fun _ q => absurd (c252.mpr d2) q), A', o2.trans' z1, ?_, fun T t g => ?_⟩
      rotate_left
      · rw [e2] at o5
        have hrow : J z 30 0 k = T 30 0 k := by
          rcases g.2.2.2.2.2.2 k hk with x | ⟨x, -⟩
          · exact x
          · omega
        have := o5 T (k + 1) t (Nat.succ_pos k) (by simp (disch := decide) only [gU_at, u3_skip]; exact hrow) (zg_DR2 hi g.up hk d2 (by simp (disch := decide) only [gU_at, u3_skip, u3_at]) (by simp only [gU_at]; repeat' first | exact eS.rfl' _ | refine eS.put ?_ (by decide)))
        rw [zr_fin25 _ _ _ _ (show k < 2 ^ 31 by omega)] at this
        exact this
      have n6 : ¬ I y 1 k 6 = -1 := by rw [e6]; exact zn_m1 (by omega)
      simp only [f_X3_takeTurn, f_X3_joinHalves]
      rw [if_neg n6, gU_at, e6]
      exact (zR_RC o3 (hkk _ (o2.trans' z1))).le (by omega) hK
    · rw [if_neg d2] at e6
      rw [if_neg (fun q => d2 (c252.mp q))]
      have n2 : ¬ J z 25 0 (nI k).toNatClampNeg = 2 := fun q => d2 (c252.mp q)
      by_cases d1 : A 1 k 0 = 1
      · rw [if_pos d1] at e4
        have hq := hi.k9 k hk6 (Or.inl d1)
        have hg := hi.g320 hq
        have n4 : ¬ I y 1 k 4 = -1 := by rw [e4]; exact zn_m1 (by omega)
        obtain ⟨b1, A', b2, b3⟩ := zT_body h hwf hz2 hK hk (Or.inl d1) (fun q => by omega)
        have n0 : ¬ J z 25 0 (nI k).toNatClampNeg = 0 := fun q => absurd (c250.mp q) (by omega)
        rw [if_neg n0]
        refine ⟨zo_turn vx (fun q => absurd q n2) (fun q => absurd q n0) (fun q => absurd q n0) (fun _ _ _ => b1), A', b2, ?_⟩
        simp only [f_X3_takeTurn]
        rw [if_pos e6, if_neg n4]
        unfold f_T at b3
        rw [if_neg n4] at b3
        exact b3
      · have d0 : A 1 k 0 = 0 := by omega
        have y0 : J z 25 0 (nI k).toNatClampNeg = 0 := c250.mpr d0
        rw [if_neg d1] at e4
        rw [if_pos y0]
        by_cases hm : A 1 k 2 = 0
        · have y31 : J z 31 0 (nI k).toNatClampNeg ≤ 0 := by rw [ck, s31, hm]; decide
          obtain ⟨b1, A', b2, b3⟩ := zT_body h hwf hz2 hK hk (Or.inr d0) (fun _ => hm)
          rw [if_pos y31]
          refine ⟨zo_turn vx (fun q => absurd q n2) (fun _ _ => b1) (fun _ q => absurd y31 q) (fun _ _ q => absurd y0 q), A', b2, ?_⟩
          simp only [f_X3_takeTurn, zc_TN0 hc hi hk hm]
          rw [if_pos e6, if_pos e4, if_pos e6, if_pos e4]
          unfold f_T at b3
          rw [if_pos e4] at b3
          exact b3
        · have hm0 : 0 < A 1 k 2 := by omega
          have y31 : ¬ J z 31 0 (nI k).toNatClampNeg ≤ 0 := by rw [ck, s31]; exact nI_nle hm0 (by omega)
          have T := zR_TN h hk d0 hm0
          rw [← zc_TN hc hi hk hm0, ← zr_TN hr hi hk hm0] at T
          obtain ⟨t1, t2⟩ := zo_TN hr hi hk hm0
          have wf5 := wf_X3_takeFromOwnCart I y k hy hwf hk6
          have z1 : zH (zTN A k) A := fun j _ => by simp [zTN, zu, zrow]
          have J2 : f_X5_hold (f_X5_takeNear_s J z (nI k)) z (nI k) (f_X5_takeNear_v J z (nI k)) 2 = J 2 := by
            rw [ne_X5_hold _ _ _ _ hz (by omega), ne_X5_takeNear _ _ _ hz (by omega)]
          rw [← J2] at T
          have d1' : zTN A k 1 k 0 = 1 := by simp [zTN, zu, zrow]
          obtain ⟨b1, A', b2, b3⟩ := zT_body T wf5 hz2 hK (by rw [z1 0 (by decide)]; exact hk) (Or.inl d1') (fun q => by omega)
          rw [z1 6 (by decide)] at b1 b3
          rw [J2] at b3
          have hw' : k < zTN A k 0 0 3 := by rw [z1 3 (by decide)]; exact hw
          have i6 := T.1.k9 k hw'
          rw [d1', if_neg (by decide)] at i6
          have i4 := T.1.k7 k hw'
          rw [if_pos d1'] at i4
          have hq' := T.2.2.2.k9 k hk6 (Or.inl d1')
          have hg' := T.2.2.2.g320 hq'
          have n4 : ¬ f_X3_takeFromOwnCart I y k y 1 k 4 = -1 := by rw [i4]; exact zn_m1 (by omega)
          rw [if_neg y31]
          refine ⟨zo_turn vx (fun q => absurd q n2) (fun _ q => absurd q y31) (fun _ _ => ⟨t1, t2 _, b1⟩) (fun _ _ q => absurd y0 q), A', b2.trans' z1, ?_⟩
          simp only [f_X3_takeTurn]
          rw [if_pos e6, if_pos e4, if_pos i6, if_neg n4]
          unfold f_T at b3
          rw [if_neg n4] at b3
          refine ⟨b3.1, fun T t g => b3.2 T t (zg_TN hi g hk d0 hm0 ?_)⟩
          rw [zr_TN hr hi hk hm0]
          repeat' first | exact eS.rfl' _ | refine eS.put ?_ (by decide) | refine eS.row ?_ (by decide)
