/-! WHAT THE METHODS DO, AS STEPS: the class's side (zc_), the model's (zr_) -/
theorem zn_m1 {a : Nat} (h : a < 2 ^ 31) : ¬ nI a = -1 := fun e => by
  have e1 := congrArg Int32.toInt e
  rw [nI_toInt h] at e1
  have e2 : (-1 : Int32).toInt = -1 := by decide
  omega
theorem zn_eqm1 {a : Nat} (h : a < 2 ^ 31) : (nI a = -1) = False := eq_false (zn_m1 h)
theorem zc_rem {a : Nat} (h : a < 2 ^ 31) : nI a - nI a / 32 * 32 = nI (a % 32) := pk_rem (d := 32) h (by decide) (by decide)
theorem zc_div {a : Nat} (h : a < 2 ^ 31) : nI a / 32 = nI (a / 32) := pk_div (d := 32) h (by decide) (by decide)
theorem zc_half {a : Nat} (h : a < 2 ^ 31) : nI a / 2 = nI (a / 2) := pk_div (d := 2) h (by decide) (by decide)
theorem zc_8 (a : Nat) : (8 : Int32) * nI a = nI (8 * a) := pk_mul 8 a
theorem zc_81 (a : Nat) : (8 : Int32) * nI a + 1 = nI (8 * a + 1) := by rw [zc_8]; exact nI_1 _
theorem zc_sub1 {a : Nat} (h : 0 < a) : nI a - 1 = nI (a - 1) := pk_sub (a := a) (b := 1) h
theorem zc_add1 (a : Nat) : nI a + 1 = nI (a + 1) := nI_1 a
theorem zn_xor : ∀ a, a < 320 → nI a ^^^ 1 = nI (a ^^^ 1) := by decide +kernel
theorem zn_xor_lt : ∀ a, a < 320 → a ^^^ 1 < 320 := by decide +kernel
theorem zc_320 {a : Nat} (h : a < 320) : ¬ (320 : Int32) ≤ nI a := nI_ge (b := 320) h (by decide)
theorem zc_320' {a : Nat} (h : a < 320) : nI a < 320 := nI_lt (b := 320) h (by decide)
theorem zc_loadOf (I : gI) (y : Nat) {a : Nat} (h : a < 320) : f_X3_loadOf I y (nI a) = a / 32 := by
  unfold f_X3_loadOf
  rw [if_neg (nI_pos (by omega)), if_neg (zc_320 h), zc_div (by omega), nI_clamp (by omega)]
theorem zc_balesOf (I : gI) (y : Nat) {a : Nat} (h : a < 320) : f_X3_balesOf I y (nI a) = I y 5 0 a := by
  unfold f_X3_balesOf
  rw [if_neg (nI_pos (by omega)), if_neg (zc_320 h), nI_clamp (by omega)]
theorem zc_setBales (I : gI) (y : Nat) {a : Nat} (b : Int32) (h : a < 320) : f_X3_setBales I y (nI a) b = gU I y 5 0 a b := by
  unfold f_X3_setBales
  rw [if_neg (nI_pos (by omega)), if_neg (zc_320 h), nI_clamp (by omega)]
theorem zCL.cart {A : zN} {Y : gY} {K k : Nat} (h : zCL A Y) (hi : zIV K A) (hk : k < 6) : (Y 1 k 3).toNatClampNeg = A 1 k 3 := by
  have h1 := (hi.k2 k hk).2.2.1
  rw [h.k4 k hk, nI_clamp (by omega)]
/-- the near heap of one's own cart -/
theorem zc_TN {I : gI} {A : zN} {y k K : Nat} (hc : zCL A (I y)) (hi : zIV K A) (hk : k < A 0 0 0) (hm : 0 < A 1 k 2) :
    f_X3_takeFromOwnCart I y k y = u3 (u3 (u3 (I y) 2 (A 1 k 3) 1 (nI (A 1 k 2 - 1))) 1 k 4 (nI (A 4 (A 2 k 0) 0))) 1 k 5 (nI (A 4 (A 2 k 0) 3)) := by
  have h1 := hi.k1
  have hk6 : k < 6 := by omega
  have hw : k < A 0 0 3 := by omega
  have h2 := hi.k2 k hk6
  have hq := hi.k10 k 0 hk6 hm
  have hg := hi.g320 hq
  have ec := hc.cart hi hk6
  have es := hc.k5 k hw
  have e6 := hc.k6 k (A 1 k 2 - 1) hw (by omega)
  rw [show A 1 k 2 - 1 - (A 1 k 2 - 1) = 0 by omega] at e6
  have hv : f_X0_takeNear_v I y (A 1 k 3) = nI (A 4 (A 2 k 0) 0) := by
    simp only [f_X0_takeNear_v, f_X0_heapAt, es]
    rw [if_neg (nI_nle hm (by omega)), if_neg (by decide), if_pos (by rw [← nI_0]; exact nI_lt hm (by omega)), zc_sub1 hm, Int32.sub_zero, nI_clamp (by omega), e6]
  have hs : f_X0_takeNear_s I y (A 1 k 3) = gU I y 2 (A 1 k 3) 1 (nI (A 1 k 2 - 1)) := by
    simp only [f_X0_takeNear_s, es]
    rw [if_neg (nI_nle hm (by omega)), zc_sub1 hm]
  simp only [f_X3_takeFromOwnCart, ec, hv, hs]
  rw [if_neg (zn_m1 (by omega)), zc_balesOf _ _ hg]
  simp only [f_X1_take, gU_at]
  rw [u3_skip _ _ _ _ (by decide), hc.k17 _ hq]
theorem zc_TN0 {I : gI} {A : zN} {y k K : Nat} (hc : zCL A (I y)) (hi : zIV K A) (hk : k < A 0 0 0) (hm : A 1 k 2 = 0) : f_X3_takeFromOwnCart I y k = I := by
  have h1 := hi.k1
  have hk6 : k < 6 := by omega
  have hw : k < A 0 0 3 := by omega
  have ec := hc.cart hi hk6
  have es := hc.k5 k hw
  rw [hm] at es
  have es : I y 2 (A 1 k 3) 1 = 0 := es
  have hv : f_X0_takeNear_v I y (A 1 k 3) = -1 := by
    simp only [f_X0_takeNear_v, f_X0_heapAt, es]
    rw [if_pos (by decide), if_neg (by decide), if_neg (by decide)]
  have hs : f_X0_takeNear_s I y (A 1 k 3) = I := by
    simp only [f_X0_takeNear_s, es]
    rw [if_pos (by decide)]
  simp only [f_X3_takeFromOwnCart, ec, hv, hs]
  rw [if_pos trivial]
theorem zr_TN {J : gI} {A : zN} {z k K : Nat} (hr : zRF A (J 2) (J z)) (hi : zIV K A) (hk : k < A 0 0 0) (hm : 0 < A 1 k 2) :
    f_X5_hold (f_X5_takeNear_s J z (nI k)) z (nI k) (f_X5_takeNear_v J z (nI k)) z = u3 (u3 (urow (u3 (J z) 31 0 k (nI (A 1 k 2 - 1))) 32 0 (va_cpy (J z 32 0) (J z 32 0) (8 * k + 1) (8 * k) (A 1 k 2 - 1))) 25 0 k 1) 26 0 k (nI (A 2 k 0)) := by
  have h1 := hi.k1
  have hk6 : k < 6 := by omega
  have hw : k < A 0 0 3 := by omega
  have h2 := hi.k2 k hk6
  have e7 := hr.k7 k 0 hw hm
  rw [Nat.add_zero] at e7
  simp only [f_X5_hold, f_X5_takeNear_s, f_X5_takeNear_v, gU_at, gR_at, nI_clamp (show k < 2 ^ 31 by omega), zc_8, zc_add1 (8 * k), nI_clamp (show 8 * k < 2 ^ 31 by omega), nI_clamp (show 8 * k + 1 < 2 ^ 31 by omega), hr.k6 k hw, zc_sub1 hm, u3_at, nI_clamp (show A 1 k 2 - 1 < 2 ^ 31 by omega), e7]
  rw [u3_skip _ _ _ _ (show 32 ≠ 31 by decide)]
theorem zo_TN {J : gI} {A : zN} {z k K : Nat} (hr : zRF A (J 2) (J z)) (hi : zIV K A) (hk : k < A 0 0 0) (hm : 0 < A 1 k 2) : ok_X5_takeNear J z (nI k) ∧ ∀ a, ok_X5_hold (f_X5_takeNear_s J z (nI k)) z (nI k) a := by
  have h1 := hi.k1
  have hk6 : k < 6 := by omega
  have hw : k < A 0 0 3 := by omega
  have h2 := hi.k2 k hk6
  have v6 : vp_in (nI k) 6 := vp_in_nI hk6 (by decide)
  refine ⟨?_, fun a => ?_⟩
  · unfold ok_X5_takeNear
    simp only [zc_8, zc_add1 (8 * k)]
    refine ⟨vp_in_nI (by omega) (by decide), v6, ?_⟩
    rintro _ rfl
    simp only [gU_at, nI_clamp (show k < 2 ^ 31 by omega), u3_at, hr.k6 k hw, zc_sub1 hm, nI_clamp (show A 1 k 2 - 1 < 2 ^ 31 by omega), nI_clamp (show 8 * k < 2 ^ 31 by omega), nI_clamp (show 8 * k + 1 < 2 ^ 31 by omega)]
    exact ⟨nI_pos (by omega), nI_pos (by omega), nI_pos (by omega), by omega, by omega, fun _ _ => trivial⟩
  · exact ⟨v6, fun _ _ _ _ => trivial⟩
/-- what stays of the head numbers -/
def zH (A' A : zN) : Prop := ∀ j, j ≠ 2 → A' 0 0 j = A 0 0 j
theorem zH.rfl' (A : zN) : zH A A := fun _ _ => rfl
theorem zH.trans' {A B C : zN} (h : zH A B) (g : zH B C) : zH A C := fun j hj => (h j hj).trans (g j hj)
theorem zT_fin1 {ko K k q : Nat} {A : zN} {Y M S : gY} (d : zR ko K A Y M S) (hk : k < A 0 0 0) (h0 : A 1 k 0 = 0) (hq : q < A 0 0 2) :
    (∃ A', zH A' A ∧ zR ko K A' (if A 4 q 0 % 32 = 1 then u3 (u3 Y 4 (A 4 q 0 / 32) 1 2) 4 (A 4 q 0 / 32) 3 (Y 0 0 6) else if Y 6 0 (A 4 q 0 ^^^ 1) = 0 then Y else u3 Y 1 k 6 (nI (A 4 q 0 - A 4 q 0 % 32 + A 4 q 0 % 32 / 2))) M (if S 43 0 q = -1 then u3 (u3 S 33 0 (S 42 0 q).toNatClampNeg 2) 35 0 (S 42 0 q).toNatClampNeg (S 20 0 0) else if S 45 0 (S 44 0 q).toNatClampNeg = 1 then u3 (u3 S 25 0 k 2) 26 0 k (S 43 0 q) else S) ∧ ((A 4 q 0 % 32 = 1 ∧ A' = zu A 3 (A 4 q 0 / 32) 0 2 ∧ (if S 43 0 q = -1 then u3 (u3 S 33 0 (S 42 0 q).toNatClampNeg 2) 35 0 (S 42 0 q).toNatClampNeg (S 20 0 0) else if S 45 0 (S 44 0 q).toNatClampNeg = 1 then u3 (u3 S 25 0 k 2) 26 0 k (S 43 0 q) else S) 35 0 (A 4 q 0 / 32) = S 20 0 0 ∧ eS (if S 43 0 q = -1 then u3 (u3 S 33 0 (S 42 0 q).toNatClampNeg 2) 35 0 (S 42 0 q).toNatClampNeg (S 20 0 0) else if S 45 0 (S 44 0 q).toNatClampNeg = 1 then u3 (u3 S 25 0 k 2) 26 0 k (S 43 0 q) else S) (u3 S 35 0 (A 4 q 0 / 32) (S 20 0 0))) ∨ (A 4 q 0 % 32 ≠ 1 ∧ A' = A ∧ eS (if S 43 0 q = -1 then u3 (u3 S 33 0 (S 42 0 q).toNatClampNeg 2) 35 0 (S 42 0 q).toNatClampNeg (S 20 0 0) else if S 45 0 (S 44 0 q).toNatClampNeg = 1 then u3 (u3 S 25 0 k 2) 26 0 k (S 43 0 q) else S) S) ∨ (A 4 q 0 % 32 ≠ 1 ∧ A 4 (A 4 q 2) 5 = 1 ∧ A' = zu (zu A 1 k 0 2) 1 k 1 (A 4 q 1) ∧ eS (if S 43 0 q = -1 then u3 (u3 S 33 0 (S 42 0 q).toNatClampNeg 2) 35 0 (S 42 0 q).toNatClampNeg (S 20 0 0) else if S 45 0 (S 44 0 q).toNatClampNeg = 1 then u3 (u3 S 25 0 k 2) 26 0 k (S 43 0 q) else S) S))) ∧ (S 43 0 q = -1 → vp_in (S 42 0 q) 10) ∧ (¬ S 43 0 q = -1 → vp_in (S 44 0 q) 600) := by
  have hi := d.2.2.2
  have hr := d.2.1
  have hc := d.1
  have h1 := hi.k1
  have hg := hi.g320 hq
  have hl := (hi.k12 q hq).1
  have e43 := hr.k19 q hq
  have e42 := hr.k17 q hq
  by_cases e : A 4 q 0 % 32 = 1
  · rw [if_pos e] at e43
    have c42 : (S 42 0 q).toNatClampNeg = A 4 q 0 / 32 := by rw [e42, nI_clamp (by omega)]
    rw [if_pos e, if_pos e43, c42]
    refine ⟨⟨_, fun j _ => by simp [zu], zR_SD d (j := A 4 q 0 / 32) (by omega), Or.inl ⟨e, rfl, u3_at _ _ _ _ _, ((eS.rfl' S).put (by decide)).both⟩⟩, fun _ => ?_, fun z => absurd e43 z⟩
    rw [e42]
    exact vp_in_nI (by omega) (by decide)
  · rw [if_neg e] at e43
    have h13 := hi.k13 q hq e
    have n43 : ¬ S 43 0 q = -1 := by
      have := hi.q600 h13.1
      rw [e43]; exact zn_m1 (by omega)
    have e44 := hr.k20 q hq e
    have m600 := hi.q600 h13.2.1
    have c44 : (S 44 0 q).toNatClampNeg = A 4 q 2 := by rw [e44, nI_clamp (by omega)]
    have e45 := hr.k18 _ h13.2.1
    have e6 := hc.k18 _ h13.2.1
    have hd := (hi.k12 _ h13.2.1).2.2.2.2.2
    rw [h13.2.2.2] at e6
    rw [if_neg e, if_neg n43, c44, e45, e6]
    refine ⟨?_, fun z => absurd z n43, fun _ => by rw [e44]; exact vp_in_nI (by omega) (by decide)⟩
    rcases (show A 4 (A 4 q 2) 5 = 0 ∨ A 4 (A 4 q 2) 5 = 1 by omega) with z | z
    · rw [z, if_pos (by decide), if_neg (by decide)]
      exact ⟨A, zH.rfl' A, d, Or.inr (Or.inl ⟨e, rfl, eS.rfl' S⟩)⟩
    · rw [z, if_neg (by decide), if_pos (by decide), e43, ← h13.2.2.1]
      exact ⟨_, fun j _ => by simp [zu], zR_TJ d hk h0 h13.1, Or.inr (Or.inr ⟨e, rfl, rfl, ((eS.rfl' S).put (by decide)).put (by decide)⟩)⟩
theorem zc_fin (I : gI) (y k : Nat) {a : Nat} (h : a < 320) : f_X3_finishHeap I y k (nI a) y = (if a % 32 = 1 then u3 (u3 (u3 (u3 (I y) 1 k 4 (-1)) 6 0 a 1) 4 (a / 32) 1 2) 4 (a / 32) 3 (u3 (u3 (I y) 1 k 4 (-1)) 6 0 a 1 0 0 6) else if u3 (u3 (I y) 1 k 4 (-1)) 6 0 a 1 6 0 (a ^^^ 1) = 0 then u3 (u3 (I y) 1 k 4 (-1)) 6 0 a 1 else u3 (u3 (u3 (I y) 1 k 4 (-1)) 6 0 a 1) 1 k 6 (nI (a - a % 32 + a % 32 / 2))) := by
  have hx := zn_xor_lt a h
  simp only [f_X3_finishHeap]
  rw [if_neg (nI_pos (by omega)), if_pos (zc_320' h), zc_rem (by omega)]
  by_cases e : a % 32 = 1
  · rw [if_pos e, if_pos (by rw [e]; rfl)]
    simp only [gU_at, zc_loadOf _ _ h, nI_clamp (show a < 2 ^ 31 by omega), u3_skip _ _ _ _ (show (0 : Nat) ≠ 4 by decide)]
  · rw [if_neg e, if_neg (show ¬ nI (a % 32) = 1 from fun z => e ((nI_eq (a := a % 32) (b := 1) (by omega) (by decide)).mp z))]
    simp only [f_X3_otherHalf, zn_xor a h, nI_clamp (show a < 2 ^ 31 by omega), nI_clamp (show a ^^^ 1 < 2 ^ 31 by omega), gU_at, pk_sub (show a % 32 ≤ a by omega), zc_half (show a % 32 < 2 ^ 31 by omega), nI_add]
    by_cases e2 : u3 (u3 (I y) 1 k 4 (-1)) 6 0 a 1 6 0 (a ^^^ 1) = 0
    · rw [if_pos e2, if_pos e2]
      simp only [gU_at]
    · rw [if_neg e2, if_neg e2]
      simp only [gU_at]
theorem zr_fin (J : gI) (z : Nat) {k q : Nat} (hk : k < 2 ^ 31) (hq : q < 2 ^ 31) : f_X5_finish J z (nI k) (nI q) z = (if u3 (u3 (J z) 45 0 q 1) 25 0 k 0 43 0 q = -1 then u3 (u3 (u3 (u3 (J z) 45 0 q 1) 25 0 k 0) 33 0 (u3 (u3 (J z) 45 0 q 1) 25 0 k 0 42 0 q).toNatClampNeg 2) 35 0 (u3 (u3 (J z) 45 0 q 1) 25 0 k 0 42 0 q).toNatClampNeg (u3 (u3 (J z) 45 0 q 1) 25 0 k 0 20 0 0) else if u3 (u3 (J z) 45 0 q 1) 25 0 k 0 45 0 (u3 (u3 (J z) 45 0 q 1) 25 0 k 0 44 0 q).toNatClampNeg = 1 then u3 (u3 (u3 (u3 (J z) 45 0 q 1) 25 0 k 0) 25 0 k 2) 26 0 k (u3 (u3 (J z) 45 0 q 1) 25 0 k 0 43 0 q) else u3 (u3 (J z) 45 0 q 1) 25 0 k 0) := by
  simp only [f_X5_finish, nI_clamp hk, nI_clamp hq, gU_at]
  by_cases e : u3 (u3 (J z) 45 0 q 1) 25 0 k 0 43 0 q = -1
  · rw [if_pos e, if_pos e]
    simp only [gU_at, u3_skip _ _ _ _ (show (42 : Nat) ≠ 33 by decide), u3_skip _ _ _ _ (show (20 : Nat) ≠ 33 by decide)]
  · rw [if_neg e, if_neg e]
    by_cases e2 : u3 (u3 (J z) 45 0 q 1) 25 0 k 0 45 0 (u3 (u3 (J z) 45 0 q 1) 25 0 k 0 44 0 q).toNatClampNeg = 1
    · rw [if_pos e2, if_pos e2]
      simp only [gU_at]
      rw [u3_skip (u3 (u3 (J z) 45 0 q 1) 25 0 k 0) 0 k 2 (show (43 : Nat) ≠ 25 by decide)]
    · rw [if_neg e2, if_neg e2]
      simp only [gU_at]
/-- a heap is done: both sides -/
theorem zT_fin {ko K k q y z : Nat} {A : zN} {I J : gI} (h : zR ko K A (I y) (J 2) (J z)) (hk : k < A 0 0 0) (h0 : A 1 k 0 = 0) (hq : q < A 0 0 2) :
    ok_X5_finish J z (nI k) (nI q) ∧ ∃ A', zH A' A ∧ zR ko K A' (f_X3_finishHeap I y k (nI (A 4 q 0)) y) (J 2) (f_X5_finish J z (nI k) (nI q) z) ∧ ∀ T i t, 0 < i → J z 30 0 k = T 30 0 k → zgF T i t q A (J 2) (J z) → zg T i t A' (J 2) (f_X5_finish J z (nI k) (nI q) z) := by
  have hi := h.2.2.2
  have h1 := hi.k1
  have hg := hi.g320 hq
  have q3 := hi.q600 hq
  have d := zR_DN h hk h0 hq
  have f0 : zH (zu A 4 q 5 1) A := fun j _ => by simp [zu]
  have f1 : zu A 4 q 5 1 0 0 0 = A 0 0 0 := by simp [zu]
  have f2 : zu A 4 q 5 1 1 k 0 = A 1 k 0 := by simp [zu]
  have f3 : zu A 4 q 5 1 0 0 2 = A 0 0 2 := by simp [zu]
  have f4 : zu A 4 q 5 1 4 q 0 = A 4 q 0 := by simp [zu]
  rw [zc_fin I y k hg, zr_fin J z (by omega) (by omega)]
  obtain ⟨⟨A', a1, a2, a3⟩, b1, b2⟩ := zT_fin1 d (by rw [f1]; exact hk) (by rw [f2]; exact h0) (by rw [f3]; exact hq)
  rw [f4] at a2 a3
  have f5 : zu A 4 q 5 1 4 q 1 = A 4 q 1 := by simp [zu]
  have f6 : zu A 4 q 5 1 4 q 2 = A 4 q 2 := by simp [zu]
  have b0 : eS (u3 (u3 (J z) 45 0 q 1) 25 0 k 0) (J z) := ((eS.rfl' _).put (by decide)).put (by decide)
  refine ⟨?_, A', a1.trans' f0, a2, fun T i t hii hrow hF => ?_⟩
  rotate_left
  · rcases a3 with ⟨r1, r2, r3, r4⟩ | ⟨r1, r2, r3⟩ | ⟨r1, r2, r3, r4⟩
    · rw [b0.1 0 (by decide)] at r3 r4
      rw [r2]
      exact zg_finR hi hq hF hii r1 r3 (r4.trans b0.both)
    · rw [r2]
      exact (zg_fin0 hi hq hF r1).eS (r3.trans b0)
    · rw [f5] at r3
      rw [f6] at r2
      rw [r3]
      have hne : A 4 q 2 ≠ q := fun c => by
        have h13 := (hi.k13 q hq r1).2.2.2
        have hx := zx_xor _ hg
        rw [c] at h13
        split at hx <;> omega
      have hm : A 4 (A 4 q 2) 5 = 1 := by
        simpa [zu, hne] using r2
      exact (zg_finJ hi hq hk h0 hF r1 hm hrow).eS (r4.trans b0)
  unfold ok_X5_finish
  refine ⟨vp_in_nI (by omega) (by decide), ?_⟩
  rintro _ rfl
  refine ⟨vp_in_nI (by omega) (by decide), ?_⟩
  rintro _ rfl
  simp only [nI_clamp (show k < 2 ^ 31 by omega), nI_clamp (show q < 2 ^ 31 by omega), gU_at]
  refine ⟨fun c => ⟨b1 c, ?_⟩, fun c => ⟨b2 c, fun _ _ _ _ _ => trivial, fun _ => trivial⟩⟩
  rintro _ rfl
  refine ⟨?_, fun _ _ => trivial⟩
  simp only [gU_at, u3_skip _ _ _ _ (show (42 : Nat) ≠ 33 by decide)]
  exact b1 c
theorem u3_com (Y : gY) {t i j t' i' j' : Nat} (x x' : Int32) (h : t ≠ t') : u3 (u3 Y t i j x) t' i' j' x' = u3 (u3 Y t' i' j' x') t i j x := by
  funext a b c
  simp only [u3]
  by_cases e : a = t'
  · subst e
    have : ¬ a = t := fun q => h q.symm
    simp [this]
  · simp [e]
theorem u3_dup (Y : gY) (t i j : Nat) (x x' : Int32) : u3 (u3 Y t i j x) t i j x' = u3 Y t i j x' := by
  funext a b c
  simp only [u3]
  by_cases e : a = t ∧ b = i ∧ c = j <;> simp [e]
theorem gU_ext {I J : gI} {y t i j : Nat} {x : Int32} {Y : gY} (h : J y = Y) (hn : ∀ y', y' ≠ y → J y' = I y') (he : Y = u3 (I y) t i j x) : J = gU I y t i j x := by
  funext y'
  by_cases e : y' = y
  · subst e
    rw [h, he, gU_at]
  · rw [hn y' e, gU_ne _ _ _ _ _ e]
theorem gU_dup (I : gI) (y t i j : Nat) (x x' : Int32) : gU (gU I y t i j x) y t i j x' = gU I y t i j x' := by
  refine gU_ext (Y := u3 (I y) t i j x') ?_ (fun y' e => ?_) rfl
  · rw [gU_at, gU_at, u3_dup]
  · rw [gU_ne _ _ _ _ _ e, gU_ne _ _ _ _ _ e]
theorem gU_com (I : gI) {y t i j t' i' j' : Nat} (x x' : Int32) (h : t ≠ t') : gU (gU I y t i j x) y t' i' j' x' = gU (gU I y t' i' j' x') y t i j x := by
  funext y'
  by_cases e : y' = y
  · subst e
    simp only [gU_at]
    exact u3_com _ _ _ h
  · simp only [gU_ne _ _ _ _ _ e]
theorem zc_fin4 (I : gI) (y k : Nat) (x : Int32) : f_X3_finishHeap (gU I y 1 k 4 (-1)) y k x = f_X3_finishHeap I y k x := by
  simp only [f_X3_finishHeap, gU_dup]
theorem gU_25 (J : gI) (z k q : Nat) : gU (gU (gU J z 25 0 k 0) z 45 0 q 1) z 25 0 k 0 = gU (gU J z 45 0 q 1) z 25 0 k 0 := by
  rw [gU_com J 0 1 (show 25 ≠ 45 by decide), gU_dup]
theorem zr_fin25 (J : gI) (z k : Nat) (x : Int32) (hk : k < 2 ^ 31) : f_X5_finish (gU J z 25 0 k 0) z (nI k) x = f_X5_finish J z (nI k) x := by
  simp only [f_X5_finish, nI_clamp hk, gU_25]
theorem zo_fin25 (J : gI) (z k : Nat) (x : Int32) (hk : k < 2 ^ 31) (h : ok_X5_finish (gU J z 25 0 k 0) z (nI k) x) : ok_X5_finish J z (nI k) x := by
  unfold ok_X5_finish at h ⊢
  refine ⟨h.1, ?_⟩
  rintro _ rfl
  refine ⟨(h.2 _ rfl).1, ?_⟩
  rintro _ rfl
  have h2 := (h.2 _ rfl).2 _ rfl
  simp only [nI_clamp hk, gU_25] at h2 ⊢
  exact h2
theorem zB_le (p : Nat) : zB p ≤ 60 := by
  unfold zB
  (repeat' split) <;> omega
/-- a lad pitches -/
theorem zT_pitch {ko K k y z : Nat} {A : zN} {I J : gI} (h : zR ko K A (I y) (J 2) (J z)) (hz : z ≠ 2) (hK : K + 1 ≤ 1000000) (hk : k < A 0 0 0) (h0 : A 1 k 0 = 1) :
    ok_X5_pitch J z (nI k) (nI (A 1 k 1)) (nI (A 1 k 4)) ∧ ∃ A', zH A' A ∧ zR ko (K + 1) A' (f_X3_pitch I y k y) (J 2) (f_X5_pitch J z (nI k) (nI (A 1 k 1)) (nI (A 1 k 4)) z) ∧ ∀ T t, zg T k t A (J 2) (J z) → zg T (k + 1) t A' (J 2) (f_X5_pitch J z (nI k) (nI (A 1 k 1)) (nI (A 1 k 4)) z) := by
  have hi := h.2.2.2
  have hc := h.1
  have hr := h.2.1
  have h1 := hi.k1
  have hk6 : k < 6 := by omega
  have hw : k < A 0 0 3 := by omega
  have hs := hi.k3 k hk
  have hq := hi.k9 k hk6 (Or.inl h0)
  have q3 := hi.q600 hq
  have hg := hi.g320 hq
  have h12 := hi.k12 _ hq
  have hj : A 4 (A 1 k 1) 0 / 32 < A 0 0 1 := by omega
  have hl60 : A 4 (A 1 k 1) 4 ≤ 60 := by
    have h1 := h12.2.2.2.1
    have h2 := zB_le (A 4 (A 1 k 1) 0 % 32)
    omega
  have e5 := hc.k8 k hw
  rw [if_pos h0] at e5
  have e4 := hc.k7 k hw
  rw [if_pos h0] at e4
  have e1 := hc.k12 k hk
  have e6 := hc.k15 _ (show A 4 (A 1 k 1) 0 / 32 < A 0 0 4 by omega)
  have s41 := hr.k16 _ hq
  have s42 := hr.k17 _ hq
  have s38 := hr.k11 _ (show A 4 (A 1 k 1) 0 / 32 < A 0 0 4 by omega)
  have s20 := hr.k22
  obtain ⟨d, hd, hd9, hd1, hd2⟩ : ∃ d, d ≤ A 4 (A 1 k 1) 4 ∧ d ≤ 9 ∧ (A 1 k 4 ≤ A 4 (A 1 k 1) 4 → d = A 1 k 4) ∧ (A 4 (A 1 k 1) 4 < A 1 k 4 → d = A 4 (A 1 k 1) 4) := ⟨min (A 1 k 4) (A 4 (A 1 k 1) 4), by omega, by omega, by omega, by omega⟩
  have p := zR_PD h hk h0 hd hd9 hK
  -- the class's world
  have ecl : ∃ I2 : gI, I2 y = u3 (u3 (I y) 1 k 5 (nI (A 4 (A 1 k 1) 4 - d))) 4 (A 4 (A 1 k 1) 0 / 32) 6 (nI (A 3 (A 4 (A 1 k 1) 0 / 32) 2 + d)) ∧ f_X3_pitch I y k = if A 4 (A 1 k 1) 4 - d = 0 then f_X3_finishHeap I2 y k (nI (A 4 (A 1 k 1) 0)) else I2 := by
    have hlo : ∀ I' : gI, f_X3_loadOf I' y (nI (A 4 (A 1 k 1) 0)) = A 4 (A 1 k 1) 0 / 32 := fun I' => zc_loadOf I' y hg
    have fin : ∀ x : Int32, x = nI d → ∃ I2 : gI, I2 y = u3 (u3 (I y) 1 k 5 (nI (A 4 (A 1 k 1) 4 - d))) 4 (A 4 (A 1 k 1) 0 / 32) 6 (nI (A 3 (A 4 (A 1 k 1) 0 / 32) 2 + d)) ∧ I2 = gU (gU I y 1 k 5 ((I y 1 k 5) - x)) y 4 (f_X3_loadOf (gU I y 1 k 5 ((I y 1 k 5) - x)) y (gU I y 1 k 5 ((I y 1 k 5) - x) y 1 k 4)) 6 ((gU I y 1 k 5 ((I y 1 k 5) - x) y 4 (f_X3_loadOf (gU I y 1 k 5 ((I y 1 k 5) - x)) y (gU I y 1 k 5 ((I y 1 k 5) - x) y 1 k 4)) 6) + x) ∧ I2 y 1 k 5 = nI (A 4 (A 1 k 1) 4 - d) ∧ I2 y 1 k 4 = nI (A 4 (A 1 k 1) 0) := by
      rintro _ rfl
      have ez : (gU I y 1 k 5 ((I y 1 k 5) - nI d)) y = u3 (I y) 1 k 5 (nI (A 4 (A 1 k 1) 4 - d)) := by rw [gU_at, e5, pk_sub hd]
      have e4' : gU I y 1 k 5 ((I y 1 k 5) - nI d) y 1 k 4 = nI (A 4 (A 1 k 1) 0) := by rw [ez, u3_skipj _ _ (by decide), e4]
      have e6' : gU I y 1 k 5 ((I y 1 k 5) - nI d) y 4 (A 4 (A 1 k 1) 0 / 32) 6 = nI (A 3 (A 4 (A 1 k 1) 0 / 32) 2) := by rw [ez, u3_skip _ _ _ _ (by decide), e6]
      have e0 : (gU (gU I y 1 k 5 ((I y 1 k 5) - nI d)) y 4 (f_X3_loadOf (gU I y 1 k 5 ((I y 1 k 5) - nI d)) y (gU I y 1 k 5 ((I y 1 k 5) - nI d) y 1 k 4)) 6 ((gU I y 1 k 5 ((I y 1 k 5) - nI d) y 4 (f_X3_loadOf (gU I y 1 k 5 ((I y 1 k 5) - nI d)) y (gU I y 1 k 5 ((I y 1 k 5) - nI d) y 1 k 4)) 6) + nI d)) y = u3 (u3 (I y) 1 k 5 (nI (A 4 (A 1 k 1) 4 - d))) 4 (A 4 (A 1 k 1) 0 / 32) 6 (nI (A 3 (A 4 (A 1 k 1) 0 / 32) 2 + d)) := by
        rw [gU_at, e4', hlo, e6', ez, nI_add]
      refine ⟨_, e0, rfl, ?_, ?_⟩
      · rw [e0, u3_skip _ _ _ _ (by decide), u3_at]
      · rw [e0, u3_skip _ _ _ _ (by decide), u3_skipj _ _ (by decide), e4]
    have last : ∀ I2 : gI, I2 y 1 k 5 = nI (A 4 (A 1 k 1) 4 - d) → I2 y 1 k 4 = nI (A 4 (A 1 k 1) 0) → (if I2 y 1 k 5 = 0 then f_X3_finishHeap I2 y k (I2 y 1 k 4) else I2) = if A 4 (A 1 k 1) 4 - d = 0 then f_X3_finishHeap I2 y k (nI (A 4 (A 1 k 1) 0)) else I2 := by
      intro I2 a b
      rw [a, b]
      by_cases e : A 4 (A 1 k 1) 4 - d = 0
      · rw [if_pos e, if_pos (by rw [e]; rfl)]
      · rw [if_neg e, if_neg (nI_ne0 (by omega) (by omega))]
    by_cases e : A 1 k 4 ≤ A 4 (A 1 k 1) 4
    · obtain ⟨I2, a1, a2, a3, a4⟩ := fin (I y 1 k 1) (by rw [e1, hd1 e])
      refine ⟨I2, a1, ?_⟩
      rw [← last I2 a3 a4, a2]
      simp only [f_X3_pitch]
      rw [if_pos (by rw [e1, e5]; exact nI_le e (by omega))]
    · obtain ⟨I2, a1, a2, a3, a4⟩ := fin (I y 1 k 5) (by rw [e5, hd2 (by omega)])
      refine ⟨I2, a1, ?_⟩
      rw [← last I2 a3 a4, a2]
      simp only [f_X3_pitch]
      rw [if_neg (by rw [e1, e5]; exact nI_ge (by omega) (by omega))]
  obtain ⟨I2, ecy, ecl⟩ := ecl
  -- the model's world
  have emin : (if nI (A 4 (A 1 k 1) 4) < nI (A 1 k 4) then nI (A 4 (A 1 k 1) 4) else nI (A 1 k 4)) = nI d := by
    by_cases e : A 1 k 4 ≤ A 4 (A 1 k 1) 4
    · rw [if_neg (nI_nlt e (by omega)), hd1 e]
    · rw [if_pos (nI_lt (by omega) (by omega)), hd2 (by omega)]
  obtain ⟨J3, hJ3⟩ : ∃ J3 : gI, J3 = gU (gU (gU J z 41 0 (A 1 k 1) (nI (A 4 (A 1 k 1) 4 - d))) z 38 0 (A 4 (A 1 k 1) 0 / 32) (nI (A 3 (A 4 (A 1 k 1) 0 / 32) 2 + d))) z 20 0 4 (nI (zsm (fun j => A 3 j 2) (A 0 0 1) + d)) := ⟨_, rfl⟩
  have J3z : J3 z = u3 (u3 (u3 (J z) 41 0 (A 1 k 1) (nI (A 4 (A 1 k 1) 4 - d))) 38 0 (A 4 (A 1 k 1) 0 / 32) (nI (A 3 (A 4 (A 1 k 1) 0 / 32) 2 + d))) 20 0 4 (nI (zsm (fun j => A 3 j 2) (A 0 0 1) + d)) := by rw [hJ3]; simp only [gU_at]
  have J32 : J3 2 = J 2 := by rw [hJ3]; simp only [gU_ne _ _ _ _ _ (Ne.symm hz)]
  have c1 : ∀ I1, I1 = gU J z 41 0 (A 1 k 1) (nI (A 4 (A 1 k 1) 4 - d)) → I1 z 42 0 (A 1 k 1) = nI (A 4 (A 1 k 1) 0 / 32) ∧ I1 z 38 0 (A 4 (A 1 k 1) 0 / 32) = nI (A 3 (A 4 (A 1 k 1) 0 / 32) 2) := by
    rintro _ rfl
    rw [gU_at, u3_skip _ _ _ _ (by decide), u3_skip _ _ _ _ (by decide), s42, s38]
    exact ⟨rfl, rfl⟩
  have c2 : ∀ I2, I2 = gU (gU J z 41 0 (A 1 k 1) (nI (A 4 (A 1 k 1) 4 - d))) z 38 0 (A 4 (A 1 k 1) 0 / 32) (nI (A 3 (A 4 (A 1 k 1) 0 / 32) 2 + d)) → I2 z 20 0 4 = nI (zsm (fun j => A 3 j 2) (A 0 0 1)) := by
    rintro _ rfl
    simp only [gU_at]
    rw [u3_skip _ _ _ _ (by decide), u3_skip _ _ _ _ (by decide), s20]
  have c3 : J3 z 41 0 (A 1 k 1) = nI (A 4 (A 1 k 1) 4 - d) := by rw [J3z, u3_skip _ _ _ _ (by decide), u3_skip _ _ _ _ (by decide), u3_at]
  have emod : f_X5_pitch J z (nI k) (nI (A 1 k 1)) (nI (A 1 k 4)) = if A 4 (A 1 k 1) 4 - d = 0 then f_X5_finish J3 z (nI k) (nI (A 1 k 1)) else J3 := by
    simp only [f_X5_pitch, nI_clamp (show A 1 k 1 < 2 ^ 31 by omega), s41, emin, pk_sub hd, (c1 _ rfl).1, nI_clamp (show A 4 (A 1 k 1) 0 / 32 < 2 ^ 31 by omega), (c1 _ rfl).2, nI_add, c2 _ rfl, ← hJ3, c3]
    by_cases e : A 4 (A 1 k 1) 4 - d = 0
    · rw [if_pos e, if_pos (by rw [e]; rfl)]
    · rw [if_neg e, if_neg (nI_ne0 (by omega) (by omega))]
  have p2 : zR ko (K + 1) (zu (zu A 4 (A 1 k 1) 4 (A 4 (A 1 k 1) 4 - d)) 3 (A 4 (A 1 k 1) 0 / 32) 2 (A 3 (A 4 (A 1 k 1) 0 / 32) 2 + d)) (I2 y) (J3 2) (J3 z) := by rw [ecy, J32, J3z]; exact p
  obtain ⟨A2, hA2⟩ : ∃ A2, A2 = zu (zu A 4 (A 1 k 1) 4 (A 4 (A 1 k 1) 4 - d)) 3 (A 4 (A 1 k 1) 0 / 32) 2 (A 3 (A 4 (A 1 k 1) 0 / 32) 2 + d) := ⟨_, rfl⟩
  rw [← hA2] at p2
  have hH : zH A2 A := fun j _ => by rw [hA2]; simp [zu]
  have f0 : A2 0 0 0 = A 0 0 0 := hH 0 (by decide)
  have f1 : A2 1 k 0 = A 1 k 0 := by rw [hA2]; simp [zu]
  have f2 : A2 1 k 1 = A 1 k 1 := by rw [hA2]; simp [zu]
  have f3 : A2 4 (A 1 k 1) 4 = A 4 (A 1 k 1) 4 - d := by rw [hA2]; simp [zu]
  have f4 : A2 4 (A 1 k 1) 0 = A 4 (A 1 k 1) 0 := by rw [hA2]; simp [zu]
  have f5 : A2 0 0 2 = A 0 0 2 := by rw [hA2]; simp [zu]
  have okp : (A 4 (A 1 k 1) 4 - d = 0 → ok_X5_finish J3 z (nI k) (nI (A 1 k 1))) → ok_X5_pitch J z (nI k) (nI (A 1 k 1)) (nI (A 1 k 4)) := by
    intro hf
    unfold ok_X5_pitch
    simp only [nI_clamp (show A 1 k 1 < 2 ^ 31 by omega), s41, emin, pk_sub hd]
    refine ⟨vp_in_nI (by omega) (by decide), ?_⟩
    rintro _ rfl
    rw [(c1 _ rfl).1]
    refine ⟨vp_in_nI (by omega) (by decide), ?_⟩
    simp only [nI_clamp (show A 4 (A 1 k 1) 0 / 32 < 2 ^ 31 by omega), (c1 _ rfl).2, nI_add]
    rintro _ rfl
    simp only [c2 _ rfl, nI_add]
    rintro _ rfl
    rw [← hJ3, c3]
    refine ⟨fun e => ⟨hf ?_, fun _ _ => trivial⟩, fun _ => trivial⟩
    exact Nat.eq_zero_of_not_pos fun q => nI_ne0 q (by omega) e
  by_cases e : A 4 (A 1 k 1) 4 - d = 0
  · have dr := zR_DR1 p2 (by rw [f0]; exact hk) (by rw [f1]; exact h0) (by rw [f2, f3]; exact e)
    have dr2 : zR ko (K + 1) (zu A2 1 k 0 0) (gU I2 y 1 k 4 (-1) y) (gU J3 z 25 0 k 0 2) (gU J3 z 25 0 k 0 z) := by
      rw [gU_at, gU_at, gU_ne _ _ _ _ _ (Ne.symm hz)]; exact dr
    obtain ⟨o1, A', a1, a2, a3⟩ := zT_fin (k := k) (q := A 1 k 1) dr2 (by simp [zu]; omega) (by simp [zu]) (by simp [zu]; omega)
    have o2 := zo_fin25 _ _ _ _ (show k < 2 ^ 31 by omega) o1
    refine ⟨okp fun _ => o2, A', a1.trans' (fun j hj => by simp [zu]; exact hH j hj), ?_, fun T t hg => ?_⟩
    rotate_left
    · rw [emod, if_pos e]
      have hrow : gU J3 z 25 0 k 0 z 30 0 k = T 30 0 k := by
        have : gU J3 z 25 0 k 0 z 30 0 k = J z 30 0 k := by rw [gU_at, J3z]; simp (disch := decide) only [u3_skip]
        rw [this]
        rcases hg.2.2.2.2.2.2 k hk with y | ⟨y, -⟩
        · exact y
        · omega
      have H := zg_PD (S' := gU J3 z 25 0 k 0 z) hi hg hk h0 hd (by omega) (zu A2 1 k 0 0) (fun _ => by simp [zu]) (fun q => absurd e q) (fun j => by rw [hA2]; simp [zu]) (fun i j q => by rw [hA2]; simp [zu]; omega) (fun i j => by rw [hA2]; simp only [zu]; grind) (fun i j => by rw [hA2]; simp only [zu]; grind) (by rw [gU_at, u3_skip _ _ _ _ (by decide), J3z, u3_at, s20, nI_add]) (by rw [gU_at, J3z, s20, nI_add]; exact (((eS.rfl' _).put (by decide)).put (by decide)).both.put (by decide))
      have G := zg_PDF (A' := zu A2 1 k 0 0) hi hg.1 hk h0 (fun j => by rw [hA2]; simp [zu]) (by simp [zu]) (fun i j q => by rw [hA2]; simp [zu]; omega) (fun j => by rw [hA2]; simp [zu]) (fun i j q => by rw [hA2]; simp [zu, q]) (by rw [hA2]; simp [zu]; omega) H
      have e2 : gU J3 z 25 0 k 0 2 = J 2 := by rw [gU_ne _ _ _ _ _ (Ne.symm hz), J32]
      rw [e2] at a3
      have := a3 T (k + 1) t (Nat.succ_pos k) hrow G
      rw [zr_fin25 _ _ _ _ (show k < 2 ^ 31 by omega)] at this
      exact this
    rw [ecl, emod, if_pos e, if_pos e]
    rw [zr_fin25 _ _ _ _ (show k < 2 ^ 31 by omega), zc_fin4, gU_ne _ _ _ _ _ (Ne.symm hz), J32] at a2
    have e8 : zu A2 1 k 0 0 4 (A 1 k 1) 0 = A 4 (A 1 k 1) 0 := by rw [← f4]; simp [zu]
    rw [e8] at a2
    exact a2
  · refine ⟨okp fun q => absurd q e, A2, hH, ?_, fun T t hg => ?_⟩
    rotate_left
    · rw [emod, if_neg e]
      exact zg_PD hi hg hk h0 hd (by omega) A2 (fun q => absurd q e) (fun _ => by rw [hA2]; simp [zu]; exact h0) (fun j => by rw [hA2]; simp [zu]) (fun i j q => by rw [hA2]; simp [zu]) (fun i j => by rw [hA2]; simp only [zu]; grind) (fun i j => by rw [hA2]; simp only [zu]; grind) (by rw [J3z, u3_at, s20, nI_add]) (by rw [J3z, s20, nI_add]; exact (((eS.rfl' _).put (by decide)).put (by decide)).both)
    rw [ecl, emod, if_neg e, if_neg e, ← J32]
    exact p2
