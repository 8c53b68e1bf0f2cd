/-! WHAT THE LAW CHECKS of a yard, in the class's words -/
def jC (a b : Nat) (J : gI) : Prop :=
  (a ≤ 6 ∧ b ≤ 10 ∧ J 0 0 0 4 = nI a ∧ J 0 0 0 5 = nI b) ∧
  (∀ k, k < a → ∃ d c, d ≤ 3 ∧ c ≤ 8 ∧ f_X1_tell J 0 k 3 = nI d ∧ f_X1_tell J 0 k 2 = nI c ∧ (0 < f_X1_tell J 0 k 4 ↔ d = 1) ∧ (0 ≤ f_X1_tell J 0 k 8 ↔ d = 1 ∨ d = 2)) ∧
  (∀ k, k < a → (f_X3_victimOf J 0 k = -1 ∧ ∀ o, o < a → o ≠ k → f_X1_tell J 0 o 2 = 0) ∨ ∃ v, v < a ∧ v ≠ k ∧ f_X3_victimOf J 0 k = nI v ∧ f_X1_tell J 0 v 2 ≠ 0) ∧
  (∀ l, l < b → ∃ s p w, s ≤ 2 ∧ p ≤ w ∧ w ≤ 60 ∧ f_X2_tell J 0 l 1 = nI s ∧ f_X2_tell J 0 l 6 = nI p ∧ f_X2_tell J 0 l 0 = nI w ∧ (s = 0 → p = 0 ∧ f_X2_tell J 0 l 2 = 1) ∧ (s = 2 → p = w) ∧ (0 ≤ f_X2_tell J 0 l 5 ↔ s = 2) ∧ (s = 2 → f_X2_tell J 0 l 4 < f_X2_tell J 0 l 5 ∧ f_X2_tell J 0 l 5 < f_X3_tell J 0 0) ∧ ∃ q, q < 1000 ∧ f_X2_tell J 0 l 2 = nI q ∧ q % 2 = 1)
def jS (a b : Nat) (J : gI) : Prop :=
  f_X3_tell J 0 3 = ssm (fun l => if f_X2_tell J 0 l 1 = 2 then 1 else 0) b ∧
  f_X3_tell J 0 4 = ssm (fun l => if f_X2_tell J 0 l 1 = 0 then 1 else 0) b ∧
  f_X3_tell J 0 5 = ssm (fun k => f_X1_tell J 0 k 2) a ∧
  f_X3_tell J 0 6 = ssm (fun k => if f_X1_tell J 0 k 3 = 3 then 1 else 0) a ∧
  f_X3_tell J 0 7 = ssm (fun k => f_X1_tell J 0 k 5) a ∧
  ssm (fun k => f_X1_tell J 0 k 6) a = ssm (fun k => f_X1_tell J 0 k 5) a ∧
  ssm (fun l => f_X2_tell J 0 l 3) b = ssm (fun k => f_X1_tell J 0 k 5) a ∧
  f_X3_tell J 0 10 = ssm (fun k => f_X1_tell J 0 k 7) a ∧
  f_X3_tell J 0 11 = ssm (fun l => f_X2_tell J 0 l 6) b ∧
  ssm (fun l => f_X2_tell J 0 l 2) b = nI b + 2 * f_X3_tell J 0 8 ∧
  f_X3_tell J 0 9 ≤ f_X3_tell J 0 8 ∧
  (ssm (fun l => if f_X2_tell J 0 l 1 = 2 then 1 else 0) b = nI b → f_X3_tell J 0 9 = f_X3_tell J 0 8)
theorem ssm_loop {g : Nat → Int32} {F : Nat → Nat → Int32 → Int32} (h0 : ∀ i a, F 0 i a = a) (hs : ∀ m i a, F (m + 1) i a = F m (i + 1) (a + g i)) : ∀ m i, F m i (ssm g i) = ssm g (i + m) := by
  intro m
  induction m with
  | zero => intro i; rw [h0]; rfl
  | succ m ih =>
    intro i
    rw [hs]
    have := ih (i + 1)
    simp only [ssm] at this
    rw [this, show i + 1 + m = i + (m + 1) by omega]
theorem ssm_loop0 {g : Nat → Int32} {F : Nat → Nat → Int32 → Int32} (h0 : ∀ i a, F 0 i a = a) (hs : ∀ m i a, F (m + 1) i a = F m (i + 1) (a + g i)) (n : Nat) : F n 0 0 = ssm g n := by
  have := ssm_loop h0 hs n 0
  rw [Nat.zero_add] at this
  exact this
theorem tell_sl (J : gI) (x : Int32) (n : Nat) (hn : J 0 0 0 4 = nI n) (h6 : n ≤ 6) : f_X3_sumOverLads J 0 x = ssm (fun k => f_X1_tell J 0 k x) n := by
  unfold f_X3_sumOverLads
  rw [hn, nI_clamp (by omega)]
  exact ssm_loop0 (F := fun m i a => f_X3_sumOverLads_l1 0 x m i a J) (fun _ _ => rfl) (fun _ _ _ => rfl) n
theorem tell_so (J : gI) (x : Int32) (n : Nat) (hn : J 0 0 0 5 = nI n) (h6 : n ≤ 10) : f_X3_sumOverLoads J 0 x = ssm (fun k => f_X2_tell J 0 k x) n := by
  unfold f_X3_sumOverLoads
  rw [hn, nI_clamp (by omega)]
  exact ssm_loop0 (F := fun m i a => f_X3_sumOverLoads_l1 0 x m i a J) (fun _ _ => rfl) (fun _ _ _ => rfl) n
theorem i32_0 (a : Int32) : a + 0 = a := Int32.add_zero a
theorem tell_that (J : gI) (x : Int32) (n : Nat) (hn : J 0 0 0 5 = nI n) (h6 : n ≤ 10) : f_X3_loadsThatAre J 0 x = ssm (fun k => if f_X2_tell J 0 k 1 = x then 1 else 0) n := by
  unfold f_X3_loadsThatAre
  rw [hn, nI_clamp (by omega)]
  refine ssm_loop0 (F := fun m i a => f_X3_loadsThatAre_l1 0 x m i a J) (fun _ _ => rfl) (fun m i a => ?_) n
  simp only [f_X3_loadsThatAre_l1]
  have e : f_X2_tell J 0 i 1 = J 0 4 i 1 := by
    unfold f_X2_tell
    rw [if_neg (by decide), if_pos rfl]
  rw [e]
  by_cases c : J 0 4 i 1 = x
  · rw [if_pos c, if_pos c]
  · rw [if_neg c, if_neg c, i32_0]
theorem t3 (J : gI) : f_X3_tell J 0 3 = f_X3_loadsThatAre J 0 2 := by unfold f_X3_tell; rw [if_neg (by decide), if_neg (by decide), if_neg (by decide), if_pos rfl]
theorem t4 (J : gI) : f_X3_tell J 0 4 = f_X3_loadsThatAre J 0 0 := by unfold f_X3_tell; rw [if_neg (by decide), if_neg (by decide), if_neg (by decide), if_neg (by decide), if_pos rfl]
theorem t5 (J : gI) : f_X3_tell J 0 5 = f_X3_sumOverLads J 0 2 := by unfold f_X3_tell; rw [if_neg (by decide), if_neg (by decide), if_neg (by decide), if_neg (by decide), if_neg (by decide), if_pos rfl]
theorem t6 (J : gI) : f_X3_tell J 0 6 = f_X3_sleepers J 0 := by unfold f_X3_tell; rw [if_neg (by decide), if_neg (by decide), if_neg (by decide), if_neg (by decide), if_neg (by decide), if_neg (by decide), if_pos rfl]
theorem t7 (J : gI) : f_X3_tell J 0 7 = f_X3_sumOverLads J 0 5 := by unfold f_X3_tell; rw [if_neg (by decide), if_neg (by decide), if_neg (by decide), if_neg (by decide), if_neg (by decide), if_neg (by decide), if_neg (by decide), if_pos rfl]
theorem t8 (J : gI) : f_X3_tell J 0 8 = J 0 0 0 8 := by unfold f_X3_tell; rw [if_neg (by decide), if_neg (by decide), if_neg (by decide), if_neg (by decide), if_neg (by decide), if_neg (by decide), if_neg (by decide), if_neg (by decide), if_pos rfl]
theorem t9 (J : gI) : f_X3_tell J 0 9 = J 0 0 0 9 := by unfold f_X3_tell; rw [if_neg (by decide), if_neg (by decide), if_neg (by decide), if_neg (by decide), if_neg (by decide), if_neg (by decide), if_neg (by decide), if_neg (by decide), if_neg (by decide), if_pos rfl]
theorem t10 (J : gI) : f_X3_tell J 0 10 = f_X3_sumOverLads J 0 7 := by unfold f_X3_tell; rw [if_neg (by decide), if_neg (by decide), if_neg (by decide), if_neg (by decide), if_neg (by decide), if_neg (by decide), if_neg (by decide), if_neg (by decide), if_neg (by decide), if_neg (by decide), if_pos rfl]
theorem t11 (J : gI) : f_X3_tell J 0 11 = f_X3_sumOverLoads J 0 6 := by unfold f_X3_tell; rw [if_neg (by decide), if_neg (by decide), if_neg (by decide), if_neg (by decide), if_neg (by decide), if_neg (by decide), if_neg (by decide), if_neg (by decide), if_neg (by decide), if_neg (by decide), if_neg (by decide), if_pos rfl]
theorem t0 (J : gI) : f_X3_tell J 0 0 = J 0 0 0 6 := by unfold f_X3_tell; rw [if_pos rfl]
theorem t1 (J : gI) : f_X3_tell J 0 1 = J 0 0 0 4 := by unfold f_X3_tell; rw [if_neg (by decide), if_pos rfl]
theorem t2 (J : gI) : f_X3_tell J 0 2 = J 0 0 0 5 := by unfold f_X3_tell; rw [if_neg (by decide), if_neg (by decide), if_pos rfl]
theorem d1 (J : gI) (l : Nat) : f_X2_tell J 0 l 1 = J 0 4 l 1 := by unfold f_X2_tell; rw [if_neg (by decide), if_pos rfl]
theorem d0 (J : gI) (l : Nat) : f_X2_tell J 0 l 0 = J 0 4 l 0 := by unfold f_X2_tell; rw [if_pos rfl]
theorem d2 (J : gI) (l : Nat) : f_X2_tell J 0 l 2 = J 0 4 l 4 := by unfold f_X2_tell; rw [if_neg (by decide), if_neg (by decide), if_pos rfl]
theorem d4 (J : gI) (l : Nat) : f_X2_tell J 0 l 4 = J 0 4 l 2 := by unfold f_X2_tell; rw [if_neg (by decide), if_neg (by decide), if_neg (by decide), if_neg (by decide), if_pos rfl]
theorem d5 (J : gI) (l : Nat) : f_X2_tell J 0 l 5 = J 0 4 l 3 := by unfold f_X2_tell; rw [if_neg (by decide), if_neg (by decide), if_neg (by decide), if_neg (by decide), if_neg (by decide), if_pos rfl]
theorem d6 (J : gI) (l : Nat) : f_X2_tell J 0 l 6 = J 0 4 l 6 := by unfold f_X2_tell; rw [if_neg (by decide), if_neg (by decide), if_neg (by decide), if_neg (by decide), if_neg (by decide), if_neg (by decide)]
theorem zsm_full {f : Nat → Nat} : ∀ n, (∀ i, i < n → f i ≤ 1) → zsm f n = n → ∀ i, i < n → f i = 1 := by
  intro n
  induction n with
  | zero => intro _ _ i hi; omega
  | succ n ih =>
    intro h e i hi
    simp only [zsm] at e
    have h1 := zsm_le (f := f) (B := 1) n (fun j hj => h j (by omega))
    have h2 := h n (by omega)
    by_cases z : i = n
    · subst z
      omega
    · exact ih (fun j hj => h j (by omega)) (by omega) i (by omega)
theorem jR.checks {n L : Nat} {J : gI} (h : jR n L J) : ∃ a b, jC a b J ∧ jS a b J ∧ sR L a b (J 5) (J 2) (J 3) := by
  obtain ⟨K, A, t, hR, hK, h3, h4, h5, hf, hw0, hw1, hcc, ht, hzh, hzX, hs⟩ := h
  have hi := hR.2.2.2
  have h1 := hi.k1
  obtain ⟨hc, hr, hq, -⟩ := id hR
  obtain ⟨g1, g2, ⟨gj, gf, gm, gms⟩, g4, ⟨g5, g6⟩⟩ := id hzh
  have md : zFo A ≤ 1000 := by
    have := zsm_le (f := zfk A) (B := 1) (A 0 0 2) (fun j _ => by rcases zfk_01 A j with e | e <;> omega)
    unfold zFo
    omega
  have jf := zP_jf A
  refine ⟨A 0 0 0, A 0 0 1, ⟨⟨by omega, by omega, hc.k1, hc.k2⟩, fun k hk => ?_, fun k hk => ?_, fun l hl => ?_⟩, ⟨?_, ?_, ?_, ?_, ?_, ?_, ?_, ?_, ?_, ?_, ?_, ?_⟩, hs⟩
  · obtain ⟨e2, b2⟩ := zL_2 hc hi hk
    obtain ⟨e3, b3⟩ := zL_3 hc hi hk
    exact ⟨A 1 k 0, A 1 k 2, b3, b2, e3, e2, zL_4 hc hi hzh hk, zL_8 hc hi hk⟩
  · rcases zL_v hc hi hw0 hk with ⟨e, q⟩ | ⟨v, v1, v2, v3, e⟩
    · exact Or.inl ⟨e, fun o ho ne => by rw [(zL_2 hc hi ho).1, q o ho ne]; rfl⟩
    · exact Or.inr ⟨v, v1, v2, e, by rw [(zL_2 hc hi v1).1]; exact nI_ne0 v3 (by have := (hi.k2 v (by omega)).2.1; omega)⟩
  · have h11 := hi.k11 l hl
    have h12 := hi.k12 _ h11.1
    have b60 := zB_le (A 4 (A 3 l 1) 0 % 32)
    have le := zP_le g2 hl
    have h7 := (hi.k7 l (by omega)).1
    obtain ⟨b, p1, p2, p3, p4, p5⟩ := g6 l hl
    have m36 := gm l hl
    have md1 : zMd A l ≤ 320 := by
      have := zsm_le (f := fun h => if A 4 h 0 / 32 = l then 1 else 0) (B := 1) (A 0 0 2) (fun j _ => by split <;> omega)
      unfold zMd
      omega
    have e5 : f_X2_tell J 0 l 5 = J 3 35 0 l := by rw [d5, hq.k8 l hl]
    have e4 : f_X2_tell J 0 l 4 = J 2 15 0 l := by rw [d4, hq.k7 l hl]
    have e2 : f_X2_tell J 0 l 2 = nI (zMd A l) := by rw [d2, hq.k9 l hl, m36.1]
    refine ⟨A 3 l 0, A 3 l 2, A 4 (A 3 l 1) 3, h7, le, by omega, by rw [d1, hc.k14 l (by omega)], by rw [d6, hc.k15 l (by omega)], by rw [d0, hc.k16 l hl], fun e => ?_, fun e => zP_done hi g1 g2 hl e, ?_, fun e => ?_, zMd A l, by omega, e2, m36.2⟩
    · obtain ⟨y1, y2⟩ := zP_yard hi g1 g2 hl e
      exact ⟨y1, by rw [e2, y2]; rfl⟩
    · rw [e5]
      by_cases e : A 3 l 0 = 2
      · obtain ⟨d, y1, y2, y3, -⟩ := p5 e
        rw [y1]
        exact ⟨fun _ => e, fun _ => nI_pos' (by omega)⟩
      · rw [p4 e]
        exact ⟨fun q => absurd q (by decide), fun q => absurd q e⟩
    · obtain ⟨d, y1, y2, y3, y4⟩ := p5 e
      have y4 := y4 rfl
      rw [e5, e4, p1, y1, t0, hq.k1, g5]
      exact ⟨nI_lt y2 (by omega), nI_lt y4 (by omega)⟩
  · rw [t3, tell_that J 2 _ hc.k2 (by omega)]
  · rw [t4, tell_that J 0 _ hc.k2 (by omega)]
  · rw [t5, tell_sl J 2 _ hc.k1 (by omega)]
  · rw [t6]
    unfold f_X3_sleepers
    rw [hc.k1, nI_clamp (by omega)]
    have F : ∀ m i (a : Int32), i + m = A 0 0 0 → f_X3_sleepers_l1 0 m i (ssm (fun k => if f_X1_tell J 0 k 3 = 3 then 1 else 0) i) J = ssm (fun k => if f_X1_tell J 0 k 3 = 3 then 1 else 0) (i + m) := by
      intro m
      induction m with
      | zero => intro i a _; rfl
      | succ m ih =>
        intro i a e
        have hk : i < A 0 0 0 := by omega
        have e7 := hc.k10 i (by omega)
        obtain ⟨e3, b3⟩ := zL_3 hc hi hk
        have := ih (i + 1) a (by omega)
        simp only [ssm] at this
        rw [show i + (m + 1) = i + 1 + m by omega, ← this]
        simp only [f_X3_sleepers_l1]
        by_cases c : A 1 i 0 = 3
        · rw [if_pos c] at e7
          rw [e7, if_neg (by decide), if_pos (by rw [e3, c]; rfl)]
        · rw [if_neg c] at e7
          rw [e7, if_pos rfl, if_neg (fun q => c ((nI_eq (b := 3) (by omega) (by decide)).mp (by rw [e3] at q; exact q))), i32_0]
    have := F (A 0 0 0) 0 0 (by omega)
    rw [Nat.zero_add] at this
    exact this
  · rw [t7, tell_sl J 5 _ hc.k1 (by omega)]
  · rw [zQ_l5 hR, zQ_l6 hR hzh]
  · rw [zQ_l5 hR, zQ_d3 hR hzh]
  · rw [t10, tell_sl J 7 _ hc.k1 (by omega)]
  · rw [t11, tell_so J 6 _ hc.k2 (by omega)]
  · rw [zQ_d2 hR hzh, t8, hq.k2]
  · rw [t9, t8, hq.k2, hq.k3, gj, gf]
    exact nI_le (by omega) (by omega)
  · intro e
    have e2 : ssm (fun l => if f_X2_tell J 0 l 1 = 2 then 1 else 0) (A 0 0 1) = nI (zsm (fun l => if A 3 l 0 = 2 then 1 else 0) (A 0 0 1)) := ssm_nI _ (fun l hl => by
      have h7 := (hi.k7 l (by omega)).1
      rw [d1, hc.k14 l (by omega)]
      by_cases c : A 3 l 0 = 2
      · rw [if_pos c, if_pos (by rw [c]; rfl)]
        rfl
      · have nc : ¬ nI (A 3 l 0) = 2 := fun q => c ((nI_eq (b := 2) (by omega) (by decide)).mp q)
        rw [if_neg c, if_neg nc]
        rfl)
    rw [e2] at e
    have le := zsm_le (f := fun l => if A 3 l 0 = 2 then 1 else 0) (B := 1) (A 0 0 1) (fun j _ => by split <;> omega)
    have e3 := (nI_eq (by omega) (by omega)).mp e
    have all := zsm_full (A 0 0 1) (fun i _ => by split <;> omega) e3
    have := zP_jfd hi g1 (fun j hj => by
      have := all j hj
      by_cases c : A 3 j 0 = 2
      · exact c
      · rw [if_neg c] at this
        omega)
    rw [t9, t8, hq.k2, hq.k3, gj, gf, this]
    rfl
