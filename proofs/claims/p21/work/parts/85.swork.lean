/-! A LAD WORKS: the Sim does as the ghost -/
theorem zs_workP {L n lo k q z l s b : Nat} {I J : gI} (h : sR L n lo (I 5) (J 2) (J z)) (hz : z ≠ 2) (hk : k < n) (hn : n ≤ 6) (hL : L < 300) (f : sF lo (J z) q) (h1 : J z 25 0 k = 1) (h26 : J z 26 0 k = nI q) (hl : J z 41 0 q = nI l) (hs : J 2 12 0 k = nI s) (hl9 : l < 1000) (hs9 : s < 1000) (hc : ¬ I 5 5 q 0 = I 5 5 q 1 ∨ I 5 5 q 0 ≤ I 5 0 0 1 ∨ 8 ≤ nI (rln (I 5) 3 k)) :
    ok_S_work I k ∧ sR L n lo (f_S_work I k 5) (J 2) (f_X5_pitch J z (nI k) (nI q) (nI s) z) := by
  obtain ⟨p1, p2⟩ := zs_pitch h hz hk hn hL f h1 h26 hl hs hl9 hs9
  obtain ⟨-, -, -, fq, fN, flo⟩ := id f
  have c := h.c (by omega) (by omega) (by omega)
  have v3 : I 5 2 k 3 = nI q := by rw [h.k4 k hk (Or.inl h1), h26]
  have hqx : (I 5 2 k 3).toNatClampNeg = q := by rw [v3, nI_clamp (by omega)]
  have hin : vp_in (I 5 2 k 3) (cnt (I 5) 5) := by rw [c.2.2.2.1, v3]; exact vp_in_nI fq (by omega)
  have ev : f_S_work I k = f_S_P I k q := by
    simp only [f_S_work, hqx, f_S_P]
    by_cases c1 : I 5 5 q 0 = I 5 5 q 1
    · rw [if_pos c1]
      by_cases c2 : I 5 5 q 0 ≤ I 5 0 0 1
      · rw [if_pos c2]
      · rw [if_neg c2, if_pos ((hc.resolve_left (fun x => x c1)).resolve_left c2)]
    · rw [if_neg c1]
  refine ⟨?_, by rw [ev]; exact p2⟩
  unfold ok_S_work
  simp only [hqx]
  unfold ok_S_P at p1
  refine ⟨hin, fun c1 => ⟨fun _ => ?_, fun c2 => ⟨fun _ => ?_, fun c3 => ?_⟩⟩, fun _ => ?_⟩
  · rintro _ rfl
    exact ⟨fun c => ⟨p1 c, fun _ _ => trivial⟩, fun _ => trivial⟩
  · rintro _ rfl
    exact ⟨fun c => ⟨p1 c, fun _ _ => trivial⟩, fun _ => trivial⟩
  · exact absurd ((hc.resolve_left (fun x => x c1)).resolve_left c2) c3
  · rintro _ rfl
    exact ⟨fun c => ⟨p1 c, fun _ _ => trivial⟩, fun _ => trivial⟩
theorem zs_work {L K k z : Nat} {A : zN} {I J : gI} (hr : zRF A (J 2) (J z)) (hi : zIV K A) (h : sR L (A 0 0 0) (A 0 0 1) (I 5) (J 2) (J z)) (hz : z ≠ 2) (hk : k < A 0 0 0) (h0 : A 1 k 0 = 1) (hfk : J 2 11 0 7 = nI (A 0 0 6)) (hL : L < 300) (hFN : A 4 (A 1 k 1) 4 = A 4 (A 1 k 1) 3 → A 0 0 6 < A 4 (A 1 k 1) 3 → A 1 k 2 < 8 → A 0 0 2 + 2 ≤ 320) :
    ok_S_work I k ∧ sR L (A 0 0 0) (A 0 0 1) (f_S_work I k 5) (J 2) (f_W J z (nI k) (nI (A 1 k 1)) (nI (A 0 0 6)) z) := by
  have h1 := hi.k1
  have hk6 : k < 6 := by omega
  have hw : k < A 0 0 3 := by omega
  have hq := hi.k9 k hk6 (Or.inl h0)
  have q3 := hi.q600 hq
  have h12 := hi.k12 _ hq
  have hb60 := zB_le (A 4 (A 1 k 1) 0 % 32)
  have hst := hi.k3 k hk
  have h2 := hi.k2 k hk6
  have s40 := hr.k15 _ hq
  have s41 := hr.k16 _ hq
  have s42 := hr.k17 _ hq
  have s31 := hr.k6 k hw
  have m12 := hr.k8 k hk
  have s25 := hr.k4 k hk6
  rw [h0] at s25
  have s26 := hr.k5 k hw (Or.inl h0)
  have ck : (nI k).toNatClampNeg = k := nI_clamp (by omega)
  have cq : (nI (A 1 k 1)).toNatClampNeg = A 1 k 1 := nI_clamp (by omega)
  have hNc : (J z 20 0 19).toNatClampNeg = A 0 0 2 := by rw [hr.k3, nI_clamp (by omega)]
  have v := h.k7 (A 1 k 1) (by omega)
  have w := h.k3 k hk
  have v0 : I 5 5 (A 1 k 1) 0 = nI (A 4 (A 1 k 1) 3) := by rw [v.1, s40]
  have v1 : I 5 5 (A 1 k 1) 1 = nI (A 4 (A 1 k 1) 4) := by rw [v.2.1, s41]
  have vf : I 5 0 0 1 = nI (A 0 0 6) := by rw [h.k2.2.1, hfk]
  have v6 : I 5 6 k 0 = nI (A 1 k 2) := by rw [w.2.2.2.2.2.2.2, s31]
  have hrl : rln (I 5) 3 k = A 1 k 2 := by
    show (I 5 6 k 0).toNatClampNeg = _
    rw [v6, nI_clamp (by omega)]
  have F := sF_of hr hi hq (hi.held hk6 h0)
  have P := fun hc => zs_workP (l := A 4 (A 1 k 1) 4) (s := A 1 k 4) (b := 0) h hz hk (by omega) hL F s25 s26 s41 m12 (by omega) (by omega) hc
  unfold f_W
  rw [cq, ck, s40, s41, s31, m12]
  by_cases c1 : A 4 (A 1 k 1) 4 = A 4 (A 1 k 1) 3
  · rw [c1]
    simp only [if_true]
    by_cases c2 : A 4 (A 1 k 1) 3 ≤ A 0 0 6
    · have i2 : nI (A 4 (A 1 k 1) 3) ≤ nI (A 0 0 6) := nI_le c2 (by omega)
      rw [if_pos i2]
      exact P (Or.inr (Or.inl (by rw [v0, vf]; exact i2)))
    · have i2 : ¬ nI (A 4 (A 1 k 1) 3) ≤ nI (A 0 0 6) := nI_ge (by omega) (by omega)
      rw [if_neg i2]
      by_cases c3 : 8 ≤ A 1 k 2
      · have i3 : (8 : Int32) ≤ nI (A 1 k 2) := nI_le (a := 8) c3 (by omega)
        rw [if_pos i3]
        exact P (Or.inr (Or.inr (by rw [hrl]; exact i3)))
      · have i3 : ¬ (8 : Int32) ≤ nI (A 1 k 2) := nI_ge (b := 8) (by omega) (by decide)
        rw [if_neg i3]
        have hF := hFN c1 (by omega) (by omega)
        refine zs_fork (N := A 0 0 2) (m := A 1 k 2) (b := A 4 (A 1 k 1) 3) (j0 := A 4 (A 1 k 1) 0 / 32) h hz hk (by omega) (by omega) hL s25 s26 (fun j a b => ?_) s40 (by rw [s41, c1]) s42 s31 hr.k3 hq (by omega) (by omega) (by omega) (by omega) (fun i hii => ?_) (by rw [v0, vf]; exact i2)
        · rw [hr.k4 j b, (hi.k4 j a b).1]
          decide
        · have := (hi.k2 i (by omega)).2.1
          rw [hr.k6 i (by omega), nI_clamp (by omega)]
          exact this
  · have i1 : ¬ nI (A 4 (A 1 k 1) 4) = nI (A 4 (A 1 k 1) 3) := fun q => c1 ((nI_eq (by omega) (by omega)).mp q)
    rw [if_neg i1]
    exact P (Or.inl (by rw [v0, v1]; exact fun e => i1 e.symm))
