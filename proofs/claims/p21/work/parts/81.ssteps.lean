/-! PRINTED by wip/gen21/srel.py: the Sim and the ghost, step by step -/
theorem sR_SD {L n lo : Nat} {j : Nat} {x : Int32} {V M S : gY} (h : sR L n lo V M S) (hj : j < lo) (h33 : S 33 0 j ≠ 0) : sR L n lo (u3 V 4 j 3 x) M (u3 (u3 S 33 0 j 2) 35 0 j x) := by
  have k1 := h.k1
  have k2 := h.k2
  have k3 := h.k3
  have k4 := h.k4
  have k5 := h.k5
  have k6 := h.k6
  have k7 := h.k7
  have k8 := h.k8
  refine ⟨?_, ?_, fun i hi => ?_, fun i hi => ?_, fun i p hi => ?_, fun l hl => ?_, fun g hg => ?_, fun i hi => ?_⟩
  · clear k2 k3 k4 k5 k6 k7 k8 h
    try simp only [u3_eq, urow_eq]
    grind
  · clear k1 k3 k4 k5 k6 k7 k8 h
    try simp only [u3_eq, urow_eq]
    grind
  · clear k1 k2 k4 k5 k6 k7 k8 h
    have := k3 i (by omega)
    try simp only [u3_eq, urow_eq]
    grind
  · clear k1 k2 k5 k6 k7 k8 h
    have := k4 i (by omega)
    try simp only [u3_eq, urow_eq]
    grind
  · clear k1 k2 k4 k6 k7 k8 h
    have := k5 i p (by omega)
    try simp only [u3_eq, urow_eq]
    grind
  · clear k1 k2 k3 k4 k5 k7 k8 h
    have := k6 l (by omega)
    try simp only [u3_eq, urow_eq]
    grind
  · clear k1 k2 k3 k4 k5 k6 k8 h
    try simp only [u3_eq, urow_eq] at hg ⊢
    grind
  · clear k1 k2 k3 k4 k5 k6 k7 h
    have := k8 i (by omega)
    try simp only [u3_eq, urow_eq]
    grind
theorem sR_TJ {L n lo : Nat} {k : Nat} {x : Int32} {V M S : gY} (h : sR L n lo V M S) (hk : k < n) : sR L n lo (u3 (u3 V 2 k 2 2) 2 k 3 x) M (u3 (u3 S 25 0 k 2) 26 0 k x) := by
  have k1 := h.k1
  have k2 := h.k2
  have k3 := h.k3
  have k4 := h.k4
  have k5 := h.k5
  have k6 := h.k6
  have k7 := h.k7
  have k8 := h.k8
  refine ⟨?_, ?_, fun i hi => ?_, fun i hi => ?_, fun i p hi => ?_, fun l hl => ?_, fun g hg => ?_, fun i hi => ?_⟩
  · clear k2 k3 k4 k5 k6 k7 k8 h
    try simp only [u3_eq, urow_eq]
    grind
  · clear k1 k3 k4 k5 k6 k7 k8 h
    try simp only [u3_eq, urow_eq]
    grind
  · clear k1 k2 k4 k5 k6 k7 k8 h
    have := k3 i (by omega)
    try simp only [u3_eq, urow_eq]
    grind
  · clear k1 k2 k5 k6 k7 k8 h
    have := k4 i (by omega)
    try simp only [u3_eq, urow_eq]
    grind
  · clear k1 k2 k4 k6 k7 k8 h
    have := k5 i p (by omega)
    try simp only [u3_eq, urow_eq]
    grind
  · clear k1 k2 k3 k4 k5 k7 k8 h
    have := k6 l (by omega)
    try simp only [u3_eq, urow_eq]
    grind
  · clear k1 k2 k3 k4 k5 k6 k8 h
    try simp only [u3_eq, urow_eq] at hg ⊢
    grind
  · clear k1 k2 k3 k4 k5 k6 k7 h
    have := k8 i (by omega)
    try simp only [u3_eq, urow_eq]
    grind
theorem sR_PL {L n lo : Nat} {q : Nat} {x : Int32} {V M S : gY} (h : sR L n lo V M S)  : sR L n lo (u3 V 5 q 1 x) M (u3 S 41 0 q x) := by
  have k1 := h.k1
  have k2 := h.k2
  have k3 := h.k3
  have k4 := h.k4
  have k5 := h.k5
  have k6 := h.k6
  have k7 := h.k7
  have k8 := h.k8
  refine ⟨?_, ?_, fun i hi => ?_, fun i hi => ?_, fun i p hi => ?_, fun l hl => ?_, fun g hg => ?_, fun i hi => ?_⟩
  · clear k2 k3 k4 k5 k6 k7 k8 h
    try simp only [u3_eq, urow_eq]
    grind
  · clear k1 k3 k4 k5 k6 k7 k8 h
    try simp only [u3_eq, urow_eq]
    grind
  · clear k1 k2 k4 k5 k6 k7 k8 h
    have := k3 i (by omega)
    try simp only [u3_eq, urow_eq]
    grind
  · clear k1 k2 k5 k6 k7 k8 h
    have := k4 i (by omega)
    try simp only [u3_eq, urow_eq]
    grind
  · clear k1 k2 k4 k6 k7 k8 h
    have := k5 i p (by omega)
    try simp only [u3_eq, urow_eq]
    grind
  · clear k1 k2 k3 k4 k5 k7 k8 h
    have := k6 l (by omega)
    try simp only [u3_eq, urow_eq]
    grind
  · clear k1 k2 k3 k4 k5 k6 k8 h
    try simp only [u3_eq, urow_eq] at hg ⊢
    grind
  · clear k1 k2 k3 k4 k5 k6 k7 h
    have := k8 i (by omega)
    try simp only [u3_eq, urow_eq]
    grind
theorem sR_H8 {L n lo : Nat} {a : Nat} {x : Int32} {V M S : gY} (h : sR L n lo V M S)  : sR L n lo V M (u3 S 38 0 a x) := by
  have k1 := h.k1
  have k2 := h.k2
  have k3 := h.k3
  have k4 := h.k4
  have k5 := h.k5
  have k6 := h.k6
  have k7 := h.k7
  have k8 := h.k8
  refine ⟨?_, ?_, fun i hi => ?_, fun i hi => ?_, fun i p hi => ?_, fun l hl => ?_, fun g hg => ?_, fun i hi => ?_⟩
  · clear k2 k3 k4 k5 k6 k7 k8 h
    try simp only [u3_eq, urow_eq]
    grind
  · clear k1 k3 k4 k5 k6 k7 k8 h
    try simp only [u3_eq, urow_eq]
    grind
  · clear k1 k2 k4 k5 k6 k7 k8 h
    have := k3 i (by omega)
    try simp only [u3_eq, urow_eq]
    grind
  · clear k1 k2 k5 k6 k7 k8 h
    have := k4 i (by omega)
    try simp only [u3_eq, urow_eq]
    grind
  · clear k1 k2 k4 k6 k7 k8 h
    have := k5 i p (by omega)
    try simp only [u3_eq, urow_eq]
    grind
  · clear k1 k2 k3 k4 k5 k7 k8 h
    have := k6 l (by omega)
    try simp only [u3_eq, urow_eq]
    grind
  · clear k1 k2 k3 k4 k5 k6 k8 h
    try simp only [u3_eq, urow_eq] at hg ⊢
    grind
  · clear k1 k2 k3 k4 k5 k6 k7 h
    have := k8 i (by omega)
    try simp only [u3_eq, urow_eq]
    grind
theorem sR_H6 {L n lo : Nat} {a : Nat} {x : Int32} {V M S : gY} (h : sR L n lo V M S)  : sR L n lo V M (u3 S 36 0 a x) := by
  have k1 := h.k1
  have k2 := h.k2
  have k3 := h.k3
  have k4 := h.k4
  have k5 := h.k5
  have k6 := h.k6
  have k7 := h.k7
  have k8 := h.k8
  refine ⟨?_, ?_, fun i hi => ?_, fun i hi => ?_, fun i p hi => ?_, fun l hl => ?_, fun g hg => ?_, fun i hi => ?_⟩
  · clear k2 k3 k4 k5 k6 k7 k8 h
    try simp only [u3_eq, urow_eq]
    grind
  · clear k1 k3 k4 k5 k6 k7 k8 h
    try simp only [u3_eq, urow_eq]
    grind
  · clear k1 k2 k4 k5 k6 k7 k8 h
    have := k3 i (by omega)
    try simp only [u3_eq, urow_eq]
    grind
  · clear k1 k2 k5 k6 k7 k8 h
    have := k4 i (by omega)
    try simp only [u3_eq, urow_eq]
    grind
  · clear k1 k2 k4 k6 k7 k8 h
    have := k5 i p (by omega)
    try simp only [u3_eq, urow_eq]
    grind
  · clear k1 k2 k3 k4 k5 k7 k8 h
    have := k6 l (by omega)
    try simp only [u3_eq, urow_eq]
    grind
  · clear k1 k2 k3 k4 k5 k6 k8 h
    try simp only [u3_eq, urow_eq] at hg ⊢
    grind
  · clear k1 k2 k3 k4 k5 k6 k7 h
    have := k8 i (by omega)
    try simp only [u3_eq, urow_eq]
    grind
theorem sR_H4 {L n lo : Nat} {x : Int32} {V M S : gY} (h : sR L n lo V M S)  : sR L n lo V M (u3 S 20 0 4 x) := by
  have k1 := h.k1
  have k2 := h.k2
  have k3 := h.k3
  have k4 := h.k4
  have k5 := h.k5
  have k6 := h.k6
  have k7 := h.k7
  have k8 := h.k8
  refine ⟨?_, ?_, fun i hi => ?_, fun i hi => ?_, fun i p hi => ?_, fun l hl => ?_, fun g hg => ?_, fun i hi => ?_⟩
  · clear k2 k3 k4 k5 k6 k7 k8 h
    try simp only [u3_eq, urow_eq]
    grind
  · clear k1 k3 k4 k5 k6 k7 k8 h
    try simp only [u3_eq, urow_eq]
    grind
  · clear k1 k2 k4 k5 k6 k7 k8 h
    have := k3 i (by omega)
    try simp only [u3_eq, urow_eq]
    grind
  · clear k1 k2 k5 k6 k7 k8 h
    have := k4 i (by omega)
    try simp only [u3_eq, urow_eq]
    grind
  · clear k1 k2 k4 k6 k7 k8 h
    have := k5 i p (by omega)
    try simp only [u3_eq, urow_eq]
    grind
  · clear k1 k2 k3 k4 k5 k7 k8 h
    have := k6 l (by omega)
    try simp only [u3_eq, urow_eq]
    grind
  · clear k1 k2 k3 k4 k5 k6 k8 h
    try simp only [u3_eq, urow_eq] at hg ⊢
    grind
  · clear k1 k2 k3 k4 k5 k6 k7 h
    have := k8 i (by omega)
    try simp only [u3_eq, urow_eq]
    grind
theorem sR_MI {L n lo : Nat} {x : Int32} {V M S : gY} (h : sR L n lo V M S)  : sR L n lo (u3 V 0 0 0 x) M (u3 S 20 0 0 x) := by
  have k1 := h.k1
  have k2 := h.k2
  have k3 := h.k3
  have k4 := h.k4
  have k5 := h.k5
  have k6 := h.k6
  have k7 := h.k7
  have k8 := h.k8
  refine ⟨?_, ?_, fun i hi => ?_, fun i hi => ?_, fun i p hi => ?_, fun l hl => ?_, fun g hg => ?_, fun i hi => ?_⟩
  · clear k2 k3 k4 k5 k6 k7 k8 h
    try simp only [u3_eq, urow_eq]
    grind
  · clear k1 k3 k4 k5 k6 k7 k8 h
    try simp only [u3_eq, urow_eq]
    grind
  · clear k1 k2 k4 k5 k6 k7 k8 h
    have := k3 i (by omega)
    try simp only [u3_eq, urow_eq]
    grind
  · clear k1 k2 k5 k6 k7 k8 h
    have := k4 i (by omega)
    try simp only [u3_eq, urow_eq]
    grind
  · clear k1 k2 k4 k6 k7 k8 h
    have := k5 i p (by omega)
    try simp only [u3_eq, urow_eq]
    grind
  · clear k1 k2 k3 k4 k5 k7 k8 h
    have := k6 l (by omega)
    try simp only [u3_eq, urow_eq]
    grind
  · clear k1 k2 k3 k4 k5 k6 k8 h
    try simp only [u3_eq, urow_eq] at hg ⊢
    grind
  · clear k1 k2 k3 k4 k5 k6 k7 h
    have := k8 i (by omega)
    try simp only [u3_eq, urow_eq]
    grind
theorem sR_TC {L n lo : Nat} {x : Int32} {V M S : gY} (h : sR L n lo V M S)  : sR L n lo (u3 V 0 0 6 x) M (u3 S 20 0 1 x) := by
  have k1 := h.k1
  have k2 := h.k2
  have k3 := h.k3
  have k4 := h.k4
  have k5 := h.k5
  have k6 := h.k6
  have k7 := h.k7
  have k8 := h.k8
  refine ⟨?_, ?_, fun i hi => ?_, fun i hi => ?_, fun i p hi => ?_, fun l hl => ?_, fun g hg => ?_, fun i hi => ?_⟩
  · clear k2 k3 k4 k5 k6 k7 k8 h
    try simp only [u3_eq, urow_eq]
    grind
  · clear k1 k3 k4 k5 k6 k7 k8 h
    try simp only [u3_eq, urow_eq]
    grind
  · clear k1 k2 k4 k5 k6 k7 k8 h
    have := k3 i (by omega)
    try simp only [u3_eq, urow_eq]
    grind
  · clear k1 k2 k5 k6 k7 k8 h
    have := k4 i (by omega)
    try simp only [u3_eq, urow_eq]
    grind
  · clear k1 k2 k4 k6 k7 k8 h
    have := k5 i p (by omega)
    try simp only [u3_eq, urow_eq]
    grind
  · clear k1 k2 k3 k4 k5 k7 k8 h
    have := k6 l (by omega)
    try simp only [u3_eq, urow_eq]
    grind
  · clear k1 k2 k3 k4 k5 k6 k8 h
    try simp only [u3_eq, urow_eq] at hg ⊢
    grind
  · clear k1 k2 k3 k4 k5 k6 k7 h
    have := k8 i (by omega)
    try simp only [u3_eq, urow_eq]
    grind
theorem sR_FC {L n lo : Nat} {x : Int32} {V M S : gY} (h : sR L n lo V M S)  : sR L n lo (u3 V 0 0 7 x) M (u3 S 20 0 2 x) := by
  have k1 := h.k1
  have k2 := h.k2
  have k3 := h.k3
  have k4 := h.k4
  have k5 := h.k5
  have k6 := h.k6
  have k7 := h.k7
  have k8 := h.k8
  refine ⟨?_, ?_, fun i hi => ?_, fun i hi => ?_, fun i p hi => ?_, fun l hl => ?_, fun g hg => ?_, fun i hi => ?_⟩
  · clear k2 k3 k4 k5 k6 k7 k8 h
    try simp only [u3_eq, urow_eq]
    grind
  · clear k1 k3 k4 k5 k6 k7 k8 h
    try simp only [u3_eq, urow_eq]
    grind
  · clear k1 k2 k4 k5 k6 k7 k8 h
    have := k3 i (by omega)
    try simp only [u3_eq, urow_eq]
    grind
  · clear k1 k2 k5 k6 k7 k8 h
    have := k4 i (by omega)
    try simp only [u3_eq, urow_eq]
    grind
  · clear k1 k2 k4 k6 k7 k8 h
    have := k5 i p (by omega)
    try simp only [u3_eq, urow_eq]
    grind
  · clear k1 k2 k3 k4 k5 k7 k8 h
    have := k6 l (by omega)
    try simp only [u3_eq, urow_eq]
    grind
  · clear k1 k2 k3 k4 k5 k6 k8 h
    try simp only [u3_eq, urow_eq] at hg ⊢
    grind
  · clear k1 k2 k3 k4 k5 k6 k7 h
    have := k8 i (by omega)
    try simp only [u3_eq, urow_eq]
    grind
theorem sR_JC {L n lo : Nat} {x : Int32} {V M S : gY} (h : sR L n lo V M S)  : sR L n lo (u3 V 0 0 8 x) M (u3 S 20 0 3 x) := by
  have k1 := h.k1
  have k2 := h.k2
  have k3 := h.k3
  have k4 := h.k4
  have k5 := h.k5
  have k6 := h.k6
  have k7 := h.k7
  have k8 := h.k8
  refine ⟨?_, ?_, fun i hi => ?_, fun i hi => ?_, fun i p hi => ?_, fun l hl => ?_, fun g hg => ?_, fun i hi => ?_⟩
  · clear k2 k3 k4 k5 k6 k7 k8 h
    try simp only [u3_eq, urow_eq]
    grind
  · clear k1 k3 k4 k5 k6 k7 k8 h
    try simp only [u3_eq, urow_eq]
    grind
  · clear k1 k2 k4 k5 k6 k7 k8 h
    have := k3 i (by omega)
    try simp only [u3_eq, urow_eq]
    grind
  · clear k1 k2 k5 k6 k7 k8 h
    have := k4 i (by omega)
    try simp only [u3_eq, urow_eq]
    grind
  · clear k1 k2 k4 k6 k7 k8 h
    have := k5 i p (by omega)
    try simp only [u3_eq, urow_eq]
    grind
  · clear k1 k2 k3 k4 k5 k7 k8 h
    have := k6 l (by omega)
    try simp only [u3_eq, urow_eq]
    grind
  · clear k1 k2 k3 k4 k5 k6 k8 h
    try simp only [u3_eq, urow_eq] at hg ⊢
    grind
  · clear k1 k2 k3 k4 k5 k6 k7 h
    have := k8 i (by omega)
    try simp only [u3_eq, urow_eq]
    grind
theorem sR_RO {L n lo : Nat} {k : Nat} {x : Int32} {V M S : gY} (h : sR L n lo V M S) (hx : x = 0 ∨ x = 1 ∨ x = 2) : sR L n lo (u3 V 2 k 4 x) M (u3 S 27 0 k x) := by
  have k1 := h.k1
  have k2 := h.k2
  have k3 := h.k3
  have k4 := h.k4
  have k5 := h.k5
  have k6 := h.k6
  have k7 := h.k7
  have k8 := h.k8
  refine ⟨?_, ?_, fun i hi => ?_, fun i hi => ?_, fun i p hi => ?_, fun l hl => ?_, fun g hg => ?_, fun i hi => ?_⟩
  · clear k2 k3 k4 k5 k6 k7 k8 h
    try simp only [u3_eq, urow_eq]
    grind
  · clear k1 k3 k4 k5 k6 k7 k8 h
    try simp only [u3_eq, urow_eq]
    grind
  · clear k1 k2 k4 k5 k6 k7 k8 h
    have := k3 i (by omega)
    try simp only [u3_eq, urow_eq]
    grind
  · clear k1 k2 k5 k6 k7 k8 h
    have := k4 i (by omega)
    try simp only [u3_eq, urow_eq]
    grind
  · clear k1 k2 k4 k6 k7 k8 h
    have := k5 i p (by omega)
    try simp only [u3_eq, urow_eq]
    grind
  · clear k1 k2 k3 k4 k5 k7 k8 h
    have := k6 l (by omega)
    try simp only [u3_eq, urow_eq]
    grind
  · clear k1 k2 k3 k4 k5 k6 k8 h
    try simp only [u3_eq, urow_eq] at hg ⊢
    grind
  · clear k1 k2 k3 k4 k5 k6 k7 h
    have := k8 i (by omega)
    try simp only [u3_eq, urow_eq]
    grind
theorem sR_HO {L n lo : Nat} {k : Nat} {x : Int32} {V M S : gY} (h : sR L n lo V M S) (hk : k < n) : sR L n lo (u3 (u3 V 2 k 2 1) 2 k 3 x) M (u3 (u3 S 25 0 k 1) 26 0 k x) := by
  have k1 := h.k1
  have k2 := h.k2
  have k3 := h.k3
  have k4 := h.k4
  have k5 := h.k5
  have k6 := h.k6
  have k7 := h.k7
  have k8 := h.k8
  refine ⟨?_, ?_, fun i hi => ?_, fun i hi => ?_, fun i p hi => ?_, fun l hl => ?_, fun g hg => ?_, fun i hi => ?_⟩
  · clear k2 k3 k4 k5 k6 k7 k8 h
    try simp only [u3_eq, urow_eq]
    grind
  · clear k1 k3 k4 k5 k6 k7 k8 h
    try simp only [u3_eq, urow_eq]
    grind
  · clear k1 k2 k4 k5 k6 k7 k8 h
    have := k3 i (by omega)
    try simp only [u3_eq, urow_eq]
    grind
  · clear k1 k2 k5 k6 k7 k8 h
    have := k4 i (by omega)
    try simp only [u3_eq, urow_eq]
    grind
  · clear k1 k2 k4 k6 k7 k8 h
    have := k5 i p (by omega)
    try simp only [u3_eq, urow_eq]
    grind
  · clear k1 k2 k3 k4 k5 k7 k8 h
    have := k6 l (by omega)
    try simp only [u3_eq, urow_eq]
    grind
  · clear k1 k2 k3 k4 k5 k6 k8 h
    try simp only [u3_eq, urow_eq] at hg ⊢
    grind
  · clear k1 k2 k3 k4 k5 k6 k7 h
    have := k8 i (by omega)
    try simp only [u3_eq, urow_eq]
    grind
theorem sR_TK {L n lo : Nat} {j : Nat} {V M S : gY} (h : sR L n lo V M S) (hj : j < lo) : sR L n lo (u3 V 4 j 5 1) M (u3 S 33 0 j 1) := by
  have k1 := h.k1
  have k2 := h.k2
  have k3 := h.k3
  have k4 := h.k4
  have k5 := h.k5
  have k6 := h.k6
  have k7 := h.k7
  have k8 := h.k8
  refine ⟨?_, ?_, fun i hi => ?_, fun i hi => ?_, fun i p hi => ?_, fun l hl => ?_, fun g hg => ?_, fun i hi => ?_⟩
  · clear k2 k3 k4 k5 k6 k7 k8 h
    try simp only [u3_eq, urow_eq]
    grind
  · clear k1 k3 k4 k5 k6 k7 k8 h
    try simp only [u3_eq, urow_eq]
    grind
  · clear k1 k2 k4 k5 k6 k7 k8 h
    have := k3 i (by omega)
    try simp only [u3_eq, urow_eq]
    grind
  · clear k1 k2 k5 k6 k7 k8 h
    have := k4 i (by omega)
    try simp only [u3_eq, urow_eq]
    grind
  · clear k1 k2 k4 k6 k7 k8 h
    have := k5 i p (by omega)
    try simp only [u3_eq, urow_eq]
    grind
  · clear k1 k2 k3 k4 k5 k7 k8 h
    have := k6 l (by omega)
    try simp only [u3_eq, urow_eq]
    grind
  · clear k1 k2 k3 k4 k5 k6 k8 h
    try simp only [u3_eq, urow_eq] at hg ⊢
    grind
  · clear k1 k2 k3 k4 k5 k6 k7 h
    have := k8 i (by omega)
    try simp only [u3_eq, urow_eq]
    grind
theorem sR_DZ {L n lo : Nat} {k : Nat} {x : Int32} {V M S : gY} (h : sR L n lo V M S) (hx : x ≠ 1 ∧ x ≠ 2) : sR L n lo (u3 V 2 k 2 x) M (u3 S 25 0 k x) := by
  have k1 := h.k1
  have k2 := h.k2
  have k3 := h.k3
  have k4 := h.k4
  have k5 := h.k5
  have k6 := h.k6
  have k7 := h.k7
  have k8 := h.k8
  refine ⟨?_, ?_, fun i hi => ?_, fun i hi => ?_, fun i p hi => ?_, fun l hl => ?_, fun g hg => ?_, fun i hi => ?_⟩
  · clear k2 k3 k4 k5 k6 k7 k8 h
    try simp only [u3_eq, urow_eq]
    grind
  · clear k1 k3 k4 k5 k6 k7 k8 h
    try simp only [u3_eq, urow_eq]
    grind
  · clear k1 k2 k4 k5 k6 k7 k8 h
    have := k3 i (by omega)
    try simp only [u3_eq, urow_eq]
    grind
  · clear k1 k2 k5 k6 k7 k8 h
    have := k4 i (by omega)
    try simp only [u3_eq, urow_eq]
    grind
  · clear k1 k2 k4 k6 k7 k8 h
    have := k5 i p (by omega)
    try simp only [u3_eq, urow_eq]
    grind
  · clear k1 k2 k3 k4 k5 k7 k8 h
    have := k6 l (by omega)
    try simp only [u3_eq, urow_eq]
    grind
  · clear k1 k2 k3 k4 k5 k6 k8 h
    try simp only [u3_eq, urow_eq] at hg ⊢
    grind
  · clear k1 k2 k3 k4 k5 k6 k7 h
    have := k8 i (by omega)
    try simp only [u3_eq, urow_eq]
    grind
theorem sR_HE {L n lo : Nat} {k : Nat} {x : Int32} {V M S : gY} (h : sR L n lo V M S)  : sR L n lo (u3 V 2 k 3 x) M (u3 S 26 0 k x) := by
  have k1 := h.k1
  have k2 := h.k2
  have k3 := h.k3
  have k4 := h.k4
  have k5 := h.k5
  have k6 := h.k6
  have k7 := h.k7
  have k8 := h.k8
  refine ⟨?_, ?_, fun i hi => ?_, fun i hi => ?_, fun i p hi => ?_, fun l hl => ?_, fun g hg => ?_, fun i hi => ?_⟩
  · clear k2 k3 k4 k5 k6 k7 k8 h
    try simp only [u3_eq, urow_eq]
    grind
  · clear k1 k3 k4 k5 k6 k7 k8 h
    try simp only [u3_eq, urow_eq]
    grind
  · clear k1 k2 k4 k5 k6 k7 k8 h
    have := k3 i (by omega)
    try simp only [u3_eq, urow_eq]
    grind
  · clear k1 k2 k5 k6 k7 k8 h
    have := k4 i (by omega)
    try simp only [u3_eq, urow_eq]
    grind
  · clear k1 k2 k4 k6 k7 k8 h
    have := k5 i p (by omega)
    try simp only [u3_eq, urow_eq]
    grind
  · clear k1 k2 k3 k4 k5 k7 k8 h
    have := k6 l (by omega)
    try simp only [u3_eq, urow_eq]
    grind
  · clear k1 k2 k3 k4 k5 k6 k8 h
    try simp only [u3_eq, urow_eq] at hg ⊢
    grind
  · clear k1 k2 k3 k4 k5 k6 k7 h
    have := k8 i (by omega)
    try simp only [u3_eq, urow_eq]
    grind
theorem sR_S5 {L n lo : Nat} {k : Nat} {x : Int32} {V M S : gY} (h : sR L n lo V M S)  : sR L n lo (u3 V 2 k 5 x) M (u3 S 28 0 k x) := by
  have k1 := h.k1
  have k2 := h.k2
  have k3 := h.k3
  have k4 := h.k4
  have k5 := h.k5
  have k6 := h.k6
  have k7 := h.k7
  have k8 := h.k8
  refine ⟨?_, ?_, fun i hi => ?_, fun i hi => ?_, fun i p hi => ?_, fun l hl => ?_, fun g hg => ?_, fun i hi => ?_⟩
  · clear k2 k3 k4 k5 k6 k7 k8 h
    try simp only [u3_eq, urow_eq]
    grind
  · clear k1 k3 k4 k5 k6 k7 k8 h
    try simp only [u3_eq, urow_eq]
    grind
  · clear k1 k2 k4 k5 k6 k7 k8 h
    have := k3 i (by omega)
    try simp only [u3_eq, urow_eq]
    grind
  · clear k1 k2 k5 k6 k7 k8 h
    have := k4 i (by omega)
    try simp only [u3_eq, urow_eq]
    grind
  · clear k1 k2 k4 k6 k7 k8 h
    have := k5 i p (by omega)
    try simp only [u3_eq, urow_eq]
    grind
  · clear k1 k2 k3 k4 k5 k7 k8 h
    have := k6 l (by omega)
    try simp only [u3_eq, urow_eq]
    grind
  · clear k1 k2 k3 k4 k5 k6 k8 h
    try simp only [u3_eq, urow_eq] at hg ⊢
    grind
  · clear k1 k2 k3 k4 k5 k6 k7 h
    have := k8 i (by omega)
    try simp only [u3_eq, urow_eq]
    grind
theorem sR_S6 {L n lo : Nat} {k : Nat} {x : Int32} {V M S : gY} (h : sR L n lo V M S)  : sR L n lo (u3 V 2 k 6 x) M (u3 S 29 0 k x) := by
  have k1 := h.k1
  have k2 := h.k2
  have k3 := h.k3
  have k4 := h.k4
  have k5 := h.k5
  have k6 := h.k6
  have k7 := h.k7
  have k8 := h.k8
  refine ⟨?_, ?_, fun i hi => ?_, fun i hi => ?_, fun i p hi => ?_, fun l hl => ?_, fun g hg => ?_, fun i hi => ?_⟩
  · clear k2 k3 k4 k5 k6 k7 k8 h
    try simp only [u3_eq, urow_eq]
    grind
  · clear k1 k3 k4 k5 k6 k7 k8 h
    try simp only [u3_eq, urow_eq]
    grind
  · clear k1 k2 k4 k5 k6 k7 k8 h
    have := k3 i (by omega)
    try simp only [u3_eq, urow_eq]
    grind
  · clear k1 k2 k5 k6 k7 k8 h
    have := k4 i (by omega)
    try simp only [u3_eq, urow_eq]
    grind
  · clear k1 k2 k4 k6 k7 k8 h
    have := k5 i p (by omega)
    try simp only [u3_eq, urow_eq]
    grind
  · clear k1 k2 k3 k4 k5 k7 k8 h
    have := k6 l (by omega)
    try simp only [u3_eq, urow_eq]
    grind
  · clear k1 k2 k3 k4 k5 k6 k8 h
    try simp only [u3_eq, urow_eq] at hg ⊢
    grind
  · clear k1 k2 k3 k4 k5 k6 k7 h
    have := k8 i (by omega)
    try simp only [u3_eq, urow_eq]
    grind
theorem sR_S7 {L n lo : Nat} {k : Nat} {x : Int32} {V M S : gY} (h : sR L n lo V M S)  : sR L n lo (u3 V 2 k 7 x) M (u3 S 30 0 k x) := by
  have k1 := h.k1
  have k2 := h.k2
  have k3 := h.k3
  have k4 := h.k4
  have k5 := h.k5
  have k6 := h.k6
  have k7 := h.k7
  have k8 := h.k8
  refine ⟨?_, ?_, fun i hi => ?_, fun i hi => ?_, fun i p hi => ?_, fun l hl => ?_, fun g hg => ?_, fun i hi => ?_⟩
  · clear k2 k3 k4 k5 k6 k7 k8 h
    try simp only [u3_eq, urow_eq]
    grind
  · clear k1 k3 k4 k5 k6 k7 k8 h
    try simp only [u3_eq, urow_eq]
    grind
  · clear k1 k2 k4 k5 k6 k7 k8 h
    have := k3 i (by omega)
    try simp only [u3_eq, urow_eq]
    grind
  · clear k1 k2 k5 k6 k7 k8 h
    have := k4 i (by omega)
    try simp only [u3_eq, urow_eq]
    grind
  · clear k1 k2 k4 k6 k7 k8 h
    have := k5 i p (by omega)
    try simp only [u3_eq, urow_eq]
    grind
  · clear k1 k2 k3 k4 k5 k7 k8 h
    have := k6 l (by omega)
    try simp only [u3_eq, urow_eq]
    grind
  · clear k1 k2 k3 k4 k5 k6 k8 h
    try simp only [u3_eq, urow_eq] at hg ⊢
    grind
  · clear k1 k2 k3 k4 k5 k6 k7 h
    have := k8 i (by omega)
    try simp only [u3_eq, urow_eq]
    grind
theorem sR_LT {L n lo : Nat} {j : Nat} {x : Int32} {V M S : gY} (h : sR L n lo V M S)  : sR L n lo (u3 V 4 j 4 x) M (u3 S 37 0 j x) := by
  have k1 := h.k1
  have k2 := h.k2
  have k3 := h.k3
  have k4 := h.k4
  have k5 := h.k5
  have k6 := h.k6
  have k7 := h.k7
  have k8 := h.k8
  refine ⟨?_, ?_, fun i hi => ?_, fun i hi => ?_, fun i p hi => ?_, fun l hl => ?_, fun g hg => ?_, fun i hi => ?_⟩
  · clear k2 k3 k4 k5 k6 k7 k8 h
    try simp only [u3_eq, urow_eq]
    grind
  · clear k1 k3 k4 k5 k6 k7 k8 h
    try simp only [u3_eq, urow_eq]
    grind
  · clear k1 k2 k4 k5 k6 k7 k8 h
    have := k3 i (by omega)
    try simp only [u3_eq, urow_eq]
    grind
  · clear k1 k2 k5 k6 k7 k8 h
    have := k4 i (by omega)
    try simp only [u3_eq, urow_eq]
    grind
  · clear k1 k2 k4 k6 k7 k8 h
    have := k5 i p (by omega)
    try simp only [u3_eq, urow_eq]
    grind
  · clear k1 k2 k3 k4 k5 k7 k8 h
    have := k6 l (by omega)
    try simp only [u3_eq, urow_eq]
    grind
  · clear k1 k2 k3 k4 k5 k6 k8 h
    try simp only [u3_eq, urow_eq] at hg ⊢
    grind
  · clear k1 k2 k3 k4 k5 k6 k7 h
    have := k8 i (by omega)
    try simp only [u3_eq, urow_eq]
    grind
theorem sR_SWy {L n lo : Nat} {k : Nat} {x : Int32} {V M S : gY} (h : sR L n lo V M S)  : sR L n lo (u3 V 2 k 1 x) (u3 M 13 0 k x) S := by
  have k1 := h.k1
  have k2 := h.k2
  have k3 := h.k3
  have k4 := h.k4
  have k5 := h.k5
  have k6 := h.k6
  have k7 := h.k7
  have k8 := h.k8
  refine ⟨?_, ?_, fun i hi => ?_, fun i hi => ?_, fun i p hi => ?_, fun l hl => ?_, fun g hg => ?_, fun i hi => ?_⟩
  · clear k2 k3 k4 k5 k6 k7 k8 h
    try simp only [u3_eq, urow_eq]
    grind
  · clear k1 k3 k4 k5 k6 k7 k8 h
    try simp only [u3_eq, urow_eq]
    grind
  · clear k1 k2 k4 k5 k6 k7 k8 h
    have := k3 i (by omega)
    try simp only [u3_eq, urow_eq]
    grind
  · clear k1 k2 k5 k6 k7 k8 h
    have := k4 i (by omega)
    try simp only [u3_eq, urow_eq]
    grind
  · clear k1 k2 k4 k6 k7 k8 h
    have := k5 i p (by omega)
    try simp only [u3_eq, urow_eq]
    grind
  · clear k1 k2 k3 k4 k5 k7 k8 h
    have := k6 l (by omega)
    try simp only [u3_eq, urow_eq]
    grind
  · clear k1 k2 k3 k4 k5 k6 k8 h
    try simp only [u3_eq, urow_eq] at hg ⊢
    grind
  · clear k1 k2 k3 k4 k5 k6 k7 h
    have := k8 i (by omega)
    try simp only [u3_eq, urow_eq]
    grind
theorem sR_SFk {L n lo : Nat} {x : Int32} {V M S : gY} (h : sR L n lo V M S)  : sR L n lo (u3 V 0 0 1 x) (u3 M 11 0 7 x) S := by
  have k1 := h.k1
  have k2 := h.k2
  have k3 := h.k3
  have k4 := h.k4
  have k5 := h.k5
  have k6 := h.k6
  have k7 := h.k7
  have k8 := h.k8
  refine ⟨?_, ?_, fun i hi => ?_, fun i hi => ?_, fun i p hi => ?_, fun l hl => ?_, fun g hg => ?_, fun i hi => ?_⟩
  · clear k2 k3 k4 k5 k6 k7 k8 h
    try simp only [u3_eq, urow_eq]
    grind
  · clear k1 k3 k4 k5 k6 k7 k8 h
    try simp only [u3_eq, urow_eq]
    grind
  · clear k1 k2 k4 k5 k6 k7 k8 h
    have := k3 i (by omega)
    try simp only [u3_eq, urow_eq]
    grind
  · clear k1 k2 k5 k6 k7 k8 h
    have := k4 i (by omega)
    try simp only [u3_eq, urow_eq]
    grind
  · clear k1 k2 k4 k6 k7 k8 h
    have := k5 i p (by omega)
    try simp only [u3_eq, urow_eq]
    grind
  · clear k1 k2 k3 k4 k5 k7 k8 h
    have := k6 l (by omega)
    try simp only [u3_eq, urow_eq]
    grind
  · clear k1 k2 k3 k4 k5 k6 k8 h
    try simp only [u3_eq, urow_eq] at hg ⊢
    grind
  · clear k1 k2 k3 k4 k5 k6 k7 h
    have := k8 i (by omega)
    try simp only [u3_eq, urow_eq]
    grind
theorem sR_TH {L n lo : Nat} {x : Int32} {V M S : gY} (h : sR L n lo V M S)  : sR L n lo V (u3 M 11 0 0 x) S := by
  have k1 := h.k1
  have k2 := h.k2
  have k3 := h.k3
  have k4 := h.k4
  have k5 := h.k5
  have k6 := h.k6
  have k7 := h.k7
  have k8 := h.k8
  refine ⟨?_, ?_, fun i hi => ?_, fun i hi => ?_, fun i p hi => ?_, fun l hl => ?_, fun g hg => ?_, fun i hi => ?_⟩
  · clear k2 k3 k4 k5 k6 k7 k8 h
    try simp only [u3_eq, urow_eq]
    grind
  · clear k1 k3 k4 k5 k6 k7 k8 h
    try simp only [u3_eq, urow_eq]
    grind
  · clear k1 k2 k4 k5 k6 k7 k8 h
    have := k3 i (by omega)
    try simp only [u3_eq, urow_eq]
    grind
  · clear k1 k2 k5 k6 k7 k8 h
    have := k4 i (by omega)
    try simp only [u3_eq, urow_eq]
    grind
  · clear k1 k2 k4 k6 k7 k8 h
    have := k5 i p (by omega)
    try simp only [u3_eq, urow_eq]
    grind
  · clear k1 k2 k3 k4 k5 k7 k8 h
    have := k6 l (by omega)
    try simp only [u3_eq, urow_eq]
    grind
  · clear k1 k2 k3 k4 k5 k6 k8 h
    try simp only [u3_eq, urow_eq] at hg ⊢
    grind
  · clear k1 k2 k3 k4 k5 k6 k7 h
    have := k8 i (by omega)
    try simp only [u3_eq, urow_eq]
    grind
def sA (V V' : gY) : Prop := ∀ t i j, t ≠ 7 → t ≠ 9 → V' t i j = V t i j
theorem sA.rfl' (V : gY) : sA V V := fun _ _ _ _ _ => rfl
theorem sA.tr {V V1 V2 : gY} (h : sA V V1) (g : sA V1 V2) : sA V V2 := fun t i j a b => (g t i j a b).trans (h t i j a b)
theorem sR.al {L n lo : Nat} {V V' M S : gY} (h : sR L n lo V M S) (a : sA V V') : sR L n lo V' M S := by
  have e : ∀ t i j, t ≠ 7 → t ≠ 9 → V' t i j = V t i j := a
  refine ⟨?_, ?_, fun i hi => ?_, fun i hi => ?_, fun i p hi => ?_, fun l hl => ?_, fun g hg => ?_, fun i hi => ?_⟩
  · have := h.k1
    simp only [e _ _ _ (show 1 ≠ 7 by decide) (show 1 ≠ 9 by decide)]
    exact this
  · have := h.k2
    simp only [e _ _ _ (show 0 ≠ 7 by decide) (show 0 ≠ 9 by decide)]
    exact this
  · have := h.k3 i hi
    simp only [e _ _ _ (show 2 ≠ 7 by decide) (show 2 ≠ 9 by decide), e _ _ _ (show 6 ≠ 7 by decide) (show 6 ≠ 9 by decide)]
    exact this
  · have := h.k4 i hi
    simp only [e _ _ _ (show 2 ≠ 7 by decide) (show 2 ≠ 9 by decide)]
    exact this
  · have := h.k5 i p hi
    simp only [e _ _ _ (show 3 ≠ 7 by decide) (show 3 ≠ 9 by decide)]
    exact this
  · have := h.k6 l hl
    simp only [e _ _ _ (show 4 ≠ 7 by decide) (show 4 ≠ 9 by decide)]
    exact this
  · have := h.k7 g hg
    simp only [e _ _ _ (show 5 ≠ 7 by decide) (show 5 ≠ 9 by decide)]
    exact this
  · exact h.k8 i hi
theorem sA_loose {V : gY} {n : Nat} {f : Nat → Int32} : sA (u3 V 1 9 0 (nI (cnt V 9 + 1))) (pLoose V n f) := fun t i j h7 h9 => by
  unfold pLoose
  simp only [u3_eq, urow_eq]
  grind
theorem sA_9 {V V' : gY} {q j : Nat} {x : Int32} (h : sA V V') : sA V (u3 V' 9 q j x) := fun t i j h7 h9 => by
  rw [u3_eq, if_neg (by omega)]
  exact h t i j h7 h9
theorem sR_LN {L n lo : Nat} {k m : Nat} {V M S : gY} (h : sR L n lo V M S) (hk : k < n) (hm : S 31 0 k = nI m) (hm0 : 0 < m) (hm8 : m ≤ 8) (hL : L < 300) (h8 : ∀ i, i < n → (S 31 0 i).toNatClampNeg ≤ 8) : sR L n lo (pLess V k 1) M (u3 (urow S 32 0 (va_cpy (S 32 0) (S 32 0) (8 * k + 1) (8 * k) (m - 1))) 31 0 k (nI (m - 1))) := by
  have k1 := h.k1
  have k2 := h.k2
  have k3 := h.k3
  have k4 := h.k4
  have k5 := h.k5
  have k6 := h.k6
  have k7 := h.k7
  have k8 := h.k8
  have hcl : (nI (m - 1)).toNatClampNeg = m - 1 := nI_clamp (by omega)
  have hcm : (nI m).toNatClampNeg = m := nI_clamp (by omega)
  have hr : rln V 3 k = m := by show (V 6 k 0).toNatClampNeg = m; rw [(k3 k hk).2.2.2.2.2.2.2, hm, hcm]
  have h9 : cnt V 9 = L := by show (V 1 9 0).toNatClampNeg = L; rw [k1.2.2.2.2, nI_clamp (by omega)]
  have l1 : ∀ t, pLess V k 1 1 t 0 = V 1 t 0 := fun t => by rw [less_1 (by omega), h9, ← k1.2.2.2.2]; split <;> simp_all
  have l3 : ∀ j, pLess V k 1 3 k j = V 3 k (j + 1) := fun j => by rw [less_3 (by omega), if_neg (by decide)]
  have l6 : ∀ i, pLess V k 1 6 i 0 = if i = k then nI (m - 1) else V 6 i 0 := fun i => by rw [less_6 (by omega), hr]
  have la : ∀ t i j, t ≠ 1 ∧ t ≠ 6 ∧ t ≠ 7 ∧ t ≠ 9 → ¬ (t = 3 ∧ i = k) → pLess V k 1 t i j = V t i j := fun t i j a b => less_at a b j
  generalize pLess V k 1 = V1 at *
  refine ⟨?_, ?_, fun i hi => ?_, fun i hi => ?_, fun i p hi => ?_, fun l hl => ?_, fun g hg => ?_, fun i hi => ?_⟩
  · clear k2 k3 k4 k5 k6 k7 k8 h
    try simp only [u3_eq, urow_eq, va_cpy]
    grind
  · clear k1 k3 k4 k5 k6 k7 k8 h
    try simp only [u3_eq, urow_eq, va_cpy]
    grind
  · clear k1 k2 k4 k5 k6 k7 k8 h
    have := k3 i (by omega)
    try simp only [u3_eq, urow_eq, va_cpy]
    grind
  · clear k1 k2 k5 k6 k7 k8 h
    have := k4 i (by omega)
    try simp only [u3_eq, urow_eq, va_cpy]
    grind
  · clear k1 k2 k4 k6 k7 k8 h
    have := k5 i p (by omega)
    clear this
    intro hp
    by_cases e : i = k
    · subst e
      have hp : p < m - 1 := by rw [← hcl]; simpa [u3_eq] using hp
      rw [l3, k5 i (p + 1) hk (by rw [hm, hcm]; omega)]
      simp only [u3_eq, urow_eq, va_cpy]
      rw [if_neg (by omega), if_pos (by simp), if_pos (by omega)]
      congr 1
      omega
    · have hp : p < (S 31 0 i).toNatClampNeg := by simpa [u3_eq, urow_eq, e] using hp
      have hb := h8 i hi
      rw [la 3 i p (by decide) (by omega), k5 i p hi hp]
      simp only [u3_eq, urow_eq, va_cpy]
      rw [if_neg (by omega), if_pos (by simp), if_neg (by omega)]
  · clear k1 k2 k3 k4 k5 k7 k8 h
    have := k6 l (by omega)
    try simp only [u3_eq, urow_eq, va_cpy]
    grind
  · clear k1 k2 k3 k4 k5 k6 k8 h
    try simp only [u3_eq, urow_eq, va_cpy] at hg ⊢
    grind
  · clear k1 k2 k3 k4 k5 k6 k7 h
    have := k8 i (by omega)
    try simp only [u3_eq, urow_eq, va_cpy]
    grind
theorem sR_LF {L n lo : Nat} {k m : Nat} {V M S : gY} (h : sR L n lo V M S) (hk : k < n) (hm : S 31 0 k = nI m) (hm0 : 0 < m) (hm8 : m ≤ 8) (hL : L < 300) (h8 : ∀ i, i < n → (S 31 0 i).toNatClampNeg ≤ 8) : sR L n lo (pLess V k 0) M (u3 S 31 0 k (nI (m - 1))) := by
  have k1 := h.k1
  have k2 := h.k2
  have k3 := h.k3
  have k4 := h.k4
  have k5 := h.k5
  have k6 := h.k6
  have k7 := h.k7
  have k8 := h.k8
  have hcl : (nI (m - 1)).toNatClampNeg = m - 1 := nI_clamp (by omega)
  have hcm : (nI m).toNatClampNeg = m := nI_clamp (by omega)
  have hr : rln V 3 k = m := by show (V 6 k 0).toNatClampNeg = m; rw [(k3 k hk).2.2.2.2.2.2.2, hm, hcm]
  have h9 : cnt V 9 = L := by show (V 1 9 0).toNatClampNeg = L; rw [k1.2.2.2.2, nI_clamp (by omega)]
  have l1 : ∀ t, pLess V k 0 1 t 0 = V 1 t 0 := fun t => by rw [less_1 (by omega), h9, ← k1.2.2.2.2]; split <;> simp_all
  have l3 : ∀ j, pLess V k 0 3 k j = V 3 k j := fun j => by rw [less_3 (by omega), if_pos rfl]
  have l6 : ∀ i, pLess V k 0 6 i 0 = if i = k then nI (m - 1) else V 6 i 0 := fun i => by rw [less_6 (by omega), hr]
  have la : ∀ t i j, t ≠ 1 ∧ t ≠ 6 ∧ t ≠ 7 ∧ t ≠ 9 → ¬ (t = 3 ∧ i = k) → pLess V k 0 t i j = V t i j := fun t i j a b => less_at a b j
  generalize pLess V k 0 = V1 at *
  refine ⟨?_, ?_, fun i hi => ?_, fun i hi => ?_, fun i p hi => ?_, fun l hl => ?_, fun g hg => ?_, fun i hi => ?_⟩
  · clear k2 k3 k4 k5 k6 k7 k8 h
    try simp only [u3_eq, urow_eq, va_cpy]
    grind
  · clear k1 k3 k4 k5 k6 k7 k8 h
    try simp only [u3_eq, urow_eq, va_cpy]
    grind
  · clear k1 k2 k4 k5 k6 k7 k8 h
    have := k3 i (by omega)
    try simp only [u3_eq, urow_eq, va_cpy]
    grind
  · clear k1 k2 k5 k6 k7 k8 h
    have := k4 i (by omega)
    try simp only [u3_eq, urow_eq, va_cpy]
    grind
  · clear k1 k2 k4 k6 k7 k8 h
    have := k5 i p (by omega)
    clear this
    intro hp
    by_cases e : i = k
    · subst e
      have hp : p < m - 1 := by rw [← hcl]; simpa [u3_eq] using hp
      rw [l3, k5 i p hk (by rw [hm, hcm]; omega)]
      simp only [u3_eq]
      rw [if_neg (by omega)]
    · have hp : p < (S 31 0 i).toNatClampNeg := by simpa [u3_eq, urow_eq, e] using hp
      have hb := h8 i hi
      rw [la 3 i p (by decide) (by omega), k5 i p hi hp]
      simp only [u3_eq]
      rw [if_neg (by omega)]
  · clear k1 k2 k3 k4 k5 k7 k8 h
    have := k6 l (by omega)
    try simp only [u3_eq, urow_eq, va_cpy]
    grind
  · clear k1 k2 k3 k4 k5 k6 k8 h
    try simp only [u3_eq, urow_eq, va_cpy] at hg ⊢
    grind
  · clear k1 k2 k3 k4 k5 k6 k7 h
    have := k8 i (by omega)
    try simp only [u3_eq, urow_eq, va_cpy]
    grind
theorem sR_FK {L n lo : Nat} {k q m N b j0 : Nat} {x0 : Int32} {r1 r2 rc : Nat → Int32} {V M S : gY} (h : sR L n lo V M S) (hk : k < n) (hm : S 31 0 k = nI m) (hm8 : m < 8) (h8 : ∀ i, i < n → (S 31 0 i).toNatClampNeg ≤ 8) (hN : S 20 0 19 = nI N) (hN9 : N < 400) (hq9 : q < 1000) (a0 : r1 0 = nI (b / 2)) (a1 : r1 1 = nI (b / 2)) (a2 : r1 2 = nI j0) (a3 : r1 3 = nI q) (a4 : r1 4 = nI (N + 1)) (a5 : r1 5 = 0) (b0 : r2 0 = nI (b - b / 2)) (b1 : r2 1 = nI (b - b / 2)) (b2 : r2 2 = nI j0) (b3 : r2 3 = nI q) (b4 : r2 4 = nI N) (b5 : r2 5 = 0) (rc0 : rc 0 = nI (N + 1)) (rc1 : ∀ p, p < m → rc (p + 1) = V 3 k p) : sR L n lo (u3 (u3 (u3 (urow (u3 (urow (u3 (urow V 5 N r1) 1 5 0 (nI (N + 1))) 5 (N + 1) r2) 1 5 0 (nI (N + 2))) 3 k rc) 6 k 0 (nI (m + 1))) 2 k 3 (nI N)) 0 0 7 (V 0 0 7 + 1)) M (u3 (u3 (u3 (u3 (u3 (urow (u3 (u3 (u3 (u3 (u3 (u3 (u3 (u3 (u3 (u3 (u3 (u3 (u3 (u3 (u3 (u3 S 40 0 N (nI (b / 2))) 41 0 N (nI (b / 2))) 42 0 N (nI j0)) 43 0 N (nI q)) 44 0 N (-1)) 45 0 N 0) 20 0 19 (nI (N + 1))) 40 0 (N + 1) (nI (b - b / 2))) 41 0 (N + 1) (nI (b - b / 2))) 42 0 (N + 1) (nI j0)) 43 0 (N + 1) (nI q)) 44 0 (N + 1) (-1)) 45 0 (N + 1) 0) 20 0 19 (nI (N + 2))) 44 0 N (nI (N + 1))) 44 0 (N + 1) (nI N)) 32 0 (va_cpy (S 32 0) (S 32 0) (8 * k) (8 * k + 1) m)) 32 0 (8 * k) (nI (N + 1))) 31 0 k (nI (m + 1))) 26 0 k (nI N)) 36 0 j0 x0) 20 0 2 (S 20 0 2 + 1)) := by
  have k1 := h.k1
  have k2 := h.k2
  have k3 := h.k3
  have k4 := h.k4
  have k5 := h.k5
  have k6 := h.k6
  have k7 := h.k7
  have k8 := h.k8
  have hcN : (nI N).toNatClampNeg = N := nI_clamp (by omega)
  have hcN2 : (nI (N + 2)).toNatClampNeg = N + 2 := nI_clamp (by omega)
  have hcm : (nI m).toNatClampNeg = m := nI_clamp (by omega)
  have hcm1 : (nI (m + 1)).toNatClampNeg = m + 1 := nI_clamp (by omega)
  have hq1 : ¬ nI q = -1 := zn_m1 (by omega)
  refine ⟨?_, ?_, fun i hi => ?_, fun i hi => ?_, fun i p hi => ?_, fun l hl => ?_, fun g hg => ?_, fun i hi => ?_⟩
  · clear k2 k3 k4 k5 k6 k7 k8 h
    try simp only [u3_eq, urow_eq]
    grind
  · clear k1 k3 k4 k5 k6 k7 k8 h
    try simp only [u3_eq, urow_eq]
    grind
  · clear k1 k2 k4 k5 k6 k7 k8 h
    have := k3 i (by omega)
    try simp only [u3_eq, urow_eq]
    grind
  · clear k1 k2 k5 k6 k7 k8 h
    have := k4 i (by omega)
    try simp only [u3_eq, urow_eq]
    grind
  · clear k1 k2 k4 k6 k7 k8 h
    have := k5 i p (by omega)
    clear this
    intro hp
    by_cases e : i = k
    · subst e
      have hp : p < m + 1 := by rw [← hcm1]; simpa [u3_eq, urow_eq] using hp
      have lv : u3 (u3 (u3 (urow (u3 (urow (u3 (urow V 5 N r1) 1 5 0 (nI (N + 1))) 5 (N + 1) r2) 1 5 0 (nI (N + 2))) 3 i rc) 6 i 0 (nI (m + 1))) 2 i 3 (nI N)) 0 0 7 (V 0 0 7 + 1) 3 i p = rc p := by simp [u3_eq, urow_eq]
      rw [lv]
      rcases p with _ | p
      · rw [rc0]
        simp [u3_eq, urow_eq]
      · rw [rc1 p (by omega), k5 i p hk (by rw [hm, hcm]; omega)]
        have ne : ¬ 8 * i + (p + 1) = 8 * i := by omega
        simp only [u3_eq, urow_eq, va_cpy]
        rw [if_neg (by omega), if_neg (by omega), if_neg (by omega), if_neg (by omega), if_neg (by omega), if_pos (by simp), if_pos (by omega)]
        congr 1
        omega
    · have hp : p < (S 31 0 i).toNatClampNeg := by simpa [u3_eq, urow_eq, e] using hp
      have hb := h8 i hi
      have ne : ¬ 8 * i + p = 8 * k := by omega
      have lv : u3 (u3 (u3 (urow (u3 (urow (u3 (urow V 5 N r1) 1 5 0 (nI (N + 1))) 5 (N + 1) r2) 1 5 0 (nI (N + 2))) 3 k rc) 6 k 0 (nI (m + 1))) 2 k 3 (nI N)) 0 0 7 (V 0 0 7 + 1) 3 i p = V 3 i p := by simp [u3_eq, urow_eq, e]
      rw [lv, k5 i p hi hp]
      simp only [u3_eq, urow_eq, va_cpy]
      rw [if_neg (by omega), if_neg (by omega), if_neg (by omega), if_neg (by omega), if_neg (by omega), if_pos (by simp), if_neg (by omega)]
  · clear k1 k2 k3 k4 k5 k7 k8 h
    have := k6 l (by omega)
    try simp only [u3_eq, urow_eq]
    grind
  · clear k1 k2 k3 k4 k5 k6 k8 h
    try simp only [u3_eq, urow_eq] at hg ⊢
    grind
  · clear k1 k2 k3 k4 k5 k6 k7 h
    have := k8 i (by omega)
    try simp only [u3_eq, urow_eq]
    grind
