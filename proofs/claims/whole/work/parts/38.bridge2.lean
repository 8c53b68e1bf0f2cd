theorem br_row {D : va_G} {a h k q n : Nat} {x : va_E} {es : List va_E} {H : Heap} {cA : ClassId} {f : Nat → Int32} {V : Nat → Value} (C : CW D a x h es H) (hk : es[k]? = some (.inl (cA, n, .inl f))) (hq : q = h + k) (hV : ∀ j, Value.int (f j) = V j) : H[q]? = some (arrV cA n V) :=
  br_arr C hk hq (by show arrV cA n (fun j => .int (f j)) = _; rw [show (fun j => Value.int (f j)) = V from funext hV])
theorem arrV_same {cA : ClassId} {n : Nat} {f g : Nat → Value} (h : ∀ j, j < n → f j = g j) : arrV cA n f = arrV cA n g := by
  unfold arrV
  congr 1
  exact congrArg Array.ofFn (funext fun j => h j.val j.isLt)
theorem br_refs {D : va_G} {a h k q n : Nat} {x : va_E} {es : List va_E} {H : Heap} {cA : ClassId} {f : Nat → Option Nat} {V : Nat → Value} (C : CW D a x h es H) (hk : es[k]? = some (.inl (cA, n, .inr (.inr (.inr (.inr f)))))) (hq : q = h + k) (hV : ∀ j, j < n → va_rf (f j) = V j) : H[q]? = some (arrV cA n V) :=
  br_arr C hk hq (arrV_same (f := fun j => va_rf (f j)) hV)
theorem br_long {D : va_G} {a h k q n : Nat} {x : va_E} {es : List va_E} {H : Heap} {cA : ClassId} {f : Nat → Int64} {V : Nat → Value} (C : CW D a x h es H) (hk : es[k]? = some (.inl (cA, n, .inr (.inl f)))) (hq : q = h + k) (hV : ∀ j, Value.long (f j) = V j) : H[q]? = some (arrV cA n V) :=
  br_arr C hk hq (arrV_same (f := fun j => .long (f j)) (fun j _ => hV j))
set_option maxHeartbeats 4000000 in
set_option maxRecDepth 100000 in
theorem GW0_0 {D : va_G} {Tk : Nat → ClassId} {N : Nat} {H : Heap} (C : CW D N (.inr (4, [.ref (N + 1), .ref (N + 34)])) (N + 1) (lawL Tk (N + 1)) H) : ∀ y, y < 2 → gat (gE0 D Tk N) (sh 0) (gA (gE0 D Tk N) y 0 0) H (sv (gE0 D Tk N) 0 gI0 y 0 0) := by
  intro y hy
  rcases (show y = 0 ∨ y = 1 by omega) with rfl | rfl
  · exact br_obj C (k := 0) rfl rfl rfl rfl
  · exact br_obj C (k := 33) rfl rfl rfl rfl
set_option maxHeartbeats 4000000 in
set_option maxRecDepth 100000 in
theorem GW0_5 {D : va_G} {Tk : Nat → ClassId} {N : Nat} {H : Heap} (C : CW D N (.inr (4, [.ref (N + 1), .ref (N + 34)])) (N + 1) (lawL Tk (N + 1)) H) : ∀ y, y < 2 → gat (gE0 D Tk N) (sh 5) (gA (gE0 D Tk N) y 5 0) H (sv (gE0 D Tk N) 0 gI0 y 5 0) := by
  intro y hy
  rcases (show y = 0 ∨ y = 1 by omega) with rfl | rfl
  · exact br_row C (k := 3) rfl rfl (fun j => rfl)
  · exact br_row C (k := 36) rfl rfl (fun j => rfl)
set_option maxHeartbeats 4000000 in
set_option maxRecDepth 100000 in
theorem GW0_6 {D : va_G} {Tk : Nat → ClassId} {N : Nat} {H : Heap} (C : CW D N (.inr (4, [.ref (N + 1), .ref (N + 34)])) (N + 1) (lawL Tk (N + 1)) H) : ∀ y, y < 2 → gat (gE0 D Tk N) (sh 6) (gA (gE0 D Tk N) y 6 0) H (sv (gE0 D Tk N) 0 gI0 y 6 0) := by
  intro y hy
  rcases (show y = 0 ∨ y = 1 by omega) with rfl | rfl
  · exact br_row C (k := 4) rfl rfl (fun j => rfl)
  · exact br_row C (k := 37) rfl rfl (fun j => rfl)
set_option maxHeartbeats 4000000 in
set_option maxRecDepth 100000 in
theorem GW0_7 {D : va_G} {Tk : Nat → ClassId} {N : Nat} {H : Heap} (C : CW D N (.inr (4, [.ref (N + 1), .ref (N + 34)])) (N + 1) (lawL Tk (N + 1)) H) : ∀ y, y < 2 → gat (gE0 D Tk N) (sh 7) (gA (gE0 D Tk N) y 7 0) H (sv (gE0 D Tk N) 0 gI0 y 7 0) := by
  intro y hy
  rcases (show y = 0 ∨ y = 1 by omega) with rfl | rfl
  · refine br_refs C (k := 1) rfl rfl (fun j hj => ?_)
    show va_rf (if j < 6 then some (N + 1 + 0 + 1 + 4 + 3 * j) else none) = Value.ref (adr N 0 1 j)
    rw [if_pos hj]
    unfold adr
    rw [if_pos (by decide)]
    show Value.ref _ = Value.ref _
    congr 1
    show _ = N + 1 + 33 * 0 + (5 + 3 * j)
    omega
  · refine br_refs C (k := 34) rfl rfl (fun j hj => ?_)
    show va_rf (if j < 6 then some (N + 1 + 33 + 1 + 4 + 3 * j) else none) = Value.ref (adr N 1 1 j)
    rw [if_pos hj]
    unfold adr
    rw [if_pos (by decide)]
    show Value.ref _ = Value.ref _
    congr 1
    show _ = N + 1 + 33 * 1 + (5 + 3 * j)
    omega
set_option maxHeartbeats 4000000 in
set_option maxRecDepth 100000 in
theorem GW0_8 {D : va_G} {Tk : Nat → ClassId} {N : Nat} {H : Heap} (C : CW D N (.inr (4, [.ref (N + 1), .ref (N + 34)])) (N + 1) (lawL Tk (N + 1)) H) : ∀ y, y < 2 → gat (gE0 D Tk N) (sh 8) (gA (gE0 D Tk N) y 8 0) H (sv (gE0 D Tk N) 0 gI0 y 8 0) := by
  intro y hy
  rcases (show y = 0 ∨ y = 1 by omega) with rfl | rfl
  · refine br_refs C (k := 2) rfl rfl (fun j hj => ?_)
    show va_rf (if j < 10 then some (N + 1 + 0 + 1 + 22 + 1 * j) else none) = Value.ref (adr N 0 4 j)
    rw [if_pos hj]
    unfold adr
    rw [if_pos (by decide)]
    show Value.ref _ = Value.ref _
    congr 1
    show _ = N + 1 + 33 * 0 + (23 + j)
    omega
  · refine br_refs C (k := 35) rfl rfl (fun j hj => ?_)
    show va_rf (if j < 10 then some (N + 1 + 33 + 1 + 22 + 1 * j) else none) = Value.ref (adr N 1 4 j)
    rw [if_pos hj]
    unfold adr
    rw [if_pos (by decide)]
    show Value.ref _ = Value.ref _
    congr 1
    show _ = N + 1 + 33 * 1 + (23 + j)
    omega
set_option maxHeartbeats 4000000 in
set_option maxRecDepth 100000 in
theorem GW0_1 {D : va_G} {Tk : Nat → ClassId} {N : Nat} {H : Heap} (C : CW D N (.inr (4, [.ref (N + 1), .ref (N + 34)])) (N + 1) (lawL Tk (N + 1)) H) : ∀ y i, y < 2 → i < 6 → gat (gE0 D Tk N) (sh 1) (gA (gE0 D Tk N) y 1 i) H (sv (gE0 D Tk N) 0 gI0 y 1 i) := by
  intro y i hy hi
  rcases (show y = 0 ∨ y = 1 by omega) with rfl | rfl
  · rcases (show i = 0 ∨ i = 1 ∨ i = 2 ∨ i = 3 ∨ i = 4 ∨ i = 5 by omega) with rfl | rfl | rfl | rfl | rfl | rfl
    · exact br_obj C (k := 5) rfl rfl rfl rfl
    · exact br_obj C (k := 8) rfl rfl rfl rfl
    · exact br_obj C (k := 11) rfl rfl rfl rfl
    · exact br_obj C (k := 14) rfl rfl rfl rfl
    · exact br_obj C (k := 17) rfl rfl rfl rfl
    · exact br_obj C (k := 20) rfl rfl rfl rfl
  · rcases (show i = 0 ∨ i = 1 ∨ i = 2 ∨ i = 3 ∨ i = 4 ∨ i = 5 by omega) with rfl | rfl | rfl | rfl | rfl | rfl
    · exact br_obj C (k := 38) rfl rfl rfl rfl
    · exact br_obj C (k := 41) rfl rfl rfl rfl
    · exact br_obj C (k := 44) rfl rfl rfl rfl
    · exact br_obj C (k := 47) rfl rfl rfl rfl
    · exact br_obj C (k := 50) rfl rfl rfl rfl
    · exact br_obj C (k := 53) rfl rfl rfl rfl
set_option maxHeartbeats 4000000 in
set_option maxRecDepth 100000 in
theorem GW0_2 {D : va_G} {Tk : Nat → ClassId} {N : Nat} {H : Heap} (C : CW D N (.inr (4, [.ref (N + 1), .ref (N + 34)])) (N + 1) (lawL Tk (N + 1)) H) : ∀ y i, y < 2 → i < 6 → gat (gE0 D Tk N) (sh 2) (gA (gE0 D Tk N) y 2 i) H (sv (gE0 D Tk N) 0 gI0 y 2 i) := by
  intro y i hy hi
  rcases (show y = 0 ∨ y = 1 by omega) with rfl | rfl
  · rcases (show i = 0 ∨ i = 1 ∨ i = 2 ∨ i = 3 ∨ i = 4 ∨ i = 5 by omega) with rfl | rfl | rfl | rfl | rfl | rfl
    · exact br_obj C (k := 6) rfl rfl rfl rfl
    · exact br_obj C (k := 9) rfl rfl rfl rfl
    · exact br_obj C (k := 12) rfl rfl rfl rfl
    · exact br_obj C (k := 15) rfl rfl rfl rfl
    · exact br_obj C (k := 18) rfl rfl rfl rfl
    · exact br_obj C (k := 21) rfl rfl rfl rfl
  · rcases (show i = 0 ∨ i = 1 ∨ i = 2 ∨ i = 3 ∨ i = 4 ∨ i = 5 by omega) with rfl | rfl | rfl | rfl | rfl | rfl
    · exact br_obj C (k := 39) rfl rfl rfl rfl
    · exact br_obj C (k := 42) rfl rfl rfl rfl
    · exact br_obj C (k := 45) rfl rfl rfl rfl
    · exact br_obj C (k := 48) rfl rfl rfl rfl
    · exact br_obj C (k := 51) rfl rfl rfl rfl
    · exact br_obj C (k := 54) rfl rfl rfl rfl
set_option maxHeartbeats 4000000 in
set_option maxRecDepth 100000 in
theorem GW0_3 {D : va_G} {Tk : Nat → ClassId} {N : Nat} {H : Heap} (C : CW D N (.inr (4, [.ref (N + 1), .ref (N + 34)])) (N + 1) (lawL Tk (N + 1)) H) : ∀ y i, y < 2 → i < 6 → gat (gE0 D Tk N) (sh 3) (gA (gE0 D Tk N) y 3 i) H (sv (gE0 D Tk N) 0 gI0 y 3 i) := by
  intro y i hy hi
  rcases (show y = 0 ∨ y = 1 by omega) with rfl | rfl
  · rcases (show i = 0 ∨ i = 1 ∨ i = 2 ∨ i = 3 ∨ i = 4 ∨ i = 5 by omega) with rfl | rfl | rfl | rfl | rfl | rfl
    · exact br_row C (k := 7) rfl rfl (fun j => rfl)
    · exact br_row C (k := 10) rfl rfl (fun j => rfl)
    · exact br_row C (k := 13) rfl rfl (fun j => rfl)
    · exact br_row C (k := 16) rfl rfl (fun j => rfl)
    · exact br_row C (k := 19) rfl rfl (fun j => rfl)
    · exact br_row C (k := 22) rfl rfl (fun j => rfl)
  · rcases (show i = 0 ∨ i = 1 ∨ i = 2 ∨ i = 3 ∨ i = 4 ∨ i = 5 by omega) with rfl | rfl | rfl | rfl | rfl | rfl
    · exact br_row C (k := 40) rfl rfl (fun j => rfl)
    · exact br_row C (k := 43) rfl rfl (fun j => rfl)
    · exact br_row C (k := 46) rfl rfl (fun j => rfl)
    · exact br_row C (k := 49) rfl rfl (fun j => rfl)
    · exact br_row C (k := 52) rfl rfl (fun j => rfl)
    · exact br_row C (k := 55) rfl rfl (fun j => rfl)
set_option maxHeartbeats 4000000 in
set_option maxRecDepth 100000 in
theorem GW0_4 {D : va_G} {Tk : Nat → ClassId} {N : Nat} {H : Heap} (C : CW D N (.inr (4, [.ref (N + 1), .ref (N + 34)])) (N + 1) (lawL Tk (N + 1)) H) : ∀ y i, y < 2 → i < 10 → gat (gE0 D Tk N) (sh 4) (gA (gE0 D Tk N) y 4 i) H (sv (gE0 D Tk N) 0 gI0 y 4 i) := by
  intro y i hy hi
  rcases (show y = 0 ∨ y = 1 by omega) with rfl | rfl
  · rcases (show i = 0 ∨ i = 1 ∨ i = 2 ∨ i = 3 ∨ i = 4 ∨ i = 5 ∨ i = 6 ∨ i = 7 ∨ i = 8 ∨ i = 9 by omega) with rfl | rfl | rfl | rfl | rfl | rfl | rfl | rfl | rfl | rfl
    · exact br_obj C (k := 23) rfl rfl rfl rfl
    · exact br_obj C (k := 24) rfl rfl rfl rfl
    · exact br_obj C (k := 25) rfl rfl rfl rfl
    · exact br_obj C (k := 26) rfl rfl rfl rfl
    · exact br_obj C (k := 27) rfl rfl rfl rfl
    · exact br_obj C (k := 28) rfl rfl rfl rfl
    · exact br_obj C (k := 29) rfl rfl rfl rfl
    · exact br_obj C (k := 30) rfl rfl rfl rfl
    · exact br_obj C (k := 31) rfl rfl rfl rfl
    · exact br_obj C (k := 32) rfl rfl rfl rfl
  · rcases (show i = 0 ∨ i = 1 ∨ i = 2 ∨ i = 3 ∨ i = 4 ∨ i = 5 ∨ i = 6 ∨ i = 7 ∨ i = 8 ∨ i = 9 by omega) with rfl | rfl | rfl | rfl | rfl | rfl | rfl | rfl | rfl | rfl
    · exact br_obj C (k := 56) rfl rfl rfl rfl
    · exact br_obj C (k := 57) rfl rfl rfl rfl
    · exact br_obj C (k := 58) rfl rfl rfl rfl
    · exact br_obj C (k := 59) rfl rfl rfl rfl
    · exact br_obj C (k := 60) rfl rfl rfl rfl
    · exact br_obj C (k := 61) rfl rfl rfl rfl
    · exact br_obj C (k := 62) rfl rfl rfl rfl
    · exact br_obj C (k := 63) rfl rfl rfl rfl
    · exact br_obj C (k := 64) rfl rfl rfl rfl
    · exact br_obj C (k := 65) rfl rfl rfl rfl
set_option maxHeartbeats 4000000 in
set_option maxRecDepth 100000 in
theorem GW0_10 {D : va_G} {Tk : Nat → ClassId} {N : Nat} {H : Heap} (C : CW D N (.inr (4, [.ref (N + 1), .ref (N + 34)])) (N + 1) (lawL Tk (N + 1)) H) : ∀ t, 10 ≤ t → t ≤ 16 → gat (gE0 D Tk N) (sh t) (gA (gE0 D Tk N) 2 t 0) H (sv (gE0 D Tk N) 0 gI0 2 t 0) := by
  intro t h1 h2
  rcases (show t = 10 ∨ t = 11 ∨ t = 12 ∨ t = 13 ∨ t = 14 ∨ t = 15 ∨ t = 16 by omega) with rfl | rfl | rfl | rfl | rfl | rfl | rfl
  · obtain ⟨r, h1, h2⟩ := C.2.1
    exact ⟨r, h1, h2.to (fun j hj => by
      obtain rfl : r = ("HayThieves", TX4, 2) := Option.some.inj (h1.symm.trans rfl)
      rcases (show j = 0 ∨ j = 1 by have : j < 2 := hj; omega) with rfl | rfl <;> rfl)⟩
  · exact br_obj C (k := 66) rfl rfl rfl rfl
  · exact br_row C (k := 67) rfl rfl (fun j => rfl)
  · exact br_row C (k := 68) rfl rfl (fun j => rfl)
  · exact br_row C (k := 69) rfl rfl (fun j => rfl)
  · exact br_row C (k := 70) rfl rfl (fun j => rfl)
  · exact br_long C (k := 113) rfl rfl (fun j => rfl)
set_option maxHeartbeats 4000000 in
set_option maxRecDepth 100000 in
theorem GW0_20 {D : va_G} {Tk : Nat → ClassId} {N : Nat} {H : Heap} (C : CW D N (.inr (4, [.ref (N + 1), .ref (N + 34)])) (N + 1) (lawL Tk (N + 1)) H) : ∀ y, y = 3 ∨ y = 4 → gat (gE0 D Tk N) (sh 20) (gA (gE0 D Tk N) y 20 0) H (sv (gE0 D Tk N) 0 gI0 y 20 0) := by
  rintro y (rfl | rfl)
  · exact br_obj C (k := 71) rfl rfl rfl rfl
  · exact br_obj C (k := 92) rfl rfl rfl rfl
set_option maxHeartbeats 4000000 in
set_option maxRecDepth 100000 in
theorem GW0_r {D : va_G} {Tk : Nat → ClassId} {N : Nat} {H : Heap} (C : CW D N (.inr (4, [.ref (N + 1), .ref (N + 34)])) (N + 1) (lawL Tk (N + 1)) H) : ∀ y t, y = 3 ∨ y = 4 → (25 ≤ t ∧ t ≤ 38) ∨ (40 ≤ t ∧ t ≤ 45) → gat (gE0 D Tk N) (sh t) (gA (gE0 D Tk N) y t 0) H (sv (gE0 D Tk N) 0 gI0 y t 0) := by
  rintro y t (rfl | rfl) ht
  · rcases (show t = 25 ∨ t = 26 ∨ t = 27 ∨ t = 28 ∨ t = 29 ∨ t = 30 ∨ t = 31 ∨ t = 32 ∨ t = 33 ∨ t = 34 ∨ t = 35 ∨ t = 36 ∨ t = 37 ∨ t = 38 ∨ t = 40 ∨ t = 41 ∨ t = 42 ∨ t = 43 ∨ t = 44 ∨ t = 45 by omega) with rfl | rfl | rfl | rfl | rfl | rfl | rfl | rfl | rfl | rfl | rfl | rfl | rfl | rfl | rfl | rfl | rfl | rfl | rfl | rfl
    · exact br_row C (k := 72) rfl rfl (fun j => rfl)
    · exact br_row C (k := 73) rfl rfl (fun j => rfl)
    · exact br_row C (k := 74) rfl rfl (fun j => rfl)
    · exact br_row C (k := 75) rfl rfl (fun j => rfl)
    · exact br_row C (k := 76) rfl rfl (fun j => rfl)
    · exact br_row C (k := 77) rfl rfl (fun j => rfl)
    · exact br_row C (k := 78) rfl rfl (fun j => rfl)
    · exact br_row C (k := 79) rfl rfl (fun j => rfl)
    · exact br_row C (k := 80) rfl rfl (fun j => rfl)
    · exact br_row C (k := 81) rfl rfl (fun j => rfl)
    · exact br_row C (k := 82) rfl rfl (fun j => rfl)
    · exact br_row C (k := 83) rfl rfl (fun j => rfl)
    · exact br_row C (k := 84) rfl rfl (fun j => rfl)
    · exact br_row C (k := 85) rfl rfl (fun j => rfl)
    · exact br_row C (k := 86) rfl rfl (fun j => rfl)
    · exact br_row C (k := 87) rfl rfl (fun j => rfl)
    · exact br_row C (k := 88) rfl rfl (fun j => rfl)
    · exact br_row C (k := 89) rfl rfl (fun j => rfl)
    · exact br_row C (k := 90) rfl rfl (fun j => rfl)
    · exact br_row C (k := 91) rfl rfl (fun j => rfl)
  · rcases (show t = 25 ∨ t = 26 ∨ t = 27 ∨ t = 28 ∨ t = 29 ∨ t = 30 ∨ t = 31 ∨ t = 32 ∨ t = 33 ∨ t = 34 ∨ t = 35 ∨ t = 36 ∨ t = 37 ∨ t = 38 ∨ t = 40 ∨ t = 41 ∨ t = 42 ∨ t = 43 ∨ t = 44 ∨ t = 45 by omega) with rfl | rfl | rfl | rfl | rfl | rfl | rfl | rfl | rfl | rfl | rfl | rfl | rfl | rfl | rfl | rfl | rfl | rfl | rfl | rfl
    · exact br_row C (k := 93) rfl rfl (fun j => rfl)
    · exact br_row C (k := 94) rfl rfl (fun j => rfl)
    · exact br_row C (k := 95) rfl rfl (fun j => rfl)
    · exact br_row C (k := 96) rfl rfl (fun j => rfl)
    · exact br_row C (k := 97) rfl rfl (fun j => rfl)
    · exact br_row C (k := 98) rfl rfl (fun j => rfl)
    · exact br_row C (k := 99) rfl rfl (fun j => rfl)
    · exact br_row C (k := 100) rfl rfl (fun j => rfl)
    · exact br_row C (k := 101) rfl rfl (fun j => rfl)
    · exact br_row C (k := 102) rfl rfl (fun j => rfl)
    · exact br_row C (k := 103) rfl rfl (fun j => rfl)
    · exact br_row C (k := 104) rfl rfl (fun j => rfl)
    · exact br_row C (k := 105) rfl rfl (fun j => rfl)
    · exact br_row C (k := 106) rfl rfl (fun j => rfl)
    · exact br_row C (k := 107) rfl rfl (fun j => rfl)
    · exact br_row C (k := 108) rfl rfl (fun j => rfl)
    · exact br_row C (k := 109) rfl rfl (fun j => rfl)
    · exact br_row C (k := 110) rfl rfl (fun j => rfl)
    · exact br_row C (k := 111) rfl rfl (fun j => rfl)
    · exact br_row C (k := 112) rfl rfl (fun j => rfl)
/-- what the constructors made is the world -/
theorem GW0 {D : va_G} {Tk : Nat → ClassId} {N : Nat} {H : Heap} (C : CW D N (.inr (4, [.ref (N + 1), .ref (N + 34)])) (N + 1) (lawL Tk (N + 1)) H) : GW (gE0 D Tk N) 0 gI0 H := gv_ind (P := fun y t i => gat (gE0 D Tk N) (sh t) (gA (gE0 D Tk N) y t i) H (sv (gE0 D Tk N) 0 gI0 y t i)) (GW0_0 C) (GW0_5 C) (GW0_6 C) (GW0_7 C) (GW0_8 C) (GW0_1 C) (GW0_2 C) (GW0_3 C) (GW0_4 C) (GW0_10 C) (GW0_20 C) (GW0_r C)
