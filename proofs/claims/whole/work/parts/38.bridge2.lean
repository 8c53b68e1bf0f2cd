theorem br_row {D : va_G} {a h k q n : Nat} {x : va_E} {es : List va_E} {H : Heap} {cA : ClassId} {f : Nat → Int32} {V : Nat → Value} (C : CW D a x h es H) (hk : es[k]? = some (.inl (cA, n, .inl f))) (hq : q = h + k) (hV : ∀ j, Value.int (f j) = V j) : H[q]? = some (arrV cA n V) :=
  br_arr C hk hq (by show arrV cA n (fun j => .int (f j)) = _; rw [show (fun j => Value.int (f j)) = V from funext hV])
set_option maxHeartbeats 4000000 in
set_option maxRecDepth 100000 in
theorem GW0_y {D : va_G} {Tk : Nat → ClassId} {N : Nat} {x : va_E} {H : Heap} (C : CW D N x (N + 1) (lawL Tk (N + 1)) H) : ∀ y, y < 2 → gat (gE0 D Tk N) (sh 0) (gA (gE0 D Tk N) y 0 0) H (sv (gE0 D Tk N) 0 gI0 y 0 0) := by
  intro y hy
  rcases (show y = 0 ∨ y = 1 by omega) with rfl | rfl
  · exact br_obj C (k := 0) rfl rfl rfl rfl
  · exact br_obj C (k := 33) rfl rfl rfl rfl
