/-! PRINTED by wip/gen/ctor.py: HayThieves() -/
/-- a yard behind its constructor, its cells from h on -/
def yO (h : Nat) : va_E := .inr (3, [.ref (h + 0), .ref (h + 1), .ref (h + 2), .ref (h + 3), .int 0, .int 0, .int 0, .int 10, .int 0, .int 0])
def yL (Tk : Nat → ClassId) (h : Nat) : List va_E := yO (h + 1) :: yP Tk (h + 1) 6 10
theorem yL_len (Tk : Nat → ClassId) (h : Nat) : (yL Tk h).length = 33 := by
  show (yP Tk (h + 1) 6 10).length + 1 = 33
  rw [yP_len]
set_option maxHeartbeats 4000000 in
set_option maxRecDepth 100000 in
theorem k_X4 (l : Launch) (D : va_G) (Tk : Nat → ClassId) (a h : Nat) : gMc l D Tk yX4_init cX4_init 1 4 66 1736 74 a h [] 4 [.null, .null] (.inr (4, [.ref (h + 0), .ref (h + 33)])) (yL Tk h ++ yL Tk (h + 33)) := by
  refine c_entry (lv := [(0, .ref a)]) (by decide) (Nat.le_of_ble_eq_true rfl) rfl ?_
  intro p e s m below meth c ls K hC hS hml hr hlocks hin hl
  have K : kc D Tk p m c cX4_init "HayThieves" _ s := K
  have hx := K.1
  have hb := K.2.1
  have hA : cA a h a := Or.inl rfl
  have hin : meth.name = "<init>" := hin
  refine lv_aload_n hx hb dX4_init_0 rfl (lv_at hl 0 rfl) ?_
  refine c_obj K q20 (hl.1.trans hml.symm) (Nat.le_of_ble_eq_true rfl) (Nat.le_of_ble_eq_true rfl) dX4_init_1 ?_
  refine lv_aload_n hx hb dX4_init_4 rfl (lv_at hl 0 rfl) ?_
  refine c_new (ci := 3) (C := "HayThieves$Yard") (T := TX3) (N := 10) (fs := [.null, .null, .null, .null, .int 0, .int 0, .int 0, .int 0, .int 0, .int 0]) K hC hS in_X3 tyX3 tyX3_ok q23 q24 q2 rfl (by decide) (Nat.le_of_ble_eq_true rfl) (Nat.le_of_ble_eq_true rfl) dX4_init_5 (fun H hC hS => ?_)
  refine lv_dup hx hb dX4_init_8 rfl ?_
  refine c_call (As := []) (rest := [.ref (h + 0), .ref a]) (es := []) (ci := 3) (fs := [.null, .null, .null, .null, .int 0, .int 0, .int 0, .int 0, .int 0, .int 0]) K hml (show gcaI yX3_init cX3_init 2 0 from ⟨q27, q2, q26, rfl, by decide +kernel⟩) q25 hC hS (k_X3 l D Tk _ _) rfl hl.1 (Nat.le_of_ble_eq_true rfl) ⟨by decide, by decide⟩ dX4_init_9 ⟨Nat.le_of_ble_eq_true rfl, Nat.le_of_ble_eq_true rfl⟩ (fun H locs hC hS => ?_)
  have hC : CW D a (.inr (4, [.null, .null])) h (yL Tk h) H := hC
  refine c_putF K hin (T := TX4) (v := .ref (h + 0)) (ty := .object "HayThieves$Yard") hC hS hA in_X4 tyX4 tyX4_ok nmX4 rfl 0 (by decide) q179 rfl rfl (by decide +kernel) rfl rfl (Nat.le_of_ble_eq_true rfl) dX4_init_12 (fun H locs hC hS => ?_)
  have hC : CW D a (.inr (4, [.ref (h + 0), .null])) h (yL Tk h) H := hC
  refine lv_aload_n hx hb dX4_init_15 rfl (lv_at hl 0 rfl) ?_
  refine c_new (ci := 3) (C := "HayThieves$Yard") (T := TX3) (N := 10) (fs := [.null, .null, .null, .null, .int 0, .int 0, .int 0, .int 0, .int 0, .int 0]) K hC hS in_X3 tyX3 tyX3_ok q23 q24 q2 rfl (by decide) (Nat.le_of_ble_eq_true rfl) (Nat.le_of_ble_eq_true rfl) dX4_init_16 (fun H hC hS => ?_)
  refine lv_dup hx hb dX4_init_19 rfl ?_
  refine c_call (As := []) (rest := [.ref (h + (yL Tk h).length), .ref a]) (es := yL Tk h) (ci := 3) (fs := [.null, .null, .null, .null, .int 0, .int 0, .int 0, .int 0, .int 0, .int 0]) K hml (show gcaI yX3_init cX3_init 2 0 from ⟨q27, q2, q26, rfl, by decide +kernel⟩) q25 hC hS (k_X3 l D Tk _ _) rfl hl.1 (Nat.le_of_ble_eq_true rfl) ⟨by decide, by decide⟩ dX4_init_20 ⟨Nat.le_of_ble_eq_true rfl, Nat.le_of_ble_eq_true rfl⟩ (fun H locs hC hS => ?_)
  rw [yL_len] at hC ⊢
  have hC : CW D a (.inr (4, [.ref (h + 0), .null])) h (yL Tk h ++ yL Tk (h + 33)) H := hC
  refine c_putF K hin (T := TX4) (v := .ref (h + 33)) (ty := .object "HayThieves$Yard") hC hS hA in_X4 tyX4 tyX4_ok nmX4 rfl 1 (by decide) q180 rfl rfl (by decide +kernel) rfl rfl (Nat.le_of_ble_eq_true rfl) dX4_init_23 (fun H locs hC hS => ?_)
  have hC : CW D a (.inr (4, [.ref (h + 0), .ref (h + 33)])) h (yL Tk h ++ yL Tk (h + 33)) H := hC
  exact c_ret K hC hS hr hlocks (Nat.le_of_ble_eq_true rfl) (Nat.le_of_ble_eq_true rfl) dX4_init_26
