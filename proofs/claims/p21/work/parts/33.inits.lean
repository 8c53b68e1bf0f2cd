/-! PRINTED by wip/gen/ctor.py: the constructors without loops -/
set_option maxHeartbeats 4000000 in
set_option maxRecDepth 100000 in
theorem k_X0 (l : Launch) (D : va_G) (Tk : Nat → ClassId) (a h : Nat) : gMc l D Tk yX0_init cX0_init 1 1 1 8 12 a h [] 0 [.null, .int 0] (.inr (0, [.ref (h + 0), .int 0])) [.inl (Tk 0, 8, .inl (fun _ => 0))] := by
  refine c_entry (lv := [(0, .ref (a))]) (by decide) (Nat.le_of_ble_eq_true rfl) rfl ?_
  intro p e s m below meth c ls K hC hS hml hr hlocks hin hl
  have K : kc D Tk p m c cX0_init "HayThieves$Cart" _ s := K
  have hx := K.1
  have hb := K.2.1
  have hA : cA a h a := Or.inl rfl
  have hin : meth.name = "<init>" := hin
  refine lv_aload_n hx hb dX0_init_0 rfl (lv_at hl 0 rfl) ?_
  refine c_obj K q43 (hl.1.trans hml.symm) (Nat.le_of_ble_eq_true rfl) (Nat.le_of_ble_eq_true rfl) dX0_init_1 ?_
  refine lv_aload_n hx hb dX0_init_4 rfl (lv_at hl 0 rfl) ?_
  refine lv_bipush (v := 8) hx hb dX0_init_5 (by decide) ?_
  refine c_newa (atype := .int) (k := 0) (ty := .int) (N' := 8) (a0 := (8, .inl (fun _ => 0))) K hC hS rfl q54 rfl (c_fcI K) (fun _ => rfl) (by decide) rfl (by decide) (Nat.le_of_ble_eq_true rfl) (Nat.le_of_ble_eq_true rfl) dX0_init_7 (fun H hC hS => ?_)
  have hC : CW D a (.inr (0, [.null, .int 0])) h [.inl (Tk 0, 8, .inl (fun _ => 0))] H := hC
  refine c_putF K hin (T := TX0) (v := .ref (h + 0)) (ty := .array (.int)) hC hS hA in_X0 tyX0 tyX0_ok nmX0 rfl 0 (by decide) q44 rfl rfl (by decide +kernel) rfl rfl (Nat.le_of_ble_eq_true rfl) dX0_init_9 (fun H locs hC hS => ?_)
  have hC : CW D a (.inr (0, [.ref (h + 0), .int 0])) h [.inl (Tk 0, 8, .inl (fun _ => 0))] H := hC
  refine lv_aload_n hx hb dX0_init_12 rfl (lv_at hl 0 rfl) ?_
  refine lv_iconst (v := 0) hx hb dX0_init_13 (by decide) ?_
  refine c_put K (T := TX0) (v := .int 0) (ty := .int) hC hS hA in_X0 tyX0 tyX0_ok nmX0 rfl 1 (by decide) q45 rfl (by decide +kernel) rfl rfl (Nat.le_of_ble_eq_true rfl) dX0_init_14 (fun H locs hC hS => ?_)
  have hC : CW D a (.inr (0, [.ref (h + 0), .int 0])) h [.inl (Tk 0, 8, .inl (fun _ => 0))] H := hC
  exact c_ret K hC hS hr hlocks (Nat.le_of_ble_eq_true rfl) (Nat.le_of_ble_eq_true rfl) dX0_init_17
set_option maxHeartbeats 4000000 in
set_option maxRecDepth 100000 in
theorem k_X1 (l : Launch) (D : va_G) (Tk : Nat → ClassId) (a h : Nat) (x : Int32) : gMc l D Tk yX1_init cX1_init 2 2 2 10 32 a h [.int x] 1 [.int 0, .int 0, .int 0, .null, .int 0, .int 0, .int 0, .int 0, .int 0, .int 0, .int 0, .int 0] (.inr (1, [.int x, .int 0, .int 0, .ref (h + 0), .int ((-1)), .int 0, .int ((-1)), .int 0, .int 0, .int 0, .int 0, .int 0])) [.inr (0, [.ref (h + 1), .int 0]), .inl (Tk 0, 8, .inl (fun _ => 0))] := by
  refine c_entry (lv := [(0, .ref (a)), (1, .int x)]) (by decide) (Nat.le_of_ble_eq_true rfl) rfl ?_
  intro p e s m below meth c ls K hC hS hml hr hlocks hin hl
  have K : kc D Tk p m c cX1_init "HayThieves$Lad" _ s := K
  have hx := K.1
  have hb := K.2.1
  have hA : cA a h a := Or.inl rfl
  have hin : meth.name = "<init>" := hin
  refine lv_aload_n hx hb dX1_init_0 rfl (lv_at hl 0 rfl) ?_
  refine c_obj K q37 (hl.1.trans hml.symm) (Nat.le_of_ble_eq_true rfl) (Nat.le_of_ble_eq_true rfl) dX1_init_1 ?_
  refine lv_aload_n hx hb dX1_init_4 rfl (lv_at hl 0 rfl) ?_
  refine lv_iconst (v := 0) hx hb dX1_init_5 (by decide) ?_
  refine c_put K (T := TX1) (v := .int 0) (ty := .int) hC hS hA in_X1 tyX1 tyX1_ok nmX1 rfl 1 (by decide) q58 rfl (by decide +kernel) rfl rfl (Nat.le_of_ble_eq_true rfl) dX1_init_6 (fun H locs hC hS => ?_)
  have hC : CW D a (.inr (1, [.int 0, .int 0, .int 0, .null, .int 0, .int 0, .int 0, .int 0, .int 0, .int 0, .int 0, .int 0])) h [] H := hC
  refine lv_aload_n hx hb dX1_init_9 rfl (lv_at hl 0 rfl) ?_
  refine lv_iconst (v := 0) hx hb dX1_init_10 (by decide) ?_
  refine c_put K (T := TX1) (v := .int 0) (ty := .int) hC hS hA in_X1 tyX1 tyX1_ok nmX1 rfl 2 (by decide) q60 rfl (by decide +kernel) rfl rfl (Nat.le_of_ble_eq_true rfl) dX1_init_11 (fun H locs hC hS => ?_)
  have hC : CW D a (.inr (1, [.int 0, .int 0, .int 0, .null, .int 0, .int 0, .int 0, .int 0, .int 0, .int 0, .int 0, .int 0])) h [] H := hC
  refine lv_aload_n hx hb dX1_init_14 rfl (lv_at hl 0 rfl) ?_
  refine c_new (ci := 0) (C := "HayThieves$Cart") (T := TX0) (N := 2) (fs := [.null, .int 0]) K hC hS in_X0 tyX0 tyX0_ok q38 q39 q4 rfl (by decide) (Nat.le_of_ble_eq_true rfl) (Nat.le_of_ble_eq_true rfl) dX1_init_15 (fun H hC hS => ?_)
  have hC : CW D a (.inr (1, [.int 0, .int 0, .int 0, .null, .int 0, .int 0, .int 0, .int 0, .int 0, .int 0, .int 0, .int 0])) h [.inr (0, [.null, .int 0])] H := hC
  refine lv_dup hx hb dX1_init_18 rfl ?_
  refine c_callN (As := []) (rest := [.ref (h + 0), .ref (a)]) (es := []) (ci := 0) (fs := [.null, .int 0]) K hml (show gcaI yX0_init cX0_init 1 0 from ⟨q42, q4, q41, rfl, by decide +kernel⟩) qm_Lad_20 hC hS (k_X0 l D Tk _ _) rfl hl.1 (Nat.le_of_ble_eq_true rfl) ⟨by decide, by decide⟩ dX1_init_19 ⟨Nat.le_of_ble_eq_true rfl, Nat.le_of_ble_eq_true rfl⟩ (fun H locs hC hS => ?_)
  have hC : CW D a (.inr (1, [.int 0, .int 0, .int 0, .null, .int 0, .int 0, .int 0, .int 0, .int 0, .int 0, .int 0, .int 0])) h [.inr (0, [.ref (h + 1), .int 0]), .inl (Tk 0, 8, .inl (fun _ => 0))] H := hC
  refine c_put K (T := TX1) (v := .ref (h + 0)) (ty := .object "HayThieves$Cart") hC hS hA in_X1 tyX1 tyX1_ok nmX1 rfl 3 (by decide) q63 rfl (by decide +kernel) rfl rfl (Nat.le_of_ble_eq_true rfl) dX1_init_22 (fun H locs hC hS => ?_)
  have hC : CW D a (.inr (1, [.int 0, .int 0, .int 0, .ref (h + 0), .int 0, .int 0, .int 0, .int 0, .int 0, .int 0, .int 0, .int 0])) h [.inr (0, [.ref (h + 1), .int 0]), .inl (Tk 0, 8, .inl (fun _ => 0))] H := hC
  refine lv_aload_n hx hb dX1_init_25 rfl (lv_at hl 0 rfl) ?_
  refine lv_iconst (v := (-1)) hx hb dX1_init_26 (by decide) ?_
  refine c_put K (T := TX1) (v := .int ((-1))) (ty := .int) hC hS hA in_X1 tyX1 tyX1_ok nmX1 rfl 4 (by decide) q66 rfl (by decide +kernel) rfl rfl (Nat.le_of_ble_eq_true rfl) dX1_init_27 (fun H locs hC hS => ?_)
  have hC : CW D a (.inr (1, [.int 0, .int 0, .int 0, .ref (h + 0), .int ((-1)), .int 0, .int 0, .int 0, .int 0, .int 0, .int 0, .int 0])) h [.inr (0, [.ref (h + 1), .int 0]), .inl (Tk 0, 8, .inl (fun _ => 0))] H := hC
  refine lv_aload_n hx hb dX1_init_30 rfl (lv_at hl 0 rfl) ?_
  refine lv_iconst (v := 0) hx hb dX1_init_31 (by decide) ?_
  refine c_put K (T := TX1) (v := .int 0) (ty := .int) hC hS hA in_X1 tyX1 tyX1_ok nmX1 rfl 5 (by decide) q68 rfl (by decide +kernel) rfl rfl (Nat.le_of_ble_eq_true rfl) dX1_init_32 (fun H locs hC hS => ?_)
  have hC : CW D a (.inr (1, [.int 0, .int 0, .int 0, .ref (h + 0), .int ((-1)), .int 0, .int 0, .int 0, .int 0, .int 0, .int 0, .int 0])) h [.inr (0, [.ref (h + 1), .int 0]), .inl (Tk 0, 8, .inl (fun _ => 0))] H := hC
  refine lv_aload_n hx hb dX1_init_35 rfl (lv_at hl 0 rfl) ?_
  refine lv_iconst (v := (-1)) hx hb dX1_init_36 (by decide) ?_
  refine c_put K (T := TX1) (v := .int ((-1))) (ty := .int) hC hS hA in_X1 tyX1 tyX1_ok nmX1 rfl 6 (by decide) q70 rfl (by decide +kernel) rfl rfl (Nat.le_of_ble_eq_true rfl) dX1_init_37 (fun H locs hC hS => ?_)
  have hC : CW D a (.inr (1, [.int 0, .int 0, .int 0, .ref (h + 0), .int ((-1)), .int 0, .int ((-1)), .int 0, .int 0, .int 0, .int 0, .int 0])) h [.inr (0, [.ref (h + 1), .int 0]), .inl (Tk 0, 8, .inl (fun _ => 0))] H := hC
  refine lv_aload_n hx hb dX1_init_40 rfl (lv_at hl 0 rfl) ?_
  refine lv_iconst (v := 0) hx hb dX1_init_41 (by decide) ?_
  refine c_put K (T := TX1) (v := .int 0) (ty := .boolean) hC hS hA in_X1 tyX1 tyX1_ok nmX1 rfl 7 (by decide) q72 rfl (by decide +kernel) rfl rfl (Nat.le_of_ble_eq_true rfl) dX1_init_42 (fun H locs hC hS => ?_)
  have hC : CW D a (.inr (1, [.int 0, .int 0, .int 0, .ref (h + 0), .int ((-1)), .int 0, .int ((-1)), .int 0, .int 0, .int 0, .int 0, .int 0])) h [.inr (0, [.ref (h + 1), .int 0]), .inl (Tk 0, 8, .inl (fun _ => 0))] H := hC
  refine lv_aload_n hx hb dX1_init_45 rfl (lv_at hl 0 rfl) ?_
  refine lv_iconst (v := 0) hx hb dX1_init_46 (by decide) ?_
  refine c_put K (T := TX1) (v := .int 0) (ty := .int) hC hS hA in_X1 tyX1 tyX1_ok nmX1 rfl 8 (by decide) q75 rfl (by decide +kernel) rfl rfl (Nat.le_of_ble_eq_true rfl) dX1_init_47 (fun H locs hC hS => ?_)
  have hC : CW D a (.inr (1, [.int 0, .int 0, .int 0, .ref (h + 0), .int ((-1)), .int 0, .int ((-1)), .int 0, .int 0, .int 0, .int 0, .int 0])) h [.inr (0, [.ref (h + 1), .int 0]), .inl (Tk 0, 8, .inl (fun _ => 0))] H := hC
  refine lv_aload_n hx hb dX1_init_50 rfl (lv_at hl 0 rfl) ?_
  refine lv_iconst (v := 0) hx hb dX1_init_51 (by decide) ?_
  refine c_put K (T := TX1) (v := .int 0) (ty := .int) hC hS hA in_X1 tyX1 tyX1_ok nmX1 rfl 9 (by decide) q77 rfl (by decide +kernel) rfl rfl (Nat.le_of_ble_eq_true rfl) dX1_init_52 (fun H locs hC hS => ?_)
  have hC : CW D a (.inr (1, [.int 0, .int 0, .int 0, .ref (h + 0), .int ((-1)), .int 0, .int ((-1)), .int 0, .int 0, .int 0, .int 0, .int 0])) h [.inr (0, [.ref (h + 1), .int 0]), .inl (Tk 0, 8, .inl (fun _ => 0))] H := hC
  refine lv_aload_n hx hb dX1_init_55 rfl (lv_at hl 0 rfl) ?_
  refine lv_iconst (v := 0) hx hb dX1_init_56 (by decide) ?_
  refine c_put K (T := TX1) (v := .int 0) (ty := .int) hC hS hA in_X1 tyX1 tyX1_ok nmX1 rfl 10 (by decide) q78 rfl (by decide +kernel) rfl rfl (Nat.le_of_ble_eq_true rfl) dX1_init_57 (fun H locs hC hS => ?_)
  have hC : CW D a (.inr (1, [.int 0, .int 0, .int 0, .ref (h + 0), .int ((-1)), .int 0, .int ((-1)), .int 0, .int 0, .int 0, .int 0, .int 0])) h [.inr (0, [.ref (h + 1), .int 0]), .inl (Tk 0, 8, .inl (fun _ => 0))] H := hC
  refine lv_aload_n hx hb dX1_init_60 rfl (lv_at hl 0 rfl) ?_
  refine lv_iconst (v := 0) hx hb dX1_init_61 (by decide) ?_
  refine c_put K (T := TX1) (v := .int 0) (ty := .int) hC hS hA in_X1 tyX1 tyX1_ok nmX1 rfl 11 (by decide) q81 rfl (by decide +kernel) rfl rfl (Nat.le_of_ble_eq_true rfl) dX1_init_62 (fun H locs hC hS => ?_)
  have hC : CW D a (.inr (1, [.int 0, .int 0, .int 0, .ref (h + 0), .int ((-1)), .int 0, .int ((-1)), .int 0, .int 0, .int 0, .int 0, .int 0])) h [.inr (0, [.ref (h + 1), .int 0]), .inl (Tk 0, 8, .inl (fun _ => 0))] H := hC
  refine lv_aload_n hx hb dX1_init_65 rfl (lv_at hl 0 rfl) ?_
  refine lv_iload_n hx hb dX1_init_66 rfl (lv_at hl 1 rfl) ?_
  refine c_putF K hin (T := TX1) (v := .int x) (ty := .int) hC hS hA in_X1 tyX1 tyX1_ok nmX1 rfl 0 (by decide) q56 rfl rfl (by decide +kernel) rfl rfl (Nat.le_of_ble_eq_true rfl) dX1_init_67 (fun H locs hC hS => ?_)
  have hC : CW D a (.inr (1, [.int x, .int 0, .int 0, .ref (h + 0), .int ((-1)), .int 0, .int ((-1)), .int 0, .int 0, .int 0, .int 0, .int 0])) h [.inr (0, [.ref (h + 1), .int 0]), .inl (Tk 0, 8, .inl (fun _ => 0))] H := hC
  exact c_ret K hC hS hr hlocks (Nat.le_of_ble_eq_true rfl) (Nat.le_of_ble_eq_true rfl) dX1_init_70
set_option maxHeartbeats 4000000 in
set_option maxRecDepth 100000 in
theorem k_X2 (l : Launch) (D : va_G) (Tk : Nat → ClassId) (a h : Nat) : gMc l D Tk yX2_init cX2_init 1 1 0 0 12 a h [] 2 [.int 0, .int 0, .int 0, .int 0, .int 0, .int 0, .int 0] (.inr (2, [.int 0, .int 0, .int 0, .int ((-1)), .int 1, .int 0, .int 0])) [] := by
  refine c_entry (lv := [(0, .ref (a))]) (by decide) (Nat.le_of_ble_eq_true rfl) rfl ?_
  intro p e s m below meth c ls K hC hS hml hr hlocks hin hl
  have K : kc D Tk p m c cX2_init "HayThieves$Load" _ s := K
  have hx := K.1
  have hb := K.2.1
  have hA : cA a h a := Or.inl rfl
  have hin : meth.name = "<init>" := hin
  refine lv_aload_n hx hb dX2_init_0 rfl (lv_at hl 0 rfl) ?_
  refine c_obj K q112 (hl.1.trans hml.symm) (Nat.le_of_ble_eq_true rfl) (Nat.le_of_ble_eq_true rfl) dX2_init_1 ?_
  refine lv_aload_n hx hb dX2_init_4 rfl (lv_at hl 0 rfl) ?_
  refine lv_iconst (v := 0) hx hb dX2_init_5 (by decide) ?_
  refine c_put K (T := TX2) (v := .int 0) (ty := .int) hC hS hA in_X2 tyX2 tyX2_ok nmX2 rfl 0 (by decide) q113 rfl (by decide +kernel) rfl rfl (Nat.le_of_ble_eq_true rfl) dX2_init_6 (fun H locs hC hS => ?_)
  have hC : CW D a (.inr (2, [.int 0, .int 0, .int 0, .int 0, .int 0, .int 0, .int 0])) h [] H := hC
  refine lv_aload_n hx hb dX2_init_9 rfl (lv_at hl 0 rfl) ?_
  refine lv_iconst (v := 0) hx hb dX2_init_10 (by decide) ?_
  refine c_put K (T := TX2) (v := .int 0) (ty := .int) hC hS hA in_X2 tyX2 tyX2_ok nmX2 rfl 1 (by decide) q115 rfl (by decide +kernel) rfl rfl (Nat.le_of_ble_eq_true rfl) dX2_init_11 (fun H locs hC hS => ?_)
  have hC : CW D a (.inr (2, [.int 0, .int 0, .int 0, .int 0, .int 0, .int 0, .int 0])) h [] H := hC
  refine lv_aload_n hx hb dX2_init_14 rfl (lv_at hl 0 rfl) ?_
  refine lv_iconst (v := 0) hx hb dX2_init_15 (by decide) ?_
  refine c_put K (T := TX2) (v := .int 0) (ty := .int) hC hS hA in_X2 tyX2 tyX2_ok nmX2 rfl 2 (by decide) q118 rfl (by decide +kernel) rfl rfl (Nat.le_of_ble_eq_true rfl) dX2_init_16 (fun H locs hC hS => ?_)
  have hC : CW D a (.inr (2, [.int 0, .int 0, .int 0, .int 0, .int 0, .int 0, .int 0])) h [] H := hC
  refine lv_aload_n hx hb dX2_init_19 rfl (lv_at hl 0 rfl) ?_
  refine lv_iconst (v := (-1)) hx hb dX2_init_20 (by decide) ?_
  refine c_put K (T := TX2) (v := .int ((-1))) (ty := .int) hC hS hA in_X2 tyX2 tyX2_ok nmX2 rfl 3 (by decide) q120 rfl (by decide +kernel) rfl rfl (Nat.le_of_ble_eq_true rfl) dX2_init_21 (fun H locs hC hS => ?_)
  have hC : CW D a (.inr (2, [.int 0, .int 0, .int 0, .int ((-1)), .int 0, .int 0, .int 0])) h [] H := hC
  refine lv_aload_n hx hb dX2_init_24 rfl (lv_at hl 0 rfl) ?_
  refine lv_iconst (v := 1) hx hb dX2_init_25 (by decide) ?_
  refine c_put K (T := TX2) (v := .int 1) (ty := .int) hC hS hA in_X2 tyX2 tyX2_ok nmX2 rfl 4 (by decide) q122 rfl (by decide +kernel) rfl rfl (Nat.le_of_ble_eq_true rfl) dX2_init_26 (fun H locs hC hS => ?_)
  have hC : CW D a (.inr (2, [.int 0, .int 0, .int 0, .int ((-1)), .int 1, .int 0, .int 0])) h [] H := hC
  refine lv_aload_n hx hb dX2_init_29 rfl (lv_at hl 0 rfl) ?_
  refine lv_iconst (v := 0) hx hb dX2_init_30 (by decide) ?_
  refine c_put K (T := TX2) (v := .int 0) (ty := .int) hC hS hA in_X2 tyX2 tyX2_ok nmX2 rfl 5 (by decide) q124 rfl (by decide +kernel) rfl rfl (Nat.le_of_ble_eq_true rfl) dX2_init_31 (fun H locs hC hS => ?_)
  have hC : CW D a (.inr (2, [.int 0, .int 0, .int 0, .int ((-1)), .int 1, .int 0, .int 0])) h [] H := hC
  refine lv_aload_n hx hb dX2_init_34 rfl (lv_at hl 0 rfl) ?_
  refine lv_iconst (v := 0) hx hb dX2_init_35 (by decide) ?_
  refine c_put K (T := TX2) (v := .int 0) (ty := .int) hC hS hA in_X2 tyX2 tyX2_ok nmX2 rfl 6 (by decide) q126 rfl (by decide +kernel) rfl rfl (Nat.le_of_ble_eq_true rfl) dX2_init_36 (fun H locs hC hS => ?_)
  have hC : CW D a (.inr (2, [.int 0, .int 0, .int 0, .int ((-1)), .int 1, .int 0, .int 0])) h [] H := hC
  exact c_ret K hC hS hr hlocks (Nat.le_of_ble_eq_true rfl) (Nat.le_of_ble_eq_true rfl) dX2_init_39
