/-! PRINTED by wip/gen/ctor.py: Yard() -/
/-- a row of references, filled up to n: from b on, st apart -/
def lrow (b st n : Nat) : Nat → Option Nat := fun j => if j < n then some (b + st * j) else none
theorem lrow_up {b st n q : Nat} (hq : q = b + st * n) : va_up (lrow b st n) n (some q) = lrow b st (n + 1) := by
  funext j
  unfold va_up lrow
  by_cases h : j = n
  · subst h
    rw [if_pos rfl, if_pos (by omega), hq]
  · by_cases h2 : j < n
    · rw [if_neg h, if_pos h2, if_pos (by omega)]
    · rw [if_neg h, if_neg h2, if_neg (by omega)]
theorem lrow_0 (b st : Nat) : (fun _ => none) = lrow b st 0 := by
  funext j
  unfold lrow
  rw [if_neg (by omega)]
/-- a lad at b, his cart, its row -/
def ladE (Tk : Nat → ClassId) (b : Nat) (x : Int32) : List va_E := [.inr (1, [.int x, .int 0, .int 0, .ref ((b + 1) + 0), .int ((-1)), .int 0, .int ((-1)), .int 0, .int 0, .int 0, .int 0, .int 0]), .inr (0, [.ref ((b + 1) + 1), .int 0]), .inl (Tk 0, 8, .inl (fun _ => 0))]
def loadE : va_E := .inr (2, [.int 0, .int 0, .int 0, .int ((-1)), .int 1, .int 0, .int 0])
def ladL (Tk : Nat → ClassId) (h : Nat) : Nat → List va_E
  | 0 => []
  | n + 1 => ladL Tk h n ++ ladE Tk (h + (4 + 3 * n)) (nI n)
def loadL : Nat → List va_E
  | 0 => []
  | n + 1 => loadL n ++ [loadE]
theorem ladL_len (Tk : Nat → ClassId) (h n : Nat) : (ladL Tk h n).length = 3 * n := by
  induction n with
  | zero => rfl
  | succ n ih => rw [ladL, List.length_append, ih]; rfl
theorem loadL_len (n : Nat) : (loadL n).length = n := by
  induction n with
  | zero => rfl
  | succ n ih => rw [loadL, List.length_append, ih]; rfl
def yP (Tk : Nat → ClassId) (h n1 n2 : Nat) : List va_E :=
  .inl (Tk 2, 6, .inr (.inr (.inr (.inr (lrow (h + 4) 3 n1))))) :: .inl (Tk 3, 10, .inr (.inr (.inr (.inr (lrow (h + 22) 1 n2))))) :: .inl (Tk 0, 320, .inl (fun _ => 0)) :: .inl (Tk 1, 320, .inl (fun _ => 0)) :: (ladL Tk h n1 ++ loadL n2)
theorem yP_len (Tk : Nat → ClassId) (h n1 n2 : Nat) : (yP Tk h n1 n2).length = 4 + 3 * n1 + n2 := by
  show (ladL Tk h n1 ++ loadL n2).length + 1 + 1 + 1 + 1 = _
  rw [List.length_append, ladL_len, loadL_len]
  omega
theorem yP_lad (Tk : Nat → ClassId) (h n : Nat) : (yP Tk h n 0 ++ ladE Tk (h + (yP Tk h n 0).length) (nI n)).set 0 (.inl (Tk 2, 6, .inr (.inr (.inr (.inr (va_up (lrow (h + 4) 3 n) n (some (h + (yP Tk h n 0).length)))))))) = yP Tk h (n + 1) 0 := by
  rw [lrow_up (by rw [yP_len]; omega)]
  rw [show h + (yP Tk h n 0).length = h + (4 + 3 * n) by rw [yP_len, Nat.add_zero]]
  show _ :: _ :: _ :: _ :: ((ladL Tk h n ++ []) ++ _) = _ :: _ :: _ :: _ :: ((ladL Tk h n ++ _) ++ [])
  rw [List.append_nil, List.append_nil]
theorem yP_load (Tk : Nat → ClassId) (h n : Nat) : (yP Tk h 6 n ++ [loadE]).set 1 (.inl (Tk 3, 10, .inr (.inr (.inr (.inr (va_up (lrow (h + 22) 1 n) n (some (h + (yP Tk h 6 n).length)))))))) = yP Tk h 6 (n + 1) := by
  rw [lrow_up (by rw [yP_len]; omega)]
  show _ :: _ :: _ :: _ :: ((ladL Tk h 6 ++ loadL n) ++ _) = _ :: _ :: _ :: _ :: (ladL Tk h 6 ++ (loadL n ++ _))
  rw [List.append_assoc]
set_option maxHeartbeats 4000000 in
set_option maxRecDepth 100000 in
theorem k_X3 (l : Launch) (D : va_G) (Tk : Nat → ClassId) (a h : Nat) : gMc l D Tk yX3_init cX3_init 2 3 32 858 53 a h [] 3 [.null, .null, .null, .null, .int 0, .int 0, .int 0, .int 0, .int 0, .int 0] (.inr (3, [.ref (h + 0), .ref (h + 1), .ref (h + 2), .ref (h + 3), .int 0, .int 0, .int 0, .int 10, .int 0, .int 0])) (yP Tk h 6 10) := by
  refine c_entry (lv := [(0, .ref a)]) (by decide) (Nat.le_of_ble_eq_true rfl) rfl ?_
  intro p e s m below meth c ls K hC hS hml hr hlocks hin hl
  have K : kc D Tk p m c cX3_init "HayThieves$Yard" _ s := K
  have hx := K.1
  have hb := K.2.1
  have hA : cA a h a := Or.inl rfl
  have hin : meth.name = "<init>" := hin
  refine lv_aload_n hx hb dX3_init_0 rfl (lv_at hl 0 rfl) ?_
  refine c_obj K q28 (hl.1.trans hml.symm) (Nat.le_of_ble_eq_true rfl) (Nat.le_of_ble_eq_true rfl) dX3_init_1 ?_
  refine lv_aload_n hx hb dX3_init_4 rfl (lv_at hl 0 rfl) ?_
  refine lv_bipush (v := 6) hx hb dX3_init_5 (by decide) ?_
  refine c_anew (C := "HayThieves$Lad") (k := 2) (N' := 6) K hC hS q29 K.2.2.2.2.2.2.1 rfl (by decide) rfl (by decide) (Nat.le_of_ble_eq_true rfl) (Nat.le_of_ble_eq_true rfl) dX3_init_7 (fun H hC hS => ?_)
  have hC : CW D a (.inr (3, [.null, .null, .null, .null, .int 0, .int 0, .int 0, .int 0, .int 0, .int 0])) h [.inl (Tk 2, 6, .inr (.inr (.inr (.inr (fun _ => none)))))] H := hC
  refine c_putF K hin (T := TX3) (v := .ref (h + 0)) (ty := .array (.object "HayThieves$Lad")) hC hS hA in_X3 tyX3 tyX3_ok nmX3 rfl 0 (by decide) q143 rfl rfl (by decide +kernel) rfl rfl (Nat.le_of_ble_eq_true rfl) dX3_init_10 (fun H locs hC hS => ?_)
  have hC : CW D a (.inr (3, [.ref (h + 0), .null, .null, .null, .int 0, .int 0, .int 0, .int 0, .int 0, .int 0])) h [.inl (Tk 2, 6, .inr (.inr (.inr (.inr (fun _ => none)))))] H := hC
  refine lv_aload_n hx hb dX3_init_13 rfl (lv_at hl 0 rfl) ?_
  refine lv_bipush (v := 10) hx hb dX3_init_14 (by decide) ?_
  refine c_anew (C := "HayThieves$Load") (k := 3) (N' := 10) K hC hS q31 K.2.2.2.2.2.2.2 rfl (by decide) rfl (by decide) (Nat.le_of_ble_eq_true rfl) (Nat.le_of_ble_eq_true rfl) dX3_init_16 (fun H hC hS => ?_)
  have hC : CW D a (.inr (3, [.ref (h + 0), .null, .null, .null, .int 0, .int 0, .int 0, .int 0, .int 0, .int 0])) h [.inl (Tk 2, 6, .inr (.inr (.inr (.inr (fun _ => none))))), .inl (Tk 3, 10, .inr (.inr (.inr (.inr (fun _ => none)))))] H := hC
  refine c_putF K hin (T := TX3) (v := .ref (h + 1)) (ty := .array (.object "HayThieves$Load")) hC hS hA in_X3 tyX3 tyX3_ok nmX3 rfl 1 (by decide) q145 rfl rfl (by decide +kernel) rfl rfl (Nat.le_of_ble_eq_true rfl) dX3_init_19 (fun H locs hC hS => ?_)
  have hC : CW D a (.inr (3, [.ref (h + 0), .ref (h + 1), .null, .null, .int 0, .int 0, .int 0, .int 0, .int 0, .int 0])) h [.inl (Tk 2, 6, .inr (.inr (.inr (.inr (fun _ => none))))), .inl (Tk 3, 10, .inr (.inr (.inr (.inr (fun _ => none)))))] H := hC
  refine lv_aload_n hx hb dX3_init_22 rfl (lv_at hl 0 rfl) ?_
  refine lv_sipush (v := 320) hx hb dX3_init_23 (by decide) ?_
  refine c_newa (atype := .int) (k := 0) (ty := .int) (N' := 320) (a0 := (320, .inl (fun _ => 0))) K hC hS rfl q54 rfl (c_fcI K) (fun _ => rfl) (by decide) rfl (by decide) (Nat.le_of_ble_eq_true rfl) (Nat.le_of_ble_eq_true rfl) dX3_init_26 (fun H hC hS => ?_)
  have hC : CW D a (.inr (3, [.ref (h + 0), .ref (h + 1), .null, .null, .int 0, .int 0, .int 0, .int 0, .int 0, .int 0])) h [.inl (Tk 2, 6, .inr (.inr (.inr (.inr (fun _ => none))))), .inl (Tk 3, 10, .inr (.inr (.inr (.inr (fun _ => none))))), .inl (Tk 0, 320, .inl (fun _ => 0))] H := hC
  refine c_putF K hin (T := TX3) (v := .ref (h + 2)) (ty := .array (.int)) hC hS hA in_X3 tyX3 tyX3_ok nmX3 rfl 2 (by decide) q147 rfl rfl (by decide +kernel) rfl rfl (Nat.le_of_ble_eq_true rfl) dX3_init_28 (fun H locs hC hS => ?_)
  have hC : CW D a (.inr (3, [.ref (h + 0), .ref (h + 1), .ref (h + 2), .null, .int 0, .int 0, .int 0, .int 0, .int 0, .int 0])) h [.inl (Tk 2, 6, .inr (.inr (.inr (.inr (fun _ => none))))), .inl (Tk 3, 10, .inr (.inr (.inr (.inr (fun _ => none))))), .inl (Tk 0, 320, .inl (fun _ => 0))] H := hC
  refine lv_aload_n hx hb dX3_init_31 rfl (lv_at hl 0 rfl) ?_
  refine lv_sipush (v := 320) hx hb dX3_init_32 (by decide) ?_
  refine c_newa (atype := .boolean) (k := 1) (ty := .boolean) (N' := 320) (a0 := (320, .inl (fun _ => 0))) K hC hS rfl q55 rfl (c_fcZ K) (fun _ => rfl) (by decide) rfl (by decide) (Nat.le_of_ble_eq_true rfl) (Nat.le_of_ble_eq_true rfl) dX3_init_35 (fun H hC hS => ?_)
  have hC : CW D a (.inr (3, [.ref (h + 0), .ref (h + 1), .ref (h + 2), .null, .int 0, .int 0, .int 0, .int 0, .int 0, .int 0])) h [.inl (Tk 2, 6, .inr (.inr (.inr (.inr (fun _ => none))))), .inl (Tk 3, 10, .inr (.inr (.inr (.inr (fun _ => none))))), .inl (Tk 0, 320, .inl (fun _ => 0)), .inl (Tk 1, 320, .inl (fun _ => 0))] H := hC
  refine c_putF K hin (T := TX3) (v := .ref (h + 3)) (ty := .array (.boolean)) hC hS hA in_X3 tyX3 tyX3_ok nmX3 rfl 3 (by decide) q148 rfl rfl (by decide +kernel) rfl rfl (Nat.le_of_ble_eq_true rfl) dX3_init_37 (fun H locs hC hS => ?_)
  have hC : CW D a (.inr (3, [.ref (h + 0), .ref (h + 1), .ref (h + 2), .ref (h + 3), .int 0, .int 0, .int 0, .int 0, .int 0, .int 0])) h [.inl (Tk 2, 6, .inr (.inr (.inr (.inr (fun _ => none))))), .inl (Tk 3, 10, .inr (.inr (.inr (.inr (fun _ => none))))), .inl (Tk 0, 320, .inl (fun _ => 0)), .inl (Tk 1, 320, .inl (fun _ => 0))] H := hC
  refine lv_aload_n hx hb dX3_init_40 rfl (lv_at hl 0 rfl) ?_
  refine lv_iconst (v := 0) hx hb dX3_init_41 (by decide) ?_
  refine c_put K (T := TX3) (v := .int 0) (ty := .int) hC hS hA in_X3 tyX3 tyX3_ok nmX3 rfl 4 (by decide) q149 rfl (by decide +kernel) rfl rfl (Nat.le_of_ble_eq_true rfl) dX3_init_42 (fun H locs hC hS => ?_)
  have hC : CW D a (.inr (3, [.ref (h + 0), .ref (h + 1), .ref (h + 2), .ref (h + 3), .int 0, .int 0, .int 0, .int 0, .int 0, .int 0])) h [.inl (Tk 2, 6, .inr (.inr (.inr (.inr (fun _ => none))))), .inl (Tk 3, 10, .inr (.inr (.inr (.inr (fun _ => none))))), .inl (Tk 0, 320, .inl (fun _ => 0)), .inl (Tk 1, 320, .inl (fun _ => 0))] H := hC
  refine lv_aload_n hx hb dX3_init_45 rfl (lv_at hl 0 rfl) ?_
  refine lv_iconst (v := 0) hx hb dX3_init_46 (by decide) ?_
  refine c_put K (T := TX3) (v := .int 0) (ty := .int) hC hS hA in_X3 tyX3 tyX3_ok nmX3 rfl 5 (by decide) q151 rfl (by decide +kernel) rfl rfl (Nat.le_of_ble_eq_true rfl) dX3_init_47 (fun H locs hC hS => ?_)
  have hC : CW D a (.inr (3, [.ref (h + 0), .ref (h + 1), .ref (h + 2), .ref (h + 3), .int 0, .int 0, .int 0, .int 0, .int 0, .int 0])) h [.inl (Tk 2, 6, .inr (.inr (.inr (.inr (fun _ => none))))), .inl (Tk 3, 10, .inr (.inr (.inr (.inr (fun _ => none))))), .inl (Tk 0, 320, .inl (fun _ => 0)), .inl (Tk 1, 320, .inl (fun _ => 0))] H := hC
  refine lv_aload_n hx hb dX3_init_50 rfl (lv_at hl 0 rfl) ?_
  refine lv_iconst (v := 0) hx hb dX3_init_51 (by decide) ?_
  refine c_put K (T := TX3) (v := .int 0) (ty := .int) hC hS hA in_X3 tyX3 tyX3_ok nmX3 rfl 6 (by decide) q153 rfl (by decide +kernel) rfl rfl (Nat.le_of_ble_eq_true rfl) dX3_init_52 (fun H locs hC hS => ?_)
  have hC : CW D a (.inr (3, [.ref (h + 0), .ref (h + 1), .ref (h + 2), .ref (h + 3), .int 0, .int 0, .int 0, .int 0, .int 0, .int 0])) h [.inl (Tk 2, 6, .inr (.inr (.inr (.inr (fun _ => none))))), .inl (Tk 3, 10, .inr (.inr (.inr (.inr (fun _ => none))))), .inl (Tk 0, 320, .inl (fun _ => 0)), .inl (Tk 1, 320, .inl (fun _ => 0))] H := hC
  refine lv_aload_n hx hb dX3_init_55 rfl (lv_at hl 0 rfl) ?_
  refine lv_bipush (v := 10) hx hb dX3_init_56 (by decide) ?_
  refine c_put K (T := TX3) (v := .int 10) (ty := .int) hC hS hA in_X3 tyX3 tyX3_ok nmX3 rfl 7 (by decide) q154 rfl (by decide +kernel) rfl rfl (Nat.le_of_ble_eq_true rfl) dX3_init_58 (fun H locs hC hS => ?_)
  have hC : CW D a (.inr (3, [.ref (h + 0), .ref (h + 1), .ref (h + 2), .ref (h + 3), .int 0, .int 0, .int 0, .int 10, .int 0, .int 0])) h [.inl (Tk 2, 6, .inr (.inr (.inr (.inr (fun _ => none))))), .inl (Tk 3, 10, .inr (.inr (.inr (.inr (fun _ => none))))), .inl (Tk 0, 320, .inl (fun _ => 0)), .inl (Tk 1, 320, .inl (fun _ => 0))] H := hC
  refine lv_aload_n hx hb dX3_init_61 rfl (lv_at hl 0 rfl) ?_
  refine lv_iconst (v := 0) hx hb dX3_init_62 (by decide) ?_
  refine c_put K (T := TX3) (v := .int 0) (ty := .int) hC hS hA in_X3 tyX3 tyX3_ok nmX3 rfl 8 (by decide) q156 rfl (by decide +kernel) rfl rfl (Nat.le_of_ble_eq_true rfl) dX3_init_63 (fun H locs hC hS => ?_)
  have hC : CW D a (.inr (3, [.ref (h + 0), .ref (h + 1), .ref (h + 2), .ref (h + 3), .int 0, .int 0, .int 0, .int 10, .int 0, .int 0])) h [.inl (Tk 2, 6, .inr (.inr (.inr (.inr (fun _ => none))))), .inl (Tk 3, 10, .inr (.inr (.inr (.inr (fun _ => none))))), .inl (Tk 0, 320, .inl (fun _ => 0)), .inl (Tk 1, 320, .inl (fun _ => 0))] H := hC
  refine lv_aload_n hx hb dX3_init_66 rfl (lv_at hl 0 rfl) ?_
  refine lv_iconst (v := 0) hx hb dX3_init_67 (by decide) ?_
  refine c_put K (T := TX3) (v := .int 0) (ty := .int) hC hS hA in_X3 tyX3 tyX3_ok nmX3 rfl 9 (by decide) q157 rfl (by decide +kernel) rfl rfl (Nat.le_of_ble_eq_true rfl) dX3_init_68 (fun H locs hC hS => ?_)
  have hC : CW D a (.inr (3, [.ref (h + 0), .ref (h + 1), .ref (h + 2), .ref (h + 3), .int 0, .int 0, .int 0, .int 10, .int 0, .int 0])) h [.inl (Tk 2, 6, .inr (.inr (.inr (.inr (fun _ => none))))), .inl (Tk 3, 10, .inr (.inr (.inr (.inr (fun _ => none))))), .inl (Tk 0, 320, .inl (fun _ => 0)), .inl (Tk 1, 320, .inl (fun _ => 0))] H := hC
  have hL2 : ∀ (n i : Nat) (H : Heap) (locs : List Loc) (cells slots : Nat) (ls : Array Slot), i + n = 10 → cells ≤ 22 + 1 * i → slots ≤ 788 + 7 * i → CW D a (.inr (3, [.ref (h + 0), .ref (h + 1), .ref (h + 2), .ref (h + 3), .int 0, .int 0, .int 0, .int 10, .int 0, .int 0])) h (yP Tk h 6 i) H → va_S (cA a h) s.heap H locs → lv_has ls 2 [(1, .int (nI i)), (0, .ref a)] → W p l e (rmc 3 32 858 53) s m (.ref a :: [] : List Value).toArray below meth c H locs (cells) (slots) (MQ below (va_Qv (fun (_ : Unit) => True) (fun _ t => CW D a (.inr (3, [.ref (h + 0), .ref (h + 1), .ref (h + 2), .ref (h + 3), .int 0, .int 0, .int 0, .int 10, .int 0, .int 0])) h (yP Tk h 6 10) t.heap) (cA a h)) (.ref a :: [] : List Value).toArray s 32 858 (cA a h)) (F0 m 101 ls []) := by
    intro n
    induction n with
    | zero =>
      intro i H locs cells slots ls hi hc hs hC hS hl
      refine lv_iload_n hx hb dX3_init_101 rfl (lv_at hl 0 rfl) ?_
      refine lv_bipush (v := 10) hx hb dX3_init_102 (by decide) ?_
      refine lv_icmp_ge (tgt := 126) hx hb dX3_init_104 (by decide) (fun _ => ?_) (fun h9 => absurd (show nI 10 ≤ nI i from nI_le (by omega) (by omega)) h9)
      obtain rfl : i = 10 := by omega
      exact c_ret K hC hS hr hlocks (by omega) (by omega) dX3_init_126
    | succ n ih =>
      intro i H locs cells slots ls hi hc hs hC hS hl
      refine lv_iload_n hx hb dX3_init_101 rfl (lv_at hl 0 rfl) ?_
      refine lv_bipush (v := 10) hx hb dX3_init_102 (by decide) ?_
      refine lv_icmp_ge (tgt := 126) hx hb dX3_init_104 (by decide) (fun h9 => absurd h9 (show ¬ nI 10 ≤ nI i from nI_ge (by omega) (by omega))) (fun _ => ?_)
      refine lv_aload_n hx hb dX3_init_107 rfl (lv_at hl 1 rfl) ?_
      refine c_get (T := TX3) (v := .ref (h + 1)) K hC in_X3 rfl 1 (by decide) q145 rfl dX3_init_108 ?_
      refine lv_iload_n hx hb dX3_init_111 rfl (lv_at hl 0 rfl) ?_
      refine c_new (ci := 2) (C := "HayThieves$Load") (T := TX2) (N := 7) (fs := [.int 0, .int 0, .int 0, .int 0, .int 0, .int 0, .int 0]) K hC hS in_X2 tyX2 tyX2_ok q31 q108 q5 rfl (by decide) (by show cells + 1 ≤ 32; omega) (by show slots + 7 ≤ 858; omega) dX3_init_112 (fun H hC hS => ?_)
      refine lv_dup hx hb dX3_init_115 rfl ?_
      refine c_callN (As := []) (rest := [.ref (h + (yP Tk h 6 i).length), .int (nI i), .ref (h + 1)]) (es := yP Tk h 6 i) (ci := 2) (fs := [.int 0, .int 0, .int 0, .int 0, .int 0, .int 0, .int 0]) K hml (show gcaI yX2_init cX2_init 1 0 from ⟨q111, q5, q110, rfl, by decide +kernel⟩) qm_Yard_53 hC hS (k_X2 l D Tk _ _) rfl hl.1 (Nat.le_of_ble_eq_true rfl) ⟨by decide, by decide⟩ dX3_init_116 ⟨by show cells + 1 + 0 ≤ 32; omega, by show slots + 7 + 0 ≤ 858; omega⟩ (fun H locs hC hS => ?_)
      have hC : CW D a (.inr (3, [.ref (h + 0), .ref (h + 1), .ref (h + 2), .ref (h + 3), .int 0, .int 0, .int 0, .int 10, .int 0, .int 0])) h (yP Tk h 6 i ++ [loadE]) H := hC
      refine c_aast (k0 := 1) (kv := (yP Tk h 6 i).length) (ci := 2) (t0 := 3) (n := 10) (r := ("HayThieves$Load", TX2, 7)) (f := lrow (h + 22) 1 i) K hC hS (fun q hq => Or.inr hq) rfl rfl (by rw [List.getElem?_append_right (Nat.le_refl _), Nat.sub_self]; rfl) rfl (vp_in_nI (by omega) (by decide)) dX3_init_119 (fun H locs hC hS => ?_)
      rw [nI_clamp (show i < 2 ^ 31 by omega), yP_load] at hC
      refine lv_iinc (v := nI (i + 1)) (lv' := [(1, .int (nI (i + 1))), (0, .ref a)]) hx hb dX3_init_120 hl (k := 0) rfl (nI_add i 1) (by decide) rfl (fun ls hl => ?_)
      refine lv_goto (tgt := 101) hx hb dX3_init_123 (by decide) ?_
      exact ih (i + 1) H locs _ _ ls (by omega) (by omega) (by omega) hC hS hl
  have hL1 : ∀ (n i : Nat) (H : Heap) (locs : List Loc) (cells slots : Nat) (ls : Array Slot), i + n = 6 → cells ≤ 4 + 3 * i → slots ≤ 656 + 22 * i → CW D a (.inr (3, [.ref (h + 0), .ref (h + 1), .ref (h + 2), .ref (h + 3), .int 0, .int 0, .int 0, .int 10, .int 0, .int 0])) h (yP Tk h i 0) H → va_S (cA a h) s.heap H locs → lv_has ls 2 [(1, .int (nI i)), (0, .ref a)] → W p l e (rmc 3 32 858 53) s m (.ref a :: [] : List Value).toArray below meth c H locs (cells) (slots) (MQ below (va_Qv (fun (_ : Unit) => True) (fun _ t => CW D a (.inr (3, [.ref (h + 0), .ref (h + 1), .ref (h + 2), .ref (h + 3), .int 0, .int 0, .int 0, .int 10, .int 0, .int 0])) h (yP Tk h 6 10) t.heap) (cA a h)) (.ref a :: [] : List Value).toArray s 32 858 (cA a h)) (F0 m 73 ls []) := by
    intro n
    induction n with
    | zero =>
      intro i H locs cells slots ls hi hc hs hC hS hl
      refine lv_iload_n hx hb dX3_init_73 rfl (lv_at hl 0 rfl) ?_
      refine lv_bipush (v := 6) hx hb dX3_init_74 (by decide) ?_
      refine lv_icmp_ge (tgt := 99) hx hb dX3_init_76 (by decide) (fun _ => ?_) (fun h9 => absurd (show nI 6 ≤ nI i from nI_le (by omega) (by omega)) h9)
      obtain rfl : i = 6 := by omega
      refine lv_iconst (v := 0) hx hb dX3_init_99 (by decide) ?_
      refine lv_istore_n (lv' := [(1, .int 0), (0, .ref a)]) hx hb dX3_init_100 rfl hl (by decide) rfl (fun ls hl => ?_)
      exact hL2 10 0 H locs _ _ ls rfl (by omega) (by omega) hC hS hl
    | succ n ih =>
      intro i H locs cells slots ls hi hc hs hC hS hl
      refine lv_iload_n hx hb dX3_init_73 rfl (lv_at hl 0 rfl) ?_
      refine lv_bipush (v := 6) hx hb dX3_init_74 (by decide) ?_
      refine lv_icmp_ge (tgt := 99) hx hb dX3_init_76 (by decide) (fun h9 => absurd h9 (show ¬ nI 6 ≤ nI i from nI_ge (by omega) (by omega))) (fun _ => ?_)
      refine lv_aload_n hx hb dX3_init_79 rfl (lv_at hl 1 rfl) ?_
      refine c_get (T := TX3) (v := .ref (h + 0)) K hC in_X3 rfl 0 (by decide) q143 rfl dX3_init_80 ?_
      refine lv_iload_n hx hb dX3_init_83 rfl (lv_at hl 0 rfl) ?_
      refine c_new (ci := 1) (C := "HayThieves$Lad") (T := TX1) (N := 12) (fs := [.int 0, .int 0, .int 0, .null, .int 0, .int 0, .int 0, .int 0, .int 0, .int 0, .int 0, .int 0]) K hC hS in_X1 tyX1 tyX1_ok q29 q33 q3 rfl (by decide) (by show cells + 1 ≤ 32; omega) (by show slots + 12 ≤ 858; omega) dX3_init_84 (fun H hC hS => ?_)
      refine lv_dup hx hb dX3_init_87 rfl ?_
      refine lv_iload_n hx hb dX3_init_88 rfl (lv_at hl 0 rfl) ?_
      refine c_call (As := [.int (nI i)]) (rest := [.ref (h + (yP Tk h i 0).length), .int (nI i), .ref (h + 0)]) (es := yP Tk h i 0) (ci := 1) (fs := [.int 0, .int 0, .int 0, .null, .int 0, .int 0, .int 0, .int 0, .int 0, .int 0, .int 0, .int 0]) K hml (show gcaI yX1_init cX1_init 2 1 from ⟨q36, q3, q35, rfl, by decide +kernel⟩) q34 hC hS (k_X1 l D Tk _ _ (nI i)) rfl hl.1 (Nat.le_of_ble_eq_true rfl) ⟨by decide, by decide⟩ dX3_init_89 ⟨by show cells + 1 + 2 ≤ 32; omega, by show slots + 12 + 10 ≤ 858; omega⟩ (fun H locs hC hS => ?_)
      have hC : CW D a (.inr (3, [.ref (h + 0), .ref (h + 1), .ref (h + 2), .ref (h + 3), .int 0, .int 0, .int 0, .int 10, .int 0, .int 0])) h (yP Tk h i 0 ++ ladE Tk (h + (yP Tk h i 0).length) (nI i)) H := hC
      refine c_aast (k0 := 0) (kv := (yP Tk h i 0).length) (ci := 1) (t0 := 2) (n := 6) (r := ("HayThieves$Lad", TX1, 12)) (f := lrow (h + 4) 3 i) K hC hS (fun q hq => Or.inr hq) rfl rfl (by rw [List.getElem?_append_right (Nat.le_refl _), Nat.sub_self]; rfl) rfl (vp_in_nI (by omega) (by decide)) dX3_init_92 (fun H locs hC hS => ?_)
      rw [nI_clamp (show i < 2 ^ 31 by omega), yP_lad] at hC
      refine lv_iinc (v := nI (i + 1)) (lv' := [(1, .int (nI (i + 1))), (0, .ref a)]) hx hb dX3_init_93 hl (k := 0) rfl (nI_add i 1) (by decide) rfl (fun ls hl => ?_)
      refine lv_goto (tgt := 73) hx hb dX3_init_96 (by decide) ?_
      exact ih (i + 1) H locs _ _ ls (by omega) (by omega) (by omega) hC hS hl
  refine lv_iconst (v := 0) hx hb dX3_init_71 (by decide) ?_
  refine lv_istore_n (lv' := [(1, .int 0), (0, .ref a)]) hx hb dX3_init_72 rfl hl (by decide) rfl (fun ls hl => ?_)
  have hC : CW D a (.inr (3, [.ref (h + 0), .ref (h + 1), .ref (h + 2), .ref (h + 3), .int 0, .int 0, .int 0, .int 10, .int 0, .int 0])) h (yP Tk h 0 0) H := by
    have e1 : yP Tk h 0 0 = [.inl (Tk 2, 6, .inr (.inr (.inr (.inr (fun _ => none))))), .inl (Tk 3, 10, .inr (.inr (.inr (.inr (fun _ => none))))), .inl (Tk 0, 320, .inl (fun _ => 0)), .inl (Tk 1, 320, .inl (fun _ => 0))] := by
      unfold yP
      rw [← lrow_0, ← lrow_0]
      rfl
    rw [e1]
    exact hC
  exact hL1 6 0 H locs _ _ ls rfl (by decide) (by decide) hC hS hl
