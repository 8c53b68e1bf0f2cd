/-! go(1) -/
def f_S_dr (I : gI) (q : Nat) : gI := gset I 5 (pDrop (I 5) q)
theorem LW.drop {E : gE} {F : Nat → Prop} {J : Int64} {D : sD} {I : gI} {H : Heap} {q : Nat} (h : LW E F J D I H) (hok : gok E) (hq : q ≤ cnt (I 5) 9) : LW E F J D (f_S_dr I q) H := h.to hok (fun _ _ => rfl) (h.2.1.drop hq)
def f_S_go_a (I : gI) : gI := f_S_dr (f_S_counts I) (cnt (I 5) 9)
def f_S_go_b (I : gI) : gI := f_S_pass (f_S_go_a I)
def f_S_go_s (I : gI) : gI := f_S_go_a (f_S_go_b I)
def f_S_c3 (I : gI) : Int32 := f_S_counts I 5 9 (cnt (I 5) 9) 3
def f_S_go_v (I : gI) : Int32 := f_S_c3 (f_S_go_b I) - f_S_c3 I
def ok_S_cs (I : gI) : Prop := ok_S_counts I ∧ cnt (f_S_counts I 5) 9 = cnt (I 5) 9 + 1 ∧ rln (f_S_counts I 5) 9 (cnt (I 5) 9) = 13
def ok_S_go (I : gI) : Prop := ok_S_cs I ∧ cnt (f_S_go_a I 5) 9 = cnt (I 5) 9 ∧ ok_S_pass (f_S_go_a I) ∧ cnt (f_S_go_b I 5) 9 = cnt (I 5) 9 ∧ ok_S_cs (f_S_go_b I)
def sQiv (E : gE) (F : Nat → Prop) (J : Int64) (D : sD) (I : gI) (v : Int32) (I' : gI) : Array Value → State → Outcome → State → Prop := va_Qi (fun x (_ : Unit) => x = v) (fun _ t => ∃ D', sKD D D' (cnt (I 5) 9) ∧ LW E F J D' I' t.heap) F
set_option maxHeartbeats 4000000 in
set_option maxRecDepth 100000 in
theorem m_S_go (l : Launch) (E : gE) (F : Nat → Prop) (J : Int64) (D : sD) (I : gI) (hA : ∀ q, F q → gN E ≤ q) (hok : ok_S_go I) : sM l E yX5_go cX5_go 4 (some .int) 4 60 8500 110 [.ref (D 0 0), .int 1] (fun H => LW E F J D I H) (sQiv E F J D I (f_S_go_v I) (f_S_go_s I)) F := by
  refine s_entry (lv := [(0, .ref (D 0 0)), (1, .int 1)]) (by decide) (Nat.le_of_ble_eq_true rfl) rfl ?_
  intro p e s m below meth c0 ls K hAO hG hS hml hr hlocks hl
  have hG : LW E F J D I s.heap := hG
  have K : kx E p m c0 cX5_go "HayThievesLaw$Sim" _ s := K
  have hx := K.1
  have hb := K.2.1
  have hSt := K.2.2.2.2
  obtain ⟨⟨o1, o2, o3⟩, o4, o5, o6, o7, o8, o9⟩ := hok
  refine lv_aload_n hx hb dX5_go_0 rfl (lv_at hl 0 rfl) ?_
  refine s_kr (s_runV (As := []) (rest := []) K hAO hA hml ca_X5_counts q516 (m_S_counts l E F J D I hA o1) hG hG hS rfl rfl hl.1 (Nat.le_of_ble_eq_true rfl) ⟨by decide, by decide⟩ dX5_go_1 ⟨Nat.le_of_ble_eq_true rfl, Nat.le_of_ble_eq_true rfl⟩) hS (fun D1 hD1 H locs hG hS => ?_)
  refine lv_iconst (v := 3) hx hb dX5_go_4 (by decide) ?_
  refine s_iald K hG (t := 9) (by decide) (by rw [o2]; omega) (by rw [o3]; exact show vp_in (nI 3) 13 from vp_in_nI (by decide) (by decide)) dX5_go_5 ?_
  rw [show ((3 : Int32)).toNatClampNeg = 3 from rfl]
  have hG := hG.drop hSt.ok (q := cnt (I 5) 9) (by rw [o2]; omega)
  have hG : LW E F J D1 (f_S_go_a I) H := hG
  rw [← show D1 0 0 = D 0 0 from hD1.1] at hl
  refine lv_istore_n (lv' := [(2, .int (f_S_c3 I)), (0, .ref (D1 0 0)), (1, .int 1)]) hx hb dX5_go_6 rfl hl (by decide) rfl (fun ls hl => ?_)
  refine lv_iconst (v := 0) hx hb dX5_go_7 (by decide) ?_
  refine lv_istore_n (lv' := [(3, .int 0), (2, .int (f_S_c3 I)), (0, .ref (D1 0 0)), (1, .int 1)]) hx hb dX5_go_8 rfl hl (by decide) rfl (fun ls hl => ?_)
  refine lv_iload_n hx hb dX5_go_9 rfl (lv_at hl 0 rfl) ?_
  refine lv_iload_n hx hb dX5_go_10 rfl (lv_at hl 3 rfl) ?_
  refine lv_icmp_ge (tgt := 24) hx hb dX5_go_11 (by decide) (fun c => absurd c (by decide)) (fun _ => ?_)
  refine lv_aload_n hx hb dX5_go_14 rfl (lv_at hl 2 rfl) ?_
  refine s_kv (s_runV (As := []) (rest := []) K hAO hA hml ca_X5_pass q524 (m_S_pass l E F J D1 (f_S_go_a I) hA o5) hG hG hS rfl rfl hl.1 (Nat.le_of_ble_eq_true rfl) ⟨by decide, by decide⟩ dX5_go_15 ⟨Nat.le_of_ble_eq_true rfl, Nat.le_of_ble_eq_true rfl⟩) hS (fun D2 hD2 H locs hG hS => ?_)
  have hG : LW E F J D2 (f_S_go_b I) H := hG
  rw [← show D2 0 0 = D1 0 0 from hD2.1] at hl
  refine lv_iinc (v := 1) (lv' := [(3, .int 1), (2, .int (f_S_c3 I)), (0, .ref (D2 0 0)), (1, .int 1)]) hx hb dX5_go_18 hl (k := 0) rfl rfl (by decide) rfl (fun ls hl => ?_)
  refine lv_goto (tgt := 9) hx hb dX5_go_21 (by decide) ?_
  refine lv_iload_n hx hb dX5_go_9 rfl (lv_at hl 0 rfl) ?_
  refine lv_iload_n hx hb dX5_go_10 rfl (lv_at hl 3 rfl) ?_
  refine lv_icmp_ge (tgt := 24) hx hb dX5_go_11 (by decide) (fun _ => ?_) (fun c => absurd (by decide) c)
  refine lv_aload_n hx hb dX5_go_24 rfl (lv_at hl 2 rfl) ?_
  refine s_kr (s_runV (As := []) (rest := []) K hAO hA hml ca_X5_counts q516 (m_S_counts l E F J D2 (f_S_go_b I) hA o7) hG hG hS rfl rfl hl.1 (Nat.le_of_ble_eq_true rfl) ⟨by decide, by decide⟩ dX5_go_25 ⟨Nat.le_of_ble_eq_true rfl, Nat.le_of_ble_eq_true rfl⟩) hS (fun D3 hD3 H locs hG hS => ?_)
  refine lv_iconst (v := 3) hx hb dX5_go_28 (by decide) ?_
  refine s_iald K hG (t := 9) (by decide) (by rw [o8]; omega) (by rw [o9]; exact show vp_in (nI 3) 13 from vp_in_nI (by decide) (by decide)) dX5_go_29 ?_
  rw [show ((3 : Int32)).toNatClampNeg = 3 from rfl]
  have hG := hG.drop hSt.ok (q := cnt (f_S_go_b I 5) 9) (by rw [o8]; omega)
  have hG : LW E F J D3 (f_S_go_s I) H := hG
  refine lv_iload_n hx hb dX5_go_30 rfl (lv_at hl 1 rfl) ?_
  refine lv_isub hx hb dX5_go_31 ?_
  refine W.widen (k := 60) (n := 8500) (by decide) (by decide) ?_
  exact W.iret K.1 K.2.1 hr (fun t ht hW => ⟨⟨_, (), rfl, rfl, D3, (hD1.tr hD2 o4).tr hD3 o6, by rw [ht]; exact hG⟩, hS.F ht⟩) hS.2.2 dX5_go_32 hlocks
