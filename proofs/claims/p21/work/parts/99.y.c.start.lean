/-! WHAT THE STATEMENT GIVES OF THE START (out of the first row) -/
theorem ws_sta {s : State} {args : Array Value} {A : Nat → Prop} {C n : String} (hl : (Cond.laysStatic C n "[I").before args s = true) (hini : (Cond.initialized C).before args s = true) (harr : (Cond.arrayOf (.static C n "[I") .int).before args s = true) (hlen : (Cond.eq (.length (.static C n "[I")) (.int 5)).before args s = true)
    (h0 : (Cond.eq (.elem (.static C n "[I") (.int 0)) (.int 4)).before args s = true) (h1 : (Cond.eq (.elem (.static C n "[I") (.int 1)) (.int 8)).before args s = true) (h2 : (Cond.eq (.elem (.static C n "[I") (.int 2)) (.int 16)).before args s = true) (h3 : (Cond.eq (.elem (.static C n "[I") (.int 3)) (.int 32)).before args s = true) (h4 : (Cond.eq (.elem (.static C n "[I") (.int 4)) (.int 60)).before args s = true)
    (hA : ∀ a : Nat, a < s.heap.size → ¬ A a) : ∃ t, va_Z C n "[I" (.ref t) A s s.heap ∧ va_T .int t 5 (fun j => .int (gsz j)) A s s.heap := by
  obtain ⟨t, e, T⟩ := va_Tof (tm := .static C n "[I") (ty := .int) (N := 5) (f := fun j => .int (gsz j)) (A := A) (by decide) harr (va_eqt hlen) (fun j hj => by
    rcases (show j = 0 ∨ j = 1 ∨ j = 2 ∨ j = 3 ∨ j = 4 by omega) with rfl | rfl | rfl | rfl | rfl
    · exact va_eqt h0
    · exact va_eqt h1
    · exact va_eqt h2
    · exact va_eqt h3
    · exact va_eqt h4) hA
  exact ⟨t, va_Zof hl hini e hA, T⟩
def ws_el (C n : String) : List Cond := [.arrayOf (.static C n "[I") .int, .eq (.length (.static C n "[I")) (.int 5), .eq (.elem (.static C n "[I") (.int 0)) (.int 4), .eq (.elem (.static C n "[I") (.int 1)) (.int 8), .eq (.elem (.static C n "[I") (.int 2)) (.int 16), .eq (.elem (.static C n "[I") (.int 3)) (.int 32), .eq (.elem (.static C n "[I") (.int 4)) (.int 60)]
def ws_need : List Cond := ws_el "HayThieves" "ADVISED_FORKS" ++ (Cond.isRef (.static Bundle.tN "UNASSIGNED_STACK" Bundle.steD) :: Cond.isRef (.static Bundle.tN "SUPPRESSED_SENTINEL" Bundle.listD) :: (gtx.map (fun q => Cond.exactly (.string "HayThieves" q.1) "java/lang/String") ++ gnc.map (fun q => Cond.not (.castable q.1 q.2))))
set_option maxRecDepth 100000 in
theorem ws_in : ∀ w ∈ ws_need, w ∈ flatC (Jvm.Cond.and given_1 narrow_1) := by decide +kernel
def ws_tl : List Cond := [.arrayOver (.object "HayThieves$Lad"), .arrayOver (.object "HayThieves$Load"), .arrayOver (.array .int), .laysStatic Bundle.tN "UNASSIGNED_STACK" Bundle.steD, .laysStatic Bundle.tN "SUPPRESSED_SENTINEL" Bundle.listD, .laysStatic "HayThieves" "ADVISED_FORKS" "[I", .initialized "HayThieves", .initialized Bundle.tN]
def ws_tb : List Cond := gnest ++ (gtx.map (fun q => Cond.stringRef "HayThieves" q.1 q.2) ++ ws_tl)
set_option maxRecDepth 100000 in
theorem ws_tin : ∀ w ∈ ws_tb, w ∈ lw_tbl := by decide +kernel
theorem ws_prim {s : State} {args : Array Value} {ty : FieldType} (h : (Cond.arrayClass ty).before args s = true) : ∃ c, ArrOfT s c ty ∧ s.vm.findClass ("[" ++ ty.toString) = some c := by
  obtain ⟨c, k, comp, h1, h2, h3⟩ := Cond.arrayClass_spec h
  exact ⟨c, fun n z => ⟨fun k h => (by cases h), k, h2, comp, h3⟩, h1⟩
theorem ws_obj {s : State} {args : Array Value} {C : String} (h : (Cond.arrayOver (.object C)).before args s = true) : ∃ c, ArrOfT s c (.object C) ∧ va_RA s c (.object C) := by
  obtain ⟨comp, c, k, h1, -, h3, h4, h5⟩ := Cond.arrayOver_spec h
  exact ⟨c, fun n z => ⟨fun k h => (by cases h), k, h3, comp, h4⟩, k, comp, h3, h4, h1, h5⟩
theorem ws_arr {s : State} {args : Array Value} (h : va_AOA s) : ∃ c, ArrOfT s c (.array .int) ∧ va_RA s c (.array .int) := by
  obtain ⟨comp, c, k, h1, -, h3, h4, h5⟩ := arrayOverA_spec h
  exact ⟨c, fun n z => ⟨fun k h => (by cases h), k, h3, comp, h4⟩, h5⟩
theorem ws_tl_in {s : State} {args : Array Value} (hts : ∀ w ∈ lw_tbl, w.before args s = true) : ∀ w ∈ ws_tl, w.before args s = true := fun w h => hts w (ws_tin w (List.mem_append_right _ (List.mem_append_right _ h)))
theorem ws_AOA {s : State} {args : Array Value} (hts : ∀ w ∈ lw_tbl, w.before args s = true) : va_AOA s := by
  have h : (Cond.arrayOver (.array .int)).before args s = true := ws_tl_in hts _ (by simp [ws_tl])
  exact h
/-- the classes, and the arrays' -/
theorem ws_kD {s : State} {args : Array Value} (hts : ∀ w ∈ lw_tbl, w.before args s = true) : ∃ (D : va_G) (Tk : Nat → ClassId), kD D Tk s := by
  have ha : ∀ w ∈ lw_all, w.before args s = true := fun w h => hts w (lw_all_tbl w h)
  have hb : ∀ w ∈ ws_tb, w.before args s = true := fun w h => hts w (ws_tin w h)
  obtain ⟨c0, i0, h0⟩ := u_known (C := RX0) (T := TX0) (N := 2) (n := 2) ha in_X0 (ha _ q39)
  obtain ⟨c1, i1, h1⟩ := u_known (C := RX1) (T := TX1) (N := 12) (n := 12) ha in_X1 (ha _ q33)
  obtain ⟨c2, i2, h2⟩ := u_known (C := RX2) (T := TX2) (N := 7) (n := 7) ha in_X2 (ha _ q108)
  obtain ⟨c3, i3, h3⟩ := u_known (C := RX3) (T := TX3) (N := 10) (n := 10) ha in_X3 (ha _ q24)
  obtain ⟨c4, i4, h4⟩ := u_known (C := RX4) (T := TX4) (N := 2) (n := 2) ha in_X4 (ha _ q16)
  obtain ⟨c5, i5, h5⟩ := u_known (C := RX5) (T := TX5) (N := 9) (n := 9) ha in_X5 (ha _ q531)
  obtain ⟨k0, e0, f0⟩ := ws_prim (ha _ q54)
  obtain ⟨k1, e1, f1⟩ := ws_prim (ha _ q55)
  obtain ⟨k4, e4, f4⟩ := ws_arr (args := args) (ws_AOA hts)
  have oL : (Cond.arrayOver (.object "HayThieves$Lad")).before args s = true := ws_tl_in hts _ (by simp [ws_tl])
  have oO : (Cond.arrayOver (.object "HayThieves$Load")).before args s = true := ws_tl_in hts _ (by simp [ws_tl])
  obtain ⟨k2, e2, f2⟩ := ws_obj oL
  obtain ⟨k3, e3, f3⟩ := ws_obj oO
  refine ⟨(fun k => match k with | 0 => c0 | 1 => c1 | 2 => c2 | 3 => c3 | 4 => c4 | _ => c5, fun k => match k with | 0 => i0 | 1 => i1 | 2 => i2 | 3 => i3 | 4 => i4 | _ => i5), fun k => match k with | 0 => k0 | 1 => k1 | 2 => k2 | 3 => k3 | _ => k4, ⟨fun c q hq => ?_, fun k q hq => ?_⟩, fun w hw => ?_, va_AO.of oL, va_AO.of oO⟩
  · match c, hq with
    | 0, hq => cases hq; exact h0
    | 1, hq => cases hq; exact h1
    | 2, hq => cases hq; exact h2
    | 3, hq => cases hq; exact h3
    | 4, hq => cases hq; exact h4
    | 5, hq => cases hq; exact h5
    | c + 6, hq => simp at hq
  · match k, hq with
    | 0, hq => cases hq; exact ⟨e0, f0⟩
    | 1, hq => cases hq; exact ⟨e1, f1⟩
    | 2, hq => cases hq; exact ⟨e2, f2⟩
    | 3, hq => cases hq; exact ⟨e3, f3⟩
    | 4, hq => cases hq; exact ⟨e4, f4⟩
    | k + 5, hq => simp [gty5] at hq
  · exact va_Nw.of (gnest_ot hw) (hb w (List.mem_append_left _ hw))
theorem ws_gT {s : State} {args : Array Value} {E : gE} (hts : ∀ w ∈ lw_tbl, w.before args s = true) (hgv : (Jvm.Cond.and given_1 narrow_1).before args s = true) (hA : ∀ a : Nat, a < s.heap.size → ¬ gH E a) : gT E s := by
  have hb : ∀ w ∈ ws_tb, w.before args s = true := fun w h => hts w (ws_tin w h)
  have hs := flat_of_before _ hgv
  have hn : ∀ w ∈ ws_need, w.before args s = true := fun w h => hs w (ws_in w h)
  have hb2 := ws_tl_in hts
  have n1 : ∀ w ∈ ws_el "HayThieves" "ADVISED_FORKS", w.before args s = true := fun w h => hn w (List.mem_append_left _ h)
  have n3 : (Cond.isRef (.static Bundle.tN "UNASSIGNED_STACK" Bundle.steD)).before args s = true := hn _ (List.mem_append_right _ List.mem_cons_self)
  have n4 : (Cond.isRef (.static Bundle.tN "SUPPRESSED_SENTINEL" Bundle.listD)).before args s = true := hn _ (List.mem_append_right _ (List.mem_cons_of_mem _ List.mem_cons_self))
  have n5 : ∀ w ∈ gtx.map (fun q => Cond.exactly (.string "HayThieves" q.1) "java/lang/String"), w.before args s = true := fun w h => hn w (List.mem_append_right _ (List.mem_cons_of_mem _ (List.mem_cons_of_mem _ (List.mem_append_left _ h))))
  have n6 : ∀ w ∈ gnc.map (fun q => Cond.not (.castable q.1 q.2)), w.before args s = true := fun w h => hn w (List.mem_append_right _ (List.mem_cons_of_mem _ (List.mem_cons_of_mem _ (List.mem_append_right _ h))))
  have sta : ∀ C n : String, (∀ w ∈ ws_el C n, w.before args s = true) → (Cond.laysStatic C n "[I").before args s = true → (Cond.initialized C).before args s = true → gsta E C n s := fun C n h hl hi => by
    unfold ws_el at h
    exact ws_sta hl hi (h _ (by simp)) (h _ (by simp)) (h _ (by simp)) (h _ (by simp)) (h _ (by simp)) (h _ (by simp)) (h _ (by simp)) hA
  refine ⟨sta _ _ n1 (hb2 _ (by simp [ws_tl])) (hb2 _ (by simp [ws_tl])), vx_Zqof (hb2 _ (by simp [ws_tl])) (hb2 _ (by simp [ws_tl])) n3 hA, vx_Zqof (hb2 _ (by simp [ws_tl])) (hb2 _ (by simp [ws_tl])) n4 hA, fun q hq => ?_, fun q hq => ?_⟩
  · obtain ⟨a, -, -, -, ha, -⟩ := Cond.exactly_spec (n5 _ (List.mem_map.mpr ⟨q, hq, rfl⟩))
    exact ⟨a, vk_R.of (hb _ (List.mem_append_right _ (List.mem_append_left _ (List.mem_map.mpr ⟨q, hq, rfl⟩)))) ha⟩
  · exact va_Nc.of (n6 _ (List.mem_map.mpr ⟨q, hq, rfl⟩))
set_option maxHeartbeats 4000000 in
set_option maxRecDepth 100000 in
theorem whole_start {p : Program} {e : Env} {s : State} {m : MethodId} {below : List Frame} {meth : Method} {c : Code} (l : Launch) (hflags : l.flags = flags0) {b L : Nat} {xs : Nat → Int32} (hL : L ≤ 260) (C0 : lw_At p s m meth c b L xs) : W p l e room_1 s m #[Value.ref b] below meth c s.heap [] 0 0 (lw_Z below #[Value.ref b] s) (entryFrame m ([Value.ref b] : List Value).toArray 27) := by
  obtain ⟨hx, hb, hr, hml, hown, hts, hX, hbl, hlocks, hgv⟩ := id C0
  obtain ⟨D, Tk, hD⟩ := ws_kD hts
  have ha : ∀ w ∈ lw_all, w.before #[Value.ref b] s = true := fun w h => hts w (lw_all_tbl w h)
  have hst : l.stackTraces = false := by
    unfold Launch.stackTraces
    rw [hflags]
    decide +kernel
  have hA : ∀ a : Nat, a < s.heap.size → ¬ gH (gE0 D Tk s.heap.size) a := fun a h => Nat.not_le.mpr h
  have hS0 : gS (gE0 D Tk s.heap.size) s := ⟨hD.1, hD.2.1, gok0 D Tk s.heap.size, Nat.le_refl _, ws_gT hts hgv hA⟩
  have hAO : va_AOA s := ws_AOA hts
  have X : gX p l s m meth c (gE0 D Tk s.heap.size) b L xs := ⟨⟨hx, hb, ha, hown, hS0⟩, hAO, hml, hr, hlocks, hst, hX, hbl, hbl, hL⟩
  have K := X.1
  have KC : kc D Tk p m c cL_law "HayThievesLaw" #[Value.ref b] s := ⟨hx, hb, ha, hown, hD⟩
  have hl := lv_entry ([.ref b]) (n := 27) (Nat.le_of_ble_eq_true rfl)
  rw [lg_entry_eq]
  generalize (lg_sl ([.ref b]) ++ List.replicate (27 - (lg_sl ([.ref b])).length) Slot.unset).toArray = ls at hl ⊢
  have hl : lv_has ls 27 [(0, .ref b)] := hl
  have hS : va_S (cA s.heap.size (s.heap.size + 1)) s.heap s.heap [] := va_S.rf
  refine c_new0 (ci := 4) (C := "HayThieves") (T := TX4) (N := 2) (fs := [.null, .null]) KC rfl hS in_X4 tyX4 tyX4_ok q15 q16 q1 rfl (by decide) (Nat.le_of_ble_eq_true rfl) (Nat.le_of_ble_eq_true rfl) dL_law_0 (fun H hC hS => ?_)
  refine lv_dup hx hb dL_law_3 rfl ?_
  refine c_call0 (As := []) (rest := [.ref s.heap.size]) (ci := 4) (fs := [.null, .null]) KC hml (show gcaI yX4_init cX4_init 1 0 from ⟨q19, q1, q18, rfl, by decide +kernel⟩) q17 hC hS (k_X4 l D Tk _ _) rfl hl.1 (Nat.le_of_ble_eq_true rfl) ⟨by decide, by decide⟩ dL_law_4 ⟨Nat.le_of_ble_eq_true rfl, Nat.le_of_ble_eq_true rfl⟩ (fun H locs hC hS => ?_)
  have hC : CW D s.heap.size (.inr (4, [.ref (s.heap.size + 1), .ref (s.heap.size + 34)])) (s.heap.size + 1) (aL Tk (s.heap.size + 1)) H := hC
  have hG := GW0 hC
  have hsz : s.heap.size + 67 ≤ H.size := by rw [hC.2.2.2, aL_len]; omega
  have hS : va_S (gH (gE0 D Tk s.heap.size)) s.heap H locs := by
    obtain ⟨s1, s2, s3⟩ := hS
    have hc : ∀ q, cA s.heap.size (s.heap.size + 1) q → gH (gE0 D Tk s.heap.size) q := fun q h => by
      show s.heap.size ≤ q
      rcases h with h | h
      · omega
      · omega
    exact ⟨s1, fun q h1 h2 => s2 q h1 (fun h => h2 (hc q h)), fun x h => hc _ (s3 x h)⟩
  refine lv_astore_n (lv' := [(1, .ref (gA (gE0 D Tk s.heap.size) 2 10 0)), (0, .ref b)]) hx hb dL_law_7 rfl hl (by decide) rfl (fun ls hl => ?_)
  refine lv_aload_n hx hb dL_law_8 rfl (lv_at hl 0 rfl) ?_
  refine lv_aload_n hx hb dL_law_9 rfl (lv_at hl 1 rfl) ?_
  refine va_callr (n_runS (As := [.ref (gA (gE0 D Tk s.heap.size) 2 10 0), .ref b]) (rest := []) K hml ca_L_build q659 (m_L_build l (gE0 D Tk s.heap.size) 0 gI0 b L (2 * 40) xs (jR0 (by decide)) (by omega) hbl hst) (fun a9 U g mk q => ⟨q.1, q.2.1, q.2.2.1.blind g mk a9, va_X.moved (u := U) (U := U.calling g mk a9) (Vm.Alike.refl U.vm) q.2.2.2⟩) (fun U hU hW => ⟨⟨by rw [hU]; exact hG, by rw [hU]; exact hsz⟩, s_pre K hAO gH_ge hS hU hW, ?_⟩) rfl hl.1 (Nat.le_of_ble_eq_true rfl) ⟨by decide, by decide⟩ dL_law_10 ⟨Nat.le_of_ble_eq_true rfl, Nat.le_of_ble_eq_true rfl⟩) hS (fun q _ h => h) (fun q h => h) (fun u ra t H1 locs1 ht hvm hw hB hz hk hS1 => ?_)
  · rw [hU]
    exact (va_X.moved hW.alike hX).kept (hS.2.1 b hbl (hA b hbl))
  obtain ⟨D1, I1, e1, hj, hL1⟩ := hB
  subst e1
  rw [ht] at hL1
  refine lv_astore_n (lv' := [(2, .ref (D1 0 0)), (1, .ref (gA (gE0 D Tk s.heap.size) 2 10 0)), (0, .ref b)]) hx hb dL_law_13 rfl hl (by decide) rfl (fun ls hl => ?_)
  refine lv_aload_n hx hb dL_law_14 rfl (lv_at hl 0 rfl) ?_
  refine lv_ifnonnull (tgt := 20) hx hb dL_law_15 (by decide) ?_
  refine lv_iconst (v := 0) hx hb dL_law_20 (by decide) ?_
  refine lv_istore_n (lv' := [(3, .int 0), (2, .ref (D1 0 0)), (1, .ref (gA (gE0 D Tk s.heap.size) 2 10 0)), (0, .ref b)]) hx hb dL_law_21 rfl hl (by decide) rfl (fun ls hl => ?_)
  exact lg_time X (Nat.le_refl _) 40 0 D1 I1 H1 locs1 _ _ ls rfl hj (Nat.le_of_ble_eq_true rfl) (Nat.le_of_ble_eq_true rfl) hL1 hS1 hl
