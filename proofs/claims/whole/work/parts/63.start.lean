/-! WHAT THE STATEMENT GIVES OF THE START -/
theorem ws_sta {s : State} {args : Array Value} {A : Nat → Prop} {C n : String} (hl : (Cond.laysStatic C n "[I").before args s = true) (hini : (Cond.initialized C).before args s = true) (harr : (Cond.arrayOf (.static C n "[I") .int).before args s = true) (hlen : (Cond.eq (.length (.static C n "[I")) (.int 5)).before args s = true)
    (h0 : (Cond.eq (.elem (.static C n "[I") (.int 0)) (.int 4)).before args s = true) (h1 : (Cond.eq (.elem (.static C n "[I") (.int 1)) (.int 8)).before args s = true) (h2 : (Cond.eq (.elem (.static C n "[I") (.int 2)) (.int 16)).before args s = true) (h3 : (Cond.eq (.elem (.static C n "[I") (.int 3)) (.int 32)).before args s = true) (h4 : (Cond.eq (.elem (.static C n "[I") (.int 4)) (.int 60)).before args s = true)
    (hA : ∀ a : Nat, a < s.heap.size → ¬ A a) : ∃ t, va_Z C n "[I" (.ref t) A s s.heap ∧ va_T .int t 5 (fun j => .int (gsz j)) A s s.heap := by
  obtain ⟨t, e, T⟩ := va_Tof (tm := .static C n "[I") (ty := .int) (N := 5) (f := fun j => .int (gsz j)) (A := A) (by decide) harr (va_eqt hlen) (fun j hj => by
    rcases (show j = 0 ∨ j = 1 ∨ j = 2 ∨ j = 3 ∨ j = 4 by omega) with rfl | rfl | rfl | rfl | rfl
    · exact va_eqt h0
    · exact va_eqt h1
    · exact va_eqt h2
    · exact va_eqt h3
    · exact va_eqt h4) hA
  exact ⟨t, va_Zof hl hini e hA, T⟩
def ws_el (C n : String) : List Cond := [.arrayOf (.static C n "[I") .int, .eq (.length (.static C n "[I")) (.int 5), .eq (.elem (.static C n "[I") (.int 0)) (.int 4), .eq (.elem (.static C n "[I") (.int 1)) (.int 8), .eq (.elem (.static C n "[I") (.int 2)) (.int 16), .eq (.elem (.static C n "[I") (.int 3)) (.int 32), .eq (.elem (.static C n "[I") (.int 4)) (.int 60)]
def ws_need : List Cond := ws_el "HayThieves" "ADVISED_FORKS" ++ (ws_el "HayThievesModel" "SIZES" ++ (Cond.isRef (.static Bundle.tN "UNASSIGNED_STACK" Bundle.steD) :: Cond.isRef (.static Bundle.tN "SUPPRESSED_SENTINEL" Bundle.listD) :: (gtx.map (fun q => Cond.exactly (.string "HayThieves" q.1) "java/lang/String") ++ gnc.map (fun q => Cond.not (.castable q.1 q.2)))))
set_option maxRecDepth 100000 in
theorem ws_in : ∀ w ∈ ws_need, w ∈ flatC (Jvm.Cond.and given_1 narrow_1) := by decide +kernel
def ws_tb : List Cond := gnest ++ (gtx.map (fun q => Cond.stringRef "HayThieves" q.1 q.2) ++ [.arrayOver (.object "HayThieves$Lad"), .arrayOver (.object "HayThieves$Load"), .laysStatic Bundle.tN "UNASSIGNED_STACK" Bundle.steD, .laysStatic Bundle.tN "SUPPRESSED_SENTINEL" Bundle.listD, .laysStatic "HayThieves" "ADVISED_FORKS" "[I", .laysStatic "HayThievesModel" "SIZES" "[I", .initialized "HayThieves", .initialized "HayThievesModel", .initialized Bundle.tN])
set_option maxRecDepth 100000 in
theorem ws_tin : ∀ w ∈ ws_tb, w ∈ lw_tbl := by decide +kernel
theorem ws_prim {s : State} {args : Array Value} {ty : FieldType} (h : (Cond.arrayClass ty).before args s = true) : ∃ c, ArrOfT s c ty ∧ s.vm.findClass ("[" ++ ty.toString) = some c := by
  obtain ⟨c, k, comp, h1, h2, h3⟩ := Cond.arrayClass_spec h
  exact ⟨c, fun n z => ⟨fun k h => (by cases h), k, h2, comp, h3⟩, h1⟩
theorem ws_obj {s : State} {args : Array Value} {C : String} (h : (Cond.arrayOver (.object C)).before args s = true) : ∃ c, ArrOfT s c (.object C) ∧ va_RA s c (.object C) := by
  obtain ⟨comp, c, k, h1, -, h3, h4, h5⟩ := Cond.arrayOver_spec h
  exact ⟨c, fun n z => ⟨fun k h => (by cases h), k, h3, comp, h4⟩, k, comp, h3, h4, h1, h5⟩
/-- the classes, and the arrays' -/
theorem ws_kD {s : State} {args : Array Value} (hts : ∀ w ∈ lw_tbl, w.before args s = true) : ∃ (D : va_G) (Tk : Nat → ClassId), kD D Tk s := by
  have ha : ∀ w ∈ lw_all, w.before args s = true := fun w h => hts w (lw_all_tbl w h)
  have hb : ∀ w ∈ ws_tb, w.before args s = true := fun w h => hts w (ws_tin w h)
  obtain ⟨c0, i0, h0⟩ := u_known (C := RX0) (T := TX0) (N := 2) (n := 2) ha in_X0 (ha _ q40)
  obtain ⟨c1, i1, h1⟩ := u_known (C := RX1) (T := TX1) (N := 12) (n := 12) ha in_X1 (ha _ q34)
  obtain ⟨c2, i2, h2⟩ := u_known (C := RX2) (T := TX2) (N := 7) (n := 7) ha in_X2 (ha _ q109)
  obtain ⟨c3, i3, h3⟩ := u_known (C := RX3) (T := TX3) (N := 10) (n := 10) ha in_X3 (ha _ q25)
  obtain ⟨c4, i4, h4⟩ := u_known (C := RX4) (T := TX4) (N := 2) (n := 2) ha in_X4 (ha _ q17)
  obtain ⟨c5, i5, h5⟩ := u_known (C := RX5) (T := TX5) (N := 26) (n := 26) ha in_X5 (ha _ q637)
  obtain ⟨c6, i6, h6⟩ := u_known (C := RX6) (T := TX6) (N := 10) (n := 10) ha in_X6 (ha _ q631)
  obtain ⟨k0, e0, f0⟩ := ws_prim (ha _ q55)
  obtain ⟨k1, e1, f1⟩ := ws_prim (ha _ q56)
  obtain ⟨k4, e4, f4⟩ := ws_prim (ha _ q976)
  have oL : (Cond.arrayOver (.object "HayThieves$Lad")).before args s = true := hb _ (List.mem_append_right _ (List.mem_append_right _ (by simp)))
  have oO : (Cond.arrayOver (.object "HayThieves$Load")).before args s = true := hb _ (List.mem_append_right _ (List.mem_append_right _ (by simp)))
  obtain ⟨k2, e2, f2⟩ := ws_obj oL
  obtain ⟨k3, e3, f3⟩ := ws_obj oO
  refine ⟨(fun k => match k with | 0 => c0 | 1 => c1 | 2 => c2 | 3 => c3 | 4 => c4 | 5 => c5 | _ => c6, fun k => match k with | 0 => i0 | 1 => i1 | 2 => i2 | 3 => i3 | 4 => i4 | 5 => i5 | _ => i6), fun k => match k with | 0 => k0 | 1 => k1 | 2 => k2 | 3 => k3 | _ => k4, ⟨fun c q hq => ?_, fun k q hq => ?_⟩, fun w hw => ?_, va_AO.of oL, va_AO.of oO⟩
  · match c, hq with
    | 0, hq => cases hq; exact h0
    | 1, hq => cases hq; exact h1
    | 2, hq => cases hq; exact h2
    | 3, hq => cases hq; exact h3
    | 4, hq => cases hq; exact h4
    | 5, hq => cases hq; exact h5
    | 6, hq => cases hq; exact h6
    | c + 7, hq => simp at hq
  · match k, hq with
    | 0, hq => cases hq; exact ⟨e0, f0⟩
    | 1, hq => cases hq; exact ⟨e1, f1⟩
    | 2, hq => cases hq; exact ⟨e2, f2⟩
    | 3, hq => cases hq; exact ⟨e3, f3⟩
    | 4, hq => cases hq; exact ⟨e4, f4⟩
    | k + 5, hq => simp [gty5] at hq
  · exact va_Nw.of (gnest_ot hw) (hb w (List.mem_append_left _ hw))
theorem ws_gT {s : State} {args : Array Value} {E : gE} (hts : ∀ w ∈ lw_tbl, w.before args s = true) (hgv : (Jvm.Cond.and given_1 narrow_1).before args s = true) (hA : ∀ a : Nat, a < s.heap.size → ¬ gF E a) : gT E s := by
  have hb : ∀ w ∈ ws_tb, w.before args s = true := fun w h => hts w (ws_tin w h)
  have hs := flat_of_before _ hgv
  have hn : ∀ w ∈ ws_need, w.before args s = true := fun w h => hs w (ws_in w h)
  have hb2 : ∀ w ∈ ([.arrayOver (.object "HayThieves$Lad"), .arrayOver (.object "HayThieves$Load"), .laysStatic Bundle.tN "UNASSIGNED_STACK" Bundle.steD, .laysStatic Bundle.tN "SUPPRESSED_SENTINEL" Bundle.listD, .laysStatic "HayThieves" "ADVISED_FORKS" "[I", .laysStatic "HayThievesModel" "SIZES" "[I", .initialized "HayThieves", .initialized "HayThievesModel", .initialized Bundle.tN] : List Cond), w.before args s = true := fun w h => hb w (List.mem_append_right _ (List.mem_append_right _ h))
  have n1 : ∀ w ∈ ws_el "HayThieves" "ADVISED_FORKS", w.before args s = true := fun w h => hn w (List.mem_append_left _ h)
  have n2 : ∀ w ∈ ws_el "HayThievesModel" "SIZES", w.before args s = true := fun w h => hn w (List.mem_append_right _ (List.mem_append_left _ h))
  have n3 : (Cond.isRef (.static Bundle.tN "UNASSIGNED_STACK" Bundle.steD)).before args s = true := hn _ (List.mem_append_right _ (List.mem_append_right _ List.mem_cons_self))
  have n4 : (Cond.isRef (.static Bundle.tN "SUPPRESSED_SENTINEL" Bundle.listD)).before args s = true := hn _ (List.mem_append_right _ (List.mem_append_right _ (List.mem_cons_of_mem _ List.mem_cons_self)))
  have n5 : ∀ w ∈ gtx.map (fun q => Cond.exactly (.string "HayThieves" q.1) "java/lang/String"), w.before args s = true := fun w h => hn w (List.mem_append_right _ (List.mem_append_right _ (List.mem_cons_of_mem _ (List.mem_cons_of_mem _ (List.mem_append_left _ h)))))
  have n6 : ∀ w ∈ gnc.map (fun q => Cond.not (.castable q.1 q.2)), w.before args s = true := fun w h => hn w (List.mem_append_right _ (List.mem_append_right _ (List.mem_cons_of_mem _ (List.mem_cons_of_mem _ (List.mem_append_right _ h)))))
  have sta : ∀ C n : String, (∀ w ∈ ws_el C n, w.before args s = true) → (Cond.laysStatic C n "[I").before args s = true → (Cond.initialized C).before args s = true → gsta E C n s := fun C n h hl hi => by
    unfold ws_el at h
    exact ws_sta hl hi (h _ (by simp)) (h _ (by simp)) (h _ (by simp)) (h _ (by simp)) (h _ (by simp)) (h _ (by simp)) (h _ (by simp)) hA
  refine ⟨sta _ _ n1 (hb2 _ (by simp)) (hb2 _ (by simp)), sta _ _ n2 (hb2 _ (by simp)) (hb2 _ (by simp)), vx_Zqof (hb2 _ (by simp)) (hb2 _ (by simp)) n3 hA, vx_Zqof (hb2 _ (by simp)) (hb2 _ (by simp)) n4 hA, fun q hq => ?_, fun q hq => ?_⟩
  · obtain ⟨a, -, -, -, ha, -⟩ := Cond.exactly_spec (n5 _ (List.mem_map.mpr ⟨q, hq, rfl⟩))
    exact ⟨a, vk_R.of (hb _ (List.mem_append_right _ (List.mem_append_left _ (List.mem_map.mpr ⟨q, hq, rfl⟩)))) ha⟩
  · exact va_Nc.of (n6 _ (List.mem_map.mpr ⟨q, hq, rfl⟩))
set_option maxHeartbeats 4000000 in
set_option maxRecDepth 100000 in
theorem whole_start {p : Program} {e : Env} {s : State} {m : MethodId} {below : List Frame} {meth : Method} {c : Code} (l : Launch) (hflags : l.flags = flags0) {b L : Nat} {xs : Nat → Int32} (hL : L ≤ 1536) (C0 : lw_At p s m meth c b L xs) : W p l e room_1 s m #[Value.ref b] below meth c s.heap [] 0 0 (lw_Z below #[Value.ref b] s) (entryFrame m ([Value.ref b] : List Value).toArray 9) := by
  obtain ⟨hx, hb, hr, hml, hown, hts, hX, hbl, hlocks, hgv⟩ := id C0
  obtain ⟨D, Tk, hD⟩ := ws_kD hts
  have ha : ∀ w ∈ lw_all, w.before #[Value.ref b] s = true := fun w h => hts w (lw_all_tbl w h)
  have hst : l.stackTraces = false := by
    unfold Launch.stackTraces
    rw [hflags]
    decide +kernel
  have hA : ∀ a : Nat, a < s.heap.size → ¬ gF (gE0 D Tk s.heap.size) a := fun a h => Nat.not_le.mpr h
  have hS0 : gS (gE0 D Tk s.heap.size) s := ⟨hD.1, hD.2.1, gok0 D Tk s.heap.size, Nat.le_refl _, ws_gT hts hgv hA⟩
  have X : lx p l s m meth c (gE0 D Tk s.heap.size) b L xs := ⟨⟨hx, hb, ha, hown, hS0⟩, hml, hr, hlocks, hX, hbl, hA b hbl, hst, hL⟩
  have hl := lv_entry ([.ref b]) (n := 9) (Nat.le_of_ble_eq_true rfl)
  rw [lg_entry_eq]
  generalize (lg_sl ([.ref b]) ++ List.replicate (9 - (lg_sl ([.ref b])).length) Slot.unset).toArray = ls at hl ⊢
  have hl : lv_has ls 9 [(0, .ref b)] := hl
  refine law_init (D := D) (Tk := Tk) (N := s.heap.size) ⟨hx, hb, ha, hown, hD⟩ hml rfl hl (fun H locs ls hC hS hl => ?_)
  have hS' : va_S (gF (gE0 D Tk s.heap.size)) s.heap H locs := by
    obtain ⟨s1, s2, s3⟩ := hS
    have hc : ∀ q, cA s.heap.size (s.heap.size + 1) q → gF (gE0 D Tk s.heap.size) q := fun q h => by
      show s.heap.size ≤ q
      rcases h with h | h
      · omega
      · omega
    exact ⟨s1, fun q h1 h2 => s2 q h1 (fun h => h2 (hc q h)), fun x h => hc _ (s3 x h)⟩
  exact law_loopn X zRel_ok (fun q h => h) 512 0 0 gI0 H locs 115 9333 ls (by omega) (Nat.zero_le _) (Nat.le_of_ble_eq_true rfl) (Nat.le_of_ble_eq_true rfl) zRel0 (GW0 hC) hS' hl
