/-! PRINTED by wip/gen (cls.py): X4 -/
def f_X4_needLad_x (I : gI) (x : Int32) : Nat :=
  if x < 0 then
    3
  else
    if x < (I 0 0 0 4) then
      0
    else
      3
set_option maxHeartbeats 4000000 in
set_option maxRecDepth 100000 in
theorem m_X4_needLad (l : Launch) (E : gE) (J : Int64) (I : gI) (x : Int32) (hw0 : wf (I 0)) (hfl : l.stackTraces = false) : gXv l E J yX4_needLad cX4_needLad 2 none 6 82 1 [.ref (gA E 2 10 0), .int x] I (f_X4_needLad_x I x) I := by
  refine g_entryX (lv := [(0, .ref (gA E 2 10 0)), (1, .int x)]) (by decide) (Nat.le_of_ble_eq_true rfl) rfl ?_
  intro p e s m below meth c0 ls K hG hS hml hr hlocks hout hl
  have K : kx E p m c0 cX4_needLad "HayThieves" _ s := K
  have hx := K.1
  have hb := K.2.1
  have hts := K.2.2.1
  have hown := K.2.2.2.1
  have hSt := K.2.2.2.2
  have hN := hw0.N
  have hM := hw0.M
  refine lv_iload_n hx hb dX4_needLad_0 rfl (lv_at hl 1 rfl) ?_
  refine lv_if_lt (tgt := 15) hx hb dX4_needLad_1 (by decide) (fun c1 => ?_) (fun c1 => ?_)
  · exact g_throw (text := "there is no such lad") K hfl gxk3 (by simp only [f_X4_needLad_x, if_pos c1]) (by decide) (by decide +kernel) hG hS (hl.1.trans hml.symm) dX4_needLad_15 dX4_needLad_18 dX4_needLad_19 dX4_needLad_21 dX4_needLad_24 hout ⟨by decide, Nat.le_of_ble_eq_true rfl, by decide, by decide⟩ hlocks (by decide) (by decide)
  · refine lv_iload_n hx hb dX4_needLad_4 rfl (lv_at hl 1 rfl) ?_
    refine lv_aload_n hx hb dX4_needLad_5 rfl (lv_at hl 0 rfl) ?_
    refine gf_X4_12 K hG rfl dX4_needLad_6 ?_
    refine gf_X4_26 K hG (gv0 (by decide)) dX4_needLad_9 ?_
    refine lv_icmp_lt (tgt := 25) hx hb dX4_needLad_12 (by decide) (fun c2 => ?_) (fun c2 => ?_)
    · exact g_vretX K hG hS hr hlocks (by simp only [f_X4_needLad_x, if_neg c1, if_pos c2]) (by decide) (by decide) dX4_needLad_25
    · exact g_throw (text := "there is no such lad") K hfl gxk3 (by simp only [f_X4_needLad_x, if_neg c1, if_neg c2]) (by decide) (by decide +kernel) hG hS (hl.1.trans hml.symm) dX4_needLad_15 dX4_needLad_18 dX4_needLad_19 dX4_needLad_21 dX4_needLad_24 hout ⟨by decide, Nat.le_of_ble_eq_true rfl, by decide, by decide⟩ hlocks (by decide) (by decide)
def f_X4_needLoad_x (I : gI) (x : Int32) : Nat :=
  if x < 0 then
    3
  else
    if x < (I 0 0 0 5) then
      0
    else
      3
set_option maxHeartbeats 4000000 in
set_option maxRecDepth 100000 in
theorem m_X4_needLoad (l : Launch) (E : gE) (J : Int64) (I : gI) (x : Int32) (hw0 : wf (I 0)) (hfl : l.stackTraces = false) : gXv l E J yX4_needLoad cX4_needLoad 2 none 6 82 1 [.ref (gA E 2 10 0), .int x] I (f_X4_needLoad_x I x) I := by
  refine g_entryX (lv := [(0, .ref (gA E 2 10 0)), (1, .int x)]) (by decide) (Nat.le_of_ble_eq_true rfl) rfl ?_
  intro p e s m below meth c0 ls K hG hS hml hr hlocks hout hl
  have K : kx E p m c0 cX4_needLoad "HayThieves" _ s := K
  have hx := K.1
  have hb := K.2.1
  have hts := K.2.2.1
  have hown := K.2.2.2.1
  have hSt := K.2.2.2.2
  have hN := hw0.N
  have hM := hw0.M
  refine lv_iload_n hx hb dX4_needLoad_0 rfl (lv_at hl 1 rfl) ?_
  refine lv_if_lt (tgt := 15) hx hb dX4_needLoad_1 (by decide) (fun c1 => ?_) (fun c1 => ?_)
  · exact g_throw (text := "there is no such load") K hfl gxk3 (by simp only [f_X4_needLoad_x, if_pos c1]) (by decide) (by decide +kernel) hG hS (hl.1.trans hml.symm) dX4_needLoad_15 dX4_needLoad_18 dX4_needLoad_19 dX4_needLoad_21 dX4_needLoad_24 hout ⟨by decide, Nat.le_of_ble_eq_true rfl, by decide, by decide⟩ hlocks (by decide) (by decide)
  · refine lv_iload_n hx hb dX4_needLoad_4 rfl (lv_at hl 1 rfl) ?_
    refine lv_aload_n hx hb dX4_needLoad_5 rfl (lv_at hl 0 rfl) ?_
    refine gf_X4_12 K hG rfl dX4_needLoad_6 ?_
    refine gf_X4_64 K hG (gv0 (by decide)) dX4_needLoad_9 ?_
    refine lv_icmp_lt (tgt := 25) hx hb dX4_needLoad_12 (by decide) (fun c2 => ?_) (fun c2 => ?_)
    · exact g_vretX K hG hS hr hlocks (by simp only [f_X4_needLoad_x, if_neg c1, if_pos c2]) (by decide) (by decide) dX4_needLoad_25
    · exact g_throw (text := "there is no such load") K hfl gxk3 (by simp only [f_X4_needLoad_x, if_neg c1, if_neg c2]) (by decide) (by decide +kernel) hG hS (hl.1.trans hml.symm) dX4_needLoad_15 dX4_needLoad_18 dX4_needLoad_19 dX4_needLoad_21 dX4_needLoad_24 hout ⟨by decide, Nat.le_of_ble_eq_true rfl, by decide, by decide⟩ hlocks (by decide) (by decide)
def f_X4_needMinutes_x (I : gI) (x b : Int32) : Nat :=
  if x < 1 then
    1
  else
    if x ≤ b then
      0
    else
      1
set_option maxHeartbeats 4000000 in
set_option maxRecDepth 100000 in
theorem m_X4_needMinutes (l : Launch) (E : gE) (J : Int64) (I : gI) (x b : Int32) (hfl : l.stackTraces = false) : gXv l E J yX4_needMinutes cX4_needMinutes 2 none 6 82 1 [.int x, .int b] I (f_X4_needMinutes_x I x b) I := by
  refine g_entryX (lv := [(0, .int x), (1, .int b)]) (by decide) (Nat.le_of_ble_eq_true rfl) rfl ?_
  intro p e s m below meth c0 ls K hG hS hml hr hlocks hout hl
  have K : kx E p m c0 cX4_needMinutes "HayThieves" _ s := K
  have hx := K.1
  have hb := K.2.1
  have hts := K.2.2.1
  have hown := K.2.2.2.1
  have hSt := K.2.2.2.2
  refine lv_iload_n hx hb dX4_needMinutes_0 rfl (lv_at hl 0 rfl) ?_
  refine lv_iconst (v := 1) hx hb dX4_needMinutes_1 (by decide) ?_
  refine lv_icmp_lt (tgt := 10) hx hb dX4_needMinutes_2 (by decide) (fun c1 => ?_) (fun c1 => ?_)
  · exact g_throw (text := "minutes is below 1 or too many") K hfl gxk1 (by simp only [f_X4_needMinutes_x, if_pos c1]) (by decide) (by decide +kernel) hG hS (hl.1.trans hml.symm) dX4_needMinutes_10 dX4_needMinutes_13 dX4_needMinutes_14 dX4_needMinutes_16 dX4_needMinutes_19 hout ⟨by decide, Nat.le_of_ble_eq_true rfl, by decide, by decide⟩ hlocks (by decide) (by decide)
  · refine lv_iload_n hx hb dX4_needMinutes_5 rfl (lv_at hl 0 rfl) ?_
    refine lv_iload_n hx hb dX4_needMinutes_6 rfl (lv_at hl 1 rfl) ?_
    refine lv_icmp_le (tgt := 20) hx hb dX4_needMinutes_7 (by decide) (fun c2 => ?_) (fun c2 => ?_)
    · exact g_vretX K hG hS hr hlocks (by simp only [f_X4_needMinutes_x, if_neg c1, if_pos c2]) (by decide) (by decide) dX4_needMinutes_20
    · exact g_throw (text := "minutes is below 1 or too many") K hfl gxk1 (by simp only [f_X4_needMinutes_x, if_neg c1, if_neg c2]) (by decide) (by decide +kernel) hG hS (hl.1.trans hml.symm) dX4_needMinutes_10 dX4_needMinutes_13 dX4_needMinutes_14 dX4_needMinutes_16 dX4_needMinutes_19 hout ⟨by decide, Nat.le_of_ble_eq_true rfl, by decide, by decide⟩ hlocks (by decide) (by decide)

theorem gU_off {I : gI} {y t i j : Nat} {x : Int32} {y' t' i' j' : Nat} (h : ¬ (y' = y ∧ t' = t ∧ i' = i ∧ j' = j)) : gU I y t i j x y' t' i' j' = I y' t' i' j' := by
  by_cases hy : y' = y
  · subst hy
    rw [gU_at]
    unfold u3
    rw [if_neg]
    exact fun q => h ⟨rfl, q⟩
  · rw [gU_ne _ _ _ _ _ hy]
theorem sv_cart {E : gE} {J : Int64} {I : gI} {y i : Nat} {v : Int32} (y' t' i' j' : Nat) : sv E J (gU I y 1 i 3 v) y' t' i' j' = if y' = y ∧ t' = 1 ∧ i' = i ∧ j' = 3 then .ref (gA E y 2 v.toNatClampNeg) else sv E J I y' t' i' j' := by
  by_cases h : y' = y ∧ t' = 1 ∧ i' = i ∧ j' = 3
  · obtain ⟨rfl, rfl, rfl, rfl⟩ := h
    rw [if_pos ⟨rfl, rfl, rfl, rfl⟩]
    unfold sv
    rw [if_neg (by decide), if_neg (by decide)]
    unfold grf
    simp only [gU_at, u3_at]
  · rw [if_neg h]
    unfold sv
    rw [gU_off h]
    by_cases hk : gk t' j' = true
    · rw [if_pos hk, if_pos hk]
    · rw [if_neg hk, if_neg hk]
      have e : grf E (gU I y 1 i 3 v) y' t' i' j' = grf E I y' t' i' j' := by
        unfold grf
        split <;> try rfl
        have hj : j' = 3 := by
          rcases Nat.decEq j' 3 with q | q
          · exact absurd (by simp [gk, q]) hk
          · exact q
        rw [gU_off (fun q => h ⟨q.1, rfl, q.2.2.1, hj⟩)]
      rw [e]
theorem wf_cart {I : gI} {y i : Nat} {v : Int32} (hv : v.toNatClampNeg < 6) (h : wf (I y)) : wf (gU I y 1 i 3 v y) := by
  rw [gU_at]
  obtain ⟨h1, h2, h3, h4, h5⟩ := h
  refine ⟨h1, h2, fun k hk => ?_, h4, fun k hk => (by unfold u3; rw [if_neg (by rintro ⟨-, -, q⟩; cases q)]; exact h5 k hk)⟩
  unfold u3
  by_cases e : k = i
  · subst e
    simpa using hv
  · rw [if_neg (by rintro ⟨-, q, -⟩; exact e q)]
    exact h3 k hk
section PC
variable {p : Program} {l : Launch} {e : Env} {R : Room} {s : State} {m : MethodId} {args : Array Value} {below : List Frame} {meth : Method} {c : Code} {H : Heap} {locs : List Loc} {cells slots : Nat} {Q : State → Prop}
variable {cc : ByteArray} {pc : Nat} {ls : Array Slot} {rest : List Value} {E : gE} {J : Int64} {I : gI} {H0 : Heap} {y i : Nat}
theorem pf_X4_74 (K : kx E p m c cc "HayThieves" args s) (hG : GW E J I H) (hS0 : va_S (gF E) H0 H locs) (hv : gv y 1 i = true) {x : Int32} (hdg : decode cc pc = .ok (.putfield 74, 3)) (kk : ∀ I1 : gI, I1 = gU I y 1 i 3 x → ∀ (H1 : Heap) (locs1 : List Loc), GW E J I1 H1 → va_S (gF E) H0 H1 locs1 → W p l e R s m args below meth c H1 locs1 cells slots Q (F0 m (pc + 3) ls rest)) : W p l e R s m args below meth c H locs cells slots Q (F0 m pc ls (.ref (gA E y 2 x.toNatClampNeg) :: .ref (gA E y 1 i) :: rest)) :=
  g_putVN K tyX1 tyX1_ok nmX1 hG hS0 hv rfl rfl in_X1 3 (by decide) qn_H_74 rfl (ty := .object "HayThieves$Cart") (by decide +kernel) rfl rfl (fun y' t' i' j' => sv_cart y' t' i' j') hdg (kk _ rfl)
end PC
theorem rg_needLad {I : gI} {x : Int32} (h : f_X4_needLad_x I x = 0) : ¬ x < 0 ∧ x < I 0 0 0 4 := by
  unfold f_X4_needLad_x at h
  by_cases c1 : x < 0
  · rw [if_pos c1] at h; cases h
  · rw [if_neg c1] at h
    by_cases c2 : x < I 0 0 0 4
    · exact ⟨c1, c2⟩
    · rw [if_neg c2] at h; cases h
theorem rg_needLoad {I : gI} {x : Int32} (h : f_X4_needLoad_x I x = 0) : ¬ x < 0 ∧ x < I 0 0 0 5 := by
  unfold f_X4_needLoad_x at h
  by_cases c1 : x < 0
  · rw [if_pos c1] at h; cases h
  · rw [if_neg c1] at h
    by_cases c2 : x < I 0 0 0 5
    · exact ⟨c1, c2⟩
    · rw [if_neg c2] at h; cases h
theorem rg_lad {I : gI} {x : Int32} (hw : wf (I 0)) (h : f_X4_needLad_x I x = 0) : vp_in x 6 := rg_lt ⟨hw.N, hw.Ne⟩ (rg_needLad h).1 (rg_needLad h).2
theorem rg_load {I : gI} {x : Int32} (hw : wf (I 0)) (h : f_X4_needLoad_x I x = 0) : vp_in x 10 := rg_lt ⟨hw.M, hw.Me⟩ (rg_needLoad h).1 (rg_needLoad h).2
theorem isN_1 : isN 1 400 := ⟨by decide, by decide⟩
theorem rg_mins {I : gI} {x b : Int32} {n : Nat} (hb : b = nI n) (hn : n ≤ 400) (h : f_X4_needMinutes_x I x b = 0) : isN x 400 := by
  unfold f_X4_needMinutes_x at h
  by_cases c1 : x < 1
  · rw [if_pos c1] at h; cases h
  · rw [if_neg c1] at h
    by_cases c2 : x ≤ b
    · have h0 : ¬ x < 0 := fun q => c1 (Int32.lt_trans q (by decide))
      obtain ⟨j, hj, rfl⟩ := nI_of h0
      subst hb
      refine isN_nI ?_ (by decide)
      rcases Nat.lt_or_ge n j with q | q
      · exact absurd c2 (nI_ge q hj)
      · omega
    · rw [if_neg c2] at h; cases h

def f_X4_come_x (I : gI) (x : Int32) : Nat :=
  if x < 1 then
    1
  else
    if x ≤ 9 then
      if (I 0 0 0 4) < 6 then
        let I1 := f_X3_addLad_s I 0 x
        0
      else
        2
    else
      1
def f_X4_come_v (I : gI) (x : Int32) : Int32 :=
  if x < 1 then
    0
  else
    if x ≤ 9 then
      if (I 0 0 0 4) < 6 then
        let I1 := f_X3_addLad_s I 0 x
        (f_X3_addLad_v I 0 x)
      else
        0
    else
      0
def f_X4_come_s (I : gI) (x : Int32) : gI :=
  if x < 1 then
    I
  else
    if x ≤ 9 then
      if (I 0 0 0 4) < 6 then
        let I1 := f_X3_addLad_s I 0 x
        I1
      else
        I
    else
      I
set_option maxHeartbeats 4000000 in
set_option maxRecDepth 100000 in
theorem m_X4_come (l : Launch) (E : gE) (J : Int64) (I : gI) (x : Int32) (hw0 : wf (I 0)) (hfl : l.stackTraces = false) : gXi l E J yX4_come cX4_come 2 (some .int) 6 82 1 [.ref (gA E 2 10 0), .int x] I (f_X4_come_x I x) (f_X4_come_v I x) (f_X4_come_s I x) := by
  refine g_entryX (lv := [(0, .ref (gA E 2 10 0)), (1, .int x)]) (by decide) (Nat.le_of_ble_eq_true rfl) rfl ?_
  intro p e s m below meth c0 ls K hG hS hml hr hlocks hout hl
  have K : kx E p m c0 cX4_come "HayThieves" _ s := K
  have hx := K.1
  have hb := K.2.1
  have hts := K.2.2.1
  have hown := K.2.2.2.1
  have hSt := K.2.2.2.2
  have hN := hw0.N
  have hM := hw0.M
  refine lv_iload_n hx hb dX4_come_0 rfl (lv_at hl 1 rfl) ?_
  refine lv_iconst (v := 1) hx hb dX4_come_1 (by decide) ?_
  refine lv_icmp_lt (tgt := 11) hx hb dX4_come_2 (by decide) (fun c1 => ?_) (fun c1 => ?_)
  · exact g_throw (text := "strength is not 1 to 9") K hfl gxk1 (by simp only [f_X4_come_x, if_pos c1]) (by decide) (by decide +kernel) hG hS (hl.1.trans hml.symm) dX4_come_11 dX4_come_14 dX4_come_15 dX4_come_17 dX4_come_20 hout ⟨by decide, Nat.le_of_ble_eq_true rfl, by decide, by decide⟩ hlocks (by decide) (by decide)
  · refine lv_iload_n hx hb dX4_come_5 rfl (lv_at hl 1 rfl) ?_
    refine lv_bipush (v := 9) hx hb dX4_come_6 (by decide) ?_
    refine lv_icmp_le (tgt := 21) hx hb dX4_come_8 (by decide) (fun c2 => ?_) (fun c2 => ?_)
    · refine lv_aload_n hx hb dX4_come_21 rfl (lv_at hl 0 rfl) ?_
      refine gf_X4_12 K hG rfl dX4_come_22 ?_
      refine gf_X4_26 K hG (gv0 (by decide)) dX4_come_25 ?_
      refine lv_bipush (v := 6) hx hb dX4_come_28 (by decide) ?_
      refine lv_icmp_lt (tgt := 43) hx hb dX4_come_30 (by decide) (fun c3 => ?_) (fun c3 => ?_)
      · refine lv_aload_n hx hb dX4_come_43 rfl (lv_at hl 0 rfl) ?_
        refine gf_X4_12 K hG rfl dX4_come_44 ?_
        refine lv_iload_n hx hb dX4_come_47 rfl (lv_at hl 1 rfl) ?_
        refine g_ki (g_runV (As := [.int x]) (rest := []) K hml ca_X3_addLad q611 (m_X3_addLad l E J I 0 x (by decide) hw0) hG hS (gv0 (by decide)) rfl rfl rfl rfl hl.1 (Nat.le_of_ble_eq_true rfl) ⟨by decide, by decide⟩ dX4_come_48 ⟨Nat.zero_le _, Nat.zero_le _⟩) hS (fun H locs hG hS => ?_)
        obtain ⟨I1, hI1⟩ : ∃ z, z = f_X3_addLad_s I 0 x := ⟨_, rfl⟩
        rw [← hI1] at hG
        have hw1_0 : wf (I1 0) := by rw [hI1]; exact wf_X3_addLad I 0 x (by decide) hw0
        have eS : I1 = (f_X4_come_s I x) := (by simp only [f_X4_come_s, ← hI1, if_neg c1, if_pos c2, if_pos c3])
        rw [eS] at hG
        exact g_iretX K hG hS hr hlocks (by simp only [f_X4_come_x, ← hI1, if_neg c1, if_pos c2, if_pos c3]) (by simp only [f_X4_come_v, ← hI1, if_neg c1, if_pos c2, if_pos c3]) (by decide) (by decide) dX4_come_51
      · exact g_throw (text := "there are 6 lads") K hfl gxk2 (by simp only [f_X4_come_x, if_neg c1, if_pos c2, if_neg c3]) (by decide) (by decide +kernel) hG hS (hl.1.trans hml.symm) dX4_come_33 dX4_come_36 dX4_come_37 dX4_come_39 dX4_come_42 hout ⟨by decide, Nat.le_of_ble_eq_true rfl, by decide, by decide⟩ hlocks (by decide) (by decide)
    · exact g_throw (text := "strength is not 1 to 9") K hfl gxk1 (by simp only [f_X4_come_x, if_neg c1, if_neg c2]) (by decide) (by decide +kernel) hG hS (hl.1.trans hml.symm) dX4_come_11 dX4_come_14 dX4_come_15 dX4_come_17 dX4_come_20 hout ⟨by decide, Nat.le_of_ble_eq_true rfl, by decide, by decide⟩ hlocks (by decide) (by decide)
def f_X4_setWay_x (I : gI) (x b : Int32) : Nat :=
  if f_X4_needLad_x I x = 0 then
    if b < 0 then
      3
    else
      if b < 3 then
        let I1 := gU I 0 1 x.toNatClampNeg 2 b
        0
      else
        3
  else
    f_X4_needLad_x I x
def f_X4_setWay_v (I : gI) (x b : Int32) : Int32 :=
  if f_X4_needLad_x I x = 0 then
    if b < 0 then
      0
    else
      if b < 3 then
        let I1 := gU I 0 1 x.toNatClampNeg 2 b
        (I 0 1 x.toNatClampNeg 2)
      else
        0
  else
    0
def f_X4_setWay_s (I : gI) (x b : Int32) : gI :=
  if f_X4_needLad_x I x = 0 then
    if b < 0 then
      I
    else
      if b < 3 then
        let I1 := gU I 0 1 x.toNatClampNeg 2 b
        I1
      else
        I
  else
    I
set_option maxHeartbeats 4000000 in
set_option maxRecDepth 100000 in
theorem m_X4_setWay (l : Launch) (E : gE) (J : Int64) (I : gI) (x b : Int32) (hw0 : wf (I 0)) (hfl : l.stackTraces = false) : gXi l E J yX4_setWay cX4_setWay 4 (some .int) 7 103 2 [.ref (gA E 2 10 0), .int x, .int b] I (f_X4_setWay_x I x b) (f_X4_setWay_v I x b) (f_X4_setWay_s I x b) := by
  refine g_entryX (lv := [(0, .ref (gA E 2 10 0)), (1, .int x), (2, .int b)]) (by decide) (Nat.le_of_ble_eq_true rfl) rfl ?_
  intro p e s m below meth c0 ls K hG hS hml hr hlocks hout hl
  have K : kx E p m c0 cX4_setWay "HayThieves" _ s := K
  have hx := K.1
  have hb := K.2.1
  have hts := K.2.2.1
  have hown := K.2.2.2.1
  have hSt := K.2.2.2.2
  have hN := hw0.N
  have hM := hw0.M
  refine lv_aload_n hx hb dX4_setWay_0 rfl (lv_at hl 0 rfl) ?_
  refine lv_iload_n hx hb dX4_setWay_1 rfl (lv_at hl 1 rfl) ?_
  refine g_kxv (g_runVX (As := [.int x]) (rest := []) K hml ca_X4_needLad q190 (m_X4_needLad l E J I x hw0 hfl) hG hS rfl rfl rfl rfl rfl hl.1 (Nat.le_of_ble_eq_true rfl) ⟨by decide, by decide⟩ dX4_setWay_2 ⟨by decide, by decide⟩) hS rfl (fun h9 => by simp only [f_X4_setWay_x, if_neg h9]) hout hlocks (by decide) (by decide) (fun c1 H locs hG hS => ?_)
  refine lv_iload_n hx hb dX4_setWay_5 rfl (lv_at hl 2 rfl) ?_
  refine lv_if_lt (tgt := 14) hx hb dX4_setWay_6 (by decide) (fun c2 => ?_) (fun c2 => ?_)
  · exact g_throw (text := "way is not 0 to 2") K hfl gxk3 (by simp only [f_X4_setWay_x, if_pos c1, if_pos c2]) (by decide) (by decide +kernel) hG hS (hl.1.trans hml.symm) dX4_setWay_14 dX4_setWay_17 dX4_setWay_18 dX4_setWay_20 dX4_setWay_23 hout ⟨by decide, Nat.le_of_ble_eq_true rfl, by decide, by decide⟩ hlocks (by decide) (by decide)
  · refine lv_iload_n hx hb dX4_setWay_9 rfl (lv_at hl 2 rfl) ?_
    refine lv_iconst (v := 3) hx hb dX4_setWay_10 (by decide) ?_
    refine lv_icmp_lt (tgt := 24) hx hb dX4_setWay_11 (by decide) (fun c3 => ?_) (fun c3 => ?_)
    · refine lv_aload_n hx hb dX4_setWay_24 rfl (lv_at hl 0 rfl) ?_
      refine gf_X4_12 K hG rfl dX4_setWay_25 ?_
      refine gf_X4_48 K hG (gv0 (by decide)) dX4_setWay_28 ?_
      refine lv_iload_n hx hb dX4_setWay_31 rfl (lv_at hl 1 rfl) ?_
      refine g_lads K hG (gv7 (by decide)) (rg_lad hw0 c1) dX4_setWay_32 ?_
      refine gf_X4_52 K hG (gv1 (by decide) (vp_lt (rg_lad hw0 c1))) dX4_setWay_33 ?_
      refine lv_istore_n (lv' := [(3, .int (I 0 1 x.toNatClampNeg 2)), (0, .ref (gA E 2 10 0)), (1, .int x), (2, .int b)]) hx hb dX4_setWay_36 rfl hl (by decide) rfl (fun ls hl => ?_)
      refine lv_aload_n hx hb dX4_setWay_37 rfl (lv_at hl 1 rfl) ?_
      refine gf_X4_12 K hG rfl dX4_setWay_38 ?_
      refine gf_X4_48 K hG (gv0 (by decide)) dX4_setWay_41 ?_
      refine lv_iload_n hx hb dX4_setWay_44 rfl (lv_at hl 2 rfl) ?_
      refine g_lads K hG (gv7 (by decide)) (rg_lad hw0 c1) dX4_setWay_45 ?_
      refine lv_iload_n hx hb dX4_setWay_46 rfl (lv_at hl 3 rfl) ?_
      refine pf_X4_52 K hG hS (gv1 (by decide) (vp_lt (rg_lad hw0 c1))) dX4_setWay_47 (fun I1 hI1 H locs hG hS => ?_)
      have hw1_0 : wf (I1 0) := by rw [hI1]; exact wf_gU rfl hw0
      refine lv_iload_n hx hb dX4_setWay_50 rfl (lv_at hl 0 rfl) ?_
      have eS : I1 = (f_X4_setWay_s I x b) := (by simp only [f_X4_setWay_s, ← hI1, if_pos c1, if_neg c2, if_pos c3])
      rw [eS] at hG
      exact g_iretX K hG hS hr hlocks (by simp only [f_X4_setWay_x, ← hI1, if_pos c1, if_neg c2, if_pos c3]) (by simp only [f_X4_setWay_v, ← hI1, if_pos c1, if_neg c2, if_pos c3]) (by decide) (by decide) dX4_setWay_51
    · exact g_throw (text := "way is not 0 to 2") K hfl gxk3 (by simp only [f_X4_setWay_x, if_pos c1, if_neg c2, if_neg c3]) (by decide) (by decide +kernel) hG hS (hl.1.trans hml.symm) dX4_setWay_14 dX4_setWay_17 dX4_setWay_18 dX4_setWay_20 dX4_setWay_23 hout ⟨by decide, Nat.le_of_ble_eq_true rfl, by decide, by decide⟩ hlocks (by decide) (by decide)
def f_X4_setFork_x (I : gI) (x : Int32) : Nat :=
  if x < 4 then
    1
  else
    if x ≤ 60 then
      let I1 := gU I 0 0 0 7 x
      0
    else
      1
def f_X4_setFork_v (I : gI) (x : Int32) : Int32 :=
  if x < 4 then
    0
  else
    if x ≤ 60 then
      let I1 := gU I 0 0 0 7 x
      (I 0 0 0 7)
    else
      0
def f_X4_setFork_s (I : gI) (x : Int32) : gI :=
  if x < 4 then
    I
  else
    if x ≤ 60 then
      let I1 := gU I 0 0 0 7 x
      I1
    else
      I
set_option maxHeartbeats 4000000 in
set_option maxRecDepth 100000 in
theorem m_X4_setFork (l : Launch) (E : gE) (J : Int64) (I : gI) (x : Int32) (hw0 : wf (I 0)) (hfl : l.stackTraces = false) : gXi l E J yX4_setFork cX4_setFork 3 (some .int) 6 82 1 [.ref (gA E 2 10 0), .int x] I (f_X4_setFork_x I x) (f_X4_setFork_v I x) (f_X4_setFork_s I x) := by
  refine g_entryX (lv := [(0, .ref (gA E 2 10 0)), (1, .int x)]) (by decide) (Nat.le_of_ble_eq_true rfl) rfl ?_
  intro p e s m below meth c0 ls K hG hS hml hr hlocks hout hl
  have K : kx E p m c0 cX4_setFork "HayThieves" _ s := K
  have hx := K.1
  have hb := K.2.1
  have hts := K.2.2.1
  have hown := K.2.2.2.1
  have hSt := K.2.2.2.2
  have hN := hw0.N
  have hM := hw0.M
  refine lv_iload_n hx hb dX4_setFork_0 rfl (lv_at hl 1 rfl) ?_
  refine lv_iconst (v := 4) hx hb dX4_setFork_1 (by decide) ?_
  refine lv_icmp_lt (tgt := 11) hx hb dX4_setFork_2 (by decide) (fun c1 => ?_) (fun c1 => ?_)
  · exact g_throw (text := "size is not 4 to 60") K hfl gxk1 (by simp only [f_X4_setFork_x, if_pos c1]) (by decide) (by decide +kernel) hG hS (hl.1.trans hml.symm) dX4_setFork_11 dX4_setFork_14 dX4_setFork_15 dX4_setFork_17 dX4_setFork_20 hout ⟨by decide, Nat.le_of_ble_eq_true rfl, by decide, by decide⟩ hlocks (by decide) (by decide)
  · refine lv_iload_n hx hb dX4_setFork_5 rfl (lv_at hl 1 rfl) ?_
    refine lv_bipush (v := 60) hx hb dX4_setFork_6 (by decide) ?_
    refine lv_icmp_le (tgt := 21) hx hb dX4_setFork_8 (by decide) (fun c2 => ?_) (fun c2 => ?_)
    · refine lv_aload_n hx hb dX4_setFork_21 rfl (lv_at hl 0 rfl) ?_
      refine gf_X4_12 K hG rfl dX4_setFork_22 ?_
      refine gf_X4_59 K hG (gv0 (by decide)) dX4_setFork_25 ?_
      refine lv_istore_n (lv' := [(2, .int (I 0 0 0 7)), (0, .ref (gA E 2 10 0)), (1, .int x)]) hx hb dX4_setFork_28 rfl hl (by decide) rfl (fun ls hl => ?_)
      refine lv_aload_n hx hb dX4_setFork_29 rfl (lv_at hl 1 rfl) ?_
      refine gf_X4_12 K hG rfl dX4_setFork_30 ?_
      refine lv_iload_n hx hb dX4_setFork_33 rfl (lv_at hl 2 rfl) ?_
      refine pf_X4_59 K hG hS (gv0 (by decide)) dX4_setFork_34 (fun I1 hI1 H locs hG hS => ?_)
      have hw1_0 : wf (I1 0) := by rw [hI1]; exact wf_gU rfl hw0
      refine lv_iload_n hx hb dX4_setFork_37 rfl (lv_at hl 0 rfl) ?_
      have eS : I1 = (f_X4_setFork_s I x) := (by simp only [f_X4_setFork_s, ← hI1, if_neg c1, if_pos c2])
      rw [eS] at hG
      exact g_iretX K hG hS hr hlocks (by simp only [f_X4_setFork_x, ← hI1, if_neg c1, if_pos c2]) (by simp only [f_X4_setFork_v, ← hI1, if_neg c1, if_pos c2]) (by decide) (by decide) dX4_setFork_38
    · exact g_throw (text := "size is not 4 to 60") K hfl gxk1 (by simp only [f_X4_setFork_x, if_neg c1, if_neg c2]) (by decide) (by decide +kernel) hG hS (hl.1.trans hml.symm) dX4_setFork_11 dX4_setFork_14 dX4_setFork_15 dX4_setFork_17 dX4_setFork_20 hout ⟨by decide, Nat.le_of_ble_eq_true rfl, by decide, by decide⟩ hlocks (by decide) (by decide)
def f_X4_bring_x (I : gI) (x : Int32) : Nat :=
  if x < 1 then
    1
  else
    if x ≤ 60 then
      if (I 0 0 0 5) < 10 then
        let I1 := f_X3_addLoad_s I 0 x
        0
      else
        2
    else
      1
def f_X4_bring_v (I : gI) (x : Int32) : Int32 :=
  if x < 1 then
    0
  else
    if x ≤ 60 then
      if (I 0 0 0 5) < 10 then
        let I1 := f_X3_addLoad_s I 0 x
        (f_X3_addLoad_v I 0 x)
      else
        0
    else
      0
def f_X4_bring_s (I : gI) (x : Int32) : gI :=
  if x < 1 then
    I
  else
    if x ≤ 60 then
      if (I 0 0 0 5) < 10 then
        let I1 := f_X3_addLoad_s I 0 x
        I1
      else
        I
    else
      I
set_option maxHeartbeats 4000000 in
set_option maxRecDepth 100000 in
theorem m_X4_bring (l : Launch) (E : gE) (J : Int64) (I : gI) (x : Int32) (hw0 : wf (I 0)) (hfl : l.stackTraces = false) : gXi l E J yX4_bring cX4_bring 2 (some .int) 6 82 1 [.ref (gA E 2 10 0), .int x] I (f_X4_bring_x I x) (f_X4_bring_v I x) (f_X4_bring_s I x) := by
  refine g_entryX (lv := [(0, .ref (gA E 2 10 0)), (1, .int x)]) (by decide) (Nat.le_of_ble_eq_true rfl) rfl ?_
  intro p e s m below meth c0 ls K hG hS hml hr hlocks hout hl
  have K : kx E p m c0 cX4_bring "HayThieves" _ s := K
  have hx := K.1
  have hb := K.2.1
  have hts := K.2.2.1
  have hown := K.2.2.2.1
  have hSt := K.2.2.2.2
  have hN := hw0.N
  have hM := hw0.M
  refine lv_iload_n hx hb dX4_bring_0 rfl (lv_at hl 1 rfl) ?_
  refine lv_iconst (v := 1) hx hb dX4_bring_1 (by decide) ?_
  refine lv_icmp_lt (tgt := 11) hx hb dX4_bring_2 (by decide) (fun c1 => ?_) (fun c1 => ?_)
  · exact g_throw (text := "bales is not 1 to 60") K hfl gxk1 (by simp only [f_X4_bring_x, if_pos c1]) (by decide) (by decide +kernel) hG hS (hl.1.trans hml.symm) dX4_bring_11 dX4_bring_14 dX4_bring_15 dX4_bring_17 dX4_bring_20 hout ⟨by decide, Nat.le_of_ble_eq_true rfl, by decide, by decide⟩ hlocks (by decide) (by decide)
  · refine lv_iload_n hx hb dX4_bring_5 rfl (lv_at hl 1 rfl) ?_
    refine lv_bipush (v := 60) hx hb dX4_bring_6 (by decide) ?_
    refine lv_icmp_le (tgt := 21) hx hb dX4_bring_8 (by decide) (fun c2 => ?_) (fun c2 => ?_)
    · refine lv_aload_n hx hb dX4_bring_21 rfl (lv_at hl 0 rfl) ?_
      refine gf_X4_12 K hG rfl dX4_bring_22 ?_
      refine gf_X4_64 K hG (gv0 (by decide)) dX4_bring_25 ?_
      refine lv_bipush (v := 10) hx hb dX4_bring_28 (by decide) ?_
      refine lv_icmp_lt (tgt := 43) hx hb dX4_bring_30 (by decide) (fun c3 => ?_) (fun c3 => ?_)
      · refine lv_aload_n hx hb dX4_bring_43 rfl (lv_at hl 0 rfl) ?_
        refine gf_X4_12 K hG rfl dX4_bring_44 ?_
        refine lv_iload_n hx hb dX4_bring_47 rfl (lv_at hl 1 rfl) ?_
        refine g_ki (g_runV (As := [.int x]) (rest := []) K hml ca_X3_addLoad q625 (m_X3_addLoad l E J I 0 x (by decide) hw0) hG hS (gv0 (by decide)) rfl rfl rfl rfl hl.1 (Nat.le_of_ble_eq_true rfl) ⟨by decide, by decide⟩ dX4_bring_48 ⟨Nat.zero_le _, Nat.zero_le _⟩) hS (fun H locs hG hS => ?_)
        obtain ⟨I1, hI1⟩ : ∃ z, z = f_X3_addLoad_s I 0 x := ⟨_, rfl⟩
        rw [← hI1] at hG
        have hw1_0 : wf (I1 0) := by rw [hI1]; exact wf_X3_addLoad I 0 x (by decide) hw0
        have eS : I1 = (f_X4_bring_s I x) := (by simp only [f_X4_bring_s, ← hI1, if_neg c1, if_pos c2, if_pos c3])
        rw [eS] at hG
        exact g_iretX K hG hS hr hlocks (by simp only [f_X4_bring_x, ← hI1, if_neg c1, if_pos c2, if_pos c3]) (by simp only [f_X4_bring_v, ← hI1, if_neg c1, if_pos c2, if_pos c3]) (by decide) (by decide) dX4_bring_51
      · exact g_throw (text := "there were 10 loads") K hfl gxk2 (by simp only [f_X4_bring_x, if_neg c1, if_pos c2, if_neg c3]) (by decide) (by decide +kernel) hG hS (hl.1.trans hml.symm) dX4_bring_33 dX4_bring_36 dX4_bring_37 dX4_bring_39 dX4_bring_42 hout ⟨by decide, Nat.le_of_ble_eq_true rfl, by decide, by decide⟩ hlocks (by decide) (by decide)
    · exact g_throw (text := "bales is not 1 to 60") K hfl gxk1 (by simp only [f_X4_bring_x, if_neg c1, if_neg c2]) (by decide) (by decide +kernel) hG hS (hl.1.trans hml.symm) dX4_bring_11 dX4_bring_14 dX4_bring_15 dX4_bring_17 dX4_bring_20 hout ⟨by decide, Nat.le_of_ble_eq_true rfl, by decide, by decide⟩ hlocks (by decide) (by decide)
def f_X4_swap_x (I : gI) (x b : Int32) : Nat :=
  if f_X4_needLad_x I x = 0 then
    if f_X4_needLad_x I b = 0 then
      if x = b then
        1
      else
        let I1 := gU I 0 1 x.toNatClampNeg 3 (I 0 1 b.toNatClampNeg 3)
        let I2 := gU I1 0 1 b.toNatClampNeg 3 (I 0 1 x.toNatClampNeg 3)
        0
    else
      f_X4_needLad_x I b
  else
    f_X4_needLad_x I x
def f_X4_swap_v (I : gI) (x b : Int32) : Int32 :=
  if f_X4_needLad_x I x = 0 then
    if f_X4_needLad_x I b = 0 then
      if x = b then
        0
      else
        let I1 := gU I 0 1 x.toNatClampNeg 3 (I 0 1 b.toNatClampNeg 3)
        let I2 := gU I1 0 1 b.toNatClampNeg 3 (I 0 1 x.toNatClampNeg 3)
        (I2 0 2 ((I2 0 1 x.toNatClampNeg 3).toNatClampNeg) 1)
    else
      0
  else
    0
def f_X4_swap_s (I : gI) (x b : Int32) : gI :=
  if f_X4_needLad_x I x = 0 then
    if f_X4_needLad_x I b = 0 then
      if x = b then
        I
      else
        let I1 := gU I 0 1 x.toNatClampNeg 3 (I 0 1 b.toNatClampNeg 3)
        let I2 := gU I1 0 1 b.toNatClampNeg 3 (I 0 1 x.toNatClampNeg 3)
        I2
    else
      I
  else
    I
set_option maxHeartbeats 4000000 in
set_option maxRecDepth 100000 in
theorem m_X4_swap (l : Launch) (E : gE) (J : Int64) (I : gI) (x b : Int32) (hw0 : wf (I 0)) (hfl : l.stackTraces = false) : gXi l E J yX4_swap cX4_swap 4 (some .int) 7 103 3 [.ref (gA E 2 10 0), .int x, .int b] I (f_X4_swap_x I x b) (f_X4_swap_v I x b) (f_X4_swap_s I x b) := by
  refine g_entryX (lv := [(0, .ref (gA E 2 10 0)), (1, .int x), (2, .int b)]) (by decide) (Nat.le_of_ble_eq_true rfl) rfl ?_
  intro p e s m below meth c0 ls K hG hS hml hr hlocks hout hl
  have K : kx E p m c0 cX4_swap "HayThieves" _ s := K
  have hx := K.1
  have hb := K.2.1
  have hts := K.2.2.1
  have hown := K.2.2.2.1
  have hSt := K.2.2.2.2
  have hN := hw0.N
  have hM := hw0.M
  refine lv_aload_n hx hb dX4_swap_0 rfl (lv_at hl 0 rfl) ?_
  refine lv_iload_n hx hb dX4_swap_1 rfl (lv_at hl 1 rfl) ?_
  refine g_kxv (g_runVX (As := [.int x]) (rest := []) K hml ca_X4_needLad q190 (m_X4_needLad l E J I x hw0 hfl) hG hS rfl rfl rfl rfl rfl hl.1 (Nat.le_of_ble_eq_true rfl) ⟨by decide, by decide⟩ dX4_swap_2 ⟨by decide, by decide⟩) hS rfl (fun h9 => by simp only [f_X4_swap_x, if_neg h9]) hout hlocks (by decide) (by decide) (fun c1 H locs hG hS => ?_)
  refine lv_aload_n hx hb dX4_swap_5 rfl (lv_at hl 0 rfl) ?_
  refine lv_iload_n hx hb dX4_swap_6 rfl (lv_at hl 2 rfl) ?_
  refine g_kxv (g_runVX (As := [.int b]) (rest := []) K hml ca_X4_needLad q190 (m_X4_needLad l E J I b hw0 hfl) hG hS rfl rfl rfl rfl rfl hl.1 (Nat.le_of_ble_eq_true rfl) ⟨by decide, by decide⟩ dX4_swap_7 ⟨by decide, by decide⟩) hS rfl (fun h9 => by simp only [f_X4_swap_x, if_pos c1, if_neg h9]) hout hlocks (by decide) (by decide) (fun c2 H locs hG hS => ?_)
  refine lv_iload_n hx hb dX4_swap_10 rfl (lv_at hl 1 rfl) ?_
  refine lv_iload_n hx hb dX4_swap_11 rfl (lv_at hl 2 rfl) ?_
  refine lv_icmp_ne (tgt := 25) hx hb dX4_swap_12 (by decide) (fun c3 => ?_) (fun c3 => ?_)
  · refine lv_aload_n hx hb dX4_swap_25 rfl (lv_at hl 0 rfl) ?_
    refine gf_X4_12 K hG rfl dX4_swap_26 ?_
    refine gf_X4_48 K hG (gv0 (by decide)) dX4_swap_29 ?_
    refine lv_iload_n hx hb dX4_swap_32 rfl (lv_at hl 1 rfl) ?_
    refine g_lads K hG (gv7 (by decide)) (rg_lad hw0 c1) dX4_swap_33 ?_
    refine gf_X4_74 K hG (gv1 (by decide) (vp_lt (rg_lad hw0 c1))) dX4_swap_34 ?_
    refine lv_astore_n (lv' := [(3, .ref (gA E 0 2 ((I 0 1 x.toNatClampNeg 3).toNatClampNeg))), (0, .ref (gA E 2 10 0)), (1, .int x), (2, .int b)]) hx hb dX4_swap_37 rfl hl (by decide) rfl (fun ls hl => ?_)
    refine lv_aload_n hx hb dX4_swap_38 rfl (lv_at hl 1 rfl) ?_
    refine gf_X4_12 K hG rfl dX4_swap_39 ?_
    refine gf_X4_48 K hG (gv0 (by decide)) dX4_swap_42 ?_
    refine lv_iload_n hx hb dX4_swap_45 rfl (lv_at hl 2 rfl) ?_
    refine g_lads K hG (gv7 (by decide)) (rg_lad hw0 c1) dX4_swap_46 ?_
    refine lv_aload_n hx hb dX4_swap_47 rfl (lv_at hl 1 rfl) ?_
    refine gf_X4_12 K hG rfl dX4_swap_48 ?_
    refine gf_X4_48 K hG (gv0 (by decide)) dX4_swap_51 ?_
    refine lv_iload_n hx hb dX4_swap_54 rfl (lv_at hl 3 rfl) ?_
    refine g_lads K hG (gv7 (by decide)) (rg_lad hw0 c2) dX4_swap_55 ?_
    refine gf_X4_74 K hG (gv1 (by decide) (vp_lt (rg_lad hw0 c2))) dX4_swap_56 ?_
    refine pf_X4_74 K hG hS (gv1 (by decide) (vp_lt (rg_lad hw0 c1))) dX4_swap_59 (fun I1 hI1 H locs hG hS => ?_)
    have hw1_0 : wf (I1 0) := by rw [hI1]; exact wf_cart (hw0.cart (vp_lt (rg_lad hw0 c2))) hw0
    refine lv_aload_n hx hb dX4_swap_62 rfl (lv_at hl 1 rfl) ?_
    refine gf_X4_12 K hG rfl dX4_swap_63 ?_
    refine gf_X4_48 K hG (gv0 (by decide)) dX4_swap_66 ?_
    refine lv_iload_n hx hb dX4_swap_69 rfl (lv_at hl 3 rfl) ?_
    refine g_lads K hG (gv7 (by decide)) (rg_lad hw0 c2) dX4_swap_70 ?_
    refine lv_aload_n hx hb dX4_swap_71 rfl (lv_at hl 0 rfl) ?_
    refine pf_X4_74 K hG hS (gv1 (by decide) (vp_lt (rg_lad hw0 c2))) dX4_swap_72 (fun I2 hI2 H locs hG hS => ?_)
    have hw2_0 : wf (I2 0) := by rw [hI2]; exact wf_cart (hw0.cart (vp_lt (rg_lad hw0 c1))) hw1_0
    refine lv_aload_n hx hb dX4_swap_75 rfl (lv_at hl 1 rfl) ?_
    refine gf_X4_12 K hG rfl dX4_swap_76 ?_
    refine gf_X4_48 K hG (gv0 (by decide)) dX4_swap_79 ?_
    refine lv_iload_n hx hb dX4_swap_82 rfl (lv_at hl 2 rfl) ?_
    refine g_lads K hG (gv7 (by decide)) (rg_lad hw0 c1) dX4_swap_83 ?_
    refine gf_X4_74 K hG (gv1 (by decide) (vp_lt (rg_lad hw0 c1))) dX4_swap_84 ?_
    refine gf_X4_78 K hG (gv2 (by decide) (hw2_0.cart (vp_lt (rg_lad hw0 c1)))) dX4_swap_87 ?_
    have eS : I2 = (f_X4_swap_s I x b) := (by simp only [f_X4_swap_s, ← hI1, ← hI2, if_pos c1, if_pos c2, if_neg c3])
    rw [eS] at hG
    exact g_iretX K hG hS hr hlocks (by simp only [f_X4_swap_x, ← hI1, ← hI2, if_pos c1, if_pos c2, if_neg c3]) (by simp only [f_X4_swap_v, ← hI1, ← hI2, if_pos c1, if_pos c2, if_neg c3]) (by decide) (by decide) dX4_swap_90
  · exact g_throw (text := "both lads are the same") K hfl gxk1 (by simp only [f_X4_swap_x, if_pos c1, if_pos c2, if_pos c3]) (by decide) (by decide +kernel) hG hS (hl.1.trans hml.symm) dX4_swap_15 dX4_swap_18 dX4_swap_19 dX4_swap_21 dX4_swap_24 hout ⟨by decide, Nat.le_of_ble_eq_true rfl, by decide, by decide⟩ hlocks (by decide) (by decide)
def f_X4_wake_x (I : gI) (x : Int32) : Nat :=
  if f_X4_needLad_x I x = 0 then
    if (I 0 1 x.toNatClampNeg 7) = 0 then
      2
    else
      let I1 := gU I 0 1 x.toNatClampNeg 7 0
      0
  else
    f_X4_needLad_x I x
def f_X4_wake_v (I : gI) (x : Int32) : Int32 :=
  if f_X4_needLad_x I x = 0 then
    if (I 0 1 x.toNatClampNeg 7) = 0 then
      0
    else
      let I1 := gU I 0 1 x.toNatClampNeg 7 0
      (f_X3_sleepers I1 0)
  else
    0
def f_X4_wake_s (I : gI) (x : Int32) : gI :=
  if f_X4_needLad_x I x = 0 then
    if (I 0 1 x.toNatClampNeg 7) = 0 then
      I
    else
      let I1 := gU I 0 1 x.toNatClampNeg 7 0
      I1
  else
    I
set_option maxHeartbeats 4000000 in
set_option maxRecDepth 100000 in
theorem m_X4_wake (l : Launch) (E : gE) (J : Int64) (I : gI) (x : Int32) (hw0 : wf (I 0)) (hfl : l.stackTraces = false) : gXi l E J yX4_wake cX4_wake 2 (some .int) 7 103 2 [.ref (gA E 2 10 0), .int x] I (f_X4_wake_x I x) (f_X4_wake_v I x) (f_X4_wake_s I x) := by
  refine g_entryX (lv := [(0, .ref (gA E 2 10 0)), (1, .int x)]) (by decide) (Nat.le_of_ble_eq_true rfl) rfl ?_
  intro p e s m below meth c0 ls K hG hS hml hr hlocks hout hl
  have K : kx E p m c0 cX4_wake "HayThieves" _ s := K
  have hx := K.1
  have hb := K.2.1
  have hts := K.2.2.1
  have hown := K.2.2.2.1
  have hSt := K.2.2.2.2
  have hN := hw0.N
  have hM := hw0.M
  refine lv_aload_n hx hb dX4_wake_0 rfl (lv_at hl 0 rfl) ?_
  refine lv_iload_n hx hb dX4_wake_1 rfl (lv_at hl 1 rfl) ?_
  refine g_kxv (g_runVX (As := [.int x]) (rest := []) K hml ca_X4_needLad q190 (m_X4_needLad l E J I x hw0 hfl) hG hS rfl rfl rfl rfl rfl hl.1 (Nat.le_of_ble_eq_true rfl) ⟨by decide, by decide⟩ dX4_wake_2 ⟨by decide, by decide⟩) hS rfl (fun h9 => by simp only [f_X4_wake_x, if_neg h9]) hout hlocks (by decide) (by decide) (fun c1 H locs hG hS => ?_)
  refine lv_aload_n hx hb dX4_wake_5 rfl (lv_at hl 0 rfl) ?_
  refine gf_X4_12 K hG rfl dX4_wake_6 ?_
  refine gf_X4_48 K hG (gv0 (by decide)) dX4_wake_9 ?_
  refine lv_iload_n hx hb dX4_wake_12 rfl (lv_at hl 1 rfl) ?_
  refine g_lads K hG (gv7 (by decide)) (rg_lad hw0 c1) dX4_wake_13 ?_
  refine gf_X4_83 K hG (gv1 (by decide) (vp_lt (rg_lad hw0 c1))) dX4_wake_14 ?_
  refine lv_if_ne (tgt := 30) hx hb dX4_wake_17 (by decide) (fun c2 => ?_) (fun c2 => ?_)
  · refine lv_aload_n hx hb dX4_wake_30 rfl (lv_at hl 0 rfl) ?_
    refine gf_X4_12 K hG rfl dX4_wake_31 ?_
    refine gf_X4_48 K hG (gv0 (by decide)) dX4_wake_34 ?_
    refine lv_iload_n hx hb dX4_wake_37 rfl (lv_at hl 1 rfl) ?_
    refine g_lads K hG (gv7 (by decide)) (rg_lad hw0 c1) dX4_wake_38 ?_
    refine lv_iconst (v := 0) hx hb dX4_wake_39 (by decide) ?_
    refine pf_X4_83 K hG hS (gv1 (by decide) (vp_lt (rg_lad hw0 c1))) gz0 dX4_wake_40 (fun I1 hI1 H locs hG hS => ?_)
    have hw1_0 : wf (I1 0) := by rw [hI1]; exact wf_gU rfl hw0
    refine lv_aload_n hx hb dX4_wake_43 rfl (lv_at hl 0 rfl) ?_
    refine gf_X4_12 K hG rfl dX4_wake_44 ?_
    refine g_ki (g_runV (As := []) (rest := []) K hml ca_X3_sleepers q652 (m_X3_sleepers l E J I1 0 (by decide) hw1_0) hG hS (gv0 (by decide)) rfl rfl rfl rfl hl.1 (Nat.le_of_ble_eq_true rfl) ⟨by decide, by decide⟩ dX4_wake_47 ⟨by decide, by decide⟩) hS (fun H locs hG hS => ?_)
    have eS : I1 = (f_X4_wake_s I x) := (by simp only [f_X4_wake_s, ← hI1, if_pos c1, if_neg c2])
    rw [eS] at hG
    exact g_iretX K hG hS hr hlocks (by simp only [f_X4_wake_x, ← hI1, if_pos c1, if_neg c2]) (by simp only [f_X4_wake_v, ← hI1, if_pos c1, if_neg c2]) (by decide) (by decide) dX4_wake_50
  · exact g_throw (text := "this lad does not sleep") K hfl gxk2 (by simp only [f_X4_wake_x, if_pos c1, if_pos c2]) (by decide) (by decide +kernel) hG hS (hl.1.trans hml.symm) dX4_wake_20 dX4_wake_23 dX4_wake_24 dX4_wake_26 dX4_wake_29 hout ⟨by decide, Nat.le_of_ble_eq_true rfl, by decide, by decide⟩ hlocks (by decide) (by decide)
def f_X4_lad_x (I : gI) (x b : Int32) : Nat :=
  if f_X4_needLad_x I x = 0 then
    if b < 0 then
      3
    else
      if b < 9 then
        0
      else
        3
  else
    f_X4_needLad_x I x
def f_X4_lad (I : gI) (x b : Int32) : Int32 :=
  if f_X4_needLad_x I x = 0 then
    if b < 0 then
      0
    else
      if b < 9 then
        (f_X1_tell I 0 x.toNatClampNeg b)
      else
        0
  else
    0
set_option maxHeartbeats 4000000 in
set_option maxRecDepth 100000 in
theorem m_X4_lad (l : Launch) (E : gE) (J : Int64) (I : gI) (x b : Int32) (hw0 : wf (I 0)) (hfl : l.stackTraces = false) : gXi l E J yX4_lad cX4_lad 3 (some .int) 7 103 2 [.ref (gA E 2 10 0), .int x, .int b] I (f_X4_lad_x I x b) (f_X4_lad I x b) I := by
  refine g_entryX (lv := [(0, .ref (gA E 2 10 0)), (1, .int x), (2, .int b)]) (by decide) (Nat.le_of_ble_eq_true rfl) rfl ?_
  intro p e s m below meth c0 ls K hG hS hml hr hlocks hout hl
  have K : kx E p m c0 cX4_lad "HayThieves" _ s := K
  have hx := K.1
  have hb := K.2.1
  have hts := K.2.2.1
  have hown := K.2.2.2.1
  have hSt := K.2.2.2.2
  have hN := hw0.N
  have hM := hw0.M
  refine lv_aload_n hx hb dX4_lad_0 rfl (lv_at hl 0 rfl) ?_
  refine lv_iload_n hx hb dX4_lad_1 rfl (lv_at hl 1 rfl) ?_
  refine g_kxv (g_runVX (As := [.int x]) (rest := []) K hml ca_X4_needLad q190 (m_X4_needLad l E J I x hw0 hfl) hG hS rfl rfl rfl rfl rfl hl.1 (Nat.le_of_ble_eq_true rfl) ⟨by decide, by decide⟩ dX4_lad_2 ⟨by decide, by decide⟩) hS rfl (fun h9 => by simp only [f_X4_lad_x, if_neg h9]) hout hlocks (by decide) (by decide) (fun c1 H locs hG hS => ?_)
  refine lv_iload_n hx hb dX4_lad_5 rfl (lv_at hl 2 rfl) ?_
  refine lv_if_lt (tgt := 15) hx hb dX4_lad_6 (by decide) (fun c2 => ?_) (fun c2 => ?_)
  · exact g_throw (text := "what is not 0 to 8") K hfl gxk3 (by simp only [f_X4_lad_x, if_pos c1, if_pos c2]) (by decide) (by decide +kernel) hG hS (hl.1.trans hml.symm) dX4_lad_15 dX4_lad_18 dX4_lad_19 dX4_lad_21 dX4_lad_24 hout ⟨by decide, Nat.le_of_ble_eq_true rfl, by decide, by decide⟩ hlocks (by decide) (by decide)
  · refine lv_iload_n hx hb dX4_lad_9 rfl (lv_at hl 2 rfl) ?_
    refine lv_bipush (v := 9) hx hb dX4_lad_10 (by decide) ?_
    refine lv_icmp_lt (tgt := 25) hx hb dX4_lad_12 (by decide) (fun c3 => ?_) (fun c3 => ?_)
    · refine lv_aload_n hx hb dX4_lad_25 rfl (lv_at hl 0 rfl) ?_
      refine gf_X4_12 K hG rfl dX4_lad_26 ?_
      refine gf_X4_48 K hG (gv0 (by decide)) dX4_lad_29 ?_
      refine lv_iload_n hx hb dX4_lad_32 rfl (lv_at hl 1 rfl) ?_
      refine g_lads K hG (gv7 (by decide)) (rg_lad hw0 c1) dX4_lad_33 ?_
      refine lv_iload_n hx hb dX4_lad_34 rfl (lv_at hl 2 rfl) ?_
      refine g_ki (g_runV (As := [.int b]) (rest := []) K hml ca_X1_tell q263 (m_X1_tell l E J I 0 x.toNatClampNeg b (by decide) (vp_lt (rg_lad hw0 c1)) hw0) hG hS (gv1 (by decide) (vp_lt (rg_lad hw0 c1))) rfl rfl rfl rfl hl.1 (Nat.le_of_ble_eq_true rfl) ⟨by decide, by decide⟩ dX4_lad_35 ⟨by decide, by decide⟩) hS (fun H locs hG hS => ?_)
      exact g_iretX K hG hS hr hlocks (by simp only [f_X4_lad_x, if_pos c1, if_neg c2, if_pos c3]) (by simp only [f_X4_lad, if_pos c1, if_neg c2, if_pos c3]) (by decide) (by decide) dX4_lad_38
    · exact g_throw (text := "what is not 0 to 8") K hfl gxk3 (by simp only [f_X4_lad_x, if_pos c1, if_neg c2, if_neg c3]) (by decide) (by decide +kernel) hG hS (hl.1.trans hml.symm) dX4_lad_15 dX4_lad_18 dX4_lad_19 dX4_lad_21 dX4_lad_24 hout ⟨by decide, Nat.le_of_ble_eq_true rfl, by decide, by decide⟩ hlocks (by decide) (by decide)
def f_X4_cart_x (I : gI) (x b : Int32) : Nat :=
  if f_X4_needLad_x I x = 0 then
    if b < 0 then
      3
    else
      if b < (I 0 2 ((I 0 1 x.toNatClampNeg 3).toNatClampNeg) 1) then
        0
      else
        3
  else
    f_X4_needLad_x I x
def f_X4_cart (I : gI) (x b : Int32) : Int32 :=
  if f_X4_needLad_x I x = 0 then
    if b < 0 then
      0
    else
      if b < (I 0 2 ((I 0 1 x.toNatClampNeg 3).toNatClampNeg) 1) then
        (f_X3_balesOf I 0 (f_X0_heapAt I 0 ((I 0 1 x.toNatClampNeg 3).toNatClampNeg) b))
      else
        0
  else
    0
set_option maxHeartbeats 4000000 in
set_option maxRecDepth 100000 in
theorem m_X4_cart (l : Launch) (E : gE) (J : Int64) (I : gI) (x b : Int32) (hw0 : wf (I 0)) (hfl : l.stackTraces = false) : gXi l E J yX4_cart cX4_cart 3 (some .int) 7 103 2 [.ref (gA E 2 10 0), .int x, .int b] I (f_X4_cart_x I x b) (f_X4_cart I x b) I := by
  refine g_entryX (lv := [(0, .ref (gA E 2 10 0)), (1, .int x), (2, .int b)]) (by decide) (Nat.le_of_ble_eq_true rfl) rfl ?_
  intro p e s m below meth c0 ls K hG hS hml hr hlocks hout hl
  have K : kx E p m c0 cX4_cart "HayThieves" _ s := K
  have hx := K.1
  have hb := K.2.1
  have hts := K.2.2.1
  have hown := K.2.2.2.1
  have hSt := K.2.2.2.2
  have hN := hw0.N
  have hM := hw0.M
  refine lv_aload_n hx hb dX4_cart_0 rfl (lv_at hl 0 rfl) ?_
  refine lv_iload_n hx hb dX4_cart_1 rfl (lv_at hl 1 rfl) ?_
  refine g_kxv (g_runVX (As := [.int x]) (rest := []) K hml ca_X4_needLad q190 (m_X4_needLad l E J I x hw0 hfl) hG hS rfl rfl rfl rfl rfl hl.1 (Nat.le_of_ble_eq_true rfl) ⟨by decide, by decide⟩ dX4_cart_2 ⟨by decide, by decide⟩) hS rfl (fun h9 => by simp only [f_X4_cart_x, if_neg h9]) hout hlocks (by decide) (by decide) (fun c1 H locs hG hS => ?_)
  refine lv_iload_n hx hb dX4_cart_5 rfl (lv_at hl 2 rfl) ?_
  refine lv_if_lt (tgt := 28) hx hb dX4_cart_6 (by decide) (fun c2 => ?_) (fun c2 => ?_)
  · exact g_throw (text := "there is no such place") K hfl gxk3 (by simp only [f_X4_cart_x, if_pos c1, if_pos c2]) (by decide) (by decide +kernel) hG hS (hl.1.trans hml.symm) dX4_cart_28 dX4_cart_31 dX4_cart_32 dX4_cart_34 dX4_cart_37 hout ⟨by decide, Nat.le_of_ble_eq_true rfl, by decide, by decide⟩ hlocks (by decide) (by decide)
  · refine lv_iload_n hx hb dX4_cart_9 rfl (lv_at hl 2 rfl) ?_
    refine lv_aload_n hx hb dX4_cart_10 rfl (lv_at hl 0 rfl) ?_
    refine gf_X4_12 K hG rfl dX4_cart_11 ?_
    refine gf_X4_48 K hG (gv0 (by decide)) dX4_cart_14 ?_
    refine lv_iload_n hx hb dX4_cart_17 rfl (lv_at hl 1 rfl) ?_
    refine g_lads K hG (gv7 (by decide)) (rg_lad hw0 c1) dX4_cart_18 ?_
    refine gf_X4_74 K hG (gv1 (by decide) (vp_lt (rg_lad hw0 c1))) dX4_cart_19 ?_
    refine gf_X4_78 K hG (gv2 (by decide) (hw0.cart (vp_lt (rg_lad hw0 c1)))) dX4_cart_22 ?_
    refine lv_icmp_lt (tgt := 38) hx hb dX4_cart_25 (by decide) (fun c3 => ?_) (fun c3 => ?_)
    · refine lv_aload_n hx hb dX4_cart_38 rfl (lv_at hl 0 rfl) ?_
      refine gf_X4_12 K hG rfl dX4_cart_39 ?_
      refine lv_aload_n hx hb dX4_cart_42 rfl (lv_at hl 0 rfl) ?_
      refine gf_X4_12 K hG rfl dX4_cart_43 ?_
      refine gf_X4_48 K hG (gv0 (by decide)) dX4_cart_46 ?_
      refine lv_iload_n hx hb dX4_cart_49 rfl (lv_at hl 1 rfl) ?_
      refine g_lads K hG (gv7 (by decide)) (rg_lad hw0 c1) dX4_cart_50 ?_
      refine gf_X4_74 K hG (gv1 (by decide) (vp_lt (rg_lad hw0 c1))) dX4_cart_51 ?_
      refine lv_iload_n hx hb dX4_cart_54 rfl (lv_at hl 2 rfl) ?_
      refine g_ki (g_runV (As := [.int b]) (rest := [.ref (gA E 0 0 0)]) K hml ca_X0_heapAt q510 (m_X0_heapAt l E J I 0 ((I 0 1 x.toNatClampNeg 3).toNatClampNeg) b (by decide) (hw0.cart (vp_lt (rg_lad hw0 c1))) hw0) hG hS (gv2 (by decide) (hw0.cart (vp_lt (rg_lad hw0 c1)))) rfl rfl rfl rfl hl.1 (Nat.le_of_ble_eq_true rfl) ⟨by decide, by decide⟩ dX4_cart_55 ⟨by decide, by decide⟩) hS (fun H locs hG hS => ?_)
      refine g_ki (g_runV (As := [.int (f_X0_heapAt I 0 ((I 0 1 x.toNatClampNeg 3).toNatClampNeg) b)]) (rest := []) K hml ca_X3_balesOf q511 (m_X3_balesOf l E J I 0 (f_X0_heapAt I 0 ((I 0 1 x.toNatClampNeg 3).toNatClampNeg) b) (by decide) hw0) hG hS (gv0 (by decide)) rfl rfl rfl rfl hl.1 (Nat.le_of_ble_eq_true rfl) ⟨by decide, by decide⟩ dX4_cart_58 ⟨by decide, by decide⟩) hS (fun H locs hG hS => ?_)
      exact g_iretX K hG hS hr hlocks (by simp only [f_X4_cart_x, if_pos c1, if_neg c2, if_pos c3]) (by simp only [f_X4_cart, if_pos c1, if_neg c2, if_pos c3]) (by decide) (by decide) dX4_cart_61
    · exact g_throw (text := "there is no such place") K hfl gxk3 (by simp only [f_X4_cart_x, if_pos c1, if_neg c2, if_neg c3]) (by decide) (by decide +kernel) hG hS (hl.1.trans hml.symm) dX4_cart_28 dX4_cart_31 dX4_cart_32 dX4_cart_34 dX4_cart_37 hout ⟨by decide, Nat.le_of_ble_eq_true rfl, by decide, by decide⟩ hlocks (by decide) (by decide)
def f_X4_load_x (I : gI) (x b : Int32) : Nat :=
  if f_X4_needLoad_x I x = 0 then
    if b < 0 then
      3
    else
      if b < 7 then
        0
      else
        3
  else
    f_X4_needLoad_x I x
def f_X4_load (I : gI) (x b : Int32) : Int32 :=
  if f_X4_needLoad_x I x = 0 then
    if b < 0 then
      0
    else
      if b < 7 then
        (f_X2_tell I 0 x.toNatClampNeg b)
      else
        0
  else
    0
set_option maxHeartbeats 4000000 in
set_option maxRecDepth 100000 in
theorem m_X4_load (l : Launch) (E : gE) (J : Int64) (I : gI) (x b : Int32) (hw0 : wf (I 0)) (hfl : l.stackTraces = false) : gXi l E J yX4_load cX4_load 3 (some .int) 7 103 2 [.ref (gA E 2 10 0), .int x, .int b] I (f_X4_load_x I x b) (f_X4_load I x b) I := by
  refine g_entryX (lv := [(0, .ref (gA E 2 10 0)), (1, .int x), (2, .int b)]) (by decide) (Nat.le_of_ble_eq_true rfl) rfl ?_
  intro p e s m below meth c0 ls K hG hS hml hr hlocks hout hl
  have K : kx E p m c0 cX4_load "HayThieves" _ s := K
  have hx := K.1
  have hb := K.2.1
  have hts := K.2.2.1
  have hown := K.2.2.2.1
  have hSt := K.2.2.2.2
  have hN := hw0.N
  have hM := hw0.M
  refine lv_aload_n hx hb dX4_load_0 rfl (lv_at hl 0 rfl) ?_
  refine lv_iload_n hx hb dX4_load_1 rfl (lv_at hl 1 rfl) ?_
  refine g_kxv (g_runVX (As := [.int x]) (rest := []) K hml ca_X4_needLoad q279 (m_X4_needLoad l E J I x hw0 hfl) hG hS rfl rfl rfl rfl rfl hl.1 (Nat.le_of_ble_eq_true rfl) ⟨by decide, by decide⟩ dX4_load_2 ⟨by decide, by decide⟩) hS rfl (fun h9 => by simp only [f_X4_load_x, if_neg h9]) hout hlocks (by decide) (by decide) (fun c1 H locs hG hS => ?_)
  refine lv_iload_n hx hb dX4_load_5 rfl (lv_at hl 2 rfl) ?_
  refine lv_if_lt (tgt := 15) hx hb dX4_load_6 (by decide) (fun c2 => ?_) (fun c2 => ?_)
  · exact g_throw (text := "what is not 0 to 6") K hfl gxk3 (by simp only [f_X4_load_x, if_pos c1, if_pos c2]) (by decide) (by decide +kernel) hG hS (hl.1.trans hml.symm) dX4_load_15 dX4_load_18 dX4_load_19 dX4_load_21 dX4_load_24 hout ⟨by decide, Nat.le_of_ble_eq_true rfl, by decide, by decide⟩ hlocks (by decide) (by decide)
  · refine lv_iload_n hx hb dX4_load_9 rfl (lv_at hl 2 rfl) ?_
    refine lv_bipush (v := 7) hx hb dX4_load_10 (by decide) ?_
    refine lv_icmp_lt (tgt := 25) hx hb dX4_load_12 (by decide) (fun c3 => ?_) (fun c3 => ?_)
    · refine lv_aload_n hx hb dX4_load_25 rfl (lv_at hl 0 rfl) ?_
      refine gf_X4_12 K hG rfl dX4_load_26 ?_
      refine gf_X4_111 K hG (gv0 (by decide)) dX4_load_29 ?_
      refine lv_iload_n hx hb dX4_load_32 rfl (lv_at hl 1 rfl) ?_
      refine g_loads K hG (gv8 (by decide)) (rg_load hw0 c1) dX4_load_33 ?_
      refine lv_iload_n hx hb dX4_load_34 rfl (lv_at hl 2 rfl) ?_
      refine g_ki (g_runV (As := [.int b]) (rest := []) K hml ca_X2_tell q285 (m_X2_tell l E J I 0 x.toNatClampNeg b (by decide) (vp_lt (rg_load hw0 c1)) hw0) hG hS (gv4 (by decide) (vp_lt (rg_load hw0 c1))) rfl rfl rfl rfl hl.1 (Nat.le_of_ble_eq_true rfl) ⟨by decide, by decide⟩ dX4_load_35 ⟨by decide, by decide⟩) hS (fun H locs hG hS => ?_)
      exact g_iretX K hG hS hr hlocks (by simp only [f_X4_load_x, if_pos c1, if_neg c2, if_pos c3]) (by simp only [f_X4_load, if_pos c1, if_neg c2, if_pos c3]) (by decide) (by decide) dX4_load_38
    · exact g_throw (text := "what is not 0 to 6") K hfl gxk3 (by simp only [f_X4_load_x, if_pos c1, if_neg c2, if_neg c3]) (by decide) (by decide +kernel) hG hS (hl.1.trans hml.symm) dX4_load_15 dX4_load_18 dX4_load_19 dX4_load_21 dX4_load_24 hout ⟨by decide, Nat.le_of_ble_eq_true rfl, by decide, by decide⟩ hlocks (by decide) (by decide)
def f_X4_count_x (I : gI) (x : Int32) : Nat :=
  if x < 0 then
    3
  else
    if x < 13 then
      0
    else
      3
def f_X4_count (I : gI) (x : Int32) : Int32 :=
  if x < 0 then
    0
  else
    if x < 13 then
      (f_X3_tell I 0 x)
    else
      0
set_option maxHeartbeats 4000000 in
set_option maxRecDepth 100000 in
theorem m_X4_count (l : Launch) (E : gE) (J : Int64) (I : gI) (x : Int32) (hw0 : wf (I 0)) (hfl : l.stackTraces = false) : gXi l E J yX4_count cX4_count 2 (some .int) 6 86 1 [.ref (gA E 2 10 0), .int x] I (f_X4_count_x I x) (f_X4_count I x) I := by
  refine g_entryX (lv := [(0, .ref (gA E 2 10 0)), (1, .int x)]) (by decide) (Nat.le_of_ble_eq_true rfl) rfl ?_
  intro p e s m below meth c0 ls K hG hS hml hr hlocks hout hl
  have K : kx E p m c0 cX4_count "HayThieves" _ s := K
  have hx := K.1
  have hb := K.2.1
  have hts := K.2.2.1
  have hown := K.2.2.2.1
  have hSt := K.2.2.2.2
  have hN := hw0.N
  have hM := hw0.M
  refine lv_iload_n hx hb dX4_count_0 rfl (lv_at hl 1 rfl) ?_
  refine lv_if_lt (tgt := 10) hx hb dX4_count_1 (by decide) (fun c1 => ?_) (fun c1 => ?_)
  · exact g_throw (text := "what is not 0 to 12") K hfl gxk3 (by simp only [f_X4_count_x, if_pos c1]) (by decide) (by decide +kernel) hG hS (hl.1.trans hml.symm) dX4_count_10 dX4_count_13 dX4_count_14 dX4_count_16 dX4_count_19 hout ⟨by decide, Nat.le_of_ble_eq_true rfl, by decide, by decide⟩ hlocks (by decide) (by decide)
  · refine lv_iload_n hx hb dX4_count_4 rfl (lv_at hl 1 rfl) ?_
    refine lv_bipush (v := 13) hx hb dX4_count_5 (by decide) ?_
    refine lv_icmp_lt (tgt := 20) hx hb dX4_count_7 (by decide) (fun c2 => ?_) (fun c2 => ?_)
    · refine lv_aload_n hx hb dX4_count_20 rfl (lv_at hl 0 rfl) ?_
      refine gf_X4_12 K hG rfl dX4_count_21 ?_
      refine lv_iload_n hx hb dX4_count_24 rfl (lv_at hl 1 rfl) ?_
      refine g_ki (g_runV (As := [.int x]) (rest := []) K hml ca_X3_tell q294 (m_X3_tell l E J I 0 x (by decide) hw0) hG hS (gv0 (by decide)) rfl rfl rfl rfl hl.1 (Nat.le_of_ble_eq_true rfl) ⟨by decide, by decide⟩ dX4_count_25 ⟨Nat.zero_le _, Nat.zero_le _⟩) hS (fun H locs hG hS => ?_)
      exact g_iretX K hG hS hr hlocks (by simp only [f_X4_count_x, if_neg c1, if_pos c2]) (by simp only [f_X4_count, if_neg c1, if_pos c2]) (by decide) (by decide) dX4_count_28
    · exact g_throw (text := "what is not 0 to 12") K hfl gxk3 (by simp only [f_X4_count_x, if_neg c1, if_neg c2]) (by decide) (by decide +kernel) hG hS (hl.1.trans hml.symm) dX4_count_10 dX4_count_13 dX4_count_14 dX4_count_16 dX4_count_19 hout ⟨by decide, Nat.le_of_ble_eq_true rfl, by decide, by decide⟩ hlocks (by decide) (by decide)
def f_X4_victim_x (I : gI) (x : Int32) : Nat :=
  if f_X4_needLad_x I x = 0 then
    0
  else
    f_X4_needLad_x I x
def f_X4_victim (I : gI) (x : Int32) : Int32 :=
  if f_X4_needLad_x I x = 0 then
    (f_X3_victimOf I 0 x.toNatClampNeg)
  else
    0
set_option maxHeartbeats 4000000 in
set_option maxRecDepth 100000 in
theorem m_X4_victim (l : Launch) (E : gE) (J : Int64) (I : gI) (x : Int32) (hw0 : wf (I 0)) (hfl : l.stackTraces = false) : gXi l E J yX4_victim cX4_victim 2 (some .int) 7 103 1 [.ref (gA E 2 10 0), .int x] I (f_X4_victim_x I x) (f_X4_victim I x) I := by
  refine g_entryX (lv := [(0, .ref (gA E 2 10 0)), (1, .int x)]) (by decide) (Nat.le_of_ble_eq_true rfl) rfl ?_
  intro p e s m below meth c0 ls K hG hS hml hr hlocks hout hl
  have K : kx E p m c0 cX4_victim "HayThieves" _ s := K
  have hx := K.1
  have hb := K.2.1
  have hts := K.2.2.1
  have hown := K.2.2.2.1
  have hSt := K.2.2.2.2
  have hN := hw0.N
  have hM := hw0.M
  refine lv_aload_n hx hb dX4_victim_0 rfl (lv_at hl 0 rfl) ?_
  refine lv_iload_n hx hb dX4_victim_1 rfl (lv_at hl 1 rfl) ?_
  refine g_kxv (g_runVX (As := [.int x]) (rest := []) K hml ca_X4_needLad q190 (m_X4_needLad l E J I x hw0 hfl) hG hS rfl rfl rfl rfl rfl hl.1 (Nat.le_of_ble_eq_true rfl) ⟨by decide, by decide⟩ dX4_victim_2 ⟨by decide, by decide⟩) hS rfl (fun h9 => by simp only [f_X4_victim_x, if_neg h9]) hout hlocks (by decide) (by decide) (fun c1 H locs hG hS => ?_)
  refine lv_aload_n hx hb dX4_victim_5 rfl (lv_at hl 0 rfl) ?_
  refine gf_X4_12 K hG rfl dX4_victim_6 ?_
  refine lv_aload_n hx hb dX4_victim_9 rfl (lv_at hl 0 rfl) ?_
  refine gf_X4_12 K hG rfl dX4_victim_10 ?_
  refine gf_X4_48 K hG (gv0 (by decide)) dX4_victim_13 ?_
  refine lv_iload_n hx hb dX4_victim_16 rfl (lv_at hl 1 rfl) ?_
  refine g_lads K hG (gv7 (by decide)) (rg_lad hw0 c1) dX4_victim_17 ?_
  refine g_ki (g_runV (As := [.ref (gA E 0 1 x.toNatClampNeg)]) (rest := []) K hml ca_X3_victimOf q320 (m_X3_victimOf l E J I 0 x.toNatClampNeg (by decide) hw0 (vp_lt (rg_lad hw0 c1))) hG hS (gv0 (by decide)) rfl rfl rfl rfl hl.1 (Nat.le_of_ble_eq_true rfl) ⟨by decide, by decide⟩ dX4_victim_18 ⟨by decide, by decide⟩) hS (fun H locs hG hS => ?_)
  exact g_iretX K hG hS hr hlocks (by simp only [f_X4_victim_x, if_pos c1]) (by simp only [f_X4_victim, if_pos c1]) (by decide) (by decide) dX4_victim_21
def f_X4_pass_x (I : gI) (x : Int32) : Nat :=
  let I1 := f_X3_runMinutes I 0 x
  if f_X4_needMinutes_x I x 60 = 0 then
    let I1 := f_X3_runMinutes I 0 x
    0
  else
    f_X4_needMinutes_x I x 60
def f_X4_pass_v (I : gI) (x : Int32) : Int32 :=
  let I1 := f_X3_runMinutes I 0 x
  if f_X4_needMinutes_x I x 60 = 0 then
    let I1 := f_X3_runMinutes I 0 x
    ((f_X3_tell I1 0 3) - (f_X3_tell I 0 3))
  else
    0
def f_X4_pass_s (I : gI) (x : Int32) : gI :=
  let I1 := f_X3_runMinutes I 0 x
  if f_X4_needMinutes_x I x 60 = 0 then
    let I1 := f_X3_runMinutes I 0 x
    I1
  else
    I
set_option maxHeartbeats 4000000 in
set_option maxRecDepth 100000 in
theorem m_X4_pass (l : Launch) (E : gE) (J : Int64) (I : gI) (x : Int32) (hw0 : wf (I 0)) (hfl : l.stackTraces = false) : gXi l E J yX4_pass cX4_pass 3 (some .int) 7 136 1 [.ref (gA E 2 10 0), .int x] I (f_X4_pass_x I x) (f_X4_pass_v I x) (f_X4_pass_s I x) := by
  refine g_entryX (lv := [(0, .ref (gA E 2 10 0)), (1, .int x)]) (by decide) (Nat.le_of_ble_eq_true rfl) rfl ?_
  intro p e s m below meth c0 ls K hG hS hml hr hlocks hout hl
  have K : kx E p m c0 cX4_pass "HayThieves" _ s := K
  have hx := K.1
  have hb := K.2.1
  have hts := K.2.2.1
  have hown := K.2.2.2.1
  have hSt := K.2.2.2.2
  have hN := hw0.N
  have hM := hw0.M
  refine lv_iload_n hx hb dX4_pass_0 rfl (lv_at hl 1 rfl) ?_
  refine lv_bipush (v := 60) hx hb dX4_pass_1 (by decide) ?_
  refine g_kxv (g_runSX (As := [.int x, .int 60]) (rest := []) K hml ca_X4_needMinutes q352 (m_X4_needMinutes l E J I x 60 hfl) hG hS rfl hl.1 (Nat.le_of_ble_eq_true rfl) ⟨by decide, by decide⟩ dX4_pass_3 ⟨by decide, by decide⟩) hS rfl (fun h9 => by simp only [f_X4_pass_x, if_neg h9]) hout hlocks (by decide) (by decide) (fun c1 H locs hG hS => ?_)
  refine lv_aload_n hx hb dX4_pass_6 rfl (lv_at hl 0 rfl) ?_
  refine gf_X4_12 K hG rfl dX4_pass_7 ?_
  refine lv_iconst (v := 3) hx hb dX4_pass_10 (by decide) ?_
  refine g_ki (g_runV (As := [.int 3]) (rest := []) K hml ca_X3_tell q294 (m_X3_tell l E J I 0 3 (by decide) hw0) hG hS (gv0 (by decide)) rfl rfl rfl rfl hl.1 (Nat.le_of_ble_eq_true rfl) ⟨by decide, by decide⟩ dX4_pass_11 ⟨by decide, by decide⟩) hS (fun H locs hG hS => ?_)
  refine lv_istore_n (lv' := [(2, .int (f_X3_tell I 0 3)), (0, .ref (gA E 2 10 0)), (1, .int x)]) hx hb dX4_pass_14 rfl hl (by decide) rfl (fun ls hl => ?_)
  refine lv_aload_n hx hb dX4_pass_15 rfl (lv_at hl 1 rfl) ?_
  refine gf_X4_12 K hG rfl dX4_pass_16 ?_
  refine lv_iload_n hx hb dX4_pass_19 rfl (lv_at hl 2 rfl) ?_
  refine g_kv (g_runV (As := [.int x]) (rest := []) K hml ca_X3_runMinutes q371 (m_X3_runMinutes l E J I 0 x (by decide) hw0 (rg_mins (n := 60) rfl (by decide) c1)) hG hS (gv0 (by decide)) rfl rfl rfl rfl hl.1 (Nat.le_of_ble_eq_true rfl) ⟨by decide, by decide⟩ dX4_pass_20 ⟨by decide, by decide⟩) hS (fun H locs hG hS => ?_)
  obtain ⟨I1, hI1⟩ : ∃ z, z = f_X3_runMinutes I 0 x := ⟨_, rfl⟩
  rw [← hI1] at hG
  have hw1_0 : wf (I1 0) := by rw [hI1]; exact wf_X3_runMinutes I 0 x (by decide) hw0 (rg_mins (n := 60) rfl (by decide) c1)
  refine lv_aload_n hx hb dX4_pass_23 rfl (lv_at hl 1 rfl) ?_
  refine gf_X4_12 K hG rfl dX4_pass_24 ?_
  refine lv_iconst (v := 3) hx hb dX4_pass_27 (by decide) ?_
  refine g_ki (g_runV (As := [.int 3]) (rest := []) K hml ca_X3_tell q294 (m_X3_tell l E J I1 0 3 (by decide) hw1_0) hG hS (gv0 (by decide)) rfl rfl rfl rfl hl.1 (Nat.le_of_ble_eq_true rfl) ⟨by decide, by decide⟩ dX4_pass_28 ⟨by decide, by decide⟩) hS (fun H locs hG hS => ?_)
  refine lv_iload_n hx hb dX4_pass_31 rfl (lv_at hl 0 rfl) ?_
  refine lv_isub hx hb dX4_pass_32 ?_
  have eS : I1 = (f_X4_pass_s I x) := (by simp only [f_X4_pass_s, ← hI1, if_pos c1])
  rw [eS] at hG
  exact g_iretX K hG hS hr hlocks (by simp only [f_X4_pass_x, ← hI1, if_pos c1]) (by simp only [f_X4_pass_v, ← hI1, if_pos c1]) (by decide) (by decide) dX4_pass_33
