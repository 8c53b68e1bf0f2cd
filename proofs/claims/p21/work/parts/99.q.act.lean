/-! PRINTED by wip/gen21/act.py: THE LAW'S act, case by case -/
def aHH : List (Nat × Nat × Nat × Nat) := [(88, 96, 99, 27), (173, 181, 184, 27), (413, 421, 424, 27)]
def nQa (E : gE) (F : Nat → Prop) (J : Int64) (n L : Nat) (D : sD) : Array Value → State → Outcome → State → Prop := va_Qi (fun v (_ : Unit) => v = 1) (fun _ t => ∃ (D' : sD) (I' : gI), D' 0 0 = D 0 0 ∧ jR n L I' ∧ LW E F J D' I' t.heap) (gH E)
abbrev aAv (E : gE) (D : sD) (x : Int32) : Array Value := ([.ref (gA E 2 10 0), .ref (D 0 0), .int x] : List Value).toArray
/-- what holds all along act -/
def aX (p : Program) (l : Launch) (s : State) (m : MethodId) (meth : Method) (c : Code) (E : gE) (F : Nat → Prop) (D : sD) (x : Int32) : Prop :=
  kx E p m c cL_act "HayThievesLaw" (aAv E D x) s ∧ va_AOA s ∧ c.maxLocals = 9 ∧ meth.sig.returnType = some .boolean ∧ meth.locks = false ∧ c.exceptionTable.toList = tableOf aHH ∧ l.stackTraces = false ∧ ∀ q, F q → gN E ≤ q
theorem one_add (q : Nat) : (1 : Int32) + nI q = nI (q + 1) := by rw [show (1 : Int32) = nI 1 from rfl, nI_add, Nat.add_comm]
theorem four_add (q : Nat) : (4 : Int32) + nI q = nI (q + 4) := by rw [show (4 : Int32) = nI 4 from rfl, nI_add, Nat.add_comm]
theorem jR.cnts {n L : Nat} {I : gI} (h : jR n L I) : ∃ a b, a ≤ 6 ∧ b ≤ 10 ∧ I 5 1 2 0 = nI a ∧ I 5 1 3 0 = nI a ∧ I 5 1 4 0 = nI b ∧ I 0 0 0 4 = nI a ∧ I 0 0 0 5 = nI b ∧ I 5 1 9 0 = nI L := by
  obtain ⟨K, A, t, hR, hK, h3, h4, h5, hf, hw0, hw1, hcc, ht, hzh, hzX, hs⟩ := h
  have h1 := hR.2.2.2.k1
  exact ⟨A 0 0 0, A 0 0 1, by omega, by omega, hs.k1.1, hs.k1.2.1, hs.k1.2.2.1, hR.1.k1, hR.1.k2, hs.k1.2.2.2.2⟩
theorem jR.w0 {n L : Nat} {I : gI} (h : jR n L I) : wf (I 0) := h.lw0.1
theorem x5_come {I : gI} {x : Int32} (h : wf (I 0)) : f_X4_come_s I x 5 = I 5 := by
  simp only [f_X4_come_s]
  (repeat' split) <;> first | rfl | exact ne_X3_addLad I 0 x (by decide) h (by decide)
theorem x5_bring {I : gI} {x : Int32} (h : wf (I 0)) : f_X4_bring_s I x 5 = I 5 := by
  simp only [f_X4_bring_s]
  (repeat' split) <;> first | rfl | exact ne_X3_addLoad I 0 x (by decide) h (by decide)
theorem x5_wake {I : gI} {x : Int32} : f_X4_wake_s I x 5 = I 5 := by
  simp only [f_X4_wake_s]
  (repeat' split) <;> first | rfl | rw [gU_ne _ _ _ _ _ (by decide)]
section AC
variable {p : Program} {l : Launch} {e : Env} {s : State} {m : MethodId} {below : List Frame} {meth : Method} {c : Code} {H : Heap} {locs : List Loc} {cells slots : Nat}
variable {pc : Nat} {ls : Array Slot} {E : gE} {F : Nat → Prop} {J : Int64} {D D' : sD} {I I' : gI} {n L a : Nat} {x kv : Int32}
theorem a_ret (X : aX p l s m meth c E F D x) (hG : LW E F J D' I' H) (h0 : D' 0 0 = D 0 0) (hj : jR n L I') (hS : va_S (gH E) s.heap H locs) (hc : cells ≤ 10) (hs : slots ≤ 2000) (hdg : decode cL_act pc = .ok (.ireturn, 1)) : W p l e (rmc 8 10 2000 130) s m (aAv E D x) below meth c H locs cells slots (MQ below (nQa E F J n L D) (aAv E D x) s 10 2000 (gH E)) (F0 m pc ls [.int 1]) := by
  obtain ⟨K, hAO, hml, hr, hlocks, htb, hfl, hA⟩ := X
  exact W.widen (k := 10) (n := 2000) hc hs (W.zret K.1 K.2.1 hr (by show Value.int (vp_nar .boolean 1) = _; rfl) (fun t ht hW => ⟨⟨1, (), rfl, rfl, D', I', h0, hj, by rw [ht]; exact hG⟩, hS.F ht⟩) hS.2.2 hdg hlocks)

set_option maxHeartbeats 4000000 in
set_option maxRecDepth 100000 in
theorem act_come (X : aX p l s m meth c E F D x) (hj : jR (n + 1) L I) (hL : L ≤ 4) (hG : LW E F J D I H) (hS : va_S (gH E) s.heap H locs) (ha : I 5 1 2 0 = nI a) (a6 : a ≤ 6) (hl : lv_has ls 9 [(4, .int kv), (3, .int (nI a)), (0, .ref (gA E 2 10 0)), (1, .ref (D 0 0)), (2, .int x)]) : W p l e (rmc 8 10 2000 130) s m (aAv E D x) below meth c H locs 0 0 (MQ below (nQa E F J n L D) (aAv E D x) s 10 2000 (gH E)) (F0 m 76 ls []) := by
  obtain ⟨K, hAO, hml, hr, hlocks, htb, hfl, hA⟩ := id X
  have hx := K.1
  have hb := K.2.1
  have hts := K.2.2.1
  have hown := K.2.2.2.1
  have hSt := K.2.2.2.2
  have hw0 := hj.w0
  refine lv_iconst (v := 1) hx hb dL_act_76 (by decide) ?_
  refine lv_iload_n hx hb dL_act_77 rfl (lv_at hl 4 rfl) ?_
  refine lv_iconst (v := 4) hx hb dL_act_78 (by decide) ?_
  refine lv_ishr hx hb dL_act_79 ?_
  refine lv_bipush (v := 9) hx hb dL_act_80 (by decide) ?_
  refine n_below K hAO hml hS (N := 9) rfl (by decide) (by decide) hl.1 (Nat.le_of_ble_eq_true rfl) ⟨by decide, by decide⟩ dL_act_82 ⟨by decide, by decide⟩ (fun q hq locs hS => ?_)
  refine lv_iadd hx hb dL_act_85 ?_
  rw [show ((1 + ((nI q))) : Int32) = nI (q + 1) from one_add q]
  refine lv_istore (lv' := [(6, .int (nI (q + 1))), (4, .int kv), (3, .int (nI a)), (0, .ref (gA E 2 10 0)), (1, .ref (D 0 0)), (2, .int x)]) hx hb dL_act_86 hl (by decide) rfl (fun ls hl => ?_)
  refine lv_aload_n hx hb dL_act_88 rfl (lv_at hl 3 rfl) ?_
  refine lv_iload hx hb dL_act_89 (lv_at hl 0 rfl) ?_
  obtain ⟨a', b6, va, A1, A2⟩ := hj.come (s := q + 1) (by omega) (by omega) (by omega)
  have ea : a' = a := by rw [ha] at va; exact ((nI_eq (by omega) (by omega)).mp va).symm
  subst ea
  by_cases h6 : a' < 6
  · obtain ⟨x0, xv, x5, xo, M, S, xj⟩ := A1 h6
    refine l_kn hG (l_runVX (As := [.int (nI (q + 1))]) (rest := []) K hml ca_X4_come q590 (m_X4_come l E J I ((nI (q + 1))) hw0 hfl) hG.1 hS rfl rfl hl.1 (Nat.le_of_ble_eq_true rfl) ⟨by decide, by decide⟩ dL_act_91 ⟨by decide, by decide⟩) hS x5 x0 (fun H locs hG hS => ?_)
    rw [xv]
    refine lv_istore (lv' := [(5, .int (nI a')), (6, .int (nI (q + 1))), (4, .int kv), (3, .int (nI a')), (0, .ref (gA E 2 10 0)), (1, .ref (D 0 0)), (2, .int x)]) hx hb dL_act_94 hl (by decide) rfl (fun ls hl => ?_)
    refine lv_goto (tgt := 104) hx hb dL_act_96 (by decide) ?_
    refine lv_iload_n hx hb dL_act_104 rfl (lv_at hl 3 rfl) ?_
    refine lv_bipush (v := 6) hx hb dL_act_105 (by decide) ?_
    refine lv_icmp_ge (tgt := 116) hx hb dL_act_107 (by decide) (fun h => absurd h (nI_ge (b := 6) h6 (by decide))) (fun _ => ?_)
    refine lv_aload_n hx hb dL_act_110 rfl (lv_at hl 5 rfl) ?_
    refine lv_iload hx hb dL_act_111 (lv_at hl 1 rfl) ?_
    refine l_sv hA (s_runV (As := [.int (nI (q + 1))]) (rest := []) K hAO gH_ge hml ca_X5_come q615 (m_S_come l E F J D (f_X4_come_s I (nI (q + 1))) (nI (q + 1)) hA xo) hG hG hS rfl rfl hl.1 (Nat.le_of_ble_eq_true rfl) ⟨by decide, by decide⟩ dL_act_113 ⟨by decide, by decide⟩) hS (fun D1 hD1 H locs hG hS => ?_)
    refine lv_iload hx hb dL_act_116 (lv_at hl 0 rfl) ?_
    refine lv_iload_n hx hb dL_act_118 rfl (lv_at hl 3 rfl) ?_
    refine lv_bipush (v := 6) hx hb dL_act_119 (by decide) ?_
    refine lv_icmp_ge (tgt := 128) hx hb dL_act_121 (by decide) (fun h => absurd h (nI_ge (b := 6) h6 (by decide))) (fun _ => ?_)
    refine lv_iload_n hx hb dL_act_124 rfl (lv_at hl 3 rfl) ?_
    refine lv_goto (tgt := 129) hx hb dL_act_125 (by decide) ?_
    refine lv_icmp_ne (tgt := 136) hx hb dL_act_129 (by decide) (fun h => absurd rfl h) (fun _ => ?_)
    refine lv_iconst (v := 1) hx hb dL_act_132 (by decide) ?_
    refine lv_goto (tgt := 137) hx hb dL_act_133 (by decide) ?_
    exact a_ret X (hG.gh M S) hD1.1 xj hS (Nat.le_of_ble_eq_true rfl) (Nat.le_of_ble_eq_true rfl) dL_act_137
  · have e6 : a' = 6 := by omega
    have x2 := A2 e6
    refine l_kx hG (l_runVX (As := [.int (nI (q + 1))]) (rest := []) K hml ca_X4_come q590 (m_X4_come l E J I ((nI (q + 1))) hw0 hfl) hG.1 hS rfl rfl hl.1 (Nat.le_of_ble_eq_true rfl) ⟨by decide, by decide⟩ dL_act_91 ⟨by decide, by decide⟩) hS (x5_come hw0) (fun ce q9 H locs h0 hG hS hce hcv hcl => ?_) (fun h0 => absurd h0 (by rw [x2]; decide))
    rw [x2] at hcl
    refine vx_catch (own := "HayThievesLaw") (name := "java/lang/IllegalStateException") hown [] ⟨88, 96, 99, 27⟩ [⟨173, 181, 184, 27⟩, ⟨413, 421, 424, 27⟩] (by rw [htb]; rfl) (fun z hz => absurd hz List.not_mem_nil) rfl (by decide) (hts _ q589) (hSt.nest qc_2) hce hcv hcl ?_
    refine lv_astore (lv' := [(7, .ref q9), (6, .int (nI (q + 1))), (4, .int kv), (3, .int (nI a')), (0, .ref (gA E 2 10 0)), (1, .ref (D 0 0)), (2, .int x)]) hx hb dL_act_99 hl (by decide) rfl (fun ls hl => ?_)
    refine lv_iconst (v := (-1)) hx hb dL_act_101 (by decide) ?_
    refine lv_istore (lv' := [(5, .int (-1)), (7, .ref q9), (6, .int (nI (q + 1))), (4, .int kv), (3, .int (nI a')), (0, .ref (gA E 2 10 0)), (1, .ref (D 0 0)), (2, .int x)]) hx hb dL_act_102 hl (by decide) rfl (fun ls hl => ?_)
    refine lv_iload_n hx hb dL_act_104 rfl (lv_at hl 4 rfl) ?_
    refine lv_bipush (v := 6) hx hb dL_act_105 (by decide) ?_
    refine lv_icmp_ge (tgt := 116) hx hb dL_act_107 (by decide) (fun _ => ?_) (fun h => absurd (show (6 : Int32) ≤ nI a' by rw [e6]; decide) h)
    refine lv_iload hx hb dL_act_116 (lv_at hl 0 rfl) ?_
    refine lv_iload_n hx hb dL_act_118 rfl (lv_at hl 4 rfl) ?_
    refine lv_bipush (v := 6) hx hb dL_act_119 (by decide) ?_
    refine lv_icmp_ge (tgt := 128) hx hb dL_act_121 (by decide) (fun _ => ?_) (fun h => absurd (show (6 : Int32) ≤ nI a' by rw [e6]; decide) h)
    refine lv_iconst (v := (-1)) hx hb dL_act_128 (by decide) ?_
    refine lv_icmp_ne (tgt := 136) hx hb dL_act_129 (by decide) (fun h => absurd rfl h) (fun _ => ?_)
    refine lv_iconst (v := 1) hx hb dL_act_132 (by decide) ?_
    refine lv_goto (tgt := 137) hx hb dL_act_133 (by decide) ?_
    exact a_ret X hG rfl hj.mono hS (Nat.le_of_ble_eq_true rfl) (Nat.le_of_ble_eq_true rfl) dL_act_137
set_option maxHeartbeats 4000000 in
set_option maxRecDepth 100000 in
theorem act_bring (X : aX p l s m meth c E F D x) (hj : jR (n + 1) L I) (hL : L ≤ 4) (hG : LW E F J D I H) (hS : va_S (gH E) s.heap H locs) (ha : I 5 1 2 0 = nI a) (a6 : a ≤ 6) (hl : lv_has ls 9 [(4, .int kv), (3, .int (nI a)), (0, .ref (gA E 2 10 0)), (1, .ref (D 0 0)), (2, .int x)]) : W p l e (rmc 8 10 2000 130) s m (aAv E D x) below meth c H locs 0 0 (MQ below (nQa E F J n L D) (aAv E D x) s 10 2000 (gH E)) (F0 m 138 ls []) := by
  obtain ⟨K, hAO, hml, hr, hlocks, htb, hfl, hA⟩ := id X
  have hx := K.1
  have hb := K.2.1
  have hts := K.2.2.1
  have hown := K.2.2.2.1
  have hSt := K.2.2.2.2
  have hw0 := hj.w0
  obtain ⟨a0, b0, -, b10, -, -, vb, -⟩ := hj.cnts
  refine lv_aload_n hx hb dL_act_138 rfl (lv_at hl 3 rfl) ?_
  refine sg_L_32 K hG dL_act_139 ?_
  refine s_alen1 K hG (t := 4) (by decide) dL_act_142 ?_
  rw [vb]
  refine lv_istore (lv' := [(6, .int (nI b0)), (4, .int kv), (3, .int (nI a)), (0, .ref (gA E 2 10 0)), (1, .ref (D 0 0)), (2, .int x)]) hx hb dL_act_143 hl (by decide) rfl (fun ls hl => ?_)
  refine lv_iconst (v := 1) hx hb dL_act_145 (by decide) ?_
  refine lv_iload_n hx hb dL_act_146 rfl (lv_at hl 5 rfl) ?_
  refine lv_iconst (v := 4) hx hb dL_act_147 (by decide) ?_
  refine lv_ishr hx hb dL_act_148 ?_
  refine lv_iload_n hx hb dL_act_149 rfl (lv_at hl 5 rfl) ?_
  refine lv_bipush (v := 7) hx hb dL_act_150 (by decide) ?_
  refine lv_ishr hx hb dL_act_152 ?_
  refine lv_iconst (v := 2) hx hb dL_act_153 (by decide) ?_
  refine n_below K hAO hml hS (N := 2) rfl (by decide) (by decide) hl.1 (Nat.le_of_ble_eq_true rfl) ⟨by decide, by decide⟩ dL_act_154 ⟨by decide, by decide⟩ (fun q2 hq2 locs hS => ?_)
  refine lv_if_ne (tgt := 165) hx hb dL_act_157 (by decide) (fun h => ?_) (fun h => ?_)
  · refine lv_bipush (v := 15) hx hb dL_act_165 (by decide) ?_
    refine n_below K hAO hml hS (N := 15) rfl (by decide) (by decide) hl.1 (Nat.le_of_ble_eq_true rfl) ⟨by decide, by decide⟩ dL_act_167 ⟨by decide, by decide⟩ (fun q hq locs hS => ?_)
    refine lv_iadd hx hb dL_act_170 ?_
    rw [show ((1 + ((nI q))) : Int32) = nI (q + 1) from one_add q]
    refine lv_istore (lv' := [(7, .int (nI (q + 1))), (6, .int (nI b0)), (4, .int kv), (3, .int (nI a)), (0, .ref (gA E 2 10 0)), (1, .ref (D 0 0)), (2, .int x)]) hx hb dL_act_171 hl (by decide) rfl (fun ls hl => ?_)
    refine lv_aload_n hx hb dL_act_173 rfl (lv_at hl 4 rfl) ?_
    refine lv_iload hx hb dL_act_174 (lv_at hl 0 rfl) ?_
    obtain ⟨b', b6, va, A1, A2⟩ := hj.bring (s := q + 1) (by omega) (by omega) (by omega)
    have eb : b' = b0 := by rw [vb] at va; exact ((nI_eq (by omega) (by omega)).mp va).symm
    subst eb
    by_cases h6 : b' < 10
    · obtain ⟨x0, xv, x5, xo, M, S, xj⟩ := A1 h6
      refine l_kn hG (l_runVX (As := [.int (nI (q + 1))]) (rest := []) K hml ca_X4_bring q619 (m_X4_bring l E J I ((nI (q + 1))) hw0 hfl) hG.1 hS rfl rfl hl.1 (Nat.le_of_ble_eq_true rfl) ⟨by decide, by decide⟩ dL_act_176 ⟨by decide, by decide⟩) hS x5 x0 (fun H locs hG hS => ?_)
      rw [xv]
      refine lv_istore (lv' := [(5, .int (nI b')), (7, .int (nI (q + 1))), (6, .int (nI b')), (4, .int kv), (3, .int (nI a)), (0, .ref (gA E 2 10 0)), (1, .ref (D 0 0)), (2, .int x)]) hx hb dL_act_179 hl (by decide) rfl (fun ls hl => ?_)
      refine lv_goto (tgt := 189) hx hb dL_act_181 (by decide) ?_
      refine lv_iload hx hb dL_act_189 (lv_at hl 2 rfl) ?_
      refine lv_bipush (v := 10) hx hb dL_act_191 (by decide) ?_
      refine lv_icmp_ge (tgt := 202) hx hb dL_act_193 (by decide) (fun h => absurd h (nI_ge (b := 10) h6 (by decide))) (fun _ => ?_)
      refine lv_aload_n hx hb dL_act_196 rfl (lv_at hl 6 rfl) ?_
      refine lv_iload hx hb dL_act_197 (lv_at hl 1 rfl) ?_
      refine l_sv hA (s_runV (As := [.int (nI (q + 1))]) (rest := []) K hAO gH_ge hml ca_X5_bring q633 (m_S_bring l E F J D (f_X4_bring_s I (nI (q + 1))) (nI (q + 1)) hA xo) hG hG hS rfl rfl hl.1 (Nat.le_of_ble_eq_true rfl) ⟨by decide, by decide⟩ dL_act_199 ⟨by decide, by decide⟩) hS (fun D1 hD1 H locs hG hS => ?_)
      refine lv_iload hx hb dL_act_202 (lv_at hl 0 rfl) ?_
      refine lv_iload hx hb dL_act_204 (lv_at hl 2 rfl) ?_
      refine lv_bipush (v := 10) hx hb dL_act_206 (by decide) ?_
      refine lv_icmp_ge (tgt := 216) hx hb dL_act_208 (by decide) (fun h => absurd h (nI_ge (b := 10) h6 (by decide))) (fun _ => ?_)
      refine lv_iload hx hb dL_act_211 (lv_at hl 2 rfl) ?_
      refine lv_goto (tgt := 217) hx hb dL_act_213 (by decide) ?_
      refine lv_icmp_ne (tgt := 224) hx hb dL_act_217 (by decide) (fun h => absurd rfl h) (fun _ => ?_)
      refine lv_iconst (v := 1) hx hb dL_act_220 (by decide) ?_
      refine lv_goto (tgt := 225) hx hb dL_act_221 (by decide) ?_
      exact a_ret X (hG.gh M S) hD1.1 xj hS (Nat.le_of_ble_eq_true rfl) (Nat.le_of_ble_eq_true rfl) dL_act_225
    · have e6 : b' = 10 := by omega
      have x2 := A2 e6
      refine l_kx hG (l_runVX (As := [.int (nI (q + 1))]) (rest := []) K hml ca_X4_bring q619 (m_X4_bring l E J I ((nI (q + 1))) hw0 hfl) hG.1 hS rfl rfl hl.1 (Nat.le_of_ble_eq_true rfl) ⟨by decide, by decide⟩ dL_act_176 ⟨by decide, by decide⟩) hS (x5_bring hw0) (fun ce q9 H locs h0 hG hS hce hcv hcl => ?_) (fun h0 => absurd h0 (by rw [x2]; decide))
      rw [x2] at hcl
      refine vx_catch (own := "HayThievesLaw") (name := "java/lang/IllegalStateException") hown [⟨88, 96, 99, 27⟩] ⟨173, 181, 184, 27⟩ [⟨413, 421, 424, 27⟩] (by rw [htb]; rfl) (fun z hz => Or.inl (by simp only [List.mem_cons, List.not_mem_nil, or_false] at hz; subst hz; rfl)) rfl (by decide) (hts _ q589) (hSt.nest qc_2) hce hcv hcl ?_
      refine lv_astore (lv' := [(8, .ref q9), (7, .int (nI (q + 1))), (6, .int (nI b')), (4, .int kv), (3, .int (nI a)), (0, .ref (gA E 2 10 0)), (1, .ref (D 0 0)), (2, .int x)]) hx hb dL_act_184 hl (by decide) rfl (fun ls hl => ?_)
      refine lv_iconst (v := (-1)) hx hb dL_act_186 (by decide) ?_
      refine lv_istore (lv' := [(5, .int (-1)), (8, .ref q9), (7, .int (nI (q + 1))), (6, .int (nI b')), (4, .int kv), (3, .int (nI a)), (0, .ref (gA E 2 10 0)), (1, .ref (D 0 0)), (2, .int x)]) hx hb dL_act_187 hl (by decide) rfl (fun ls hl => ?_)
      refine lv_iload hx hb dL_act_189 (lv_at hl 3 rfl) ?_
      refine lv_bipush (v := 10) hx hb dL_act_191 (by decide) ?_
      refine lv_icmp_ge (tgt := 202) hx hb dL_act_193 (by decide) (fun _ => ?_) (fun h => absurd (show (10 : Int32) ≤ nI b' by rw [e6]; decide) h)
      refine lv_iload hx hb dL_act_202 (lv_at hl 0 rfl) ?_
      refine lv_iload hx hb dL_act_204 (lv_at hl 3 rfl) ?_
      refine lv_bipush (v := 10) hx hb dL_act_206 (by decide) ?_
      refine lv_icmp_ge (tgt := 216) hx hb dL_act_208 (by decide) (fun _ => ?_) (fun h => absurd (show (10 : Int32) ≤ nI b' by rw [e6]; decide) h)
      refine lv_iconst (v := (-1)) hx hb dL_act_216 (by decide) ?_
      refine lv_icmp_ne (tgt := 224) hx hb dL_act_217 (by decide) (fun h => absurd rfl h) (fun _ => ?_)
      refine lv_iconst (v := 1) hx hb dL_act_220 (by decide) ?_
      refine lv_goto (tgt := 225) hx hb dL_act_221 (by decide) ?_
      exact a_ret X hG rfl hj.mono hS (Nat.le_of_ble_eq_true rfl) (Nat.le_of_ble_eq_true rfl) dL_act_225
  · refine lv_bipush (v := 60) hx hb dL_act_160 (by decide) ?_
    refine lv_goto (tgt := 167) hx hb dL_act_162 (by decide) ?_
    refine n_below K hAO hml hS (N := 60) rfl (by decide) (by decide) hl.1 (Nat.le_of_ble_eq_true rfl) ⟨by decide, by decide⟩ dL_act_167 ⟨by decide, by decide⟩ (fun q hq locs hS => ?_)
    refine lv_iadd hx hb dL_act_170 ?_
    rw [show ((1 + ((nI q))) : Int32) = nI (q + 1) from one_add q]
    refine lv_istore (lv' := [(7, .int (nI (q + 1))), (6, .int (nI b0)), (4, .int kv), (3, .int (nI a)), (0, .ref (gA E 2 10 0)), (1, .ref (D 0 0)), (2, .int x)]) hx hb dL_act_171 hl (by decide) rfl (fun ls hl => ?_)
    refine lv_aload_n hx hb dL_act_173 rfl (lv_at hl 4 rfl) ?_
    refine lv_iload hx hb dL_act_174 (lv_at hl 0 rfl) ?_
    obtain ⟨b', b6, va, A1, A2⟩ := hj.bring (s := q + 1) (by omega) (by omega) (by omega)
    have eb : b' = b0 := by rw [vb] at va; exact ((nI_eq (by omega) (by omega)).mp va).symm
    subst eb
    by_cases h6 : b' < 10
    · obtain ⟨x0, xv, x5, xo, M, S, xj⟩ := A1 h6
      refine l_kn hG (l_runVX (As := [.int (nI (q + 1))]) (rest := []) K hml ca_X4_bring q619 (m_X4_bring l E J I ((nI (q + 1))) hw0 hfl) hG.1 hS rfl rfl hl.1 (Nat.le_of_ble_eq_true rfl) ⟨by decide, by decide⟩ dL_act_176 ⟨by decide, by decide⟩) hS x5 x0 (fun H locs hG hS => ?_)
      rw [xv]
      refine lv_istore (lv' := [(5, .int (nI b')), (7, .int (nI (q + 1))), (6, .int (nI b')), (4, .int kv), (3, .int (nI a)), (0, .ref (gA E 2 10 0)), (1, .ref (D 0 0)), (2, .int x)]) hx hb dL_act_179 hl (by decide) rfl (fun ls hl => ?_)
      refine lv_goto (tgt := 189) hx hb dL_act_181 (by decide) ?_
      refine lv_iload hx hb dL_act_189 (lv_at hl 2 rfl) ?_
      refine lv_bipush (v := 10) hx hb dL_act_191 (by decide) ?_
      refine lv_icmp_ge (tgt := 202) hx hb dL_act_193 (by decide) (fun h => absurd h (nI_ge (b := 10) h6 (by decide))) (fun _ => ?_)
      refine lv_aload_n hx hb dL_act_196 rfl (lv_at hl 6 rfl) ?_
      refine lv_iload hx hb dL_act_197 (lv_at hl 1 rfl) ?_
      refine l_sv hA (s_runV (As := [.int (nI (q + 1))]) (rest := []) K hAO gH_ge hml ca_X5_bring q633 (m_S_bring l E F J D (f_X4_bring_s I (nI (q + 1))) (nI (q + 1)) hA xo) hG hG hS rfl rfl hl.1 (Nat.le_of_ble_eq_true rfl) ⟨by decide, by decide⟩ dL_act_199 ⟨by decide, by decide⟩) hS (fun D1 hD1 H locs hG hS => ?_)
      refine lv_iload hx hb dL_act_202 (lv_at hl 0 rfl) ?_
      refine lv_iload hx hb dL_act_204 (lv_at hl 2 rfl) ?_
      refine lv_bipush (v := 10) hx hb dL_act_206 (by decide) ?_
      refine lv_icmp_ge (tgt := 216) hx hb dL_act_208 (by decide) (fun h => absurd h (nI_ge (b := 10) h6 (by decide))) (fun _ => ?_)
      refine lv_iload hx hb dL_act_211 (lv_at hl 2 rfl) ?_
      refine lv_goto (tgt := 217) hx hb dL_act_213 (by decide) ?_
      refine lv_icmp_ne (tgt := 224) hx hb dL_act_217 (by decide) (fun h => absurd rfl h) (fun _ => ?_)
      refine lv_iconst (v := 1) hx hb dL_act_220 (by decide) ?_
      refine lv_goto (tgt := 225) hx hb dL_act_221 (by decide) ?_
      exact a_ret X (hG.gh M S) hD1.1 xj hS (Nat.le_of_ble_eq_true rfl) (Nat.le_of_ble_eq_true rfl) dL_act_225
    · have e6 : b' = 10 := by omega
      have x2 := A2 e6
      refine l_kx hG (l_runVX (As := [.int (nI (q + 1))]) (rest := []) K hml ca_X4_bring q619 (m_X4_bring l E J I ((nI (q + 1))) hw0 hfl) hG.1 hS rfl rfl hl.1 (Nat.le_of_ble_eq_true rfl) ⟨by decide, by decide⟩ dL_act_176 ⟨by decide, by decide⟩) hS (x5_bring hw0) (fun ce q9 H locs h0 hG hS hce hcv hcl => ?_) (fun h0 => absurd h0 (by rw [x2]; decide))
      rw [x2] at hcl
      refine vx_catch (own := "HayThievesLaw") (name := "java/lang/IllegalStateException") hown [⟨88, 96, 99, 27⟩] ⟨173, 181, 184, 27⟩ [⟨413, 421, 424, 27⟩] (by rw [htb]; rfl) (fun z hz => Or.inl (by simp only [List.mem_cons, List.not_mem_nil, or_false] at hz; subst hz; rfl)) rfl (by decide) (hts _ q589) (hSt.nest qc_2) hce hcv hcl ?_
      refine lv_astore (lv' := [(8, .ref q9), (7, .int (nI (q + 1))), (6, .int (nI b')), (4, .int kv), (3, .int (nI a)), (0, .ref (gA E 2 10 0)), (1, .ref (D 0 0)), (2, .int x)]) hx hb dL_act_184 hl (by decide) rfl (fun ls hl => ?_)
      refine lv_iconst (v := (-1)) hx hb dL_act_186 (by decide) ?_
      refine lv_istore (lv' := [(5, .int (-1)), (8, .ref q9), (7, .int (nI (q + 1))), (6, .int (nI b')), (4, .int kv), (3, .int (nI a)), (0, .ref (gA E 2 10 0)), (1, .ref (D 0 0)), (2, .int x)]) hx hb dL_act_187 hl (by decide) rfl (fun ls hl => ?_)
      refine lv_iload hx hb dL_act_189 (lv_at hl 3 rfl) ?_
      refine lv_bipush (v := 10) hx hb dL_act_191 (by decide) ?_
      refine lv_icmp_ge (tgt := 202) hx hb dL_act_193 (by decide) (fun _ => ?_) (fun h => absurd (show (10 : Int32) ≤ nI b' by rw [e6]; decide) h)
      refine lv_iload hx hb dL_act_202 (lv_at hl 0 rfl) ?_
      refine lv_iload hx hb dL_act_204 (lv_at hl 3 rfl) ?_
      refine lv_bipush (v := 10) hx hb dL_act_206 (by decide) ?_
      refine lv_icmp_ge (tgt := 216) hx hb dL_act_208 (by decide) (fun _ => ?_) (fun h => absurd (show (10 : Int32) ≤ nI b' by rw [e6]; decide) h)
      refine lv_iconst (v := (-1)) hx hb dL_act_216 (by decide) ?_
      refine lv_icmp_ne (tgt := 224) hx hb dL_act_217 (by decide) (fun h => absurd rfl h) (fun _ => ?_)
      refine lv_iconst (v := 1) hx hb dL_act_220 (by decide) ?_
      refine lv_goto (tgt := 225) hx hb dL_act_221 (by decide) ?_
      exact a_ret X hG rfl hj.mono hS (Nat.le_of_ble_eq_true rfl) (Nat.le_of_ble_eq_true rfl) dL_act_225
set_option maxHeartbeats 4000000 in
set_option maxRecDepth 100000 in
theorem act_fork (X : aX p l s m meth c E F D x) (hj : jR (n + 1) L I) (hL : L ≤ 4) (hG : LW E F J D I H) (hS : va_S (gH E) s.heap H locs) (ha : I 5 1 2 0 = nI a) (a6 : a ≤ 6) (hl : lv_has ls 9 [(4, .int kv), (3, .int (nI a)), (0, .ref (gA E 2 10 0)), (1, .ref (D 0 0)), (2, .int x)]) : W p l e (rmc 8 10 2000 130) s m (aAv E D x) below meth c H locs 0 0 (MQ below (nQa E F J n L D) (aAv E D x) s 10 2000 (gH E)) (F0 m 226 ls []) := by
  obtain ⟨K, hAO, hml, hr, hlocks, htb, hfl, hA⟩ := id X
  have hx := K.1
  have hb := K.2.1
  have hts := K.2.2.1
  have hown := K.2.2.2.1
  have hSt := K.2.2.2.2
  have hw0 := hj.w0
  refine lv_aload_n hx hb dL_act_226 rfl (lv_at hl 3 rfl) ?_
  refine sg_L_40 K hG dL_act_227 ?_
  refine lv_istore (lv' := [(6, .int (I 5 0 0 1)), (4, .int kv), (3, .int (nI a)), (0, .ref (gA E 2 10 0)), (1, .ref (D 0 0)), (2, .int x)]) hx hb dL_act_230 hl (by decide) rfl (fun ls hl => ?_)
  refine lv_aload_n hx hb dL_act_232 rfl (lv_at hl 4 rfl) ?_
  refine lv_iconst (v := 4) hx hb dL_act_233 (by decide) ?_
  refine lv_iload_n hx hb dL_act_234 rfl (lv_at hl 5 rfl) ?_
  refine lv_iconst (v := 4) hx hb dL_act_235 (by decide) ?_
  refine lv_ishr hx hb dL_act_236 ?_
  refine lv_iload_n hx hb dL_act_237 rfl (lv_at hl 5 rfl) ?_
  refine lv_bipush (v := 7) hx hb dL_act_238 (by decide) ?_
  refine lv_ishr hx hb dL_act_240 ?_
  refine lv_iconst (v := 3) hx hb dL_act_241 (by decide) ?_
  refine n_below K hAO hml hS (N := 3) rfl (by decide) (by decide) hl.1 (Nat.le_of_ble_eq_true rfl) ⟨by decide, by decide⟩ dL_act_242 ⟨by decide, by decide⟩ (fun q2 hq2 locs hS => ?_)
  refine lv_if_ne (tgt := 253) hx hb dL_act_245 (by decide) (fun h => ?_) (fun h => ?_)
  · refine lv_iconst (v := 5) hx hb dL_act_253 (by decide) ?_
    refine n_below K hAO hml hS (N := 5) rfl (by decide) (by decide) hl.1 (Nat.le_of_ble_eq_true rfl) ⟨by decide, by decide⟩ dL_act_254 ⟨by decide, by decide⟩ (fun q hq locs hS => ?_)
    refine lv_iadd hx hb dL_act_257 ?_
    rw [show ((4 + ((nI q))) : Int32) = nI (q + 4) from four_add q]
    refine l_put K hA hG hS 1 (by decide) (by decide) q669 rfl (by decide +kernel) dL_act_258 (fun I1 hI1 H locs hG hS => ?_)
    obtain ⟨x0, xv, x5, M, S, xj⟩ := hj.setFork (p := q + 4) (by omega) (by omega)
    rw [← hI1] at x0 xv x5 xj
    refine lv_aload_n hx hb dL_act_261 rfl (lv_at hl 3 rfl) ?_
    refine lv_aload_n hx hb dL_act_262 rfl (lv_at hl 4 rfl) ?_
    refine sg_L_40 K hG dL_act_263 ?_
    rw [show I1 5 0 0 1 = nI (q + 4) by rw [hI1, gU_at, u3_at]]
    have hw1 : wf (I1 0) := by rw [hI1, gU_ne _ _ _ _ _ (by decide)]; exact hw0
    refine l_kn hG (l_runVX (As := [.int (nI (q + 4))]) (rest := []) K hml ca_X4_setFork q637 (m_X4_setFork l E J I1 ((nI (q + 4))) hw1 hfl) hG.1 hS rfl rfl hl.1 (Nat.le_of_ble_eq_true rfl) ⟨by decide, by decide⟩ dL_act_266 ⟨by decide, by decide⟩) hS x5 x0 (fun H locs hG hS => ?_)
    rw [xv]
    refine lv_iload hx hb dL_act_269 (lv_at hl 0 rfl) ?_
    refine lv_icmp_ne (tgt := 278) hx hb dL_act_271 (by decide) (fun h => absurd rfl h) (fun _ => ?_)
    refine lv_iconst (v := 1) hx hb dL_act_274 (by decide) ?_
    refine lv_goto (tgt := 279) hx hb dL_act_275 (by decide) ?_
    exact a_ret X (hG.gh M S) rfl xj hS (Nat.le_of_ble_eq_true rfl) (Nat.le_of_ble_eq_true rfl) dL_act_279
  · refine lv_bipush (v := 57) hx hb dL_act_248 (by decide) ?_
    refine lv_goto (tgt := 254) hx hb dL_act_250 (by decide) ?_
    refine n_below K hAO hml hS (N := 57) rfl (by decide) (by decide) hl.1 (Nat.le_of_ble_eq_true rfl) ⟨by decide, by decide⟩ dL_act_254 ⟨by decide, by decide⟩ (fun q hq locs hS => ?_)
    refine lv_iadd hx hb dL_act_257 ?_
    rw [show ((4 + ((nI q))) : Int32) = nI (q + 4) from four_add q]
    refine l_put K hA hG hS 1 (by decide) (by decide) q669 rfl (by decide +kernel) dL_act_258 (fun I1 hI1 H locs hG hS => ?_)
    obtain ⟨x0, xv, x5, M, S, xj⟩ := hj.setFork (p := q + 4) (by omega) (by omega)
    rw [← hI1] at x0 xv x5 xj
    refine lv_aload_n hx hb dL_act_261 rfl (lv_at hl 3 rfl) ?_
    refine lv_aload_n hx hb dL_act_262 rfl (lv_at hl 4 rfl) ?_
    refine sg_L_40 K hG dL_act_263 ?_
    rw [show I1 5 0 0 1 = nI (q + 4) by rw [hI1, gU_at, u3_at]]
    have hw1 : wf (I1 0) := by rw [hI1, gU_ne _ _ _ _ _ (by decide)]; exact hw0
    refine l_kn hG (l_runVX (As := [.int (nI (q + 4))]) (rest := []) K hml ca_X4_setFork q637 (m_X4_setFork l E J I1 ((nI (q + 4))) hw1 hfl) hG.1 hS rfl rfl hl.1 (Nat.le_of_ble_eq_true rfl) ⟨by decide, by decide⟩ dL_act_266 ⟨by decide, by decide⟩) hS x5 x0 (fun H locs hG hS => ?_)
    rw [xv]
    refine lv_iload hx hb dL_act_269 (lv_at hl 0 rfl) ?_
    refine lv_icmp_ne (tgt := 278) hx hb dL_act_271 (by decide) (fun h => absurd rfl h) (fun _ => ?_)
    refine lv_iconst (v := 1) hx hb dL_act_274 (by decide) ?_
    refine lv_goto (tgt := 279) hx hb dL_act_275 (by decide) ?_
    exact a_ret X (hG.gh M S) rfl xj hS (Nat.le_of_ble_eq_true rfl) (Nat.le_of_ble_eq_true rfl) dL_act_279
/-- two carts change their places in the Sim's row -/
theorem act_carts {k k' : Nat} {pcx : Nat} (X : aX p l s m meth c E F D x) (hG : LW E F J D I H) (hS : va_S (gH E) s.heap H locs) (hk : k < cnt (I 5) 3) (hk' : k' < cnt (I 5) 3) (ne : k ≠ k') {Q : State → Prop} (hl : lv_has ls 9 [(7, .ref (D 3 k)), (6, .int (nI k')), (4, .int (nI k)), (3, .int (nI a)), (0, .ref (gA E 2 10 0)), (1, .ref (D 0 0)), (2, .int x)])
    (kk : ∀ (D1 : sD) (H1 : Heap) (locs1 : List Loc), D1 0 0 = D 0 0 → (∀ i, D1 1 i = D 1 i) → LW E F J D1 (gset I 5 (pSwap (I 5) k k')) H1 → va_S (gH E) s.heap H1 locs1 → W p l e (rmc 8 10 2000 130) s m (aAv E D x) below meth c H1 locs1 cells slots Q (F0 m 347 ls [])) : W p l e (rmc 8 10 2000 130) s m (aAv E D x) below meth c H locs cells slots Q (F0 m 324 ls []) := by
  obtain ⟨K, hAO, hml, hr, hlocks, htb, hfl, hA⟩ := id X
  have hx := K.1
  have hb := K.2.1
  have hts := K.2.2.1
  have hown := K.2.2.2.1
  have hSt := K.2.2.2.2
  have b3 := hG.b.cl 3
  obtain ⟨k4, k0, g1, g2, g3⟩ := hSt.outer hAO
  have hF := hG.2.1.2.2.1 1 3 (swv1 _ (by omega))
  have ck : (nI k).toNatClampNeg = k := nI_clamp (by omega)
  have ck' : (nI k').toNatClampNeg = k' := nI_clamp (by omega)
  have vk : vp_in (nI k) (cnt (I 5) 3) := vp_in_nI hk (by omega)
  have vk' : vp_in (nI k') (cnt (I 5) 3) := vp_in_nI hk' (by omega)
  refine lv_aload_n hx hb dL_act_324 rfl (lv_at hl 5 rfl) ?_
  refine sg_L_47 K hG dL_act_325 ?_
  refine lv_iload hx hb dL_act_328 (lv_at hl 2 rfl) ?_
  refine lv_aload_n hx hb dL_act_330 rfl (lv_at hl 5 rfl) ?_
  refine sg_L_47 K hG dL_act_331 ?_
  refine lv_iload hx hb dL_act_334 (lv_at hl 1 rfl) ?_
  refine s_aald K hG (t := 3) (by decide) vk' dL_act_336 ?_
  rw [ck']
  refine W.aast hx hb (hG.2.1.c1 (i := 3) (by omega)) (fun q h => by cases h) (fun h => by cases h) g1 g2 rfl g3 ⟨nI_pos (by omega), by show _ < (arrV _ _ _).slots.size; rw [arrV_size, ck]; exact hk⟩ (hG.2.1.cr (t := 3) (by omega) hk') (fun q h => by cases h) g3 (va_asg _ _) rfl rfl dL_act_337 fun H1 e1 z1 o1 => ?_
  have hS := hS.put (k := (nI k).toNatClampNeg) z1 o1 (hA _ hF)
  rw [arrV_store, ck] at e1
  obtain ⟨cell, q1, q2, q3, q4⟩ := hG.2.1.c0
  have n0 : D 0 0 ≠ D 1 3 := fun z => absurd (hG.2.1.2.1 _ _ _ _ (swv0 _) (swv1 _ (i := 3) (by omega)) z).1 (by decide)
  have nk : D 3 k ≠ D 1 3 := fun z => absurd (hG.2.1.2.1 _ _ _ _ (swvr (t := 3) (by omega) hk) (swv1 _ (i := 3) (by omega)) z).1 (by decide)
  obtain ⟨hSl, hfc, kC, hkC, hkind⟩ := hSt.K.1 5 _ rfl
  obtain ⟨cf, kf, fi, f, hi, hsl⟩ := hSl 3 (by decide)
  refine lv_aload_n hx hb dL_act_338 rfl (lv_at hl 5 rfl) ?_
  refine W.getf hx hb hown (hts _ q673) hi (u_facts hfc hkC (u_lays hts in_X5 (show 3 < 9 by decide)) hi).1 (by rw [o1 _ n0]; exact q1) (by rw [q3]; exact fun h => by cases h) (v := .ref (D 1 3)) (by rw [hsl, q4 3 (by decide)]; rfl) rfl rfl dL_act_339 ?_
  refine lv_iload hx hb dL_act_342 (lv_at hl 1 rfl) ?_
  refine lv_aload hx hb dL_act_344 (lv_at hl 0 rfl) ?_
  refine W.aast hx hb e1 (fun q h => by cases h) (fun h => by cases h) g1 g2 rfl g3 ⟨nI_pos (by omega), by show _ < (arrV _ _ _).slots.size; rw [arrV_size, ck']; exact hk'⟩ (by rw [o1 _ nk]; exact hG.2.1.cr (t := 3) (by omega) hk) (fun q h => by cases h) g3 (va_asg _ _) rfl rfl dL_act_346 fun H2 e2 z2 o2 => ?_
  have hS := hS.put (k := (nI k').toNatClampNeg) z2 o2 (hA _ hF)
  rw [arrV_store, ck'] at e2
  have oq : ∀ q, q ≠ D 1 3 → H2[q]? = H[q]? := fun q hq => (o2 q hq).trans (o1 q hq)
  exact kk _ H2 _ (by simp [u2]) (fun i => by simp [u2]) (hG.to hSt.ok (fun q hq => oq q (fun z => hq (by rw [z]; exact hF))) (hG.2.1.swap hk hk' ne e2 (by omega) oq)) hS

set_option maxHeartbeats 4000000 in
set_option maxRecDepth 100000 in
theorem act_swap (X : aX p l s m meth c E F D x) (hj : jR (n + 1) L I) (hL : L ≤ 4) (hG : LW E F J D I H) (hS : va_S (gH E) s.heap H locs) (ha : I 5 1 2 0 = nI a) (a6 : a ≤ 6) (hkv : (a = 0 ∧ kv = -1) ∨ ∃ k, k < a ∧ kv = nI k) (hl : lv_has ls 9 [(4, .int kv), (3, .int (nI a)), (0, .ref (gA E 2 10 0)), (1, .ref (D 0 0)), (2, .int x)]) : W p l e (rmc 8 10 2000 130) s m (aAv E D x) below meth c H locs 0 0 (MQ below (nQa E F J n L D) (aAv E D x) s 10 2000 (gH E)) (F0 m 280 ls []) := by
  obtain ⟨K, hAO, hml, hr, hlocks, htb, hfl, hA⟩ := id X
  have hx := K.1
  have hb := K.2.1
  have hts := K.2.2.1
  have hown := K.2.2.2.1
  have hSt := K.2.2.2.2
  have hw0 := hj.w0
  refine lv_iload_n hx hb dL_act_280 rfl (lv_at hl 1 rfl) ?_
  refine lv_iconst (v := 2) hx hb dL_act_281 (by decide) ?_
  refine lv_icmp_ge (tgt := 289) hx hb dL_act_282 (by decide) (fun h2 => ?_) (fun h2 => ?_)
  · have a2 : 2 ≤ a := Nat.not_lt.mp fun q => absurd h2 (nI_ge (b := 2) q (by decide))
    obtain ⟨k, hk, rfl⟩ : ∃ k, k < a ∧ kv = nI k := hkv.elim (fun h => absurd h.1 (by omega)) id
    refine lv_iload hx hb dL_act_289 (lv_at hl 0 rfl) ?_
    refine lv_iconst (v := 1) hx hb dL_act_291 (by decide) ?_
    refine lv_iadd hx hb dL_act_292 ?_
    rw [show ((((nI k)) + 1) : Int32) = nI (k + 1) from nI_1 k]
    refine lv_iload_n hx hb dL_act_293 rfl (lv_at hl 4 rfl) ?_
    refine lv_bipush (v := 6) hx hb dL_act_294 (by decide) ?_
    refine lv_ishr hx hb dL_act_296 ?_
    refine lv_iload_n hx hb dL_act_297 rfl (lv_at hl 1 rfl) ?_
    refine lv_iconst (v := 1) hx hb dL_act_298 (by decide) ?_
    refine lv_isub hx hb dL_act_299 ?_
    rw [show ((((nI a)) - 1) : Int32) = nI (a - 1) from zc_sub1 (by omega)]
    refine n_below K hAO hml hS (N := (a - 1)) rfl (by omega) (by omega) hl.1 (Nat.le_of_ble_eq_true rfl) ⟨by decide, by decide⟩ dL_act_300 ⟨by decide, by decide⟩ (fun q hq locs hS => ?_)
    refine lv_iadd hx hb dL_act_303 ?_
    rw [show ((((nI (k + 1))) + ((nI q))) : Int32) = nI (k + 1 + q) from nI_add (k + 1) q]
    refine lv_iload_n hx hb dL_act_304 rfl (lv_at hl 1 rfl) ?_
    refine lv_irem hx hb dL_act_305 (nI_ne0 (by omega) (by omega)) ?_
    rw [pk_rem (by omega) (by omega) (by omega)]
    obtain ⟨k', ek⟩ : ∃ k', (k + 1 + q) % a = k' := ⟨_, rfl⟩
    have hk' : k' < a := by rw [← ek]; exact Nat.mod_lt _ (by omega)
    have ne : k ≠ k' := by rw [← ek]; exact (Nat.lt_or_ge (k + 1 + q) a).elim (fun c z => by rw [Nat.mod_eq_of_lt c] at z; omega) (fun c z => by rw [Nat.mod_eq_sub_mod c, Nat.mod_eq_of_lt (by omega)] at z; omega)
    rw [ek]
    refine lv_istore (lv' := [(6, .int (nI k')), (4, .int (nI k)), (3, .int (nI a)), (0, .ref (gA E 2 10 0)), (1, .ref (D 0 0)), (2, .int x)]) hx hb dL_act_306 hl (by decide) rfl (fun ls hl => ?_)
    refine lv_iload hx hb dL_act_308 (lv_at hl 0 rfl) ?_
    refine lv_if_ge (tgt := 315) hx hb dL_act_310 (by decide) (fun _ => ?_) (fun h => absurd (nI_pos' (by omega)) h)
    obtain ⟨a0, b0, a06, -, v2, v3, -⟩ := hj.cnts
    have ea : a0 = a := by rw [ha] at v2; exact ((nI_eq (by omega) (by omega)).mp v2).symm
    subst ea
    have c3 : cnt (I 5) 3 = a0 := by show (I 5 1 3 0).toNatClampNeg = _; rw [v3, nI_clamp (by omega)]
    refine lv_aload_n hx hb dL_act_315 rfl (lv_at hl 4 rfl) ?_
    refine sg_L_47 K hG dL_act_316 ?_
    refine lv_iload hx hb dL_act_319 (lv_at hl 1 rfl) ?_
    refine s_aald K hG (t := 3) (by decide) (by rw [c3]; exact vp_in_nI hk (by omega)) dL_act_321 ?_
    rw [nI_clamp (show k < 2 ^ 31 by omega)]
    refine lv_astore (lv' := [(7, .ref (D 3 k)), (6, .int (nI k')), (4, .int (nI k)), (3, .int (nI a0)), (0, .ref (gA E 2 10 0)), (1, .ref (D 0 0)), (2, .int x)]) hx hb dL_act_322 hl (by decide) rfl (fun ls hl => ?_)
    refine act_carts (pcx := 0) X hG hS (by omega) (by omega) ne hl (fun D1 H locs d0 d1 hG hS => ?_)
    obtain ⟨x0, xv, x5, M, S, xj⟩ := hj.swap ha a6 hk hk' ne
    obtain ⟨I1, hI1⟩ : ∃ X, X = gset I 5 (pSwap (I 5) k k') := ⟨_, rfl⟩
    rw [← hI1] at x0 xv x5 xj hG
    have w5 : I1 5 = pSwap (I 5) k k' := by rw [hI1, gset_at]
    have hw1 : wf (I1 0) := by rw [hI1, gset_ne _ _ (by decide)]; exact hw0
    rw [← d0] at hl
    refine lv_aload_n hx hb dL_act_347 rfl (lv_at hl 4 rfl) ?_
    refine lv_iload hx hb dL_act_348 (lv_at hl 2 rfl) ?_
    refine lv_iload hx hb dL_act_350 (lv_at hl 1 rfl) ?_
    refine l_kn hG (l_runVX (As := [.int (nI k), .int (nI k')]) (rest := []) K hml ca_X4_swap q642 (m_X4_swap l E J I1 ((nI k)) ((nI k')) hw1 hfl) hG.1 hS rfl rfl hl.1 (Nat.le_of_ble_eq_true rfl) ⟨by decide, by decide⟩ dL_act_352 ⟨by decide, by decide⟩) hS (x5.trans w5.symm) x0 (fun H locs hG hS => ?_)
    rw [xv]
    obtain ⟨I2, hI2⟩ : ∃ X, X = f_X4_swap_s I1 (nI k) (nI k') := ⟨_, rfl⟩
    rw [← hI2] at x5 xj hG
    have c3' : cnt (I2 5) 3 = a0 := by rw [x5]; show (pSwap (I 5) k k' 1 3 0).toNatClampNeg = _; unfold pSwap; simp (disch := decide) only [u3_skip, urow_skip]; exact c3
    refine lv_aload_n hx hb dL_act_355 rfl (lv_at hl 5 rfl) ?_
    refine sg_L_47 K hG dL_act_356 ?_
    refine lv_iload hx hb dL_act_359 (lv_at hl 2 rfl) ?_
    refine s_aald K hG (t := 3) (by decide) (by rw [c3']; exact vp_in_nI hk (by omega)) dL_act_361 ?_
    rw [nI_clamp (show k < 2 ^ 31 by omega)]
    refine s_alen K hG (t := 3) (i := k) (v := nI (rln (pSwap (I 5) k k') 3 k)) (by decide) (by rw [c3']; exact hk) (by rw [x5]) dL_act_362 ?_
    refine lv_icmp_ne (tgt := 370) hx hb dL_act_363 (by decide) (fun h => absurd rfl h) (fun _ => ?_)
    refine lv_iconst (v := 1) hx hb dL_act_366 (by decide) ?_
    refine lv_goto (tgt := 371) hx hb dL_act_367 (by decide) ?_
    exact a_ret X (hG.gh M S) d0 xj hS (Nat.le_of_ble_eq_true rfl) (Nat.le_of_ble_eq_true rfl) dL_act_371
  · refine lv_iconst (v := (-1)) hx hb dL_act_285 (by decide) ?_
    refine lv_goto (tgt := 306) hx hb dL_act_286 (by decide) ?_
    refine lv_istore (lv' := [(6, .int (-1)), (4, .int kv), (3, .int (nI a)), (0, .ref (gA E 2 10 0)), (1, .ref (D 0 0)), (2, .int x)]) hx hb dL_act_306 hl (by decide) rfl (fun ls hl => ?_)
    refine lv_iload hx hb dL_act_308 (lv_at hl 0 rfl) ?_
    refine lv_if_ge (tgt := 315) hx hb dL_act_310 (by decide) (fun h => absurd h (by decide)) (fun _ => ?_)
    refine lv_iconst (v := 1) hx hb dL_act_313 (by decide) ?_
    exact a_ret X hG rfl hj.mono hS (Nat.le_of_ble_eq_true rfl) (Nat.le_of_ble_eq_true rfl) dL_act_314
set_option maxHeartbeats 4000000 in
set_option maxRecDepth 100000 in
theorem act_wake (X : aX p l s m meth c E F D x) (hj : jR (n + 1) L I) (hL : L ≤ 4) (hG : LW E F J D I H) (hS : va_S (gH E) s.heap H locs) (ha : I 5 1 2 0 = nI a) (a6 : a ≤ 6) (hkv : (a = 0 ∧ kv = -1) ∨ ∃ k, k < a ∧ kv = nI k) (hl : lv_has ls 9 [(4, .int kv), (3, .int (nI a)), (0, .ref (gA E 2 10 0)), (1, .ref (D 0 0)), (2, .int x)]) : W p l e (rmc 8 10 2000 130) s m (aAv E D x) below meth c H locs 0 0 (MQ below (nQa E F J n L D) (aAv E D x) s 10 2000 (gH E)) (F0 m 372 ls []) := by
  obtain ⟨K, hAO, hml, hr, hlocks, htb, hfl, hA⟩ := id X
  have hx := K.1
  have hb := K.2.1
  have hts := K.2.2.1
  have hown := K.2.2.2.1
  have hSt := K.2.2.2.2
  have hw0 := hj.w0
  refine lv_iload_n hx hb dL_act_372 rfl (lv_at hl 1 rfl) ?_
  refine lv_if_ne (tgt := 378) hx hb dL_act_373 (by decide) (fun h2 => ?_) (fun h2 => ?_)
  · obtain ⟨k, hk, rfl⟩ : ∃ k, k < a ∧ kv = nI k := hkv.elim (fun h => absurd (by rw [h.1]; rfl) h2) id
    have c2 : cnt (I 5) 2 = a := by show (I 5 1 2 0).toNatClampNeg = _; rw [ha, nI_clamp (by omega)]
    obtain ⟨W1, W2⟩ := hj.wake ha a6 hk
    refine lv_aload_n hx hb dL_act_378 rfl (lv_at hl 3 rfl) ?_
    refine sg_L_9 K hG dL_act_379 ?_
    refine lv_iload hx hb dL_act_382 (lv_at hl 0 rfl) ?_
    refine s_aald K hG (t := 2) (by decide) (by rw [c2]; exact vp_in_nI hk (by omega)) dL_act_384 ?_
    rw [nI_clamp (show k < 2 ^ 31 by omega)]
    refine lv_iconst (v := 2) hx hb dL_act_385 (by decide) ?_
    refine s_iald K hG (t := 2) (i := k) (by decide) (by rw [c2]; exact hk) (show vp_in (nI 2) 8 from vp_in_nI (by decide) (by decide)) dL_act_386 ?_
    rw [show (2 : Int32).toNatClampNeg = 2 from rfl]
    refine lv_iconst (v := 3) hx hb dL_act_387 (by decide) ?_
    refine lv_icmp_ne (tgt := 395) hx hb dL_act_388 (by decide) (fun h3 => ?_) (fun h3 => ?_)
    · refine lv_iconst (v := 0) hx hb dL_act_395 (by decide) ?_
      refine lv_istore (lv' := [(6, .int 0), (4, .int (nI k)), (3, .int (nI a)), (0, .ref (gA E 2 10 0)), (1, .ref (D 0 0)), (2, .int x)]) hx hb dL_act_396 hl (by decide) rfl (fun ls hl => ?_)
      refine lv_iload hx hb dL_act_398 (lv_at hl 0 rfl) ?_
      refine lv_if_eq (tgt := 413) hx hb dL_act_400 (by decide) (fun _ => ?_) (fun h => absurd rfl h)
      refine lv_aload_n hx hb dL_act_413 rfl (lv_at hl 3 rfl) ?_
      refine lv_iload hx hb dL_act_414 (lv_at hl 1 rfl) ?_
      have x2 := W2 h3
      refine l_kx hG (l_runVX (As := [.int (nI k)]) (rest := []) K hml ca_X4_wake q647 (m_X4_wake l E J I ((nI k)) hw0 hfl) hG.1 hS rfl rfl hl.1 (Nat.le_of_ble_eq_true rfl) ⟨by decide, by decide⟩ dL_act_416 ⟨by decide, by decide⟩) hS x5_wake (fun ce q9 H locs h0 hG hS hce hcv hcl => ?_) (fun h0 => absurd h0 (by rw [x2]; decide))
      rw [x2] at hcl
      refine vx_catch (own := "HayThievesLaw") (name := "java/lang/IllegalStateException") hown [⟨88, 96, 99, 27⟩, ⟨173, 181, 184, 27⟩] ⟨413, 421, 424, 27⟩ [] (by rw [htb]; rfl) (fun z hz => Or.inl (by simp only [List.mem_cons, List.not_mem_nil, or_false] at hz; rcases hz with rfl | rfl <;> rfl)) rfl (by decide) (hts _ q589) (hSt.nest qc_2) hce hcv hcl ?_
      refine lv_astore (lv' := [(7, .ref q9), (6, .int 0), (4, .int (nI k)), (3, .int (nI a)), (0, .ref (gA E 2 10 0)), (1, .ref (D 0 0)), (2, .int x)]) hx hb dL_act_424 hl (by decide) rfl (fun ls hl => ?_)
      refine lv_iconst (v := (-1)) hx hb dL_act_426 (by decide) ?_
      refine lv_istore (lv' := [(5, .int (-1)), (7, .ref q9), (6, .int 0), (4, .int (nI k)), (3, .int (nI a)), (0, .ref (gA E 2 10 0)), (1, .ref (D 0 0)), (2, .int x)]) hx hb dL_act_427 hl (by decide) rfl (fun ls hl => ?_)
      refine lv_iload hx hb dL_act_429 (lv_at hl 0 rfl) ?_
      refine lv_iload hx hb dL_act_431 (lv_at hl 2 rfl) ?_
      refine lv_if_eq (tgt := 446) hx hb dL_act_433 (by decide) (fun _ => ?_) (fun h => absurd rfl h)
      refine lv_iconst (v := (-1)) hx hb dL_act_446 (by decide) ?_
      refine lv_icmp_ne (tgt := 454) hx hb dL_act_447 (by decide) (fun h => absurd rfl h) (fun _ => ?_)
      refine lv_iconst (v := 1) hx hb dL_act_450 (by decide) ?_
      refine lv_goto (tgt := 455) hx hb dL_act_451 (by decide) ?_
      exact a_ret X hG rfl hj.mono hS (Nat.le_of_ble_eq_true rfl) (Nat.le_of_ble_eq_true rfl) dL_act_455
    · refine lv_iconst (v := 1) hx hb dL_act_391 (by decide) ?_
      refine lv_goto (tgt := 396) hx hb dL_act_392 (by decide) ?_
      refine lv_istore (lv' := [(6, .int 1), (4, .int (nI k)), (3, .int (nI a)), (0, .ref (gA E 2 10 0)), (1, .ref (D 0 0)), (2, .int x)]) hx hb dL_act_396 hl (by decide) rfl (fun ls hl => ?_)
      refine lv_iload hx hb dL_act_398 (lv_at hl 0 rfl) ?_
      refine lv_if_eq (tgt := 413) hx hb dL_act_400 (by decide) (fun h => absurd h (by decide)) (fun _ => ?_)
      refine lv_aload_n hx hb dL_act_403 rfl (lv_at hl 4 rfl) ?_
      refine sg_L_9 K hG dL_act_404 ?_
      refine lv_iload hx hb dL_act_407 (lv_at hl 1 rfl) ?_
      refine s_aald K hG (t := 2) (by decide) (by rw [c2]; exact vp_in_nI hk (by omega)) dL_act_409 ?_
      rw [nI_clamp (show k < 2 ^ 31 by omega)]
      refine lv_iconst (v := 2) hx hb dL_act_410 (by decide) ?_
      refine lv_iconst (v := 0) hx hb dL_act_411 (by decide) ?_
      refine l_iast K hA hG hS (t := 2) (i := k) (by decide) (by rw [c2]; exact hk) (show vp_in (nI 2) 8 from vp_in_nI (by decide) (by decide)) dL_act_412 (fun I1 hI1 H locs hG hS => ?_)
      rw [show (2 : Int32).toNatClampNeg = 2 from rfl] at hI1
      obtain ⟨x0, xv, x5, M, S, xj⟩ := W1 h3
      rw [← hI1] at x0 xv x5 xj
      have hw1 : wf (I1 0) := by rw [hI1, gU_ne _ _ _ _ _ (by decide)]; exact hw0
      refine lv_aload_n hx hb dL_act_413 rfl (lv_at hl 3 rfl) ?_
      refine lv_iload hx hb dL_act_414 (lv_at hl 1 rfl) ?_
      refine l_kn hG (l_runVX (As := [.int (nI k)]) (rest := []) K hml ca_X4_wake q647 (m_X4_wake l E J I1 ((nI k)) hw1 hfl) hG.1 hS rfl rfl hl.1 (Nat.le_of_ble_eq_true rfl) ⟨by decide, by decide⟩ dL_act_416 ⟨by decide, by decide⟩) hS x5 x0 (fun H locs hG hS => ?_)
      have hG := hG.gh M S
      obtain ⟨I2, hI2⟩ : ∃ X, X = gGh (f_X4_wake_s I1 (nI k)) M S := ⟨_, rfl⟩
      rw [← hI2] at xj hG
      obtain ⟨o1, v9, cw, cj, -⟩ := xj.counts (by omega)
      have xw : f_X4_wake_v I1 (nI k) = f_S_counts I2 5 9 L 6 := by rw [cw 6 (by decide), xv]; exact (zy_X3 (by rw [hI2]; exact gGh_ne _ _ _ (by decide) (by decide)) _).symm
      have c9 : cnt (I2 5) 9 = L := by show (I2 5 1 9 0).toNatClampNeg = _; rw [v9, nI_clamp (by omega)]
      refine lv_istore (lv' := [(5, .int (f_X4_wake_v I1 (nI k))), (6, .int 1), (4, .int (nI k)), (3, .int (nI a)), (0, .ref (gA E 2 10 0)), (1, .ref (D 0 0)), (2, .int x)]) hx hb dL_act_419 hl (by decide) rfl (fun ls hl => ?_)
      refine lv_goto (tgt := 429) hx hb dL_act_421 (by decide) ?_
      refine lv_iload hx hb dL_act_429 (lv_at hl 0 rfl) ?_
      refine lv_iload hx hb dL_act_431 (lv_at hl 1 rfl) ?_
      refine lv_if_eq (tgt := 446) hx hb dL_act_433 (by decide) (fun h => absurd h (by decide)) (fun _ => ?_)
      refine lv_aload_n hx hb dL_act_436 rfl (lv_at hl 5 rfl) ?_
      refine l_sr hA (s_runV (As := []) (rest := [.int (f_X4_wake_v I1 (nI k))]) K hAO gH_ge hml ca_X5_counts q653 (m_S_counts l E F J D I2 hA o1.1) hG hG hS rfl rfl hl.1 (Nat.le_of_ble_eq_true rfl) ⟨by decide, by decide⟩ dL_act_437 ⟨by decide, by decide⟩) hS (fun D1 hD1 H locs hG hS => ?_)
      refine lv_bipush (v := 6) hx hb dL_act_440 (by decide) ?_
      refine s_iald K hG (t := 9) (by decide) (by rw [o1.2.1]; omega) (by rw [o1.2.2]; exact show vp_in (nI 6) 13 from vp_in_nI (by decide) (by decide)) dL_act_442 ?_
      rw [show (6 : Int32).toNatClampNeg = 6 from rfl, c9]
      have hG := hG.drop hSt.ok (q := cnt (I2 5) 9) (by rw [o1.2.1]; omega)
      have hG : LW E F J D1 (f_S_go_a I2) H := hG
      refine lv_goto (tgt := 447) hx hb dL_act_443 (by decide) ?_
      refine lv_icmp_ne (tgt := 454) hx hb dL_act_447 (by decide) (fun h => absurd xw h) (fun _ => ?_)
      refine lv_iconst (v := 1) hx hb dL_act_450 (by decide) ?_
      refine lv_goto (tgt := 455) hx hb dL_act_451 (by decide) ?_
      exact a_ret X hG hD1.1 cj hS (Nat.le_of_ble_eq_true rfl) (Nat.le_of_ble_eq_true rfl) dL_act_455
  · refine lv_iconst (v := 1) hx hb dL_act_376 (by decide) ?_
    exact a_ret X hG rfl hj.mono hS (Nat.le_of_ble_eq_true rfl) (Nat.le_of_ble_eq_true rfl) dL_act_377
set_option maxHeartbeats 4000000 in
set_option maxRecDepth 100000 in
theorem act_way (X : aX p l s m meth c E F D x) (hj : jR (n + 1) L I) (hL : L ≤ 4) (hG : LW E F J D I H) (hS : va_S (gH E) s.heap H locs) (ha : I 5 1 2 0 = nI a) (a6 : a ≤ 6) (hkv : (a = 0 ∧ kv = -1) ∨ ∃ k, k < a ∧ kv = nI k) (hl : lv_has ls 9 [(4, .int kv), (3, .int (nI a)), (0, .ref (gA E 2 10 0)), (1, .ref (D 0 0)), (2, .int x)]) : W p l e (rmc 8 10 2000 130) s m (aAv E D x) below meth c H locs 0 0 (MQ below (nQa E F J n L D) (aAv E D x) s 10 2000 (gH E)) (F0 m 456 ls []) := by
  obtain ⟨K, hAO, hml, hr, hlocks, htb, hfl, hA⟩ := id X
  have hx := K.1
  have hb := K.2.1
  have hts := K.2.2.1
  have hown := K.2.2.2.1
  have hSt := K.2.2.2.2
  have hw0 := hj.w0
  refine lv_iload_n hx hb dL_act_456 rfl (lv_at hl 1 rfl) ?_
  refine lv_if_ne (tgt := 462) hx hb dL_act_457 (by decide) (fun h2 => ?_) (fun h2 => ?_)
  · obtain ⟨k, hk, rfl⟩ : ∃ k, k < a ∧ kv = nI k := hkv.elim (fun h => absurd (by rw [h.1]; rfl) h2) id
    have c2 : cnt (I 5) 2 = a := by show (I 5 1 2 0).toNatClampNeg = _; rw [ha, nI_clamp (by omega)]
    refine lv_aload_n hx hb dL_act_462 rfl (lv_at hl 3 rfl) ?_
    refine sg_L_9 K hG dL_act_463 ?_
    refine lv_iload hx hb dL_act_466 (lv_at hl 0 rfl) ?_
    refine s_aald K hG (t := 2) (by decide) (by rw [c2]; exact vp_in_nI hk (by omega)) dL_act_468 ?_
    rw [nI_clamp (show k < 2 ^ 31 by omega)]
    refine lv_iconst (v := 1) hx hb dL_act_469 (by decide) ?_
    refine s_iald K hG (t := 2) (i := k) (by decide) (by rw [c2]; exact hk) (show vp_in (nI 1) 8 from vp_in_nI (by decide) (by decide)) dL_act_470 ?_
    rw [show (1 : Int32).toNatClampNeg = 1 from rfl]
    refine lv_istore (lv' := [(6, .int (I 5 2 k 1)), (4, .int (nI k)), (3, .int (nI a)), (0, .ref (gA E 2 10 0)), (1, .ref (D 0 0)), (2, .int x)]) hx hb dL_act_471 hl (by decide) rfl (fun ls hl => ?_)
    refine lv_aload_n hx hb dL_act_473 rfl (lv_at hl 4 rfl) ?_
    refine sg_L_9 K hG dL_act_474 ?_
    refine lv_iload hx hb dL_act_477 (lv_at hl 1 rfl) ?_
    refine s_aald K hG (t := 2) (by decide) (by rw [c2]; exact vp_in_nI hk (by omega)) dL_act_479 ?_
    rw [nI_clamp (show k < 2 ^ 31 by omega)]
    refine lv_iconst (v := 1) hx hb dL_act_480 (by decide) ?_
    refine lv_iload_n hx hb dL_act_481 rfl (lv_at hl 5 rfl) ?_
    refine lv_bipush (v := 6) hx hb dL_act_482 (by decide) ?_
    refine lv_ishr hx hb dL_act_484 ?_
    refine lv_iconst (v := 3) hx hb dL_act_485 (by decide) ?_
    refine n_below K hAO hml hS (N := 3) rfl (by decide) (by decide) hl.1 (Nat.le_of_ble_eq_true rfl) ⟨by decide, by decide⟩ dL_act_486 ⟨by decide, by decide⟩ (fun q hq locs hS => ?_)
    refine l_iast K hA hG hS (t := 2) (i := k) (by decide) (by rw [c2]; exact hk) (show vp_in (nI 1) 8 from vp_in_nI (by decide) (by decide)) dL_act_489 (fun I1 hI1 H locs hG hS => ?_)
    rw [show (1 : Int32).toNatClampNeg = 1 from rfl] at hI1
    obtain ⟨x0, xv, x5, M, S, xj⟩ := hj.setWay (p := q) ha a6 hk hq
    rw [← hI1] at x0 xv x5 xj
    have hw1 : wf (I1 0) := by rw [hI1, gU_ne _ _ _ _ _ (by decide)]; exact hw0
    have c2' : cnt (I1 5) 2 = a := by rw [hI1, gU_at, cnt_u3 (by decide)]; exact c2
    refine lv_aload_n hx hb dL_act_490 rfl (lv_at hl 3 rfl) ?_
    refine lv_iload hx hb dL_act_491 (lv_at hl 1 rfl) ?_
    refine lv_aload_n hx hb dL_act_493 rfl (lv_at hl 4 rfl) ?_
    refine sg_L_9 K hG dL_act_494 ?_
    refine lv_iload hx hb dL_act_497 (lv_at hl 1 rfl) ?_
    refine s_aald K hG (t := 2) (by decide) (by rw [c2']; exact vp_in_nI hk (by omega)) dL_act_499 ?_
    rw [nI_clamp (show k < 2 ^ 31 by omega)]
    refine lv_iconst (v := 1) hx hb dL_act_500 (by decide) ?_
    refine s_iald K hG (t := 2) (i := k) (by decide) (by rw [c2']; exact hk) (show vp_in (nI 1) 8 from vp_in_nI (by decide) (by decide)) dL_act_501 ?_
    rw [show (1 : Int32).toNatClampNeg = 1 from rfl]
    rw [show I1 5 2 k 1 = nI q by rw [hI1, gU_at, u3_at]]
    refine l_kn hG (l_runVX (As := [.int (nI k), .int (nI q)]) (rest := []) K hml ca_X4_setWay q654 (m_X4_setWay l E J I1 ((nI k)) ((nI q)) hw1 hfl) hG.1 hS rfl rfl hl.1 (Nat.le_of_ble_eq_true rfl) ⟨by decide, by decide⟩ dL_act_502 ⟨by decide, by decide⟩) hS x5 x0 (fun H locs hG hS => ?_)
    rw [xv]
    refine lv_iload hx hb dL_act_505 (lv_at hl 0 rfl) ?_
    refine lv_icmp_ne (tgt := 514) hx hb dL_act_507 (by decide) (fun h => absurd rfl h) (fun _ => ?_)
    refine lv_iconst (v := 1) hx hb dL_act_510 (by decide) ?_
    refine lv_goto (tgt := 515) hx hb dL_act_511 (by decide) ?_
    exact a_ret X (hG.gh M S) rfl xj hS (Nat.le_of_ble_eq_true rfl) (Nat.le_of_ble_eq_true rfl) dL_act_515
  · refine lv_iconst (v := 1) hx hb dL_act_460 (by decide) ?_
    exact a_ret X hG rfl hj.mono hS (Nat.le_of_ble_eq_true rfl) (Nat.le_of_ble_eq_true rfl) dL_act_461
end AC
