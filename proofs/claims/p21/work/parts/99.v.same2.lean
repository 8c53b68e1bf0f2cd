/-! PRINTED by wip/gen21/same.py: THE SIM'S isSame, piece by piece -/
theorem dd_cmp {x : UInt64} (h : vf_n64 x) (op : CmpOp) : Op.cmpValue (FP.dcmp x x) op = 0 := by
  rw [show FP.dcmp x x = some .eq from Jvm.FP.Core.dcmp_self (Jvm.Free.Fl.val64_no.mp h)]
  rfl
theorem dd_0 : vf_n64 FP.dconst0 := by
  unfold vf_n64
  decide
theorem jR.cts {n L : Nat} {I : gI} (h : jR n L I) (hL : L < 290) : jR n (L + 1) (f_S_counts I) := by
  obtain ⟨K, A, t, hR, hK, h3, h4, h5, hf, hw0, hw1, hcc, ht, hzh, hzX, hs⟩ := h
  obtain ⟨a1, a2, a3⟩ := zs_counts hR.2.1 hR.2.2.2 hzh.zg hs hL (by omega)
  refine ⟨K, A, t, ?_⟩
  rw [ne_S_counts _ (show 0 ≠ 5 by decide), ne_S_counts _ (show 1 ≠ 5 by decide), ne_S_counts _ (show 2 ≠ 5 by decide), ne_S_counts _ (show 3 ≠ 5 by decide)]
  exact ⟨hR, hK, h3, h4, h5, hf, hw0, hw1, hcc, ht, hzh, hzX, (hs.n9 (L' := L + 1)).al a2⟩
abbrev eRm : Room := rmc 8 400 2400 126
section SS
variable {p : Program} {l : Launch} {e : Env} {s : State} {m : MethodId} {args : Array Value} {below : List Frame} {meth : Method} {c : Code} {Q : State → Prop}
variable {E : gE} {F : Nat → Prop} {J : Int64} {D : sD} {I : gI} {a b k rc : Nat} {t : Int32}
/-- what holds all along isSame -/
def eX (p : Program) (l : Launch) (s : State) (m : MethodId) (c : Code) (E : gE) (F : Nat → Prop) (I : gI) (args : Array Value) : Prop :=
  kx E p m c cX5_isSame "HayThievesLaw$Sim" args s ∧ va_AOA s ∧ c.maxLocals = 9 ∧ l.stackTraces = false ∧ (∀ q, F q → gN E ≤ q) ∧ wf (I 0)
theorem vpi_lt {x : Int32} {n : Nat} (h : vp_in x n) : x.toNatClampNeg < n := Nat.not_le.mp fun q => h (Or.inr q)

set_option maxHeartbeats 4000000 in
set_option maxRecDepth 100000 in
theorem sm_told (X : eX p l s m c E F I args) {H : Heap} {locs : List Loc} {cells slots : Nat} {ls : Array Slot} (hk : k < a) (a6 : a ≤ 6) (c2 : cnt (I 5) 2 = a) (c3 : cnt (I 5) 3 = a) (hJ : jLad I k) (hG : LV E F J D I [] H) (hS : va_S (gH E) s.heap H locs) (hl : lv_has ls 9 [(4, .int (nI k)), (3, .int t), (2, .ref rc), (0, .ref (D 0 0)), (1, .ref (gA E 2 10 0))]) (hc : cells + 1 ≤ 400) (hs : slots + 9 ≤ 2400)
    (kk : ∀ (a9 : Nat) (f : Nat → Int32) (bz : Int32) (H : Heap) (locs : List Loc) (ls : Array Slot), (∀ w, w < 9 → f w = f_X1_tell I 0 k (nI w)) → LV E (fun q => F q ∧ q ≠ a9) J D I [(a9, 9, f)] H → va_S (gH E) s.heap H locs → lv_has ls 9 [(7, .ref a9), (6, .int bz), (5, .ref (D 2 k)), (4, .int (nI k)), (3, .int t), (2, .ref rc), (0, .ref (D 0 0)), (1, .ref (gA E 2 10 0))] → W p l e eRm s m args below meth c H locs (cells + 1) (slots + 9) Q (F0 m 193 ls [])) : W p l e eRm s m args below meth c H locs (cells) (slots) Q (F0 m 48 ls []) := by
  obtain ⟨K, hAO, hml, hfl, hA, hw0⟩ := id X
  have hx := K.1
  have hb := K.2.1
  have hts := K.2.2.1
  have hown := K.2.2.2.1
  have hSt := K.2.2.2.2
  obtain ⟨⟨v0, v1, v2, v3, v5, v6, v7⟩, y4, yv, n4, y8, n8, -, -⟩ := hJ
  refine lv_aload_n hx hb dX5_isSame_48 rfl (lv_at hl 3 rfl) ?_
  refine sg_X5_15 K hG.1 dX5_isSame_49 ?_
  refine lv_iload hx hb dX5_isSame_52 (lv_at hl 0 rfl) ?_
  refine s_aald K hG.1 (t := 2) (by decide) (by rw [c2]; exact vp_in_nI hk (by omega)) dX5_isSame_54 ?_
  rw [nI_clamp (show k < 2 ^ 31 by omega)]
  refine lv_astore (lv' := [(5, .ref (D 2 k)), (4, .int (nI k)), (3, .int t), (2, .ref rc), (0, .ref (D 0 0)), (1, .ref (gA E 2 10 0))]) hx hb dX5_isSame_55 hl (by decide) rfl (fun ls hl => ?_)
  refine lv_aload hx hb dX5_isSame_57 (lv_at hl 0 rfl) ?_
  refine lv_iconst (v := 2) hx hb dX5_isSame_59 (by decide) ?_
  refine s_iald K hG.1 (t := 2) (i := k) (by decide) (by rw [c2]; exact hk) (show vp_in (nI 2) 8 from vp_in_nI (by decide) (by decide)) dX5_isSame_60 ?_
  rw [show (2 : Int32).toNatClampNeg = 2 from rfl]
  refine lv_iconst (v := 1) hx hb dX5_isSame_61 (by decide) ?_
  have j6 : ∀ bz : Int32, ((bz = 1 ∧ (I 5 2 k 2 = 1 ∨ I 5 2 k 2 = 2)) ∨ (bz = 0 ∧ ¬ (I 5 2 k 2 = 1 ∨ I 5 2 k 2 = 2))) → W p l e eRm s m args below meth c H locs (cells) (slots) Q (F0 m 78 ls [.int bz]) := by
    intro bz hz
    refine lv_istore (lv' := [(6, .int bz), (5, .ref (D 2 k)), (4, .int (nI k)), (3, .int t), (2, .ref rc), (0, .ref (D 0 0)), (1, .ref (gA E 2 10 0))]) hx hb dX5_isSame_78 hl (by decide) rfl (fun ls hl => ?_)
    refine lv_bipush (v := 9) hx hb dX5_isSame_80 (by decide) ?_
    refine v_newi K hA hG hS (N := 9) rfl (by decide) hc hs dX5_isSame_82 (fun a9 H hG hS => ?_)
    refine lv_dup hx hb dX5_isSame_84 rfl ?_
    refine lv_iconst (v := 0) hx hb dX5_isSame_85 (by decide) ?_
    refine lv_aload hx hb dX5_isSame_86 (lv_at hl 1 rfl) ?_
    refine lv_iconst (v := 0) hx hb dX5_isSame_88 (by decide) ?_
    refine s_iald K hG.1 (t := 2) (i := k) (by decide) (by rw [c2]; exact hk) (show vp_in (nI 0) 8 from vp_in_nI (by decide) (by decide)) dX5_isSame_89 ?_
    rw [show (0 : Int32).toNatClampNeg = 0 from rfl]
    refine v_iast K hG hS (show vp_in (nI 0) 9 from vp_in_nI (by decide) (by decide)) dX5_isSame_90 (fun H locs hG hS => ?_)
    rw [show (0 : Int32).toNatClampNeg = 0 from rfl] at hG
    refine lv_dup hx hb dX5_isSame_91 rfl ?_
    refine lv_iconst (v := 1) hx hb dX5_isSame_92 (by decide) ?_
    refine lv_aload hx hb dX5_isSame_93 (lv_at hl 1 rfl) ?_
    refine lv_iconst (v := 1) hx hb dX5_isSame_95 (by decide) ?_
    refine s_iald K hG.1 (t := 2) (i := k) (by decide) (by rw [c2]; exact hk) (show vp_in (nI 1) 8 from vp_in_nI (by decide) (by decide)) dX5_isSame_96 ?_
    rw [show (1 : Int32).toNatClampNeg = 1 from rfl]
    refine v_iast K hG hS (show vp_in (nI 1) 9 from vp_in_nI (by decide) (by decide)) dX5_isSame_97 (fun H locs hG hS => ?_)
    rw [show (1 : Int32).toNatClampNeg = 1 from rfl] at hG
    refine lv_dup hx hb dX5_isSame_98 rfl ?_
    refine lv_iconst (v := 2) hx hb dX5_isSame_99 (by decide) ?_
    refine lv_aload_n hx hb dX5_isSame_100 rfl (lv_at hl 5 rfl) ?_
    refine sg_X5_19 K hG.1 dX5_isSame_101 ?_
    refine lv_iload hx hb dX5_isSame_104 (lv_at hl 2 rfl) ?_
    refine s_aald K hG.1 (t := 3) (by decide) (by rw [c3]; exact vp_in_nI hk (by omega)) dX5_isSame_106 ?_
    rw [nI_clamp (show k < 2 ^ 31 by omega)]
    refine s_alen K hG.1 (t := 3) (i := k) (v := nI (rln (I 5) 3 k)) (by decide) (by rw [c3]; exact hk) rfl dX5_isSame_107 ?_
    refine v_iast K hG hS (show vp_in (nI 2) 9 from vp_in_nI (by decide) (by decide)) dX5_isSame_108 (fun H locs hG hS => ?_)
    rw [show (2 : Int32).toNatClampNeg = 2 from rfl] at hG
    refine lv_dup hx hb dX5_isSame_109 rfl ?_
    refine lv_iconst (v := 3) hx hb dX5_isSame_110 (by decide) ?_
    refine lv_aload hx hb dX5_isSame_111 (lv_at hl 1 rfl) ?_
    refine lv_iconst (v := 2) hx hb dX5_isSame_113 (by decide) ?_
    refine s_iald K hG.1 (t := 2) (i := k) (by decide) (by rw [c2]; exact hk) (show vp_in (nI 2) 8 from vp_in_nI (by decide) (by decide)) dX5_isSame_114 ?_
    rw [show (2 : Int32).toNatClampNeg = 2 from rfl]
    refine v_iast K hG hS (show vp_in (nI 3) 9 from vp_in_nI (by decide) (by decide)) dX5_isSame_115 (fun H locs hG hS => ?_)
    rw [show (3 : Int32).toNatClampNeg = 3 from rfl] at hG
    refine lv_dup hx hb dX5_isSame_116 rfl ?_
    refine lv_iconst (v := 4) hx hb dX5_isSame_117 (by decide) ?_
    refine lv_aload hx hb dX5_isSame_118 (lv_at hl 1 rfl) ?_
    refine lv_iconst (v := 2) hx hb dX5_isSame_120 (by decide) ?_
    refine s_iald K hG.1 (t := 2) (i := k) (by decide) (by rw [c2]; exact hk) (show vp_in (nI 2) 8 from vp_in_nI (by decide) (by decide)) dX5_isSame_121 ?_
    rw [show (2 : Int32).toNatClampNeg = 2 from rfl]
    refine lv_iconst (v := 1) hx hb dX5_isSame_122 (by decide) ?_
    have j4 : W p l e eRm s m args below meth c H locs (cells + 1) (slots + 9) Q (F0 m 141 ls [.int (f_X1_tell I 0 k 4), .int 4, .ref a9, .ref a9]) := by
      refine v_iast K hG hS (show vp_in (nI 4) 9 from vp_in_nI (by decide) (by decide)) dX5_isSame_141 (fun H locs hG hS => ?_)
      rw [show (4 : Int32).toNatClampNeg = 4 from rfl] at hG
      refine lv_dup hx hb dX5_isSame_142 rfl ?_
      refine lv_iconst (v := 5) hx hb dX5_isSame_143 (by decide) ?_
      refine lv_aload hx hb dX5_isSame_144 (lv_at hl 1 rfl) ?_
      refine lv_iconst (v := 5) hx hb dX5_isSame_146 (by decide) ?_
      refine s_iald K hG.1 (t := 2) (i := k) (by decide) (by rw [c2]; exact hk) (show vp_in (nI 5) 8 from vp_in_nI (by decide) (by decide)) dX5_isSame_147 ?_
      rw [show (5 : Int32).toNatClampNeg = 5 from rfl]
      refine v_iast K hG hS (show vp_in (nI 5) 9 from vp_in_nI (by decide) (by decide)) dX5_isSame_148 (fun H locs hG hS => ?_)
      rw [show (5 : Int32).toNatClampNeg = 5 from rfl] at hG
      refine lv_dup hx hb dX5_isSame_149 rfl ?_
      refine lv_bipush (v := 6) hx hb dX5_isSame_150 (by decide) ?_
      refine lv_aload hx hb dX5_isSame_152 (lv_at hl 1 rfl) ?_
      refine lv_bipush (v := 6) hx hb dX5_isSame_154 (by decide) ?_
      refine s_iald K hG.1 (t := 2) (i := k) (by decide) (by rw [c2]; exact hk) (show vp_in (nI 6) 8 from vp_in_nI (by decide) (by decide)) dX5_isSame_156 ?_
      rw [show (6 : Int32).toNatClampNeg = 6 from rfl]
      refine v_iast K hG hS (show vp_in (nI 6) 9 from vp_in_nI (by decide) (by decide)) dX5_isSame_157 (fun H locs hG hS => ?_)
      rw [show (6 : Int32).toNatClampNeg = 6 from rfl] at hG
      refine lv_dup hx hb dX5_isSame_158 rfl ?_
      refine lv_bipush (v := 7) hx hb dX5_isSame_159 (by decide) ?_
      refine lv_aload hx hb dX5_isSame_161 (lv_at hl 1 rfl) ?_
      refine lv_bipush (v := 7) hx hb dX5_isSame_163 (by decide) ?_
      refine s_iald K hG.1 (t := 2) (i := k) (by decide) (by rw [c2]; exact hk) (show vp_in (nI 7) 8 from vp_in_nI (by decide) (by decide)) dX5_isSame_165 ?_
      rw [show (7 : Int32).toNatClampNeg = 7 from rfl]
      refine v_iast K hG hS (show vp_in (nI 7) 9 from vp_in_nI (by decide) (by decide)) dX5_isSame_166 (fun H locs hG hS => ?_)
      rw [show (7 : Int32).toNatClampNeg = 7 from rfl] at hG
      refine lv_dup hx hb dX5_isSame_167 rfl ?_
      refine lv_bipush (v := 8) hx hb dX5_isSame_168 (by decide) ?_
      refine lv_iload hx hb dX5_isSame_170 (lv_at hl 0 rfl) ?_
      have j8 : W p l e eRm s m args below meth c H locs (cells + 1) (slots + 9) Q (F0 m 190 ls [.int (f_X1_tell I 0 k 8), .int 8, .ref a9, .ref a9]) := by
        refine v_iast K hG hS (show vp_in (nI 8) 9 from vp_in_nI (by decide) (by decide)) dX5_isSame_190 (fun H locs hG hS => ?_)
        rw [show (8 : Int32).toNatClampNeg = 8 from rfl] at hG
        refine lv_astore (lv' := [(7, .ref a9), (6, .int bz), (5, .ref (D 2 k)), (4, .int (nI k)), (3, .int t), (2, .ref rc), (0, .ref (D 0 0)), (1, .ref (gA E 2 10 0))]) hx hb dX5_isSame_191 hl (by decide) rfl (fun ls hl => ?_)
        refine kk a9 _ bz H locs ls (fun q hq => ?_) hG hS hl
        rcases (show q = 0 ∨ q = 1 ∨ q = 2 ∨ q = 3 ∨ q = 4 ∨ q = 5 ∨ q = 6 ∨ q = 7 ∨ q = 8 by omega) with e | e | e | e | e | e | e | e | e <;> subst e
        · exact v0
        · exact v1
        · exact v2
        · exact v3
        · exact (rfl : f_X1_tell I 0 k 4 = f_X1_tell I 0 k 4)
        · exact v5
        · exact v6
        · exact v7
        · exact (rfl : f_X1_tell I 0 k 8 = f_X1_tell I 0 k 8)
      refine lv_if_eq (tgt := 189) hx hb dX5_isSame_172 (by decide) (fun h8 => ?_) (fun h8 => ?_)
      · have nb : ¬ (I 5 2 k 2 = 1 ∨ I 5 2 k 2 = 2) := hz.elim (fun q => absurd (h8 ▸ q.1 : (0 : Int32) = 1) (by decide)) (fun q => q.2)
        refine lv_iconst (v := (-1)) hx hb dX5_isSame_189 (by decide) ?_
        rw [← n8 nb]
        exact j8
      · have nb : I 5 2 k 2 = 1 ∨ I 5 2 k 2 = 2 := hz.elim (fun q => q.2) (fun q => absurd q.1 h8)
        have hi := yv nb
        refine lv_aload_n hx hb dX5_isSame_175 rfl (lv_at hl 5 rfl) ?_
        refine sg_X5_25 K hG.1 dX5_isSame_176 ?_
        refine lv_aload hx hb dX5_isSame_179 (lv_at hl 1 rfl) ?_
        refine lv_iconst (v := 3) hx hb dX5_isSame_181 (by decide) ?_
        refine s_iald K hG.1 (t := 2) (i := k) (by decide) (by rw [c2]; exact hk) (show vp_in (nI 3) 8 from vp_in_nI (by decide) (by decide)) dX5_isSame_182 ?_
        rw [show (3 : Int32).toNatClampNeg = 3 from rfl]
        refine s_aald K hG.1 (t := 5) (by decide) hi dX5_isSame_183 ?_
        refine lv_iconst (v := 2) hx hb dX5_isSame_184 (by decide) ?_
        refine s_iald K hG.1 (t := 5) (i := (I 5 2 k 3).toNatClampNeg) (by decide) (vpi_lt hi) (show vp_in (nI 2) 6 from vp_in_nI (by decide) (by decide)) dX5_isSame_185 ?_
        rw [show (2 : Int32).toNatClampNeg = 2 from rfl]
        refine lv_goto (tgt := 190) hx hb dX5_isSame_186 (by decide) ?_
        rw [y8 nb]
        exact j8
    refine lv_icmp_ne (tgt := 140) hx hb dX5_isSame_123 (by decide) (fun h4 => ?_) (fun h4 => ?_)
    · refine lv_iconst (v := 0) hx hb dX5_isSame_140 (by decide) ?_
      rw [← n4 h4]
      exact j4
    · have hi := yv (Or.inl h4)
      refine lv_aload_n hx hb dX5_isSame_126 rfl (lv_at hl 5 rfl) ?_
      refine sg_X5_25 K hG.1 dX5_isSame_127 ?_
      refine lv_aload hx hb dX5_isSame_130 (lv_at hl 1 rfl) ?_
      refine lv_iconst (v := 3) hx hb dX5_isSame_132 (by decide) ?_
      refine s_iald K hG.1 (t := 2) (i := k) (by decide) (by rw [c2]; exact hk) (show vp_in (nI 3) 8 from vp_in_nI (by decide) (by decide)) dX5_isSame_133 ?_
      rw [show (3 : Int32).toNatClampNeg = 3 from rfl]
      refine s_aald K hG.1 (t := 5) (by decide) hi dX5_isSame_134 ?_
      refine lv_iconst (v := 1) hx hb dX5_isSame_135 (by decide) ?_
      refine s_iald K hG.1 (t := 5) (i := (I 5 2 k 3).toNatClampNeg) (by decide) (vpi_lt hi) (show vp_in (nI 1) 6 from vp_in_nI (by decide) (by decide)) dX5_isSame_136 ?_
      rw [show (1 : Int32).toNatClampNeg = 1 from rfl]
      refine lv_goto (tgt := 141) hx hb dX5_isSame_137 (by decide) ?_
      rw [y4 h4]
      exact j4
  refine lv_icmp_eq (tgt := 73) hx hb dX5_isSame_62 (by decide) (fun h1 => ?_) (fun h1 => ?_)
  · refine lv_iconst (v := 1) hx hb dX5_isSame_73 (by decide) ?_
    refine lv_goto (tgt := 78) hx hb dX5_isSame_74 (by decide) ?_
    exact j6 1 (Or.inl ⟨rfl, Or.inl h1⟩)
  · refine lv_aload hx hb dX5_isSame_65 (lv_at hl 0 rfl) ?_
    refine lv_iconst (v := 2) hx hb dX5_isSame_67 (by decide) ?_
    refine s_iald K hG.1 (t := 2) (i := k) (by decide) (by rw [c2]; exact hk) (show vp_in (nI 2) 8 from vp_in_nI (by decide) (by decide)) dX5_isSame_68 ?_
    rw [show (2 : Int32).toNatClampNeg = 2 from rfl]
    refine lv_iconst (v := 2) hx hb dX5_isSame_69 (by decide) ?_
    refine lv_icmp_ne (tgt := 77) hx hb dX5_isSame_70 (by decide) (fun h2 => ?_) (fun h2 => ?_)
    · refine lv_iconst (v := 0) hx hb dX5_isSame_77 (by decide) ?_
      exact j6 0 (Or.inr ⟨rfl, fun q => q.elim h1 h2⟩)
    · refine lv_iconst (v := 1) hx hb dX5_isSame_73 (by decide) ?_
      refine lv_goto (tgt := 78) hx hb dX5_isSame_74 (by decide) ?_
      exact j6 1 (Or.inl ⟨rfl, Or.inr h2⟩)
variable {CB : Nat → Nat → Prop}
set_option maxHeartbeats 4000000 in
set_option maxRecDepth 100000 in
theorem sm_lads (X : eX p l s m c E F I args) {F' : Nat → Prop} {a9 : Nat} {f : Nat → Int32} {bz : Int32} (hF : ∀ q, F' q → gN E ≤ q) (hk : k < a) (a6 : a ≤ 6) (ha : I 0 0 0 4 = nI a) (hf : ∀ w, w < 9 → f w = f_X1_tell I 0 k (nI w))
    (kk : ∀ (H : Heap) (locs : List Loc) (cells slots : Nat) (ls : Array Slot), cells ≤ 400 → slots ≤ 2400 → LV E F' J D I [(a9, 9, f)] H → va_S (gH E) s.heap H locs → lv_has ls 9 [(7, .ref a9), (6, .int bz), (5, .ref (D 2 k)), (4, .int (nI k)), (3, .int t), (2, .ref rc), (0, .ref (D 0 0)), (1, .ref (gA E 2 10 0))] → CB cells slots → W p l e eRm s m args below meth c H locs (cells) (slots) Q (F0 m 227 ls [])) :
    ∀ (r i : Nat) (H : Heap) (locs : List Loc) (cells slots : Nat) (ls : Array Slot), i + r = 9 → cells + 2 * r ≤ 400 → slots + 12 * r ≤ 2400 → CB (cells + 2 * r) (slots + 12 * r) → LV E F' J D I [(a9, 9, f)] H → va_S (gH E) s.heap H locs → lv_has ls 9 [(8, .int (nI i)), (7, .ref a9), (6, .int bz), (5, .ref (D 2 k)), (4, .int (nI k)), (3, .int t), (2, .ref rc), (0, .ref (D 0 0)), (1, .ref (gA E 2 10 0))] → W p l e eRm s m args below meth c H locs (cells) (slots) Q (F0 m 196 ls []) := by
  obtain ⟨K, hAO, hml, hfl, hA, hw0⟩ := id X
  have hx := K.1
  have hb := K.2.1
  have hts := K.2.2.1
  have hown := K.2.2.2.1
  have hSt := K.2.2.2.2
  intro r
  induction r with
  | zero =>
    intro i H locs cells slots ls hi hc hs hB hG hS hl
    refine lv_iload hx hb dX5_isSame_196 (lv_at hl 0 rfl) ?_
    refine lv_bipush (v := 9) hx hb dX5_isSame_198 (by decide) ?_
    refine lv_icmp_ge (tgt := 227) hx hb dX5_isSame_200 (by decide) (fun _ => ?_) (fun h => absurd (show (9 : Int32) ≤ nI i by rw [show i = 9 by omega]; decide) h)
    exact kk H locs cells slots ls hc hs hG hS (lv_sub hl [1, 2, 3, 4, 5, 6, 7, 8] rfl) hB
  | succ r ih =>
    intro i H locs cells slots ls hi hc hs hB hG hS hl
    refine lv_iload hx hb dX5_isSame_196 (lv_at hl 0 rfl) ?_
    refine lv_bipush (v := 9) hx hb dX5_isSame_198 (by decide) ?_
    refine lv_icmp_ge (tgt := 227) hx hb dX5_isSame_200 (by decide) (fun h => absurd h (nI_ge (b := 9) (by omega) (by decide))) (fun _ => ?_)
    refine lv_aload_n hx hb dX5_isSame_203 rfl (lv_at hl 8 rfl) ?_
    refine lv_iload hx hb dX5_isSame_204 (lv_at hl 4 rfl) ?_
    refine lv_iload hx hb dX5_isSame_206 (lv_at hl 0 rfl) ?_
    obtain ⟨x0, xv⟩ := zA_lad (I := I) (w := i) ha hk a6 (show i < 9 by omega)
    refine v_kn hG (l_runVX (As := [.int (nI k), .int (nI i)]) (rest := []) K hml ca_X4_lad q561 (m_X4_lad l E J I (nI k) (nI i) hw0 hfl) hG.1.1 hS rfl rfl hl.1 (Nat.le_of_ble_eq_true rfl) ⟨by decide, by decide⟩ dX5_isSame_208 ⟨by show cells + 2 ≤ 400; omega, by show slots + 6 * 2 ≤ 2400; omega⟩) hS rfl x0 (fun H locs hG hS => ?_)
    rw [xv]
    refine lv_aload hx hb dX5_isSame_211 (lv_at hl 1 rfl) ?_
    refine lv_iload hx hb dX5_isSame_213 (lv_at hl 0 rfl) ?_
    refine v_iald K hG (x := (a9, 9, f)) List.mem_cons_self (show vp_in (nI i) 9 from vp_in_nI (show i < 9 by omega) (by decide)) dX5_isSame_215 ?_
    rw [nI_clamp (show i < 2 ^ 31 by omega)]
    refine lv_icmp_eq (tgt := 221) hx hb dX5_isSame_216 (by decide) (fun _ => ?_) (fun h => absurd (hf i (by omega)).symm h)
    refine lv_iinc (v := nI (i + 1)) (lv' := [(8, .int (nI (i + 1))), (7, .ref a9), (6, .int bz), (5, .ref (D 2 k)), (4, .int (nI k)), (3, .int t), (2, .ref rc), (0, .ref (D 0 0)), (1, .ref (gA E 2 10 0))]) hx hb dX5_isSame_221 hl (k := 0) rfl (nI_add i 1) (by decide) rfl (fun ls hl => ?_)
    refine lv_goto (tgt := 196) hx hb dX5_isSame_224 (by decide) ?_
    exact ih (i + 1) H locs _ _ ls (by omega) (by omega) (by omega) (by rw [show cells + 2 + 2 * r = cells + 2 * (r + 1) by omega, show slots + 6 * 2 + 12 * r = slots + 12 * (r + 1) by omega]; exact hB) hG hS (lv_sub hl [0, 1, 2, 3, 4, 5, 6, 7, 8] rfl)
set_option maxHeartbeats 4000000 in
set_option maxRecDepth 100000 in
theorem sm_loads (X : eX p l s m c E F I args) {F' : Nat → Prop} {a9 : Nat} {f : Nat → Int32} {bz : Int32} (hF : ∀ q, F' q → gN E ≤ q) (hk : k < b) (a6 : b ≤ 10) (ha : I 0 0 0 5 = nI b) (hf : ∀ w, w < 7 → f w = f_X2_tell I 0 k (nI w))
    (kk : ∀ (H : Heap) (locs : List Loc) (cells slots : Nat) (ls : Array Slot), cells ≤ 400 → slots ≤ 2400 → LV E F' J D I [(a9, 7, f)] H → va_S (gH E) s.heap H locs → lv_has ls 9 [(6, .ref a9), (5, .ref (D 4 k)), (4, .int (nI k)), (3, .int t), (2, .ref rc), (0, .ref (D 0 0)), (1, .ref (gA E 2 10 0))] → CB cells slots → W p l e eRm s m args below meth c H locs (cells) (slots) Q (F0 m 451 ls [])) :
    ∀ (r i : Nat) (H : Heap) (locs : List Loc) (cells slots : Nat) (ls : Array Slot), i + r = 7 → cells + 2 * r ≤ 400 → slots + 12 * r ≤ 2400 → CB (cells + 2 * r) (slots + 12 * r) → LV E F' J D I [(a9, 7, f)] H → va_S (gH E) s.heap H locs → lv_has ls 9 [(7, .int (nI i)), (6, .ref a9), (5, .ref (D 4 k)), (4, .int (nI k)), (3, .int t), (2, .ref rc), (0, .ref (D 0 0)), (1, .ref (gA E 2 10 0))] → W p l e eRm s m args below meth c H locs (cells) (slots) Q (F0 m 420 ls []) := by
  obtain ⟨K, hAO, hml, hfl, hA, hw0⟩ := id X
  have hx := K.1
  have hb := K.2.1
  have hts := K.2.2.1
  have hown := K.2.2.2.1
  have hSt := K.2.2.2.2
  intro r
  induction r with
  | zero =>
    intro i H locs cells slots ls hi hc hs hB hG hS hl
    refine lv_iload hx hb dX5_isSame_420 (lv_at hl 0 rfl) ?_
    refine lv_bipush (v := 7) hx hb dX5_isSame_422 (by decide) ?_
    refine lv_icmp_ge (tgt := 451) hx hb dX5_isSame_424 (by decide) (fun _ => ?_) (fun h => absurd (show (7 : Int32) ≤ nI i by rw [show i = 7 by omega]; decide) h)
    exact kk H locs cells slots ls hc hs hG hS (lv_sub hl [1, 2, 3, 4, 5, 6, 7] rfl) hB
  | succ r ih =>
    intro i H locs cells slots ls hi hc hs hB hG hS hl
    refine lv_iload hx hb dX5_isSame_420 (lv_at hl 0 rfl) ?_
    refine lv_bipush (v := 7) hx hb dX5_isSame_422 (by decide) ?_
    refine lv_icmp_ge (tgt := 451) hx hb dX5_isSame_424 (by decide) (fun h => absurd h (nI_ge (b := 7) (by omega) (by decide))) (fun _ => ?_)
    refine lv_aload_n hx hb dX5_isSame_427 rfl (lv_at hl 7 rfl) ?_
    refine lv_iload hx hb dX5_isSame_428 (lv_at hl 3 rfl) ?_
    refine lv_iload hx hb dX5_isSame_430 (lv_at hl 0 rfl) ?_
    obtain ⟨x0, xv⟩ := zA_load (I := I) (w := i) ha hk a6 (show i < 7 by omega)
    refine v_kn hG (l_runVX (As := [.int (nI k), .int (nI i)]) (rest := []) K hml ca_X4_load q572 (m_X4_load l E J I (nI k) (nI i) hw0 hfl) hG.1.1 hS rfl rfl hl.1 (Nat.le_of_ble_eq_true rfl) ⟨by decide, by decide⟩ dX5_isSame_432 ⟨by show cells + 2 ≤ 400; omega, by show slots + 6 * 2 ≤ 2400; omega⟩) hS rfl x0 (fun H locs hG hS => ?_)
    rw [xv]
    refine lv_aload hx hb dX5_isSame_435 (lv_at hl 1 rfl) ?_
    refine lv_iload hx hb dX5_isSame_437 (lv_at hl 0 rfl) ?_
    refine v_iald K hG (x := (a9, 7, f)) List.mem_cons_self (show vp_in (nI i) 7 from vp_in_nI (show i < 7 by omega) (by decide)) dX5_isSame_439 ?_
    rw [nI_clamp (show i < 2 ^ 31 by omega)]
    refine lv_icmp_eq (tgt := 445) hx hb dX5_isSame_440 (by decide) (fun _ => ?_) (fun h => absurd (hf i (by omega)).symm h)
    refine lv_iinc (v := nI (i + 1)) (lv' := [(7, .int (nI (i + 1))), (6, .ref a9), (5, .ref (D 4 k)), (4, .int (nI k)), (3, .int t), (2, .ref rc), (0, .ref (D 0 0)), (1, .ref (gA E 2 10 0))]) hx hb dX5_isSame_445 hl (k := 0) rfl (nI_add i 1) (by decide) rfl (fun ls hl => ?_)
    refine lv_goto (tgt := 420) hx hb dX5_isSame_448 (by decide) ?_
    exact ih (i + 1) H locs _ _ ls (by omega) (by omega) (by omega) (by rw [show cells + 2 + 2 * r = cells + 2 * (r + 1) by omega, show slots + 6 * 2 + 12 * r = slots + 12 * (r + 1) by omega]; exact hB) hG hS (lv_sub hl [0, 1, 2, 3, 4, 5, 6, 7] rfl)
set_option maxHeartbeats 4000000 in
set_option maxRecDepth 100000 in
theorem sm_told2 (X : eX p l s m c E F I args) {H : Heap} {locs : List Loc} {cells slots : Nat} {ls : Array Slot} (hk : k < b) (b10 : b ≤ 10) (c4 : cnt (I 5) 4 = b) (hJ : jLoad I k) (hG : LV E F J D I [] H) (hS : va_S (gH E) s.heap H locs) (hl : lv_has ls 9 [(4, .int (nI k)), (3, .int t), (2, .ref rc), (0, .ref (D 0 0)), (1, .ref (gA E 2 10 0))]) (hc : cells + 1 ≤ 400) (hs : slots + 7 ≤ 2400)
    (kk : ∀ (a9 : Nat) (f : Nat → Int32) (H : Heap) (locs : List Loc) (ls : Array Slot), (∀ w, w < 7 → f w = f_X2_tell I 0 k (nI w)) → LV E (fun q => F q ∧ q ≠ a9) J D I [(a9, 7, f)] H → va_S (gH E) s.heap H locs → lv_has ls 9 [(6, .ref a9), (5, .ref (D 4 k)), (4, .int (nI k)), (3, .int t), (2, .ref rc), (0, .ref (D 0 0)), (1, .ref (gA E 2 10 0))] → W p l e eRm s m args below meth c H locs (cells + 1) (slots + 7) Q (F0 m 417 ls [])) : W p l e eRm s m args below meth c H locs (cells) (slots) Q (F0 m 337 ls []) := by
  obtain ⟨K, hAO, hml, hfl, hA, hw0⟩ := id X
  have hx := K.1
  have hb := K.2.1
  have hts := K.2.2.1
  have hown := K.2.2.2.1
  have hSt := K.2.2.2.2
  obtain ⟨v0, y1, n1, v2, o2, v3, v4, v5, v6, o6⟩ := hJ
  have hA9 : ∀ a9 q, F q ∧ q ≠ a9 → gN E ≤ q := fun _ q h => hA q h.1
  refine lv_aload_n hx hb dX5_isSame_337 rfl (lv_at hl 3 rfl) ?_
  refine sg_X5_22 K hG.1 dX5_isSame_338 ?_
  refine lv_iload hx hb dX5_isSame_341 (lv_at hl 0 rfl) ?_
  refine s_aald K hG.1 (t := 4) (by decide) (by rw [c4]; exact vp_in_nI hk (by omega)) dX5_isSame_343 ?_
  rw [nI_clamp (show k < 2 ^ 31 by omega)]
  refine lv_astore (lv' := [(5, .ref (D 4 k)), (4, .int (nI k)), (3, .int t), (2, .ref rc), (0, .ref (D 0 0)), (1, .ref (gA E 2 10 0))]) hx hb dX5_isSame_344 hl (by decide) rfl (fun ls hl => ?_)
  refine lv_bipush (v := 7) hx hb dX5_isSame_346 (by decide) ?_
  refine v_newi K hA hG hS (N := 7) rfl (by decide) hc hs dX5_isSame_348 (fun a9 H hG hS => ?_)
  refine lv_dup hx hb dX5_isSame_350 rfl ?_
  refine lv_iconst (v := 0) hx hb dX5_isSame_351 (by decide) ?_
  refine lv_aload hx hb dX5_isSame_352 (lv_at hl 0 rfl) ?_
  refine lv_iconst (v := 0) hx hb dX5_isSame_354 (by decide) ?_
  refine s_iald K hG.1 (t := 4) (i := k) (by decide) (by rw [c4]; exact hk) (show vp_in (nI 0) 6 from vp_in_nI (by decide) (by decide)) dX5_isSame_355 ?_
  rw [show (0 : Int32).toNatClampNeg = 0 from rfl]
  refine v_iast K hG hS (show vp_in (nI 0) 7 from vp_in_nI (by decide) (by decide)) dX5_isSame_356 (fun H locs hG hS => ?_)
  rw [show (0 : Int32).toNatClampNeg = 0 from rfl] at hG
  refine lv_dup hx hb dX5_isSame_357 rfl ?_
  refine lv_iconst (v := 1) hx hb dX5_isSame_358 (by decide) ?_
  refine lv_aload hx hb dX5_isSame_359 (lv_at hl 0 rfl) ?_
  refine lv_iconst (v := 3) hx hb dX5_isSame_361 (by decide) ?_
  refine s_iald K hG.1 (t := 4) (i := k) (by decide) (by rw [c4]; exact hk) (show vp_in (nI 3) 6 from vp_in_nI (by decide) (by decide)) dX5_isSame_362 ?_
  rw [show (3 : Int32).toNatClampNeg = 3 from rfl]
  have j1 : W p l e eRm s m args below meth c H locs (cells + 1) (slots + 7) Q (F0 m 374 ls [.int (f_X2_tell I 0 k 1), .int 1, .ref a9, .ref a9]) := by
    refine v_iast K hG hS (show vp_in (nI 1) 7 from vp_in_nI (by decide) (by decide)) dX5_isSame_374 (fun H locs hG hS => ?_)
    rw [show (1 : Int32).toNatClampNeg = 1 from rfl] at hG
    refine lv_dup hx hb dX5_isSame_375 rfl ?_
    refine lv_iconst (v := 2) hx hb dX5_isSame_376 (by decide) ?_
    refine lv_aload_n hx hb dX5_isSame_377 rfl (lv_at hl 4 rfl) ?_
    refine lv_iload hx hb dX5_isSame_378 (lv_at hl 1 rfl) ?_
    refine v_si (hA9 a9) hG (s_runV (As := [.int (nI k)]) (rest := [.int 2, .ref a9, .ref a9]) K hAO gH_ge hml ca_X5_made q568 (m_S_made l E (fun q => F q ∧ q ≠ a9) J D I (nI k) (hA9 a9) o2) hG.1 hG.1 hS rfl rfl hl.1 (Nat.le_of_ble_eq_true rfl) ⟨by decide, by decide⟩ dX5_isSame_380 ⟨by show cells + 1 + 0 ≤ 400; omega, by show slots + 7 + 0 ≤ 2400; omega⟩) hS (fun H locs hG hS => ?_)
    refine v_iast K hG hS (show vp_in (nI 2) 7 from vp_in_nI (by decide) (by decide)) dX5_isSame_383 (fun H locs hG hS => ?_)
    rw [show (2 : Int32).toNatClampNeg = 2 from rfl] at hG
    refine lv_dup hx hb dX5_isSame_384 rfl ?_
    refine lv_iconst (v := 3) hx hb dX5_isSame_385 (by decide) ?_
    refine lv_aload hx hb dX5_isSame_386 (lv_at hl 0 rfl) ?_
    refine lv_iconst (v := 4) hx hb dX5_isSame_388 (by decide) ?_
    refine s_iald K hG.1 (t := 4) (i := k) (by decide) (by rw [c4]; exact hk) (show vp_in (nI 4) 6 from vp_in_nI (by decide) (by decide)) dX5_isSame_389 ?_
    rw [show (4 : Int32).toNatClampNeg = 4 from rfl]
    refine v_iast K hG hS (show vp_in (nI 3) 7 from vp_in_nI (by decide) (by decide)) dX5_isSame_390 (fun H locs hG hS => ?_)
    rw [show (3 : Int32).toNatClampNeg = 3 from rfl] at hG
    refine lv_dup hx hb dX5_isSame_391 rfl ?_
    refine lv_iconst (v := 4) hx hb dX5_isSame_392 (by decide) ?_
    refine lv_aload hx hb dX5_isSame_393 (lv_at hl 0 rfl) ?_
    refine lv_iconst (v := 2) hx hb dX5_isSame_395 (by decide) ?_
    refine s_iald K hG.1 (t := 4) (i := k) (by decide) (by rw [c4]; exact hk) (show vp_in (nI 2) 6 from vp_in_nI (by decide) (by decide)) dX5_isSame_396 ?_
    rw [show (2 : Int32).toNatClampNeg = 2 from rfl]
    refine v_iast K hG hS (show vp_in (nI 4) 7 from vp_in_nI (by decide) (by decide)) dX5_isSame_397 (fun H locs hG hS => ?_)
    rw [show (4 : Int32).toNatClampNeg = 4 from rfl] at hG
    refine lv_dup hx hb dX5_isSame_398 rfl ?_
    refine lv_iconst (v := 5) hx hb dX5_isSame_399 (by decide) ?_
    refine lv_aload hx hb dX5_isSame_400 (lv_at hl 0 rfl) ?_
    refine lv_iconst (v := 3) hx hb dX5_isSame_402 (by decide) ?_
    refine s_iald K hG.1 (t := 4) (i := k) (by decide) (by rw [c4]; exact hk) (show vp_in (nI 3) 6 from vp_in_nI (by decide) (by decide)) dX5_isSame_403 ?_
    rw [show (3 : Int32).toNatClampNeg = 3 from rfl]
    refine v_iast K hG hS (show vp_in (nI 5) 7 from vp_in_nI (by decide) (by decide)) dX5_isSame_404 (fun H locs hG hS => ?_)
    rw [show (5 : Int32).toNatClampNeg = 5 from rfl] at hG
    refine lv_dup hx hb dX5_isSame_405 rfl ?_
    refine lv_bipush (v := 6) hx hb dX5_isSame_406 (by decide) ?_
    refine lv_aload_n hx hb dX5_isSame_408 rfl (lv_at hl 4 rfl) ?_
    refine lv_iload hx hb dX5_isSame_409 (lv_at hl 1 rfl) ?_
    refine v_si (hA9 a9) hG (s_runV (As := [.int (nI k)]) (rest := [.int 6, .ref a9, .ref a9]) K hAO gH_ge hml ca_X5_pitched q520 (m_S_pitched l E (fun q => F q ∧ q ≠ a9) J D I (nI k) (hA9 a9) o6) hG.1 hG.1 hS rfl rfl hl.1 (Nat.le_of_ble_eq_true rfl) ⟨by decide, by decide⟩ dX5_isSame_411 ⟨by show cells + 1 + 0 ≤ 400; omega, by show slots + 7 + 0 ≤ 2400; omega⟩) hS (fun H locs hG hS => ?_)
    refine v_iast K hG hS (show vp_in (nI 6) 7 from vp_in_nI (by decide) (by decide)) dX5_isSame_414 (fun H locs hG hS => ?_)
    rw [show (6 : Int32).toNatClampNeg = 6 from rfl] at hG
    refine lv_astore (lv' := [(6, .ref a9), (5, .ref (D 4 k)), (4, .int (nI k)), (3, .int t), (2, .ref rc), (0, .ref (D 0 0)), (1, .ref (gA E 2 10 0))]) hx hb dX5_isSame_415 hl (by decide) rfl (fun ls hl => ?_)
    refine kk a9 _ H locs ls (fun q hq => ?_) hG hS hl
    rcases (show q = 0 ∨ q = 1 ∨ q = 2 ∨ q = 3 ∨ q = 4 ∨ q = 5 ∨ q = 6 by omega) with e | e | e | e | e | e | e <;> subst e
    · exact v0
    · exact (rfl : f_X2_tell I 0 k 1 = f_X2_tell I 0 k 1)
    · exact v2
    · exact v3
    · exact v4
    · exact v5
    · exact v6
  refine lv_if_lt (tgt := 370) hx hb dX5_isSame_363 (by decide) (fun h1 => ?_) (fun h1 => ?_)
  · refine lv_aload hx hb dX5_isSame_370 (lv_at hl 0 rfl) ?_
    refine lv_iconst (v := 5) hx hb dX5_isSame_372 (by decide) ?_
    refine s_iald K hG.1 (t := 4) (i := k) (by decide) (by rw [c4]; exact hk) (show vp_in (nI 5) 6 from vp_in_nI (by decide) (by decide)) dX5_isSame_373 ?_
    rw [show (5 : Int32).toNatClampNeg = 5 from rfl]
    rw [n1 h1]
    exact j1
  · refine lv_iconst (v := 2) hx hb dX5_isSame_366 (by decide) ?_
    refine lv_goto (tgt := 374) hx hb dX5_isSame_367 (by decide) ?_
    rw [show (2 : Int32) = f_X2_tell I 0 k 1 from (y1 (Int32.not_lt.mp h1)).symm]
    exact j1
set_option maxHeartbeats 4000000 in
set_option maxRecDepth 100000 in
theorem sm_cart (X : eX p l s m c E F I args) {F' : Nat → Prop} {O : List oR} {a9 : Nat} {bz : Int32} (hk : k < a) (a6 : a ≤ 6) (c3 : cnt (I 5) 3 = a) (hJ : jLad I k)
    (kk : ∀ (H : Heap) (locs : List Loc) (cells slots : Nat) (ls : Array Slot), cells ≤ 400 → slots ≤ 2400 → LV E F' J D I O H → va_S (gH E) s.heap H locs → lv_has ls 9 [(7, .ref a9), (6, .int bz), (5, .ref (D 2 k)), (4, .int (nI k)), (3, .int t), (2, .ref rc), (0, .ref (D 0 0)), (1, .ref (gA E 2 10 0))] → CB cells slots → W p l e eRm s m args below meth c H locs (cells) (slots) Q (F0 m 279 ls [])) :
    ∀ (r i : Nat) (H : Heap) (locs : List Loc) (cells slots : Nat) (ls : Array Slot), i + r = rln (I 5) 3 k → cells + 2 * r ≤ 400 → slots + 12 * r ≤ 2400 → CB (cells + 2 * r) (slots + 12 * r) → LV E F' J D I O H → va_S (gH E) s.heap H locs → lv_has ls 9 [(8, .int (nI i)), (7, .ref a9), (6, .int bz), (5, .ref (D 2 k)), (4, .int (nI k)), (3, .int t), (2, .ref rc), (0, .ref (D 0 0)), (1, .ref (gA E 2 10 0))] → W p l e eRm s m args below meth c H locs (cells) (slots) Q (F0 m 230 ls []) := by
  obtain ⟨K, hAO, hml, hfl, hA, hw0⟩ := id X
  have hx := K.1
  have hb := K.2.1
  have hts := K.2.2.1
  have hown := K.2.2.2.1
  have hSt := K.2.2.2.2
  obtain ⟨-, -, -, -, -, -, ⟨r8, hp⟩, -⟩ := hJ
  intro r
  induction r with
  | zero =>
    intro i H locs cells slots ls hi hc hs hB hG hS hl
    refine lv_iload hx hb dX5_isSame_230 (lv_at hl 0 rfl) ?_
    refine lv_aload_n hx hb dX5_isSame_232 rfl (lv_at hl 7 rfl) ?_
    refine sg_X5_19 K hG.1 dX5_isSame_233 ?_
    refine lv_iload hx hb dX5_isSame_236 (lv_at hl 4 rfl) ?_
    refine s_aald K hG.1 (t := 3) (by decide) (by rw [c3]; exact vp_in_nI hk (by omega)) dX5_isSame_238 ?_
    rw [nI_clamp (show k < 2 ^ 31 by omega)]
    refine s_alen K hG.1 (t := 3) (i := k) (v := nI (rln (I 5) 3 k)) (by decide) (by rw [c3]; exact hk) rfl dX5_isSame_239 ?_
    refine lv_icmp_ge (tgt := 279) hx hb dX5_isSame_240 (by decide) (fun _ => ?_) (fun h => absurd (nI_le (show rln (I 5) 3 k ≤ i by omega) (by omega)) h)
    exact kk H locs cells slots ls hc hs hG hS (lv_sub hl [1, 2, 3, 4, 5, 6, 7, 8] rfl) hB
  | succ r ih =>
    intro i H locs cells slots ls hi hc hs hB hG hS hl
    refine lv_iload hx hb dX5_isSame_230 (lv_at hl 0 rfl) ?_
    refine lv_aload_n hx hb dX5_isSame_232 rfl (lv_at hl 7 rfl) ?_
    refine sg_X5_19 K hG.1 dX5_isSame_233 ?_
    refine lv_iload hx hb dX5_isSame_236 (lv_at hl 4 rfl) ?_
    refine s_aald K hG.1 (t := 3) (by decide) (by rw [c3]; exact vp_in_nI hk (by omega)) dX5_isSame_238 ?_
    rw [nI_clamp (show k < 2 ^ 31 by omega)]
    refine s_alen K hG.1 (t := 3) (i := k) (v := nI (rln (I 5) 3 k)) (by decide) (by rw [c3]; exact hk) rfl dX5_isSame_239 ?_
    refine lv_icmp_ge (tgt := 279) hx hb dX5_isSame_240 (by decide) (fun h => absurd h (nI_ge (by omega) (by omega))) (fun _ => ?_)
    refine lv_aload_n hx hb dX5_isSame_243 rfl (lv_at hl 8 rfl) ?_
    refine lv_iload hx hb dX5_isSame_244 (lv_at hl 4 rfl) ?_
    refine lv_iload hx hb dX5_isSame_246 (lv_at hl 0 rfl) ?_
    obtain ⟨x0, xv, xi⟩ := hp i (by omega)
    refine v_kn hG (l_runVX (As := [.int (nI k), .int (nI i)]) (rest := []) K hml ca_X4_cart q562 (m_X4_cart l E J I (nI k) (nI i) hw0 hfl) hG.1.1 hS rfl rfl hl.1 (Nat.le_of_ble_eq_true rfl) ⟨by decide, by decide⟩ dX5_isSame_248 ⟨by show cells + 2 ≤ 400; omega, by show slots + 6 * 2 ≤ 2400; omega⟩) hS rfl x0 (fun H locs hG hS => ?_)
    rw [xv]
    refine lv_aload_n hx hb dX5_isSame_251 rfl (lv_at hl 7 rfl) ?_
    refine sg_X5_25 K hG.1 dX5_isSame_252 ?_
    refine lv_aload_n hx hb dX5_isSame_255 rfl (lv_at hl 7 rfl) ?_
    refine sg_X5_19 K hG.1 dX5_isSame_256 ?_
    refine lv_iload hx hb dX5_isSame_259 (lv_at hl 4 rfl) ?_
    refine s_aald K hG.1 (t := 3) (by decide) (by rw [c3]; exact vp_in_nI hk (by omega)) dX5_isSame_261 ?_
    rw [nI_clamp (show k < 2 ^ 31 by omega)]
    refine lv_iload hx hb dX5_isSame_262 (lv_at hl 0 rfl) ?_
    refine s_iald K hG.1 (t := 3) (i := k) (by decide) (by rw [c3]; exact hk) (vp_in_nI (by omega) (by omega)) dX5_isSame_264 ?_
    rw [nI_clamp (show i < 2 ^ 31 by omega)]
    refine s_aald K hG.1 (t := 5) (by decide) xi dX5_isSame_265 ?_
    refine lv_iconst (v := 0) hx hb dX5_isSame_266 (by decide) ?_
    refine s_iald K hG.1 (t := 5) (i := (I 5 3 k i).toNatClampNeg) (by decide) (vpi_lt xi) (show vp_in (nI 0) 6 from vp_in_nI (by decide) (by decide)) dX5_isSame_267 ?_
    rw [show (0 : Int32).toNatClampNeg = 0 from rfl]
    refine lv_icmp_eq (tgt := 273) hx hb dX5_isSame_268 (by decide) (fun _ => ?_) (fun h => absurd rfl h)
    refine lv_iinc (v := nI (i + 1)) (lv' := [(8, .int (nI (i + 1))), (7, .ref a9), (6, .int bz), (5, .ref (D 2 k)), (4, .int (nI k)), (3, .int t), (2, .ref rc), (0, .ref (D 0 0)), (1, .ref (gA E 2 10 0))]) hx hb dX5_isSame_273 hl (k := 0) rfl (nI_add i 1) (by decide) rfl (fun ls hl => ?_)
    refine lv_goto (tgt := 230) hx hb dX5_isSame_276 (by decide) ?_
    exact ih (i + 1) H locs _ _ ls (by omega) (by omega) (by omega) (by rw [show cells + 2 + 2 * r = cells + 2 * (r + 1) by omega, show slots + 6 * 2 + 12 * r = slots + 12 * (r + 1) by omega]; exact hB) hG hS (lv_sub hl [0, 1, 2, 3, 4, 5, 6, 7, 8] rfl)
end SS
